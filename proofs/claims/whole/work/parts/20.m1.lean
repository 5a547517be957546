/-! the reference: small methods -/
abbrev Po : Type := Option Value → Hp → Prop
theorem C_in {L : Nat} {xs : Nat → Int32} (d : Nat) (g : Nat → Nat → Nat) (hl : Nat → Nat → Int64) (rf : Nat → Nat → Option Nat) (v lo hi : Int32) {Q : Po} (hq : Q (some (.int (nI (bn (decide (lo ≤ v) && decide (v ≤ hi)))))) (HN g hl rf)) : Ev L xs d 126 0 [(0, .ref 166), (1, .int (v)), (2, .int (lo)), (3, .int (hi))] [] (HN g hl rf) Q := by
  refine Ev.run 3 (pc' := (if v < lo then 14 else 5)) (lv' := [(0, .ref 166), (1, .int (v)), (2, .int (lo)), (3, .int (hi))]) (st' := []) (h' := HN g hl rf) rfl ?_
  refine Ev.ite (fun hc1 => ?_) (fun hc1 => ?_)
  · skip
    refine Ev.run 1 (pc' := 15) (lv' := [(0, .ref 166), (1, .int (v)), (2, .int (lo)), (3, .int (hi))]) (st' := [.int (nI 0)]) (h' := HN g hl rf) rfl ?_
    refine Ev.ret (v := some (.int (nI 0))) rfl ?_
    first | (rw [decide_eq_false (Int32.not_le.mpr hc1)] at hq; exact hq) | (rw [decide_eq_false (Int32.not_le.mpr hc2), Bool.and_false] at hq; exact hq) | (rw [decide_eq_true (Int32.not_lt.mp hc1), decide_eq_true (Int32.not_lt.mp hc2)] at hq; exact hq)
  · skip
    refine Ev.run 3 (pc' := (if hi < v then 14 else 10)) (lv' := [(0, .ref 166), (1, .int (v)), (2, .int (lo)), (3, .int (hi))]) (st' := []) (h' := HN g hl rf) rfl ?_
    refine Ev.ite (fun hc2 => ?_) (fun hc2 => ?_)
    · skip
      refine Ev.run 1 (pc' := 15) (lv' := [(0, .ref 166), (1, .int (v)), (2, .int (lo)), (3, .int (hi))]) (st' := [.int (nI 0)]) (h' := HN g hl rf) rfl ?_
      refine Ev.ret (v := some (.int (nI 0))) rfl ?_
      first | (rw [decide_eq_false (Int32.not_le.mpr hc1)] at hq; exact hq) | (rw [decide_eq_false (Int32.not_le.mpr hc2), Bool.and_false] at hq; exact hq) | (rw [decide_eq_true (Int32.not_lt.mp hc1), decide_eq_true (Int32.not_lt.mp hc2)] at hq; exact hq)
    · skip
      refine Ev.run 2 (pc' := 15) (lv' := [(0, .ref 166), (1, .int (v)), (2, .int (lo)), (3, .int (hi))]) (st' := [.int (nI 1)]) (h' := HN g hl rf) rfl ?_
      refine Ev.ret (v := some (.int (nI 1))) rfl ?_
      first | (rw [decide_eq_false (Int32.not_le.mpr hc1)] at hq; exact hq) | (rw [decide_eq_false (Int32.not_le.mpr hc2), Bool.and_false] at hq; exact hq) | (rw [decide_eq_true (Int32.not_lt.mp hc1), decide_eq_true (Int32.not_lt.mp hc2)] at hq; exact hq)
theorem C_isIn {L : Nat} {xs : Nat → Int32} (d : Nat) (g : Nat → Nat → Nat) (hl : Nat → Nat → Int64) (rf : Nat → Nat → Option Nat) (s k : Nat) (hs : s < 2 ^ 31) (hk : k < 32) {Q : Po} (hq : Q (some (.int (nI (bn (s.testBit k))))) (HN g hl rf)) : Ev L xs d 127 0 [(0, .ref 166), (1, .int (nI s)), (2, .int (nI k))] [] (HN g hl rf) Q := by
  have hand : (s >>> k) &&& 1 < 2 := by rw [Nat.and_one_is_mod]; omega
  have hsh : s >>> k < 2 ^ 31 := Nat.lt_of_le_of_lt (Nat.shiftRight_le s k) hs
  have e := Nat.testBit_eq_decide_div_mod_eq (x := s) (i := k)
  refine Ev.run 3 (pc' := 3) (lv' := [(0, .ref 166), (1, .int (nI s)), (2, .int (nI k))]) (st' := [.int (nI s >>> (nI k &&& 31))]) (h' := HN g hl rf) rfl ?_
  refine Ev.topI (nI_shr (by omega) (by omega)) ?_
  refine Ev.run 2 (pc' := 5) (lv' := [(0, .ref 166), (1, .int (nI s)), (2, .int (nI k))]) (st' := [.int (nI (s >>> k) &&& nI 1)]) (h' := HN g hl rf) rfl ?_
  refine Ev.topI (nI_and (by omega) (by omega)) ?_
  refine Ev.run 2 (pc' := (if nI ((s >>> k) &&& 1) = nI 1 then 9 else 13)) (lv' := [(0, .ref 166), (1, .int (nI s)), (2, .int (nI k))]) (st' := []) (h' := HN g hl rf) rfl ?_
  refine Ev.ite (fun hc1 => ?_) (fun hc1 => ?_)
  · have hc1 : ((s >>> k) &&& 1) = 1 := (nI_eq (by omega) (by omega)).mp hc1
    refine Ev.run 2 (pc' := 14) (lv' := [(0, .ref 166), (1, .int (nI s)), (2, .int (nI k))]) (st' := [.int (nI 1)]) (h' := HN g hl rf) rfl ?_
    refine Ev.ret (v := some (.int (nI 1))) rfl ?_
    simp only [Nat.and_one_is_mod, Nat.shiftRight_eq_div_pow] at hc1
    simp only [e, hc1, decide_true, decide_false] at hq
    exact hq
  · have hc1 : ¬ (((s >>> k) &&& 1) = 1) := fun z => hc1 ((nI_eq (by omega) (by omega)).mpr z)
    refine Ev.run 1 (pc' := 14) (lv' := [(0, .ref 166), (1, .int (nI s)), (2, .int (nI k))]) (st' := [.int (nI 0)]) (h' := HN g hl rf) rfl ?_
    refine Ev.ret (v := some (.int (nI 0))) rfl ?_
    simp only [Nat.and_one_is_mod, Nat.shiftRight_eq_div_pow] at hc1
    simp only [e, hc1, decide_true, decide_false] at hq
    exact hq
theorem in0 {v w : Nat} (hv : v < 2 ^ 32) (hw : w < 2 ^ 31) : (decide (nI 0 ≤ nI v) && decide (nI v ≤ nI w)) = decide (v ≤ w) := by
  rw [nI_0]
  by_cases h : v < 2 ^ 31
  · rw [decide_eq_true (nI_pos' h), Bool.true_and]
    exact decide_eq_decide.mpr (nI_leI h hw)
  · have h1 : ¬ (0 : Int32) ≤ nI v := by
      rw [Int32.le_iff_toInt_le]
      have h2 : (nI v).toInt = (nI v).toBitVec.toInt := rfl
      rw [h2, BitVec.toInt_eq_toNat_cond, nI_toN, Nat.mod_eq_of_lt hv, if_neg (by omega)]
      show ¬ ((0 : Int32).toInt ≤ _)
      rw [Int32.toInt_zero]
      omega
    rw [decide_eq_false h1, Bool.false_and, decide_eq_false (by omega)]
theorem in1 {v w : Nat} (hv : v < 2 ^ 32) (hw : w < 2 ^ 31) : (decide (nI 0 ≤ nI v) && decide (nI v ≤ nI w - nI 1)) = decide (v < w) := by
  by_cases h0 : w = 0
  · subst h0
    rw [decide_eq_false (Nat.not_lt_zero v), show nI 0 - nI 1 = -1 by decide +kernel]
    by_cases h : v < 2 ^ 31
    · have h1 : ¬ nI v ≤ -1 := by
        rw [Int32.le_iff_toInt_le, nI_toInt h]
        have : (-1 : Int32).toInt = -1 := by decide +kernel
        omega
      rw [decide_eq_false h1, Bool.and_false]
    · have h1 := in0 (v := v) (w := 0) hv (by decide)
      have h2 : (decide (nI 0 ≤ nI v)) = false := by
        rw [nI_0] at h1 ⊢
        have h3 : decide (v ≤ 0) = false := decide_eq_false (by omega)
        rw [h3, Bool.and_eq_false_iff] at h1
        rcases h1 with h1 | h1
        · exact h1
        · have h4 : ¬ (0 : Int32) ≤ nI v := by
            rw [Int32.le_iff_toInt_le]
            have h2 : (nI v).toInt = (nI v).toBitVec.toInt := rfl
            rw [h2, BitVec.toInt_eq_toNat_cond, nI_toN, Nat.mod_eq_of_lt hv, if_neg (by omega)]
            rw [Int32.toInt_zero]
            omega
          exact decide_eq_false h4
      rw [h2, Bool.false_and]
  · rw [pk_sub (a := w) (b := 1) (by omega), in0 hv (by omega)]
    exact decide_eq_decide.mpr (by omega)
theorem C_isWord {L : Nat} {xs : Nat → Int32} (d : Nat) (g : Nat → Nat → Nat) (hl : Nat → Nat → Int64) (rf : Nat → Nat → Option Nat) (i : Nat) (hi : i < 2 ^ 32) (hw : g 166 0 ≤ 12) {Q : Po} (hq : Q (some (.int (nI (bn (decide (i < g 166 0)))))) (HN g hl rf)) : Ev L xs (d + 1) 130 0 [(0, .ref 166), (1, .int (nI i))] [] (HN g hl rf) Q := by
  refine Ev.run 7 (pc' := 9) (lv' := [(0, .ref 166), (1, .int (nI i))]) (st' := [.int (nI (g 166 0) - nI 1), .int (nI 0), .int (nI i), .ref 166]) (h' := HN g hl rf) rfl ?_
  refine Ev.call (a := 126) (as := [.ref 166, .int (nI i), .int (nI 0), .int (nI (g 166 0) - nI 1)]) (rest := []) (lv0 := [(0, .ref 166), (1, .int (nI i)), (2, .int (nI 0)), (3, .int (nI (g 166 0) - nI 1))]) (Q1 := (fun r h' => r = some (.int (nI (bn (decide (i < g 166 0))))) ∧ h' = HN g hl rf)) rfl rfl (C_in _ _ _ _ (nI i) (nI 0) (nI (g 166 0) - nI 1) (by rw [in1 (by omega) (by omega)]; exact ⟨rfl, rfl⟩)) (fun r h' hr => ?_)
  obtain ⟨rfl, rfl⟩ := hr
  refine Ev_bn (fun hb1 => ?_) (fun hb1 => ?_)
  · have hhb1 : i < g 166 0 := of_decide_eq_true hb1
    refine Ev.ret (v := some (.int (nI 1))) rfl ?_
    rw [hb1] at hq
    exact hq
  · have hhb1 : ¬ (i < g 166 0) := of_decide_eq_false hb1
    refine Ev.ret (v := some (.int (nI 0))) rfl ?_
    rw [hb1] at hq
    exact hq
theorem C_isPlayer {L : Nat} {xs : Nat → Int32} (d : Nat) (g : Nat → Nat → Nat) (hl : Nat → Nat → Int64) (rf : Nat → Nat → Option Nat) (i : Nat) (hi : i < 2 ^ 32) (hw : g 166 6 ≤ 5) {Q : Po} (hq : Q (some (.int (nI (bn (decide (i < g 166 6)))))) (HN g hl rf)) : Ev L xs (d + 1) 135 0 [(0, .ref 166), (1, .int (nI i))] [] (HN g hl rf) Q := by
  refine Ev.run 7 (pc' := 9) (lv' := [(0, .ref 166), (1, .int (nI i))]) (st' := [.int (nI (g 166 6) - nI 1), .int (nI 0), .int (nI i), .ref 166]) (h' := HN g hl rf) rfl ?_
  refine Ev.call (a := 126) (as := [.ref 166, .int (nI i), .int (nI 0), .int (nI (g 166 6) - nI 1)]) (rest := []) (lv0 := [(0, .ref 166), (1, .int (nI i)), (2, .int (nI 0)), (3, .int (nI (g 166 6) - nI 1))]) (Q1 := (fun r h' => r = some (.int (nI (bn (decide (i < g 166 6))))) ∧ h' = HN g hl rf)) rfl rfl (C_in _ _ _ _ (nI i) (nI 0) (nI (g 166 6) - nI 1) (by rw [in1 (by omega) (by omega)]; exact ⟨rfl, rfl⟩)) (fun r h' hr => ?_)
  obtain ⟨rfl, rfl⟩ := hr
  refine Ev_bn (fun hb1 => ?_) (fun hb1 => ?_)
  · have hhb1 : i < g 166 6 := of_decide_eq_true hb1
    refine Ev.ret (v := some (.int (nI 1))) rfl ?_
    rw [hb1] at hq
    exact hq
  · have hhb1 : ¬ (i < g 166 6) := of_decide_eq_false hb1
    refine Ev.ret (v := some (.int (nI 0))) rfl ?_
    rw [hb1] at hq
    exact hq
theorem C_isTape {L : Nat} {xs : Nat → Int32} (d : Nat) (g : Nat → Nat → Nat) (hl : Nat → Nat → Int64) (rf : Nat → Nat → Option Nat) (i : Nat) (hi : i < 2 ^ 32) {Q : Po} (hq : Q (some (.int (nI (bn (decide (i ≤ 5)))))) (HN g hl rf)) : Ev L xs (d + 1) 235 0 [(0, .ref 166), (1, .int (nI i))] [] (HN g hl rf) Q := by
  refine Ev.run 4 (pc' := 4) (lv' := [(0, .ref 166), (1, .int (nI i))]) (st' := [.int (nI 5), .int (nI 0), .int (nI i), .ref 166]) (h' := HN g hl rf) rfl ?_
  refine Ev.call (a := 126) (as := [.ref 166, .int (nI i), .int (nI 0), .int (nI 5)]) (rest := []) (lv0 := [(0, .ref 166), (1, .int (nI i)), (2, .int (nI 0)), (3, .int (nI 5))]) (Q1 := (fun r h' => r = some (.int (nI (bn (decide (i ≤ 5))))) ∧ h' = HN g hl rf)) rfl rfl (C_in _ _ _ _ (nI i) (nI 0) (nI 5) (by rw [in0 (by omega) (by omega)]; exact ⟨rfl, rfl⟩)) (fun r h' hr => ?_)
  obtain ⟨rfl, rfl⟩ := hr
  refine Ev_bn (fun hb1 => ?_) (fun hb1 => ?_)
  · have hhb1 : i ≤ 5 := of_decide_eq_true hb1
    refine Ev.ret (v := some (.int (nI 1))) rfl ?_
    rw [hb1] at hq
    exact hq
  · have hhb1 : ¬ (i ≤ 5) := of_decide_eq_false hb1
    refine Ev.ret (v := some (.int (nI 0))) rfl ?_
    rw [hb1] at hq
    exact hq
