/-! the reference: small methods -/
abbrev Po : Type := Option Value → Hp → Prop
theorem C_in {L : Nat} {xs : Nat → Int32} (d : Nat) (g : Nat → Nat → Nat) (hl : Nat → Nat → Int64) (rt : Nat × Nat × Nat × Nat) (v lo hi : Int32) {Q : Po} (hq : Q (some (.int (nI (bn (decide (lo ≤ v) && decide (v ≤ hi)))))) (HN g hl (RF rt))) : Ev L xs d 126 0 [(0, .ref 166), (1, .int (v)), (2, .int (lo)), (3, .int (hi))] [] (HN g hl (RF rt)) Q := by
  refine Ev.run 3 (pc' := (if v < lo then 14 else 5)) (lv' := [(0, .ref 166), (1, .int (v)), (2, .int (lo)), (3, .int (hi))]) (st' := []) (h' := HN g hl (RF rt)) rfl ?_
  refine Ev.ite (fun hc2 => ?_) (fun hc2 => ?_)
  · skip
    refine Ev.run 1 (pc' := 15) (lv' := [(0, .ref 166), (1, .int (v)), (2, .int (lo)), (3, .int (hi))]) (st' := [.int (nI 0)]) (h' := HN g hl (RF rt)) rfl ?_
    refine Ev.ret (v := some (.int (nI 0))) rfl ?_
    first | (rw [decide_eq_false (Int32.not_le.mpr hc2)] at hq; exact hq) | (rw [decide_eq_false (Int32.not_le.mpr hc7), Bool.and_false] at hq; exact hq) | (rw [decide_eq_true (Int32.not_lt.mp hc2), decide_eq_true (Int32.not_lt.mp hc7)] at hq; exact hq)
  · skip
    refine Ev.run 3 (pc' := (if hi < v then 14 else 10)) (lv' := [(0, .ref 166), (1, .int (v)), (2, .int (lo)), (3, .int (hi))]) (st' := []) (h' := HN g hl (RF rt)) rfl ?_
    refine Ev.ite (fun hc7 => ?_) (fun hc7 => ?_)
    · skip
      refine Ev.run 1 (pc' := 15) (lv' := [(0, .ref 166), (1, .int (v)), (2, .int (lo)), (3, .int (hi))]) (st' := [.int (nI 0)]) (h' := HN g hl (RF rt)) rfl ?_
      refine Ev.ret (v := some (.int (nI 0))) rfl ?_
      first | (rw [decide_eq_false (Int32.not_le.mpr hc2)] at hq; exact hq) | (rw [decide_eq_false (Int32.not_le.mpr hc7), Bool.and_false] at hq; exact hq) | (rw [decide_eq_true (Int32.not_lt.mp hc2), decide_eq_true (Int32.not_lt.mp hc7)] at hq; exact hq)
    · skip
      refine Ev.run 2 (pc' := 15) (lv' := [(0, .ref 166), (1, .int (v)), (2, .int (lo)), (3, .int (hi))]) (st' := [.int (nI 1)]) (h' := HN g hl (RF rt)) rfl ?_
      refine Ev.ret (v := some (.int (nI 1))) rfl ?_
      first | (rw [decide_eq_false (Int32.not_le.mpr hc2)] at hq; exact hq) | (rw [decide_eq_false (Int32.not_le.mpr hc7), Bool.and_false] at hq; exact hq) | (rw [decide_eq_true (Int32.not_lt.mp hc2), decide_eq_true (Int32.not_lt.mp hc7)] at hq; exact hq)
theorem C_isIn {L : Nat} {xs : Nat → Int32} (d : Nat) (g : Nat → Nat → Nat) (hl : Nat → Nat → Int64) (rt : Nat × Nat × Nat × Nat) (s k : Nat) (hs : s < 2 ^ 31) (hk : k < 32) {Q : Po} (hq : Q (some (.int (nI (bn (s.testBit k))))) (HN g hl (RF rt))) : Ev L xs d 127 0 [(0, .ref 166), (1, .int (nI s)), (2, .int (nI k))] [] (HN g hl (RF rt)) Q := by
  have hand : (s >>> k) &&& 1 < 2 := by rw [Nat.and_one_is_mod]; omega
  have hsh : s >>> k < 2 ^ 31 := Nat.lt_of_le_of_lt (Nat.shiftRight_le s k) hs
  have e := Nat.testBit_eq_decide_div_mod_eq (x := s) (i := k)
  refine Ev.run 3 (pc' := 3) (lv' := [(0, .ref 166), (1, .int (nI s)), (2, .int (nI k))]) (st' := [.int (nI s >>> (nI k &&& 31))]) (h' := HN g hl (RF rt)) rfl ?_
  refine Ev.topI (nI_shr (by omega) (by omega)) ?_
  refine Ev.run 2 (pc' := 5) (lv' := [(0, .ref 166), (1, .int (nI s)), (2, .int (nI k))]) (st' := [.int (nI (s >>> k) &&& nI 1)]) (h' := HN g hl (RF rt)) rfl ?_
  refine Ev.topI (nI_and (by omega) (by omega)) ?_
  refine Ev.run 2 (pc' := (if nI ((s >>> k) &&& 1) = nI 1 then 9 else 13)) (lv' := [(0, .ref 166), (1, .int (nI s)), (2, .int (nI k))]) (st' := []) (h' := HN g hl (RF rt)) rfl ?_
  refine Ev.ite (fun hc6 => ?_) (fun hc6 => ?_)
  · have hc6 : ((s >>> k) &&& 1) = 1 := (nI_eqU (by omega) (by omega)).mp hc6
    refine Ev.run 2 (pc' := 14) (lv' := [(0, .ref 166), (1, .int (nI s)), (2, .int (nI k))]) (st' := [.int (nI 1)]) (h' := HN g hl (RF rt)) rfl ?_
    refine Ev.ret (v := some (.int (nI 1))) rfl ?_
    simp only [Nat.and_one_is_mod, Nat.shiftRight_eq_div_pow] at hc6
    simp only [e, hc6, decide_true, decide_false] at hq
    exact hq
  · have hc6 : ¬ (((s >>> k) &&& 1) = 1) := fun z => hc6 ((nI_eqU (by omega) (by omega)).mpr z)
    refine Ev.run 1 (pc' := 14) (lv' := [(0, .ref 166), (1, .int (nI s)), (2, .int (nI k))]) (st' := [.int (nI 0)]) (h' := HN g hl (RF rt)) rfl ?_
    refine Ev.ret (v := some (.int (nI 0))) rfl ?_
    simp only [Nat.and_one_is_mod, Nat.shiftRight_eq_div_pow] at hc6
    simp only [e, hc6, decide_true, decide_false] at hq
    exact hq
theorem in0 {v w : Nat} (hv : v < 2 ^ 32) (hw : w < 2 ^ 31) : (decide (nI 0 ≤ nI v) && decide (nI v ≤ nI w)) = decide (v ≤ w) := by
  rw [nI_0]
  by_cases h : v < 2 ^ 31
  · rw [decide_eq_true (nI_pos' h), Bool.true_and]
    exact decide_eq_decide.mpr (nI_leI h hw)
  · have h1 : ¬ (0 : Int32) ≤ nI v := by
      rw [Int32.le_iff_toInt_le]
      have h2 : (nI v).toInt = (nI v).toBitVec.toInt := rfl
      rw [h2, BitVec.toInt_eq_toNat_cond, nI_toN, Nat.mod_eq_of_lt hv, if_neg (by omega)]
      show ¬ ((0 : Int32).toInt ≤ _)
      rw [Int32.toInt_zero]
      omega
    rw [decide_eq_false h1, Bool.false_and, decide_eq_false (by omega)]
theorem in1 {v w : Nat} (hv : v < 2 ^ 32) (hw : w < 2 ^ 31) : (decide (nI 0 ≤ nI v) && decide (nI v ≤ nI w - nI 1)) = decide (v < w) := by
  by_cases h0 : w = 0
  · subst h0
    rw [decide_eq_false (Nat.not_lt_zero v), show nI 0 - nI 1 = -1 by decide +kernel]
    by_cases h : v < 2 ^ 31
    · have h1 : ¬ nI v ≤ -1 := by
        rw [Int32.le_iff_toInt_le, nI_toInt h]
        have : (-1 : Int32).toInt = -1 := by decide +kernel
        omega
      rw [decide_eq_false h1, Bool.and_false]
    · have h1 := in0 (v := v) (w := 0) hv (by decide)
      have h2 : (decide (nI 0 ≤ nI v)) = false := by
        rw [nI_0] at h1 ⊢
        have h3 : decide (v ≤ 0) = false := decide_eq_false (by omega)
        rw [h3, Bool.and_eq_false_iff] at h1
        rcases h1 with h1 | h1
        · exact h1
        · have h4 : ¬ (0 : Int32) ≤ nI v := by
            rw [Int32.le_iff_toInt_le]
            have h2 : (nI v).toInt = (nI v).toBitVec.toInt := rfl
            rw [h2, BitVec.toInt_eq_toNat_cond, nI_toN, Nat.mod_eq_of_lt hv, if_neg (by omega)]
            rw [Int32.toInt_zero]
            omega
          exact decide_eq_false h4
      rw [h2, Bool.false_and]
  · rw [pk_sub (a := w) (b := 1) (by omega), in0 hv (by omega)]
    exact decide_eq_decide.mpr (by omega)
theorem C_isWord {L : Nat} {xs : Nat → Int32} (d : Nat) (g : Nat → Nat → Nat) (hl : Nat → Nat → Int64) (rt : Nat × Nat × Nat × Nat) (i : Nat) (hi : i < 2 ^ 32) (hw : g 166 0 ≤ 12) {Q : Po} (hq : Q (some (.int (nI (bn (decide (i < g 166 0)))))) (HN g hl (RF rt))) : Ev L xs (d + 1) 130 0 [(0, .ref 166), (1, .int (nI i))] [] (HN g hl (RF rt)) Q := by
  refine Ev.run 7 (pc' := 9) (lv' := [(0, .ref 166), (1, .int (nI i))]) (st' := [.int (nI (g 166 0) - nI 1), .int (nI 0), .int (nI i), .ref 166]) (h' := HN g hl (RF rt)) rfl ?_
  refine Ev.call (a := 126) (as := [.ref 166, .int (nI i), .int (nI 0), .int (nI (g 166 0) - nI 1)]) (rest := []) (lv0 := [(0, .ref 166), (1, .int (nI i)), (2, .int (nI 0)), (3, .int (nI (g 166 0) - nI 1))]) (Q1 := (fun z0 h' => z0 = some (.int (nI (bn (decide (i < g 166 0))))) ∧ h' = HN g hl (RF rt))) rfl rfl (C_in _ _ _ _ (nI i) (nI 0) (nI (g 166 0) - nI 1) (by rw [in1 (by omega) (by omega)]; exact ⟨rfl, rfl⟩)) (fun r h' hr => ?_)
  obtain ⟨rfl, rfl⟩ := hr
  refine Ev_bn (fun hb12 => ?_) (fun hb12 => ?_)
  · have hhb12 : i < g 166 0 := of_decide_eq_true hb12
    refine Ev.ret (v := some (.int (nI 1))) rfl ?_
    rw [hb12] at hq
    exact hq
  · have hhb12 : ¬ (i < g 166 0) := of_decide_eq_false hb12
    refine Ev.ret (v := some (.int (nI 0))) rfl ?_
    rw [hb12] at hq
    exact hq
theorem C_isPlayer {L : Nat} {xs : Nat → Int32} (d : Nat) (g : Nat → Nat → Nat) (hl : Nat → Nat → Int64) (rt : Nat × Nat × Nat × Nat) (i : Nat) (hi : i < 2 ^ 32) (hw : g 166 6 ≤ 5) {Q : Po} (hq : Q (some (.int (nI (bn (decide (i < g 166 6)))))) (HN g hl (RF rt))) : Ev L xs (d + 1) 135 0 [(0, .ref 166), (1, .int (nI i))] [] (HN g hl (RF rt)) Q := by
  refine Ev.run 7 (pc' := 9) (lv' := [(0, .ref 166), (1, .int (nI i))]) (st' := [.int (nI (g 166 6) - nI 1), .int (nI 0), .int (nI i), .ref 166]) (h' := HN g hl (RF rt)) rfl ?_
  refine Ev.call (a := 126) (as := [.ref 166, .int (nI i), .int (nI 0), .int (nI (g 166 6) - nI 1)]) (rest := []) (lv0 := [(0, .ref 166), (1, .int (nI i)), (2, .int (nI 0)), (3, .int (nI (g 166 6) - nI 1))]) (Q1 := (fun z0 h' => z0 = some (.int (nI (bn (decide (i < g 166 6))))) ∧ h' = HN g hl (RF rt))) rfl rfl (C_in _ _ _ _ (nI i) (nI 0) (nI (g 166 6) - nI 1) (by rw [in1 (by omega) (by omega)]; exact ⟨rfl, rfl⟩)) (fun r h' hr => ?_)
  obtain ⟨rfl, rfl⟩ := hr
  refine Ev_bn (fun hb12 => ?_) (fun hb12 => ?_)
  · have hhb12 : i < g 166 6 := of_decide_eq_true hb12
    refine Ev.ret (v := some (.int (nI 1))) rfl ?_
    rw [hb12] at hq
    exact hq
  · have hhb12 : ¬ (i < g 166 6) := of_decide_eq_false hb12
    refine Ev.ret (v := some (.int (nI 0))) rfl ?_
    rw [hb12] at hq
    exact hq
theorem C_isTape {L : Nat} {xs : Nat → Int32} (d : Nat) (g : Nat → Nat → Nat) (hl : Nat → Nat → Int64) (rt : Nat × Nat × Nat × Nat) (i : Nat) (hi : i < 2 ^ 32) {Q : Po} (hq : Q (some (.int (nI (bn (decide (i ≤ 5)))))) (HN g hl (RF rt))) : Ev L xs (d + 1) 235 0 [(0, .ref 166), (1, .int (nI i))] [] (HN g hl (RF rt)) Q := by
  refine Ev.run 4 (pc' := 4) (lv' := [(0, .ref 166), (1, .int (nI i))]) (st' := [.int (nI 5), .int (nI 0), .int (nI i), .ref 166]) (h' := HN g hl (RF rt)) rfl ?_
  refine Ev.call (a := 126) (as := [.ref 166, .int (nI i), .int (nI 0), .int (nI 5)]) (rest := []) (lv0 := [(0, .ref 166), (1, .int (nI i)), (2, .int (nI 0)), (3, .int (nI 5))]) (Q1 := (fun z0 h' => z0 = some (.int (nI (bn (decide (i ≤ 5))))) ∧ h' = HN g hl (RF rt))) rfl rfl (C_in _ _ _ _ (nI i) (nI 0) (nI 5) (by rw [in0 (by omega) (by omega)]; exact ⟨rfl, rfl⟩)) (fun r h' hr => ?_)
  obtain ⟨rfl, rfl⟩ := hr
  refine Ev_bn (fun hb7 => ?_) (fun hb7 => ?_)
  · have hhb7 : i ≤ 5 := of_decide_eq_true hb7
    refine Ev.ret (v := some (.int (nI 1))) rfl ?_
    rw [hb7] at hq
    exact hq
  · have hhb7 : ¬ (i ≤ 5) := of_decide_eq_false hb7
    refine Ev.ret (v := some (.int (nI 0))) rfl ?_
    rw [hb7] at hq
    exact hq
theorem pcn_le (s : Nat) : ∀ n, pcn s n ≤ n := by
  intro n
  induction n with
  | zero => exact Nat.le_refl _
  | succ n ih => have := bn_lt (s.testBit n); show pcn s n + bn (s.testBit n) ≤ n + 1; omega
theorem ones12_le (s : Nat) : ones12 s ≤ 12 := pcn_le s 12
theorem C_ones {L : Nat} {xs : Nat → Int32} (d : Nat) (g : Nat → Nat → Nat) (hl : Nat → Nat → Int64) (rt : Nat × Nat × Nat × Nat) (s0 : Nat) (hs : s0 < 4096) {Q : Po} (hq : Q (some (.int (nI (ones12 s0)))) (HN g hl (RF rt))) : Ev L xs d 128 0 [(0, .ref 166), (1, .int (nI s0))] [] (HN g hl (RF rt)) Q := by
  refine Ev.run 4 (pc' := 4) (lv' := [(3, .int (nI s0)), (2, .int (nI 0)), (0, .ref 166), (1, .int (nI s0))]) (st' := []) (h' := HN g hl (RF rt)) rfl ?_
  have key : ∀ (f s n : Nat), s < f → s < 4096 → n + ones12 s = ones12 s0 → Ev L xs d 128 4 [(3, .int (nI s)), (2, .int (nI n)), (0, .ref 166), (1, .int (nI s0))] [] (HN g hl (RF rt)) Q := by
    intro f
    induction f with
    | zero => intro s n h1; omega
    | succ f ih =>
      intro s n h1 h2 h3
      have hn : n < 2 ^ 31 := by have h4 : ones12 s0 ≤ 12 := ones12_le s0; omega
      refine Ev.run 2 (pc' := (if nI s = 0 then 20 else 8)) (lv' := [(3, .int (nI s)), (2, .int (nI n)), (0, .ref 166), (1, .int (nI s0))]) (st' := []) (h' := HN g hl (RF rt)) rfl ?_
      refine Ev.ite (fun hc5 => ?_) (fun hc5 => ?_)
      · have hc5 : s = 0 := (nI_eqU0 (by omega)).mp hc5
        refine Ev.run 1 (pc' := 21) (lv' := [(3, .int (nI s)), (2, .int (nI n)), (0, .ref 166), (1, .int (nI s0))]) (st' := [.int (nI n)]) (h' := HN g hl (RF rt)) rfl ?_
        refine Ev.ret (v := some (.int (nI n))) rfl ?_
        obtain rfl := hc5
        rw [ones12_0, Nat.add_zero] at h3
        rw [← h3] at hq
        exact hq
      · have hc5 : ¬ (s = 0) := fun z => hc5 ((nI_eqU0 (by omega)).mpr z)
        refine Ev.run 1 (pc' := 11) (lv' := [(2, .int (nI n + 1)), (3, .int (nI s)), (0, .ref 166), (1, .int (nI s0))]) (st' := []) (h' := HN g hl (RF rt)) rfl ?_
        refine Ev.lvE (congrArg (fun z => (2, Value.int z) :: [(3, .int (nI s)), (0, .ref 166), (1, .int (nI s0))]) (nI_1 _)) ?_
        refine Ev.run 4 (pc' := 15) (lv' := [(2, .int (nI (n + 1))), (3, .int (nI s)), (0, .ref 166), (1, .int (nI s0))]) (st' := [.int (nI s - nI 1), .int (nI s)]) (h' := HN g hl (RF rt)) rfl ?_
        refine Ev.topI (pk_sub (a := s) (b := 1) (by omega)) ?_
        refine Ev.run 1 (pc' := 16) (lv' := [(2, .int (nI (n + 1))), (3, .int (nI s)), (0, .ref 166), (1, .int (nI s0))]) (st' := [.int (nI s &&& nI (s - 1))]) (h' := HN g hl (RF rt)) rfl ?_
        refine Ev.topI (nI_and (by omega) (by omega)) ?_
        refine Ev.run 2 (pc' := 4) (lv' := [(3, .int (nI (s &&& (s - 1)))), (2, .int (nI (n + 1))), (0, .ref 166), (1, .int (nI s0))]) (st' := []) (h' := HN g hl (RF rt)) rfl ?_
        exact ih _ _ (Nat.lt_of_lt_of_le (and_pred_lt hc5) (Nat.le_of_lt_succ h1)) (by have := and_pred_lt hc5; omega) (by rw [← h3, ones12_s s h2 hc5]; omega)
  exact key (s0 + 1) s0 0 (Nat.lt_succ_self _) hs (by omega)
theorem C_leastOf {L : Nat} {xs : Nat → Int32} (d : Nat) (g : Nat → Nat → Nat) (hl : Nat → Nat → Int64) (rt : Nat × Nat × Nat × Nat) (s : Nat) (h0 : s ≠ 0) (hs : s < 2 ^ 31) {Q : Po} (hq : Q (some (.int (nI (least s)))) (HN g hl (RF rt))) : Ev L xs (d + 1) 129 0 [(0, .ref 166), (1, .int (nI s))] [] (HN g hl (RF rt)) Q := by
  refine Ev.run 2 (pc' := 2) (lv' := [(2, .int (nI 0)), (0, .ref 166), (1, .int (nI s))]) (st' := []) (h' := HN g hl (RF rt)) rfl ?_
  obtain ⟨j, hj, hj1, hj2⟩ := least_ex h0 (N := 31) hs
  have hlst := least_eq (by omega) hj1 hj2
  have key : ∀ (f k : Nat), k + f = j + 1 → k ≤ j → (∀ i, i < k → s.testBit i = false) → Ev L xs (d + 1) 129 2 [(2, .int (nI k)), (0, .ref 166), (1, .int (nI s))] [] (HN g hl (RF rt)) Q := by
    intro f
    induction f with
    | zero => intro k h1 h2; omega
    | succ f ih =>
      intro k h1 h2 h3
      refine Ev.run 3 (pc' := 5) (lv' := [(2, .int (nI k)), (0, .ref 166), (1, .int (nI s))]) (st' := [.int (nI k), .int (nI s), .ref 166]) (h' := HN g hl (RF rt)) rfl ?_
      refine Ev.call (a := 127) (as := [.ref 166, .int (nI s), .int (nI k)]) (rest := []) (lv0 := [(0, .ref 166), (1, .int (nI s)), (2, .int (nI k))]) (Q1 := (fun z0 h' => z0 = some (.int (nI (bn (Nat.testBit s k)))) ∧ h' = HN g hl (RF rt))) rfl rfl (C_isIn _ _ _ _ s k (by omega) (by omega) ⟨rfl, rfl⟩) (fun r h' hr => ?_)
      obtain ⟨rfl, rfl⟩ := hr
      refine Ev_bn (fun hb8 => ?_) (fun hb8 => ?_)
      · skip
        refine Ev.run 2 (pc' := 18) (lv' := [(2, .int (nI k)), (0, .ref 166), (1, .int (nI s))]) (st' := [.int (nI k)]) (h' := HN g hl (RF rt)) rfl ?_
        refine Ev.ret (v := some (.int (nI k))) rfl ?_
        have e : k = j := by
          refine Classical.byContradiction fun h => ?_
          have h6 := hj2 k (by omega)
          rw [h6] at hb8
          cases hb8
        rw [hlst, ← e] at hq
        exact hq
      · skip
        refine Ev.run 2 (pc' := 14) (lv' := [(2, .int (nI k + 1)), (0, .ref 166), (1, .int (nI s))]) (st' := []) (h' := HN g hl (RF rt)) rfl ?_
        refine Ev.lvE (congrArg (fun z => (2, Value.int z) :: [(0, .ref 166), (1, .int (nI s))]) (nI_1 _)) ?_
        refine Ev.run 1 (pc' := 2) (lv' := [(2, .int (nI (k + 1))), (0, .ref 166), (1, .int (nI s))]) (st' := []) (h' := HN g hl (RF rt)) rfl ?_
        have hkj : k ≠ j := fun e => by rw [e, hj1] at hb8; cases hb8
        exact ih (k + 1) (by omega) (by omega) (fun i h4 => by
          by_cases h5 : i = k
          · rw [h5]; exact hb8
          · exact h3 i (by omega))
  exact key (j + 1) 0 (by omega) (by omega) (fun i h => absurd h (Nat.not_lt_zero _))
