/-! the reference: tests of a table -/
theorem nI_neg {x : Nat} (h : 0 < x) (h2 : x < 2 ^ 32) : -(nI x) = nI (4294967296 - x) := by
  refine nI_ext ?_
  rw [Int32.toBitVec_neg, BitVec.toNat_neg, nI_toN, Nat.mod_eq_of_lt h2]
theorem opn_st (s : Nat) : ∀ W : List Nat, opn (stW s W) = opn W := by
  intro W
  induction W with
  | nil => rfl
  | cons x t ih =>
    unfold stW
    split
    · rename_i h
      rw [ih, opn_op t (by omega)]
    · rfl
theorem sw_outG {x lo hi : Nat} (hx : x < 2 ^ 32) (h0 : 0 < lo) (h : x < lo ∨ hi < x) : (nI x).toInt < (lo : Int) ∨ (hi : Int) < (nI x).toInt := by
  rw [nI_tI hx]
  split <;> omega
theorem in6062 {x : Nat} (hx : x < 2 ^ 32) : (decide (nI 60 ≤ nI x) && decide (nI x ≤ nI 62)) = decide (60 ≤ x ∧ x ≤ 62) := by
  rw [decide_eq_decide.mpr Int32.le_iff_toInt_le, decide_eq_decide.mpr Int32.le_iff_toInt_le, ← Bool.decide_and, nI_tI hx, nI_toInt (by decide : 60 < 2 ^ 31), nI_toInt (by decide : 62 < 2 ^ 31)]
  refine decide_eq_decide.mpr ?_
  split <;> omega
def plcS (c : Nat) : Nat := if c = 112 then 0 else if c = 107 then 1 else if c = 118 then 2 else if c = 99 then 3 else if c = 108 then 4 else if c = 102 then 5 else 4294967295
theorem plcS_le (c : Nat) : (plcS c ≤ 5 ∧ c < 4294967295) ∨ plcS c = 4294967295 := by
  unfold plcS
  by_cases h1 : c = 112
  · rw [if_pos h1]; exact Or.inl ⟨by omega, by omega⟩
  rw [if_neg h1]
  by_cases h2 : c = 107
  · rw [if_pos h2]; exact Or.inl ⟨by omega, by omega⟩
  rw [if_neg h2]
  by_cases h3 : c = 118
  · rw [if_pos h3]; exact Or.inl ⟨by omega, by omega⟩
  rw [if_neg h3]
  by_cases h4 : c = 99
  · rw [if_pos h4]; exact Or.inl ⟨by omega, by omega⟩
  rw [if_neg h4]
  by_cases h5 : c = 108
  · rw [if_pos h5]; exact Or.inl ⟨by omega, by omega⟩
  rw [if_neg h5]
  by_cases h6 : c = 102
  · rw [if_pos h6]; exact Or.inl ⟨by omega, by omega⟩
  rw [if_neg h6]; exact Or.inr rfl
def teS (g : Nat → Nat → Nat) (p : Nat) : Bool × Nat × Nat := if plcS (pkS g p) = 4294967295 then (false, 0, p) else if 60 ≤ pkS g (p + 1) ∧ pkS g (p + 1) ≤ 62 then (if (nuS g (p + 2)).1 = true then (true, 1000 * plcS (pkS g p) + 100 * (pkS g (p + 1) - 60) + (nuS g (p + 2)).2.1, (nuS g (p + 2)).2.2) else (false, 0, p + 2)) else (false, 0, p + 1)
theorem C_settle {L : Nat} {xs : Nat → Int32} (d : Nat) (g : Nat → Nat → Nat) (hl : Nat → Nat → Int64) (rt : Nat × Nat × Nat × Nat) (p dg b : Nat) (w : Nat → Nat) (s : Nat) (hs : s < 2 ^ 32) {Q : Po} : ∀ (W : List Nat) (l : List Nat), WR w W → b + l.length + W.length ≤ 600 → W.length ≤ 100 → Q none (HN (PT g p dg b (l ++ stL s W) w ((stW s W).length) (opn (stW s W))) hl (RF rt)) → Ev L xs (d + 1) 148 0 [(0, .ref 166), (1, .int (nI s))] [] (HN (PT g p dg b l w W.length (opn W)) hl (RF rt)) Q := by
  intro W
  induction W with
  | nil =>
    intro l hW h6 h1 hq
    have hq : Q none (HN (PT g p dg b (l ++ []) w 0 0) hl (RF rt)) := hq
    rw [List.append_nil] at hq
    show Ev L xs _ _ _ _ _ (HN (PT g p dg b l w 0 0) hl (RF rt)) Q
    refine Ev.run 3 (pc' := 72) (lv' := [(0, .ref 166), (1, .int (nI s))]) (st' := []) (h' := HN (PT g p dg b l w 0 0) hl (RF rt)) rfl ?_
    refine Ev.ret (v := none) rfl ?_
    exact hq
  | cons x t ih =>
    intro l hW h6 h1 hq
    have hWt := hW.top
    have hlt : (x :: t).length = t.length + 1 := rfl
    show Ev L xs _ _ _ _ _ (HN (PT g p dg b l w (t.length + 1) (opn (x :: t))) hl (RF rt)) Q
    refine Ev.run 3 (pc' := (if nI (t.length + 1) ≤ 0 then 72 else 7)) (lv' := [(0, .ref 166), (1, .int (nI s))]) (st' := []) (h' := HN (PT g p dg b l w (t.length + 1) (opn (x :: t))) hl (RF rt)) rfl ?_
    refine Ev.ite (fun hc4 => ?_) (fun hc4 => ?_)
    · have hc4 : (t.length + 1) ≤ 0 := (nI_leI0 (by omega)).mp hc4
      refine Ev.ret (v := none) rfl ?_
      exfalso
      omega
    · have hc4 : ¬ ((t.length + 1) ≤ 0) := fun z => hc4 ((nI_leI0 (by omega)).mpr z)
      refine Ev.run 6 (pc' := 17) (lv' := [(0, .ref 166), (1, .int (nI s))]) (st' := [.int (nI (t.length + 1) - nI 1), .ref 183]) (h' := HN (PT g p dg b l w (t.length + 1) (opn (x :: t))) hl (RF rt)) rfl ?_
      refine Ev.topI (pk_sub (a := (t.length + 1)) (b := 1) (by omega)) ?_
      refine Ev_iald rfl rfl (show t.length < 101 by omega) (Nat.le_of_ble_eq_true rfl) ?_
      refine Ev.run 2 (pc' := (if nI (w t.length) = nI 38 then 45 else 23)) (lv' := [(0, .ref 166), (1, .int (nI s))]) (st' := []) (h' := HN (PT g p dg b l w (t.length + 1) (opn (x :: t))) hl (RF rt)) rfl ?_
      refine Ev.ite (fun hc20 => ?_) (fun hc20 => ?_)
      · have hc20 : x = 38 := ((show nI (w t.length) = nI 38 ↔ x = 38 from by rw [hWt.1]; exact nI_eqU (by omega) (by decide))).mp hc20
        refine Ev.run 5 (pc' := 52) (lv' := [(0, .ref 166), (1, .int (nI s))]) (st' := [.int (nI (t.length + 1) - nI 1), .ref 166]) (h' := HN (PT g p dg b l w (t.length + 1) (opn (x :: t))) hl (RF rt)) rfl ?_
        refine Ev.topI (pk_sub (a := (t.length + 1)) (b := 1) (by omega)) ?_
        refine Ev.run 1 (pc' := 55) (lv' := [(0, .ref 166), (1, .int (nI s))]) (st' := []) (h' := setI (HN (PT g p dg b l w (t.length + 1) (opn (x :: t))) hl (RF rt)) 166 29 (nI t.length)) rfl ?_
        refine Ev.hp (HN_set _ _ _ _ _ _) ?_
        refine Ev.hp (congrArg (fun z => HN z hl (RF rt)) (PT_29 _ _ _ _ _ _ _ _ _)) ?_
        refine Ev.run 5 (pc' := 64) (lv' := [(0, .ref 166), (1, .int (nI s))]) (st' := [.int (nI t.length), .ref 183, .ref 166]) (h' := HN (PT g p dg b l w t.length (opn (x :: t))) hl (RF rt)) rfl ?_
        refine Ev_iald rfl rfl (show t.length < 101 by omega) (Nat.le_of_ble_eq_true rfl) ?_
        refine Ev.run 1 (pc' := 66) (lv' := [(0, .ref 166), (1, .int (nI s))]) (st' := [.int (-(nI (w t.length))), .ref 166]) (h' := HN (PT g p dg b l w t.length (opn (x :: t))) hl (RF rt)) rfl ?_
        refine Ev.topI (show -(nI (w t.length)) = nI (4294967296 - x) from by show -(nI (w t.length)) = _; rw [hWt.1]; exact nI_neg (by omega) (by omega)) ?_
        refine Ev.call (a := 146) (as := [.ref 166, .int (nI (4294967296 - x))]) (rest := []) (lv0 := [(0, .ref 166), (1, .int (nI (4294967296 - x)))]) (Q1 := (fun z0 h' => z0 = none ∧ h' = HN (PT g p dg b (l ++ [(4294967296 - x)]) w t.length (opn (x :: t))) hl (RF rt))) rfl rfl (C_emits _ g _ _ p dg b l w t.length (opn (x :: t)) (4294967296 - x) (show _ < 600 by first | omega | (simp only [List.length_append, List.length_cons, List.length_nil]; omega)) ⟨rfl, rfl⟩) (fun r h' hr => ?_)
        obtain ⟨rfl, rfl⟩ := hr
        refine Ev.run 1 (pc' := 0) (lv' := [(0, .ref 166), (1, .int (nI s))]) (st' := []) (h' := HN (PT g p dg b (l ++ [(4294967296 - x)]) w t.length (opn (x :: t))) hl (RF rt)) rfl ?_
        rw [opn_op t (by omega)]
        have e1 : stL s (x :: t) = (4294967296 - x) :: stL s t := by show (if _ then _ else _) = _; rw [if_pos (by omega)]
        have e2 : stW s (x :: t) = stW s t := by show (if _ then _ else _) = _; rw [if_pos (by omega)]
        rw [e1, e2] at hq
        have hx := ih (l ++ [4294967296 - x]) hW.tl (by rw [List.length_append]; show b + (l.length + 1) + _ ≤ 600; omega) (by omega) (by rw [List.append_assoc]; exact hq)
        exact hx
      · have hc20 : ¬ (x = 38) := fun z => hc20 (((show nI (w t.length) = nI 38 ↔ x = 38 from by rw [hWt.1]; exact nI_eqU (by omega) (by decide))).mpr z)
        refine Ev.run 6 (pc' := 33) (lv' := [(0, .ref 166), (1, .int (nI s))]) (st' := [.int (nI (t.length + 1) - nI 1), .ref 183]) (h' := HN (PT g p dg b l w (t.length + 1) (opn (x :: t))) hl (RF rt)) rfl ?_
        refine Ev.topI (pk_sub (a := (t.length + 1)) (b := 1) (by omega)) ?_
        refine Ev_iald rfl rfl (show t.length < 101 by omega) (Nat.le_of_ble_eq_true rfl) ?_
        refine Ev.run 2 (pc' := (if nI (w t.length) = nI 124 then 39 else 72)) (lv' := [(0, .ref 166), (1, .int (nI s))]) (st' := []) (h' := HN (PT g p dg b l w (t.length + 1) (opn (x :: t))) hl (RF rt)) rfl ?_
        refine Ev.ite (fun hc36 => ?_) (fun hc36 => ?_)
        · have hc36 : x = 124 := ((show nI (w t.length) = nI 124 ↔ x = 124 from by rw [hWt.1]; exact nI_eqU (by omega) (by decide))).mp hc36
          refine Ev.run 3 (pc' := (if nI s = nI 38 then 72 else 45)) (lv' := [(0, .ref 166), (1, .int (nI s))]) (st' := []) (h' := HN (PT g p dg b l w (t.length + 1) (opn (x :: t))) hl (RF rt)) rfl ?_
          refine Ev.ite (fun hc42 => ?_) (fun hc42 => ?_)
          · have hc42 : s = 38 := (nI_eqU (by omega) (by omega)).mp hc42
            refine Ev.ret (v := none) rfl ?_
            have e1 : stL s (x :: t) = [] := by show (if _ then _ else _) = _; rw [if_neg (by omega)]
            have e2 : stW s (x :: t) = x :: t := by show (if _ then _ else _) = _; rw [if_neg (by omega)]
            rw [e1, e2, List.append_nil] at hq
            exact hq
          · have hc42 : ¬ (s = 38) := fun z => hc42 ((nI_eqU (by omega) (by omega)).mpr z)
            refine Ev.run 5 (pc' := 52) (lv' := [(0, .ref 166), (1, .int (nI s))]) (st' := [.int (nI (t.length + 1) - nI 1), .ref 166]) (h' := HN (PT g p dg b l w (t.length + 1) (opn (x :: t))) hl (RF rt)) rfl ?_
            refine Ev.topI (pk_sub (a := (t.length + 1)) (b := 1) (by omega)) ?_
            refine Ev.run 1 (pc' := 55) (lv' := [(0, .ref 166), (1, .int (nI s))]) (st' := []) (h' := setI (HN (PT g p dg b l w (t.length + 1) (opn (x :: t))) hl (RF rt)) 166 29 (nI t.length)) rfl ?_
            refine Ev.hp (HN_set _ _ _ _ _ _) ?_
            refine Ev.hp (congrArg (fun z => HN z hl (RF rt)) (PT_29 _ _ _ _ _ _ _ _ _)) ?_
            refine Ev.run 5 (pc' := 64) (lv' := [(0, .ref 166), (1, .int (nI s))]) (st' := [.int (nI t.length), .ref 183, .ref 166]) (h' := HN (PT g p dg b l w t.length (opn (x :: t))) hl (RF rt)) rfl ?_
            refine Ev_iald rfl rfl (show t.length < 101 by omega) (Nat.le_of_ble_eq_true rfl) ?_
            refine Ev.run 1 (pc' := 66) (lv' := [(0, .ref 166), (1, .int (nI s))]) (st' := [.int (-(nI (w t.length))), .ref 166]) (h' := HN (PT g p dg b l w t.length (opn (x :: t))) hl (RF rt)) rfl ?_
            refine Ev.topI (show -(nI (w t.length)) = nI (4294967296 - x) from by show -(nI (w t.length)) = _; rw [hWt.1]; exact nI_neg (by omega) (by omega)) ?_
            refine Ev.call (a := 146) (as := [.ref 166, .int (nI (4294967296 - x))]) (rest := []) (lv0 := [(0, .ref 166), (1, .int (nI (4294967296 - x)))]) (Q1 := (fun z0 h' => z0 = none ∧ h' = HN (PT g p dg b (l ++ [(4294967296 - x)]) w t.length (opn (x :: t))) hl (RF rt))) rfl rfl (C_emits _ g _ _ p dg b l w t.length (opn (x :: t)) (4294967296 - x) (show _ < 600 by first | omega | (simp only [List.length_append, List.length_cons, List.length_nil]; omega)) ⟨rfl, rfl⟩) (fun r h' hr => ?_)
            obtain ⟨rfl, rfl⟩ := hr
            refine Ev.run 1 (pc' := 0) (lv' := [(0, .ref 166), (1, .int (nI s))]) (st' := []) (h' := HN (PT g p dg b (l ++ [(4294967296 - x)]) w t.length (opn (x :: t))) hl (RF rt)) rfl ?_
            rw [opn_op t (by omega)]
            have e1 : stL s (x :: t) = (4294967296 - x) :: stL s t := by show (if _ then _ else _) = _; rw [if_pos (by omega)]
            have e2 : stW s (x :: t) = stW s t := by show (if _ then _ else _) = _; rw [if_pos (by omega)]
            rw [e1, e2] at hq
            have hx := ih (l ++ [4294967296 - x]) hW.tl (by rw [List.length_append]; show b + (l.length + 1) + _ ≤ 600; omega) (by omega) (by rw [List.append_assoc]; exact hq)
            exact hx
        · have hc36 : ¬ (x = 124) := fun z => hc36 (((show nI (w t.length) = nI 124 ↔ x = 124 from by rw [hWt.1]; exact nI_eqU (by omega) (by decide))).mpr z)
          refine Ev.ret (v := none) rfl ?_
          have e1 : stL s (x :: t) = [] := by show (if _ then _ else _) = _; rw [if_neg (by omega)]
          have e2 : stW s (x :: t) = x :: t := by show (if _ then _ else _) = _; rw [if_neg (by omega)]
          rw [e1, e2, List.append_nil] at hq
          exact hq
theorem C_place {L : Nat} {xs : Nat → Int32} (d : Nat) (g : Nat → Nat → Nat) (hl : Nat → Nat → Int64) (rt : Nat × Nat × Nat × Nat) (c : Nat) (hc : c < 2 ^ 32) {Q : Po} (hq : Q (some (.int (nI (plcS c)))) (HN g hl (RF rt))) : Ev L xs d 149 0 [(0, .ref 166), (1, .int (nI c))] [] (HN g hl (RF rt)) Q := by
  refine Ev.run 1 (pc' := 1) (lv' := [(0, .ref 166), (1, .int (nI c))]) (st' := [.int (nI c)]) (h' := HN g hl (RF rt)) rfl ?_
  by_cases hs1_99 : c = 99
  · refine Ev.topI (congrArg nI hs1_99) ?_
    refine Ev.run 2 (pc' := 103) (lv' := [(0, .ref 166), (1, .int (nI c))]) (st' := [.int (nI 3)]) (h' := HN g hl (RF rt)) rfl ?_
    refine Ev.ret (v := some (.int (nI 3))) rfl ?_
    rw [hs1_99] at hq
    exact hq
  by_cases hs1_100 : c = 100
  · refine Ev.topI (congrArg nI hs1_100) ?_
    refine Ev.run 2 (pc' := 109) (lv' := [(0, .ref 166), (1, .int (nI c))]) (st' := [.int (nI 4294967295)]) (h' := HN g hl (RF rt)) rfl ?_
    refine Ev.ret (v := some (.int (nI 4294967295))) rfl ?_
    rw [hs1_100] at hq
    exact hq
  by_cases hs1_101 : c = 101
  · refine Ev.topI (congrArg nI hs1_101) ?_
    refine Ev.run 2 (pc' := 109) (lv' := [(0, .ref 166), (1, .int (nI c))]) (st' := [.int (nI 4294967295)]) (h' := HN g hl (RF rt)) rfl ?_
    refine Ev.ret (v := some (.int (nI 4294967295))) rfl ?_
    rw [hs1_101] at hq
    exact hq
  by_cases hs1_102 : c = 102
  · refine Ev.topI (congrArg nI hs1_102) ?_
    refine Ev.run 2 (pc' := 107) (lv' := [(0, .ref 166), (1, .int (nI c))]) (st' := [.int (nI 5)]) (h' := HN g hl (RF rt)) rfl ?_
    refine Ev.ret (v := some (.int (nI 5))) rfl ?_
    rw [hs1_102] at hq
    exact hq
  by_cases hs1_103 : c = 103
  · refine Ev.topI (congrArg nI hs1_103) ?_
    refine Ev.run 2 (pc' := 109) (lv' := [(0, .ref 166), (1, .int (nI c))]) (st' := [.int (nI 4294967295)]) (h' := HN g hl (RF rt)) rfl ?_
    refine Ev.ret (v := some (.int (nI 4294967295))) rfl ?_
    rw [hs1_103] at hq
    exact hq
  by_cases hs1_104 : c = 104
  · refine Ev.topI (congrArg nI hs1_104) ?_
    refine Ev.run 2 (pc' := 109) (lv' := [(0, .ref 166), (1, .int (nI c))]) (st' := [.int (nI 4294967295)]) (h' := HN g hl (RF rt)) rfl ?_
    refine Ev.ret (v := some (.int (nI 4294967295))) rfl ?_
    rw [hs1_104] at hq
    exact hq
  by_cases hs1_105 : c = 105
  · refine Ev.topI (congrArg nI hs1_105) ?_
    refine Ev.run 2 (pc' := 109) (lv' := [(0, .ref 166), (1, .int (nI c))]) (st' := [.int (nI 4294967295)]) (h' := HN g hl (RF rt)) rfl ?_
    refine Ev.ret (v := some (.int (nI 4294967295))) rfl ?_
    rw [hs1_105] at hq
    exact hq
  by_cases hs1_106 : c = 106
  · refine Ev.topI (congrArg nI hs1_106) ?_
    refine Ev.run 2 (pc' := 109) (lv' := [(0, .ref 166), (1, .int (nI c))]) (st' := [.int (nI 4294967295)]) (h' := HN g hl (RF rt)) rfl ?_
    refine Ev.ret (v := some (.int (nI 4294967295))) rfl ?_
    rw [hs1_106] at hq
    exact hq
  by_cases hs1_107 : c = 107
  · refine Ev.topI (congrArg nI hs1_107) ?_
    refine Ev.run 2 (pc' := 99) (lv' := [(0, .ref 166), (1, .int (nI c))]) (st' := [.int (nI 1)]) (h' := HN g hl (RF rt)) rfl ?_
    refine Ev.ret (v := some (.int (nI 1))) rfl ?_
    rw [hs1_107] at hq
    exact hq
  by_cases hs1_108 : c = 108
  · refine Ev.topI (congrArg nI hs1_108) ?_
    refine Ev.run 2 (pc' := 105) (lv' := [(0, .ref 166), (1, .int (nI c))]) (st' := [.int (nI 4)]) (h' := HN g hl (RF rt)) rfl ?_
    refine Ev.ret (v := some (.int (nI 4))) rfl ?_
    rw [hs1_108] at hq
    exact hq
  by_cases hs1_109 : c = 109
  · refine Ev.topI (congrArg nI hs1_109) ?_
    refine Ev.run 2 (pc' := 109) (lv' := [(0, .ref 166), (1, .int (nI c))]) (st' := [.int (nI 4294967295)]) (h' := HN g hl (RF rt)) rfl ?_
    refine Ev.ret (v := some (.int (nI 4294967295))) rfl ?_
    rw [hs1_109] at hq
    exact hq
  by_cases hs1_110 : c = 110
  · refine Ev.topI (congrArg nI hs1_110) ?_
    refine Ev.run 2 (pc' := 109) (lv' := [(0, .ref 166), (1, .int (nI c))]) (st' := [.int (nI 4294967295)]) (h' := HN g hl (RF rt)) rfl ?_
    refine Ev.ret (v := some (.int (nI 4294967295))) rfl ?_
    rw [hs1_110] at hq
    exact hq
  by_cases hs1_111 : c = 111
  · refine Ev.topI (congrArg nI hs1_111) ?_
    refine Ev.run 2 (pc' := 109) (lv' := [(0, .ref 166), (1, .int (nI c))]) (st' := [.int (nI 4294967295)]) (h' := HN g hl (RF rt)) rfl ?_
    refine Ev.ret (v := some (.int (nI 4294967295))) rfl ?_
    rw [hs1_111] at hq
    exact hq
  by_cases hs1_112 : c = 112
  · refine Ev.topI (congrArg nI hs1_112) ?_
    refine Ev.run 2 (pc' := 97) (lv' := [(0, .ref 166), (1, .int (nI c))]) (st' := [.int (nI 0)]) (h' := HN g hl (RF rt)) rfl ?_
    refine Ev.ret (v := some (.int (nI 0))) rfl ?_
    rw [hs1_112] at hq
    exact hq
  by_cases hs1_113 : c = 113
  · refine Ev.topI (congrArg nI hs1_113) ?_
    refine Ev.run 2 (pc' := 109) (lv' := [(0, .ref 166), (1, .int (nI c))]) (st' := [.int (nI 4294967295)]) (h' := HN g hl (RF rt)) rfl ?_
    refine Ev.ret (v := some (.int (nI 4294967295))) rfl ?_
    rw [hs1_113] at hq
    exact hq
  by_cases hs1_114 : c = 114
  · refine Ev.topI (congrArg nI hs1_114) ?_
    refine Ev.run 2 (pc' := 109) (lv' := [(0, .ref 166), (1, .int (nI c))]) (st' := [.int (nI 4294967295)]) (h' := HN g hl (RF rt)) rfl ?_
    refine Ev.ret (v := some (.int (nI 4294967295))) rfl ?_
    rw [hs1_114] at hq
    exact hq
  by_cases hs1_115 : c = 115
  · refine Ev.topI (congrArg nI hs1_115) ?_
    refine Ev.run 2 (pc' := 109) (lv' := [(0, .ref 166), (1, .int (nI c))]) (st' := [.int (nI 4294967295)]) (h' := HN g hl (RF rt)) rfl ?_
    refine Ev.ret (v := some (.int (nI 4294967295))) rfl ?_
    rw [hs1_115] at hq
    exact hq
  by_cases hs1_116 : c = 116
  · refine Ev.topI (congrArg nI hs1_116) ?_
    refine Ev.run 2 (pc' := 109) (lv' := [(0, .ref 166), (1, .int (nI c))]) (st' := [.int (nI 4294967295)]) (h' := HN g hl (RF rt)) rfl ?_
    refine Ev.ret (v := some (.int (nI 4294967295))) rfl ?_
    rw [hs1_116] at hq
    exact hq
  by_cases hs1_117 : c = 117
  · refine Ev.topI (congrArg nI hs1_117) ?_
    refine Ev.run 2 (pc' := 109) (lv' := [(0, .ref 166), (1, .int (nI c))]) (st' := [.int (nI 4294967295)]) (h' := HN g hl (RF rt)) rfl ?_
    refine Ev.ret (v := some (.int (nI 4294967295))) rfl ?_
    rw [hs1_117] at hq
    exact hq
  by_cases hs1_118 : c = 118
  · refine Ev.topI (congrArg nI hs1_118) ?_
    refine Ev.run 2 (pc' := 101) (lv' := [(0, .ref 166), (1, .int (nI c))]) (st' := [.int (nI 2)]) (h' := HN g hl (RF rt)) rfl ?_
    refine Ev.ret (v := some (.int (nI 2))) rfl ?_
    rw [hs1_118] at hq
    exact hq
  refine Ev_tsOut (tgt := 108) rfl (sw_outG (x := c) (lo := 99) (hi := 118) (by omega) (by decide) (by omega)) rfl ?_
  refine Ev.run 1 (pc' := 109) (lv' := [(0, .ref 166), (1, .int (nI c))]) (st' := [.int (nI 4294967295)]) (h' := HN g hl (RF rt)) rfl ?_
  refine Ev.ret (v := some (.int (nI 4294967295))) rfl ?_
  unfold plcS at hq
  rw [if_neg hs1_112, if_neg hs1_107, if_neg hs1_118, if_neg hs1_99, if_neg hs1_108, if_neg hs1_102] at hq
  exact hq
theorem C_takesTest {L : Nat} {xs : Nat → Int32} (d : Nat) (g : Nat → Nat → Nat) (hl : Nat → Nat → Int64) (rt : Nat × Nat × Nat × Nat) (hF : g 166 17 ≤ 100) (ht : ∀ j, j < 100 → g 176 j ≤ 127) (p dg b : Nat) (l : List Nat) (w : Nat → Nat) (W : List Nat) (hW : WR w W) (h6 : b + l.length + W.length ≤ 500 + p) (h1 : W.length ≤ 100) (hp : p ≤ 400) {Q : Po} (hq : (∀ cd q dd, teS g p = (true, cd, q) → Q (some (.int (nI 1))) (HN (PT g q dd b (l ++ ([cd] ++ whL W)) w ((whW W).length) (opn (whW W))) hl (RF rt))) ∧ (∀ q, teS g p = (false, 0, q) → Q (some (.int (nI 0))) (HN (PT g q dg b l w W.length (opn W)) hl (RF rt)))) : Ev L xs (d + 3) 150 0 [(0, .ref 166)] [] (HN (PT g p dg b l w W.length (opn W)) hl (RF rt)) Q := by
  refine Ev.run 2 (pc' := 2) (lv' := [(0, .ref 166)]) (st' := [.ref 166, .ref 166]) (h' := HN (PT g p dg b l w W.length (opn W)) hl (RF rt)) rfl ?_
  refine Ev.call (a := 140) (as := [.ref 166]) (rest := [.ref 166]) (lv0 := [(0, .ref 166)]) (Q1 := (fun z0 h' => z0 = some (.int (nI (pkS g p))) ∧ h' = HN (PT g p dg b l w W.length (opn W)) hl (RF rt))) rfl rfl (C_peek _ g _ _ hF ht p dg b l w W.length (opn W) (by omega) ⟨rfl, rfl⟩) (fun r h' hr => ?_)
  obtain ⟨rfl, rfl⟩ := hr
  have hpk5 := pkS_le hF ht p
  refine Ev.call (a := 149) (as := [.ref 166, .int (nI (pkS g p))]) (rest := []) (lv0 := [(0, .ref 166), (1, .int (nI (pkS g p)))]) (Q1 := (fun z0 h' => z0 = some (.int (nI (plcS (pkS g p)))) ∧ h' = HN (PT g p dg b l w W.length (opn W)) hl (RF rt))) rfl rfl (C_place _ _ _ _ (pkS g p) (by omega) ⟨rfl, rfl⟩) (fun r h' hr => ?_)
  obtain ⟨rfl, rfl⟩ := hr
  have hpl8 := plcS_le (pkS g p)
  refine Ev.run 3 (pc' := (if 0 ≤ nI (plcS (pkS g p)) then 15 else 13)) (lv' := [(1, .int (nI (plcS (pkS g p)))), (0, .ref 166)]) (st' := []) (h' := HN (PT g p dg b l w W.length (opn W)) hl (RF rt)) rfl ?_
  refine Ev.ite (fun hc10 => ?_) (fun hc10 => ?_)
  · have hc10 : (plcS (pkS g p)) < 2147483648 := (nI_geU0 (by omega)).mp hc10
    refine Ev.run 5 (pc' := 22) (lv' := [(1, .int (nI (plcS (pkS g p)))), (0, .ref 166)]) (st' := [.int (nI p + nI 1), .ref 166]) (h' := HN (PT g p dg b l w W.length (opn W)) hl (RF rt)) rfl ?_
    refine Ev.topI (nI_add _ _) ?_
    refine Ev.run 1 (pc' := 25) (lv' := [(1, .int (nI (plcS (pkS g p)))), (0, .ref 166)]) (st' := []) (h' := setI (HN (PT g p dg b l w W.length (opn W)) hl (RF rt)) 166 18 (nI (p + 1))) rfl ?_
    refine Ev.hp (HN_set _ _ _ _ _ _) ?_
    refine Ev.hp (congrArg (fun z => HN z hl (RF rt)) (PT_18 _ _ _ _ _ _ _ _ _)) ?_
    refine Ev.run 1 (pc' := 26) (lv' := [(1, .int (nI (plcS (pkS g p)))), (0, .ref 166)]) (st' := [.ref 166]) (h' := HN (PT g (p + 1) dg b l w W.length (opn W)) hl (RF rt)) rfl ?_
    refine Ev.call (a := 140) (as := [.ref 166]) (rest := []) (lv0 := [(0, .ref 166)]) (Q1 := (fun z0 h' => z0 = some (.int (nI (pkS g (p + 1)))) ∧ h' = HN (PT g (p + 1) dg b l w W.length (opn W)) hl (RF rt))) rfl rfl (C_peek _ g _ _ hF ht (p + 1) dg b l w W.length (opn W) (by omega) ⟨rfl, rfl⟩) (fun r h' hr => ?_)
    obtain ⟨rfl, rfl⟩ := hr
    have hpk29 := pkS_le hF ht (p + 1)
    refine Ev.run 5 (pc' := 36) (lv' := [(2, .int (nI (pkS g (p + 1)))), (1, .int (nI (plcS (pkS g p)))), (0, .ref 166)]) (st' := [.int (nI 62), .int (nI 60), .int (nI (pkS g (p + 1))), .ref 166]) (h' := HN (PT g (p + 1) dg b l w W.length (opn W)) hl (RF rt)) rfl ?_
    refine Ev.call (a := 126) (as := [.ref 166, .int (nI (pkS g (p + 1))), .int (nI 60), .int (nI 62)]) (rest := []) (lv0 := [(0, .ref 166), (1, .int (nI (pkS g (p + 1)))), (2, .int (nI 60)), (3, .int (nI 62))]) (Q1 := (fun z0 h' => z0 = some (.int (nI (bn (decide (60 ≤ pkS g (p + 1) ∧ pkS g (p + 1) ≤ 62))))) ∧ h' = HN (PT g (p + 1) dg b l w W.length (opn W)) hl (RF rt))) rfl rfl (C_in _ _ _ _ (nI (pkS g (p + 1))) (nI 60) (nI 62) (by rw [in6062 (by omega)]; exact ⟨rfl, rfl⟩)) (fun r h' hr => ?_)
    obtain ⟨rfl, rfl⟩ := hr
    refine Ev_bn (fun hb39 => ?_) (fun hb39 => ?_)
    · have hhb39 : 60 ≤ pkS g (p + 1) ∧ pkS g (p + 1) ≤ 62 := of_decide_eq_true hb39
      refine Ev.run 6 (pc' := 51) (lv' := [(2, .int (nI (pkS g (p + 1)))), (1, .int (nI (plcS (pkS g p)))), (0, .ref 166)]) (st' := [.int (nI (p + 1) + nI 1), .ref 166]) (h' := HN (PT g (p + 1) dg b l w W.length (opn W)) hl (RF rt)) rfl ?_
      refine Ev.topI (nI_add _ _) ?_
      refine Ev.run 1 (pc' := 54) (lv' := [(2, .int (nI (pkS g (p + 1)))), (1, .int (nI (plcS (pkS g p)))), (0, .ref 166)]) (st' := []) (h' := setI (HN (PT g (p + 1) dg b l w W.length (opn W)) hl (RF rt)) 166 18 (nI ((p + 1) + 1))) rfl ?_
      refine Ev.hp (HN_set _ _ _ _ _ _) ?_
      refine Ev.hp (congrArg (fun z => HN z hl (RF rt)) (PT_18 _ _ _ _ _ _ _ _ _)) ?_
      refine Ev.run 1 (pc' := 55) (lv' := [(2, .int (nI (pkS g (p + 1)))), (1, .int (nI (plcS (pkS g p)))), (0, .ref 166)]) (st' := [.ref 166]) (h' := HN (PT g ((p + 1) + 1) dg b l w W.length (opn W)) hl (RF rt)) rfl ?_
      refine Ev.call (a := 145) (as := [.ref 166]) (rest := []) (lv0 := [(0, .ref 166)]) (Q1 := (fun z0 h' => (∃ dd q, nuS g ((p + 1) + 1) = (true, dd, q) ∧ z0 = some (.int (nI 1)) ∧ h' = HN (PT g q dd b l w W.length (opn W)) hl (RF rt)) ∨ (nuS g ((p + 1) + 1) = (false, 0, ((p + 1) + 1)) ∧ z0 = some (.int (nI 0)) ∧ h' = HN (PT g ((p + 1) + 1) dg b l w W.length (opn W)) hl (RF rt)))) rfl rfl (C_takesNumber _ g _ _ hF ht ((p + 1) + 1) dg b l w W.length (opn W) (by omega) ⟨fun dd q z => Or.inl ⟨dd, q, z, rfl, rfl⟩, fun z => Or.inr ⟨z, rfl, rfl⟩⟩) (fun r h' hr => ?_)
      rcases hr with ⟨dd123, q123, hnu, rfl, rfl⟩ | ⟨hnu, rfl, rfl⟩
      · skip
        have hnl := nuS_le hnu
        refine Ev.run 5 (pc' := 69) (lv' := [(2, .int (nI (pkS g (p + 1)))), (1, .int (nI (plcS (pkS g p)))), (0, .ref 166)]) (st' := [.int (nI 1000 * nI (plcS (pkS g p))), .ref 166]) (h' := HN (PT g q123 dd123 b l w W.length (opn W)) hl (RF rt)) rfl ?_
        refine Ev.topI (pk_mul _ _) ?_
        refine Ev.run 4 (pc' := 75) (lv' := [(2, .int (nI (pkS g (p + 1)))), (1, .int (nI (plcS (pkS g p)))), (0, .ref 166)]) (st' := [.int (nI (pkS g (p + 1)) - nI 60), .int (nI 100), .int (nI (1000 * (plcS (pkS g p)))), .ref 166]) (h' := HN (PT g q123 dd123 b l w W.length (opn W)) hl (RF rt)) rfl ?_
        refine Ev.topI (pk_sub (a := (pkS g (p + 1))) (b := 60) (by omega)) ?_
        refine Ev.run 1 (pc' := 76) (lv' := [(2, .int (nI (pkS g (p + 1)))), (1, .int (nI (plcS (pkS g p)))), (0, .ref 166)]) (st' := [.int (nI 100 * nI ((pkS g (p + 1)) - 60)), .int (nI (1000 * (plcS (pkS g p)))), .ref 166]) (h' := HN (PT g q123 dd123 b l w W.length (opn W)) hl (RF rt)) rfl ?_
        refine Ev.topI (pk_mul _ _) ?_
        refine Ev.run 1 (pc' := 77) (lv' := [(2, .int (nI (pkS g (p + 1)))), (1, .int (nI (plcS (pkS g p)))), (0, .ref 166)]) (st' := [.int (nI (1000 * (plcS (pkS g p))) + nI (100 * ((pkS g (p + 1)) - 60))), .ref 166]) (h' := HN (PT g q123 dd123 b l w W.length (opn W)) hl (RF rt)) rfl ?_
        refine Ev.topI (nI_add _ _) ?_
        refine Ev.run 3 (pc' := 82) (lv' := [(2, .int (nI (pkS g (p + 1)))), (1, .int (nI (plcS (pkS g p)))), (0, .ref 166)]) (st' := [.int (nI ((1000 * (plcS (pkS g p))) + (100 * ((pkS g (p + 1)) - 60))) + nI dd123), .ref 166]) (h' := HN (PT g q123 dd123 b l w W.length (opn W)) hl (RF rt)) rfl ?_
        refine Ev.topI (nI_add _ _) ?_
        refine Ev.call (a := 146) (as := [.ref 166, .int (nI (((1000 * (plcS (pkS g p))) + (100 * ((pkS g (p + 1)) - 60))) + dd123))]) (rest := []) (lv0 := [(0, .ref 166), (1, .int (nI (((1000 * (plcS (pkS g p))) + (100 * ((pkS g (p + 1)) - 60))) + dd123)))]) (Q1 := (fun z0 h' => z0 = none ∧ h' = HN (PT g q123 dd123 b (l ++ [(((1000 * (plcS (pkS g p))) + (100 * ((pkS g (p + 1)) - 60))) + dd123)]) w W.length (opn W)) hl (RF rt))) rfl rfl (C_emits _ g _ _ q123 dd123 b l w W.length (opn W) (((1000 * (plcS (pkS g p))) + (100 * ((pkS g (p + 1)) - 60))) + dd123) (show _ < 600 by first | omega | (simp only [List.length_append, List.length_cons, List.length_nil]; omega)) ⟨rfl, rfl⟩) (fun r h' hr => ?_)
        obtain ⟨rfl, rfl⟩ := hr
        refine Ev.run 1 (pc' := 86) (lv' := [(2, .int (nI (pkS g (p + 1)))), (1, .int (nI (plcS (pkS g p)))), (0, .ref 166)]) (st' := [.ref 166]) (h' := HN (PT g q123 dd123 b (l ++ [(((1000 * (plcS (pkS g p))) + (100 * ((pkS g (p + 1)) - 60))) + dd123)]) w W.length (opn W)) hl (RF rt)) rfl ?_
        refine Ev.call (a := 147) (as := [.ref 166]) (rest := []) (lv0 := [(0, .ref 166)]) (Q1 := (fun z0 h' => z0 = none ∧ h' = HN (PT g q123 dd123 b ((l ++ [(((1000 * (plcS (pkS g p))) + (100 * ((pkS g (p + 1)) - 60))) + dd123)]) ++ whL W) w ((whW W).length) (opn (whW W))) hl (RF rt))) rfl rfl (C_whole _ g _ _ q123 dd123 b w W (l ++ [(((1000 * (plcS (pkS g p))) + (100 * ((pkS g (p + 1)) - 60))) + dd123)]) hW (by first | omega | (simp only [List.length_append, List.length_cons, List.length_nil]; omega)) (by omega) ⟨rfl, rfl⟩) (fun r h' hr => ?_)
        obtain ⟨rfl, rfl⟩ := hr
        refine Ev.run 1 (pc' := 90) (lv' := [(2, .int (nI (pkS g (p + 1)))), (1, .int (nI (plcS (pkS g p)))), (0, .ref 166)]) (st' := [.int (nI 1)]) (h' := HN (PT g q123 dd123 b ((l ++ [(((1000 * (plcS (pkS g p))) + (100 * ((pkS g (p + 1)) - 60))) + dd123)]) ++ whL W) w ((whW W).length) (opn (whW W))) hl (RF rt)) rfl ?_
        refine Ev.ret (v := some (.int (nI 1))) rfl ?_
        have e : teS g p = (true, 1000 * plcS (pkS g p) + 100 * (pkS g (p + 1) - 60) + dd123, q123) := by unfold teS; rw [if_neg (by omega), if_pos (by omega), hnu]; rfl
        have hx := hq.1 _ _ dd123 e
        rw [List.append_assoc] 
        exact hx
      · skip
        refine Ev.run 2 (pc' := 62) (lv' := [(2, .int (nI (pkS g (p + 1)))), (1, .int (nI (plcS (pkS g p)))), (0, .ref 166)]) (st' := [.int (nI 0)]) (h' := HN (PT g ((p + 1) + 1) dg b l w W.length (opn W)) hl (RF rt)) rfl ?_
        refine Ev.ret (v := some (.int (nI 0))) rfl ?_
        exact hq.2 _ (by unfold teS; rw [if_neg (by omega), if_pos (by omega), hnu]; rfl)
    · have hhb39 : ¬ (60 ≤ pkS g (p + 1) ∧ pkS g (p + 1) ≤ 62) := of_decide_eq_false hb39
      refine Ev.run 2 (pc' := 43) (lv' := [(2, .int (nI (pkS g (p + 1)))), (1, .int (nI (plcS (pkS g p)))), (0, .ref 166)]) (st' := [.int (nI 0)]) (h' := HN (PT g (p + 1) dg b l w W.length (opn W)) hl (RF rt)) rfl ?_
      refine Ev.ret (v := some (.int (nI 0))) rfl ?_
      exact hq.2 _ (by unfold teS; rw [if_neg (by omega), if_neg (by omega)])
  · have hc10 : ¬ ((plcS (pkS g p)) < 2147483648) := fun z => hc10 ((nI_geU0 (by omega)).mpr z)
    refine Ev.run 1 (pc' := 14) (lv' := [(1, .int (nI (plcS (pkS g p)))), (0, .ref 166)]) (st' := [.int (nI 0)]) (h' := HN (PT g p dg b l w W.length (opn W)) hl (RF rt)) rfl ?_
    refine Ev.ret (v := some (.int (nI 0))) rfl ?_
    exact hq.2 _ (by unfold teS; rw [if_pos (by omega)])
