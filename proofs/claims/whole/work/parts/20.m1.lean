theorem C_in {L : Nat} {xs : Nat → Int32} (d : Nat) (v lo hi : Int32) (g : Nat → Nat → Nat) (hl : Nat → Nat → Int64) (rf : Nat → Nat → Option Nat) : Ev L xs d 126 0 [(0, .ref 166), (1, .int (v)), (2, .int (lo)), (3, .int (hi))] [] (HN g hl rf) (fun r h' => r = some (.int (nI (bn (decide (lo ≤ v) && decide (v ≤ hi))))) ∧ h' = HN g hl rf) := by
  refine Ev.run 3 (pc' := (if v < lo then 14 else 5)) (lv' := [(0, .ref 166), (1, .int (v)), (2, .int (lo)), (3, .int (hi))]) (st' := []) (h' := HN g hl rf) rfl ?_
  refine Ev.ite (fun hc1 => ?_) (fun hc1 => ?_)
  · skip
    refine Ev.run 1 (pc' := 15) (lv' := [(0, .ref 166), (1, .int (v)), (2, .int (lo)), (3, .int (hi))]) (st' := [.int (nI 0)]) (h' := HN g hl rf) rfl ?_
    refine Ev.ret (v := some (.int (nI 0))) rfl ?_
    refine ⟨?_, rfl⟩
    have e1 : ∀ a b : Int32, ¬ a < b ↔ b ≤ a := fun a b => Int32.not_lt
    simp_all [bn, Int32.not_lt]
  · skip
    refine Ev.run 3 (pc' := (if hi < v then 14 else 10)) (lv' := [(0, .ref 166), (1, .int (v)), (2, .int (lo)), (3, .int (hi))]) (st' := []) (h' := HN g hl rf) rfl ?_
    refine Ev.ite (fun hc2 => ?_) (fun hc2 => ?_)
    · skip
      refine Ev.run 1 (pc' := 15) (lv' := [(0, .ref 166), (1, .int (v)), (2, .int (lo)), (3, .int (hi))]) (st' := [.int (nI 0)]) (h' := HN g hl rf) rfl ?_
      refine Ev.ret (v := some (.int (nI 0))) rfl ?_
      refine ⟨?_, rfl⟩
      have e1 : ∀ a b : Int32, ¬ a < b ↔ b ≤ a := fun a b => Int32.not_lt
      simp_all [bn, Int32.not_lt]
    · skip
      refine Ev.run 2 (pc' := 15) (lv' := [(0, .ref 166), (1, .int (v)), (2, .int (lo)), (3, .int (hi))]) (st' := [.int (nI 1)]) (h' := HN g hl rf) rfl ?_
      refine Ev.ret (v := some (.int (nI 1))) rfl ?_
      refine ⟨?_, rfl⟩
      have e1 : ∀ a b : Int32, ¬ a < b ↔ b ≤ a := fun a b => Int32.not_lt
      simp_all [bn, Int32.not_lt]
theorem C_isIn {L : Nat} {xs : Nat → Int32} (d : Nat) (s k : Nat) (hs : s < 2 ^ 31) (hk : k < 32) (g : Nat → Nat → Nat) (hl : Nat → Nat → Int64) (rf : Nat → Nat → Option Nat) : Ev L xs d 127 0 [(0, .ref 166), (1, .int (nI s)), (2, .int (nI k))] [] (HN g hl rf) (fun r h' => r = some (.int (nI (bn (s.testBit k)))) ∧ h' = HN g hl rf) := by
  have hand : (s >>> k) &&& 1 < 2 := by rw [Nat.and_one_is_mod]; omega
  have hsh : s >>> k < 2 ^ 31 := Nat.lt_of_le_of_lt (Nat.shiftRight_le s k) hs
  refine Ev.run 3 (pc' := 3) (lv' := [(0, .ref 166), (1, .int (nI s)), (2, .int (nI k))]) (st' := [.int (nI s >>> (nI k &&& 31))]) (h' := HN g hl rf) rfl ?_
  refine Ev.topI (nI_shr (by omega) (by omega)) ?_
  refine Ev.run 2 (pc' := 5) (lv' := [(0, .ref 166), (1, .int (nI s)), (2, .int (nI k))]) (st' := [.int (nI (s >>> k) &&& nI 1)]) (h' := HN g hl rf) rfl ?_
  refine Ev.topI (nI_and (by omega) (by omega)) ?_
  refine Ev.run 2 (pc' := (if nI ((s >>> k) &&& 1) = nI 1 then 9 else 13)) (lv' := [(0, .ref 166), (1, .int (nI s)), (2, .int (nI k))]) (st' := []) (h' := HN g hl rf) rfl ?_
  refine Ev.ite (fun hc1 => ?_) (fun hc1 => ?_)
  · have hc1 : ((s >>> k) &&& 1) = 1 := (nI_eq (by omega) (by omega)).mp hc1
    refine Ev.run 2 (pc' := 14) (lv' := [(0, .ref 166), (1, .int (nI s)), (2, .int (nI k))]) (st' := [.int (nI 1)]) (h' := HN g hl rf) rfl ?_
    refine Ev.ret (v := some (.int (nI 1))) rfl ?_
    refine ⟨?_, rfl⟩
    rw [Nat.testBit_eq_decide_div_mod_eq]
    simp only [Nat.and_one_is_mod, Nat.shiftRight_eq_div_pow] at hc1
    simp [bn, hc1]
  · have hc1 : ¬ (((s >>> k) &&& 1) = 1) := fun z => hc1 ((nI_eq (by omega) (by omega)).mpr z)
    refine Ev.run 1 (pc' := 14) (lv' := [(0, .ref 166), (1, .int (nI s)), (2, .int (nI k))]) (st' := [.int (nI 0)]) (h' := HN g hl rf) rfl ?_
    refine Ev.ret (v := some (.int (nI 0))) rfl ?_
    refine ⟨?_, rfl⟩
    rw [Nat.testBit_eq_decide_div_mod_eq]
    simp only [Nat.and_one_is_mod, Nat.shiftRight_eq_div_pow] at hc1
    simp [bn, hc1]
