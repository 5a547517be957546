/-! the law's run -/
theorem law_run (L : Nat) (xs : Nat → Int32) (hL : L ≤ 3072) : Ev L xs 2000 0 0 [(0, .retAddr 0)] [] hp0 (fun r h => r = some (.int (nI 1)) ∧ h.1 = 210) := by
  refine Ev.run 2 (pc' := 4) (lv' := [(0, .retAddr 0)]) (st' := [.ref 0, .ref 0]) (h' := (1, ci_0, lz0, cr_0)) rfl ?_
  refine Ev.call (d := 1999) (a := 75) (as := [.ref 0]) (rest := [.ref 0]) (lv0 := [(0, .ref 0)]) (Q1 := (fun r h' => r = none ∧ h' = (166, ci_126, lz0, cr_165))) rfl rfl (CV_74 1994 ⟨rfl, rfl⟩) (fun r h' hr => ?_)
  obtain ⟨rfl, rfl⟩ := hr
  refine Ev.run 3 (pc' := 12) (lv' := [(1, .ref 0), (0, .retAddr 0)]) (st' := [.ref 166, .ref 166]) (h' := (167, ci_126, lz0, cr_165)) rfl ?_
  refine Ev.call (d := 1999) (a := 125) (as := [.ref 166]) (rest := [.ref 166]) (lv0 := [(0, .ref 166)]) (Q1 := (fun r h' => r = none ∧ h' = (210, ci_180, lz0, cr_208))) rfl rfl (CV_75 1997 ⟨rfl, rfl⟩) (fun r h' hr => ?_)
  obtain ⟨rfl, rfl⟩ := hr
  refine Ev.run 3 (pc' := 18) (lv' := [(3, .int (nI 0)), (2, .ref 166), (1, .ref 0), (0, .retAddr 0)]) (st' := []) (h' := (210, ci_180, lz0, cr_208)) rfl ?_
  refine Ev.hp first_cells ?_
  exact law_loop 1979 hL L 0 g0 lz0 (6, 8, 56, 114) (Nat.zero_le _) (by omega) first_inv
theorem law_exec (L : Nat) (xs : Nat → Int32) (hL : L ≤ 3072) : ∃ (n : Nat) (hE : Hp), exec L xs n 2000 0 0 [(0, .retAddr 0)] [] hp0 = some (some (.int 1), hE) ∧ hE.1 ≤ 600000 ∧ slt hE.1 ≤ 7302250 := by
  obtain ⟨n, r, e, h1, h2⟩ := law_run L xs hL
  obtain ⟨r1, r2⟩ := r
  have h1 : r1 = some (.int (nI 1)) := h1
  have h2 : r2.1 = 210 := h2
  subst h1
  refine ⟨n, r2, e, ?_, ?_⟩
  · rw [h2]; decide
  · rw [h2]; decide +kernel
