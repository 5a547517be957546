/-! the class: a line is copied -/
theorem K_copyLine {L : Nat} {xs : Nat → Int32} (d : Nat) (g : Nat → Nat → Nat) (hl : Nat → Nat → Int64) (rt : Nat × Nat × Nat × Nat) (c0 c1 N0 N1 : Nat) (h0 : LnC rt c0 N0) (h1 : LnC rt c1 N1) (hs0 : g c0 1 ≤ N0) (hs1 : g c0 1 ≤ N1) (hn : c0 + 1 ≠ c1) {Q : Po} (hq : Q none (HN (cpLn g c0 c1) hl (RF rt))) : Ev L xs (d + 2) 46 0 [(0, .ref c1), (1, .ref c0)] [] (HN g hl (RF rt)) Q := by
  have hN0 := h0.2.2.2
  have hN1 := h1.2.2.2
  refine Ev.run 2 (pc' := 2) (lv' := [(0, .ref c1), (1, .ref c0)]) (st' := [.ref c0, .ref c1]) (h' := HN g hl (RF rt)) rfl ?_
  refine Ev_gfI rfl rfl rfl h0.1 ?_
  refine Ev.run 1 (pc' := 6) (lv' := [(0, .ref c1), (1, .ref c0)]) (st' := [.ref c1, .int (nI (g c0 1)), .ref c1]) (h' := HN g hl (RF rt)) rfl ?_
  refine Ev_gfR rfl rfl rfl h1.1 h1.2.2.1 ?_
  refine Ev_alen rfl h1.2.1 rfl ?_
  refine Ev_min rfl (x := g c0 1) (y := N1) (by omega) (by omega) rfl rfl ?_
  refine Ev.topI (congrArg nI (if_neg (show ¬ N1 < g c0 1 by omega))) ?_
  refine Ev_pfI rfl h1.1 ?_
  refine Ev.run 1 (pc' := 17) (lv' := [(0, .ref c1), (1, .ref c0)]) (st' := [.ref c0]) (h' := HN (u2 g c1 1 (g c0 1)) hl (RF rt)) rfl ?_
  refine Ev_gfR rfl rfl rfl h0.1 h0.2.2.1 ?_
  refine Ev.run 2 (pc' := 22) (lv' := [(0, .ref c1), (1, .ref c0)]) (st' := [.ref c1, .int (nI 0), .ref (c0 + 1)]) (h' := HN (u2 g c1 1 (g c0 1)) hl (RF rt)) rfl ?_
  refine Ev_gfR rfl rfl rfl h1.1 h1.2.2.1 ?_
  refine Ev.run 2 (pc' := 27) (lv' := [(0, .ref c1), (1, .ref c0)]) (st' := [.ref c1, .int (nI 0), .ref (c1 + 1), .int (nI 0), .ref (c0 + 1)]) (h' := HN (u2 g c1 1 (g c0 1)) hl (RF rt)) rfl ?_
  refine Ev_gfI rfl rfl rfl h1.1 ?_
  refine Ev.topI (congrArg nI (u2_at g c1 1 (g c0 1))) ?_
  refine Ev_acpI rfl rfl rfl h0.2.1 h1.2.1 hs0 hs1 (by omega) ?_
  rw [show (u2 g c1 1 (g c0 1)) (c0 + 1) = g (c0 + 1) from funext fun b => u2_ne g (Or.inl hn)]
  exact Ev.ret (v := none) rfl hq
