/-! the class: a player is copied -/
def cpP (g : Nat → Nat → Nat) (c0 c1 : Nat) : Nat → Nat → Nat := cpR (bcP g c1 (g c0 1) (g c0 2) (g c0 3)) (c1 + 1) 0 4 (bcP g c1 (g c0 1) (g c0 2) (g c0 3) (c0 + 1))
theorem K_copyPlayer {L : Nat} {xs : Nat → Int32} (d : Nat) (g : Nat → Nat → Nat) (hl : Nat → Nat → Int64) (rt : Nat × Nat × Nat × Nat) (c0 c1 : Nat) (h0 : KC c0 4 4) (p0 : KC (c0 + 1) 11 4) (r0 : RF rt c0 0 = some (c0 + 1)) (h1 : KC c1 4 4) (p1 : KC (c1 + 1) 11 4) (r1 : RF rt c1 0 = some (c1 + 1)) {Q : Po} (hq : Q none (HN (cpP g c0 c1) hl (RF rt))) : Ev L xs (d + 2) 49 0 [(0, .ref c1), (1, .ref c0)] [] (HN g hl (RF rt)) Q := by
  refine Ev.run 2 (pc' := 2) (lv' := [(0, .ref c1), (1, .ref c0)]) (st' := [.ref c0, .ref c1]) (h' := HN g hl (RF rt)) rfl ?_
  refine Ev_gfI rfl rfl rfl h0 ?_
  refine Ev.run 1 (pc' := 6) (lv' := [(0, .ref c1), (1, .ref c0)]) (st' := [.ref c0, .int (nI (g c0 1)), .ref c1]) (h' := HN g hl (RF rt)) rfl ?_
  refine Ev_gfI rfl rfl rfl h0 ?_
  refine Ev.run 1 (pc' := 10) (lv' := [(0, .ref c1), (1, .ref c0)]) (st' := [.ref c0, .int (nI (g c0 2)), .int (nI (g c0 1)), .ref c1]) (h' := HN g hl (RF rt)) rfl ?_
  refine Ev_gfI rfl rfl rfl h0 ?_
  refine Ev_callV (a := 48) (as := [.ref c1, .int (nI (g c0 1)), .int (nI (g c0 2)), .int (nI (g c0 3))]) (rest := []) (lv0 := [(0, .ref c1), (1, .int (nI (g c0 1))), (2, .int (nI (g c0 2))), (3, .int (nI (g c0 3)))]) (Q1 := (fun z0 h' => z0 = none ∧ h' = HN (bcP g c1 (g c0 1) (g c0 2) (g c0 3)) hl (RF rt))) rfl rfl rfl rfl rfl h1.k rfl rfl rfl (K_become _ _ _ _ c1 _ _ _ h1 p1 r1 ⟨rfl, rfl⟩) (fun r h' hr => ?_)
  obtain ⟨rfl, rfl⟩ := hr
  refine Ev.run 1 (pc' := 17) (lv' := [(0, .ref c1), (1, .ref c0)]) (st' := [.ref c0]) (h' := HN (bcP g c1 (g c0 1) (g c0 2) (g c0 3)) hl (RF rt)) rfl ?_
  refine Ev_gfR rfl rfl rfl h0 r0 ?_
  refine Ev.run 2 (pc' := 22) (lv' := [(0, .ref c1), (1, .ref c0)]) (st' := [.ref c1, .int (nI 0), .ref (c0 + 1)]) (h' := HN (bcP g c1 (g c0 1) (g c0 2) (g c0 3)) hl (RF rt)) rfl ?_
  refine Ev_gfR rfl rfl rfl h1 r1 ?_
  refine Ev.run 2 (pc' := 27) (lv' := [(0, .ref c1), (1, .ref c0)]) (st' := [.int (nI 4), .int (nI 0), .ref (c1 + 1), .int (nI 0), .ref (c0 + 1)]) (h' := HN (bcP g c1 (g c0 1) (g c0 2) (g c0 3)) hl (RF rt)) rfl ?_
  refine Ev_acpI rfl rfl rfl p0 p1 (by omega) (by omega) (by omega) ?_
  exact Ev.ret (v := none) rfl hq
