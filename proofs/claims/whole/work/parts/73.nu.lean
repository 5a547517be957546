/-! the class: a player becomes one -/
def bcP (g : Nat → Nat → Nat) (c n k v : Nat) : Nat → Nat → Nat := flR (u2 (u2 (u2 g c 1 n) c 2 k) c 3 v) (c + 1) 0 4
theorem K_become {L : Nat} {xs : Nat → Int32} (d : Nat) (g : Nat → Nat → Nat) (hl : Nat → Nat → Int64) (rt : Nat × Nat × Nat × Nat) (c n k v : Nat) (hc : KC c 4 4) (hp : KC (c + 1) 11 4) (hr : RF rt c 0 = some (c + 1)) {Q : Po} (hq : Q none (HN (bcP g c n k v) hl (RF rt))) : Ev L xs (d + 1) 48 0 [(0, .ref c), (1, .int (nI n)), (2, .int (nI k)), (3, .int (nI v))] [] (HN g hl (RF rt)) Q := by
  refine Ev.run 2 (pc' := 2) (lv' := [(0, .ref c), (1, .int (nI n)), (2, .int (nI k)), (3, .int (nI v))]) (st' := [.int (nI n), .ref c]) (h' := HN g hl (RF rt)) rfl ?_
  refine Ev_pfI rfl hc ?_
  refine Ev.run 2 (pc' := 7) (lv' := [(0, .ref c), (1, .int (nI n)), (2, .int (nI k)), (3, .int (nI v))]) (st' := [.int (nI k), .ref c]) (h' := HN (u2 g c 1 n) hl (RF rt)) rfl ?_
  refine Ev_pfI rfl hc ?_
  refine Ev.run 2 (pc' := 12) (lv' := [(0, .ref c), (1, .int (nI n)), (2, .int (nI k)), (3, .int (nI v))]) (st' := [.int (nI v), .ref c]) (h' := HN (u2 (u2 g c 1 n) c 2 k) hl (RF rt)) rfl ?_
  refine Ev_pfI rfl hc ?_
  refine Ev.run 1 (pc' := 16) (lv' := [(0, .ref c), (1, .int (nI n)), (2, .int (nI k)), (3, .int (nI v))]) (st' := [.ref c]) (h' := HN (u2 (u2 (u2 g c 1 n) c 2 k) c 3 v) hl (RF rt)) rfl ?_
  refine Ev_gfR rfl rfl rfl hc hr ?_
  refine Ev.run 1 (pc' := 20) (lv' := [(0, .ref c), (1, .int (nI n)), (2, .int (nI k)), (3, .int (nI v))]) (st' := [.int (nI 0), .ref (c + 1)]) (h' := HN (u2 (u2 (u2 g c 1 n) c 2 k) c 3 v) hl (RF rt)) rfl ?_
  refine Ev.call (a := 255) (as := [.ref (c + 1), .int (nI 0)]) (rest := []) (lv0 := [(0, .ref (c + 1)), (1, .int (nI 0))]) (Q1 := (fun z0 h' => z0 = none ∧ h' = HN (bcP g c n k v) hl (RF rt))) rfl rfl (K_fill _ _ _ _ (c + 1) 4 0 hp (by omega) ⟨rfl, rfl⟩) (fun r h' hr => ?_)
  obtain ⟨rfl, rfl⟩ := hr
  exact Ev.ret (v := none) rfl hq
