/-! the class: kinds, the sly one, the choice -/
def undS (k o : Nat) : Bool := decide (k = o ∨ (k = 4 ∧ o = 1) ∨ (k = 5 ∧ o = 2) ∨ (k = 6 ∧ o = 3))
theorem K_und {L : Nat} {xs : Nat → Int32} (d : Nat) (h0 : Hp) (g : Nat → Nat → Nat) (hl : Nat → Nat → Int64) (rt : Nat × Nat × Nat × Nat) (k o : Nat) (hk : k ≤ 6) (ho : 1 ≤ o ∧ o ≤ 3) {Q : Po} (hq : Q (some (.int (nI (bn (undS k o))))) (HN g hl (RF rt))) : Ev L xs (d + 2) 121 0 [(0, .int (nI k)), (1, .int (nI o))] [] (HN g hl (RF rt)) Q := by
  rcases (show k = 0 ∨ k = 1 ∨ k = 2 ∨ k = 3 ∨ k = 4 ∨ k = 5 ∨ k = 6 by omega) with rfl | rfl | rfl | rfl | rfl | rfl | rfl <;> rcases (show o = 1 ∨ o = 2 ∨ o = 3 by omega) with rfl | rfl | rfl
  · refine Ev.run 7 (pc' := 9) (lv' := [(3, .int (nI 0)), (2, .int (nI 0)), (0, .int (nI 0)), (1, .int (nI 1))]) (st' := [.int (Int32.ofNat (xLen L 1)), .int (nI 0)]) (h' := HN g hl (RF rt)) rfl ?_
    refine Ev.topI (show Int32.ofNat (xLen L 1) = nI 7 from rfl) ?_
    refine Ev.run 2 (pc' := 13) (lv' := [(3, .int (nI 0)), (2, .int (nI 0)), (0, .int (nI 0)), (1, .int (nI 1))]) (st' := [.int (nI 0)]) (h' := HN g hl (RF rt)) rfl ?_
    refine Ev.call (a := 120) (as := [.int (nI 0)]) (rest := []) (lv0 := [(0, .int (nI 0))]) (Q1 := (fun z0 h' => z0 = some (.int (nI 1)) ∧ h' = HN g hl (RF rt))) rfl rfl (K_isKind _ _ _ _ 0 (by omega) ⟨rfl, rfl⟩) (fun r h' hr => ?_)
    obtain ⟨rfl, rfl⟩ := hr
    refine Ev.run 6 (pc' := 30) (lv' := [(3, .int (nI 0)), (2, .int (nI 0)), (0, .int (nI 0)), (1, .int (nI 1))]) (st' := [.int (nI 0), .retAddr 1]) (h' := HN g hl (RF rt)) rfl ?_
    refine Ev_xald rfl (by decide) (show 0 < 7 by omega) (show 7 < 2 ^ 31 by decide) ?_
    refine Ev.topI (show xVal xs 1 0 = nI 4294967295 from rfl) ?_
    refine Ev.run 6 (pc' := 9) (lv' := [(3, .int (nI 1)), (2, .int (nI 4294967295)), (0, .int (nI 0)), (1, .int (nI 1))]) (st' := [.int (Int32.ofNat (xLen L 1)), .int (nI 1)]) (h' := HN g hl (RF rt)) rfl ?_
    refine Ev.topI (show Int32.ofNat (xLen L 1) = nI 7 from rfl) ?_
    refine Ev.run 2 (pc' := 13) (lv' := [(3, .int (nI 1)), (2, .int (nI 4294967295)), (0, .int (nI 0)), (1, .int (nI 1))]) (st' := [.int (nI 4294967295)]) (h' := HN g hl (RF rt)) rfl ?_
    refine Ev.call (a := 120) (as := [.int (nI 4294967295)]) (rest := []) (lv0 := [(0, .int (nI 4294967295))]) (Q1 := (fun z0 h' => z0 = some (.int (nI 0)) ∧ h' = HN g hl (RF rt))) rfl rfl (K_isKind _ _ _ _ 4294967295 (by omega) ⟨rfl, rfl⟩) (fun r h' hr => ?_)
    obtain ⟨rfl, rfl⟩ := hr
    refine Ev.run 2 (pc' := 39) (lv' := [(3, .int (nI 1)), (2, .int (nI 4294967295)), (0, .int (nI 0)), (1, .int (nI 1))]) (st' := [.int (nI 0)]) (h' := HN g hl (RF rt)) rfl ?_
    refine Ev.ret (v := some (.int (nI 0))) rfl ?_
    exact hq
  · refine Ev.run 7 (pc' := 9) (lv' := [(3, .int (nI 0)), (2, .int (nI 0)), (0, .int (nI 0)), (1, .int (nI 2))]) (st' := [.int (Int32.ofNat (xLen L 1)), .int (nI 0)]) (h' := HN g hl (RF rt)) rfl ?_
    refine Ev.topI (show Int32.ofNat (xLen L 1) = nI 7 from rfl) ?_
    refine Ev.run 2 (pc' := 13) (lv' := [(3, .int (nI 0)), (2, .int (nI 0)), (0, .int (nI 0)), (1, .int (nI 2))]) (st' := [.int (nI 0)]) (h' := HN g hl (RF rt)) rfl ?_
    refine Ev.call (a := 120) (as := [.int (nI 0)]) (rest := []) (lv0 := [(0, .int (nI 0))]) (Q1 := (fun z0 h' => z0 = some (.int (nI 1)) ∧ h' = HN g hl (RF rt))) rfl rfl (K_isKind _ _ _ _ 0 (by omega) ⟨rfl, rfl⟩) (fun r h' hr => ?_)
    obtain ⟨rfl, rfl⟩ := hr
    refine Ev.run 6 (pc' := 30) (lv' := [(3, .int (nI 0)), (2, .int (nI 0)), (0, .int (nI 0)), (1, .int (nI 2))]) (st' := [.int (nI 0), .retAddr 1]) (h' := HN g hl (RF rt)) rfl ?_
    refine Ev_xald rfl (by decide) (show 0 < 7 by omega) (show 7 < 2 ^ 31 by decide) ?_
    refine Ev.topI (show xVal xs 1 0 = nI 4294967295 from rfl) ?_
    refine Ev.run 6 (pc' := 9) (lv' := [(3, .int (nI 1)), (2, .int (nI 4294967295)), (0, .int (nI 0)), (1, .int (nI 2))]) (st' := [.int (Int32.ofNat (xLen L 1)), .int (nI 1)]) (h' := HN g hl (RF rt)) rfl ?_
    refine Ev.topI (show Int32.ofNat (xLen L 1) = nI 7 from rfl) ?_
    refine Ev.run 2 (pc' := 13) (lv' := [(3, .int (nI 1)), (2, .int (nI 4294967295)), (0, .int (nI 0)), (1, .int (nI 2))]) (st' := [.int (nI 4294967295)]) (h' := HN g hl (RF rt)) rfl ?_
    refine Ev.call (a := 120) (as := [.int (nI 4294967295)]) (rest := []) (lv0 := [(0, .int (nI 4294967295))]) (Q1 := (fun z0 h' => z0 = some (.int (nI 0)) ∧ h' = HN g hl (RF rt))) rfl rfl (K_isKind _ _ _ _ 4294967295 (by omega) ⟨rfl, rfl⟩) (fun r h' hr => ?_)
    obtain ⟨rfl, rfl⟩ := hr
    refine Ev.run 2 (pc' := 39) (lv' := [(3, .int (nI 1)), (2, .int (nI 4294967295)), (0, .int (nI 0)), (1, .int (nI 2))]) (st' := [.int (nI 0)]) (h' := HN g hl (RF rt)) rfl ?_
    refine Ev.ret (v := some (.int (nI 0))) rfl ?_
    exact hq
  · refine Ev.run 7 (pc' := 9) (lv' := [(3, .int (nI 0)), (2, .int (nI 0)), (0, .int (nI 0)), (1, .int (nI 3))]) (st' := [.int (Int32.ofNat (xLen L 1)), .int (nI 0)]) (h' := HN g hl (RF rt)) rfl ?_
    refine Ev.topI (show Int32.ofNat (xLen L 1) = nI 7 from rfl) ?_
    refine Ev.run 2 (pc' := 13) (lv' := [(3, .int (nI 0)), (2, .int (nI 0)), (0, .int (nI 0)), (1, .int (nI 3))]) (st' := [.int (nI 0)]) (h' := HN g hl (RF rt)) rfl ?_
    refine Ev.call (a := 120) (as := [.int (nI 0)]) (rest := []) (lv0 := [(0, .int (nI 0))]) (Q1 := (fun z0 h' => z0 = some (.int (nI 1)) ∧ h' = HN g hl (RF rt))) rfl rfl (K_isKind _ _ _ _ 0 (by omega) ⟨rfl, rfl⟩) (fun r h' hr => ?_)
    obtain ⟨rfl, rfl⟩ := hr
    refine Ev.run 6 (pc' := 30) (lv' := [(3, .int (nI 0)), (2, .int (nI 0)), (0, .int (nI 0)), (1, .int (nI 3))]) (st' := [.int (nI 0), .retAddr 1]) (h' := HN g hl (RF rt)) rfl ?_
    refine Ev_xald rfl (by decide) (show 0 < 7 by omega) (show 7 < 2 ^ 31 by decide) ?_
    refine Ev.topI (show xVal xs 1 0 = nI 4294967295 from rfl) ?_
    refine Ev.run 6 (pc' := 9) (lv' := [(3, .int (nI 1)), (2, .int (nI 4294967295)), (0, .int (nI 0)), (1, .int (nI 3))]) (st' := [.int (Int32.ofNat (xLen L 1)), .int (nI 1)]) (h' := HN g hl (RF rt)) rfl ?_
    refine Ev.topI (show Int32.ofNat (xLen L 1) = nI 7 from rfl) ?_
    refine Ev.run 2 (pc' := 13) (lv' := [(3, .int (nI 1)), (2, .int (nI 4294967295)), (0, .int (nI 0)), (1, .int (nI 3))]) (st' := [.int (nI 4294967295)]) (h' := HN g hl (RF rt)) rfl ?_
    refine Ev.call (a := 120) (as := [.int (nI 4294967295)]) (rest := []) (lv0 := [(0, .int (nI 4294967295))]) (Q1 := (fun z0 h' => z0 = some (.int (nI 0)) ∧ h' = HN g hl (RF rt))) rfl rfl (K_isKind _ _ _ _ 4294967295 (by omega) ⟨rfl, rfl⟩) (fun r h' hr => ?_)
    obtain ⟨rfl, rfl⟩ := hr
    refine Ev.run 2 (pc' := 39) (lv' := [(3, .int (nI 1)), (2, .int (nI 4294967295)), (0, .int (nI 0)), (1, .int (nI 3))]) (st' := [.int (nI 0)]) (h' := HN g hl (RF rt)) rfl ?_
    refine Ev.ret (v := some (.int (nI 0))) rfl ?_
    exact hq
  · refine Ev.run 7 (pc' := 9) (lv' := [(3, .int (nI 0)), (2, .int (nI 1)), (0, .int (nI 1)), (1, .int (nI 1))]) (st' := [.int (Int32.ofNat (xLen L 1)), .int (nI 0)]) (h' := HN g hl (RF rt)) rfl ?_
    refine Ev.topI (show Int32.ofNat (xLen L 1) = nI 7 from rfl) ?_
    refine Ev.run 2 (pc' := 13) (lv' := [(3, .int (nI 0)), (2, .int (nI 1)), (0, .int (nI 1)), (1, .int (nI 1))]) (st' := [.int (nI 1)]) (h' := HN g hl (RF rt)) rfl ?_
    refine Ev.call (a := 120) (as := [.int (nI 1)]) (rest := []) (lv0 := [(0, .int (nI 1))]) (Q1 := (fun z0 h' => z0 = some (.int (nI 1)) ∧ h' = HN g hl (RF rt))) rfl rfl (K_isKind _ _ _ _ 1 (by omega) ⟨rfl, rfl⟩) (fun r h' hr => ?_)
    obtain ⟨rfl, rfl⟩ := hr
    refine Ev.run 5 (pc' := 25) (lv' := [(3, .int (nI 0)), (2, .int (nI 1)), (0, .int (nI 1)), (1, .int (nI 1))]) (st' := [.int (nI 1)]) (h' := HN g hl (RF rt)) rfl ?_
    refine Ev.ret (v := some (.int (nI 1))) rfl ?_
    exact hq
  · refine Ev.run 7 (pc' := 9) (lv' := [(3, .int (nI 0)), (2, .int (nI 1)), (0, .int (nI 1)), (1, .int (nI 2))]) (st' := [.int (Int32.ofNat (xLen L 1)), .int (nI 0)]) (h' := HN g hl (RF rt)) rfl ?_
    refine Ev.topI (show Int32.ofNat (xLen L 1) = nI 7 from rfl) ?_
    refine Ev.run 2 (pc' := 13) (lv' := [(3, .int (nI 0)), (2, .int (nI 1)), (0, .int (nI 1)), (1, .int (nI 2))]) (st' := [.int (nI 1)]) (h' := HN g hl (RF rt)) rfl ?_
    refine Ev.call (a := 120) (as := [.int (nI 1)]) (rest := []) (lv0 := [(0, .int (nI 1))]) (Q1 := (fun z0 h' => z0 = some (.int (nI 1)) ∧ h' = HN g hl (RF rt))) rfl rfl (K_isKind _ _ _ _ 1 (by omega) ⟨rfl, rfl⟩) (fun r h' hr => ?_)
    obtain ⟨rfl, rfl⟩ := hr
    refine Ev.run 6 (pc' := 30) (lv' := [(3, .int (nI 0)), (2, .int (nI 1)), (0, .int (nI 1)), (1, .int (nI 2))]) (st' := [.int (nI 1), .retAddr 1]) (h' := HN g hl (RF rt)) rfl ?_
    refine Ev_xald rfl (by decide) (show 1 < 7 by omega) (show 7 < 2 ^ 31 by decide) ?_
    refine Ev.topI (show xVal xs 1 1 = nI 0 from rfl) ?_
    refine Ev.run 6 (pc' := 9) (lv' := [(3, .int (nI 1)), (2, .int (nI 0)), (0, .int (nI 1)), (1, .int (nI 2))]) (st' := [.int (Int32.ofNat (xLen L 1)), .int (nI 1)]) (h' := HN g hl (RF rt)) rfl ?_
    refine Ev.topI (show Int32.ofNat (xLen L 1) = nI 7 from rfl) ?_
    refine Ev.run 2 (pc' := 13) (lv' := [(3, .int (nI 1)), (2, .int (nI 0)), (0, .int (nI 1)), (1, .int (nI 2))]) (st' := [.int (nI 0)]) (h' := HN g hl (RF rt)) rfl ?_
    refine Ev.call (a := 120) (as := [.int (nI 0)]) (rest := []) (lv0 := [(0, .int (nI 0))]) (Q1 := (fun z0 h' => z0 = some (.int (nI 1)) ∧ h' = HN g hl (RF rt))) rfl rfl (K_isKind _ _ _ _ 0 (by omega) ⟨rfl, rfl⟩) (fun r h' hr => ?_)
    obtain ⟨rfl, rfl⟩ := hr
    refine Ev.run 6 (pc' := 30) (lv' := [(3, .int (nI 1)), (2, .int (nI 0)), (0, .int (nI 1)), (1, .int (nI 2))]) (st' := [.int (nI 0), .retAddr 1]) (h' := HN g hl (RF rt)) rfl ?_
    refine Ev_xald rfl (by decide) (show 0 < 7 by omega) (show 7 < 2 ^ 31 by decide) ?_
    refine Ev.topI (show xVal xs 1 0 = nI 4294967295 from rfl) ?_
    refine Ev.run 6 (pc' := 9) (lv' := [(3, .int (nI 2)), (2, .int (nI 4294967295)), (0, .int (nI 1)), (1, .int (nI 2))]) (st' := [.int (Int32.ofNat (xLen L 1)), .int (nI 2)]) (h' := HN g hl (RF rt)) rfl ?_
    refine Ev.topI (show Int32.ofNat (xLen L 1) = nI 7 from rfl) ?_
    refine Ev.run 2 (pc' := 13) (lv' := [(3, .int (nI 2)), (2, .int (nI 4294967295)), (0, .int (nI 1)), (1, .int (nI 2))]) (st' := [.int (nI 4294967295)]) (h' := HN g hl (RF rt)) rfl ?_
    refine Ev.call (a := 120) (as := [.int (nI 4294967295)]) (rest := []) (lv0 := [(0, .int (nI 4294967295))]) (Q1 := (fun z0 h' => z0 = some (.int (nI 0)) ∧ h' = HN g hl (RF rt))) rfl rfl (K_isKind _ _ _ _ 4294967295 (by omega) ⟨rfl, rfl⟩) (fun r h' hr => ?_)
    obtain ⟨rfl, rfl⟩ := hr
    refine Ev.run 2 (pc' := 39) (lv' := [(3, .int (nI 2)), (2, .int (nI 4294967295)), (0, .int (nI 1)), (1, .int (nI 2))]) (st' := [.int (nI 0)]) (h' := HN g hl (RF rt)) rfl ?_
    refine Ev.ret (v := some (.int (nI 0))) rfl ?_
    exact hq
  · refine Ev.run 7 (pc' := 9) (lv' := [(3, .int (nI 0)), (2, .int (nI 1)), (0, .int (nI 1)), (1, .int (nI 3))]) (st' := [.int (Int32.ofNat (xLen L 1)), .int (nI 0)]) (h' := HN g hl (RF rt)) rfl ?_
    refine Ev.topI (show Int32.ofNat (xLen L 1) = nI 7 from rfl) ?_
    refine Ev.run 2 (pc' := 13) (lv' := [(3, .int (nI 0)), (2, .int (nI 1)), (0, .int (nI 1)), (1, .int (nI 3))]) (st' := [.int (nI 1)]) (h' := HN g hl (RF rt)) rfl ?_
    refine Ev.call (a := 120) (as := [.int (nI 1)]) (rest := []) (lv0 := [(0, .int (nI 1))]) (Q1 := (fun z0 h' => z0 = some (.int (nI 1)) ∧ h' = HN g hl (RF rt))) rfl rfl (K_isKind _ _ _ _ 1 (by omega) ⟨rfl, rfl⟩) (fun r h' hr => ?_)
    obtain ⟨rfl, rfl⟩ := hr
    refine Ev.run 6 (pc' := 30) (lv' := [(3, .int (nI 0)), (2, .int (nI 1)), (0, .int (nI 1)), (1, .int (nI 3))]) (st' := [.int (nI 1), .retAddr 1]) (h' := HN g hl (RF rt)) rfl ?_
    refine Ev_xald rfl (by decide) (show 1 < 7 by omega) (show 7 < 2 ^ 31 by decide) ?_
    refine Ev.topI (show xVal xs 1 1 = nI 0 from rfl) ?_
    refine Ev.run 6 (pc' := 9) (lv' := [(3, .int (nI 1)), (2, .int (nI 0)), (0, .int (nI 1)), (1, .int (nI 3))]) (st' := [.int (Int32.ofNat (xLen L 1)), .int (nI 1)]) (h' := HN g hl (RF rt)) rfl ?_
    refine Ev.topI (show Int32.ofNat (xLen L 1) = nI 7 from rfl) ?_
    refine Ev.run 2 (pc' := 13) (lv' := [(3, .int (nI 1)), (2, .int (nI 0)), (0, .int (nI 1)), (1, .int (nI 3))]) (st' := [.int (nI 0)]) (h' := HN g hl (RF rt)) rfl ?_
    refine Ev.call (a := 120) (as := [.int (nI 0)]) (rest := []) (lv0 := [(0, .int (nI 0))]) (Q1 := (fun z0 h' => z0 = some (.int (nI 1)) ∧ h' = HN g hl (RF rt))) rfl rfl (K_isKind _ _ _ _ 0 (by omega) ⟨rfl, rfl⟩) (fun r h' hr => ?_)
    obtain ⟨rfl, rfl⟩ := hr
    refine Ev.run 6 (pc' := 30) (lv' := [(3, .int (nI 1)), (2, .int (nI 0)), (0, .int (nI 1)), (1, .int (nI 3))]) (st' := [.int (nI 0), .retAddr 1]) (h' := HN g hl (RF rt)) rfl ?_
    refine Ev_xald rfl (by decide) (show 0 < 7 by omega) (show 7 < 2 ^ 31 by decide) ?_
    refine Ev.topI (show xVal xs 1 0 = nI 4294967295 from rfl) ?_
    refine Ev.run 6 (pc' := 9) (lv' := [(3, .int (nI 2)), (2, .int (nI 4294967295)), (0, .int (nI 1)), (1, .int (nI 3))]) (st' := [.int (Int32.ofNat (xLen L 1)), .int (nI 2)]) (h' := HN g hl (RF rt)) rfl ?_
    refine Ev.topI (show Int32.ofNat (xLen L 1) = nI 7 from rfl) ?_
    refine Ev.run 2 (pc' := 13) (lv' := [(3, .int (nI 2)), (2, .int (nI 4294967295)), (0, .int (nI 1)), (1, .int (nI 3))]) (st' := [.int (nI 4294967295)]) (h' := HN g hl (RF rt)) rfl ?_
    refine Ev.call (a := 120) (as := [.int (nI 4294967295)]) (rest := []) (lv0 := [(0, .int (nI 4294967295))]) (Q1 := (fun z0 h' => z0 = some (.int (nI 0)) ∧ h' = HN g hl (RF rt))) rfl rfl (K_isKind _ _ _ _ 4294967295 (by omega) ⟨rfl, rfl⟩) (fun r h' hr => ?_)
    obtain ⟨rfl, rfl⟩ := hr
    refine Ev.run 2 (pc' := 39) (lv' := [(3, .int (nI 2)), (2, .int (nI 4294967295)), (0, .int (nI 1)), (1, .int (nI 3))]) (st' := [.int (nI 0)]) (h' := HN g hl (RF rt)) rfl ?_
    refine Ev.ret (v := some (.int (nI 0))) rfl ?_
    exact hq
  · refine Ev.run 7 (pc' := 9) (lv' := [(3, .int (nI 0)), (2, .int (nI 2)), (0, .int (nI 2)), (1, .int (nI 1))]) (st' := [.int (Int32.ofNat (xLen L 1)), .int (nI 0)]) (h' := HN g hl (RF rt)) rfl ?_
    refine Ev.topI (show Int32.ofNat (xLen L 1) = nI 7 from rfl) ?_
    refine Ev.run 2 (pc' := 13) (lv' := [(3, .int (nI 0)), (2, .int (nI 2)), (0, .int (nI 2)), (1, .int (nI 1))]) (st' := [.int (nI 2)]) (h' := HN g hl (RF rt)) rfl ?_
    refine Ev.call (a := 120) (as := [.int (nI 2)]) (rest := []) (lv0 := [(0, .int (nI 2))]) (Q1 := (fun z0 h' => z0 = some (.int (nI 1)) ∧ h' = HN g hl (RF rt))) rfl rfl (K_isKind _ _ _ _ 2 (by omega) ⟨rfl, rfl⟩) (fun r h' hr => ?_)
    obtain ⟨rfl, rfl⟩ := hr
    refine Ev.run 6 (pc' := 30) (lv' := [(3, .int (nI 0)), (2, .int (nI 2)), (0, .int (nI 2)), (1, .int (nI 1))]) (st' := [.int (nI 2), .retAddr 1]) (h' := HN g hl (RF rt)) rfl ?_
    refine Ev_xald rfl (by decide) (show 2 < 7 by omega) (show 7 < 2 ^ 31 by decide) ?_
    refine Ev.topI (show xVal xs 1 2 = nI 0 from rfl) ?_
    refine Ev.run 6 (pc' := 9) (lv' := [(3, .int (nI 1)), (2, .int (nI 0)), (0, .int (nI 2)), (1, .int (nI 1))]) (st' := [.int (Int32.ofNat (xLen L 1)), .int (nI 1)]) (h' := HN g hl (RF rt)) rfl ?_
    refine Ev.topI (show Int32.ofNat (xLen L 1) = nI 7 from rfl) ?_
    refine Ev.run 2 (pc' := 13) (lv' := [(3, .int (nI 1)), (2, .int (nI 0)), (0, .int (nI 2)), (1, .int (nI 1))]) (st' := [.int (nI 0)]) (h' := HN g hl (RF rt)) rfl ?_
    refine Ev.call (a := 120) (as := [.int (nI 0)]) (rest := []) (lv0 := [(0, .int (nI 0))]) (Q1 := (fun z0 h' => z0 = some (.int (nI 1)) ∧ h' = HN g hl (RF rt))) rfl rfl (K_isKind _ _ _ _ 0 (by omega) ⟨rfl, rfl⟩) (fun r h' hr => ?_)
    obtain ⟨rfl, rfl⟩ := hr
    refine Ev.run 6 (pc' := 30) (lv' := [(3, .int (nI 1)), (2, .int (nI 0)), (0, .int (nI 2)), (1, .int (nI 1))]) (st' := [.int (nI 0), .retAddr 1]) (h' := HN g hl (RF rt)) rfl ?_
    refine Ev_xald rfl (by decide) (show 0 < 7 by omega) (show 7 < 2 ^ 31 by decide) ?_
    refine Ev.topI (show xVal xs 1 0 = nI 4294967295 from rfl) ?_
    refine Ev.run 6 (pc' := 9) (lv' := [(3, .int (nI 2)), (2, .int (nI 4294967295)), (0, .int (nI 2)), (1, .int (nI 1))]) (st' := [.int (Int32.ofNat (xLen L 1)), .int (nI 2)]) (h' := HN g hl (RF rt)) rfl ?_
    refine Ev.topI (show Int32.ofNat (xLen L 1) = nI 7 from rfl) ?_
    refine Ev.run 2 (pc' := 13) (lv' := [(3, .int (nI 2)), (2, .int (nI 4294967295)), (0, .int (nI 2)), (1, .int (nI 1))]) (st' := [.int (nI 4294967295)]) (h' := HN g hl (RF rt)) rfl ?_
    refine Ev.call (a := 120) (as := [.int (nI 4294967295)]) (rest := []) (lv0 := [(0, .int (nI 4294967295))]) (Q1 := (fun z0 h' => z0 = some (.int (nI 0)) ∧ h' = HN g hl (RF rt))) rfl rfl (K_isKind _ _ _ _ 4294967295 (by omega) ⟨rfl, rfl⟩) (fun r h' hr => ?_)
    obtain ⟨rfl, rfl⟩ := hr
    refine Ev.run 2 (pc' := 39) (lv' := [(3, .int (nI 2)), (2, .int (nI 4294967295)), (0, .int (nI 2)), (1, .int (nI 1))]) (st' := [.int (nI 0)]) (h' := HN g hl (RF rt)) rfl ?_
    refine Ev.ret (v := some (.int (nI 0))) rfl ?_
    exact hq
  · refine Ev.run 7 (pc' := 9) (lv' := [(3, .int (nI 0)), (2, .int (nI 2)), (0, .int (nI 2)), (1, .int (nI 2))]) (st' := [.int (Int32.ofNat (xLen L 1)), .int (nI 0)]) (h' := HN g hl (RF rt)) rfl ?_
    refine Ev.topI (show Int32.ofNat (xLen L 1) = nI 7 from rfl) ?_
    refine Ev.run 2 (pc' := 13) (lv' := [(3, .int (nI 0)), (2, .int (nI 2)), (0, .int (nI 2)), (1, .int (nI 2))]) (st' := [.int (nI 2)]) (h' := HN g hl (RF rt)) rfl ?_
    refine Ev.call (a := 120) (as := [.int (nI 2)]) (rest := []) (lv0 := [(0, .int (nI 2))]) (Q1 := (fun z0 h' => z0 = some (.int (nI 1)) ∧ h' = HN g hl (RF rt))) rfl rfl (K_isKind _ _ _ _ 2 (by omega) ⟨rfl, rfl⟩) (fun r h' hr => ?_)
    obtain ⟨rfl, rfl⟩ := hr
    refine Ev.run 5 (pc' := 25) (lv' := [(3, .int (nI 0)), (2, .int (nI 2)), (0, .int (nI 2)), (1, .int (nI 2))]) (st' := [.int (nI 1)]) (h' := HN g hl (RF rt)) rfl ?_
    refine Ev.ret (v := some (.int (nI 1))) rfl ?_
    exact hq
  · refine Ev.run 7 (pc' := 9) (lv' := [(3, .int (nI 0)), (2, .int (nI 2)), (0, .int (nI 2)), (1, .int (nI 3))]) (st' := [.int (Int32.ofNat (xLen L 1)), .int (nI 0)]) (h' := HN g hl (RF rt)) rfl ?_
    refine Ev.topI (show Int32.ofNat (xLen L 1) = nI 7 from rfl) ?_
    refine Ev.run 2 (pc' := 13) (lv' := [(3, .int (nI 0)), (2, .int (nI 2)), (0, .int (nI 2)), (1, .int (nI 3))]) (st' := [.int (nI 2)]) (h' := HN g hl (RF rt)) rfl ?_
    refine Ev.call (a := 120) (as := [.int (nI 2)]) (rest := []) (lv0 := [(0, .int (nI 2))]) (Q1 := (fun z0 h' => z0 = some (.int (nI 1)) ∧ h' = HN g hl (RF rt))) rfl rfl (K_isKind _ _ _ _ 2 (by omega) ⟨rfl, rfl⟩) (fun r h' hr => ?_)
    obtain ⟨rfl, rfl⟩ := hr
    refine Ev.run 6 (pc' := 30) (lv' := [(3, .int (nI 0)), (2, .int (nI 2)), (0, .int (nI 2)), (1, .int (nI 3))]) (st' := [.int (nI 2), .retAddr 1]) (h' := HN g hl (RF rt)) rfl ?_
    refine Ev_xald rfl (by decide) (show 2 < 7 by omega) (show 7 < 2 ^ 31 by decide) ?_
    refine Ev.topI (show xVal xs 1 2 = nI 0 from rfl) ?_
    refine Ev.run 6 (pc' := 9) (lv' := [(3, .int (nI 1)), (2, .int (nI 0)), (0, .int (nI 2)), (1, .int (nI 3))]) (st' := [.int (Int32.ofNat (xLen L 1)), .int (nI 1)]) (h' := HN g hl (RF rt)) rfl ?_
    refine Ev.topI (show Int32.ofNat (xLen L 1) = nI 7 from rfl) ?_
    refine Ev.run 2 (pc' := 13) (lv' := [(3, .int (nI 1)), (2, .int (nI 0)), (0, .int (nI 2)), (1, .int (nI 3))]) (st' := [.int (nI 0)]) (h' := HN g hl (RF rt)) rfl ?_
    refine Ev.call (a := 120) (as := [.int (nI 0)]) (rest := []) (lv0 := [(0, .int (nI 0))]) (Q1 := (fun z0 h' => z0 = some (.int (nI 1)) ∧ h' = HN g hl (RF rt))) rfl rfl (K_isKind _ _ _ _ 0 (by omega) ⟨rfl, rfl⟩) (fun r h' hr => ?_)
    obtain ⟨rfl, rfl⟩ := hr
    refine Ev.run 6 (pc' := 30) (lv' := [(3, .int (nI 1)), (2, .int (nI 0)), (0, .int (nI 2)), (1, .int (nI 3))]) (st' := [.int (nI 0), .retAddr 1]) (h' := HN g hl (RF rt)) rfl ?_
    refine Ev_xald rfl (by decide) (show 0 < 7 by omega) (show 7 < 2 ^ 31 by decide) ?_
    refine Ev.topI (show xVal xs 1 0 = nI 4294967295 from rfl) ?_
    refine Ev.run 6 (pc' := 9) (lv' := [(3, .int (nI 2)), (2, .int (nI 4294967295)), (0, .int (nI 2)), (1, .int (nI 3))]) (st' := [.int (Int32.ofNat (xLen L 1)), .int (nI 2)]) (h' := HN g hl (RF rt)) rfl ?_
    refine Ev.topI (show Int32.ofNat (xLen L 1) = nI 7 from rfl) ?_
    refine Ev.run 2 (pc' := 13) (lv' := [(3, .int (nI 2)), (2, .int (nI 4294967295)), (0, .int (nI 2)), (1, .int (nI 3))]) (st' := [.int (nI 4294967295)]) (h' := HN g hl (RF rt)) rfl ?_
    refine Ev.call (a := 120) (as := [.int (nI 4294967295)]) (rest := []) (lv0 := [(0, .int (nI 4294967295))]) (Q1 := (fun z0 h' => z0 = some (.int (nI 0)) ∧ h' = HN g hl (RF rt))) rfl rfl (K_isKind _ _ _ _ 4294967295 (by omega) ⟨rfl, rfl⟩) (fun r h' hr => ?_)
    obtain ⟨rfl, rfl⟩ := hr
    refine Ev.run 2 (pc' := 39) (lv' := [(3, .int (nI 2)), (2, .int (nI 4294967295)), (0, .int (nI 2)), (1, .int (nI 3))]) (st' := [.int (nI 0)]) (h' := HN g hl (RF rt)) rfl ?_
    refine Ev.ret (v := some (.int (nI 0))) rfl ?_
    exact hq
  · refine Ev.run 7 (pc' := 9) (lv' := [(3, .int (nI 0)), (2, .int (nI 3)), (0, .int (nI 3)), (1, .int (nI 1))]) (st' := [.int (Int32.ofNat (xLen L 1)), .int (nI 0)]) (h' := HN g hl (RF rt)) rfl ?_
    refine Ev.topI (show Int32.ofNat (xLen L 1) = nI 7 from rfl) ?_
    refine Ev.run 2 (pc' := 13) (lv' := [(3, .int (nI 0)), (2, .int (nI 3)), (0, .int (nI 3)), (1, .int (nI 1))]) (st' := [.int (nI 3)]) (h' := HN g hl (RF rt)) rfl ?_
    refine Ev.call (a := 120) (as := [.int (nI 3)]) (rest := []) (lv0 := [(0, .int (nI 3))]) (Q1 := (fun z0 h' => z0 = some (.int (nI 1)) ∧ h' = HN g hl (RF rt))) rfl rfl (K_isKind _ _ _ _ 3 (by omega) ⟨rfl, rfl⟩) (fun r h' hr => ?_)
    obtain ⟨rfl, rfl⟩ := hr
    refine Ev.run 6 (pc' := 30) (lv' := [(3, .int (nI 0)), (2, .int (nI 3)), (0, .int (nI 3)), (1, .int (nI 1))]) (st' := [.int (nI 3), .retAddr 1]) (h' := HN g hl (RF rt)) rfl ?_
    refine Ev_xald rfl (by decide) (show 3 < 7 by omega) (show 7 < 2 ^ 31 by decide) ?_
    refine Ev.topI (show xVal xs 1 3 = nI 0 from rfl) ?_
    refine Ev.run 6 (pc' := 9) (lv' := [(3, .int (nI 1)), (2, .int (nI 0)), (0, .int (nI 3)), (1, .int (nI 1))]) (st' := [.int (Int32.ofNat (xLen L 1)), .int (nI 1)]) (h' := HN g hl (RF rt)) rfl ?_
    refine Ev.topI (show Int32.ofNat (xLen L 1) = nI 7 from rfl) ?_
    refine Ev.run 2 (pc' := 13) (lv' := [(3, .int (nI 1)), (2, .int (nI 0)), (0, .int (nI 3)), (1, .int (nI 1))]) (st' := [.int (nI 0)]) (h' := HN g hl (RF rt)) rfl ?_
    refine Ev.call (a := 120) (as := [.int (nI 0)]) (rest := []) (lv0 := [(0, .int (nI 0))]) (Q1 := (fun z0 h' => z0 = some (.int (nI 1)) ∧ h' = HN g hl (RF rt))) rfl rfl (K_isKind _ _ _ _ 0 (by omega) ⟨rfl, rfl⟩) (fun r h' hr => ?_)
    obtain ⟨rfl, rfl⟩ := hr
    refine Ev.run 6 (pc' := 30) (lv' := [(3, .int (nI 1)), (2, .int (nI 0)), (0, .int (nI 3)), (1, .int (nI 1))]) (st' := [.int (nI 0), .retAddr 1]) (h' := HN g hl (RF rt)) rfl ?_
    refine Ev_xald rfl (by decide) (show 0 < 7 by omega) (show 7 < 2 ^ 31 by decide) ?_
    refine Ev.topI (show xVal xs 1 0 = nI 4294967295 from rfl) ?_
    refine Ev.run 6 (pc' := 9) (lv' := [(3, .int (nI 2)), (2, .int (nI 4294967295)), (0, .int (nI 3)), (1, .int (nI 1))]) (st' := [.int (Int32.ofNat (xLen L 1)), .int (nI 2)]) (h' := HN g hl (RF rt)) rfl ?_
    refine Ev.topI (show Int32.ofNat (xLen L 1) = nI 7 from rfl) ?_
    refine Ev.run 2 (pc' := 13) (lv' := [(3, .int (nI 2)), (2, .int (nI 4294967295)), (0, .int (nI 3)), (1, .int (nI 1))]) (st' := [.int (nI 4294967295)]) (h' := HN g hl (RF rt)) rfl ?_
    refine Ev.call (a := 120) (as := [.int (nI 4294967295)]) (rest := []) (lv0 := [(0, .int (nI 4294967295))]) (Q1 := (fun z0 h' => z0 = some (.int (nI 0)) ∧ h' = HN g hl (RF rt))) rfl rfl (K_isKind _ _ _ _ 4294967295 (by omega) ⟨rfl, rfl⟩) (fun r h' hr => ?_)
    obtain ⟨rfl, rfl⟩ := hr
    refine Ev.run 2 (pc' := 39) (lv' := [(3, .int (nI 2)), (2, .int (nI 4294967295)), (0, .int (nI 3)), (1, .int (nI 1))]) (st' := [.int (nI 0)]) (h' := HN g hl (RF rt)) rfl ?_
    refine Ev.ret (v := some (.int (nI 0))) rfl ?_
    exact hq
  · refine Ev.run 7 (pc' := 9) (lv' := [(3, .int (nI 0)), (2, .int (nI 3)), (0, .int (nI 3)), (1, .int (nI 2))]) (st' := [.int (Int32.ofNat (xLen L 1)), .int (nI 0)]) (h' := HN g hl (RF rt)) rfl ?_
    refine Ev.topI (show Int32.ofNat (xLen L 1) = nI 7 from rfl) ?_
    refine Ev.run 2 (pc' := 13) (lv' := [(3, .int (nI 0)), (2, .int (nI 3)), (0, .int (nI 3)), (1, .int (nI 2))]) (st' := [.int (nI 3)]) (h' := HN g hl (RF rt)) rfl ?_
    refine Ev.call (a := 120) (as := [.int (nI 3)]) (rest := []) (lv0 := [(0, .int (nI 3))]) (Q1 := (fun z0 h' => z0 = some (.int (nI 1)) ∧ h' = HN g hl (RF rt))) rfl rfl (K_isKind _ _ _ _ 3 (by omega) ⟨rfl, rfl⟩) (fun r h' hr => ?_)
    obtain ⟨rfl, rfl⟩ := hr
    refine Ev.run 6 (pc' := 30) (lv' := [(3, .int (nI 0)), (2, .int (nI 3)), (0, .int (nI 3)), (1, .int (nI 2))]) (st' := [.int (nI 3), .retAddr 1]) (h' := HN g hl (RF rt)) rfl ?_
    refine Ev_xald rfl (by decide) (show 3 < 7 by omega) (show 7 < 2 ^ 31 by decide) ?_
    refine Ev.topI (show xVal xs 1 3 = nI 0 from rfl) ?_
    refine Ev.run 6 (pc' := 9) (lv' := [(3, .int (nI 1)), (2, .int (nI 0)), (0, .int (nI 3)), (1, .int (nI 2))]) (st' := [.int (Int32.ofNat (xLen L 1)), .int (nI 1)]) (h' := HN g hl (RF rt)) rfl ?_
    refine Ev.topI (show Int32.ofNat (xLen L 1) = nI 7 from rfl) ?_
    refine Ev.run 2 (pc' := 13) (lv' := [(3, .int (nI 1)), (2, .int (nI 0)), (0, .int (nI 3)), (1, .int (nI 2))]) (st' := [.int (nI 0)]) (h' := HN g hl (RF rt)) rfl ?_
    refine Ev.call (a := 120) (as := [.int (nI 0)]) (rest := []) (lv0 := [(0, .int (nI 0))]) (Q1 := (fun z0 h' => z0 = some (.int (nI 1)) ∧ h' = HN g hl (RF rt))) rfl rfl (K_isKind _ _ _ _ 0 (by omega) ⟨rfl, rfl⟩) (fun r h' hr => ?_)
    obtain ⟨rfl, rfl⟩ := hr
    refine Ev.run 6 (pc' := 30) (lv' := [(3, .int (nI 1)), (2, .int (nI 0)), (0, .int (nI 3)), (1, .int (nI 2))]) (st' := [.int (nI 0), .retAddr 1]) (h' := HN g hl (RF rt)) rfl ?_
    refine Ev_xald rfl (by decide) (show 0 < 7 by omega) (show 7 < 2 ^ 31 by decide) ?_
    refine Ev.topI (show xVal xs 1 0 = nI 4294967295 from rfl) ?_
    refine Ev.run 6 (pc' := 9) (lv' := [(3, .int (nI 2)), (2, .int (nI 4294967295)), (0, .int (nI 3)), (1, .int (nI 2))]) (st' := [.int (Int32.ofNat (xLen L 1)), .int (nI 2)]) (h' := HN g hl (RF rt)) rfl ?_
    refine Ev.topI (show Int32.ofNat (xLen L 1) = nI 7 from rfl) ?_
    refine Ev.run 2 (pc' := 13) (lv' := [(3, .int (nI 2)), (2, .int (nI 4294967295)), (0, .int (nI 3)), (1, .int (nI 2))]) (st' := [.int (nI 4294967295)]) (h' := HN g hl (RF rt)) rfl ?_
    refine Ev.call (a := 120) (as := [.int (nI 4294967295)]) (rest := []) (lv0 := [(0, .int (nI 4294967295))]) (Q1 := (fun z0 h' => z0 = some (.int (nI 0)) ∧ h' = HN g hl (RF rt))) rfl rfl (K_isKind _ _ _ _ 4294967295 (by omega) ⟨rfl, rfl⟩) (fun r h' hr => ?_)
    obtain ⟨rfl, rfl⟩ := hr
    refine Ev.run 2 (pc' := 39) (lv' := [(3, .int (nI 2)), (2, .int (nI 4294967295)), (0, .int (nI 3)), (1, .int (nI 2))]) (st' := [.int (nI 0)]) (h' := HN g hl (RF rt)) rfl ?_
    refine Ev.ret (v := some (.int (nI 0))) rfl ?_
    exact hq
  · refine Ev.run 7 (pc' := 9) (lv' := [(3, .int (nI 0)), (2, .int (nI 3)), (0, .int (nI 3)), (1, .int (nI 3))]) (st' := [.int (Int32.ofNat (xLen L 1)), .int (nI 0)]) (h' := HN g hl (RF rt)) rfl ?_
    refine Ev.topI (show Int32.ofNat (xLen L 1) = nI 7 from rfl) ?_
    refine Ev.run 2 (pc' := 13) (lv' := [(3, .int (nI 0)), (2, .int (nI 3)), (0, .int (nI 3)), (1, .int (nI 3))]) (st' := [.int (nI 3)]) (h' := HN g hl (RF rt)) rfl ?_
    refine Ev.call (a := 120) (as := [.int (nI 3)]) (rest := []) (lv0 := [(0, .int (nI 3))]) (Q1 := (fun z0 h' => z0 = some (.int (nI 1)) ∧ h' = HN g hl (RF rt))) rfl rfl (K_isKind _ _ _ _ 3 (by omega) ⟨rfl, rfl⟩) (fun r h' hr => ?_)
    obtain ⟨rfl, rfl⟩ := hr
    refine Ev.run 5 (pc' := 25) (lv' := [(3, .int (nI 0)), (2, .int (nI 3)), (0, .int (nI 3)), (1, .int (nI 3))]) (st' := [.int (nI 1)]) (h' := HN g hl (RF rt)) rfl ?_
    refine Ev.ret (v := some (.int (nI 1))) rfl ?_
    exact hq
  · refine Ev.run 7 (pc' := 9) (lv' := [(3, .int (nI 0)), (2, .int (nI 4)), (0, .int (nI 4)), (1, .int (nI 1))]) (st' := [.int (Int32.ofNat (xLen L 1)), .int (nI 0)]) (h' := HN g hl (RF rt)) rfl ?_
    refine Ev.topI (show Int32.ofNat (xLen L 1) = nI 7 from rfl) ?_
    refine Ev.run 2 (pc' := 13) (lv' := [(3, .int (nI 0)), (2, .int (nI 4)), (0, .int (nI 4)), (1, .int (nI 1))]) (st' := [.int (nI 4)]) (h' := HN g hl (RF rt)) rfl ?_
    refine Ev.call (a := 120) (as := [.int (nI 4)]) (rest := []) (lv0 := [(0, .int (nI 4))]) (Q1 := (fun z0 h' => z0 = some (.int (nI 1)) ∧ h' = HN g hl (RF rt))) rfl rfl (K_isKind _ _ _ _ 4 (by omega) ⟨rfl, rfl⟩) (fun r h' hr => ?_)
    obtain ⟨rfl, rfl⟩ := hr
    refine Ev.run 6 (pc' := 30) (lv' := [(3, .int (nI 0)), (2, .int (nI 4)), (0, .int (nI 4)), (1, .int (nI 1))]) (st' := [.int (nI 4), .retAddr 1]) (h' := HN g hl (RF rt)) rfl ?_
    refine Ev_xald rfl (by decide) (show 4 < 7 by omega) (show 7 < 2 ^ 31 by decide) ?_
    refine Ev.topI (show xVal xs 1 4 = nI 1 from rfl) ?_
    refine Ev.run 6 (pc' := 9) (lv' := [(3, .int (nI 1)), (2, .int (nI 1)), (0, .int (nI 4)), (1, .int (nI 1))]) (st' := [.int (Int32.ofNat (xLen L 1)), .int (nI 1)]) (h' := HN g hl (RF rt)) rfl ?_
    refine Ev.topI (show Int32.ofNat (xLen L 1) = nI 7 from rfl) ?_
    refine Ev.run 2 (pc' := 13) (lv' := [(3, .int (nI 1)), (2, .int (nI 1)), (0, .int (nI 4)), (1, .int (nI 1))]) (st' := [.int (nI 1)]) (h' := HN g hl (RF rt)) rfl ?_
    refine Ev.call (a := 120) (as := [.int (nI 1)]) (rest := []) (lv0 := [(0, .int (nI 1))]) (Q1 := (fun z0 h' => z0 = some (.int (nI 1)) ∧ h' = HN g hl (RF rt))) rfl rfl (K_isKind _ _ _ _ 1 (by omega) ⟨rfl, rfl⟩) (fun r h' hr => ?_)
    obtain ⟨rfl, rfl⟩ := hr
    refine Ev.run 5 (pc' := 25) (lv' := [(3, .int (nI 1)), (2, .int (nI 1)), (0, .int (nI 4)), (1, .int (nI 1))]) (st' := [.int (nI 1)]) (h' := HN g hl (RF rt)) rfl ?_
    refine Ev.ret (v := some (.int (nI 1))) rfl ?_
    exact hq
  · refine Ev.run 7 (pc' := 9) (lv' := [(3, .int (nI 0)), (2, .int (nI 4)), (0, .int (nI 4)), (1, .int (nI 2))]) (st' := [.int (Int32.ofNat (xLen L 1)), .int (nI 0)]) (h' := HN g hl (RF rt)) rfl ?_
    refine Ev.topI (show Int32.ofNat (xLen L 1) = nI 7 from rfl) ?_
    refine Ev.run 2 (pc' := 13) (lv' := [(3, .int (nI 0)), (2, .int (nI 4)), (0, .int (nI 4)), (1, .int (nI 2))]) (st' := [.int (nI 4)]) (h' := HN g hl (RF rt)) rfl ?_
    refine Ev.call (a := 120) (as := [.int (nI 4)]) (rest := []) (lv0 := [(0, .int (nI 4))]) (Q1 := (fun z0 h' => z0 = some (.int (nI 1)) ∧ h' = HN g hl (RF rt))) rfl rfl (K_isKind _ _ _ _ 4 (by omega) ⟨rfl, rfl⟩) (fun r h' hr => ?_)
    obtain ⟨rfl, rfl⟩ := hr
    refine Ev.run 6 (pc' := 30) (lv' := [(3, .int (nI 0)), (2, .int (nI 4)), (0, .int (nI 4)), (1, .int (nI 2))]) (st' := [.int (nI 4), .retAddr 1]) (h' := HN g hl (RF rt)) rfl ?_
    refine Ev_xald rfl (by decide) (show 4 < 7 by omega) (show 7 < 2 ^ 31 by decide) ?_
    refine Ev.topI (show xVal xs 1 4 = nI 1 from rfl) ?_
    refine Ev.run 6 (pc' := 9) (lv' := [(3, .int (nI 1)), (2, .int (nI 1)), (0, .int (nI 4)), (1, .int (nI 2))]) (st' := [.int (Int32.ofNat (xLen L 1)), .int (nI 1)]) (h' := HN g hl (RF rt)) rfl ?_
    refine Ev.topI (show Int32.ofNat (xLen L 1) = nI 7 from rfl) ?_
    refine Ev.run 2 (pc' := 13) (lv' := [(3, .int (nI 1)), (2, .int (nI 1)), (0, .int (nI 4)), (1, .int (nI 2))]) (st' := [.int (nI 1)]) (h' := HN g hl (RF rt)) rfl ?_
    refine Ev.call (a := 120) (as := [.int (nI 1)]) (rest := []) (lv0 := [(0, .int (nI 1))]) (Q1 := (fun z0 h' => z0 = some (.int (nI 1)) ∧ h' = HN g hl (RF rt))) rfl rfl (K_isKind _ _ _ _ 1 (by omega) ⟨rfl, rfl⟩) (fun r h' hr => ?_)
    obtain ⟨rfl, rfl⟩ := hr
    refine Ev.run 6 (pc' := 30) (lv' := [(3, .int (nI 1)), (2, .int (nI 1)), (0, .int (nI 4)), (1, .int (nI 2))]) (st' := [.int (nI 1), .retAddr 1]) (h' := HN g hl (RF rt)) rfl ?_
    refine Ev_xald rfl (by decide) (show 1 < 7 by omega) (show 7 < 2 ^ 31 by decide) ?_
    refine Ev.topI (show xVal xs 1 1 = nI 0 from rfl) ?_
    refine Ev.run 6 (pc' := 9) (lv' := [(3, .int (nI 2)), (2, .int (nI 0)), (0, .int (nI 4)), (1, .int (nI 2))]) (st' := [.int (Int32.ofNat (xLen L 1)), .int (nI 2)]) (h' := HN g hl (RF rt)) rfl ?_
    refine Ev.topI (show Int32.ofNat (xLen L 1) = nI 7 from rfl) ?_
    refine Ev.run 2 (pc' := 13) (lv' := [(3, .int (nI 2)), (2, .int (nI 0)), (0, .int (nI 4)), (1, .int (nI 2))]) (st' := [.int (nI 0)]) (h' := HN g hl (RF rt)) rfl ?_
    refine Ev.call (a := 120) (as := [.int (nI 0)]) (rest := []) (lv0 := [(0, .int (nI 0))]) (Q1 := (fun z0 h' => z0 = some (.int (nI 1)) ∧ h' = HN g hl (RF rt))) rfl rfl (K_isKind _ _ _ _ 0 (by omega) ⟨rfl, rfl⟩) (fun r h' hr => ?_)
    obtain ⟨rfl, rfl⟩ := hr
    refine Ev.run 6 (pc' := 30) (lv' := [(3, .int (nI 2)), (2, .int (nI 0)), (0, .int (nI 4)), (1, .int (nI 2))]) (st' := [.int (nI 0), .retAddr 1]) (h' := HN g hl (RF rt)) rfl ?_
    refine Ev_xald rfl (by decide) (show 0 < 7 by omega) (show 7 < 2 ^ 31 by decide) ?_
    refine Ev.topI (show xVal xs 1 0 = nI 4294967295 from rfl) ?_
    refine Ev.run 6 (pc' := 9) (lv' := [(3, .int (nI 3)), (2, .int (nI 4294967295)), (0, .int (nI 4)), (1, .int (nI 2))]) (st' := [.int (Int32.ofNat (xLen L 1)), .int (nI 3)]) (h' := HN g hl (RF rt)) rfl ?_
    refine Ev.topI (show Int32.ofNat (xLen L 1) = nI 7 from rfl) ?_
    refine Ev.run 2 (pc' := 13) (lv' := [(3, .int (nI 3)), (2, .int (nI 4294967295)), (0, .int (nI 4)), (1, .int (nI 2))]) (st' := [.int (nI 4294967295)]) (h' := HN g hl (RF rt)) rfl ?_
    refine Ev.call (a := 120) (as := [.int (nI 4294967295)]) (rest := []) (lv0 := [(0, .int (nI 4294967295))]) (Q1 := (fun z0 h' => z0 = some (.int (nI 0)) ∧ h' = HN g hl (RF rt))) rfl rfl (K_isKind _ _ _ _ 4294967295 (by omega) ⟨rfl, rfl⟩) (fun r h' hr => ?_)
    obtain ⟨rfl, rfl⟩ := hr
    refine Ev.run 2 (pc' := 39) (lv' := [(3, .int (nI 3)), (2, .int (nI 4294967295)), (0, .int (nI 4)), (1, .int (nI 2))]) (st' := [.int (nI 0)]) (h' := HN g hl (RF rt)) rfl ?_
    refine Ev.ret (v := some (.int (nI 0))) rfl ?_
    exact hq
  · refine Ev.run 7 (pc' := 9) (lv' := [(3, .int (nI 0)), (2, .int (nI 4)), (0, .int (nI 4)), (1, .int (nI 3))]) (st' := [.int (Int32.ofNat (xLen L 1)), .int (nI 0)]) (h' := HN g hl (RF rt)) rfl ?_
    refine Ev.topI (show Int32.ofNat (xLen L 1) = nI 7 from rfl) ?_
    refine Ev.run 2 (pc' := 13) (lv' := [(3, .int (nI 0)), (2, .int (nI 4)), (0, .int (nI 4)), (1, .int (nI 3))]) (st' := [.int (nI 4)]) (h' := HN g hl (RF rt)) rfl ?_
    refine Ev.call (a := 120) (as := [.int (nI 4)]) (rest := []) (lv0 := [(0, .int (nI 4))]) (Q1 := (fun z0 h' => z0 = some (.int (nI 1)) ∧ h' = HN g hl (RF rt))) rfl rfl (K_isKind _ _ _ _ 4 (by omega) ⟨rfl, rfl⟩) (fun r h' hr => ?_)
    obtain ⟨rfl, rfl⟩ := hr
    refine Ev.run 6 (pc' := 30) (lv' := [(3, .int (nI 0)), (2, .int (nI 4)), (0, .int (nI 4)), (1, .int (nI 3))]) (st' := [.int (nI 4), .retAddr 1]) (h' := HN g hl (RF rt)) rfl ?_
    refine Ev_xald rfl (by decide) (show 4 < 7 by omega) (show 7 < 2 ^ 31 by decide) ?_
    refine Ev.topI (show xVal xs 1 4 = nI 1 from rfl) ?_
    refine Ev.run 6 (pc' := 9) (lv' := [(3, .int (nI 1)), (2, .int (nI 1)), (0, .int (nI 4)), (1, .int (nI 3))]) (st' := [.int (Int32.ofNat (xLen L 1)), .int (nI 1)]) (h' := HN g hl (RF rt)) rfl ?_
    refine Ev.topI (show Int32.ofNat (xLen L 1) = nI 7 from rfl) ?_
    refine Ev.run 2 (pc' := 13) (lv' := [(3, .int (nI 1)), (2, .int (nI 1)), (0, .int (nI 4)), (1, .int (nI 3))]) (st' := [.int (nI 1)]) (h' := HN g hl (RF rt)) rfl ?_
    refine Ev.call (a := 120) (as := [.int (nI 1)]) (rest := []) (lv0 := [(0, .int (nI 1))]) (Q1 := (fun z0 h' => z0 = some (.int (nI 1)) ∧ h' = HN g hl (RF rt))) rfl rfl (K_isKind _ _ _ _ 1 (by omega) ⟨rfl, rfl⟩) (fun r h' hr => ?_)
    obtain ⟨rfl, rfl⟩ := hr
    refine Ev.run 6 (pc' := 30) (lv' := [(3, .int (nI 1)), (2, .int (nI 1)), (0, .int (nI 4)), (1, .int (nI 3))]) (st' := [.int (nI 1), .retAddr 1]) (h' := HN g hl (RF rt)) rfl ?_
    refine Ev_xald rfl (by decide) (show 1 < 7 by omega) (show 7 < 2 ^ 31 by decide) ?_
    refine Ev.topI (show xVal xs 1 1 = nI 0 from rfl) ?_
    refine Ev.run 6 (pc' := 9) (lv' := [(3, .int (nI 2)), (2, .int (nI 0)), (0, .int (nI 4)), (1, .int (nI 3))]) (st' := [.int (Int32.ofNat (xLen L 1)), .int (nI 2)]) (h' := HN g hl (RF rt)) rfl ?_
    refine Ev.topI (show Int32.ofNat (xLen L 1) = nI 7 from rfl) ?_
    refine Ev.run 2 (pc' := 13) (lv' := [(3, .int (nI 2)), (2, .int (nI 0)), (0, .int (nI 4)), (1, .int (nI 3))]) (st' := [.int (nI 0)]) (h' := HN g hl (RF rt)) rfl ?_
    refine Ev.call (a := 120) (as := [.int (nI 0)]) (rest := []) (lv0 := [(0, .int (nI 0))]) (Q1 := (fun z0 h' => z0 = some (.int (nI 1)) ∧ h' = HN g hl (RF rt))) rfl rfl (K_isKind _ _ _ _ 0 (by omega) ⟨rfl, rfl⟩) (fun r h' hr => ?_)
    obtain ⟨rfl, rfl⟩ := hr
    refine Ev.run 6 (pc' := 30) (lv' := [(3, .int (nI 2)), (2, .int (nI 0)), (0, .int (nI 4)), (1, .int (nI 3))]) (st' := [.int (nI 0), .retAddr 1]) (h' := HN g hl (RF rt)) rfl ?_
    refine Ev_xald rfl (by decide) (show 0 < 7 by omega) (show 7 < 2 ^ 31 by decide) ?_
    refine Ev.topI (show xVal xs 1 0 = nI 4294967295 from rfl) ?_
    refine Ev.run 6 (pc' := 9) (lv' := [(3, .int (nI 3)), (2, .int (nI 4294967295)), (0, .int (nI 4)), (1, .int (nI 3))]) (st' := [.int (Int32.ofNat (xLen L 1)), .int (nI 3)]) (h' := HN g hl (RF rt)) rfl ?_
    refine Ev.topI (show Int32.ofNat (xLen L 1) = nI 7 from rfl) ?_
    refine Ev.run 2 (pc' := 13) (lv' := [(3, .int (nI 3)), (2, .int (nI 4294967295)), (0, .int (nI 4)), (1, .int (nI 3))]) (st' := [.int (nI 4294967295)]) (h' := HN g hl (RF rt)) rfl ?_
    refine Ev.call (a := 120) (as := [.int (nI 4294967295)]) (rest := []) (lv0 := [(0, .int (nI 4294967295))]) (Q1 := (fun z0 h' => z0 = some (.int (nI 0)) ∧ h' = HN g hl (RF rt))) rfl rfl (K_isKind _ _ _ _ 4294967295 (by omega) ⟨rfl, rfl⟩) (fun r h' hr => ?_)
    obtain ⟨rfl, rfl⟩ := hr
    refine Ev.run 2 (pc' := 39) (lv' := [(3, .int (nI 3)), (2, .int (nI 4294967295)), (0, .int (nI 4)), (1, .int (nI 3))]) (st' := [.int (nI 0)]) (h' := HN g hl (RF rt)) rfl ?_
    refine Ev.ret (v := some (.int (nI 0))) rfl ?_
    exact hq
  · refine Ev.run 7 (pc' := 9) (lv' := [(3, .int (nI 0)), (2, .int (nI 5)), (0, .int (nI 5)), (1, .int (nI 1))]) (st' := [.int (Int32.ofNat (xLen L 1)), .int (nI 0)]) (h' := HN g hl (RF rt)) rfl ?_
    refine Ev.topI (show Int32.ofNat (xLen L 1) = nI 7 from rfl) ?_
    refine Ev.run 2 (pc' := 13) (lv' := [(3, .int (nI 0)), (2, .int (nI 5)), (0, .int (nI 5)), (1, .int (nI 1))]) (st' := [.int (nI 5)]) (h' := HN g hl (RF rt)) rfl ?_
    refine Ev.call (a := 120) (as := [.int (nI 5)]) (rest := []) (lv0 := [(0, .int (nI 5))]) (Q1 := (fun z0 h' => z0 = some (.int (nI 1)) ∧ h' = HN g hl (RF rt))) rfl rfl (K_isKind _ _ _ _ 5 (by omega) ⟨rfl, rfl⟩) (fun r h' hr => ?_)
    obtain ⟨rfl, rfl⟩ := hr
    refine Ev.run 6 (pc' := 30) (lv' := [(3, .int (nI 0)), (2, .int (nI 5)), (0, .int (nI 5)), (1, .int (nI 1))]) (st' := [.int (nI 5), .retAddr 1]) (h' := HN g hl (RF rt)) rfl ?_
    refine Ev_xald rfl (by decide) (show 5 < 7 by omega) (show 7 < 2 ^ 31 by decide) ?_
    refine Ev.topI (show xVal xs 1 5 = nI 2 from rfl) ?_
    refine Ev.run 6 (pc' := 9) (lv' := [(3, .int (nI 1)), (2, .int (nI 2)), (0, .int (nI 5)), (1, .int (nI 1))]) (st' := [.int (Int32.ofNat (xLen L 1)), .int (nI 1)]) (h' := HN g hl (RF rt)) rfl ?_
    refine Ev.topI (show Int32.ofNat (xLen L 1) = nI 7 from rfl) ?_
    refine Ev.run 2 (pc' := 13) (lv' := [(3, .int (nI 1)), (2, .int (nI 2)), (0, .int (nI 5)), (1, .int (nI 1))]) (st' := [.int (nI 2)]) (h' := HN g hl (RF rt)) rfl ?_
    refine Ev.call (a := 120) (as := [.int (nI 2)]) (rest := []) (lv0 := [(0, .int (nI 2))]) (Q1 := (fun z0 h' => z0 = some (.int (nI 1)) ∧ h' = HN g hl (RF rt))) rfl rfl (K_isKind _ _ _ _ 2 (by omega) ⟨rfl, rfl⟩) (fun r h' hr => ?_)
    obtain ⟨rfl, rfl⟩ := hr
    refine Ev.run 6 (pc' := 30) (lv' := [(3, .int (nI 1)), (2, .int (nI 2)), (0, .int (nI 5)), (1, .int (nI 1))]) (st' := [.int (nI 2), .retAddr 1]) (h' := HN g hl (RF rt)) rfl ?_
    refine Ev_xald rfl (by decide) (show 2 < 7 by omega) (show 7 < 2 ^ 31 by decide) ?_
    refine Ev.topI (show xVal xs 1 2 = nI 0 from rfl) ?_
    refine Ev.run 6 (pc' := 9) (lv' := [(3, .int (nI 2)), (2, .int (nI 0)), (0, .int (nI 5)), (1, .int (nI 1))]) (st' := [.int (Int32.ofNat (xLen L 1)), .int (nI 2)]) (h' := HN g hl (RF rt)) rfl ?_
    refine Ev.topI (show Int32.ofNat (xLen L 1) = nI 7 from rfl) ?_
    refine Ev.run 2 (pc' := 13) (lv' := [(3, .int (nI 2)), (2, .int (nI 0)), (0, .int (nI 5)), (1, .int (nI 1))]) (st' := [.int (nI 0)]) (h' := HN g hl (RF rt)) rfl ?_
    refine Ev.call (a := 120) (as := [.int (nI 0)]) (rest := []) (lv0 := [(0, .int (nI 0))]) (Q1 := (fun z0 h' => z0 = some (.int (nI 1)) ∧ h' = HN g hl (RF rt))) rfl rfl (K_isKind _ _ _ _ 0 (by omega) ⟨rfl, rfl⟩) (fun r h' hr => ?_)
    obtain ⟨rfl, rfl⟩ := hr
    refine Ev.run 6 (pc' := 30) (lv' := [(3, .int (nI 2)), (2, .int (nI 0)), (0, .int (nI 5)), (1, .int (nI 1))]) (st' := [.int (nI 0), .retAddr 1]) (h' := HN g hl (RF rt)) rfl ?_
    refine Ev_xald rfl (by decide) (show 0 < 7 by omega) (show 7 < 2 ^ 31 by decide) ?_
    refine Ev.topI (show xVal xs 1 0 = nI 4294967295 from rfl) ?_
    refine Ev.run 6 (pc' := 9) (lv' := [(3, .int (nI 3)), (2, .int (nI 4294967295)), (0, .int (nI 5)), (1, .int (nI 1))]) (st' := [.int (Int32.ofNat (xLen L 1)), .int (nI 3)]) (h' := HN g hl (RF rt)) rfl ?_
    refine Ev.topI (show Int32.ofNat (xLen L 1) = nI 7 from rfl) ?_
    refine Ev.run 2 (pc' := 13) (lv' := [(3, .int (nI 3)), (2, .int (nI 4294967295)), (0, .int (nI 5)), (1, .int (nI 1))]) (st' := [.int (nI 4294967295)]) (h' := HN g hl (RF rt)) rfl ?_
    refine Ev.call (a := 120) (as := [.int (nI 4294967295)]) (rest := []) (lv0 := [(0, .int (nI 4294967295))]) (Q1 := (fun z0 h' => z0 = some (.int (nI 0)) ∧ h' = HN g hl (RF rt))) rfl rfl (K_isKind _ _ _ _ 4294967295 (by omega) ⟨rfl, rfl⟩) (fun r h' hr => ?_)
    obtain ⟨rfl, rfl⟩ := hr
    refine Ev.run 2 (pc' := 39) (lv' := [(3, .int (nI 3)), (2, .int (nI 4294967295)), (0, .int (nI 5)), (1, .int (nI 1))]) (st' := [.int (nI 0)]) (h' := HN g hl (RF rt)) rfl ?_
    refine Ev.ret (v := some (.int (nI 0))) rfl ?_
    exact hq
  · refine Ev.run 7 (pc' := 9) (lv' := [(3, .int (nI 0)), (2, .int (nI 5)), (0, .int (nI 5)), (1, .int (nI 2))]) (st' := [.int (Int32.ofNat (xLen L 1)), .int (nI 0)]) (h' := HN g hl (RF rt)) rfl ?_
    refine Ev.topI (show Int32.ofNat (xLen L 1) = nI 7 from rfl) ?_
    refine Ev.run 2 (pc' := 13) (lv' := [(3, .int (nI 0)), (2, .int (nI 5)), (0, .int (nI 5)), (1, .int (nI 2))]) (st' := [.int (nI 5)]) (h' := HN g hl (RF rt)) rfl ?_
    refine Ev.call (a := 120) (as := [.int (nI 5)]) (rest := []) (lv0 := [(0, .int (nI 5))]) (Q1 := (fun z0 h' => z0 = some (.int (nI 1)) ∧ h' = HN g hl (RF rt))) rfl rfl (K_isKind _ _ _ _ 5 (by omega) ⟨rfl, rfl⟩) (fun r h' hr => ?_)
    obtain ⟨rfl, rfl⟩ := hr
    refine Ev.run 6 (pc' := 30) (lv' := [(3, .int (nI 0)), (2, .int (nI 5)), (0, .int (nI 5)), (1, .int (nI 2))]) (st' := [.int (nI 5), .retAddr 1]) (h' := HN g hl (RF rt)) rfl ?_
    refine Ev_xald rfl (by decide) (show 5 < 7 by omega) (show 7 < 2 ^ 31 by decide) ?_
    refine Ev.topI (show xVal xs 1 5 = nI 2 from rfl) ?_
    refine Ev.run 6 (pc' := 9) (lv' := [(3, .int (nI 1)), (2, .int (nI 2)), (0, .int (nI 5)), (1, .int (nI 2))]) (st' := [.int (Int32.ofNat (xLen L 1)), .int (nI 1)]) (h' := HN g hl (RF rt)) rfl ?_
    refine Ev.topI (show Int32.ofNat (xLen L 1) = nI 7 from rfl) ?_
    refine Ev.run 2 (pc' := 13) (lv' := [(3, .int (nI 1)), (2, .int (nI 2)), (0, .int (nI 5)), (1, .int (nI 2))]) (st' := [.int (nI 2)]) (h' := HN g hl (RF rt)) rfl ?_
    refine Ev.call (a := 120) (as := [.int (nI 2)]) (rest := []) (lv0 := [(0, .int (nI 2))]) (Q1 := (fun z0 h' => z0 = some (.int (nI 1)) ∧ h' = HN g hl (RF rt))) rfl rfl (K_isKind _ _ _ _ 2 (by omega) ⟨rfl, rfl⟩) (fun r h' hr => ?_)
    obtain ⟨rfl, rfl⟩ := hr
    refine Ev.run 5 (pc' := 25) (lv' := [(3, .int (nI 1)), (2, .int (nI 2)), (0, .int (nI 5)), (1, .int (nI 2))]) (st' := [.int (nI 1)]) (h' := HN g hl (RF rt)) rfl ?_
    refine Ev.ret (v := some (.int (nI 1))) rfl ?_
    exact hq
  · refine Ev.run 7 (pc' := 9) (lv' := [(3, .int (nI 0)), (2, .int (nI 5)), (0, .int (nI 5)), (1, .int (nI 3))]) (st' := [.int (Int32.ofNat (xLen L 1)), .int (nI 0)]) (h' := HN g hl (RF rt)) rfl ?_
    refine Ev.topI (show Int32.ofNat (xLen L 1) = nI 7 from rfl) ?_
    refine Ev.run 2 (pc' := 13) (lv' := [(3, .int (nI 0)), (2, .int (nI 5)), (0, .int (nI 5)), (1, .int (nI 3))]) (st' := [.int (nI 5)]) (h' := HN g hl (RF rt)) rfl ?_
    refine Ev.call (a := 120) (as := [.int (nI 5)]) (rest := []) (lv0 := [(0, .int (nI 5))]) (Q1 := (fun z0 h' => z0 = some (.int (nI 1)) ∧ h' = HN g hl (RF rt))) rfl rfl (K_isKind _ _ _ _ 5 (by omega) ⟨rfl, rfl⟩) (fun r h' hr => ?_)
    obtain ⟨rfl, rfl⟩ := hr
    refine Ev.run 6 (pc' := 30) (lv' := [(3, .int (nI 0)), (2, .int (nI 5)), (0, .int (nI 5)), (1, .int (nI 3))]) (st' := [.int (nI 5), .retAddr 1]) (h' := HN g hl (RF rt)) rfl ?_
    refine Ev_xald rfl (by decide) (show 5 < 7 by omega) (show 7 < 2 ^ 31 by decide) ?_
    refine Ev.topI (show xVal xs 1 5 = nI 2 from rfl) ?_
    refine Ev.run 6 (pc' := 9) (lv' := [(3, .int (nI 1)), (2, .int (nI 2)), (0, .int (nI 5)), (1, .int (nI 3))]) (st' := [.int (Int32.ofNat (xLen L 1)), .int (nI 1)]) (h' := HN g hl (RF rt)) rfl ?_
    refine Ev.topI (show Int32.ofNat (xLen L 1) = nI 7 from rfl) ?_
    refine Ev.run 2 (pc' := 13) (lv' := [(3, .int (nI 1)), (2, .int (nI 2)), (0, .int (nI 5)), (1, .int (nI 3))]) (st' := [.int (nI 2)]) (h' := HN g hl (RF rt)) rfl ?_
    refine Ev.call (a := 120) (as := [.int (nI 2)]) (rest := []) (lv0 := [(0, .int (nI 2))]) (Q1 := (fun z0 h' => z0 = some (.int (nI 1)) ∧ h' = HN g hl (RF rt))) rfl rfl (K_isKind _ _ _ _ 2 (by omega) ⟨rfl, rfl⟩) (fun r h' hr => ?_)
    obtain ⟨rfl, rfl⟩ := hr
    refine Ev.run 6 (pc' := 30) (lv' := [(3, .int (nI 1)), (2, .int (nI 2)), (0, .int (nI 5)), (1, .int (nI 3))]) (st' := [.int (nI 2), .retAddr 1]) (h' := HN g hl (RF rt)) rfl ?_
    refine Ev_xald rfl (by decide) (show 2 < 7 by omega) (show 7 < 2 ^ 31 by decide) ?_
    refine Ev.topI (show xVal xs 1 2 = nI 0 from rfl) ?_
    refine Ev.run 6 (pc' := 9) (lv' := [(3, .int (nI 2)), (2, .int (nI 0)), (0, .int (nI 5)), (1, .int (nI 3))]) (st' := [.int (Int32.ofNat (xLen L 1)), .int (nI 2)]) (h' := HN g hl (RF rt)) rfl ?_
    refine Ev.topI (show Int32.ofNat (xLen L 1) = nI 7 from rfl) ?_
    refine Ev.run 2 (pc' := 13) (lv' := [(3, .int (nI 2)), (2, .int (nI 0)), (0, .int (nI 5)), (1, .int (nI 3))]) (st' := [.int (nI 0)]) (h' := HN g hl (RF rt)) rfl ?_
    refine Ev.call (a := 120) (as := [.int (nI 0)]) (rest := []) (lv0 := [(0, .int (nI 0))]) (Q1 := (fun z0 h' => z0 = some (.int (nI 1)) ∧ h' = HN g hl (RF rt))) rfl rfl (K_isKind _ _ _ _ 0 (by omega) ⟨rfl, rfl⟩) (fun r h' hr => ?_)
    obtain ⟨rfl, rfl⟩ := hr
    refine Ev.run 6 (pc' := 30) (lv' := [(3, .int (nI 2)), (2, .int (nI 0)), (0, .int (nI 5)), (1, .int (nI 3))]) (st' := [.int (nI 0), .retAddr 1]) (h' := HN g hl (RF rt)) rfl ?_
    refine Ev_xald rfl (by decide) (show 0 < 7 by omega) (show 7 < 2 ^ 31 by decide) ?_
    refine Ev.topI (show xVal xs 1 0 = nI 4294967295 from rfl) ?_
    refine Ev.run 6 (pc' := 9) (lv' := [(3, .int (nI 3)), (2, .int (nI 4294967295)), (0, .int (nI 5)), (1, .int (nI 3))]) (st' := [.int (Int32.ofNat (xLen L 1)), .int (nI 3)]) (h' := HN g hl (RF rt)) rfl ?_
    refine Ev.topI (show Int32.ofNat (xLen L 1) = nI 7 from rfl) ?_
    refine Ev.run 2 (pc' := 13) (lv' := [(3, .int (nI 3)), (2, .int (nI 4294967295)), (0, .int (nI 5)), (1, .int (nI 3))]) (st' := [.int (nI 4294967295)]) (h' := HN g hl (RF rt)) rfl ?_
    refine Ev.call (a := 120) (as := [.int (nI 4294967295)]) (rest := []) (lv0 := [(0, .int (nI 4294967295))]) (Q1 := (fun z0 h' => z0 = some (.int (nI 0)) ∧ h' = HN g hl (RF rt))) rfl rfl (K_isKind _ _ _ _ 4294967295 (by omega) ⟨rfl, rfl⟩) (fun r h' hr => ?_)
    obtain ⟨rfl, rfl⟩ := hr
    refine Ev.run 2 (pc' := 39) (lv' := [(3, .int (nI 3)), (2, .int (nI 4294967295)), (0, .int (nI 5)), (1, .int (nI 3))]) (st' := [.int (nI 0)]) (h' := HN g hl (RF rt)) rfl ?_
    refine Ev.ret (v := some (.int (nI 0))) rfl ?_
    exact hq
  · refine Ev.run 7 (pc' := 9) (lv' := [(3, .int (nI 0)), (2, .int (nI 6)), (0, .int (nI 6)), (1, .int (nI 1))]) (st' := [.int (Int32.ofNat (xLen L 1)), .int (nI 0)]) (h' := HN g hl (RF rt)) rfl ?_
    refine Ev.topI (show Int32.ofNat (xLen L 1) = nI 7 from rfl) ?_
    refine Ev.run 2 (pc' := 13) (lv' := [(3, .int (nI 0)), (2, .int (nI 6)), (0, .int (nI 6)), (1, .int (nI 1))]) (st' := [.int (nI 6)]) (h' := HN g hl (RF rt)) rfl ?_
    refine Ev.call (a := 120) (as := [.int (nI 6)]) (rest := []) (lv0 := [(0, .int (nI 6))]) (Q1 := (fun z0 h' => z0 = some (.int (nI 1)) ∧ h' = HN g hl (RF rt))) rfl rfl (K_isKind _ _ _ _ 6 (by omega) ⟨rfl, rfl⟩) (fun r h' hr => ?_)
    obtain ⟨rfl, rfl⟩ := hr
    refine Ev.run 6 (pc' := 30) (lv' := [(3, .int (nI 0)), (2, .int (nI 6)), (0, .int (nI 6)), (1, .int (nI 1))]) (st' := [.int (nI 6), .retAddr 1]) (h' := HN g hl (RF rt)) rfl ?_
    refine Ev_xald rfl (by decide) (show 6 < 7 by omega) (show 7 < 2 ^ 31 by decide) ?_
    refine Ev.topI (show xVal xs 1 6 = nI 3 from rfl) ?_
    refine Ev.run 6 (pc' := 9) (lv' := [(3, .int (nI 1)), (2, .int (nI 3)), (0, .int (nI 6)), (1, .int (nI 1))]) (st' := [.int (Int32.ofNat (xLen L 1)), .int (nI 1)]) (h' := HN g hl (RF rt)) rfl ?_
    refine Ev.topI (show Int32.ofNat (xLen L 1) = nI 7 from rfl) ?_
    refine Ev.run 2 (pc' := 13) (lv' := [(3, .int (nI 1)), (2, .int (nI 3)), (0, .int (nI 6)), (1, .int (nI 1))]) (st' := [.int (nI 3)]) (h' := HN g hl (RF rt)) rfl ?_
    refine Ev.call (a := 120) (as := [.int (nI 3)]) (rest := []) (lv0 := [(0, .int (nI 3))]) (Q1 := (fun z0 h' => z0 = some (.int (nI 1)) ∧ h' = HN g hl (RF rt))) rfl rfl (K_isKind _ _ _ _ 3 (by omega) ⟨rfl, rfl⟩) (fun r h' hr => ?_)
    obtain ⟨rfl, rfl⟩ := hr
    refine Ev.run 6 (pc' := 30) (lv' := [(3, .int (nI 1)), (2, .int (nI 3)), (0, .int (nI 6)), (1, .int (nI 1))]) (st' := [.int (nI 3), .retAddr 1]) (h' := HN g hl (RF rt)) rfl ?_
    refine Ev_xald rfl (by decide) (show 3 < 7 by omega) (show 7 < 2 ^ 31 by decide) ?_
    refine Ev.topI (show xVal xs 1 3 = nI 0 from rfl) ?_
    refine Ev.run 6 (pc' := 9) (lv' := [(3, .int (nI 2)), (2, .int (nI 0)), (0, .int (nI 6)), (1, .int (nI 1))]) (st' := [.int (Int32.ofNat (xLen L 1)), .int (nI 2)]) (h' := HN g hl (RF rt)) rfl ?_
    refine Ev.topI (show Int32.ofNat (xLen L 1) = nI 7 from rfl) ?_
    refine Ev.run 2 (pc' := 13) (lv' := [(3, .int (nI 2)), (2, .int (nI 0)), (0, .int (nI 6)), (1, .int (nI 1))]) (st' := [.int (nI 0)]) (h' := HN g hl (RF rt)) rfl ?_
    refine Ev.call (a := 120) (as := [.int (nI 0)]) (rest := []) (lv0 := [(0, .int (nI 0))]) (Q1 := (fun z0 h' => z0 = some (.int (nI 1)) ∧ h' = HN g hl (RF rt))) rfl rfl (K_isKind _ _ _ _ 0 (by omega) ⟨rfl, rfl⟩) (fun r h' hr => ?_)
    obtain ⟨rfl, rfl⟩ := hr
    refine Ev.run 6 (pc' := 30) (lv' := [(3, .int (nI 2)), (2, .int (nI 0)), (0, .int (nI 6)), (1, .int (nI 1))]) (st' := [.int (nI 0), .retAddr 1]) (h' := HN g hl (RF rt)) rfl ?_
    refine Ev_xald rfl (by decide) (show 0 < 7 by omega) (show 7 < 2 ^ 31 by decide) ?_
    refine Ev.topI (show xVal xs 1 0 = nI 4294967295 from rfl) ?_
    refine Ev.run 6 (pc' := 9) (lv' := [(3, .int (nI 3)), (2, .int (nI 4294967295)), (0, .int (nI 6)), (1, .int (nI 1))]) (st' := [.int (Int32.ofNat (xLen L 1)), .int (nI 3)]) (h' := HN g hl (RF rt)) rfl ?_
    refine Ev.topI (show Int32.ofNat (xLen L 1) = nI 7 from rfl) ?_
    refine Ev.run 2 (pc' := 13) (lv' := [(3, .int (nI 3)), (2, .int (nI 4294967295)), (0, .int (nI 6)), (1, .int (nI 1))]) (st' := [.int (nI 4294967295)]) (h' := HN g hl (RF rt)) rfl ?_
    refine Ev.call (a := 120) (as := [.int (nI 4294967295)]) (rest := []) (lv0 := [(0, .int (nI 4294967295))]) (Q1 := (fun z0 h' => z0 = some (.int (nI 0)) ∧ h' = HN g hl (RF rt))) rfl rfl (K_isKind _ _ _ _ 4294967295 (by omega) ⟨rfl, rfl⟩) (fun r h' hr => ?_)
    obtain ⟨rfl, rfl⟩ := hr
    refine Ev.run 2 (pc' := 39) (lv' := [(3, .int (nI 3)), (2, .int (nI 4294967295)), (0, .int (nI 6)), (1, .int (nI 1))]) (st' := [.int (nI 0)]) (h' := HN g hl (RF rt)) rfl ?_
    refine Ev.ret (v := some (.int (nI 0))) rfl ?_
    exact hq
  · refine Ev.run 7 (pc' := 9) (lv' := [(3, .int (nI 0)), (2, .int (nI 6)), (0, .int (nI 6)), (1, .int (nI 2))]) (st' := [.int (Int32.ofNat (xLen L 1)), .int (nI 0)]) (h' := HN g hl (RF rt)) rfl ?_
    refine Ev.topI (show Int32.ofNat (xLen L 1) = nI 7 from rfl) ?_
    refine Ev.run 2 (pc' := 13) (lv' := [(3, .int (nI 0)), (2, .int (nI 6)), (0, .int (nI 6)), (1, .int (nI 2))]) (st' := [.int (nI 6)]) (h' := HN g hl (RF rt)) rfl ?_
    refine Ev.call (a := 120) (as := [.int (nI 6)]) (rest := []) (lv0 := [(0, .int (nI 6))]) (Q1 := (fun z0 h' => z0 = some (.int (nI 1)) ∧ h' = HN g hl (RF rt))) rfl rfl (K_isKind _ _ _ _ 6 (by omega) ⟨rfl, rfl⟩) (fun r h' hr => ?_)
    obtain ⟨rfl, rfl⟩ := hr
    refine Ev.run 6 (pc' := 30) (lv' := [(3, .int (nI 0)), (2, .int (nI 6)), (0, .int (nI 6)), (1, .int (nI 2))]) (st' := [.int (nI 6), .retAddr 1]) (h' := HN g hl (RF rt)) rfl ?_
    refine Ev_xald rfl (by decide) (show 6 < 7 by omega) (show 7 < 2 ^ 31 by decide) ?_
    refine Ev.topI (show xVal xs 1 6 = nI 3 from rfl) ?_
    refine Ev.run 6 (pc' := 9) (lv' := [(3, .int (nI 1)), (2, .int (nI 3)), (0, .int (nI 6)), (1, .int (nI 2))]) (st' := [.int (Int32.ofNat (xLen L 1)), .int (nI 1)]) (h' := HN g hl (RF rt)) rfl ?_
    refine Ev.topI (show Int32.ofNat (xLen L 1) = nI 7 from rfl) ?_
    refine Ev.run 2 (pc' := 13) (lv' := [(3, .int (nI 1)), (2, .int (nI 3)), (0, .int (nI 6)), (1, .int (nI 2))]) (st' := [.int (nI 3)]) (h' := HN g hl (RF rt)) rfl ?_
    refine Ev.call (a := 120) (as := [.int (nI 3)]) (rest := []) (lv0 := [(0, .int (nI 3))]) (Q1 := (fun z0 h' => z0 = some (.int (nI 1)) ∧ h' = HN g hl (RF rt))) rfl rfl (K_isKind _ _ _ _ 3 (by omega) ⟨rfl, rfl⟩) (fun r h' hr => ?_)
    obtain ⟨rfl, rfl⟩ := hr
    refine Ev.run 6 (pc' := 30) (lv' := [(3, .int (nI 1)), (2, .int (nI 3)), (0, .int (nI 6)), (1, .int (nI 2))]) (st' := [.int (nI 3), .retAddr 1]) (h' := HN g hl (RF rt)) rfl ?_
    refine Ev_xald rfl (by decide) (show 3 < 7 by omega) (show 7 < 2 ^ 31 by decide) ?_
    refine Ev.topI (show xVal xs 1 3 = nI 0 from rfl) ?_
    refine Ev.run 6 (pc' := 9) (lv' := [(3, .int (nI 2)), (2, .int (nI 0)), (0, .int (nI 6)), (1, .int (nI 2))]) (st' := [.int (Int32.ofNat (xLen L 1)), .int (nI 2)]) (h' := HN g hl (RF rt)) rfl ?_
    refine Ev.topI (show Int32.ofNat (xLen L 1) = nI 7 from rfl) ?_
    refine Ev.run 2 (pc' := 13) (lv' := [(3, .int (nI 2)), (2, .int (nI 0)), (0, .int (nI 6)), (1, .int (nI 2))]) (st' := [.int (nI 0)]) (h' := HN g hl (RF rt)) rfl ?_
    refine Ev.call (a := 120) (as := [.int (nI 0)]) (rest := []) (lv0 := [(0, .int (nI 0))]) (Q1 := (fun z0 h' => z0 = some (.int (nI 1)) ∧ h' = HN g hl (RF rt))) rfl rfl (K_isKind _ _ _ _ 0 (by omega) ⟨rfl, rfl⟩) (fun r h' hr => ?_)
    obtain ⟨rfl, rfl⟩ := hr
    refine Ev.run 6 (pc' := 30) (lv' := [(3, .int (nI 2)), (2, .int (nI 0)), (0, .int (nI 6)), (1, .int (nI 2))]) (st' := [.int (nI 0), .retAddr 1]) (h' := HN g hl (RF rt)) rfl ?_
    refine Ev_xald rfl (by decide) (show 0 < 7 by omega) (show 7 < 2 ^ 31 by decide) ?_
    refine Ev.topI (show xVal xs 1 0 = nI 4294967295 from rfl) ?_
    refine Ev.run 6 (pc' := 9) (lv' := [(3, .int (nI 3)), (2, .int (nI 4294967295)), (0, .int (nI 6)), (1, .int (nI 2))]) (st' := [.int (Int32.ofNat (xLen L 1)), .int (nI 3)]) (h' := HN g hl (RF rt)) rfl ?_
    refine Ev.topI (show Int32.ofNat (xLen L 1) = nI 7 from rfl) ?_
    refine Ev.run 2 (pc' := 13) (lv' := [(3, .int (nI 3)), (2, .int (nI 4294967295)), (0, .int (nI 6)), (1, .int (nI 2))]) (st' := [.int (nI 4294967295)]) (h' := HN g hl (RF rt)) rfl ?_
    refine Ev.call (a := 120) (as := [.int (nI 4294967295)]) (rest := []) (lv0 := [(0, .int (nI 4294967295))]) (Q1 := (fun z0 h' => z0 = some (.int (nI 0)) ∧ h' = HN g hl (RF rt))) rfl rfl (K_isKind _ _ _ _ 4294967295 (by omega) ⟨rfl, rfl⟩) (fun r h' hr => ?_)
    obtain ⟨rfl, rfl⟩ := hr
    refine Ev.run 2 (pc' := 39) (lv' := [(3, .int (nI 3)), (2, .int (nI 4294967295)), (0, .int (nI 6)), (1, .int (nI 2))]) (st' := [.int (nI 0)]) (h' := HN g hl (RF rt)) rfl ?_
    refine Ev.ret (v := some (.int (nI 0))) rfl ?_
    exact hq
  · refine Ev.run 7 (pc' := 9) (lv' := [(3, .int (nI 0)), (2, .int (nI 6)), (0, .int (nI 6)), (1, .int (nI 3))]) (st' := [.int (Int32.ofNat (xLen L 1)), .int (nI 0)]) (h' := HN g hl (RF rt)) rfl ?_
    refine Ev.topI (show Int32.ofNat (xLen L 1) = nI 7 from rfl) ?_
    refine Ev.run 2 (pc' := 13) (lv' := [(3, .int (nI 0)), (2, .int (nI 6)), (0, .int (nI 6)), (1, .int (nI 3))]) (st' := [.int (nI 6)]) (h' := HN g hl (RF rt)) rfl ?_
    refine Ev.call (a := 120) (as := [.int (nI 6)]) (rest := []) (lv0 := [(0, .int (nI 6))]) (Q1 := (fun z0 h' => z0 = some (.int (nI 1)) ∧ h' = HN g hl (RF rt))) rfl rfl (K_isKind _ _ _ _ 6 (by omega) ⟨rfl, rfl⟩) (fun r h' hr => ?_)
    obtain ⟨rfl, rfl⟩ := hr
    refine Ev.run 6 (pc' := 30) (lv' := [(3, .int (nI 0)), (2, .int (nI 6)), (0, .int (nI 6)), (1, .int (nI 3))]) (st' := [.int (nI 6), .retAddr 1]) (h' := HN g hl (RF rt)) rfl ?_
    refine Ev_xald rfl (by decide) (show 6 < 7 by omega) (show 7 < 2 ^ 31 by decide) ?_
    refine Ev.topI (show xVal xs 1 6 = nI 3 from rfl) ?_
    refine Ev.run 6 (pc' := 9) (lv' := [(3, .int (nI 1)), (2, .int (nI 3)), (0, .int (nI 6)), (1, .int (nI 3))]) (st' := [.int (Int32.ofNat (xLen L 1)), .int (nI 1)]) (h' := HN g hl (RF rt)) rfl ?_
    refine Ev.topI (show Int32.ofNat (xLen L 1) = nI 7 from rfl) ?_
    refine Ev.run 2 (pc' := 13) (lv' := [(3, .int (nI 1)), (2, .int (nI 3)), (0, .int (nI 6)), (1, .int (nI 3))]) (st' := [.int (nI 3)]) (h' := HN g hl (RF rt)) rfl ?_
    refine Ev.call (a := 120) (as := [.int (nI 3)]) (rest := []) (lv0 := [(0, .int (nI 3))]) (Q1 := (fun z0 h' => z0 = some (.int (nI 1)) ∧ h' = HN g hl (RF rt))) rfl rfl (K_isKind _ _ _ _ 3 (by omega) ⟨rfl, rfl⟩) (fun r h' hr => ?_)
    obtain ⟨rfl, rfl⟩ := hr
    refine Ev.run 5 (pc' := 25) (lv' := [(3, .int (nI 1)), (2, .int (nI 3)), (0, .int (nI 6)), (1, .int (nI 3))]) (st' := [.int (nI 1)]) (h' := HN g hl (RF rt)) rfl ?_
    refine Ev.ret (v := some (.int (nI 1))) rfl ?_
    exact hq
def bcG (g : Nat → Nat → Nat) (wd n : Nat) (y : Nat) : Nat := ones12 (goB g (wd &&& bset (plB g n y) (g 166 0)) (n + 1))
theorem bcG_le (g : Nat → Nat → Nat) (wd n y : Nat) : bcG g wd n y ≤ 4 := ones16 (bset_lt _ 4)
theorem slC_b {f : Nat → Nat} (hf : ∀ y, f y ≤ 4) (s : Nat) : ∀ n, n ≤ 10 → (slC f s n).1 ≤ 10 ∧ (slC f s n).2 ≤ 5 := by
  intro n
  induction n with
  | zero => intro _; exact ⟨Nat.le_refl 10, Nat.le_refl 5⟩
  | succ n ih =>
    intro hn
    have h4 := hf n
    have h5 := ih (by omega)
    unfold slC
    split
    · split
      · exact ⟨by show n ≤ 10; omega, by show f n ≤ 5; omega⟩
      · exact h5
    · exact h5
theorem slC_0 {f : Nat → Nat} {s n : Nat} (h : s.testBit n = false) : slC f s (n + 1) = slC f s n := by rw [slC, if_neg (by rw [h]; decide)]
theorem slC_1 {f : Nat → Nat} {s n : Nat} (h : s.testBit n = true) (h2 : f n < (slC f s n).2) : slC f s (n + 1) = (n, f n) := by rw [slC, if_pos h, if_pos h2]
theorem slC_2 {f : Nat → Nat} {s n : Nat} (h : s.testBit n = true) (h2 : ¬ f n < (slC f s n).2) : slC f s (n + 1) = slC f s n := by rw [slC, if_pos h, if_neg h2]
def syC (g : Nat → Nat → Nat) (x1 x3 : Nat → Nat) (who f safe : Nat) : Nat := (slC (bcG g (if fwC x3 (g 12 2) who (g 12 2) 1 < 2147483648 then f &&& g 59 (fwC x3 (g 12 2) who (g 12 2) 1) else 0) (x1 1)) safe 4).1
theorem syC_le (g : Nat → Nat → Nat) (x1 x3 : Nat → Nat) (who f safe : Nat) : syC g x1 x3 who f safe ≤ 10 := (slC_b (bcG_le _ _ _) _ 4 (by decide)).1
theorem K44_slyest {L : Nat} {xs : Nat → Int32} (d : Nat) (g : Nat → Nat → Nat) (hl : Nat → Nat → Int64) (rt : Nat × Nat × Nat × Nat) (hI : MI g) (hB : CB g) (hP5 : g 12 2 ≤ 5) (hk59 : ∀ j, j < 5 → g 59 j < 4096) (x0 x1 x2 x3 : Nat → Nat) (hx3 : ∀ j, j < 5 → x3 j ≤ 99) (hn12 : x1 1 ≤ 12) (who f s : Nat) (hwho : who < 5) (hf : f < 4096) (hs : s < 16) {Q : Po} (hq : Q (some (.int (nI (syC g x1 x3 who f s)))) (HN (RO g 44 x0 x1 x2 x3) hl (RF rt))) : Ev L xs (d + 4) 40 0 [(0, .ref 12), (1, .ref 44), (2, .int (nI who)), (3, .int (nI f)), (4, .int (nI s))] [] (HN (RO g 44 x0 x1 x2 x3) hl (RF rt)) Q := by
  have hW := hI.hW
  have hS := hI.hS
  have hPl := hI.hPl
  have hNx := hI.hNx
  have hLa := hI.hLa
  have hLo := hI.hLo
  have hTb := hI.hTb
  have hTh := hI.hTh
  have hFd := hI.hFd
  have hSn := hI.hSn
  have hSh := hI.hSh
  have hRan := hI.hRan
  have hLr := hI.hLr
  have hLt := hI.hLt
  have hgl := hI.hgl
  have hsz := hI.hsz
  have hcm := hI.hcm
  have hsl := hI.hsl
  have hkd := hI.hkd
  have hvv := hI.hvv
  have hli := hI.hli
  have hro := hI.hro
  have hrw := hI.hrw
  have htx := hI.htx
  have hsw := hI.hsw
  have hsx := hI.hsx
  have hsy := hI.hsy
  have hsh := hI.hsh
  have hle := hI.hle
  have hcl := hI.hcl
  have hwd := hI.hwd
  have hnu := hI.hnu
  have hwn := hI.hwn
  have hs1 := hI.hs1
  have hso := hI.hso
  refine Ev.run 3 (pc' := 3) (lv' := [(0, .ref 12), (1, .ref 44), (2, .int (nI who)), (3, .int (nI f)), (4, .int (nI s))]) (st' := [.int (nI who), .ref 44, .ref 12]) (h' := HN (RO g 44 x0 x1 x2 x3) hl (RF rt)) rfl ?_
  refine Ev.call (a := 33) (as := [.ref 12, .ref 44, .int (nI who)]) (rest := []) (lv0 := [(0, .ref 12), (1, .ref 44), (2, .int (nI who))]) (Q1 := (fun z0 h' => z0 = some (.int (nI (fwC x3 (g 12 2) who (g 12 2) 1))) ∧ h' = HN (RO g 44 x0 x1 x2 x3) hl (RF rt))) rfl rfl (K44_following _ g _ _ hP5 x0 x1 x2 x3 hx3 who (by omega) ⟨rfl, rfl⟩) (fun r h' hr => ?_)
  obtain ⟨rfl, rfl⟩ := hr
  have hfw := fwC_l5 x3 who hP5
  refine Ev.run 3 (pc' := (if 0 ≤ nI (fwC x3 (g 12 2) who (g 12 2) 1) then 17 else 13)) (lv' := [(5, .int (nI (fwC x3 (g 12 2) who (g 12 2) 1))), (0, .ref 12), (1, .ref 44), (2, .int (nI who)), (3, .int (nI f)), (4, .int (nI s))]) (st' := []) (h' := HN (RO g 44 x0 x1 x2 x3) hl (RF rt)) rfl ?_
  refine Ev.ite (fun hc10 => ?_) (fun hc10 => ?_)
  · have hc10 : (fwC x3 (g 12 2) who (g 12 2) 1) < 2147483648 := (nI_geU0 (by omega)).mp hc10
    refine Ev.run 4 (pc' := 24) (lv' := [(5, .int (nI (fwC x3 (g 12 2) who (g 12 2) 1))), (0, .ref 12), (1, .ref 44), (2, .int (nI who)), (3, .int (nI f)), (4, .int (nI s))]) (st' := [.int (nI (fwC x3 (g 12 2) who (g 12 2) 1)), .ref 59, .int (nI f)]) (h' := HN (RO g 44 x0 x1 x2 x3) hl (RF rt)) rfl ?_
    refine Ev_iald rfl rfl (show fwC x3 (g 12 2) who (g 12 2) 1 < 5 by omega) (Nat.le_of_ble_eq_true rfl) ?_
    refine Ev.run 1 (pc' := 26) (lv' := [(5, .int (nI (fwC x3 (g 12 2) who (g 12 2) 1))), (0, .ref 12), (1, .ref 44), (2, .int (nI who)), (3, .int (nI f)), (4, .int (nI s))]) (st' := [.int (nI f &&& nI (g 59 (fwC x3 (g 12 2) who (g 12 2) 1)))]) (h' := HN (RO g 44 x0 x1 x2 x3) hl (RF rt)) rfl ?_
    refine Ev.topI (nIa _ _) ?_
    refine Ev.run 7 (pc' := 38) (lv' := [(9, .int (nI 0)), (8, .int (nI 5)), (7, .int (nI 10)), (6, .int (nI (f &&& (g 59 (fwC x3 (g 12 2) who (g 12 2) 1))))), (5, .int (nI (fwC x3 (g 12 2) who (g 12 2) 1))), (0, .ref 12), (1, .ref 44), (2, .int (nI who)), (3, .int (nI f)), (4, .int (nI s))]) (st' := []) (h' := HN (RO g 44 x0 x1 x2 x3) hl (RF rt)) rfl ?_
    have hwd : f &&& (g 59 (fwC x3 (g 12 2) who (g 12 2) 1)) < 4096 := by first | omega | (have h1 := hk59 (fwC x3 (g 12 2) who (g 12 2) 1) (by omega); exact Nat.lt_of_le_of_lt Nat.and_le_right h1)
    refine for_ind 4 (fun k => Ev L xs (d + 4) 40 38 [(9, .int (nI k)), (8, .int (nI ((slC (bcG g (f &&& (g 59 (fwC x3 (g 12 2) who (g 12 2) 1))) (x1 1)) s k).2))), (7, .int (nI ((slC (bcG g (f &&& (g 59 (fwC x3 (g 12 2) who (g 12 2) 1))) (x1 1)) s k).1))), (6, .int (nI (f &&& (g 59 (fwC x3 (g 12 2) who (g 12 2) 1))))), (5, .int (nI (fwC x3 (g 12 2) who (g 12 2) 1))), (0, .ref 12), (1, .ref 44), (2, .int (nI who)), (3, .int (nI f)), (4, .int (nI s))] [] (HN (RO g 44 x0 x1 x2 x3) hl (RF rt)) Q) (fun k hk hnext => ?_) 0 (Nat.zero_le _)
    have hslb := slC_b (f := bcG g (f &&& (g 59 (fwC x3 (g 12 2) who (g 12 2) 1))) (x1 1)) (bcG_le _ _ _) s k (by omega)
    have hand := and_le (f &&& (g 59 (fwC x3 (g 12 2) who (g 12 2) 1))) (bset (plB g (x1 1) k) (g 166 0))
    have hbc := bcG_le g (f &&& (g 59 (fwC x3 (g 12 2) who (g 12 2) 1))) (x1 1) k
    refine Ev.run 3 (pc' := (if nI 4 ≤ nI k then 121 else 44)) (lv' := [(9, .int (nI k)), (8, .int (nI ((slC (bcG g (f &&& (g 59 (fwC x3 (g 12 2) who (g 12 2) 1))) (x1 1)) s k).2))), (7, .int (nI ((slC (bcG g (f &&& (g 59 (fwC x3 (g 12 2) who (g 12 2) 1))) (x1 1)) s k).1))), (6, .int (nI (f &&& (g 59 (fwC x3 (g 12 2) who (g 12 2) 1))))), (5, .int (nI (fwC x3 (g 12 2) who (g 12 2) 1))), (0, .ref 12), (1, .ref 44), (2, .int (nI who)), (3, .int (nI f)), (4, .int (nI s))]) (st' := []) (h' := HN (RO g 44 x0 x1 x2 x3) hl (RF rt)) rfl ?_
    refine Ev.ite (fun hc41 => ?_) (fun hc41 => ?_)
    · have hc41 : 4 ≤ k := (nI_leI (by omega) (by omega)).mp hc41
      refine Ev.run 1 (pc' := 123) (lv' := [(9, .int (nI k)), (8, .int (nI ((slC (bcG g (f &&& (g 59 (fwC x3 (g 12 2) who (g 12 2) 1))) (x1 1)) s k).2))), (7, .int (nI ((slC (bcG g (f &&& (g 59 (fwC x3 (g 12 2) who (g 12 2) 1))) (x1 1)) s k).1))), (6, .int (nI (f &&& (g 59 (fwC x3 (g 12 2) who (g 12 2) 1))))), (5, .int (nI (fwC x3 (g 12 2) who (g 12 2) 1))), (0, .ref 12), (1, .ref 44), (2, .int (nI who)), (3, .int (nI f)), (4, .int (nI s))]) (st' := [.int (nI ((slC (bcG g (f &&& (g 59 (fwC x3 (g 12 2) who (g 12 2) 1))) (x1 1)) s k).1))]) (h' := HN (RO g 44 x0 x1 x2 x3) hl (RF rt)) rfl ?_
      refine Ev.ret (v := some (.int (nI ((slC (bcG g (f &&& (g 59 (fwC x3 (g 12 2) who (g 12 2) 1))) (x1 1)) s k).1)))) rfl ?_
      obtain rfl : k = 4 := by omega
      unfold syC at hq
      rw [if_pos hc10] at hq
      exact hq
    · have hc41 : ¬ (4 ≤ k) := fun z => hc41 ((nI_leI (by omega) (by omega)).mpr z)
      refine Ev.run 2 (pc' := 48) (lv' := [(9, .int (nI k)), (8, .int (nI ((slC (bcG g (f &&& (g 59 (fwC x3 (g 12 2) who (g 12 2) 1))) (x1 1)) s k).2))), (7, .int (nI ((slC (bcG g (f &&& (g 59 (fwC x3 (g 12 2) who (g 12 2) 1))) (x1 1)) s k).1))), (6, .int (nI (f &&& (g 59 (fwC x3 (g 12 2) who (g 12 2) 1))))), (5, .int (nI (fwC x3 (g 12 2) who (g 12 2) 1))), (0, .ref 12), (1, .ref 44), (2, .int (nI who)), (3, .int (nI f)), (4, .int (nI s))]) (st' := [.int (nI k), .int (nI s)]) (h' := HN (RO g 44 x0 x1 x2 x3) hl (RF rt)) rfl ?_
      refine Ev.call (a := 122) (as := [.int (nI s), .int (nI k)]) (rest := []) (lv0 := [(0, .int (nI s)), (1, .int (nI k))]) (Q1 := (fun z0 h' => z0 = some (.int (nI (bn (Nat.testBit s k)))) ∧ h' = HN (RO g 44 x0 x1 x2 x3) hl (RF rt))) rfl rfl (K_isIn _ _ _ _ s k (by omega) (by omega) ⟨rfl, rfl⟩) (fun r h' hr => ?_)
      obtain ⟨rfl, rfl⟩ := hr
      refine Ev_bn (fun hb51 => ?_) (fun hb51 => ?_)
      · skip
        refine Ev.run 10 (pc' := 76) (lv' := [(9, .int (nI k)), (8, .int (nI ((slC (bcG g (f &&& (g 59 (fwC x3 (g 12 2) who (g 12 2) 1))) (x1 1)) s k).2))), (7, .int (nI ((slC (bcG g (f &&& (g 59 (fwC x3 (g 12 2) who (g 12 2) 1))) (x1 1)) s k).1))), (6, .int (nI (f &&& (g 59 (fwC x3 (g 12 2) who (g 12 2) 1))))), (5, .int (nI (fwC x3 (g 12 2) who (g 12 2) 1))), (0, .ref 12), (1, .ref 44), (2, .int (nI who)), (3, .int (nI f)), (4, .int (nI s))]) (st' := [.int (nI k), .int (nI (x1 1)), .ref 13, .int (nI (f &&& (g 59 (fwC x3 (g 12 2) who (g 12 2) 1)))), .ref 13]) (h' := HN (RO g 44 x0 x1 x2 x3) hl (RF rt)) rfl ?_
        refine Ev.call (a := 12) (as := [.ref 13, .int (nI (x1 1)), .int (nI k)]) (rest := [.int (nI (f &&& (g 59 (fwC x3 (g 12 2) who (g 12 2) 1)))), .ref 13]) (lv0 := [(0, .ref 13), (1, .int (nI (x1 1))), (2, .int (nI k))]) (Q1 := (fun z0 h' => z0 = some (.int (nI (bset (plB g (x1 1) k) (g 166 0)))) ∧ h' = HN (RO g 44 x0 x1 x2 x3) hl (RF rt))) rfl rfl (K_having _ (RO g 44 x0 x1 x2 x3) _ _ (hI.mRO (by decide)) (hB.cRO (by decide)) (x1 1) k (by omega) (by omega) ⟨rfl, rfl⟩) (fun r h' hr => ?_)
        obtain ⟨rfl, rfl⟩ := hr
        refine Ev.run 1 (pc' := 80) (lv' := [(9, .int (nI k)), (8, .int (nI ((slC (bcG g (f &&& (g 59 (fwC x3 (g 12 2) who (g 12 2) 1))) (x1 1)) s k).2))), (7, .int (nI ((slC (bcG g (f &&& (g 59 (fwC x3 (g 12 2) who (g 12 2) 1))) (x1 1)) s k).1))), (6, .int (nI (f &&& (g 59 (fwC x3 (g 12 2) who (g 12 2) 1))))), (5, .int (nI (fwC x3 (g 12 2) who (g 12 2) 1))), (0, .ref 12), (1, .ref 44), (2, .int (nI who)), (3, .int (nI f)), (4, .int (nI s))]) (st' := [.int (nI (f &&& (g 59 (fwC x3 (g 12 2) who (g 12 2) 1))) &&& nI (bset (plB g (x1 1) k) (g 166 0))), .ref 13]) (h' := HN (RO g 44 x0 x1 x2 x3) hl (RF rt)) rfl ?_
        refine Ev.topI (nIa _ _) ?_
        refine Ev.run 5 (pc' := 89) (lv' := [(9, .int (nI k)), (8, .int (nI ((slC (bcG g (f &&& (g 59 (fwC x3 (g 12 2) who (g 12 2) 1))) (x1 1)) s k).2))), (7, .int (nI ((slC (bcG g (f &&& (g 59 (fwC x3 (g 12 2) who (g 12 2) 1))) (x1 1)) s k).1))), (6, .int (nI (f &&& (g 59 (fwC x3 (g 12 2) who (g 12 2) 1))))), (5, .int (nI (fwC x3 (g 12 2) who (g 12 2) 1))), (0, .ref 12), (1, .ref 44), (2, .int (nI who)), (3, .int (nI f)), (4, .int (nI s))]) (st' := [.int (nI (x1 1) + nI 1), .int (nI ((f &&& (g 59 (fwC x3 (g 12 2) who (g 12 2) 1))) &&& (bset (plB g (x1 1) k) (g 166 0)))), .ref 13]) (h' := HN (RO g 44 x0 x1 x2 x3) hl (RF rt)) rfl ?_
        refine Ev.topI (nI_add _ _) ?_
        refine Ev.call (a := 16) (as := [.ref 13, .int (nI ((f &&& (g 59 (fwC x3 (g 12 2) who (g 12 2) 1))) &&& (bset (plB g (x1 1) k) (g 166 0)))), .int (nI ((x1 1) + 1))]) (rest := []) (lv0 := [(0, .ref 13), (1, .int (nI ((f &&& (g 59 (fwC x3 (g 12 2) who (g 12 2) 1))) &&& (bset (plB g (x1 1) k) (g 166 0))))), (2, .int (nI ((x1 1) + 1)))]) (Q1 := (fun z0 h' => z0 = some (.int (nI (goB g ((f &&& (g 59 (fwC x3 (g 12 2) who (g 12 2) 1))) &&& (bset (plB g (x1 1) k) (g 166 0))) ((x1 1) + 1)))) ∧ h' = HN (RO g 44 x0 x1 x2 x3) hl (RF rt))) rfl rfl (K_going _ (RO g 44 x0 x1 x2 x3) _ _ (hI.mRO (by decide)) (hB.cRO (by decide)) ((f &&& (g 59 (fwC x3 (g 12 2) who (g 12 2) 1))) &&& (bset (plB g (x1 1) k) (g 166 0))) (by omega) ((x1 1) + 1) (by omega) ⟨rfl, rfl⟩) (fun r h' hr => ?_)
        obtain ⟨rfl, rfl⟩ := hr
        have hgob : goB g ((f &&& (g 59 (fwC x3 (g 12 2) who (g 12 2) 1))) &&& (bset (plB g (x1 1) k) (g 166 0))) ((x1 1) + 1) < 16 := bset_lt _ 4
        refine Ev.run 2 (pc' := 96) (lv' := [(10, .int (nI (goB g ((f &&& (g 59 (fwC x3 (g 12 2) who (g 12 2) 1))) &&& (bset (plB g (x1 1) k) (g 166 0))) ((x1 1) + 1)))), (9, .int (nI k)), (8, .int (nI ((slC (bcG g (f &&& (g 59 (fwC x3 (g 12 2) who (g 12 2) 1))) (x1 1)) s k).2))), (7, .int (nI ((slC (bcG g (f &&& (g 59 (fwC x3 (g 12 2) who (g 12 2) 1))) (x1 1)) s k).1))), (6, .int (nI (f &&& (g 59 (fwC x3 (g 12 2) who (g 12 2) 1))))), (5, .int (nI (fwC x3 (g 12 2) who (g 12 2) 1))), (0, .ref 12), (1, .ref 44), (2, .int (nI who)), (3, .int (nI f)), (4, .int (nI s))]) (st' := [.int (nI (goB g ((f &&& (g 59 (fwC x3 (g 12 2) who (g 12 2) 1))) &&& (bset (plB g (x1 1) k) (g 166 0))) ((x1 1) + 1)))]) (h' := HN (RO g 44 x0 x1 x2 x3) hl (RF rt)) rfl ?_
        refine Ev.call (a := 253) (as := [.int (nI (goB g ((f &&& (g 59 (fwC x3 (g 12 2) who (g 12 2) 1))) &&& (bset (plB g (x1 1) k) (g 166 0))) ((x1 1) + 1)))]) (rest := []) (lv0 := [(0, .int (nI (goB g ((f &&& (g 59 (fwC x3 (g 12 2) who (g 12 2) 1))) &&& (bset (plB g (x1 1) k) (g 166 0))) ((x1 1) + 1))))]) (Q1 := (fun z0 h' => z0 = some (.int (nI (bcG g (f &&& (g 59 (fwC x3 (g 12 2) who (g 12 2) 1))) (x1 1) k))) ∧ h' = HN (RO g 44 x0 x1 x2 x3) hl (RF rt))) rfl rfl (K_bitCount _ _ (goB g ((f &&& (g 59 (fwC x3 (g 12 2) who (g 12 2) 1))) &&& (bset (plB g (x1 1) k) (g 166 0))) ((x1 1) + 1)) (by omega) ⟨rfl, rfl⟩) (fun r h' hr => ?_)
        obtain ⟨rfl, rfl⟩ := hr
        refine Ev.run 2 (pc' := (if nI ((slC (bcG g (f &&& (g 59 (fwC x3 (g 12 2) who (g 12 2) 1))) (x1 1)) s k).2) ≤ nI (bcG g (f &&& (g 59 (fwC x3 (g 12 2) who (g 12 2) 1))) (x1 1) k) then 115 else 104)) (lv' := [(10, .int (nI (goB g ((f &&& (g 59 (fwC x3 (g 12 2) who (g 12 2) 1))) &&& (bset (plB g (x1 1) k) (g 166 0))) ((x1 1) + 1)))), (9, .int (nI k)), (8, .int (nI ((slC (bcG g (f &&& (g 59 (fwC x3 (g 12 2) who (g 12 2) 1))) (x1 1)) s k).2))), (7, .int (nI ((slC (bcG g (f &&& (g 59 (fwC x3 (g 12 2) who (g 12 2) 1))) (x1 1)) s k).1))), (6, .int (nI (f &&& (g 59 (fwC x3 (g 12 2) who (g 12 2) 1))))), (5, .int (nI (fwC x3 (g 12 2) who (g 12 2) 1))), (0, .ref 12), (1, .ref 44), (2, .int (nI who)), (3, .int (nI f)), (4, .int (nI s))]) (st' := []) (h' := HN (RO g 44 x0 x1 x2 x3) hl (RF rt)) rfl ?_
        refine Ev.ite (fun hc101 => ?_) (fun hc101 => ?_)
        · have hc101 : ((slC (bcG g (f &&& (g 59 (fwC x3 (g 12 2) who (g 12 2) 1))) (x1 1)) s k).2) ≤ (bcG g (f &&& (g 59 (fwC x3 (g 12 2) who (g 12 2) 1))) (x1 1) k) := (nI_leI (by omega) (by omega)).mp hc101
          refine Ev.run 1 (pc' := 118) (lv' := [(9, .int (nI k + 1)), (10, .int (nI (goB g ((f &&& (g 59 (fwC x3 (g 12 2) who (g 12 2) 1))) &&& (bset (plB g (x1 1) k) (g 166 0))) ((x1 1) + 1)))), (8, .int (nI ((slC (bcG g (f &&& (g 59 (fwC x3 (g 12 2) who (g 12 2) 1))) (x1 1)) s k).2))), (7, .int (nI ((slC (bcG g (f &&& (g 59 (fwC x3 (g 12 2) who (g 12 2) 1))) (x1 1)) s k).1))), (6, .int (nI (f &&& (g 59 (fwC x3 (g 12 2) who (g 12 2) 1))))), (5, .int (nI (fwC x3 (g 12 2) who (g 12 2) 1))), (0, .ref 12), (1, .ref 44), (2, .int (nI who)), (3, .int (nI f)), (4, .int (nI s))]) (st' := []) (h' := HN (RO g 44 x0 x1 x2 x3) hl (RF rt)) rfl ?_
          refine Ev.lvE (congrArg (fun z => (9, Value.int z) :: [(10, .int (nI (goB g ((f &&& (g 59 (fwC x3 (g 12 2) who (g 12 2) 1))) &&& (bset (plB g (x1 1) k) (g 166 0))) ((x1 1) + 1)))), (8, .int (nI ((slC (bcG g (f &&& (g 59 (fwC x3 (g 12 2) who (g 12 2) 1))) (x1 1)) s k).2))), (7, .int (nI ((slC (bcG g (f &&& (g 59 (fwC x3 (g 12 2) who (g 12 2) 1))) (x1 1)) s k).1))), (6, .int (nI (f &&& (g 59 (fwC x3 (g 12 2) who (g 12 2) 1))))), (5, .int (nI (fwC x3 (g 12 2) who (g 12 2) 1))), (0, .ref 12), (1, .ref 44), (2, .int (nI who)), (3, .int (nI f)), (4, .int (nI s))]) (nI_1 _)) ?_
          refine Ev.run 1 (pc' := 38) (lv' := [(9, .int (nI (k + 1))), (10, .int (nI (goB g ((f &&& (g 59 (fwC x3 (g 12 2) who (g 12 2) 1))) &&& (bset (plB g (x1 1) k) (g 166 0))) ((x1 1) + 1)))), (8, .int (nI ((slC (bcG g (f &&& (g 59 (fwC x3 (g 12 2) who (g 12 2) 1))) (x1 1)) s k).2))), (7, .int (nI ((slC (bcG g (f &&& (g 59 (fwC x3 (g 12 2) who (g 12 2) 1))) (x1 1)) s k).1))), (6, .int (nI (f &&& (g 59 (fwC x3 (g 12 2) who (g 12 2) 1))))), (5, .int (nI (fwC x3 (g 12 2) who (g 12 2) 1))), (0, .ref 12), (1, .ref 44), (2, .int (nI who)), (3, .int (nI f)), (4, .int (nI s))]) (st' := []) (h' := HN (RO g 44 x0 x1 x2 x3) hl (RF rt)) rfl ?_
          have hx := hnext (by omega)
          rw [slC_2 hb51 (by show ¬ bcG _ _ _ _ < _; omega)] at hx
          exact Ev.wk (Ext.cons rfl rfl (Ext.cons rfl rfl (Ext.cons rfl rfl (Ext.cons rfl rfl (Ext.cons rfl rfl (Ext.cons rfl rfl (Ext.cons rfl rfl (Ext.cons rfl rfl (Ext.cons rfl rfl (Ext.cons rfl rfl (Ext.nil rfl))))))))))) hx
        · have hc101 : ¬ (((slC (bcG g (f &&& (g 59 (fwC x3 (g 12 2) who (g 12 2) 1))) (x1 1)) s k).2) ≤ (bcG g (f &&& (g 59 (fwC x3 (g 12 2) who (g 12 2) 1))) (x1 1) k)) := fun z => hc101 ((nI_leI (by omega) (by omega)).mpr z)
          refine Ev.run 1 (pc' := 106) (lv' := [(10, .int (nI (goB g ((f &&& (g 59 (fwC x3 (g 12 2) who (g 12 2) 1))) &&& (bset (plB g (x1 1) k) (g 166 0))) ((x1 1) + 1)))), (9, .int (nI k)), (8, .int (nI ((slC (bcG g (f &&& (g 59 (fwC x3 (g 12 2) who (g 12 2) 1))) (x1 1)) s k).2))), (7, .int (nI ((slC (bcG g (f &&& (g 59 (fwC x3 (g 12 2) who (g 12 2) 1))) (x1 1)) s k).1))), (6, .int (nI (f &&& (g 59 (fwC x3 (g 12 2) who (g 12 2) 1))))), (5, .int (nI (fwC x3 (g 12 2) who (g 12 2) 1))), (0, .ref 12), (1, .ref 44), (2, .int (nI who)), (3, .int (nI f)), (4, .int (nI s))]) (st' := [.int (nI (goB g ((f &&& (g 59 (fwC x3 (g 12 2) who (g 12 2) 1))) &&& (bset (plB g (x1 1) k) (g 166 0))) ((x1 1) + 1)))]) (h' := HN (RO g 44 x0 x1 x2 x3) hl (RF rt)) rfl ?_
          refine Ev.call (a := 253) (as := [.int (nI (goB g ((f &&& (g 59 (fwC x3 (g 12 2) who (g 12 2) 1))) &&& (bset (plB g (x1 1) k) (g 166 0))) ((x1 1) + 1)))]) (rest := []) (lv0 := [(0, .int (nI (goB g ((f &&& (g 59 (fwC x3 (g 12 2) who (g 12 2) 1))) &&& (bset (plB g (x1 1) k) (g 166 0))) ((x1 1) + 1))))]) (Q1 := (fun z0 h' => z0 = some (.int (nI (bcG g (f &&& (g 59 (fwC x3 (g 12 2) who (g 12 2) 1))) (x1 1) k))) ∧ h' = HN (RO g 44 x0 x1 x2 x3) hl (RF rt))) rfl rfl (K_bitCount _ _ (goB g ((f &&& (g 59 (fwC x3 (g 12 2) who (g 12 2) 1))) &&& (bset (plB g (x1 1) k) (g 166 0))) ((x1 1) + 1)) (by omega) ⟨rfl, rfl⟩) (fun r h' hr => ?_)
          obtain ⟨rfl, rfl⟩ := hr
          refine Ev.run 4 (pc' := 118) (lv' := [(9, .int (nI k + 1)), (7, .int (nI k)), (8, .int (nI (bcG g (f &&& (g 59 (fwC x3 (g 12 2) who (g 12 2) 1))) (x1 1) k))), (10, .int (nI (goB g ((f &&& (g 59 (fwC x3 (g 12 2) who (g 12 2) 1))) &&& (bset (plB g (x1 1) k) (g 166 0))) ((x1 1) + 1)))), (6, .int (nI (f &&& (g 59 (fwC x3 (g 12 2) who (g 12 2) 1))))), (5, .int (nI (fwC x3 (g 12 2) who (g 12 2) 1))), (0, .ref 12), (1, .ref 44), (2, .int (nI who)), (3, .int (nI f)), (4, .int (nI s))]) (st' := []) (h' := HN (RO g 44 x0 x1 x2 x3) hl (RF rt)) rfl ?_
          refine Ev.lvE (congrArg (fun z => (9, Value.int z) :: [(7, .int (nI k)), (8, .int (nI (bcG g (f &&& (g 59 (fwC x3 (g 12 2) who (g 12 2) 1))) (x1 1) k))), (10, .int (nI (goB g ((f &&& (g 59 (fwC x3 (g 12 2) who (g 12 2) 1))) &&& (bset (plB g (x1 1) k) (g 166 0))) ((x1 1) + 1)))), (6, .int (nI (f &&& (g 59 (fwC x3 (g 12 2) who (g 12 2) 1))))), (5, .int (nI (fwC x3 (g 12 2) who (g 12 2) 1))), (0, .ref 12), (1, .ref 44), (2, .int (nI who)), (3, .int (nI f)), (4, .int (nI s))]) (nI_1 _)) ?_
          refine Ev.run 1 (pc' := 38) (lv' := [(9, .int (nI (k + 1))), (7, .int (nI k)), (8, .int (nI (bcG g (f &&& (g 59 (fwC x3 (g 12 2) who (g 12 2) 1))) (x1 1) k))), (10, .int (nI (goB g ((f &&& (g 59 (fwC x3 (g 12 2) who (g 12 2) 1))) &&& (bset (plB g (x1 1) k) (g 166 0))) ((x1 1) + 1)))), (6, .int (nI (f &&& (g 59 (fwC x3 (g 12 2) who (g 12 2) 1))))), (5, .int (nI (fwC x3 (g 12 2) who (g 12 2) 1))), (0, .ref 12), (1, .ref 44), (2, .int (nI who)), (3, .int (nI f)), (4, .int (nI s))]) (st' := []) (h' := HN (RO g 44 x0 x1 x2 x3) hl (RF rt)) rfl ?_
          have hx := hnext (by omega)
          rw [slC_1 hb51 (by show bcG _ _ _ _ < _; omega)] at hx
          exact Ev.wk (Ext.cons rfl rfl (Ext.cons rfl rfl (Ext.cons rfl rfl (Ext.cons rfl rfl (Ext.cons rfl rfl (Ext.cons rfl rfl (Ext.cons rfl rfl (Ext.cons rfl rfl (Ext.cons rfl rfl (Ext.cons rfl rfl (Ext.nil rfl))))))))))) hx
      · skip
        refine Ev.run 3 (pc' := 118) (lv' := [(9, .int (nI k + 1)), (8, .int (nI ((slC (bcG g (f &&& (g 59 (fwC x3 (g 12 2) who (g 12 2) 1))) (x1 1)) s k).2))), (7, .int (nI ((slC (bcG g (f &&& (g 59 (fwC x3 (g 12 2) who (g 12 2) 1))) (x1 1)) s k).1))), (6, .int (nI (f &&& (g 59 (fwC x3 (g 12 2) who (g 12 2) 1))))), (5, .int (nI (fwC x3 (g 12 2) who (g 12 2) 1))), (0, .ref 12), (1, .ref 44), (2, .int (nI who)), (3, .int (nI f)), (4, .int (nI s))]) (st' := []) (h' := HN (RO g 44 x0 x1 x2 x3) hl (RF rt)) rfl ?_
        refine Ev.lvE (congrArg (fun z => (9, Value.int z) :: [(8, .int (nI ((slC (bcG g (f &&& (g 59 (fwC x3 (g 12 2) who (g 12 2) 1))) (x1 1)) s k).2))), (7, .int (nI ((slC (bcG g (f &&& (g 59 (fwC x3 (g 12 2) who (g 12 2) 1))) (x1 1)) s k).1))), (6, .int (nI (f &&& (g 59 (fwC x3 (g 12 2) who (g 12 2) 1))))), (5, .int (nI (fwC x3 (g 12 2) who (g 12 2) 1))), (0, .ref 12), (1, .ref 44), (2, .int (nI who)), (3, .int (nI f)), (4, .int (nI s))]) (nI_1 _)) ?_
        refine Ev.run 1 (pc' := 38) (lv' := [(9, .int (nI (k + 1))), (8, .int (nI ((slC (bcG g (f &&& (g 59 (fwC x3 (g 12 2) who (g 12 2) 1))) (x1 1)) s k).2))), (7, .int (nI ((slC (bcG g (f &&& (g 59 (fwC x3 (g 12 2) who (g 12 2) 1))) (x1 1)) s k).1))), (6, .int (nI (f &&& (g 59 (fwC x3 (g 12 2) who (g 12 2) 1))))), (5, .int (nI (fwC x3 (g 12 2) who (g 12 2) 1))), (0, .ref 12), (1, .ref 44), (2, .int (nI who)), (3, .int (nI f)), (4, .int (nI s))]) (st' := []) (h' := HN (RO g 44 x0 x1 x2 x3) hl (RF rt)) rfl ?_
        have hx := hnext (by omega)
        rw [slC_0 hb51] at hx
        exact Ev.wk (Ext.cons rfl rfl (Ext.cons rfl rfl (Ext.cons rfl rfl (Ext.cons rfl rfl (Ext.cons rfl rfl (Ext.cons rfl rfl (Ext.cons rfl rfl (Ext.cons rfl rfl (Ext.cons rfl rfl (Ext.cons rfl rfl (Ext.nil rfl))))))))))) hx
  · have hc10 : ¬ ((fwC x3 (g 12 2) who (g 12 2) 1) < 2147483648) := fun z => hc10 ((nI_geU0 (by omega)).mpr z)
    refine Ev.run 9 (pc' := 38) (lv' := [(9, .int (nI 0)), (8, .int (nI 5)), (7, .int (nI 10)), (6, .int (nI 0)), (5, .int (nI (fwC x3 (g 12 2) who (g 12 2) 1))), (0, .ref 12), (1, .ref 44), (2, .int (nI who)), (3, .int (nI f)), (4, .int (nI s))]) (st' := []) (h' := HN (RO g 44 x0 x1 x2 x3) hl (RF rt)) rfl ?_
    have hwd : 0 < 4096 := by first | omega | (have h1 := hk59 (fwC x3 (g 12 2) who (g 12 2) 1) (by omega); exact Nat.lt_of_le_of_lt Nat.and_le_right h1)
    refine for_ind 4 (fun k => Ev L xs (d + 4) 40 38 [(9, .int (nI k)), (8, .int (nI ((slC (bcG g 0 (x1 1)) s k).2))), (7, .int (nI ((slC (bcG g 0 (x1 1)) s k).1))), (6, .int (nI 0)), (5, .int (nI (fwC x3 (g 12 2) who (g 12 2) 1))), (0, .ref 12), (1, .ref 44), (2, .int (nI who)), (3, .int (nI f)), (4, .int (nI s))] [] (HN (RO g 44 x0 x1 x2 x3) hl (RF rt)) Q) (fun k hk hnext => ?_) 0 (Nat.zero_le _)
    have hslb := slC_b (f := bcG g 0 (x1 1)) (bcG_le _ _ _) s k (by omega)
    have hand := and_le 0 (bset (plB g (x1 1) k) (g 166 0))
    have hbc := bcG_le g 0 (x1 1) k
    refine Ev.run 3 (pc' := (if nI 4 ≤ nI k then 121 else 44)) (lv' := [(9, .int (nI k)), (8, .int (nI ((slC (bcG g 0 (x1 1)) s k).2))), (7, .int (nI ((slC (bcG g 0 (x1 1)) s k).1))), (6, .int (nI 0)), (5, .int (nI (fwC x3 (g 12 2) who (g 12 2) 1))), (0, .ref 12), (1, .ref 44), (2, .int (nI who)), (3, .int (nI f)), (4, .int (nI s))]) (st' := []) (h' := HN (RO g 44 x0 x1 x2 x3) hl (RF rt)) rfl ?_
    refine Ev.ite (fun hc41 => ?_) (fun hc41 => ?_)
    · have hc41 : 4 ≤ k := (nI_leI (by omega) (by omega)).mp hc41
      refine Ev.run 1 (pc' := 123) (lv' := [(9, .int (nI k)), (8, .int (nI ((slC (bcG g 0 (x1 1)) s k).2))), (7, .int (nI ((slC (bcG g 0 (x1 1)) s k).1))), (6, .int (nI 0)), (5, .int (nI (fwC x3 (g 12 2) who (g 12 2) 1))), (0, .ref 12), (1, .ref 44), (2, .int (nI who)), (3, .int (nI f)), (4, .int (nI s))]) (st' := [.int (nI ((slC (bcG g 0 (x1 1)) s k).1))]) (h' := HN (RO g 44 x0 x1 x2 x3) hl (RF rt)) rfl ?_
      refine Ev.ret (v := some (.int (nI ((slC (bcG g 0 (x1 1)) s k).1)))) rfl ?_
      obtain rfl : k = 4 := by omega
      unfold syC at hq
      rw [if_neg hc10] at hq
      exact hq
    · have hc41 : ¬ (4 ≤ k) := fun z => hc41 ((nI_leI (by omega) (by omega)).mpr z)
      refine Ev.run 2 (pc' := 48) (lv' := [(9, .int (nI k)), (8, .int (nI ((slC (bcG g 0 (x1 1)) s k).2))), (7, .int (nI ((slC (bcG g 0 (x1 1)) s k).1))), (6, .int (nI 0)), (5, .int (nI (fwC x3 (g 12 2) who (g 12 2) 1))), (0, .ref 12), (1, .ref 44), (2, .int (nI who)), (3, .int (nI f)), (4, .int (nI s))]) (st' := [.int (nI k), .int (nI s)]) (h' := HN (RO g 44 x0 x1 x2 x3) hl (RF rt)) rfl ?_
      refine Ev.call (a := 122) (as := [.int (nI s), .int (nI k)]) (rest := []) (lv0 := [(0, .int (nI s)), (1, .int (nI k))]) (Q1 := (fun z0 h' => z0 = some (.int (nI (bn (Nat.testBit s k)))) ∧ h' = HN (RO g 44 x0 x1 x2 x3) hl (RF rt))) rfl rfl (K_isIn _ _ _ _ s k (by omega) (by omega) ⟨rfl, rfl⟩) (fun r h' hr => ?_)
      obtain ⟨rfl, rfl⟩ := hr
      refine Ev_bn (fun hb51 => ?_) (fun hb51 => ?_)
      · skip
        refine Ev.run 10 (pc' := 76) (lv' := [(9, .int (nI k)), (8, .int (nI ((slC (bcG g 0 (x1 1)) s k).2))), (7, .int (nI ((slC (bcG g 0 (x1 1)) s k).1))), (6, .int (nI 0)), (5, .int (nI (fwC x3 (g 12 2) who (g 12 2) 1))), (0, .ref 12), (1, .ref 44), (2, .int (nI who)), (3, .int (nI f)), (4, .int (nI s))]) (st' := [.int (nI k), .int (nI (x1 1)), .ref 13, .int (nI 0), .ref 13]) (h' := HN (RO g 44 x0 x1 x2 x3) hl (RF rt)) rfl ?_
        refine Ev.call (a := 12) (as := [.ref 13, .int (nI (x1 1)), .int (nI k)]) (rest := [.int (nI 0), .ref 13]) (lv0 := [(0, .ref 13), (1, .int (nI (x1 1))), (2, .int (nI k))]) (Q1 := (fun z0 h' => z0 = some (.int (nI (bset (plB g (x1 1) k) (g 166 0)))) ∧ h' = HN (RO g 44 x0 x1 x2 x3) hl (RF rt))) rfl rfl (K_having _ (RO g 44 x0 x1 x2 x3) _ _ (hI.mRO (by decide)) (hB.cRO (by decide)) (x1 1) k (by omega) (by omega) ⟨rfl, rfl⟩) (fun r h' hr => ?_)
        obtain ⟨rfl, rfl⟩ := hr
        refine Ev.run 1 (pc' := 80) (lv' := [(9, .int (nI k)), (8, .int (nI ((slC (bcG g 0 (x1 1)) s k).2))), (7, .int (nI ((slC (bcG g 0 (x1 1)) s k).1))), (6, .int (nI 0)), (5, .int (nI (fwC x3 (g 12 2) who (g 12 2) 1))), (0, .ref 12), (1, .ref 44), (2, .int (nI who)), (3, .int (nI f)), (4, .int (nI s))]) (st' := [.int (nI 0 &&& nI (bset (plB g (x1 1) k) (g 166 0))), .ref 13]) (h' := HN (RO g 44 x0 x1 x2 x3) hl (RF rt)) rfl ?_
        refine Ev.topI (nIa _ _) ?_
        refine Ev.run 5 (pc' := 89) (lv' := [(9, .int (nI k)), (8, .int (nI ((slC (bcG g 0 (x1 1)) s k).2))), (7, .int (nI ((slC (bcG g 0 (x1 1)) s k).1))), (6, .int (nI 0)), (5, .int (nI (fwC x3 (g 12 2) who (g 12 2) 1))), (0, .ref 12), (1, .ref 44), (2, .int (nI who)), (3, .int (nI f)), (4, .int (nI s))]) (st' := [.int (nI (x1 1) + nI 1), .int (nI (0 &&& (bset (plB g (x1 1) k) (g 166 0)))), .ref 13]) (h' := HN (RO g 44 x0 x1 x2 x3) hl (RF rt)) rfl ?_
        refine Ev.topI (nI_add _ _) ?_
        refine Ev.call (a := 16) (as := [.ref 13, .int (nI (0 &&& (bset (plB g (x1 1) k) (g 166 0)))), .int (nI ((x1 1) + 1))]) (rest := []) (lv0 := [(0, .ref 13), (1, .int (nI (0 &&& (bset (plB g (x1 1) k) (g 166 0))))), (2, .int (nI ((x1 1) + 1)))]) (Q1 := (fun z0 h' => z0 = some (.int (nI (goB g (0 &&& (bset (plB g (x1 1) k) (g 166 0))) ((x1 1) + 1)))) ∧ h' = HN (RO g 44 x0 x1 x2 x3) hl (RF rt))) rfl rfl (K_going _ (RO g 44 x0 x1 x2 x3) _ _ (hI.mRO (by decide)) (hB.cRO (by decide)) (0 &&& (bset (plB g (x1 1) k) (g 166 0))) (by omega) ((x1 1) + 1) (by omega) ⟨rfl, rfl⟩) (fun r h' hr => ?_)
        obtain ⟨rfl, rfl⟩ := hr
        have hgob : goB g (0 &&& (bset (plB g (x1 1) k) (g 166 0))) ((x1 1) + 1) < 16 := bset_lt _ 4
        refine Ev.run 2 (pc' := 96) (lv' := [(10, .int (nI (goB g (0 &&& (bset (plB g (x1 1) k) (g 166 0))) ((x1 1) + 1)))), (9, .int (nI k)), (8, .int (nI ((slC (bcG g 0 (x1 1)) s k).2))), (7, .int (nI ((slC (bcG g 0 (x1 1)) s k).1))), (6, .int (nI 0)), (5, .int (nI (fwC x3 (g 12 2) who (g 12 2) 1))), (0, .ref 12), (1, .ref 44), (2, .int (nI who)), (3, .int (nI f)), (4, .int (nI s))]) (st' := [.int (nI (goB g (0 &&& (bset (plB g (x1 1) k) (g 166 0))) ((x1 1) + 1)))]) (h' := HN (RO g 44 x0 x1 x2 x3) hl (RF rt)) rfl ?_
        refine Ev.call (a := 253) (as := [.int (nI (goB g (0 &&& (bset (plB g (x1 1) k) (g 166 0))) ((x1 1) + 1)))]) (rest := []) (lv0 := [(0, .int (nI (goB g (0 &&& (bset (plB g (x1 1) k) (g 166 0))) ((x1 1) + 1))))]) (Q1 := (fun z0 h' => z0 = some (.int (nI (bcG g 0 (x1 1) k))) ∧ h' = HN (RO g 44 x0 x1 x2 x3) hl (RF rt))) rfl rfl (K_bitCount _ _ (goB g (0 &&& (bset (plB g (x1 1) k) (g 166 0))) ((x1 1) + 1)) (by omega) ⟨rfl, rfl⟩) (fun r h' hr => ?_)
        obtain ⟨rfl, rfl⟩ := hr
        refine Ev.run 2 (pc' := (if nI ((slC (bcG g 0 (x1 1)) s k).2) ≤ nI (bcG g 0 (x1 1) k) then 115 else 104)) (lv' := [(10, .int (nI (goB g (0 &&& (bset (plB g (x1 1) k) (g 166 0))) ((x1 1) + 1)))), (9, .int (nI k)), (8, .int (nI ((slC (bcG g 0 (x1 1)) s k).2))), (7, .int (nI ((slC (bcG g 0 (x1 1)) s k).1))), (6, .int (nI 0)), (5, .int (nI (fwC x3 (g 12 2) who (g 12 2) 1))), (0, .ref 12), (1, .ref 44), (2, .int (nI who)), (3, .int (nI f)), (4, .int (nI s))]) (st' := []) (h' := HN (RO g 44 x0 x1 x2 x3) hl (RF rt)) rfl ?_
        refine Ev.ite (fun hc101 => ?_) (fun hc101 => ?_)
        · have hc101 : ((slC (bcG g 0 (x1 1)) s k).2) ≤ (bcG g 0 (x1 1) k) := (nI_leI (by omega) (by omega)).mp hc101
          refine Ev.run 1 (pc' := 118) (lv' := [(9, .int (nI k + 1)), (10, .int (nI (goB g (0 &&& (bset (plB g (x1 1) k) (g 166 0))) ((x1 1) + 1)))), (8, .int (nI ((slC (bcG g 0 (x1 1)) s k).2))), (7, .int (nI ((slC (bcG g 0 (x1 1)) s k).1))), (6, .int (nI 0)), (5, .int (nI (fwC x3 (g 12 2) who (g 12 2) 1))), (0, .ref 12), (1, .ref 44), (2, .int (nI who)), (3, .int (nI f)), (4, .int (nI s))]) (st' := []) (h' := HN (RO g 44 x0 x1 x2 x3) hl (RF rt)) rfl ?_
          refine Ev.lvE (congrArg (fun z => (9, Value.int z) :: [(10, .int (nI (goB g (0 &&& (bset (plB g (x1 1) k) (g 166 0))) ((x1 1) + 1)))), (8, .int (nI ((slC (bcG g 0 (x1 1)) s k).2))), (7, .int (nI ((slC (bcG g 0 (x1 1)) s k).1))), (6, .int (nI 0)), (5, .int (nI (fwC x3 (g 12 2) who (g 12 2) 1))), (0, .ref 12), (1, .ref 44), (2, .int (nI who)), (3, .int (nI f)), (4, .int (nI s))]) (nI_1 _)) ?_
          refine Ev.run 1 (pc' := 38) (lv' := [(9, .int (nI (k + 1))), (10, .int (nI (goB g (0 &&& (bset (plB g (x1 1) k) (g 166 0))) ((x1 1) + 1)))), (8, .int (nI ((slC (bcG g 0 (x1 1)) s k).2))), (7, .int (nI ((slC (bcG g 0 (x1 1)) s k).1))), (6, .int (nI 0)), (5, .int (nI (fwC x3 (g 12 2) who (g 12 2) 1))), (0, .ref 12), (1, .ref 44), (2, .int (nI who)), (3, .int (nI f)), (4, .int (nI s))]) (st' := []) (h' := HN (RO g 44 x0 x1 x2 x3) hl (RF rt)) rfl ?_
          have hx := hnext (by omega)
          rw [slC_2 hb51 (by show ¬ bcG _ _ _ _ < _; omega)] at hx
          exact Ev.wk (Ext.cons rfl rfl (Ext.cons rfl rfl (Ext.cons rfl rfl (Ext.cons rfl rfl (Ext.cons rfl rfl (Ext.cons rfl rfl (Ext.cons rfl rfl (Ext.cons rfl rfl (Ext.cons rfl rfl (Ext.cons rfl rfl (Ext.nil rfl))))))))))) hx
        · have hc101 : ¬ (((slC (bcG g 0 (x1 1)) s k).2) ≤ (bcG g 0 (x1 1) k)) := fun z => hc101 ((nI_leI (by omega) (by omega)).mpr z)
          refine Ev.run 1 (pc' := 106) (lv' := [(10, .int (nI (goB g (0 &&& (bset (plB g (x1 1) k) (g 166 0))) ((x1 1) + 1)))), (9, .int (nI k)), (8, .int (nI ((slC (bcG g 0 (x1 1)) s k).2))), (7, .int (nI ((slC (bcG g 0 (x1 1)) s k).1))), (6, .int (nI 0)), (5, .int (nI (fwC x3 (g 12 2) who (g 12 2) 1))), (0, .ref 12), (1, .ref 44), (2, .int (nI who)), (3, .int (nI f)), (4, .int (nI s))]) (st' := [.int (nI (goB g (0 &&& (bset (plB g (x1 1) k) (g 166 0))) ((x1 1) + 1)))]) (h' := HN (RO g 44 x0 x1 x2 x3) hl (RF rt)) rfl ?_
          refine Ev.call (a := 253) (as := [.int (nI (goB g (0 &&& (bset (plB g (x1 1) k) (g 166 0))) ((x1 1) + 1)))]) (rest := []) (lv0 := [(0, .int (nI (goB g (0 &&& (bset (plB g (x1 1) k) (g 166 0))) ((x1 1) + 1))))]) (Q1 := (fun z0 h' => z0 = some (.int (nI (bcG g 0 (x1 1) k))) ∧ h' = HN (RO g 44 x0 x1 x2 x3) hl (RF rt))) rfl rfl (K_bitCount _ _ (goB g (0 &&& (bset (plB g (x1 1) k) (g 166 0))) ((x1 1) + 1)) (by omega) ⟨rfl, rfl⟩) (fun r h' hr => ?_)
          obtain ⟨rfl, rfl⟩ := hr
          refine Ev.run 4 (pc' := 118) (lv' := [(9, .int (nI k + 1)), (7, .int (nI k)), (8, .int (nI (bcG g 0 (x1 1) k))), (10, .int (nI (goB g (0 &&& (bset (plB g (x1 1) k) (g 166 0))) ((x1 1) + 1)))), (6, .int (nI 0)), (5, .int (nI (fwC x3 (g 12 2) who (g 12 2) 1))), (0, .ref 12), (1, .ref 44), (2, .int (nI who)), (3, .int (nI f)), (4, .int (nI s))]) (st' := []) (h' := HN (RO g 44 x0 x1 x2 x3) hl (RF rt)) rfl ?_
          refine Ev.lvE (congrArg (fun z => (9, Value.int z) :: [(7, .int (nI k)), (8, .int (nI (bcG g 0 (x1 1) k))), (10, .int (nI (goB g (0 &&& (bset (plB g (x1 1) k) (g 166 0))) ((x1 1) + 1)))), (6, .int (nI 0)), (5, .int (nI (fwC x3 (g 12 2) who (g 12 2) 1))), (0, .ref 12), (1, .ref 44), (2, .int (nI who)), (3, .int (nI f)), (4, .int (nI s))]) (nI_1 _)) ?_
          refine Ev.run 1 (pc' := 38) (lv' := [(9, .int (nI (k + 1))), (7, .int (nI k)), (8, .int (nI (bcG g 0 (x1 1) k))), (10, .int (nI (goB g (0 &&& (bset (plB g (x1 1) k) (g 166 0))) ((x1 1) + 1)))), (6, .int (nI 0)), (5, .int (nI (fwC x3 (g 12 2) who (g 12 2) 1))), (0, .ref 12), (1, .ref 44), (2, .int (nI who)), (3, .int (nI f)), (4, .int (nI s))]) (st' := []) (h' := HN (RO g 44 x0 x1 x2 x3) hl (RF rt)) rfl ?_
          have hx := hnext (by omega)
          rw [slC_1 hb51 (by show bcG _ _ _ _ < _; omega)] at hx
          exact Ev.wk (Ext.cons rfl rfl (Ext.cons rfl rfl (Ext.cons rfl rfl (Ext.cons rfl rfl (Ext.cons rfl rfl (Ext.cons rfl rfl (Ext.cons rfl rfl (Ext.cons rfl rfl (Ext.cons rfl rfl (Ext.cons rfl rfl (Ext.nil rfl))))))))))) hx
      · skip
        refine Ev.run 3 (pc' := 118) (lv' := [(9, .int (nI k + 1)), (8, .int (nI ((slC (bcG g 0 (x1 1)) s k).2))), (7, .int (nI ((slC (bcG g 0 (x1 1)) s k).1))), (6, .int (nI 0)), (5, .int (nI (fwC x3 (g 12 2) who (g 12 2) 1))), (0, .ref 12), (1, .ref 44), (2, .int (nI who)), (3, .int (nI f)), (4, .int (nI s))]) (st' := []) (h' := HN (RO g 44 x0 x1 x2 x3) hl (RF rt)) rfl ?_
        refine Ev.lvE (congrArg (fun z => (9, Value.int z) :: [(8, .int (nI ((slC (bcG g 0 (x1 1)) s k).2))), (7, .int (nI ((slC (bcG g 0 (x1 1)) s k).1))), (6, .int (nI 0)), (5, .int (nI (fwC x3 (g 12 2) who (g 12 2) 1))), (0, .ref 12), (1, .ref 44), (2, .int (nI who)), (3, .int (nI f)), (4, .int (nI s))]) (nI_1 _)) ?_
        refine Ev.run 1 (pc' := 38) (lv' := [(9, .int (nI (k + 1))), (8, .int (nI ((slC (bcG g 0 (x1 1)) s k).2))), (7, .int (nI ((slC (bcG g 0 (x1 1)) s k).1))), (6, .int (nI 0)), (5, .int (nI (fwC x3 (g 12 2) who (g 12 2) 1))), (0, .ref 12), (1, .ref 44), (2, .int (nI who)), (3, .int (nI f)), (4, .int (nI s))]) (st' := []) (h' := HN (RO g 44 x0 x1 x2 x3) hl (RF rt)) rfl ?_
        have hx := hnext (by omega)
        rw [slC_0 hb51] at hx
        exact Ev.wk (Ext.cons rfl rfl (Ext.cons rfl rfl (Ext.cons rfl rfl (Ext.cons rfl rfl (Ext.cons rfl rfl (Ext.cons rfl rfl (Ext.cons rfl rfl (Ext.cons rfl rfl (Ext.cons rfl rfl (Ext.cons rfl rfl (Ext.nil rfl))))))))))) hx
theorem K128_slyest {L : Nat} {xs : Nat → Int32} (d : Nat) (g : Nat → Nat → Nat) (hl : Nat → Nat → Int64) (rt : Nat × Nat × Nat × Nat) (hI : MI g) (hB : CB g) (hP5 : g 12 2 ≤ 5) (hk59 : ∀ j, j < 5 → g 59 j < 4096) (x0 x1 x2 x3 : Nat → Nat) (hx3 : ∀ j, j < 5 → x3 j ≤ 99) (hn12 : x1 1 ≤ 12) (who f s : Nat) (hwho : who < 5) (hf : f < 4096) (hs : s < 16) {Q : Po} (hq : Q (some (.int (nI (syC g x1 x3 who f s)))) (HN (RO g 128 x0 x1 x2 x3) hl (RF rt))) : Ev L xs (d + 4) 40 0 [(0, .ref 12), (1, .ref 128), (2, .int (nI who)), (3, .int (nI f)), (4, .int (nI s))] [] (HN (RO g 128 x0 x1 x2 x3) hl (RF rt)) Q := by
  have hW := hI.hW
  have hS := hI.hS
  have hPl := hI.hPl
  have hNx := hI.hNx
  have hLa := hI.hLa
  have hLo := hI.hLo
  have hTb := hI.hTb
  have hTh := hI.hTh
  have hFd := hI.hFd
  have hSn := hI.hSn
  have hSh := hI.hSh
  have hRan := hI.hRan
  have hLr := hI.hLr
  have hLt := hI.hLt
  have hgl := hI.hgl
  have hsz := hI.hsz
  have hcm := hI.hcm
  have hsl := hI.hsl
  have hkd := hI.hkd
  have hvv := hI.hvv
  have hli := hI.hli
  have hro := hI.hro
  have hrw := hI.hrw
  have htx := hI.htx
  have hsw := hI.hsw
  have hsx := hI.hsx
  have hsy := hI.hsy
  have hsh := hI.hsh
  have hle := hI.hle
  have hcl := hI.hcl
  have hwd := hI.hwd
  have hnu := hI.hnu
  have hwn := hI.hwn
  have hs1 := hI.hs1
  have hso := hI.hso
  refine Ev.run 3 (pc' := 3) (lv' := [(0, .ref 12), (1, .ref 128), (2, .int (nI who)), (3, .int (nI f)), (4, .int (nI s))]) (st' := [.int (nI who), .ref 128, .ref 12]) (h' := HN (RO g 128 x0 x1 x2 x3) hl (RF rt)) rfl ?_
  refine Ev.call (a := 33) (as := [.ref 12, .ref 128, .int (nI who)]) (rest := []) (lv0 := [(0, .ref 12), (1, .ref 128), (2, .int (nI who))]) (Q1 := (fun z0 h' => z0 = some (.int (nI (fwC x3 (g 12 2) who (g 12 2) 1))) ∧ h' = HN (RO g 128 x0 x1 x2 x3) hl (RF rt))) rfl rfl (K128_following _ g _ _ hP5 x0 x1 x2 x3 hx3 who (by omega) ⟨rfl, rfl⟩) (fun r h' hr => ?_)
  obtain ⟨rfl, rfl⟩ := hr
  have hfw := fwC_l5 x3 who hP5
  refine Ev.run 3 (pc' := (if 0 ≤ nI (fwC x3 (g 12 2) who (g 12 2) 1) then 17 else 13)) (lv' := [(5, .int (nI (fwC x3 (g 12 2) who (g 12 2) 1))), (0, .ref 12), (1, .ref 128), (2, .int (nI who)), (3, .int (nI f)), (4, .int (nI s))]) (st' := []) (h' := HN (RO g 128 x0 x1 x2 x3) hl (RF rt)) rfl ?_
  refine Ev.ite (fun hc10 => ?_) (fun hc10 => ?_)
  · have hc10 : (fwC x3 (g 12 2) who (g 12 2) 1) < 2147483648 := (nI_geU0 (by omega)).mp hc10
    refine Ev.run 4 (pc' := 24) (lv' := [(5, .int (nI (fwC x3 (g 12 2) who (g 12 2) 1))), (0, .ref 12), (1, .ref 128), (2, .int (nI who)), (3, .int (nI f)), (4, .int (nI s))]) (st' := [.int (nI (fwC x3 (g 12 2) who (g 12 2) 1)), .ref 59, .int (nI f)]) (h' := HN (RO g 128 x0 x1 x2 x3) hl (RF rt)) rfl ?_
    refine Ev_iald rfl rfl (show fwC x3 (g 12 2) who (g 12 2) 1 < 5 by omega) (Nat.le_of_ble_eq_true rfl) ?_
    refine Ev.run 1 (pc' := 26) (lv' := [(5, .int (nI (fwC x3 (g 12 2) who (g 12 2) 1))), (0, .ref 12), (1, .ref 128), (2, .int (nI who)), (3, .int (nI f)), (4, .int (nI s))]) (st' := [.int (nI f &&& nI (g 59 (fwC x3 (g 12 2) who (g 12 2) 1)))]) (h' := HN (RO g 128 x0 x1 x2 x3) hl (RF rt)) rfl ?_
    refine Ev.topI (nIa _ _) ?_
    refine Ev.run 7 (pc' := 38) (lv' := [(9, .int (nI 0)), (8, .int (nI 5)), (7, .int (nI 10)), (6, .int (nI (f &&& (g 59 (fwC x3 (g 12 2) who (g 12 2) 1))))), (5, .int (nI (fwC x3 (g 12 2) who (g 12 2) 1))), (0, .ref 12), (1, .ref 128), (2, .int (nI who)), (3, .int (nI f)), (4, .int (nI s))]) (st' := []) (h' := HN (RO g 128 x0 x1 x2 x3) hl (RF rt)) rfl ?_
    have hwd : f &&& (g 59 (fwC x3 (g 12 2) who (g 12 2) 1)) < 4096 := by first | omega | (have h1 := hk59 (fwC x3 (g 12 2) who (g 12 2) 1) (by omega); exact Nat.lt_of_le_of_lt Nat.and_le_right h1)
    refine for_ind 4 (fun k => Ev L xs (d + 4) 40 38 [(9, .int (nI k)), (8, .int (nI ((slC (bcG g (f &&& (g 59 (fwC x3 (g 12 2) who (g 12 2) 1))) (x1 1)) s k).2))), (7, .int (nI ((slC (bcG g (f &&& (g 59 (fwC x3 (g 12 2) who (g 12 2) 1))) (x1 1)) s k).1))), (6, .int (nI (f &&& (g 59 (fwC x3 (g 12 2) who (g 12 2) 1))))), (5, .int (nI (fwC x3 (g 12 2) who (g 12 2) 1))), (0, .ref 12), (1, .ref 128), (2, .int (nI who)), (3, .int (nI f)), (4, .int (nI s))] [] (HN (RO g 128 x0 x1 x2 x3) hl (RF rt)) Q) (fun k hk hnext => ?_) 0 (Nat.zero_le _)
    have hslb := slC_b (f := bcG g (f &&& (g 59 (fwC x3 (g 12 2) who (g 12 2) 1))) (x1 1)) (bcG_le _ _ _) s k (by omega)
    have hand := and_le (f &&& (g 59 (fwC x3 (g 12 2) who (g 12 2) 1))) (bset (plB g (x1 1) k) (g 166 0))
    have hbc := bcG_le g (f &&& (g 59 (fwC x3 (g 12 2) who (g 12 2) 1))) (x1 1) k
    refine Ev.run 3 (pc' := (if nI 4 ≤ nI k then 121 else 44)) (lv' := [(9, .int (nI k)), (8, .int (nI ((slC (bcG g (f &&& (g 59 (fwC x3 (g 12 2) who (g 12 2) 1))) (x1 1)) s k).2))), (7, .int (nI ((slC (bcG g (f &&& (g 59 (fwC x3 (g 12 2) who (g 12 2) 1))) (x1 1)) s k).1))), (6, .int (nI (f &&& (g 59 (fwC x3 (g 12 2) who (g 12 2) 1))))), (5, .int (nI (fwC x3 (g 12 2) who (g 12 2) 1))), (0, .ref 12), (1, .ref 128), (2, .int (nI who)), (3, .int (nI f)), (4, .int (nI s))]) (st' := []) (h' := HN (RO g 128 x0 x1 x2 x3) hl (RF rt)) rfl ?_
    refine Ev.ite (fun hc41 => ?_) (fun hc41 => ?_)
    · have hc41 : 4 ≤ k := (nI_leI (by omega) (by omega)).mp hc41
      refine Ev.run 1 (pc' := 123) (lv' := [(9, .int (nI k)), (8, .int (nI ((slC (bcG g (f &&& (g 59 (fwC x3 (g 12 2) who (g 12 2) 1))) (x1 1)) s k).2))), (7, .int (nI ((slC (bcG g (f &&& (g 59 (fwC x3 (g 12 2) who (g 12 2) 1))) (x1 1)) s k).1))), (6, .int (nI (f &&& (g 59 (fwC x3 (g 12 2) who (g 12 2) 1))))), (5, .int (nI (fwC x3 (g 12 2) who (g 12 2) 1))), (0, .ref 12), (1, .ref 128), (2, .int (nI who)), (3, .int (nI f)), (4, .int (nI s))]) (st' := [.int (nI ((slC (bcG g (f &&& (g 59 (fwC x3 (g 12 2) who (g 12 2) 1))) (x1 1)) s k).1))]) (h' := HN (RO g 128 x0 x1 x2 x3) hl (RF rt)) rfl ?_
      refine Ev.ret (v := some (.int (nI ((slC (bcG g (f &&& (g 59 (fwC x3 (g 12 2) who (g 12 2) 1))) (x1 1)) s k).1)))) rfl ?_
      obtain rfl : k = 4 := by omega
      unfold syC at hq
      rw [if_pos hc10] at hq
      exact hq
    · have hc41 : ¬ (4 ≤ k) := fun z => hc41 ((nI_leI (by omega) (by omega)).mpr z)
      refine Ev.run 2 (pc' := 48) (lv' := [(9, .int (nI k)), (8, .int (nI ((slC (bcG g (f &&& (g 59 (fwC x3 (g 12 2) who (g 12 2) 1))) (x1 1)) s k).2))), (7, .int (nI ((slC (bcG g (f &&& (g 59 (fwC x3 (g 12 2) who (g 12 2) 1))) (x1 1)) s k).1))), (6, .int (nI (f &&& (g 59 (fwC x3 (g 12 2) who (g 12 2) 1))))), (5, .int (nI (fwC x3 (g 12 2) who (g 12 2) 1))), (0, .ref 12), (1, .ref 128), (2, .int (nI who)), (3, .int (nI f)), (4, .int (nI s))]) (st' := [.int (nI k), .int (nI s)]) (h' := HN (RO g 128 x0 x1 x2 x3) hl (RF rt)) rfl ?_
      refine Ev.call (a := 122) (as := [.int (nI s), .int (nI k)]) (rest := []) (lv0 := [(0, .int (nI s)), (1, .int (nI k))]) (Q1 := (fun z0 h' => z0 = some (.int (nI (bn (Nat.testBit s k)))) ∧ h' = HN (RO g 128 x0 x1 x2 x3) hl (RF rt))) rfl rfl (K_isIn _ _ _ _ s k (by omega) (by omega) ⟨rfl, rfl⟩) (fun r h' hr => ?_)
      obtain ⟨rfl, rfl⟩ := hr
      refine Ev_bn (fun hb51 => ?_) (fun hb51 => ?_)
      · skip
        refine Ev.run 10 (pc' := 76) (lv' := [(9, .int (nI k)), (8, .int (nI ((slC (bcG g (f &&& (g 59 (fwC x3 (g 12 2) who (g 12 2) 1))) (x1 1)) s k).2))), (7, .int (nI ((slC (bcG g (f &&& (g 59 (fwC x3 (g 12 2) who (g 12 2) 1))) (x1 1)) s k).1))), (6, .int (nI (f &&& (g 59 (fwC x3 (g 12 2) who (g 12 2) 1))))), (5, .int (nI (fwC x3 (g 12 2) who (g 12 2) 1))), (0, .ref 12), (1, .ref 128), (2, .int (nI who)), (3, .int (nI f)), (4, .int (nI s))]) (st' := [.int (nI k), .int (nI (x1 1)), .ref 13, .int (nI (f &&& (g 59 (fwC x3 (g 12 2) who (g 12 2) 1)))), .ref 13]) (h' := HN (RO g 128 x0 x1 x2 x3) hl (RF rt)) rfl ?_
        refine Ev.call (a := 12) (as := [.ref 13, .int (nI (x1 1)), .int (nI k)]) (rest := [.int (nI (f &&& (g 59 (fwC x3 (g 12 2) who (g 12 2) 1)))), .ref 13]) (lv0 := [(0, .ref 13), (1, .int (nI (x1 1))), (2, .int (nI k))]) (Q1 := (fun z0 h' => z0 = some (.int (nI (bset (plB g (x1 1) k) (g 166 0)))) ∧ h' = HN (RO g 128 x0 x1 x2 x3) hl (RF rt))) rfl rfl (K_having _ (RO g 128 x0 x1 x2 x3) _ _ (hI.mRO (by decide)) (hB.cRO (by decide)) (x1 1) k (by omega) (by omega) ⟨rfl, rfl⟩) (fun r h' hr => ?_)
        obtain ⟨rfl, rfl⟩ := hr
        refine Ev.run 1 (pc' := 80) (lv' := [(9, .int (nI k)), (8, .int (nI ((slC (bcG g (f &&& (g 59 (fwC x3 (g 12 2) who (g 12 2) 1))) (x1 1)) s k).2))), (7, .int (nI ((slC (bcG g (f &&& (g 59 (fwC x3 (g 12 2) who (g 12 2) 1))) (x1 1)) s k).1))), (6, .int (nI (f &&& (g 59 (fwC x3 (g 12 2) who (g 12 2) 1))))), (5, .int (nI (fwC x3 (g 12 2) who (g 12 2) 1))), (0, .ref 12), (1, .ref 128), (2, .int (nI who)), (3, .int (nI f)), (4, .int (nI s))]) (st' := [.int (nI (f &&& (g 59 (fwC x3 (g 12 2) who (g 12 2) 1))) &&& nI (bset (plB g (x1 1) k) (g 166 0))), .ref 13]) (h' := HN (RO g 128 x0 x1 x2 x3) hl (RF rt)) rfl ?_
        refine Ev.topI (nIa _ _) ?_
        refine Ev.run 5 (pc' := 89) (lv' := [(9, .int (nI k)), (8, .int (nI ((slC (bcG g (f &&& (g 59 (fwC x3 (g 12 2) who (g 12 2) 1))) (x1 1)) s k).2))), (7, .int (nI ((slC (bcG g (f &&& (g 59 (fwC x3 (g 12 2) who (g 12 2) 1))) (x1 1)) s k).1))), (6, .int (nI (f &&& (g 59 (fwC x3 (g 12 2) who (g 12 2) 1))))), (5, .int (nI (fwC x3 (g 12 2) who (g 12 2) 1))), (0, .ref 12), (1, .ref 128), (2, .int (nI who)), (3, .int (nI f)), (4, .int (nI s))]) (st' := [.int (nI (x1 1) + nI 1), .int (nI ((f &&& (g 59 (fwC x3 (g 12 2) who (g 12 2) 1))) &&& (bset (plB g (x1 1) k) (g 166 0)))), .ref 13]) (h' := HN (RO g 128 x0 x1 x2 x3) hl (RF rt)) rfl ?_
        refine Ev.topI (nI_add _ _) ?_
        refine Ev.call (a := 16) (as := [.ref 13, .int (nI ((f &&& (g 59 (fwC x3 (g 12 2) who (g 12 2) 1))) &&& (bset (plB g (x1 1) k) (g 166 0)))), .int (nI ((x1 1) + 1))]) (rest := []) (lv0 := [(0, .ref 13), (1, .int (nI ((f &&& (g 59 (fwC x3 (g 12 2) who (g 12 2) 1))) &&& (bset (plB g (x1 1) k) (g 166 0))))), (2, .int (nI ((x1 1) + 1)))]) (Q1 := (fun z0 h' => z0 = some (.int (nI (goB g ((f &&& (g 59 (fwC x3 (g 12 2) who (g 12 2) 1))) &&& (bset (plB g (x1 1) k) (g 166 0))) ((x1 1) + 1)))) ∧ h' = HN (RO g 128 x0 x1 x2 x3) hl (RF rt))) rfl rfl (K_going _ (RO g 128 x0 x1 x2 x3) _ _ (hI.mRO (by decide)) (hB.cRO (by decide)) ((f &&& (g 59 (fwC x3 (g 12 2) who (g 12 2) 1))) &&& (bset (plB g (x1 1) k) (g 166 0))) (by omega) ((x1 1) + 1) (by omega) ⟨rfl, rfl⟩) (fun r h' hr => ?_)
        obtain ⟨rfl, rfl⟩ := hr
        have hgob : goB g ((f &&& (g 59 (fwC x3 (g 12 2) who (g 12 2) 1))) &&& (bset (plB g (x1 1) k) (g 166 0))) ((x1 1) + 1) < 16 := bset_lt _ 4
        refine Ev.run 2 (pc' := 96) (lv' := [(10, .int (nI (goB g ((f &&& (g 59 (fwC x3 (g 12 2) who (g 12 2) 1))) &&& (bset (plB g (x1 1) k) (g 166 0))) ((x1 1) + 1)))), (9, .int (nI k)), (8, .int (nI ((slC (bcG g (f &&& (g 59 (fwC x3 (g 12 2) who (g 12 2) 1))) (x1 1)) s k).2))), (7, .int (nI ((slC (bcG g (f &&& (g 59 (fwC x3 (g 12 2) who (g 12 2) 1))) (x1 1)) s k).1))), (6, .int (nI (f &&& (g 59 (fwC x3 (g 12 2) who (g 12 2) 1))))), (5, .int (nI (fwC x3 (g 12 2) who (g 12 2) 1))), (0, .ref 12), (1, .ref 128), (2, .int (nI who)), (3, .int (nI f)), (4, .int (nI s))]) (st' := [.int (nI (goB g ((f &&& (g 59 (fwC x3 (g 12 2) who (g 12 2) 1))) &&& (bset (plB g (x1 1) k) (g 166 0))) ((x1 1) + 1)))]) (h' := HN (RO g 128 x0 x1 x2 x3) hl (RF rt)) rfl ?_
        refine Ev.call (a := 253) (as := [.int (nI (goB g ((f &&& (g 59 (fwC x3 (g 12 2) who (g 12 2) 1))) &&& (bset (plB g (x1 1) k) (g 166 0))) ((x1 1) + 1)))]) (rest := []) (lv0 := [(0, .int (nI (goB g ((f &&& (g 59 (fwC x3 (g 12 2) who (g 12 2) 1))) &&& (bset (plB g (x1 1) k) (g 166 0))) ((x1 1) + 1))))]) (Q1 := (fun z0 h' => z0 = some (.int (nI (bcG g (f &&& (g 59 (fwC x3 (g 12 2) who (g 12 2) 1))) (x1 1) k))) ∧ h' = HN (RO g 128 x0 x1 x2 x3) hl (RF rt))) rfl rfl (K_bitCount _ _ (goB g ((f &&& (g 59 (fwC x3 (g 12 2) who (g 12 2) 1))) &&& (bset (plB g (x1 1) k) (g 166 0))) ((x1 1) + 1)) (by omega) ⟨rfl, rfl⟩) (fun r h' hr => ?_)
        obtain ⟨rfl, rfl⟩ := hr
        refine Ev.run 2 (pc' := (if nI ((slC (bcG g (f &&& (g 59 (fwC x3 (g 12 2) who (g 12 2) 1))) (x1 1)) s k).2) ≤ nI (bcG g (f &&& (g 59 (fwC x3 (g 12 2) who (g 12 2) 1))) (x1 1) k) then 115 else 104)) (lv' := [(10, .int (nI (goB g ((f &&& (g 59 (fwC x3 (g 12 2) who (g 12 2) 1))) &&& (bset (plB g (x1 1) k) (g 166 0))) ((x1 1) + 1)))), (9, .int (nI k)), (8, .int (nI ((slC (bcG g (f &&& (g 59 (fwC x3 (g 12 2) who (g 12 2) 1))) (x1 1)) s k).2))), (7, .int (nI ((slC (bcG g (f &&& (g 59 (fwC x3 (g 12 2) who (g 12 2) 1))) (x1 1)) s k).1))), (6, .int (nI (f &&& (g 59 (fwC x3 (g 12 2) who (g 12 2) 1))))), (5, .int (nI (fwC x3 (g 12 2) who (g 12 2) 1))), (0, .ref 12), (1, .ref 128), (2, .int (nI who)), (3, .int (nI f)), (4, .int (nI s))]) (st' := []) (h' := HN (RO g 128 x0 x1 x2 x3) hl (RF rt)) rfl ?_
        refine Ev.ite (fun hc101 => ?_) (fun hc101 => ?_)
        · have hc101 : ((slC (bcG g (f &&& (g 59 (fwC x3 (g 12 2) who (g 12 2) 1))) (x1 1)) s k).2) ≤ (bcG g (f &&& (g 59 (fwC x3 (g 12 2) who (g 12 2) 1))) (x1 1) k) := (nI_leI (by omega) (by omega)).mp hc101
          refine Ev.run 1 (pc' := 118) (lv' := [(9, .int (nI k + 1)), (10, .int (nI (goB g ((f &&& (g 59 (fwC x3 (g 12 2) who (g 12 2) 1))) &&& (bset (plB g (x1 1) k) (g 166 0))) ((x1 1) + 1)))), (8, .int (nI ((slC (bcG g (f &&& (g 59 (fwC x3 (g 12 2) who (g 12 2) 1))) (x1 1)) s k).2))), (7, .int (nI ((slC (bcG g (f &&& (g 59 (fwC x3 (g 12 2) who (g 12 2) 1))) (x1 1)) s k).1))), (6, .int (nI (f &&& (g 59 (fwC x3 (g 12 2) who (g 12 2) 1))))), (5, .int (nI (fwC x3 (g 12 2) who (g 12 2) 1))), (0, .ref 12), (1, .ref 128), (2, .int (nI who)), (3, .int (nI f)), (4, .int (nI s))]) (st' := []) (h' := HN (RO g 128 x0 x1 x2 x3) hl (RF rt)) rfl ?_
          refine Ev.lvE (congrArg (fun z => (9, Value.int z) :: [(10, .int (nI (goB g ((f &&& (g 59 (fwC x3 (g 12 2) who (g 12 2) 1))) &&& (bset (plB g (x1 1) k) (g 166 0))) ((x1 1) + 1)))), (8, .int (nI ((slC (bcG g (f &&& (g 59 (fwC x3 (g 12 2) who (g 12 2) 1))) (x1 1)) s k).2))), (7, .int (nI ((slC (bcG g (f &&& (g 59 (fwC x3 (g 12 2) who (g 12 2) 1))) (x1 1)) s k).1))), (6, .int (nI (f &&& (g 59 (fwC x3 (g 12 2) who (g 12 2) 1))))), (5, .int (nI (fwC x3 (g 12 2) who (g 12 2) 1))), (0, .ref 12), (1, .ref 128), (2, .int (nI who)), (3, .int (nI f)), (4, .int (nI s))]) (nI_1 _)) ?_
          refine Ev.run 1 (pc' := 38) (lv' := [(9, .int (nI (k + 1))), (10, .int (nI (goB g ((f &&& (g 59 (fwC x3 (g 12 2) who (g 12 2) 1))) &&& (bset (plB g (x1 1) k) (g 166 0))) ((x1 1) + 1)))), (8, .int (nI ((slC (bcG g (f &&& (g 59 (fwC x3 (g 12 2) who (g 12 2) 1))) (x1 1)) s k).2))), (7, .int (nI ((slC (bcG g (f &&& (g 59 (fwC x3 (g 12 2) who (g 12 2) 1))) (x1 1)) s k).1))), (6, .int (nI (f &&& (g 59 (fwC x3 (g 12 2) who (g 12 2) 1))))), (5, .int (nI (fwC x3 (g 12 2) who (g 12 2) 1))), (0, .ref 12), (1, .ref 128), (2, .int (nI who)), (3, .int (nI f)), (4, .int (nI s))]) (st' := []) (h' := HN (RO g 128 x0 x1 x2 x3) hl (RF rt)) rfl ?_
          have hx := hnext (by omega)
          rw [slC_2 hb51 (by show ¬ bcG _ _ _ _ < _; omega)] at hx
          exact Ev.wk (Ext.cons rfl rfl (Ext.cons rfl rfl (Ext.cons rfl rfl (Ext.cons rfl rfl (Ext.cons rfl rfl (Ext.cons rfl rfl (Ext.cons rfl rfl (Ext.cons rfl rfl (Ext.cons rfl rfl (Ext.cons rfl rfl (Ext.nil rfl))))))))))) hx
        · have hc101 : ¬ (((slC (bcG g (f &&& (g 59 (fwC x3 (g 12 2) who (g 12 2) 1))) (x1 1)) s k).2) ≤ (bcG g (f &&& (g 59 (fwC x3 (g 12 2) who (g 12 2) 1))) (x1 1) k)) := fun z => hc101 ((nI_leI (by omega) (by omega)).mpr z)
          refine Ev.run 1 (pc' := 106) (lv' := [(10, .int (nI (goB g ((f &&& (g 59 (fwC x3 (g 12 2) who (g 12 2) 1))) &&& (bset (plB g (x1 1) k) (g 166 0))) ((x1 1) + 1)))), (9, .int (nI k)), (8, .int (nI ((slC (bcG g (f &&& (g 59 (fwC x3 (g 12 2) who (g 12 2) 1))) (x1 1)) s k).2))), (7, .int (nI ((slC (bcG g (f &&& (g 59 (fwC x3 (g 12 2) who (g 12 2) 1))) (x1 1)) s k).1))), (6, .int (nI (f &&& (g 59 (fwC x3 (g 12 2) who (g 12 2) 1))))), (5, .int (nI (fwC x3 (g 12 2) who (g 12 2) 1))), (0, .ref 12), (1, .ref 128), (2, .int (nI who)), (3, .int (nI f)), (4, .int (nI s))]) (st' := [.int (nI (goB g ((f &&& (g 59 (fwC x3 (g 12 2) who (g 12 2) 1))) &&& (bset (plB g (x1 1) k) (g 166 0))) ((x1 1) + 1)))]) (h' := HN (RO g 128 x0 x1 x2 x3) hl (RF rt)) rfl ?_
          refine Ev.call (a := 253) (as := [.int (nI (goB g ((f &&& (g 59 (fwC x3 (g 12 2) who (g 12 2) 1))) &&& (bset (plB g (x1 1) k) (g 166 0))) ((x1 1) + 1)))]) (rest := []) (lv0 := [(0, .int (nI (goB g ((f &&& (g 59 (fwC x3 (g 12 2) who (g 12 2) 1))) &&& (bset (plB g (x1 1) k) (g 166 0))) ((x1 1) + 1))))]) (Q1 := (fun z0 h' => z0 = some (.int (nI (bcG g (f &&& (g 59 (fwC x3 (g 12 2) who (g 12 2) 1))) (x1 1) k))) ∧ h' = HN (RO g 128 x0 x1 x2 x3) hl (RF rt))) rfl rfl (K_bitCount _ _ (goB g ((f &&& (g 59 (fwC x3 (g 12 2) who (g 12 2) 1))) &&& (bset (plB g (x1 1) k) (g 166 0))) ((x1 1) + 1)) (by omega) ⟨rfl, rfl⟩) (fun r h' hr => ?_)
          obtain ⟨rfl, rfl⟩ := hr
          refine Ev.run 4 (pc' := 118) (lv' := [(9, .int (nI k + 1)), (7, .int (nI k)), (8, .int (nI (bcG g (f &&& (g 59 (fwC x3 (g 12 2) who (g 12 2) 1))) (x1 1) k))), (10, .int (nI (goB g ((f &&& (g 59 (fwC x3 (g 12 2) who (g 12 2) 1))) &&& (bset (plB g (x1 1) k) (g 166 0))) ((x1 1) + 1)))), (6, .int (nI (f &&& (g 59 (fwC x3 (g 12 2) who (g 12 2) 1))))), (5, .int (nI (fwC x3 (g 12 2) who (g 12 2) 1))), (0, .ref 12), (1, .ref 128), (2, .int (nI who)), (3, .int (nI f)), (4, .int (nI s))]) (st' := []) (h' := HN (RO g 128 x0 x1 x2 x3) hl (RF rt)) rfl ?_
          refine Ev.lvE (congrArg (fun z => (9, Value.int z) :: [(7, .int (nI k)), (8, .int (nI (bcG g (f &&& (g 59 (fwC x3 (g 12 2) who (g 12 2) 1))) (x1 1) k))), (10, .int (nI (goB g ((f &&& (g 59 (fwC x3 (g 12 2) who (g 12 2) 1))) &&& (bset (plB g (x1 1) k) (g 166 0))) ((x1 1) + 1)))), (6, .int (nI (f &&& (g 59 (fwC x3 (g 12 2) who (g 12 2) 1))))), (5, .int (nI (fwC x3 (g 12 2) who (g 12 2) 1))), (0, .ref 12), (1, .ref 128), (2, .int (nI who)), (3, .int (nI f)), (4, .int (nI s))]) (nI_1 _)) ?_
          refine Ev.run 1 (pc' := 38) (lv' := [(9, .int (nI (k + 1))), (7, .int (nI k)), (8, .int (nI (bcG g (f &&& (g 59 (fwC x3 (g 12 2) who (g 12 2) 1))) (x1 1) k))), (10, .int (nI (goB g ((f &&& (g 59 (fwC x3 (g 12 2) who (g 12 2) 1))) &&& (bset (plB g (x1 1) k) (g 166 0))) ((x1 1) + 1)))), (6, .int (nI (f &&& (g 59 (fwC x3 (g 12 2) who (g 12 2) 1))))), (5, .int (nI (fwC x3 (g 12 2) who (g 12 2) 1))), (0, .ref 12), (1, .ref 128), (2, .int (nI who)), (3, .int (nI f)), (4, .int (nI s))]) (st' := []) (h' := HN (RO g 128 x0 x1 x2 x3) hl (RF rt)) rfl ?_
          have hx := hnext (by omega)
          rw [slC_1 hb51 (by show bcG _ _ _ _ < _; omega)] at hx
          exact Ev.wk (Ext.cons rfl rfl (Ext.cons rfl rfl (Ext.cons rfl rfl (Ext.cons rfl rfl (Ext.cons rfl rfl (Ext.cons rfl rfl (Ext.cons rfl rfl (Ext.cons rfl rfl (Ext.cons rfl rfl (Ext.cons rfl rfl (Ext.nil rfl))))))))))) hx
      · skip
        refine Ev.run 3 (pc' := 118) (lv' := [(9, .int (nI k + 1)), (8, .int (nI ((slC (bcG g (f &&& (g 59 (fwC x3 (g 12 2) who (g 12 2) 1))) (x1 1)) s k).2))), (7, .int (nI ((slC (bcG g (f &&& (g 59 (fwC x3 (g 12 2) who (g 12 2) 1))) (x1 1)) s k).1))), (6, .int (nI (f &&& (g 59 (fwC x3 (g 12 2) who (g 12 2) 1))))), (5, .int (nI (fwC x3 (g 12 2) who (g 12 2) 1))), (0, .ref 12), (1, .ref 128), (2, .int (nI who)), (3, .int (nI f)), (4, .int (nI s))]) (st' := []) (h' := HN (RO g 128 x0 x1 x2 x3) hl (RF rt)) rfl ?_
        refine Ev.lvE (congrArg (fun z => (9, Value.int z) :: [(8, .int (nI ((slC (bcG g (f &&& (g 59 (fwC x3 (g 12 2) who (g 12 2) 1))) (x1 1)) s k).2))), (7, .int (nI ((slC (bcG g (f &&& (g 59 (fwC x3 (g 12 2) who (g 12 2) 1))) (x1 1)) s k).1))), (6, .int (nI (f &&& (g 59 (fwC x3 (g 12 2) who (g 12 2) 1))))), (5, .int (nI (fwC x3 (g 12 2) who (g 12 2) 1))), (0, .ref 12), (1, .ref 128), (2, .int (nI who)), (3, .int (nI f)), (4, .int (nI s))]) (nI_1 _)) ?_
        refine Ev.run 1 (pc' := 38) (lv' := [(9, .int (nI (k + 1))), (8, .int (nI ((slC (bcG g (f &&& (g 59 (fwC x3 (g 12 2) who (g 12 2) 1))) (x1 1)) s k).2))), (7, .int (nI ((slC (bcG g (f &&& (g 59 (fwC x3 (g 12 2) who (g 12 2) 1))) (x1 1)) s k).1))), (6, .int (nI (f &&& (g 59 (fwC x3 (g 12 2) who (g 12 2) 1))))), (5, .int (nI (fwC x3 (g 12 2) who (g 12 2) 1))), (0, .ref 12), (1, .ref 128), (2, .int (nI who)), (3, .int (nI f)), (4, .int (nI s))]) (st' := []) (h' := HN (RO g 128 x0 x1 x2 x3) hl (RF rt)) rfl ?_
        have hx := hnext (by omega)
        rw [slC_0 hb51] at hx
        exact Ev.wk (Ext.cons rfl rfl (Ext.cons rfl rfl (Ext.cons rfl rfl (Ext.cons rfl rfl (Ext.cons rfl rfl (Ext.cons rfl rfl (Ext.cons rfl rfl (Ext.cons rfl rfl (Ext.cons rfl rfl (Ext.cons rfl rfl (Ext.nil rfl))))))))))) hx
  · have hc10 : ¬ ((fwC x3 (g 12 2) who (g 12 2) 1) < 2147483648) := fun z => hc10 ((nI_geU0 (by omega)).mpr z)
    refine Ev.run 9 (pc' := 38) (lv' := [(9, .int (nI 0)), (8, .int (nI 5)), (7, .int (nI 10)), (6, .int (nI 0)), (5, .int (nI (fwC x3 (g 12 2) who (g 12 2) 1))), (0, .ref 12), (1, .ref 128), (2, .int (nI who)), (3, .int (nI f)), (4, .int (nI s))]) (st' := []) (h' := HN (RO g 128 x0 x1 x2 x3) hl (RF rt)) rfl ?_
    have hwd : 0 < 4096 := by first | omega | (have h1 := hk59 (fwC x3 (g 12 2) who (g 12 2) 1) (by omega); exact Nat.lt_of_le_of_lt Nat.and_le_right h1)
    refine for_ind 4 (fun k => Ev L xs (d + 4) 40 38 [(9, .int (nI k)), (8, .int (nI ((slC (bcG g 0 (x1 1)) s k).2))), (7, .int (nI ((slC (bcG g 0 (x1 1)) s k).1))), (6, .int (nI 0)), (5, .int (nI (fwC x3 (g 12 2) who (g 12 2) 1))), (0, .ref 12), (1, .ref 128), (2, .int (nI who)), (3, .int (nI f)), (4, .int (nI s))] [] (HN (RO g 128 x0 x1 x2 x3) hl (RF rt)) Q) (fun k hk hnext => ?_) 0 (Nat.zero_le _)
    have hslb := slC_b (f := bcG g 0 (x1 1)) (bcG_le _ _ _) s k (by omega)
    have hand := and_le 0 (bset (plB g (x1 1) k) (g 166 0))
    have hbc := bcG_le g 0 (x1 1) k
    refine Ev.run 3 (pc' := (if nI 4 ≤ nI k then 121 else 44)) (lv' := [(9, .int (nI k)), (8, .int (nI ((slC (bcG g 0 (x1 1)) s k).2))), (7, .int (nI ((slC (bcG g 0 (x1 1)) s k).1))), (6, .int (nI 0)), (5, .int (nI (fwC x3 (g 12 2) who (g 12 2) 1))), (0, .ref 12), (1, .ref 128), (2, .int (nI who)), (3, .int (nI f)), (4, .int (nI s))]) (st' := []) (h' := HN (RO g 128 x0 x1 x2 x3) hl (RF rt)) rfl ?_
    refine Ev.ite (fun hc41 => ?_) (fun hc41 => ?_)
    · have hc41 : 4 ≤ k := (nI_leI (by omega) (by omega)).mp hc41
      refine Ev.run 1 (pc' := 123) (lv' := [(9, .int (nI k)), (8, .int (nI ((slC (bcG g 0 (x1 1)) s k).2))), (7, .int (nI ((slC (bcG g 0 (x1 1)) s k).1))), (6, .int (nI 0)), (5, .int (nI (fwC x3 (g 12 2) who (g 12 2) 1))), (0, .ref 12), (1, .ref 128), (2, .int (nI who)), (3, .int (nI f)), (4, .int (nI s))]) (st' := [.int (nI ((slC (bcG g 0 (x1 1)) s k).1))]) (h' := HN (RO g 128 x0 x1 x2 x3) hl (RF rt)) rfl ?_
      refine Ev.ret (v := some (.int (nI ((slC (bcG g 0 (x1 1)) s k).1)))) rfl ?_
      obtain rfl : k = 4 := by omega
      unfold syC at hq
      rw [if_neg hc10] at hq
      exact hq
    · have hc41 : ¬ (4 ≤ k) := fun z => hc41 ((nI_leI (by omega) (by omega)).mpr z)
      refine Ev.run 2 (pc' := 48) (lv' := [(9, .int (nI k)), (8, .int (nI ((slC (bcG g 0 (x1 1)) s k).2))), (7, .int (nI ((slC (bcG g 0 (x1 1)) s k).1))), (6, .int (nI 0)), (5, .int (nI (fwC x3 (g 12 2) who (g 12 2) 1))), (0, .ref 12), (1, .ref 128), (2, .int (nI who)), (3, .int (nI f)), (4, .int (nI s))]) (st' := [.int (nI k), .int (nI s)]) (h' := HN (RO g 128 x0 x1 x2 x3) hl (RF rt)) rfl ?_
      refine Ev.call (a := 122) (as := [.int (nI s), .int (nI k)]) (rest := []) (lv0 := [(0, .int (nI s)), (1, .int (nI k))]) (Q1 := (fun z0 h' => z0 = some (.int (nI (bn (Nat.testBit s k)))) ∧ h' = HN (RO g 128 x0 x1 x2 x3) hl (RF rt))) rfl rfl (K_isIn _ _ _ _ s k (by omega) (by omega) ⟨rfl, rfl⟩) (fun r h' hr => ?_)
      obtain ⟨rfl, rfl⟩ := hr
      refine Ev_bn (fun hb51 => ?_) (fun hb51 => ?_)
      · skip
        refine Ev.run 10 (pc' := 76) (lv' := [(9, .int (nI k)), (8, .int (nI ((slC (bcG g 0 (x1 1)) s k).2))), (7, .int (nI ((slC (bcG g 0 (x1 1)) s k).1))), (6, .int (nI 0)), (5, .int (nI (fwC x3 (g 12 2) who (g 12 2) 1))), (0, .ref 12), (1, .ref 128), (2, .int (nI who)), (3, .int (nI f)), (4, .int (nI s))]) (st' := [.int (nI k), .int (nI (x1 1)), .ref 13, .int (nI 0), .ref 13]) (h' := HN (RO g 128 x0 x1 x2 x3) hl (RF rt)) rfl ?_
        refine Ev.call (a := 12) (as := [.ref 13, .int (nI (x1 1)), .int (nI k)]) (rest := [.int (nI 0), .ref 13]) (lv0 := [(0, .ref 13), (1, .int (nI (x1 1))), (2, .int (nI k))]) (Q1 := (fun z0 h' => z0 = some (.int (nI (bset (plB g (x1 1) k) (g 166 0)))) ∧ h' = HN (RO g 128 x0 x1 x2 x3) hl (RF rt))) rfl rfl (K_having _ (RO g 128 x0 x1 x2 x3) _ _ (hI.mRO (by decide)) (hB.cRO (by decide)) (x1 1) k (by omega) (by omega) ⟨rfl, rfl⟩) (fun r h' hr => ?_)
        obtain ⟨rfl, rfl⟩ := hr
        refine Ev.run 1 (pc' := 80) (lv' := [(9, .int (nI k)), (8, .int (nI ((slC (bcG g 0 (x1 1)) s k).2))), (7, .int (nI ((slC (bcG g 0 (x1 1)) s k).1))), (6, .int (nI 0)), (5, .int (nI (fwC x3 (g 12 2) who (g 12 2) 1))), (0, .ref 12), (1, .ref 128), (2, .int (nI who)), (3, .int (nI f)), (4, .int (nI s))]) (st' := [.int (nI 0 &&& nI (bset (plB g (x1 1) k) (g 166 0))), .ref 13]) (h' := HN (RO g 128 x0 x1 x2 x3) hl (RF rt)) rfl ?_
        refine Ev.topI (nIa _ _) ?_
        refine Ev.run 5 (pc' := 89) (lv' := [(9, .int (nI k)), (8, .int (nI ((slC (bcG g 0 (x1 1)) s k).2))), (7, .int (nI ((slC (bcG g 0 (x1 1)) s k).1))), (6, .int (nI 0)), (5, .int (nI (fwC x3 (g 12 2) who (g 12 2) 1))), (0, .ref 12), (1, .ref 128), (2, .int (nI who)), (3, .int (nI f)), (4, .int (nI s))]) (st' := [.int (nI (x1 1) + nI 1), .int (nI (0 &&& (bset (plB g (x1 1) k) (g 166 0)))), .ref 13]) (h' := HN (RO g 128 x0 x1 x2 x3) hl (RF rt)) rfl ?_
        refine Ev.topI (nI_add _ _) ?_
        refine Ev.call (a := 16) (as := [.ref 13, .int (nI (0 &&& (bset (plB g (x1 1) k) (g 166 0)))), .int (nI ((x1 1) + 1))]) (rest := []) (lv0 := [(0, .ref 13), (1, .int (nI (0 &&& (bset (plB g (x1 1) k) (g 166 0))))), (2, .int (nI ((x1 1) + 1)))]) (Q1 := (fun z0 h' => z0 = some (.int (nI (goB g (0 &&& (bset (plB g (x1 1) k) (g 166 0))) ((x1 1) + 1)))) ∧ h' = HN (RO g 128 x0 x1 x2 x3) hl (RF rt))) rfl rfl (K_going _ (RO g 128 x0 x1 x2 x3) _ _ (hI.mRO (by decide)) (hB.cRO (by decide)) (0 &&& (bset (plB g (x1 1) k) (g 166 0))) (by omega) ((x1 1) + 1) (by omega) ⟨rfl, rfl⟩) (fun r h' hr => ?_)
        obtain ⟨rfl, rfl⟩ := hr
        have hgob : goB g (0 &&& (bset (plB g (x1 1) k) (g 166 0))) ((x1 1) + 1) < 16 := bset_lt _ 4
        refine Ev.run 2 (pc' := 96) (lv' := [(10, .int (nI (goB g (0 &&& (bset (plB g (x1 1) k) (g 166 0))) ((x1 1) + 1)))), (9, .int (nI k)), (8, .int (nI ((slC (bcG g 0 (x1 1)) s k).2))), (7, .int (nI ((slC (bcG g 0 (x1 1)) s k).1))), (6, .int (nI 0)), (5, .int (nI (fwC x3 (g 12 2) who (g 12 2) 1))), (0, .ref 12), (1, .ref 128), (2, .int (nI who)), (3, .int (nI f)), (4, .int (nI s))]) (st' := [.int (nI (goB g (0 &&& (bset (plB g (x1 1) k) (g 166 0))) ((x1 1) + 1)))]) (h' := HN (RO g 128 x0 x1 x2 x3) hl (RF rt)) rfl ?_
        refine Ev.call (a := 253) (as := [.int (nI (goB g (0 &&& (bset (plB g (x1 1) k) (g 166 0))) ((x1 1) + 1)))]) (rest := []) (lv0 := [(0, .int (nI (goB g (0 &&& (bset (plB g (x1 1) k) (g 166 0))) ((x1 1) + 1))))]) (Q1 := (fun z0 h' => z0 = some (.int (nI (bcG g 0 (x1 1) k))) ∧ h' = HN (RO g 128 x0 x1 x2 x3) hl (RF rt))) rfl rfl (K_bitCount _ _ (goB g (0 &&& (bset (plB g (x1 1) k) (g 166 0))) ((x1 1) + 1)) (by omega) ⟨rfl, rfl⟩) (fun r h' hr => ?_)
        obtain ⟨rfl, rfl⟩ := hr
        refine Ev.run 2 (pc' := (if nI ((slC (bcG g 0 (x1 1)) s k).2) ≤ nI (bcG g 0 (x1 1) k) then 115 else 104)) (lv' := [(10, .int (nI (goB g (0 &&& (bset (plB g (x1 1) k) (g 166 0))) ((x1 1) + 1)))), (9, .int (nI k)), (8, .int (nI ((slC (bcG g 0 (x1 1)) s k).2))), (7, .int (nI ((slC (bcG g 0 (x1 1)) s k).1))), (6, .int (nI 0)), (5, .int (nI (fwC x3 (g 12 2) who (g 12 2) 1))), (0, .ref 12), (1, .ref 128), (2, .int (nI who)), (3, .int (nI f)), (4, .int (nI s))]) (st' := []) (h' := HN (RO g 128 x0 x1 x2 x3) hl (RF rt)) rfl ?_
        refine Ev.ite (fun hc101 => ?_) (fun hc101 => ?_)
        · have hc101 : ((slC (bcG g 0 (x1 1)) s k).2) ≤ (bcG g 0 (x1 1) k) := (nI_leI (by omega) (by omega)).mp hc101
          refine Ev.run 1 (pc' := 118) (lv' := [(9, .int (nI k + 1)), (10, .int (nI (goB g (0 &&& (bset (plB g (x1 1) k) (g 166 0))) ((x1 1) + 1)))), (8, .int (nI ((slC (bcG g 0 (x1 1)) s k).2))), (7, .int (nI ((slC (bcG g 0 (x1 1)) s k).1))), (6, .int (nI 0)), (5, .int (nI (fwC x3 (g 12 2) who (g 12 2) 1))), (0, .ref 12), (1, .ref 128), (2, .int (nI who)), (3, .int (nI f)), (4, .int (nI s))]) (st' := []) (h' := HN (RO g 128 x0 x1 x2 x3) hl (RF rt)) rfl ?_
          refine Ev.lvE (congrArg (fun z => (9, Value.int z) :: [(10, .int (nI (goB g (0 &&& (bset (plB g (x1 1) k) (g 166 0))) ((x1 1) + 1)))), (8, .int (nI ((slC (bcG g 0 (x1 1)) s k).2))), (7, .int (nI ((slC (bcG g 0 (x1 1)) s k).1))), (6, .int (nI 0)), (5, .int (nI (fwC x3 (g 12 2) who (g 12 2) 1))), (0, .ref 12), (1, .ref 128), (2, .int (nI who)), (3, .int (nI f)), (4, .int (nI s))]) (nI_1 _)) ?_
          refine Ev.run 1 (pc' := 38) (lv' := [(9, .int (nI (k + 1))), (10, .int (nI (goB g (0 &&& (bset (plB g (x1 1) k) (g 166 0))) ((x1 1) + 1)))), (8, .int (nI ((slC (bcG g 0 (x1 1)) s k).2))), (7, .int (nI ((slC (bcG g 0 (x1 1)) s k).1))), (6, .int (nI 0)), (5, .int (nI (fwC x3 (g 12 2) who (g 12 2) 1))), (0, .ref 12), (1, .ref 128), (2, .int (nI who)), (3, .int (nI f)), (4, .int (nI s))]) (st' := []) (h' := HN (RO g 128 x0 x1 x2 x3) hl (RF rt)) rfl ?_
          have hx := hnext (by omega)
          rw [slC_2 hb51 (by show ¬ bcG _ _ _ _ < _; omega)] at hx
          exact Ev.wk (Ext.cons rfl rfl (Ext.cons rfl rfl (Ext.cons rfl rfl (Ext.cons rfl rfl (Ext.cons rfl rfl (Ext.cons rfl rfl (Ext.cons rfl rfl (Ext.cons rfl rfl (Ext.cons rfl rfl (Ext.cons rfl rfl (Ext.nil rfl))))))))))) hx
        · have hc101 : ¬ (((slC (bcG g 0 (x1 1)) s k).2) ≤ (bcG g 0 (x1 1) k)) := fun z => hc101 ((nI_leI (by omega) (by omega)).mpr z)
          refine Ev.run 1 (pc' := 106) (lv' := [(10, .int (nI (goB g (0 &&& (bset (plB g (x1 1) k) (g 166 0))) ((x1 1) + 1)))), (9, .int (nI k)), (8, .int (nI ((slC (bcG g 0 (x1 1)) s k).2))), (7, .int (nI ((slC (bcG g 0 (x1 1)) s k).1))), (6, .int (nI 0)), (5, .int (nI (fwC x3 (g 12 2) who (g 12 2) 1))), (0, .ref 12), (1, .ref 128), (2, .int (nI who)), (3, .int (nI f)), (4, .int (nI s))]) (st' := [.int (nI (goB g (0 &&& (bset (plB g (x1 1) k) (g 166 0))) ((x1 1) + 1)))]) (h' := HN (RO g 128 x0 x1 x2 x3) hl (RF rt)) rfl ?_
          refine Ev.call (a := 253) (as := [.int (nI (goB g (0 &&& (bset (plB g (x1 1) k) (g 166 0))) ((x1 1) + 1)))]) (rest := []) (lv0 := [(0, .int (nI (goB g (0 &&& (bset (plB g (x1 1) k) (g 166 0))) ((x1 1) + 1))))]) (Q1 := (fun z0 h' => z0 = some (.int (nI (bcG g 0 (x1 1) k))) ∧ h' = HN (RO g 128 x0 x1 x2 x3) hl (RF rt))) rfl rfl (K_bitCount _ _ (goB g (0 &&& (bset (plB g (x1 1) k) (g 166 0))) ((x1 1) + 1)) (by omega) ⟨rfl, rfl⟩) (fun r h' hr => ?_)
          obtain ⟨rfl, rfl⟩ := hr
          refine Ev.run 4 (pc' := 118) (lv' := [(9, .int (nI k + 1)), (7, .int (nI k)), (8, .int (nI (bcG g 0 (x1 1) k))), (10, .int (nI (goB g (0 &&& (bset (plB g (x1 1) k) (g 166 0))) ((x1 1) + 1)))), (6, .int (nI 0)), (5, .int (nI (fwC x3 (g 12 2) who (g 12 2) 1))), (0, .ref 12), (1, .ref 128), (2, .int (nI who)), (3, .int (nI f)), (4, .int (nI s))]) (st' := []) (h' := HN (RO g 128 x0 x1 x2 x3) hl (RF rt)) rfl ?_
          refine Ev.lvE (congrArg (fun z => (9, Value.int z) :: [(7, .int (nI k)), (8, .int (nI (bcG g 0 (x1 1) k))), (10, .int (nI (goB g (0 &&& (bset (plB g (x1 1) k) (g 166 0))) ((x1 1) + 1)))), (6, .int (nI 0)), (5, .int (nI (fwC x3 (g 12 2) who (g 12 2) 1))), (0, .ref 12), (1, .ref 128), (2, .int (nI who)), (3, .int (nI f)), (4, .int (nI s))]) (nI_1 _)) ?_
          refine Ev.run 1 (pc' := 38) (lv' := [(9, .int (nI (k + 1))), (7, .int (nI k)), (8, .int (nI (bcG g 0 (x1 1) k))), (10, .int (nI (goB g (0 &&& (bset (plB g (x1 1) k) (g 166 0))) ((x1 1) + 1)))), (6, .int (nI 0)), (5, .int (nI (fwC x3 (g 12 2) who (g 12 2) 1))), (0, .ref 12), (1, .ref 128), (2, .int (nI who)), (3, .int (nI f)), (4, .int (nI s))]) (st' := []) (h' := HN (RO g 128 x0 x1 x2 x3) hl (RF rt)) rfl ?_
          have hx := hnext (by omega)
          rw [slC_1 hb51 (by show bcG _ _ _ _ < _; omega)] at hx
          exact Ev.wk (Ext.cons rfl rfl (Ext.cons rfl rfl (Ext.cons rfl rfl (Ext.cons rfl rfl (Ext.cons rfl rfl (Ext.cons rfl rfl (Ext.cons rfl rfl (Ext.cons rfl rfl (Ext.cons rfl rfl (Ext.cons rfl rfl (Ext.nil rfl))))))))))) hx
      · skip
        refine Ev.run 3 (pc' := 118) (lv' := [(9, .int (nI k + 1)), (8, .int (nI ((slC (bcG g 0 (x1 1)) s k).2))), (7, .int (nI ((slC (bcG g 0 (x1 1)) s k).1))), (6, .int (nI 0)), (5, .int (nI (fwC x3 (g 12 2) who (g 12 2) 1))), (0, .ref 12), (1, .ref 128), (2, .int (nI who)), (3, .int (nI f)), (4, .int (nI s))]) (st' := []) (h' := HN (RO g 128 x0 x1 x2 x3) hl (RF rt)) rfl ?_
        refine Ev.lvE (congrArg (fun z => (9, Value.int z) :: [(8, .int (nI ((slC (bcG g 0 (x1 1)) s k).2))), (7, .int (nI ((slC (bcG g 0 (x1 1)) s k).1))), (6, .int (nI 0)), (5, .int (nI (fwC x3 (g 12 2) who (g 12 2) 1))), (0, .ref 12), (1, .ref 128), (2, .int (nI who)), (3, .int (nI f)), (4, .int (nI s))]) (nI_1 _)) ?_
        refine Ev.run 1 (pc' := 38) (lv' := [(9, .int (nI (k + 1))), (8, .int (nI ((slC (bcG g 0 (x1 1)) s k).2))), (7, .int (nI ((slC (bcG g 0 (x1 1)) s k).1))), (6, .int (nI 0)), (5, .int (nI (fwC x3 (g 12 2) who (g 12 2) 1))), (0, .ref 12), (1, .ref 128), (2, .int (nI who)), (3, .int (nI f)), (4, .int (nI s))]) (st' := []) (h' := HN (RO g 128 x0 x1 x2 x3) hl (RF rt)) rfl ?_
        have hx := hnext (by omega)
        rw [slC_0 hb51] at hx
        exact Ev.wk (Ext.cons rfl rfl (Ext.cons rfl rfl (Ext.cons rfl rfl (Ext.cons rfl rfl (Ext.cons rfl rfl (Ext.cons rfl rfl (Ext.cons rfl rfl (Ext.cons rfl rfl (Ext.cons rfl rfl (Ext.cons rfl rfl (Ext.nil rfl))))))))))) hx
