/-! the class: acts -/
/-- the bodies l begun, as the class keeps them -/
def bdC (g : Nat → Nat → Nat) (l : List Nat) : Nat → Nat → Nat := fun a c => if a = 134 then (if g 133 1 ≤ c ∧ c < g 133 1 + l.length ∧ c < 20 then l.getD (c - g 133 1) 0 else g 134 c) else if a = 133 then (if c = 1 then (if g 133 1 + l.length ≤ 20 then g 133 1 + l.length else 20) else g 133 c) else if a = 132 then (if c = 1 then g 132 1 + l.length else g 132 c) else g a c
theorem bdC_ne (g : Nat → Nat → Nat) (l : List Nat) {a : Nat} (h : a < 132 ∨ 134 < a) (c : Nat) : bdC g l a c = g a c := by
  unfold bdC
  rw [if_neg (by omega), if_neg (by omega), if_neg (by omega)]
theorem bdC_s (g : Nat → Nat → Nat) (l : List Nat) : bdC g l 133 1 = if g 133 1 + l.length ≤ 20 then g 133 1 + l.length else 20 := rfl
theorem bdC_r (g : Nat → Nat → Nat) (l : List Nat) : bdC g l 132 1 = g 132 1 + l.length := rfl
theorem bdC_c {g : Nat → Nat → Nat} (h : g 133 1 ≤ 20) (l m : List Nat) : bdC (bdC g l) m = bdC g (l ++ m) := by
  funext a c
  by_cases h0 : a < 132 ∨ 134 < a
  · rw [bdC_ne _ _ h0, bdC_ne _ _ h0, bdC_ne _ _ h0]
  · rcases (show a = 132 ∨ a = 133 ∨ a = 134 by omega) with rfl | rfl | rfl
    · show (if c = 1 then bdC g l 132 1 + m.length else bdC g l 132 c) = (if c = 1 then g 132 1 + (l ++ m).length else g 132 c)
      by_cases e : c = 1
      · rw [if_pos e, if_pos e, bdC_r, List.length_append, Nat.add_assoc]
      · rw [if_neg e, if_neg e]
        show (if c = 1 then _ else g 132 c) = _
        rw [if_neg e]
    · show (if c = 1 then (if bdC g l 133 1 + m.length ≤ 20 then bdC g l 133 1 + m.length else 20) else bdC g l 133 c) = (if c = 1 then (if g 133 1 + (l ++ m).length ≤ 20 then g 133 1 + (l ++ m).length else 20) else g 133 c)
      by_cases e : c = 1
      · rw [if_pos e, if_pos e, bdC_s, List.length_append]
        by_cases e2 : g 133 1 + l.length ≤ 20
        · rw [if_pos e2, Nat.add_assoc]
        · rw [if_neg e2, if_neg (show ¬ g 133 1 + (l.length + m.length) ≤ 20 by omega)]
          split
          · omega
          · rfl
      · rw [if_neg e, if_neg e]
        show (if c = 1 then _ else g 133 c) = _
        rw [if_neg e]
    · show (if bdC g l 133 1 ≤ c ∧ c < bdC g l 133 1 + m.length ∧ c < 20 then m.getD (c - bdC g l 133 1) 0 else bdC g l 134 c) = (if g 133 1 ≤ c ∧ c < g 133 1 + (l ++ m).length ∧ c < 20 then (l ++ m).getD (c - g 133 1) 0 else g 134 c)
      have e0 : bdC g l 134 c = if g 133 1 ≤ c ∧ c < g 133 1 + l.length ∧ c < 20 then l.getD (c - g 133 1) 0 else g 134 c := rfl
      rw [bdC_s, List.length_append, e0]
      by_cases e2 : g 133 1 + l.length ≤ 20
      · rw [if_pos e2]
        by_cases e3 : g 133 1 + l.length ≤ c ∧ c < g 133 1 + l.length + m.length ∧ c < 20
        · rw [if_pos e3, if_pos (by omega), List.getD_eq_getElem?_getD, List.getD_eq_getElem?_getD, List.getElem?_append_right (by omega), show c - g 133 1 - l.length = c - (g 133 1 + l.length) by omega]
        · rw [if_neg e3]
          by_cases e4 : g 133 1 ≤ c ∧ c < g 133 1 + l.length ∧ c < 20
          · rw [if_pos e4, if_pos (by omega), List.getD_eq_getElem?_getD, List.getD_eq_getElem?_getD, List.getElem?_append_left (by omega)]
          · rw [if_neg e4, if_neg (by omega)]
      · rw [if_neg e2, if_neg (show ¬ (20 ≤ c ∧ c < 20 + m.length ∧ c < 20) by omega)]
        by_cases e4 : g 133 1 ≤ c ∧ c < g 133 1 + l.length ∧ c < 20
        · rw [if_pos e4, if_pos (by omega), List.getD_eq_getElem?_getD, List.getD_eq_getElem?_getD, List.getElem?_append_left (by omega)]
        · rw [if_neg e4, if_neg (by omega)]
theorem bdC_1 {g : Nat → Nat → Nat} (h : g 133 1 ≤ 20) (b : Nat) : u2 (ptLn g 133 20 b) 132 1 (g 132 1 + 1) = bdC g [b] := by
  funext a c
  unfold ptLn
  by_cases h0 : a < 132 ∨ 134 < a
  · rw [bdC_ne _ _ h0, u2_ne _ (Or.inl (by omega))]
    split
    · rw [u2_ne _ (Or.inl (by omega)), u2_ne _ (Or.inl (by omega))]
    · rfl
  · rcases (show a = 132 ∨ a = 133 ∨ a = 134 by omega) with rfl | rfl | rfl
    · have e : ∀ W : Nat → Nat → Nat, W 132 c = g 132 c → u2 W 132 1 (g 132 1 + 1) 132 c = bdC g [b] 132 c := fun W hW => by
        show (if c = 1 then _ else W 132 c) = (if c = 1 then _ else g 132 c)
        rw [hW]
        rfl
      split
      · exact e _ (by rw [u2_ne _ (Or.inl (by decide)), u2_ne _ (Or.inl (by decide))])
      · exact e _ rfl
    · rw [u2_ne _ (Or.inl (by decide))]
      show _ = (if c = 1 then (if g 133 1 + 1 ≤ 20 then g 133 1 + 1 else 20) else g 133 c)
      by_cases e : g 133 1 < 20
      · rw [if_pos e, if_pos (show g 133 1 + 1 ≤ 20 by omega)]
        rfl
      · rw [if_neg e, if_neg (show ¬ g 133 1 + 1 ≤ 20 by omega)]
        by_cases e2 : c = 1
        · rw [if_pos e2, e2]; omega
        · rw [if_neg e2]
    · rw [u2_ne _ (Or.inl (by decide))]
      show _ = (if g 133 1 ≤ c ∧ c < g 133 1 + 1 ∧ c < 20 then [b].getD (c - g 133 1) 0 else g 134 c)
      by_cases e : g 133 1 < 20
      · rw [if_pos e, u2_ne _ (Or.inl (by decide))]
        show (if c = g 133 1 then b else g 134 c) = _
        by_cases e2 : c = g 133 1
        · rw [if_pos e2, if_pos (by omega), e2, Nat.sub_self]; rfl
        · rw [if_neg e2, if_neg (by omega)]
      · rw [if_neg e, if_neg (by omega)]
theorem K_own00 {L : Nat} {xs : Nat → Int32} (d : Nat) (g : Nat → Nat → Nat) (hl : Nat → Nat → Int64) (rt : Nat × Nat × Nat × Nat) {Q : Po} (hq : Q (some (.int (nI 0))) (HN g hl (RF rt))) : Ev L xs (d + 2) 5 0 [(0, .int (nI 0)), (1, .int (nI 0))] [] (HN g hl (RF rt)) Q := by
  refine Ev.run 7 (pc' := 9) (lv' := [(3, .int (nI 0)), (2, .int (nI 0)), (0, .int (nI 0)), (1, .int (nI 0))]) (st' := [.int (Int32.ofNat (xLen L 1)), .int (nI 0)]) (h' := HN g hl (RF rt)) rfl ?_
  refine Ev.topI (show Int32.ofNat (xLen L 1) = nI 7 from rfl) ?_
  refine Ev.run 2 (pc' := 13) (lv' := [(3, .int (nI 0)), (2, .int (nI 0)), (0, .int (nI 0)), (1, .int (nI 0))]) (st' := [.int (nI 0)]) (h' := HN g hl (RF rt)) rfl ?_
  refine Ev.call (a := 120) (as := [.int (nI 0)]) (rest := []) (lv0 := [(0, .int (nI 0))]) (Q1 := (fun z0 h' => z0 = some (.int (nI 1)) ∧ h' = HN g hl (RF rt))) rfl rfl (K_isKind _ _ _ _ 0 (by omega) ⟨rfl, rfl⟩) (fun r h' hr => ?_)
  obtain ⟨rfl, rfl⟩ := hr
  refine Ev.run 7 (pc' := 27) (lv' := [(3, .int (nI 0)), (2, .int (nI 0)), (0, .int (nI 0)), (1, .int (nI 0))]) (st' := [.int (nI 0), .retAddr 2]) (h' := HN g hl (RF rt)) rfl ?_
  refine Ev_xald rfl (by decide) (show 0 < 21 by omega) (show 21 < 2 ^ 31 by decide) ?_
  refine Ev.topI (show xVal xs 2 0 = nI 10 from rfl) ?_
  refine Ev.run 2 (pc' := 32) (lv' := [(3, .int (nI 0)), (2, .int (nI 0)), (0, .int (nI 0)), (1, .int (nI 0))]) (st' := [.int (nI 0)]) (h' := HN g hl (RF rt)) rfl ?_
  refine Ev.ret (v := some (.int (nI 0))) rfl ?_
  exact hq
theorem K_own10 {L : Nat} {xs : Nat → Int32} (d : Nat) (g : Nat → Nat → Nat) (hl : Nat → Nat → Int64) (rt : Nat × Nat × Nat × Nat) {Q : Po} (hq : Q (some (.int (nI 0))) (HN g hl (RF rt))) : Ev L xs (d + 2) 5 0 [(0, .int (nI 1)), (1, .int (nI 0))] [] (HN g hl (RF rt)) Q := by
  refine Ev.run 7 (pc' := 9) (lv' := [(3, .int (nI 0)), (2, .int (nI 1)), (0, .int (nI 1)), (1, .int (nI 0))]) (st' := [.int (Int32.ofNat (xLen L 1)), .int (nI 0)]) (h' := HN g hl (RF rt)) rfl ?_
  refine Ev.topI (show Int32.ofNat (xLen L 1) = nI 7 from rfl) ?_
  refine Ev.run 2 (pc' := 13) (lv' := [(3, .int (nI 0)), (2, .int (nI 1)), (0, .int (nI 1)), (1, .int (nI 0))]) (st' := [.int (nI 1)]) (h' := HN g hl (RF rt)) rfl ?_
  refine Ev.call (a := 120) (as := [.int (nI 1)]) (rest := []) (lv0 := [(0, .int (nI 1))]) (Q1 := (fun z0 h' => z0 = some (.int (nI 1)) ∧ h' = HN g hl (RF rt))) rfl rfl (K_isKind _ _ _ _ 1 (by omega) ⟨rfl, rfl⟩) (fun r h' hr => ?_)
  obtain ⟨rfl, rfl⟩ := hr
  refine Ev.run 7 (pc' := 27) (lv' := [(3, .int (nI 0)), (2, .int (nI 1)), (0, .int (nI 1)), (1, .int (nI 0))]) (st' := [.int (nI 3), .retAddr 2]) (h' := HN g hl (RF rt)) rfl ?_
  refine Ev_xald rfl (by decide) (show 3 < 21 by omega) (show 21 < 2 ^ 31 by decide) ?_
  refine Ev.topI (show xVal xs 2 3 = nI 0 from rfl) ?_
  refine Ev.run 3 (pc' := 37) (lv' := [(3, .int (nI 0)), (2, .int (nI 1)), (0, .int (nI 1)), (1, .int (nI 0))]) (st' := [.int (nI 1), .retAddr 1]) (h' := HN g hl (RF rt)) rfl ?_
  refine Ev_xald rfl (by decide) (show 1 < 7 by omega) (show 7 < 2 ^ 31 by decide) ?_
  refine Ev.topI (show xVal xs 1 1 = nI 0 from rfl) ?_
  refine Ev.run 6 (pc' := 9) (lv' := [(3, .int (nI 1)), (2, .int (nI 0)), (0, .int (nI 1)), (1, .int (nI 0))]) (st' := [.int (Int32.ofNat (xLen L 1)), .int (nI 1)]) (h' := HN g hl (RF rt)) rfl ?_
  refine Ev.topI (show Int32.ofNat (xLen L 1) = nI 7 from rfl) ?_
  refine Ev.run 2 (pc' := 13) (lv' := [(3, .int (nI 1)), (2, .int (nI 0)), (0, .int (nI 1)), (1, .int (nI 0))]) (st' := [.int (nI 0)]) (h' := HN g hl (RF rt)) rfl ?_
  refine Ev.call (a := 120) (as := [.int (nI 0)]) (rest := []) (lv0 := [(0, .int (nI 0))]) (Q1 := (fun z0 h' => z0 = some (.int (nI 1)) ∧ h' = HN g hl (RF rt))) rfl rfl (K_isKind _ _ _ _ 0 (by omega) ⟨rfl, rfl⟩) (fun r h' hr => ?_)
  obtain ⟨rfl, rfl⟩ := hr
  refine Ev.run 7 (pc' := 27) (lv' := [(3, .int (nI 1)), (2, .int (nI 0)), (0, .int (nI 1)), (1, .int (nI 0))]) (st' := [.int (nI 0), .retAddr 2]) (h' := HN g hl (RF rt)) rfl ?_
  refine Ev_xald rfl (by decide) (show 0 < 21 by omega) (show 21 < 2 ^ 31 by decide) ?_
  refine Ev.topI (show xVal xs 2 0 = nI 10 from rfl) ?_
  refine Ev.run 2 (pc' := 32) (lv' := [(3, .int (nI 1)), (2, .int (nI 0)), (0, .int (nI 1)), (1, .int (nI 0))]) (st' := [.int (nI 0)]) (h' := HN g hl (RF rt)) rfl ?_
  refine Ev.ret (v := some (.int (nI 0))) rfl ?_
  exact hq
theorem K_own20 {L : Nat} {xs : Nat → Int32} (d : Nat) (g : Nat → Nat → Nat) (hl : Nat → Nat → Int64) (rt : Nat × Nat × Nat × Nat) {Q : Po} (hq : Q (some (.int (nI 2))) (HN g hl (RF rt))) : Ev L xs (d + 2) 5 0 [(0, .int (nI 2)), (1, .int (nI 0))] [] (HN g hl (RF rt)) Q := by
  refine Ev.run 7 (pc' := 9) (lv' := [(3, .int (nI 0)), (2, .int (nI 2)), (0, .int (nI 2)), (1, .int (nI 0))]) (st' := [.int (Int32.ofNat (xLen L 1)), .int (nI 0)]) (h' := HN g hl (RF rt)) rfl ?_
  refine Ev.topI (show Int32.ofNat (xLen L 1) = nI 7 from rfl) ?_
  refine Ev.run 2 (pc' := 13) (lv' := [(3, .int (nI 0)), (2, .int (nI 2)), (0, .int (nI 2)), (1, .int (nI 0))]) (st' := [.int (nI 2)]) (h' := HN g hl (RF rt)) rfl ?_
  refine Ev.call (a := 120) (as := [.int (nI 2)]) (rest := []) (lv0 := [(0, .int (nI 2))]) (Q1 := (fun z0 h' => z0 = some (.int (nI 1)) ∧ h' = HN g hl (RF rt))) rfl rfl (K_isKind _ _ _ _ 2 (by omega) ⟨rfl, rfl⟩) (fun r h' hr => ?_)
  obtain ⟨rfl, rfl⟩ := hr
  refine Ev.run 7 (pc' := 27) (lv' := [(3, .int (nI 0)), (2, .int (nI 2)), (0, .int (nI 2)), (1, .int (nI 0))]) (st' := [.int (nI 6), .retAddr 2]) (h' := HN g hl (RF rt)) rfl ?_
  refine Ev_xald rfl (by decide) (show 6 < 21 by omega) (show 21 < 2 ^ 31 by decide) ?_
  refine Ev.topI (show xVal xs 2 6 = nI 30 from rfl) ?_
  refine Ev.run 2 (pc' := 32) (lv' := [(3, .int (nI 0)), (2, .int (nI 2)), (0, .int (nI 2)), (1, .int (nI 0))]) (st' := [.int (nI 2)]) (h' := HN g hl (RF rt)) rfl ?_
  refine Ev.ret (v := some (.int (nI 2))) rfl ?_
  exact hq
theorem K_own30 {L : Nat} {xs : Nat → Int32} (d : Nat) (g : Nat → Nat → Nat) (hl : Nat → Nat → Int64) (rt : Nat × Nat × Nat × Nat) {Q : Po} (hq : Q (some (.int (nI 0))) (HN g hl (RF rt))) : Ev L xs (d + 2) 5 0 [(0, .int (nI 3)), (1, .int (nI 0))] [] (HN g hl (RF rt)) Q := by
  refine Ev.run 7 (pc' := 9) (lv' := [(3, .int (nI 0)), (2, .int (nI 3)), (0, .int (nI 3)), (1, .int (nI 0))]) (st' := [.int (Int32.ofNat (xLen L 1)), .int (nI 0)]) (h' := HN g hl (RF rt)) rfl ?_
  refine Ev.topI (show Int32.ofNat (xLen L 1) = nI 7 from rfl) ?_
  refine Ev.run 2 (pc' := 13) (lv' := [(3, .int (nI 0)), (2, .int (nI 3)), (0, .int (nI 3)), (1, .int (nI 0))]) (st' := [.int (nI 3)]) (h' := HN g hl (RF rt)) rfl ?_
  refine Ev.call (a := 120) (as := [.int (nI 3)]) (rest := []) (lv0 := [(0, .int (nI 3))]) (Q1 := (fun z0 h' => z0 = some (.int (nI 1)) ∧ h' = HN g hl (RF rt))) rfl rfl (K_isKind _ _ _ _ 3 (by omega) ⟨rfl, rfl⟩) (fun r h' hr => ?_)
  obtain ⟨rfl, rfl⟩ := hr
  refine Ev.run 7 (pc' := 27) (lv' := [(3, .int (nI 0)), (2, .int (nI 3)), (0, .int (nI 3)), (1, .int (nI 0))]) (st' := [.int (nI 9), .retAddr 2]) (h' := HN g hl (RF rt)) rfl ?_
  refine Ev_xald rfl (by decide) (show 9 < 21 by omega) (show 21 < 2 ^ 31 by decide) ?_
  refine Ev.topI (show xVal xs 2 9 = nI 0 from rfl) ?_
  refine Ev.run 3 (pc' := 37) (lv' := [(3, .int (nI 0)), (2, .int (nI 3)), (0, .int (nI 3)), (1, .int (nI 0))]) (st' := [.int (nI 3), .retAddr 1]) (h' := HN g hl (RF rt)) rfl ?_
  refine Ev_xald rfl (by decide) (show 3 < 7 by omega) (show 7 < 2 ^ 31 by decide) ?_
  refine Ev.topI (show xVal xs 1 3 = nI 0 from rfl) ?_
  refine Ev.run 6 (pc' := 9) (lv' := [(3, .int (nI 1)), (2, .int (nI 0)), (0, .int (nI 3)), (1, .int (nI 0))]) (st' := [.int (Int32.ofNat (xLen L 1)), .int (nI 1)]) (h' := HN g hl (RF rt)) rfl ?_
  refine Ev.topI (show Int32.ofNat (xLen L 1) = nI 7 from rfl) ?_
  refine Ev.run 2 (pc' := 13) (lv' := [(3, .int (nI 1)), (2, .int (nI 0)), (0, .int (nI 3)), (1, .int (nI 0))]) (st' := [.int (nI 0)]) (h' := HN g hl (RF rt)) rfl ?_
  refine Ev.call (a := 120) (as := [.int (nI 0)]) (rest := []) (lv0 := [(0, .int (nI 0))]) (Q1 := (fun z0 h' => z0 = some (.int (nI 1)) ∧ h' = HN g hl (RF rt))) rfl rfl (K_isKind _ _ _ _ 0 (by omega) ⟨rfl, rfl⟩) (fun r h' hr => ?_)
  obtain ⟨rfl, rfl⟩ := hr
  refine Ev.run 7 (pc' := 27) (lv' := [(3, .int (nI 1)), (2, .int (nI 0)), (0, .int (nI 3)), (1, .int (nI 0))]) (st' := [.int (nI 0), .retAddr 2]) (h' := HN g hl (RF rt)) rfl ?_
  refine Ev_xald rfl (by decide) (show 0 < 21 by omega) (show 21 < 2 ^ 31 by decide) ?_
  refine Ev.topI (show xVal xs 2 0 = nI 10 from rfl) ?_
  refine Ev.run 2 (pc' := 32) (lv' := [(3, .int (nI 1)), (2, .int (nI 0)), (0, .int (nI 3)), (1, .int (nI 0))]) (st' := [.int (nI 0)]) (h' := HN g hl (RF rt)) rfl ?_
  refine Ev.ret (v := some (.int (nI 0))) rfl ?_
  exact hq
theorem K_own40 {L : Nat} {xs : Nat → Int32} (d : Nat) (g : Nat → Nat → Nat) (hl : Nat → Nat → Int64) (rt : Nat × Nat × Nat × Nat) {Q : Po} (hq : Q (some (.int (nI 4))) (HN g hl (RF rt))) : Ev L xs (d + 2) 5 0 [(0, .int (nI 4)), (1, .int (nI 0))] [] (HN g hl (RF rt)) Q := by
  refine Ev.run 7 (pc' := 9) (lv' := [(3, .int (nI 0)), (2, .int (nI 4)), (0, .int (nI 4)), (1, .int (nI 0))]) (st' := [.int (Int32.ofNat (xLen L 1)), .int (nI 0)]) (h' := HN g hl (RF rt)) rfl ?_
  refine Ev.topI (show Int32.ofNat (xLen L 1) = nI 7 from rfl) ?_
  refine Ev.run 2 (pc' := 13) (lv' := [(3, .int (nI 0)), (2, .int (nI 4)), (0, .int (nI 4)), (1, .int (nI 0))]) (st' := [.int (nI 4)]) (h' := HN g hl (RF rt)) rfl ?_
  refine Ev.call (a := 120) (as := [.int (nI 4)]) (rest := []) (lv0 := [(0, .int (nI 4))]) (Q1 := (fun z0 h' => z0 = some (.int (nI 1)) ∧ h' = HN g hl (RF rt))) rfl rfl (K_isKind _ _ _ _ 4 (by omega) ⟨rfl, rfl⟩) (fun r h' hr => ?_)
  obtain ⟨rfl, rfl⟩ := hr
  refine Ev.run 7 (pc' := 27) (lv' := [(3, .int (nI 0)), (2, .int (nI 4)), (0, .int (nI 4)), (1, .int (nI 0))]) (st' := [.int (nI 12), .retAddr 2]) (h' := HN g hl (RF rt)) rfl ?_
  refine Ev_xald rfl (by decide) (show 12 < 21 by omega) (show 21 < 2 ^ 31 by decide) ?_
  refine Ev.topI (show xVal xs 2 12 = nI 50 from rfl) ?_
  refine Ev.run 2 (pc' := 32) (lv' := [(3, .int (nI 0)), (2, .int (nI 4)), (0, .int (nI 4)), (1, .int (nI 0))]) (st' := [.int (nI 4)]) (h' := HN g hl (RF rt)) rfl ?_
  refine Ev.ret (v := some (.int (nI 4))) rfl ?_
  exact hq
theorem K_own50 {L : Nat} {xs : Nat → Int32} (d : Nat) (g : Nat → Nat → Nat) (hl : Nat → Nat → Int64) (rt : Nat × Nat × Nat × Nat) {Q : Po} (hq : Q (some (.int (nI 2))) (HN g hl (RF rt))) : Ev L xs (d + 2) 5 0 [(0, .int (nI 5)), (1, .int (nI 0))] [] (HN g hl (RF rt)) Q := by
  refine Ev.run 7 (pc' := 9) (lv' := [(3, .int (nI 0)), (2, .int (nI 5)), (0, .int (nI 5)), (1, .int (nI 0))]) (st' := [.int (Int32.ofNat (xLen L 1)), .int (nI 0)]) (h' := HN g hl (RF rt)) rfl ?_
  refine Ev.topI (show Int32.ofNat (xLen L 1) = nI 7 from rfl) ?_
  refine Ev.run 2 (pc' := 13) (lv' := [(3, .int (nI 0)), (2, .int (nI 5)), (0, .int (nI 5)), (1, .int (nI 0))]) (st' := [.int (nI 5)]) (h' := HN g hl (RF rt)) rfl ?_
  refine Ev.call (a := 120) (as := [.int (nI 5)]) (rest := []) (lv0 := [(0, .int (nI 5))]) (Q1 := (fun z0 h' => z0 = some (.int (nI 1)) ∧ h' = HN g hl (RF rt))) rfl rfl (K_isKind _ _ _ _ 5 (by omega) ⟨rfl, rfl⟩) (fun r h' hr => ?_)
  obtain ⟨rfl, rfl⟩ := hr
  refine Ev.run 7 (pc' := 27) (lv' := [(3, .int (nI 0)), (2, .int (nI 5)), (0, .int (nI 5)), (1, .int (nI 0))]) (st' := [.int (nI 15), .retAddr 2]) (h' := HN g hl (RF rt)) rfl ?_
  refine Ev_xald rfl (by decide) (show 15 < 21 by omega) (show 21 < 2 ^ 31 by decide) ?_
  refine Ev.topI (show xVal xs 2 15 = nI 0 from rfl) ?_
  refine Ev.run 3 (pc' := 37) (lv' := [(3, .int (nI 0)), (2, .int (nI 5)), (0, .int (nI 5)), (1, .int (nI 0))]) (st' := [.int (nI 5), .retAddr 1]) (h' := HN g hl (RF rt)) rfl ?_
  refine Ev_xald rfl (by decide) (show 5 < 7 by omega) (show 7 < 2 ^ 31 by decide) ?_
  refine Ev.topI (show xVal xs 1 5 = nI 2 from rfl) ?_
  refine Ev.run 6 (pc' := 9) (lv' := [(3, .int (nI 1)), (2, .int (nI 2)), (0, .int (nI 5)), (1, .int (nI 0))]) (st' := [.int (Int32.ofNat (xLen L 1)), .int (nI 1)]) (h' := HN g hl (RF rt)) rfl ?_
  refine Ev.topI (show Int32.ofNat (xLen L 1) = nI 7 from rfl) ?_
  refine Ev.run 2 (pc' := 13) (lv' := [(3, .int (nI 1)), (2, .int (nI 2)), (0, .int (nI 5)), (1, .int (nI 0))]) (st' := [.int (nI 2)]) (h' := HN g hl (RF rt)) rfl ?_
  refine Ev.call (a := 120) (as := [.int (nI 2)]) (rest := []) (lv0 := [(0, .int (nI 2))]) (Q1 := (fun z0 h' => z0 = some (.int (nI 1)) ∧ h' = HN g hl (RF rt))) rfl rfl (K_isKind _ _ _ _ 2 (by omega) ⟨rfl, rfl⟩) (fun r h' hr => ?_)
  obtain ⟨rfl, rfl⟩ := hr
  refine Ev.run 7 (pc' := 27) (lv' := [(3, .int (nI 1)), (2, .int (nI 2)), (0, .int (nI 5)), (1, .int (nI 0))]) (st' := [.int (nI 6), .retAddr 2]) (h' := HN g hl (RF rt)) rfl ?_
  refine Ev_xald rfl (by decide) (show 6 < 21 by omega) (show 21 < 2 ^ 31 by decide) ?_
  refine Ev.topI (show xVal xs 2 6 = nI 30 from rfl) ?_
  refine Ev.run 2 (pc' := 32) (lv' := [(3, .int (nI 1)), (2, .int (nI 2)), (0, .int (nI 5)), (1, .int (nI 0))]) (st' := [.int (nI 2)]) (h' := HN g hl (RF rt)) rfl ?_
  refine Ev.ret (v := some (.int (nI 2))) rfl ?_
  exact hq
theorem K_own60 {L : Nat} {xs : Nat → Int32} (d : Nat) (g : Nat → Nat → Nat) (hl : Nat → Nat → Int64) (rt : Nat × Nat × Nat × Nat) {Q : Po} (hq : Q (some (.int (nI 6))) (HN g hl (RF rt))) : Ev L xs (d + 2) 5 0 [(0, .int (nI 6)), (1, .int (nI 0))] [] (HN g hl (RF rt)) Q := by
  refine Ev.run 7 (pc' := 9) (lv' := [(3, .int (nI 0)), (2, .int (nI 6)), (0, .int (nI 6)), (1, .int (nI 0))]) (st' := [.int (Int32.ofNat (xLen L 1)), .int (nI 0)]) (h' := HN g hl (RF rt)) rfl ?_
  refine Ev.topI (show Int32.ofNat (xLen L 1) = nI 7 from rfl) ?_
  refine Ev.run 2 (pc' := 13) (lv' := [(3, .int (nI 0)), (2, .int (nI 6)), (0, .int (nI 6)), (1, .int (nI 0))]) (st' := [.int (nI 6)]) (h' := HN g hl (RF rt)) rfl ?_
  refine Ev.call (a := 120) (as := [.int (nI 6)]) (rest := []) (lv0 := [(0, .int (nI 6))]) (Q1 := (fun z0 h' => z0 = some (.int (nI 1)) ∧ h' = HN g hl (RF rt))) rfl rfl (K_isKind _ _ _ _ 6 (by omega) ⟨rfl, rfl⟩) (fun r h' hr => ?_)
  obtain ⟨rfl, rfl⟩ := hr
  refine Ev.run 7 (pc' := 27) (lv' := [(3, .int (nI 0)), (2, .int (nI 6)), (0, .int (nI 6)), (1, .int (nI 0))]) (st' := [.int (nI 18), .retAddr 2]) (h' := HN g hl (RF rt)) rfl ?_
  refine Ev_xald rfl (by decide) (show 18 < 21 by omega) (show 21 < 2 ^ 31 by decide) ?_
  refine Ev.topI (show xVal xs 2 18 = nI 71 from rfl) ?_
  refine Ev.run 2 (pc' := 32) (lv' := [(3, .int (nI 0)), (2, .int (nI 6)), (0, .int (nI 6)), (1, .int (nI 0))]) (st' := [.int (nI 6)]) (h' := HN g hl (RF rt)) rfl ?_
  refine Ev.ret (v := some (.int (nI 6))) rfl ?_
  exact hq
theorem K_own01 {L : Nat} {xs : Nat → Int32} (d : Nat) (g : Nat → Nat → Nat) (hl : Nat → Nat → Int64) (rt : Nat × Nat × Nat × Nat) {Q : Po} (hq : Q (some (.int (nI 0))) (HN g hl (RF rt))) : Ev L xs (d + 2) 5 0 [(0, .int (nI 0)), (1, .int (nI 1))] [] (HN g hl (RF rt)) Q := by
  refine Ev.run 7 (pc' := 9) (lv' := [(3, .int (nI 0)), (2, .int (nI 0)), (0, .int (nI 0)), (1, .int (nI 1))]) (st' := [.int (Int32.ofNat (xLen L 1)), .int (nI 0)]) (h' := HN g hl (RF rt)) rfl ?_
  refine Ev.topI (show Int32.ofNat (xLen L 1) = nI 7 from rfl) ?_
  refine Ev.run 2 (pc' := 13) (lv' := [(3, .int (nI 0)), (2, .int (nI 0)), (0, .int (nI 0)), (1, .int (nI 1))]) (st' := [.int (nI 0)]) (h' := HN g hl (RF rt)) rfl ?_
  refine Ev.call (a := 120) (as := [.int (nI 0)]) (rest := []) (lv0 := [(0, .int (nI 0))]) (Q1 := (fun z0 h' => z0 = some (.int (nI 1)) ∧ h' = HN g hl (RF rt))) rfl rfl (K_isKind _ _ _ _ 0 (by omega) ⟨rfl, rfl⟩) (fun r h' hr => ?_)
  obtain ⟨rfl, rfl⟩ := hr
  refine Ev.run 7 (pc' := 27) (lv' := [(3, .int (nI 0)), (2, .int (nI 0)), (0, .int (nI 0)), (1, .int (nI 1))]) (st' := [.int (nI 1), .retAddr 2]) (h' := HN g hl (RF rt)) rfl ?_
  refine Ev_xald rfl (by decide) (show 1 < 21 by omega) (show 21 < 2 ^ 31 by decide) ?_
  refine Ev.topI (show xVal xs 2 1 = nI 11 from rfl) ?_
  refine Ev.run 2 (pc' := 32) (lv' := [(3, .int (nI 0)), (2, .int (nI 0)), (0, .int (nI 0)), (1, .int (nI 1))]) (st' := [.int (nI 0)]) (h' := HN g hl (RF rt)) rfl ?_
  refine Ev.ret (v := some (.int (nI 0))) rfl ?_
  exact hq
theorem K_own11 {L : Nat} {xs : Nat → Int32} (d : Nat) (g : Nat → Nat → Nat) (hl : Nat → Nat → Int64) (rt : Nat × Nat × Nat × Nat) {Q : Po} (hq : Q (some (.int (nI 1))) (HN g hl (RF rt))) : Ev L xs (d + 2) 5 0 [(0, .int (nI 1)), (1, .int (nI 1))] [] (HN g hl (RF rt)) Q := by
  refine Ev.run 7 (pc' := 9) (lv' := [(3, .int (nI 0)), (2, .int (nI 1)), (0, .int (nI 1)), (1, .int (nI 1))]) (st' := [.int (Int32.ofNat (xLen L 1)), .int (nI 0)]) (h' := HN g hl (RF rt)) rfl ?_
  refine Ev.topI (show Int32.ofNat (xLen L 1) = nI 7 from rfl) ?_
  refine Ev.run 2 (pc' := 13) (lv' := [(3, .int (nI 0)), (2, .int (nI 1)), (0, .int (nI 1)), (1, .int (nI 1))]) (st' := [.int (nI 1)]) (h' := HN g hl (RF rt)) rfl ?_
  refine Ev.call (a := 120) (as := [.int (nI 1)]) (rest := []) (lv0 := [(0, .int (nI 1))]) (Q1 := (fun z0 h' => z0 = some (.int (nI 1)) ∧ h' = HN g hl (RF rt))) rfl rfl (K_isKind _ _ _ _ 1 (by omega) ⟨rfl, rfl⟩) (fun r h' hr => ?_)
  obtain ⟨rfl, rfl⟩ := hr
  refine Ev.run 7 (pc' := 27) (lv' := [(3, .int (nI 0)), (2, .int (nI 1)), (0, .int (nI 1)), (1, .int (nI 1))]) (st' := [.int (nI 4), .retAddr 2]) (h' := HN g hl (RF rt)) rfl ?_
  refine Ev_xald rfl (by decide) (show 4 < 21 by omega) (show 21 < 2 ^ 31 by decide) ?_
  refine Ev.topI (show xVal xs 2 4 = nI 20 from rfl) ?_
  refine Ev.run 2 (pc' := 32) (lv' := [(3, .int (nI 0)), (2, .int (nI 1)), (0, .int (nI 1)), (1, .int (nI 1))]) (st' := [.int (nI 1)]) (h' := HN g hl (RF rt)) rfl ?_
  refine Ev.ret (v := some (.int (nI 1))) rfl ?_
  exact hq
theorem K_own21 {L : Nat} {xs : Nat → Int32} (d : Nat) (g : Nat → Nat → Nat) (hl : Nat → Nat → Int64) (rt : Nat × Nat × Nat × Nat) {Q : Po} (hq : Q (some (.int (nI 0))) (HN g hl (RF rt))) : Ev L xs (d + 2) 5 0 [(0, .int (nI 2)), (1, .int (nI 1))] [] (HN g hl (RF rt)) Q := by
  refine Ev.run 7 (pc' := 9) (lv' := [(3, .int (nI 0)), (2, .int (nI 2)), (0, .int (nI 2)), (1, .int (nI 1))]) (st' := [.int (Int32.ofNat (xLen L 1)), .int (nI 0)]) (h' := HN g hl (RF rt)) rfl ?_
  refine Ev.topI (show Int32.ofNat (xLen L 1) = nI 7 from rfl) ?_
  refine Ev.run 2 (pc' := 13) (lv' := [(3, .int (nI 0)), (2, .int (nI 2)), (0, .int (nI 2)), (1, .int (nI 1))]) (st' := [.int (nI 2)]) (h' := HN g hl (RF rt)) rfl ?_
  refine Ev.call (a := 120) (as := [.int (nI 2)]) (rest := []) (lv0 := [(0, .int (nI 2))]) (Q1 := (fun z0 h' => z0 = some (.int (nI 1)) ∧ h' = HN g hl (RF rt))) rfl rfl (K_isKind _ _ _ _ 2 (by omega) ⟨rfl, rfl⟩) (fun r h' hr => ?_)
  obtain ⟨rfl, rfl⟩ := hr
  refine Ev.run 7 (pc' := 27) (lv' := [(3, .int (nI 0)), (2, .int (nI 2)), (0, .int (nI 2)), (1, .int (nI 1))]) (st' := [.int (nI 7), .retAddr 2]) (h' := HN g hl (RF rt)) rfl ?_
  refine Ev_xald rfl (by decide) (show 7 < 21 by omega) (show 21 < 2 ^ 31 by decide) ?_
  refine Ev.topI (show xVal xs 2 7 = nI 0 from rfl) ?_
  refine Ev.run 3 (pc' := 37) (lv' := [(3, .int (nI 0)), (2, .int (nI 2)), (0, .int (nI 2)), (1, .int (nI 1))]) (st' := [.int (nI 2), .retAddr 1]) (h' := HN g hl (RF rt)) rfl ?_
  refine Ev_xald rfl (by decide) (show 2 < 7 by omega) (show 7 < 2 ^ 31 by decide) ?_
  refine Ev.topI (show xVal xs 1 2 = nI 0 from rfl) ?_
  refine Ev.run 6 (pc' := 9) (lv' := [(3, .int (nI 1)), (2, .int (nI 0)), (0, .int (nI 2)), (1, .int (nI 1))]) (st' := [.int (Int32.ofNat (xLen L 1)), .int (nI 1)]) (h' := HN g hl (RF rt)) rfl ?_
  refine Ev.topI (show Int32.ofNat (xLen L 1) = nI 7 from rfl) ?_
  refine Ev.run 2 (pc' := 13) (lv' := [(3, .int (nI 1)), (2, .int (nI 0)), (0, .int (nI 2)), (1, .int (nI 1))]) (st' := [.int (nI 0)]) (h' := HN g hl (RF rt)) rfl ?_
  refine Ev.call (a := 120) (as := [.int (nI 0)]) (rest := []) (lv0 := [(0, .int (nI 0))]) (Q1 := (fun z0 h' => z0 = some (.int (nI 1)) ∧ h' = HN g hl (RF rt))) rfl rfl (K_isKind _ _ _ _ 0 (by omega) ⟨rfl, rfl⟩) (fun r h' hr => ?_)
  obtain ⟨rfl, rfl⟩ := hr
  refine Ev.run 7 (pc' := 27) (lv' := [(3, .int (nI 1)), (2, .int (nI 0)), (0, .int (nI 2)), (1, .int (nI 1))]) (st' := [.int (nI 1), .retAddr 2]) (h' := HN g hl (RF rt)) rfl ?_
  refine Ev_xald rfl (by decide) (show 1 < 21 by omega) (show 21 < 2 ^ 31 by decide) ?_
  refine Ev.topI (show xVal xs 2 1 = nI 11 from rfl) ?_
  refine Ev.run 2 (pc' := 32) (lv' := [(3, .int (nI 1)), (2, .int (nI 0)), (0, .int (nI 2)), (1, .int (nI 1))]) (st' := [.int (nI 0)]) (h' := HN g hl (RF rt)) rfl ?_
  refine Ev.ret (v := some (.int (nI 0))) rfl ?_
  exact hq
theorem K_own31 {L : Nat} {xs : Nat → Int32} (d : Nat) (g : Nat → Nat → Nat) (hl : Nat → Nat → Int64) (rt : Nat × Nat × Nat × Nat) {Q : Po} (hq : Q (some (.int (nI 0))) (HN g hl (RF rt))) : Ev L xs (d + 2) 5 0 [(0, .int (nI 3)), (1, .int (nI 1))] [] (HN g hl (RF rt)) Q := by
  refine Ev.run 7 (pc' := 9) (lv' := [(3, .int (nI 0)), (2, .int (nI 3)), (0, .int (nI 3)), (1, .int (nI 1))]) (st' := [.int (Int32.ofNat (xLen L 1)), .int (nI 0)]) (h' := HN g hl (RF rt)) rfl ?_
  refine Ev.topI (show Int32.ofNat (xLen L 1) = nI 7 from rfl) ?_
  refine Ev.run 2 (pc' := 13) (lv' := [(3, .int (nI 0)), (2, .int (nI 3)), (0, .int (nI 3)), (1, .int (nI 1))]) (st' := [.int (nI 3)]) (h' := HN g hl (RF rt)) rfl ?_
  refine Ev.call (a := 120) (as := [.int (nI 3)]) (rest := []) (lv0 := [(0, .int (nI 3))]) (Q1 := (fun z0 h' => z0 = some (.int (nI 1)) ∧ h' = HN g hl (RF rt))) rfl rfl (K_isKind _ _ _ _ 3 (by omega) ⟨rfl, rfl⟩) (fun r h' hr => ?_)
  obtain ⟨rfl, rfl⟩ := hr
  refine Ev.run 7 (pc' := 27) (lv' := [(3, .int (nI 0)), (2, .int (nI 3)), (0, .int (nI 3)), (1, .int (nI 1))]) (st' := [.int (nI 10), .retAddr 2]) (h' := HN g hl (RF rt)) rfl ?_
  refine Ev_xald rfl (by decide) (show 10 < 21 by omega) (show 21 < 2 ^ 31 by decide) ?_
  refine Ev.topI (show xVal xs 2 10 = nI 0 from rfl) ?_
  refine Ev.run 3 (pc' := 37) (lv' := [(3, .int (nI 0)), (2, .int (nI 3)), (0, .int (nI 3)), (1, .int (nI 1))]) (st' := [.int (nI 3), .retAddr 1]) (h' := HN g hl (RF rt)) rfl ?_
  refine Ev_xald rfl (by decide) (show 3 < 7 by omega) (show 7 < 2 ^ 31 by decide) ?_
  refine Ev.topI (show xVal xs 1 3 = nI 0 from rfl) ?_
  refine Ev.run 6 (pc' := 9) (lv' := [(3, .int (nI 1)), (2, .int (nI 0)), (0, .int (nI 3)), (1, .int (nI 1))]) (st' := [.int (Int32.ofNat (xLen L 1)), .int (nI 1)]) (h' := HN g hl (RF rt)) rfl ?_
  refine Ev.topI (show Int32.ofNat (xLen L 1) = nI 7 from rfl) ?_
  refine Ev.run 2 (pc' := 13) (lv' := [(3, .int (nI 1)), (2, .int (nI 0)), (0, .int (nI 3)), (1, .int (nI 1))]) (st' := [.int (nI 0)]) (h' := HN g hl (RF rt)) rfl ?_
  refine Ev.call (a := 120) (as := [.int (nI 0)]) (rest := []) (lv0 := [(0, .int (nI 0))]) (Q1 := (fun z0 h' => z0 = some (.int (nI 1)) ∧ h' = HN g hl (RF rt))) rfl rfl (K_isKind _ _ _ _ 0 (by omega) ⟨rfl, rfl⟩) (fun r h' hr => ?_)
  obtain ⟨rfl, rfl⟩ := hr
  refine Ev.run 7 (pc' := 27) (lv' := [(3, .int (nI 1)), (2, .int (nI 0)), (0, .int (nI 3)), (1, .int (nI 1))]) (st' := [.int (nI 1), .retAddr 2]) (h' := HN g hl (RF rt)) rfl ?_
  refine Ev_xald rfl (by decide) (show 1 < 21 by omega) (show 21 < 2 ^ 31 by decide) ?_
  refine Ev.topI (show xVal xs 2 1 = nI 11 from rfl) ?_
  refine Ev.run 2 (pc' := 32) (lv' := [(3, .int (nI 1)), (2, .int (nI 0)), (0, .int (nI 3)), (1, .int (nI 1))]) (st' := [.int (nI 0)]) (h' := HN g hl (RF rt)) rfl ?_
  refine Ev.ret (v := some (.int (nI 0))) rfl ?_
  exact hq
theorem K_own41 {L : Nat} {xs : Nat → Int32} (d : Nat) (g : Nat → Nat → Nat) (hl : Nat → Nat → Int64) (rt : Nat × Nat × Nat × Nat) {Q : Po} (hq : Q (some (.int (nI 4))) (HN g hl (RF rt))) : Ev L xs (d + 2) 5 0 [(0, .int (nI 4)), (1, .int (nI 1))] [] (HN g hl (RF rt)) Q := by
  refine Ev.run 7 (pc' := 9) (lv' := [(3, .int (nI 0)), (2, .int (nI 4)), (0, .int (nI 4)), (1, .int (nI 1))]) (st' := [.int (Int32.ofNat (xLen L 1)), .int (nI 0)]) (h' := HN g hl (RF rt)) rfl ?_
  refine Ev.topI (show Int32.ofNat (xLen L 1) = nI 7 from rfl) ?_
  refine Ev.run 2 (pc' := 13) (lv' := [(3, .int (nI 0)), (2, .int (nI 4)), (0, .int (nI 4)), (1, .int (nI 1))]) (st' := [.int (nI 4)]) (h' := HN g hl (RF rt)) rfl ?_
  refine Ev.call (a := 120) (as := [.int (nI 4)]) (rest := []) (lv0 := [(0, .int (nI 4))]) (Q1 := (fun z0 h' => z0 = some (.int (nI 1)) ∧ h' = HN g hl (RF rt))) rfl rfl (K_isKind _ _ _ _ 4 (by omega) ⟨rfl, rfl⟩) (fun r h' hr => ?_)
  obtain ⟨rfl, rfl⟩ := hr
  refine Ev.run 7 (pc' := 27) (lv' := [(3, .int (nI 0)), (2, .int (nI 4)), (0, .int (nI 4)), (1, .int (nI 1))]) (st' := [.int (nI 13), .retAddr 2]) (h' := HN g hl (RF rt)) rfl ?_
  refine Ev_xald rfl (by decide) (show 13 < 21 by omega) (show 21 < 2 ^ 31 by decide) ?_
  refine Ev.topI (show xVal xs 2 13 = nI 51 from rfl) ?_
  refine Ev.run 2 (pc' := 32) (lv' := [(3, .int (nI 0)), (2, .int (nI 4)), (0, .int (nI 4)), (1, .int (nI 1))]) (st' := [.int (nI 4)]) (h' := HN g hl (RF rt)) rfl ?_
  refine Ev.ret (v := some (.int (nI 4))) rfl ?_
  exact hq
theorem K_own51 {L : Nat} {xs : Nat → Int32} (d : Nat) (g : Nat → Nat → Nat) (hl : Nat → Nat → Int64) (rt : Nat × Nat × Nat × Nat) {Q : Po} (hq : Q (some (.int (nI 0))) (HN g hl (RF rt))) : Ev L xs (d + 2) 5 0 [(0, .int (nI 5)), (1, .int (nI 1))] [] (HN g hl (RF rt)) Q := by
  refine Ev.run 7 (pc' := 9) (lv' := [(3, .int (nI 0)), (2, .int (nI 5)), (0, .int (nI 5)), (1, .int (nI 1))]) (st' := [.int (Int32.ofNat (xLen L 1)), .int (nI 0)]) (h' := HN g hl (RF rt)) rfl ?_
  refine Ev.topI (show Int32.ofNat (xLen L 1) = nI 7 from rfl) ?_
  refine Ev.run 2 (pc' := 13) (lv' := [(3, .int (nI 0)), (2, .int (nI 5)), (0, .int (nI 5)), (1, .int (nI 1))]) (st' := [.int (nI 5)]) (h' := HN g hl (RF rt)) rfl ?_
  refine Ev.call (a := 120) (as := [.int (nI 5)]) (rest := []) (lv0 := [(0, .int (nI 5))]) (Q1 := (fun z0 h' => z0 = some (.int (nI 1)) ∧ h' = HN g hl (RF rt))) rfl rfl (K_isKind _ _ _ _ 5 (by omega) ⟨rfl, rfl⟩) (fun r h' hr => ?_)
  obtain ⟨rfl, rfl⟩ := hr
  refine Ev.run 7 (pc' := 27) (lv' := [(3, .int (nI 0)), (2, .int (nI 5)), (0, .int (nI 5)), (1, .int (nI 1))]) (st' := [.int (nI 16), .retAddr 2]) (h' := HN g hl (RF rt)) rfl ?_
  refine Ev_xald rfl (by decide) (show 16 < 21 by omega) (show 21 < 2 ^ 31 by decide) ?_
  refine Ev.topI (show xVal xs 2 16 = nI 0 from rfl) ?_
  refine Ev.run 3 (pc' := 37) (lv' := [(3, .int (nI 0)), (2, .int (nI 5)), (0, .int (nI 5)), (1, .int (nI 1))]) (st' := [.int (nI 5), .retAddr 1]) (h' := HN g hl (RF rt)) rfl ?_
  refine Ev_xald rfl (by decide) (show 5 < 7 by omega) (show 7 < 2 ^ 31 by decide) ?_
  refine Ev.topI (show xVal xs 1 5 = nI 2 from rfl) ?_
  refine Ev.run 6 (pc' := 9) (lv' := [(3, .int (nI 1)), (2, .int (nI 2)), (0, .int (nI 5)), (1, .int (nI 1))]) (st' := [.int (Int32.ofNat (xLen L 1)), .int (nI 1)]) (h' := HN g hl (RF rt)) rfl ?_
  refine Ev.topI (show Int32.ofNat (xLen L 1) = nI 7 from rfl) ?_
  refine Ev.run 2 (pc' := 13) (lv' := [(3, .int (nI 1)), (2, .int (nI 2)), (0, .int (nI 5)), (1, .int (nI 1))]) (st' := [.int (nI 2)]) (h' := HN g hl (RF rt)) rfl ?_
  refine Ev.call (a := 120) (as := [.int (nI 2)]) (rest := []) (lv0 := [(0, .int (nI 2))]) (Q1 := (fun z0 h' => z0 = some (.int (nI 1)) ∧ h' = HN g hl (RF rt))) rfl rfl (K_isKind _ _ _ _ 2 (by omega) ⟨rfl, rfl⟩) (fun r h' hr => ?_)
  obtain ⟨rfl, rfl⟩ := hr
  refine Ev.run 7 (pc' := 27) (lv' := [(3, .int (nI 1)), (2, .int (nI 2)), (0, .int (nI 5)), (1, .int (nI 1))]) (st' := [.int (nI 7), .retAddr 2]) (h' := HN g hl (RF rt)) rfl ?_
  refine Ev_xald rfl (by decide) (show 7 < 21 by omega) (show 21 < 2 ^ 31 by decide) ?_
  refine Ev.topI (show xVal xs 2 7 = nI 0 from rfl) ?_
  refine Ev.run 3 (pc' := 37) (lv' := [(3, .int (nI 1)), (2, .int (nI 2)), (0, .int (nI 5)), (1, .int (nI 1))]) (st' := [.int (nI 2), .retAddr 1]) (h' := HN g hl (RF rt)) rfl ?_
  refine Ev_xald rfl (by decide) (show 2 < 7 by omega) (show 7 < 2 ^ 31 by decide) ?_
  refine Ev.topI (show xVal xs 1 2 = nI 0 from rfl) ?_
  refine Ev.run 6 (pc' := 9) (lv' := [(3, .int (nI 2)), (2, .int (nI 0)), (0, .int (nI 5)), (1, .int (nI 1))]) (st' := [.int (Int32.ofNat (xLen L 1)), .int (nI 2)]) (h' := HN g hl (RF rt)) rfl ?_
  refine Ev.topI (show Int32.ofNat (xLen L 1) = nI 7 from rfl) ?_
  refine Ev.run 2 (pc' := 13) (lv' := [(3, .int (nI 2)), (2, .int (nI 0)), (0, .int (nI 5)), (1, .int (nI 1))]) (st' := [.int (nI 0)]) (h' := HN g hl (RF rt)) rfl ?_
  refine Ev.call (a := 120) (as := [.int (nI 0)]) (rest := []) (lv0 := [(0, .int (nI 0))]) (Q1 := (fun z0 h' => z0 = some (.int (nI 1)) ∧ h' = HN g hl (RF rt))) rfl rfl (K_isKind _ _ _ _ 0 (by omega) ⟨rfl, rfl⟩) (fun r h' hr => ?_)
  obtain ⟨rfl, rfl⟩ := hr
  refine Ev.run 7 (pc' := 27) (lv' := [(3, .int (nI 2)), (2, .int (nI 0)), (0, .int (nI 5)), (1, .int (nI 1))]) (st' := [.int (nI 1), .retAddr 2]) (h' := HN g hl (RF rt)) rfl ?_
  refine Ev_xald rfl (by decide) (show 1 < 21 by omega) (show 21 < 2 ^ 31 by decide) ?_
  refine Ev.topI (show xVal xs 2 1 = nI 11 from rfl) ?_
  refine Ev.run 2 (pc' := 32) (lv' := [(3, .int (nI 2)), (2, .int (nI 0)), (0, .int (nI 5)), (1, .int (nI 1))]) (st' := [.int (nI 0)]) (h' := HN g hl (RF rt)) rfl ?_
  refine Ev.ret (v := some (.int (nI 0))) rfl ?_
  exact hq
theorem K_own61 {L : Nat} {xs : Nat → Int32} (d : Nat) (g : Nat → Nat → Nat) (hl : Nat → Nat → Int64) (rt : Nat × Nat × Nat × Nat) {Q : Po} (hq : Q (some (.int (nI 6))) (HN g hl (RF rt))) : Ev L xs (d + 2) 5 0 [(0, .int (nI 6)), (1, .int (nI 1))] [] (HN g hl (RF rt)) Q := by
  refine Ev.run 7 (pc' := 9) (lv' := [(3, .int (nI 0)), (2, .int (nI 6)), (0, .int (nI 6)), (1, .int (nI 1))]) (st' := [.int (Int32.ofNat (xLen L 1)), .int (nI 0)]) (h' := HN g hl (RF rt)) rfl ?_
  refine Ev.topI (show Int32.ofNat (xLen L 1) = nI 7 from rfl) ?_
  refine Ev.run 2 (pc' := 13) (lv' := [(3, .int (nI 0)), (2, .int (nI 6)), (0, .int (nI 6)), (1, .int (nI 1))]) (st' := [.int (nI 6)]) (h' := HN g hl (RF rt)) rfl ?_
  refine Ev.call (a := 120) (as := [.int (nI 6)]) (rest := []) (lv0 := [(0, .int (nI 6))]) (Q1 := (fun z0 h' => z0 = some (.int (nI 1)) ∧ h' = HN g hl (RF rt))) rfl rfl (K_isKind _ _ _ _ 6 (by omega) ⟨rfl, rfl⟩) (fun r h' hr => ?_)
  obtain ⟨rfl, rfl⟩ := hr
  refine Ev.run 7 (pc' := 27) (lv' := [(3, .int (nI 0)), (2, .int (nI 6)), (0, .int (nI 6)), (1, .int (nI 1))]) (st' := [.int (nI 19), .retAddr 2]) (h' := HN g hl (RF rt)) rfl ?_
  refine Ev_xald rfl (by decide) (show 19 < 21 by omega) (show 21 < 2 ^ 31 by decide) ?_
  refine Ev.topI (show xVal xs 2 19 = nI 70 from rfl) ?_
  refine Ev.run 2 (pc' := 32) (lv' := [(3, .int (nI 0)), (2, .int (nI 6)), (0, .int (nI 6)), (1, .int (nI 1))]) (st' := [.int (nI 6)]) (h' := HN g hl (RF rt)) rfl ?_
  refine Ev.ret (v := some (.int (nI 6))) rfl ?_
  exact hq
theorem K_own02 {L : Nat} {xs : Nat → Int32} (d : Nat) (g : Nat → Nat → Nat) (hl : Nat → Nat → Int64) (rt : Nat × Nat × Nat × Nat) {Q : Po} (hq : Q (some (.int (nI 0))) (HN g hl (RF rt))) : Ev L xs (d + 2) 5 0 [(0, .int (nI 0)), (1, .int (nI 2))] [] (HN g hl (RF rt)) Q := by
  refine Ev.run 7 (pc' := 9) (lv' := [(3, .int (nI 0)), (2, .int (nI 0)), (0, .int (nI 0)), (1, .int (nI 2))]) (st' := [.int (Int32.ofNat (xLen L 1)), .int (nI 0)]) (h' := HN g hl (RF rt)) rfl ?_
  refine Ev.topI (show Int32.ofNat (xLen L 1) = nI 7 from rfl) ?_
  refine Ev.run 2 (pc' := 13) (lv' := [(3, .int (nI 0)), (2, .int (nI 0)), (0, .int (nI 0)), (1, .int (nI 2))]) (st' := [.int (nI 0)]) (h' := HN g hl (RF rt)) rfl ?_
  refine Ev.call (a := 120) (as := [.int (nI 0)]) (rest := []) (lv0 := [(0, .int (nI 0))]) (Q1 := (fun z0 h' => z0 = some (.int (nI 1)) ∧ h' = HN g hl (RF rt))) rfl rfl (K_isKind _ _ _ _ 0 (by omega) ⟨rfl, rfl⟩) (fun r h' hr => ?_)
  obtain ⟨rfl, rfl⟩ := hr
  refine Ev.run 7 (pc' := 27) (lv' := [(3, .int (nI 0)), (2, .int (nI 0)), (0, .int (nI 0)), (1, .int (nI 2))]) (st' := [.int (nI 2), .retAddr 2]) (h' := HN g hl (RF rt)) rfl ?_
  refine Ev_xald rfl (by decide) (show 2 < 21 by omega) (show 21 < 2 ^ 31 by decide) ?_
  refine Ev.topI (show xVal xs 2 2 = nI 12 from rfl) ?_
  refine Ev.run 2 (pc' := 32) (lv' := [(3, .int (nI 0)), (2, .int (nI 0)), (0, .int (nI 0)), (1, .int (nI 2))]) (st' := [.int (nI 0)]) (h' := HN g hl (RF rt)) rfl ?_
  refine Ev.ret (v := some (.int (nI 0))) rfl ?_
  exact hq
theorem K_own12 {L : Nat} {xs : Nat → Int32} (d : Nat) (g : Nat → Nat → Nat) (hl : Nat → Nat → Int64) (rt : Nat × Nat × Nat × Nat) {Q : Po} (hq : Q (some (.int (nI 0))) (HN g hl (RF rt))) : Ev L xs (d + 2) 5 0 [(0, .int (nI 1)), (1, .int (nI 2))] [] (HN g hl (RF rt)) Q := by
  refine Ev.run 7 (pc' := 9) (lv' := [(3, .int (nI 0)), (2, .int (nI 1)), (0, .int (nI 1)), (1, .int (nI 2))]) (st' := [.int (Int32.ofNat (xLen L 1)), .int (nI 0)]) (h' := HN g hl (RF rt)) rfl ?_
  refine Ev.topI (show Int32.ofNat (xLen L 1) = nI 7 from rfl) ?_
  refine Ev.run 2 (pc' := 13) (lv' := [(3, .int (nI 0)), (2, .int (nI 1)), (0, .int (nI 1)), (1, .int (nI 2))]) (st' := [.int (nI 1)]) (h' := HN g hl (RF rt)) rfl ?_
  refine Ev.call (a := 120) (as := [.int (nI 1)]) (rest := []) (lv0 := [(0, .int (nI 1))]) (Q1 := (fun z0 h' => z0 = some (.int (nI 1)) ∧ h' = HN g hl (RF rt))) rfl rfl (K_isKind _ _ _ _ 1 (by omega) ⟨rfl, rfl⟩) (fun r h' hr => ?_)
  obtain ⟨rfl, rfl⟩ := hr
  refine Ev.run 7 (pc' := 27) (lv' := [(3, .int (nI 0)), (2, .int (nI 1)), (0, .int (nI 1)), (1, .int (nI 2))]) (st' := [.int (nI 5), .retAddr 2]) (h' := HN g hl (RF rt)) rfl ?_
  refine Ev_xald rfl (by decide) (show 5 < 21 by omega) (show 21 < 2 ^ 31 by decide) ?_
  refine Ev.topI (show xVal xs 2 5 = nI 0 from rfl) ?_
  refine Ev.run 3 (pc' := 37) (lv' := [(3, .int (nI 0)), (2, .int (nI 1)), (0, .int (nI 1)), (1, .int (nI 2))]) (st' := [.int (nI 1), .retAddr 1]) (h' := HN g hl (RF rt)) rfl ?_
  refine Ev_xald rfl (by decide) (show 1 < 7 by omega) (show 7 < 2 ^ 31 by decide) ?_
  refine Ev.topI (show xVal xs 1 1 = nI 0 from rfl) ?_
  refine Ev.run 6 (pc' := 9) (lv' := [(3, .int (nI 1)), (2, .int (nI 0)), (0, .int (nI 1)), (1, .int (nI 2))]) (st' := [.int (Int32.ofNat (xLen L 1)), .int (nI 1)]) (h' := HN g hl (RF rt)) rfl ?_
  refine Ev.topI (show Int32.ofNat (xLen L 1) = nI 7 from rfl) ?_
  refine Ev.run 2 (pc' := 13) (lv' := [(3, .int (nI 1)), (2, .int (nI 0)), (0, .int (nI 1)), (1, .int (nI 2))]) (st' := [.int (nI 0)]) (h' := HN g hl (RF rt)) rfl ?_
  refine Ev.call (a := 120) (as := [.int (nI 0)]) (rest := []) (lv0 := [(0, .int (nI 0))]) (Q1 := (fun z0 h' => z0 = some (.int (nI 1)) ∧ h' = HN g hl (RF rt))) rfl rfl (K_isKind _ _ _ _ 0 (by omega) ⟨rfl, rfl⟩) (fun r h' hr => ?_)
  obtain ⟨rfl, rfl⟩ := hr
  refine Ev.run 7 (pc' := 27) (lv' := [(3, .int (nI 1)), (2, .int (nI 0)), (0, .int (nI 1)), (1, .int (nI 2))]) (st' := [.int (nI 2), .retAddr 2]) (h' := HN g hl (RF rt)) rfl ?_
  refine Ev_xald rfl (by decide) (show 2 < 21 by omega) (show 21 < 2 ^ 31 by decide) ?_
  refine Ev.topI (show xVal xs 2 2 = nI 12 from rfl) ?_
  refine Ev.run 2 (pc' := 32) (lv' := [(3, .int (nI 1)), (2, .int (nI 0)), (0, .int (nI 1)), (1, .int (nI 2))]) (st' := [.int (nI 0)]) (h' := HN g hl (RF rt)) rfl ?_
  refine Ev.ret (v := some (.int (nI 0))) rfl ?_
  exact hq
theorem K_own22 {L : Nat} {xs : Nat → Int32} (d : Nat) (g : Nat → Nat → Nat) (hl : Nat → Nat → Int64) (rt : Nat × Nat × Nat × Nat) {Q : Po} (hq : Q (some (.int (nI 0))) (HN g hl (RF rt))) : Ev L xs (d + 2) 5 0 [(0, .int (nI 2)), (1, .int (nI 2))] [] (HN g hl (RF rt)) Q := by
  refine Ev.run 7 (pc' := 9) (lv' := [(3, .int (nI 0)), (2, .int (nI 2)), (0, .int (nI 2)), (1, .int (nI 2))]) (st' := [.int (Int32.ofNat (xLen L 1)), .int (nI 0)]) (h' := HN g hl (RF rt)) rfl ?_
  refine Ev.topI (show Int32.ofNat (xLen L 1) = nI 7 from rfl) ?_
  refine Ev.run 2 (pc' := 13) (lv' := [(3, .int (nI 0)), (2, .int (nI 2)), (0, .int (nI 2)), (1, .int (nI 2))]) (st' := [.int (nI 2)]) (h' := HN g hl (RF rt)) rfl ?_
  refine Ev.call (a := 120) (as := [.int (nI 2)]) (rest := []) (lv0 := [(0, .int (nI 2))]) (Q1 := (fun z0 h' => z0 = some (.int (nI 1)) ∧ h' = HN g hl (RF rt))) rfl rfl (K_isKind _ _ _ _ 2 (by omega) ⟨rfl, rfl⟩) (fun r h' hr => ?_)
  obtain ⟨rfl, rfl⟩ := hr
  refine Ev.run 7 (pc' := 27) (lv' := [(3, .int (nI 0)), (2, .int (nI 2)), (0, .int (nI 2)), (1, .int (nI 2))]) (st' := [.int (nI 8), .retAddr 2]) (h' := HN g hl (RF rt)) rfl ?_
  refine Ev_xald rfl (by decide) (show 8 < 21 by omega) (show 21 < 2 ^ 31 by decide) ?_
  refine Ev.topI (show xVal xs 2 8 = nI 0 from rfl) ?_
  refine Ev.run 3 (pc' := 37) (lv' := [(3, .int (nI 0)), (2, .int (nI 2)), (0, .int (nI 2)), (1, .int (nI 2))]) (st' := [.int (nI 2), .retAddr 1]) (h' := HN g hl (RF rt)) rfl ?_
  refine Ev_xald rfl (by decide) (show 2 < 7 by omega) (show 7 < 2 ^ 31 by decide) ?_
  refine Ev.topI (show xVal xs 1 2 = nI 0 from rfl) ?_
  refine Ev.run 6 (pc' := 9) (lv' := [(3, .int (nI 1)), (2, .int (nI 0)), (0, .int (nI 2)), (1, .int (nI 2))]) (st' := [.int (Int32.ofNat (xLen L 1)), .int (nI 1)]) (h' := HN g hl (RF rt)) rfl ?_
  refine Ev.topI (show Int32.ofNat (xLen L 1) = nI 7 from rfl) ?_
  refine Ev.run 2 (pc' := 13) (lv' := [(3, .int (nI 1)), (2, .int (nI 0)), (0, .int (nI 2)), (1, .int (nI 2))]) (st' := [.int (nI 0)]) (h' := HN g hl (RF rt)) rfl ?_
  refine Ev.call (a := 120) (as := [.int (nI 0)]) (rest := []) (lv0 := [(0, .int (nI 0))]) (Q1 := (fun z0 h' => z0 = some (.int (nI 1)) ∧ h' = HN g hl (RF rt))) rfl rfl (K_isKind _ _ _ _ 0 (by omega) ⟨rfl, rfl⟩) (fun r h' hr => ?_)
  obtain ⟨rfl, rfl⟩ := hr
  refine Ev.run 7 (pc' := 27) (lv' := [(3, .int (nI 1)), (2, .int (nI 0)), (0, .int (nI 2)), (1, .int (nI 2))]) (st' := [.int (nI 2), .retAddr 2]) (h' := HN g hl (RF rt)) rfl ?_
  refine Ev_xald rfl (by decide) (show 2 < 21 by omega) (show 21 < 2 ^ 31 by decide) ?_
  refine Ev.topI (show xVal xs 2 2 = nI 12 from rfl) ?_
  refine Ev.run 2 (pc' := 32) (lv' := [(3, .int (nI 1)), (2, .int (nI 0)), (0, .int (nI 2)), (1, .int (nI 2))]) (st' := [.int (nI 0)]) (h' := HN g hl (RF rt)) rfl ?_
  refine Ev.ret (v := some (.int (nI 0))) rfl ?_
  exact hq
theorem K_own32 {L : Nat} {xs : Nat → Int32} (d : Nat) (g : Nat → Nat → Nat) (hl : Nat → Nat → Int64) (rt : Nat × Nat × Nat × Nat) {Q : Po} (hq : Q (some (.int (nI 3))) (HN g hl (RF rt))) : Ev L xs (d + 2) 5 0 [(0, .int (nI 3)), (1, .int (nI 2))] [] (HN g hl (RF rt)) Q := by
  refine Ev.run 7 (pc' := 9) (lv' := [(3, .int (nI 0)), (2, .int (nI 3)), (0, .int (nI 3)), (1, .int (nI 2))]) (st' := [.int (Int32.ofNat (xLen L 1)), .int (nI 0)]) (h' := HN g hl (RF rt)) rfl ?_
  refine Ev.topI (show Int32.ofNat (xLen L 1) = nI 7 from rfl) ?_
  refine Ev.run 2 (pc' := 13) (lv' := [(3, .int (nI 0)), (2, .int (nI 3)), (0, .int (nI 3)), (1, .int (nI 2))]) (st' := [.int (nI 3)]) (h' := HN g hl (RF rt)) rfl ?_
  refine Ev.call (a := 120) (as := [.int (nI 3)]) (rest := []) (lv0 := [(0, .int (nI 3))]) (Q1 := (fun z0 h' => z0 = some (.int (nI 1)) ∧ h' = HN g hl (RF rt))) rfl rfl (K_isKind _ _ _ _ 3 (by omega) ⟨rfl, rfl⟩) (fun r h' hr => ?_)
  obtain ⟨rfl, rfl⟩ := hr
  refine Ev.run 7 (pc' := 27) (lv' := [(3, .int (nI 0)), (2, .int (nI 3)), (0, .int (nI 3)), (1, .int (nI 2))]) (st' := [.int (nI 11), .retAddr 2]) (h' := HN g hl (RF rt)) rfl ?_
  refine Ev_xald rfl (by decide) (show 11 < 21 by omega) (show 21 < 2 ^ 31 by decide) ?_
  refine Ev.topI (show xVal xs 2 11 = nI 40 from rfl) ?_
  refine Ev.run 2 (pc' := 32) (lv' := [(3, .int (nI 0)), (2, .int (nI 3)), (0, .int (nI 3)), (1, .int (nI 2))]) (st' := [.int (nI 3)]) (h' := HN g hl (RF rt)) rfl ?_
  refine Ev.ret (v := some (.int (nI 3))) rfl ?_
  exact hq
theorem K_own42 {L : Nat} {xs : Nat → Int32} (d : Nat) (g : Nat → Nat → Nat) (hl : Nat → Nat → Int64) (rt : Nat × Nat × Nat × Nat) {Q : Po} (hq : Q (some (.int (nI 0))) (HN g hl (RF rt))) : Ev L xs (d + 2) 5 0 [(0, .int (nI 4)), (1, .int (nI 2))] [] (HN g hl (RF rt)) Q := by
  refine Ev.run 7 (pc' := 9) (lv' := [(3, .int (nI 0)), (2, .int (nI 4)), (0, .int (nI 4)), (1, .int (nI 2))]) (st' := [.int (Int32.ofNat (xLen L 1)), .int (nI 0)]) (h' := HN g hl (RF rt)) rfl ?_
  refine Ev.topI (show Int32.ofNat (xLen L 1) = nI 7 from rfl) ?_
  refine Ev.run 2 (pc' := 13) (lv' := [(3, .int (nI 0)), (2, .int (nI 4)), (0, .int (nI 4)), (1, .int (nI 2))]) (st' := [.int (nI 4)]) (h' := HN g hl (RF rt)) rfl ?_
  refine Ev.call (a := 120) (as := [.int (nI 4)]) (rest := []) (lv0 := [(0, .int (nI 4))]) (Q1 := (fun z0 h' => z0 = some (.int (nI 1)) ∧ h' = HN g hl (RF rt))) rfl rfl (K_isKind _ _ _ _ 4 (by omega) ⟨rfl, rfl⟩) (fun r h' hr => ?_)
  obtain ⟨rfl, rfl⟩ := hr
  refine Ev.run 7 (pc' := 27) (lv' := [(3, .int (nI 0)), (2, .int (nI 4)), (0, .int (nI 4)), (1, .int (nI 2))]) (st' := [.int (nI 14), .retAddr 2]) (h' := HN g hl (RF rt)) rfl ?_
  refine Ev_xald rfl (by decide) (show 14 < 21 by omega) (show 21 < 2 ^ 31 by decide) ?_
  refine Ev.topI (show xVal xs 2 14 = nI 0 from rfl) ?_
  refine Ev.run 3 (pc' := 37) (lv' := [(3, .int (nI 0)), (2, .int (nI 4)), (0, .int (nI 4)), (1, .int (nI 2))]) (st' := [.int (nI 4), .retAddr 1]) (h' := HN g hl (RF rt)) rfl ?_
  refine Ev_xald rfl (by decide) (show 4 < 7 by omega) (show 7 < 2 ^ 31 by decide) ?_
  refine Ev.topI (show xVal xs 1 4 = nI 1 from rfl) ?_
  refine Ev.run 6 (pc' := 9) (lv' := [(3, .int (nI 1)), (2, .int (nI 1)), (0, .int (nI 4)), (1, .int (nI 2))]) (st' := [.int (Int32.ofNat (xLen L 1)), .int (nI 1)]) (h' := HN g hl (RF rt)) rfl ?_
  refine Ev.topI (show Int32.ofNat (xLen L 1) = nI 7 from rfl) ?_
  refine Ev.run 2 (pc' := 13) (lv' := [(3, .int (nI 1)), (2, .int (nI 1)), (0, .int (nI 4)), (1, .int (nI 2))]) (st' := [.int (nI 1)]) (h' := HN g hl (RF rt)) rfl ?_
  refine Ev.call (a := 120) (as := [.int (nI 1)]) (rest := []) (lv0 := [(0, .int (nI 1))]) (Q1 := (fun z0 h' => z0 = some (.int (nI 1)) ∧ h' = HN g hl (RF rt))) rfl rfl (K_isKind _ _ _ _ 1 (by omega) ⟨rfl, rfl⟩) (fun r h' hr => ?_)
  obtain ⟨rfl, rfl⟩ := hr
  refine Ev.run 7 (pc' := 27) (lv' := [(3, .int (nI 1)), (2, .int (nI 1)), (0, .int (nI 4)), (1, .int (nI 2))]) (st' := [.int (nI 5), .retAddr 2]) (h' := HN g hl (RF rt)) rfl ?_
  refine Ev_xald rfl (by decide) (show 5 < 21 by omega) (show 21 < 2 ^ 31 by decide) ?_
  refine Ev.topI (show xVal xs 2 5 = nI 0 from rfl) ?_
  refine Ev.run 3 (pc' := 37) (lv' := [(3, .int (nI 1)), (2, .int (nI 1)), (0, .int (nI 4)), (1, .int (nI 2))]) (st' := [.int (nI 1), .retAddr 1]) (h' := HN g hl (RF rt)) rfl ?_
  refine Ev_xald rfl (by decide) (show 1 < 7 by omega) (show 7 < 2 ^ 31 by decide) ?_
  refine Ev.topI (show xVal xs 1 1 = nI 0 from rfl) ?_
  refine Ev.run 6 (pc' := 9) (lv' := [(3, .int (nI 2)), (2, .int (nI 0)), (0, .int (nI 4)), (1, .int (nI 2))]) (st' := [.int (Int32.ofNat (xLen L 1)), .int (nI 2)]) (h' := HN g hl (RF rt)) rfl ?_
  refine Ev.topI (show Int32.ofNat (xLen L 1) = nI 7 from rfl) ?_
  refine Ev.run 2 (pc' := 13) (lv' := [(3, .int (nI 2)), (2, .int (nI 0)), (0, .int (nI 4)), (1, .int (nI 2))]) (st' := [.int (nI 0)]) (h' := HN g hl (RF rt)) rfl ?_
  refine Ev.call (a := 120) (as := [.int (nI 0)]) (rest := []) (lv0 := [(0, .int (nI 0))]) (Q1 := (fun z0 h' => z0 = some (.int (nI 1)) ∧ h' = HN g hl (RF rt))) rfl rfl (K_isKind _ _ _ _ 0 (by omega) ⟨rfl, rfl⟩) (fun r h' hr => ?_)
  obtain ⟨rfl, rfl⟩ := hr
  refine Ev.run 7 (pc' := 27) (lv' := [(3, .int (nI 2)), (2, .int (nI 0)), (0, .int (nI 4)), (1, .int (nI 2))]) (st' := [.int (nI 2), .retAddr 2]) (h' := HN g hl (RF rt)) rfl ?_
  refine Ev_xald rfl (by decide) (show 2 < 21 by omega) (show 21 < 2 ^ 31 by decide) ?_
  refine Ev.topI (show xVal xs 2 2 = nI 12 from rfl) ?_
  refine Ev.run 2 (pc' := 32) (lv' := [(3, .int (nI 2)), (2, .int (nI 0)), (0, .int (nI 4)), (1, .int (nI 2))]) (st' := [.int (nI 0)]) (h' := HN g hl (RF rt)) rfl ?_
  refine Ev.ret (v := some (.int (nI 0))) rfl ?_
  exact hq
theorem K_own52 {L : Nat} {xs : Nat → Int32} (d : Nat) (g : Nat → Nat → Nat) (hl : Nat → Nat → Int64) (rt : Nat × Nat × Nat × Nat) {Q : Po} (hq : Q (some (.int (nI 5))) (HN g hl (RF rt))) : Ev L xs (d + 2) 5 0 [(0, .int (nI 5)), (1, .int (nI 2))] [] (HN g hl (RF rt)) Q := by
  refine Ev.run 7 (pc' := 9) (lv' := [(3, .int (nI 0)), (2, .int (nI 5)), (0, .int (nI 5)), (1, .int (nI 2))]) (st' := [.int (Int32.ofNat (xLen L 1)), .int (nI 0)]) (h' := HN g hl (RF rt)) rfl ?_
  refine Ev.topI (show Int32.ofNat (xLen L 1) = nI 7 from rfl) ?_
  refine Ev.run 2 (pc' := 13) (lv' := [(3, .int (nI 0)), (2, .int (nI 5)), (0, .int (nI 5)), (1, .int (nI 2))]) (st' := [.int (nI 5)]) (h' := HN g hl (RF rt)) rfl ?_
  refine Ev.call (a := 120) (as := [.int (nI 5)]) (rest := []) (lv0 := [(0, .int (nI 5))]) (Q1 := (fun z0 h' => z0 = some (.int (nI 1)) ∧ h' = HN g hl (RF rt))) rfl rfl (K_isKind _ _ _ _ 5 (by omega) ⟨rfl, rfl⟩) (fun r h' hr => ?_)
  obtain ⟨rfl, rfl⟩ := hr
  refine Ev.run 7 (pc' := 27) (lv' := [(3, .int (nI 0)), (2, .int (nI 5)), (0, .int (nI 5)), (1, .int (nI 2))]) (st' := [.int (nI 17), .retAddr 2]) (h' := HN g hl (RF rt)) rfl ?_
  refine Ev_xald rfl (by decide) (show 17 < 21 by omega) (show 21 < 2 ^ 31 by decide) ?_
  refine Ev.topI (show xVal xs 2 17 = nI 60 from rfl) ?_
  refine Ev.run 2 (pc' := 32) (lv' := [(3, .int (nI 0)), (2, .int (nI 5)), (0, .int (nI 5)), (1, .int (nI 2))]) (st' := [.int (nI 5)]) (h' := HN g hl (RF rt)) rfl ?_
  refine Ev.ret (v := some (.int (nI 5))) rfl ?_
  exact hq
theorem K_own62 {L : Nat} {xs : Nat → Int32} (d : Nat) (g : Nat → Nat → Nat) (hl : Nat → Nat → Int64) (rt : Nat × Nat × Nat × Nat) {Q : Po} (hq : Q (some (.int (nI 3))) (HN g hl (RF rt))) : Ev L xs (d + 2) 5 0 [(0, .int (nI 6)), (1, .int (nI 2))] [] (HN g hl (RF rt)) Q := by
  refine Ev.run 7 (pc' := 9) (lv' := [(3, .int (nI 0)), (2, .int (nI 6)), (0, .int (nI 6)), (1, .int (nI 2))]) (st' := [.int (Int32.ofNat (xLen L 1)), .int (nI 0)]) (h' := HN g hl (RF rt)) rfl ?_
  refine Ev.topI (show Int32.ofNat (xLen L 1) = nI 7 from rfl) ?_
  refine Ev.run 2 (pc' := 13) (lv' := [(3, .int (nI 0)), (2, .int (nI 6)), (0, .int (nI 6)), (1, .int (nI 2))]) (st' := [.int (nI 6)]) (h' := HN g hl (RF rt)) rfl ?_
  refine Ev.call (a := 120) (as := [.int (nI 6)]) (rest := []) (lv0 := [(0, .int (nI 6))]) (Q1 := (fun z0 h' => z0 = some (.int (nI 1)) ∧ h' = HN g hl (RF rt))) rfl rfl (K_isKind _ _ _ _ 6 (by omega) ⟨rfl, rfl⟩) (fun r h' hr => ?_)
  obtain ⟨rfl, rfl⟩ := hr
  refine Ev.run 7 (pc' := 27) (lv' := [(3, .int (nI 0)), (2, .int (nI 6)), (0, .int (nI 6)), (1, .int (nI 2))]) (st' := [.int (nI 20), .retAddr 2]) (h' := HN g hl (RF rt)) rfl ?_
  refine Ev_xald rfl (by decide) (show 20 < 21 by omega) (show 21 < 2 ^ 31 by decide) ?_
  refine Ev.topI (show xVal xs 2 20 = nI 0 from rfl) ?_
  refine Ev.run 3 (pc' := 37) (lv' := [(3, .int (nI 0)), (2, .int (nI 6)), (0, .int (nI 6)), (1, .int (nI 2))]) (st' := [.int (nI 6), .retAddr 1]) (h' := HN g hl (RF rt)) rfl ?_
  refine Ev_xald rfl (by decide) (show 6 < 7 by omega) (show 7 < 2 ^ 31 by decide) ?_
  refine Ev.topI (show xVal xs 1 6 = nI 3 from rfl) ?_
  refine Ev.run 6 (pc' := 9) (lv' := [(3, .int (nI 1)), (2, .int (nI 3)), (0, .int (nI 6)), (1, .int (nI 2))]) (st' := [.int (Int32.ofNat (xLen L 1)), .int (nI 1)]) (h' := HN g hl (RF rt)) rfl ?_
  refine Ev.topI (show Int32.ofNat (xLen L 1) = nI 7 from rfl) ?_
  refine Ev.run 2 (pc' := 13) (lv' := [(3, .int (nI 1)), (2, .int (nI 3)), (0, .int (nI 6)), (1, .int (nI 2))]) (st' := [.int (nI 3)]) (h' := HN g hl (RF rt)) rfl ?_
  refine Ev.call (a := 120) (as := [.int (nI 3)]) (rest := []) (lv0 := [(0, .int (nI 3))]) (Q1 := (fun z0 h' => z0 = some (.int (nI 1)) ∧ h' = HN g hl (RF rt))) rfl rfl (K_isKind _ _ _ _ 3 (by omega) ⟨rfl, rfl⟩) (fun r h' hr => ?_)
  obtain ⟨rfl, rfl⟩ := hr
  refine Ev.run 7 (pc' := 27) (lv' := [(3, .int (nI 1)), (2, .int (nI 3)), (0, .int (nI 6)), (1, .int (nI 2))]) (st' := [.int (nI 11), .retAddr 2]) (h' := HN g hl (RF rt)) rfl ?_
  refine Ev_xald rfl (by decide) (show 11 < 21 by omega) (show 21 < 2 ^ 31 by decide) ?_
  refine Ev.topI (show xVal xs 2 11 = nI 40 from rfl) ?_
  refine Ev.run 2 (pc' := 32) (lv' := [(3, .int (nI 1)), (2, .int (nI 3)), (0, .int (nI 6)), (1, .int (nI 2))]) (st' := [.int (nI 3)]) (h' := HN g hl (RF rt)) rfl ?_
  refine Ev.ret (v := some (.int (nI 3))) rfl ?_
  exact hq
theorem K_rf0_0_0 {L : Nat} {xs : Nat → Int32} (d : Nat) (g : Nat → Nat → Nat) (hl : Nat → Nat → Int64) (rt : Nat × Nat × Nat × Nat) (x : Int32) (i v dp : Nat) (hi : i < 5) (hv : v < 2 ^ 31) (h133 : g 133 1 ≤ 20) (hN : g (60 + 2 * i) 1 = i) (hK : g (60 + 2 * i) 2 = 0) (hv3 : g (60 + 2 * i) 3 = v) (hdp : dp ≤ 18) {Q : Po} (hq : Q (some (.int (x + nI i))) (HN (bdC g [10]) hl (RF rt))) : Ev L xs (d + 3) 4 0 [(0, .ref 132), (1, .int (nI 0)), (2, .ref (60 + 2 * i)), (3, .int (nI 0)), (4, .int (x)), (5, .int (nI dp))] [] (HN g hl (RF rt)) Q := by
  refine Ev.run 2 (pc' := 2) (lv' := [(0, .ref 132), (1, .int (nI 0)), (2, .ref (60 + 2 * i)), (3, .int (nI 0)), (4, .int (x)), (5, .int (nI dp))]) (st' := [.int (nI 0), .int (nI 0)]) (h' := HN g hl (RF rt)) rfl ?_
  refine Ev.call (a := 5) (as := [.int (nI 0), .int (nI 0)]) (rest := []) (lv0 := [(0, .int (nI 0)), (1, .int (nI 0))]) (Q1 := (fun z0 h' => z0 = some (.int (nI 0)) ∧ h' = HN g hl (RF rt))) rfl rfl (K_own00 _ _ _ _ ⟨rfl, rfl⟩) (fun r h' hr => ?_)
  obtain ⟨rfl, rfl⟩ := hr
  refine Ev.run 6 (pc' := (if nI dp < nI 20 then 21 else 19)) (lv' := [(6, .int (nI 0)), (0, .ref 132), (1, .int (nI 0)), (2, .ref (60 + 2 * i)), (3, .int (nI 0)), (4, .int (x)), (5, .int (nI dp))]) (st' := []) (h' := HN g hl (RF rt)) rfl ?_
  refine Ev.ite (fun hc16 => ?_) (fun hc16 => ?_)
  · have hc16 : dp < 20 := (nI_ltI (by omega) (by omega)).mp hc16
    refine Ev.run 6 (pc' := 30) (lv' := [(6, .int (nI 0)), (0, .ref 132), (1, .int (nI 0)), (2, .ref (60 + 2 * i)), (3, .int (nI 0)), (4, .int (x)), (5, .int (nI dp))]) (st' := [.int (nI 0), .retAddr 2]) (h' := HN g hl (RF rt)) rfl ?_
    refine Ev_xald rfl (by decide) (show 0 < 21 by omega) (show 21 < 2 ^ 31 by decide) ?_
    refine Ev.topI (show xVal xs 2 0 = nI 10 from rfl) ?_
    refine Ev.run 4 (pc' := 39) (lv' := [(7, .int (nI 10)), (6, .int (nI 0)), (0, .ref 132), (1, .int (nI 0)), (2, .ref (60 + 2 * i)), (3, .int (nI 0)), (4, .int (x)), (5, .int (nI dp))]) (st' := [.int (nI 10), .ref 133]) (h' := HN g hl (RF rt)) rfl ?_
    refine Ev.call (a := 43) (as := [.ref 133, .int (nI 10)]) (rest := []) (lv0 := [(0, .ref 133), (1, .int (nI 10))]) (Q1 := (fun z0 h' => z0 = none ∧ h' = HN (ptLn g 133 20 10) hl (RF rt))) rfl rfl (K_put _ g _ _ 133 20 (ln133 rt) 10 (by omega) ⟨rfl, rfl⟩) (fun r h' hr => ?_)
    obtain ⟨rfl, rfl⟩ := hr
    refine Ev.run 5 (pc' := 49) (lv' := [(7, .int (nI 10)), (6, .int (nI 0)), (0, .ref 132), (1, .int (nI 0)), (2, .ref (60 + 2 * i)), (3, .int (nI 0)), (4, .int (x)), (5, .int (nI dp))]) (st' := [.int (nI ((ptLn g 133 20 10) 132 1) + nI 1), .ref 132]) (h' := HN (ptLn g 133 20 10) hl (RF rt)) rfl ?_
    refine Ev.topI (nI_add _ _) ?_
    refine Ev.run 1 (pc' := 52) (lv' := [(7, .int (nI 10)), (6, .int (nI 0)), (0, .ref 132), (1, .int (nI 0)), (2, .ref (60 + 2 * i)), (3, .int (nI 0)), (4, .int (x)), (5, .int (nI dp))]) (st' := []) (h' := setI (HN (ptLn g 133 20 10) hl (RF rt)) 132 1 (nI (((ptLn g 133 20 10) 132 1) + 1))) rfl ?_
    refine Ev.hp (HN_set _ _ _ _ _ _) ?_
    refine Ev.hp (congrArg (fun z => HN z hl (RF rt)) (show u2 (ptLn g 133 20 10) 132 1 ((ptLn g 133 20 10) 132 1 + 1) = bdC g [10] by rw [show ptLn g 133 20 10 132 1 = g 132 1 from by unfold ptLn; split; rw [u2_ne _ (Or.inl (by decide)), u2_ne _ (Or.inl (by decide))]; rfl]; exact bdC_1 h133 10)) ?_
    refine Ev.run 1 (pc' := 53) (lv' := [(7, .int (nI 10)), (6, .int (nI 0)), (0, .ref 132), (1, .int (nI 0)), (2, .ref (60 + 2 * i)), (3, .int (nI 0)), (4, .int (x)), (5, .int (nI dp))]) (st' := [.ref (60 + 2 * i)]) (h' := HN (bdC g [10]) hl (RF rt)) rfl ?_
    refine Ev_gfI rfl rfl rfl (kcP (show i < 5 by omega)) ?_
    refine Ev.topI (congrArg nI (((bdC_ne _ _ (by omega) _).trans hK))) ?_
    refine Ev.run 3 (pc' := 63) (lv' := [(8, .int (nI 0)), (7, .int (nI 10)), (6, .int (nI 0)), (0, .ref 132), (1, .int (nI 0)), (2, .ref (60 + 2 * i)), (3, .int (nI 0)), (4, .int (x)), (5, .int (nI dp))]) (st' := [.int (nI 0), .retAddr 1]) (h' := HN (bdC g [10]) hl (RF rt)) rfl ?_
    refine Ev_xald rfl (by decide) (show 0 < 7 by omega) (show 7 < 2 ^ 31 by decide) ?_
    refine Ev.topI (show xVal xs 1 0 = nI 4294967295 from rfl) ?_
    refine Ev.run 4 (pc' := 70) (lv' := [(9, .int (nI 4294967295)), (8, .int (nI 0)), (7, .int (nI 10)), (6, .int (nI 0)), (0, .ref 132), (1, .int (nI 0)), (2, .ref (60 + 2 * i)), (3, .int (nI 0)), (4, .int (x)), (5, .int (nI dp))]) (st' := [.int (nI dp + nI 1)]) (h' := HN (bdC g [10]) hl (RF rt)) rfl ?_
    refine Ev.topI (nI_add _ _) ?_
    refine Ev.run 5 (pc' := 175) (lv' := [(10, .int (nI (dp + 1))), (9, .int (nI 4294967295)), (8, .int (nI 0)), (7, .int (nI 10)), (6, .int (nI 0)), (0, .ref 132), (1, .int (nI 0)), (2, .ref (60 + 2 * i)), (3, .int (nI 0)), (4, .int (x)), (5, .int (nI dp))]) (st' := [.ref (60 + 2 * i), .int (x)]) (h' := HN (bdC g [10]) hl (RF rt)) rfl ?_
    refine Ev_gfI rfl rfl rfl (kcP (show i < 5 by omega)) ?_
    refine Ev.topI (congrArg nI (((bdC_ne _ _ (by omega) _).trans hN))) ?_
    refine Ev.run 1 (pc' := 179) (lv' := [(10, .int (nI (dp + 1))), (9, .int (nI 4294967295)), (8, .int (nI 0)), (7, .int (nI 10)), (6, .int (nI 0)), (0, .ref 132), (1, .int (nI 0)), (2, .ref (60 + 2 * i)), (3, .int (nI 0)), (4, .int (x)), (5, .int (nI dp))]) (st' := [.int (x + nI i)]) (h' := HN (bdC g [10]) hl (RF rt)) rfl ?_
    refine Ev.ret (v := some (.int (x + nI i))) rfl ?_
    first | exact hq | (exfalso; omega)
  · have hc16 : ¬ (dp < 20) := fun z => hc16 ((nI_ltI (by omega) (by omega)).mpr z)
    refine Ev.run 1 (pc' := 20) (lv' := [(6, .int (nI 0)), (0, .ref 132), (1, .int (nI 0)), (2, .ref (60 + 2 * i)), (3, .int (nI 0)), (4, .int (x)), (5, .int (nI dp))]) (st' := [.int (nI 0)]) (h' := HN g hl (RF rt)) rfl ?_
    refine Ev.ret (v := some (.int (nI 0))) rfl ?_
    first | exact hq | (exfalso; omega)
theorem K_rf0_0_1 {L : Nat} {xs : Nat → Int32} (d : Nat) (g : Nat → Nat → Nat) (hl : Nat → Nat → Int64) (rt : Nat × Nat × Nat × Nat) (x : Int32) (i v dp : Nat) (hi : i < 5) (hv : v < 2 ^ 31) (h133 : g 133 1 ≤ 20) (hN : g (60 + 2 * i) 1 = i) (hK : g (60 + 2 * i) 2 = 0) (hv3 : g (60 + 2 * i) 3 = v) (hdp : dp ≤ 17) {Q : Po} (hq : Q (some (.int ((x + nI i) - nI v))) (HN (bdC g [11, 10]) hl (RF rt))) : Ev L xs (d + 4) 4 0 [(0, .ref 132), (1, .int (nI 0)), (2, .ref (60 + 2 * i)), (3, .int (nI 1)), (4, .int (x)), (5, .int (nI dp))] [] (HN g hl (RF rt)) Q := by
  refine Ev.run 2 (pc' := 2) (lv' := [(0, .ref 132), (1, .int (nI 0)), (2, .ref (60 + 2 * i)), (3, .int (nI 1)), (4, .int (x)), (5, .int (nI dp))]) (st' := [.int (nI 1), .int (nI 0)]) (h' := HN g hl (RF rt)) rfl ?_
  refine Ev.call (a := 5) (as := [.int (nI 0), .int (nI 1)]) (rest := []) (lv0 := [(0, .int (nI 0)), (1, .int (nI 1))]) (Q1 := (fun z0 h' => z0 = some (.int (nI 0)) ∧ h' = HN g hl (RF rt))) rfl rfl (K_own01 _ _ _ _ ⟨rfl, rfl⟩) (fun r h' hr => ?_)
  obtain ⟨rfl, rfl⟩ := hr
  refine Ev.run 6 (pc' := (if nI dp < nI 20 then 21 else 19)) (lv' := [(6, .int (nI 0)), (0, .ref 132), (1, .int (nI 0)), (2, .ref (60 + 2 * i)), (3, .int (nI 1)), (4, .int (x)), (5, .int (nI dp))]) (st' := []) (h' := HN g hl (RF rt)) rfl ?_
  refine Ev.ite (fun hc16 => ?_) (fun hc16 => ?_)
  · have hc16 : dp < 20 := (nI_ltI (by omega) (by omega)).mp hc16
    refine Ev.run 6 (pc' := 30) (lv' := [(6, .int (nI 0)), (0, .ref 132), (1, .int (nI 0)), (2, .ref (60 + 2 * i)), (3, .int (nI 1)), (4, .int (x)), (5, .int (nI dp))]) (st' := [.int (nI 1), .retAddr 2]) (h' := HN g hl (RF rt)) rfl ?_
    refine Ev_xald rfl (by decide) (show 1 < 21 by omega) (show 21 < 2 ^ 31 by decide) ?_
    refine Ev.topI (show xVal xs 2 1 = nI 11 from rfl) ?_
    refine Ev.run 4 (pc' := 39) (lv' := [(7, .int (nI 11)), (6, .int (nI 0)), (0, .ref 132), (1, .int (nI 0)), (2, .ref (60 + 2 * i)), (3, .int (nI 1)), (4, .int (x)), (5, .int (nI dp))]) (st' := [.int (nI 11), .ref 133]) (h' := HN g hl (RF rt)) rfl ?_
    refine Ev.call (a := 43) (as := [.ref 133, .int (nI 11)]) (rest := []) (lv0 := [(0, .ref 133), (1, .int (nI 11))]) (Q1 := (fun z0 h' => z0 = none ∧ h' = HN (ptLn g 133 20 11) hl (RF rt))) rfl rfl (K_put _ g _ _ 133 20 (ln133 rt) 11 (by omega) ⟨rfl, rfl⟩) (fun r h' hr => ?_)
    obtain ⟨rfl, rfl⟩ := hr
    refine Ev.run 5 (pc' := 49) (lv' := [(7, .int (nI 11)), (6, .int (nI 0)), (0, .ref 132), (1, .int (nI 0)), (2, .ref (60 + 2 * i)), (3, .int (nI 1)), (4, .int (x)), (5, .int (nI dp))]) (st' := [.int (nI ((ptLn g 133 20 11) 132 1) + nI 1), .ref 132]) (h' := HN (ptLn g 133 20 11) hl (RF rt)) rfl ?_
    refine Ev.topI (nI_add _ _) ?_
    refine Ev.run 1 (pc' := 52) (lv' := [(7, .int (nI 11)), (6, .int (nI 0)), (0, .ref 132), (1, .int (nI 0)), (2, .ref (60 + 2 * i)), (3, .int (nI 1)), (4, .int (x)), (5, .int (nI dp))]) (st' := []) (h' := setI (HN (ptLn g 133 20 11) hl (RF rt)) 132 1 (nI (((ptLn g 133 20 11) 132 1) + 1))) rfl ?_
    refine Ev.hp (HN_set _ _ _ _ _ _) ?_
    refine Ev.hp (congrArg (fun z => HN z hl (RF rt)) (show u2 (ptLn g 133 20 11) 132 1 ((ptLn g 133 20 11) 132 1 + 1) = bdC g [11] by rw [show ptLn g 133 20 11 132 1 = g 132 1 from by unfold ptLn; split; rw [u2_ne _ (Or.inl (by decide)), u2_ne _ (Or.inl (by decide))]; rfl]; exact bdC_1 h133 11)) ?_
    refine Ev.run 1 (pc' := 53) (lv' := [(7, .int (nI 11)), (6, .int (nI 0)), (0, .ref 132), (1, .int (nI 0)), (2, .ref (60 + 2 * i)), (3, .int (nI 1)), (4, .int (x)), (5, .int (nI dp))]) (st' := [.ref (60 + 2 * i)]) (h' := HN (bdC g [11]) hl (RF rt)) rfl ?_
    refine Ev_gfI rfl rfl rfl (kcP (show i < 5 by omega)) ?_
    refine Ev.topI (congrArg nI (((bdC_ne _ _ (by omega) _).trans hK))) ?_
    refine Ev.run 3 (pc' := 63) (lv' := [(8, .int (nI 0)), (7, .int (nI 11)), (6, .int (nI 0)), (0, .ref 132), (1, .int (nI 0)), (2, .ref (60 + 2 * i)), (3, .int (nI 1)), (4, .int (x)), (5, .int (nI dp))]) (st' := [.int (nI 0), .retAddr 1]) (h' := HN (bdC g [11]) hl (RF rt)) rfl ?_
    refine Ev_xald rfl (by decide) (show 0 < 7 by omega) (show 7 < 2 ^ 31 by decide) ?_
    refine Ev.topI (show xVal xs 1 0 = nI 4294967295 from rfl) ?_
    refine Ev.run 4 (pc' := 70) (lv' := [(9, .int (nI 4294967295)), (8, .int (nI 0)), (7, .int (nI 11)), (6, .int (nI 0)), (0, .ref 132), (1, .int (nI 0)), (2, .ref (60 + 2 * i)), (3, .int (nI 1)), (4, .int (x)), (5, .int (nI dp))]) (st' := [.int (nI dp + nI 1)]) (h' := HN (bdC g [11]) hl (RF rt)) rfl ?_
    refine Ev.topI (nI_add _ _) ?_
    refine Ev.run 9 (pc' := 189) (lv' := [(10, .int (nI (dp + 1))), (9, .int (nI 4294967295)), (8, .int (nI 0)), (7, .int (nI 11)), (6, .int (nI 0)), (0, .ref 132), (1, .int (nI 0)), (2, .ref (60 + 2 * i)), (3, .int (nI 1)), (4, .int (x)), (5, .int (nI dp))]) (st' := [.int (nI (dp + 1)), .int (x), .int (nI 0), .ref (60 + 2 * i), .int (nI 0), .ref 132]) (h' := HN (bdC g [11]) hl (RF rt)) rfl ?_
    refine Ev.call (a := 4) (as := [.ref 132, .int (nI 0), .ref (60 + 2 * i), .int (nI 0), .int (x), .int (nI (dp + 1))]) (rest := []) (lv0 := [(0, .ref 132), (1, .int (nI 0)), (2, .ref (60 + 2 * i)), (3, .int (nI 0)), (4, .int (x)), (5, .int (nI (dp + 1)))]) (Q1 := (fun z0 h' => z0 = some (.int (x + nI i)) ∧ h' = HN (bdC g [11, 10]) hl (RF rt))) rfl rfl (K_rf0_0_0 _ (bdC g [11]) _ _ (x) i v (dp + 1) hi hv (by rw [bdC_s]; split <;> omega) (by rw [bdC_ne _ _ (by omega)]; exact hN) (by rw [bdC_ne _ _ (by omega)]; exact hK) (by rw [bdC_ne _ _ (by omega)]; exact hv3) (by omega) ⟨rfl, congrArg (fun z => HN z hl (RF rt)) (bdC_c h133 _ _)⟩) (fun r h' hr => ?_)
    obtain ⟨rfl, rfl⟩ := hr
    refine Ev.run 1 (pc' := 193) (lv' := [(10, .int (nI (dp + 1))), (9, .int (nI 4294967295)), (8, .int (nI 0)), (7, .int (nI 11)), (6, .int (nI 0)), (0, .ref 132), (1, .int (nI 0)), (2, .ref (60 + 2 * i)), (3, .int (nI 1)), (4, .int (x)), (5, .int (nI dp))]) (st' := [.ref (60 + 2 * i), .int (x + nI i)]) (h' := HN (bdC g [11, 10]) hl (RF rt)) rfl ?_
    refine Ev_gfI rfl rfl rfl (kcP (show i < 5 by omega)) ?_
    refine Ev.topI (congrArg nI (((bdC_ne _ _ (by omega) _).trans hv3))) ?_
    refine Ev.run 1 (pc' := 197) (lv' := [(10, .int (nI (dp + 1))), (9, .int (nI 4294967295)), (8, .int (nI 0)), (7, .int (nI 11)), (6, .int (nI 0)), (0, .ref 132), (1, .int (nI 0)), (2, .ref (60 + 2 * i)), (3, .int (nI 1)), (4, .int (x)), (5, .int (nI dp))]) (st' := [.int ((x + nI i) - nI v)]) (h' := HN (bdC g [11, 10]) hl (RF rt)) rfl ?_
    refine Ev.ret (v := some (.int ((x + nI i) - nI v))) rfl ?_
    first | exact hq | (exfalso; omega)
  · have hc16 : ¬ (dp < 20) := fun z => hc16 ((nI_ltI (by omega) (by omega)).mpr z)
    refine Ev.run 1 (pc' := 20) (lv' := [(6, .int (nI 0)), (0, .ref 132), (1, .int (nI 0)), (2, .ref (60 + 2 * i)), (3, .int (nI 1)), (4, .int (x)), (5, .int (nI dp))]) (st' := [.int (nI 0)]) (h' := HN g hl (RF rt)) rfl ?_
    refine Ev.ret (v := some (.int (nI 0))) rfl ?_
    first | exact hq | (exfalso; omega)
theorem K_rf0_0_2 {L : Nat} {xs : Nat → Int32} (d : Nat) (g : Nat → Nat → Nat) (hl : Nat → Nat → Int64) (rt : Nat × Nat × Nat × Nat) (x : Int32) (i v dp : Nat) (hi : i < 5) (hv : v < 2 ^ 31) (h133 : g 133 1 ≤ 20) (hN : g (60 + 2 * i) 1 = i) (hK : g (60 + 2 * i) 2 = 0) (hv3 : g (60 + 2 * i) 3 = v) (hdp : dp ≤ 16) {Q : Po} (hq : Q (some (.int (((x + nI i) - nI v) * nI 2))) (HN (bdC g [12, 11, 10]) hl (RF rt))) : Ev L xs (d + 5) 4 0 [(0, .ref 132), (1, .int (nI 0)), (2, .ref (60 + 2 * i)), (3, .int (nI 2)), (4, .int (x)), (5, .int (nI dp))] [] (HN g hl (RF rt)) Q := by
  refine Ev.run 2 (pc' := 2) (lv' := [(0, .ref 132), (1, .int (nI 0)), (2, .ref (60 + 2 * i)), (3, .int (nI 2)), (4, .int (x)), (5, .int (nI dp))]) (st' := [.int (nI 2), .int (nI 0)]) (h' := HN g hl (RF rt)) rfl ?_
  refine Ev.call (a := 5) (as := [.int (nI 0), .int (nI 2)]) (rest := []) (lv0 := [(0, .int (nI 0)), (1, .int (nI 2))]) (Q1 := (fun z0 h' => z0 = some (.int (nI 0)) ∧ h' = HN g hl (RF rt))) rfl rfl (K_own02 _ _ _ _ ⟨rfl, rfl⟩) (fun r h' hr => ?_)
  obtain ⟨rfl, rfl⟩ := hr
  refine Ev.run 6 (pc' := (if nI dp < nI 20 then 21 else 19)) (lv' := [(6, .int (nI 0)), (0, .ref 132), (1, .int (nI 0)), (2, .ref (60 + 2 * i)), (3, .int (nI 2)), (4, .int (x)), (5, .int (nI dp))]) (st' := []) (h' := HN g hl (RF rt)) rfl ?_
  refine Ev.ite (fun hc16 => ?_) (fun hc16 => ?_)
  · have hc16 : dp < 20 := (nI_ltI (by omega) (by omega)).mp hc16
    refine Ev.run 6 (pc' := 30) (lv' := [(6, .int (nI 0)), (0, .ref 132), (1, .int (nI 0)), (2, .ref (60 + 2 * i)), (3, .int (nI 2)), (4, .int (x)), (5, .int (nI dp))]) (st' := [.int (nI 2), .retAddr 2]) (h' := HN g hl (RF rt)) rfl ?_
    refine Ev_xald rfl (by decide) (show 2 < 21 by omega) (show 21 < 2 ^ 31 by decide) ?_
    refine Ev.topI (show xVal xs 2 2 = nI 12 from rfl) ?_
    refine Ev.run 4 (pc' := 39) (lv' := [(7, .int (nI 12)), (6, .int (nI 0)), (0, .ref 132), (1, .int (nI 0)), (2, .ref (60 + 2 * i)), (3, .int (nI 2)), (4, .int (x)), (5, .int (nI dp))]) (st' := [.int (nI 12), .ref 133]) (h' := HN g hl (RF rt)) rfl ?_
    refine Ev.call (a := 43) (as := [.ref 133, .int (nI 12)]) (rest := []) (lv0 := [(0, .ref 133), (1, .int (nI 12))]) (Q1 := (fun z0 h' => z0 = none ∧ h' = HN (ptLn g 133 20 12) hl (RF rt))) rfl rfl (K_put _ g _ _ 133 20 (ln133 rt) 12 (by omega) ⟨rfl, rfl⟩) (fun r h' hr => ?_)
    obtain ⟨rfl, rfl⟩ := hr
    refine Ev.run 5 (pc' := 49) (lv' := [(7, .int (nI 12)), (6, .int (nI 0)), (0, .ref 132), (1, .int (nI 0)), (2, .ref (60 + 2 * i)), (3, .int (nI 2)), (4, .int (x)), (5, .int (nI dp))]) (st' := [.int (nI ((ptLn g 133 20 12) 132 1) + nI 1), .ref 132]) (h' := HN (ptLn g 133 20 12) hl (RF rt)) rfl ?_
    refine Ev.topI (nI_add _ _) ?_
    refine Ev.run 1 (pc' := 52) (lv' := [(7, .int (nI 12)), (6, .int (nI 0)), (0, .ref 132), (1, .int (nI 0)), (2, .ref (60 + 2 * i)), (3, .int (nI 2)), (4, .int (x)), (5, .int (nI dp))]) (st' := []) (h' := setI (HN (ptLn g 133 20 12) hl (RF rt)) 132 1 (nI (((ptLn g 133 20 12) 132 1) + 1))) rfl ?_
    refine Ev.hp (HN_set _ _ _ _ _ _) ?_
    refine Ev.hp (congrArg (fun z => HN z hl (RF rt)) (show u2 (ptLn g 133 20 12) 132 1 ((ptLn g 133 20 12) 132 1 + 1) = bdC g [12] by rw [show ptLn g 133 20 12 132 1 = g 132 1 from by unfold ptLn; split; rw [u2_ne _ (Or.inl (by decide)), u2_ne _ (Or.inl (by decide))]; rfl]; exact bdC_1 h133 12)) ?_
    refine Ev.run 1 (pc' := 53) (lv' := [(7, .int (nI 12)), (6, .int (nI 0)), (0, .ref 132), (1, .int (nI 0)), (2, .ref (60 + 2 * i)), (3, .int (nI 2)), (4, .int (x)), (5, .int (nI dp))]) (st' := [.ref (60 + 2 * i)]) (h' := HN (bdC g [12]) hl (RF rt)) rfl ?_
    refine Ev_gfI rfl rfl rfl (kcP (show i < 5 by omega)) ?_
    refine Ev.topI (congrArg nI (((bdC_ne _ _ (by omega) _).trans hK))) ?_
    refine Ev.run 3 (pc' := 63) (lv' := [(8, .int (nI 0)), (7, .int (nI 12)), (6, .int (nI 0)), (0, .ref 132), (1, .int (nI 0)), (2, .ref (60 + 2 * i)), (3, .int (nI 2)), (4, .int (x)), (5, .int (nI dp))]) (st' := [.int (nI 0), .retAddr 1]) (h' := HN (bdC g [12]) hl (RF rt)) rfl ?_
    refine Ev_xald rfl (by decide) (show 0 < 7 by omega) (show 7 < 2 ^ 31 by decide) ?_
    refine Ev.topI (show xVal xs 1 0 = nI 4294967295 from rfl) ?_
    refine Ev.run 4 (pc' := 70) (lv' := [(9, .int (nI 4294967295)), (8, .int (nI 0)), (7, .int (nI 12)), (6, .int (nI 0)), (0, .ref 132), (1, .int (nI 0)), (2, .ref (60 + 2 * i)), (3, .int (nI 2)), (4, .int (x)), (5, .int (nI dp))]) (st' := [.int (nI dp + nI 1)]) (h' := HN (bdC g [12]) hl (RF rt)) rfl ?_
    refine Ev.topI (nI_add _ _) ?_
    refine Ev.run 9 (pc' := 207) (lv' := [(10, .int (nI (dp + 1))), (9, .int (nI 4294967295)), (8, .int (nI 0)), (7, .int (nI 12)), (6, .int (nI 0)), (0, .ref 132), (1, .int (nI 0)), (2, .ref (60 + 2 * i)), (3, .int (nI 2)), (4, .int (x)), (5, .int (nI dp))]) (st' := [.int (nI (dp + 1)), .int (x), .int (nI 1), .ref (60 + 2 * i), .int (nI 0), .ref 132]) (h' := HN (bdC g [12]) hl (RF rt)) rfl ?_
    refine Ev.call (a := 4) (as := [.ref 132, .int (nI 0), .ref (60 + 2 * i), .int (nI 1), .int (x), .int (nI (dp + 1))]) (rest := []) (lv0 := [(0, .ref 132), (1, .int (nI 0)), (2, .ref (60 + 2 * i)), (3, .int (nI 1)), (4, .int (x)), (5, .int (nI (dp + 1)))]) (Q1 := (fun z0 h' => z0 = some (.int ((x + nI i) - nI v)) ∧ h' = HN (bdC g [12, 11, 10]) hl (RF rt))) rfl rfl (K_rf0_0_1 _ (bdC g [12]) _ _ (x) i v (dp + 1) hi hv (by rw [bdC_s]; split <;> omega) (by rw [bdC_ne _ _ (by omega)]; exact hN) (by rw [bdC_ne _ _ (by omega)]; exact hK) (by rw [bdC_ne _ _ (by omega)]; exact hv3) (by omega) ⟨rfl, congrArg (fun z => HN z hl (RF rt)) (bdC_c h133 _ _)⟩) (fun r h' hr => ?_)
    obtain ⟨rfl, rfl⟩ := hr
    refine Ev.run 2 (pc' := 212) (lv' := [(10, .int (nI (dp + 1))), (9, .int (nI 4294967295)), (8, .int (nI 0)), (7, .int (nI 12)), (6, .int (nI 0)), (0, .ref 132), (1, .int (nI 0)), (2, .ref (60 + 2 * i)), (3, .int (nI 2)), (4, .int (x)), (5, .int (nI dp))]) (st' := [.int (((x + nI i) - nI v) * nI 2)]) (h' := HN (bdC g [12, 11, 10]) hl (RF rt)) rfl ?_
    refine Ev.ret (v := some (.int (((x + nI i) - nI v) * nI 2))) rfl ?_
    first | exact hq | (exfalso; omega)
  · have hc16 : ¬ (dp < 20) := fun z => hc16 ((nI_ltI (by omega) (by omega)).mpr z)
    refine Ev.run 1 (pc' := 20) (lv' := [(6, .int (nI 0)), (0, .ref 132), (1, .int (nI 0)), (2, .ref (60 + 2 * i)), (3, .int (nI 2)), (4, .int (x)), (5, .int (nI dp))]) (st' := [.int (nI 0)]) (h' := HN g hl (RF rt)) rfl ?_
    refine Ev.ret (v := some (.int (nI 0))) rfl ?_
    first | exact hq | (exfalso; omega)
theorem K_rf1_1_0 {L : Nat} {xs : Nat → Int32} (d : Nat) (g : Nat → Nat → Nat) (hl : Nat → Nat → Int64) (rt : Nat × Nat × Nat × Nat) (x : Int32) (i v dp : Nat) (hi : i < 5) (hv : v < 2 ^ 31) (h133 : g 133 1 ≤ 20) (hN : g (60 + 2 * i) 1 = i) (hK : g (60 + 2 * i) 2 = 1) (hv3 : g (60 + 2 * i) 3 = v) (hdp : dp ≤ 18) {Q : Po} (hq : Q (some (.int (x + nI i))) (HN (bdC g [10]) hl (RF rt))) : Ev L xs (d + 3) 4 0 [(0, .ref 132), (1, .int (nI 1)), (2, .ref (60 + 2 * i)), (3, .int (nI 0)), (4, .int (x)), (5, .int (nI dp))] [] (HN g hl (RF rt)) Q := by
  refine Ev.run 2 (pc' := 2) (lv' := [(0, .ref 132), (1, .int (nI 1)), (2, .ref (60 + 2 * i)), (3, .int (nI 0)), (4, .int (x)), (5, .int (nI dp))]) (st' := [.int (nI 0), .int (nI 1)]) (h' := HN g hl (RF rt)) rfl ?_
  refine Ev.call (a := 5) (as := [.int (nI 1), .int (nI 0)]) (rest := []) (lv0 := [(0, .int (nI 1)), (1, .int (nI 0))]) (Q1 := (fun z0 h' => z0 = some (.int (nI 0)) ∧ h' = HN g hl (RF rt))) rfl rfl (K_own10 _ _ _ _ ⟨rfl, rfl⟩) (fun r h' hr => ?_)
  obtain ⟨rfl, rfl⟩ := hr
  refine Ev.run 6 (pc' := (if nI dp < nI 20 then 21 else 19)) (lv' := [(6, .int (nI 0)), (0, .ref 132), (1, .int (nI 1)), (2, .ref (60 + 2 * i)), (3, .int (nI 0)), (4, .int (x)), (5, .int (nI dp))]) (st' := []) (h' := HN g hl (RF rt)) rfl ?_
  refine Ev.ite (fun hc16 => ?_) (fun hc16 => ?_)
  · have hc16 : dp < 20 := (nI_ltI (by omega) (by omega)).mp hc16
    refine Ev.run 6 (pc' := 30) (lv' := [(6, .int (nI 0)), (0, .ref 132), (1, .int (nI 1)), (2, .ref (60 + 2 * i)), (3, .int (nI 0)), (4, .int (x)), (5, .int (nI dp))]) (st' := [.int (nI 0), .retAddr 2]) (h' := HN g hl (RF rt)) rfl ?_
    refine Ev_xald rfl (by decide) (show 0 < 21 by omega) (show 21 < 2 ^ 31 by decide) ?_
    refine Ev.topI (show xVal xs 2 0 = nI 10 from rfl) ?_
    refine Ev.run 4 (pc' := 39) (lv' := [(7, .int (nI 10)), (6, .int (nI 0)), (0, .ref 132), (1, .int (nI 1)), (2, .ref (60 + 2 * i)), (3, .int (nI 0)), (4, .int (x)), (5, .int (nI dp))]) (st' := [.int (nI 10), .ref 133]) (h' := HN g hl (RF rt)) rfl ?_
    refine Ev.call (a := 43) (as := [.ref 133, .int (nI 10)]) (rest := []) (lv0 := [(0, .ref 133), (1, .int (nI 10))]) (Q1 := (fun z0 h' => z0 = none ∧ h' = HN (ptLn g 133 20 10) hl (RF rt))) rfl rfl (K_put _ g _ _ 133 20 (ln133 rt) 10 (by omega) ⟨rfl, rfl⟩) (fun r h' hr => ?_)
    obtain ⟨rfl, rfl⟩ := hr
    refine Ev.run 5 (pc' := 49) (lv' := [(7, .int (nI 10)), (6, .int (nI 0)), (0, .ref 132), (1, .int (nI 1)), (2, .ref (60 + 2 * i)), (3, .int (nI 0)), (4, .int (x)), (5, .int (nI dp))]) (st' := [.int (nI ((ptLn g 133 20 10) 132 1) + nI 1), .ref 132]) (h' := HN (ptLn g 133 20 10) hl (RF rt)) rfl ?_
    refine Ev.topI (nI_add _ _) ?_
    refine Ev.run 1 (pc' := 52) (lv' := [(7, .int (nI 10)), (6, .int (nI 0)), (0, .ref 132), (1, .int (nI 1)), (2, .ref (60 + 2 * i)), (3, .int (nI 0)), (4, .int (x)), (5, .int (nI dp))]) (st' := []) (h' := setI (HN (ptLn g 133 20 10) hl (RF rt)) 132 1 (nI (((ptLn g 133 20 10) 132 1) + 1))) rfl ?_
    refine Ev.hp (HN_set _ _ _ _ _ _) ?_
    refine Ev.hp (congrArg (fun z => HN z hl (RF rt)) (show u2 (ptLn g 133 20 10) 132 1 ((ptLn g 133 20 10) 132 1 + 1) = bdC g [10] by rw [show ptLn g 133 20 10 132 1 = g 132 1 from by unfold ptLn; split; rw [u2_ne _ (Or.inl (by decide)), u2_ne _ (Or.inl (by decide))]; rfl]; exact bdC_1 h133 10)) ?_
    refine Ev.run 1 (pc' := 53) (lv' := [(7, .int (nI 10)), (6, .int (nI 0)), (0, .ref 132), (1, .int (nI 1)), (2, .ref (60 + 2 * i)), (3, .int (nI 0)), (4, .int (x)), (5, .int (nI dp))]) (st' := [.ref (60 + 2 * i)]) (h' := HN (bdC g [10]) hl (RF rt)) rfl ?_
    refine Ev_gfI rfl rfl rfl (kcP (show i < 5 by omega)) ?_
    refine Ev.topI (congrArg nI (((bdC_ne _ _ (by omega) _).trans hK))) ?_
    refine Ev.run 3 (pc' := 63) (lv' := [(8, .int (nI 1)), (7, .int (nI 10)), (6, .int (nI 0)), (0, .ref 132), (1, .int (nI 1)), (2, .ref (60 + 2 * i)), (3, .int (nI 0)), (4, .int (x)), (5, .int (nI dp))]) (st' := [.int (nI 0), .retAddr 1]) (h' := HN (bdC g [10]) hl (RF rt)) rfl ?_
    refine Ev_xald rfl (by decide) (show 0 < 7 by omega) (show 7 < 2 ^ 31 by decide) ?_
    refine Ev.topI (show xVal xs 1 0 = nI 4294967295 from rfl) ?_
    refine Ev.run 4 (pc' := 70) (lv' := [(9, .int (nI 4294967295)), (8, .int (nI 1)), (7, .int (nI 10)), (6, .int (nI 0)), (0, .ref 132), (1, .int (nI 1)), (2, .ref (60 + 2 * i)), (3, .int (nI 0)), (4, .int (x)), (5, .int (nI dp))]) (st' := [.int (nI dp + nI 1)]) (h' := HN (bdC g [10]) hl (RF rt)) rfl ?_
    refine Ev.topI (nI_add _ _) ?_
    refine Ev.run 5 (pc' := 175) (lv' := [(10, .int (nI (dp + 1))), (9, .int (nI 4294967295)), (8, .int (nI 1)), (7, .int (nI 10)), (6, .int (nI 0)), (0, .ref 132), (1, .int (nI 1)), (2, .ref (60 + 2 * i)), (3, .int (nI 0)), (4, .int (x)), (5, .int (nI dp))]) (st' := [.ref (60 + 2 * i), .int (x)]) (h' := HN (bdC g [10]) hl (RF rt)) rfl ?_
    refine Ev_gfI rfl rfl rfl (kcP (show i < 5 by omega)) ?_
    refine Ev.topI (congrArg nI (((bdC_ne _ _ (by omega) _).trans hN))) ?_
    refine Ev.run 1 (pc' := 179) (lv' := [(10, .int (nI (dp + 1))), (9, .int (nI 4294967295)), (8, .int (nI 1)), (7, .int (nI 10)), (6, .int (nI 0)), (0, .ref 132), (1, .int (nI 1)), (2, .ref (60 + 2 * i)), (3, .int (nI 0)), (4, .int (x)), (5, .int (nI dp))]) (st' := [.int (x + nI i)]) (h' := HN (bdC g [10]) hl (RF rt)) rfl ?_
    refine Ev.ret (v := some (.int (x + nI i))) rfl ?_
    first | exact hq | (exfalso; omega)
  · have hc16 : ¬ (dp < 20) := fun z => hc16 ((nI_ltI (by omega) (by omega)).mpr z)
    refine Ev.run 1 (pc' := 20) (lv' := [(6, .int (nI 0)), (0, .ref 132), (1, .int (nI 1)), (2, .ref (60 + 2 * i)), (3, .int (nI 0)), (4, .int (x)), (5, .int (nI dp))]) (st' := [.int (nI 0)]) (h' := HN g hl (RF rt)) rfl ?_
    refine Ev.ret (v := some (.int (nI 0))) rfl ?_
    first | exact hq | (exfalso; omega)
theorem K_rf1_0_1 {L : Nat} {xs : Nat → Int32} (d : Nat) (g : Nat → Nat → Nat) (hl : Nat → Nat → Int64) (rt : Nat × Nat × Nat × Nat) (x : Int32) (i v dp : Nat) (hi : i < 5) (hv : v < 2 ^ 31) (h133 : g 133 1 ≤ 20) (hN : g (60 + 2 * i) 1 = i) (hK : g (60 + 2 * i) 2 = 1) (hv3 : g (60 + 2 * i) 3 = v) (hdp : dp ≤ 17) {Q : Po} (hq : Q (some (.int ((x + nI i) - nI v))) (HN (bdC g [11, 10]) hl (RF rt))) : Ev L xs (d + 4) 4 0 [(0, .ref 132), (1, .int (nI 0)), (2, .ref (60 + 2 * i)), (3, .int (nI 1)), (4, .int (x)), (5, .int (nI dp))] [] (HN g hl (RF rt)) Q := by
  refine Ev.run 2 (pc' := 2) (lv' := [(0, .ref 132), (1, .int (nI 0)), (2, .ref (60 + 2 * i)), (3, .int (nI 1)), (4, .int (x)), (5, .int (nI dp))]) (st' := [.int (nI 1), .int (nI 0)]) (h' := HN g hl (RF rt)) rfl ?_
  refine Ev.call (a := 5) (as := [.int (nI 0), .int (nI 1)]) (rest := []) (lv0 := [(0, .int (nI 0)), (1, .int (nI 1))]) (Q1 := (fun z0 h' => z0 = some (.int (nI 0)) ∧ h' = HN g hl (RF rt))) rfl rfl (K_own01 _ _ _ _ ⟨rfl, rfl⟩) (fun r h' hr => ?_)
  obtain ⟨rfl, rfl⟩ := hr
  refine Ev.run 6 (pc' := (if nI dp < nI 20 then 21 else 19)) (lv' := [(6, .int (nI 0)), (0, .ref 132), (1, .int (nI 0)), (2, .ref (60 + 2 * i)), (3, .int (nI 1)), (4, .int (x)), (5, .int (nI dp))]) (st' := []) (h' := HN g hl (RF rt)) rfl ?_
  refine Ev.ite (fun hc16 => ?_) (fun hc16 => ?_)
  · have hc16 : dp < 20 := (nI_ltI (by omega) (by omega)).mp hc16
    refine Ev.run 6 (pc' := 30) (lv' := [(6, .int (nI 0)), (0, .ref 132), (1, .int (nI 0)), (2, .ref (60 + 2 * i)), (3, .int (nI 1)), (4, .int (x)), (5, .int (nI dp))]) (st' := [.int (nI 1), .retAddr 2]) (h' := HN g hl (RF rt)) rfl ?_
    refine Ev_xald rfl (by decide) (show 1 < 21 by omega) (show 21 < 2 ^ 31 by decide) ?_
    refine Ev.topI (show xVal xs 2 1 = nI 11 from rfl) ?_
    refine Ev.run 4 (pc' := 39) (lv' := [(7, .int (nI 11)), (6, .int (nI 0)), (0, .ref 132), (1, .int (nI 0)), (2, .ref (60 + 2 * i)), (3, .int (nI 1)), (4, .int (x)), (5, .int (nI dp))]) (st' := [.int (nI 11), .ref 133]) (h' := HN g hl (RF rt)) rfl ?_
    refine Ev.call (a := 43) (as := [.ref 133, .int (nI 11)]) (rest := []) (lv0 := [(0, .ref 133), (1, .int (nI 11))]) (Q1 := (fun z0 h' => z0 = none ∧ h' = HN (ptLn g 133 20 11) hl (RF rt))) rfl rfl (K_put _ g _ _ 133 20 (ln133 rt) 11 (by omega) ⟨rfl, rfl⟩) (fun r h' hr => ?_)
    obtain ⟨rfl, rfl⟩ := hr
    refine Ev.run 5 (pc' := 49) (lv' := [(7, .int (nI 11)), (6, .int (nI 0)), (0, .ref 132), (1, .int (nI 0)), (2, .ref (60 + 2 * i)), (3, .int (nI 1)), (4, .int (x)), (5, .int (nI dp))]) (st' := [.int (nI ((ptLn g 133 20 11) 132 1) + nI 1), .ref 132]) (h' := HN (ptLn g 133 20 11) hl (RF rt)) rfl ?_
    refine Ev.topI (nI_add _ _) ?_
    refine Ev.run 1 (pc' := 52) (lv' := [(7, .int (nI 11)), (6, .int (nI 0)), (0, .ref 132), (1, .int (nI 0)), (2, .ref (60 + 2 * i)), (3, .int (nI 1)), (4, .int (x)), (5, .int (nI dp))]) (st' := []) (h' := setI (HN (ptLn g 133 20 11) hl (RF rt)) 132 1 (nI (((ptLn g 133 20 11) 132 1) + 1))) rfl ?_
    refine Ev.hp (HN_set _ _ _ _ _ _) ?_
    refine Ev.hp (congrArg (fun z => HN z hl (RF rt)) (show u2 (ptLn g 133 20 11) 132 1 ((ptLn g 133 20 11) 132 1 + 1) = bdC g [11] by rw [show ptLn g 133 20 11 132 1 = g 132 1 from by unfold ptLn; split; rw [u2_ne _ (Or.inl (by decide)), u2_ne _ (Or.inl (by decide))]; rfl]; exact bdC_1 h133 11)) ?_
    refine Ev.run 1 (pc' := 53) (lv' := [(7, .int (nI 11)), (6, .int (nI 0)), (0, .ref 132), (1, .int (nI 0)), (2, .ref (60 + 2 * i)), (3, .int (nI 1)), (4, .int (x)), (5, .int (nI dp))]) (st' := [.ref (60 + 2 * i)]) (h' := HN (bdC g [11]) hl (RF rt)) rfl ?_
    refine Ev_gfI rfl rfl rfl (kcP (show i < 5 by omega)) ?_
    refine Ev.topI (congrArg nI (((bdC_ne _ _ (by omega) _).trans hK))) ?_
    refine Ev.run 3 (pc' := 63) (lv' := [(8, .int (nI 1)), (7, .int (nI 11)), (6, .int (nI 0)), (0, .ref 132), (1, .int (nI 0)), (2, .ref (60 + 2 * i)), (3, .int (nI 1)), (4, .int (x)), (5, .int (nI dp))]) (st' := [.int (nI 0), .retAddr 1]) (h' := HN (bdC g [11]) hl (RF rt)) rfl ?_
    refine Ev_xald rfl (by decide) (show 0 < 7 by omega) (show 7 < 2 ^ 31 by decide) ?_
    refine Ev.topI (show xVal xs 1 0 = nI 4294967295 from rfl) ?_
    refine Ev.run 4 (pc' := 70) (lv' := [(9, .int (nI 4294967295)), (8, .int (nI 1)), (7, .int (nI 11)), (6, .int (nI 0)), (0, .ref 132), (1, .int (nI 0)), (2, .ref (60 + 2 * i)), (3, .int (nI 1)), (4, .int (x)), (5, .int (nI dp))]) (st' := [.int (nI dp + nI 1)]) (h' := HN (bdC g [11]) hl (RF rt)) rfl ?_
    refine Ev.topI (nI_add _ _) ?_
    refine Ev.run 9 (pc' := 189) (lv' := [(10, .int (nI (dp + 1))), (9, .int (nI 4294967295)), (8, .int (nI 1)), (7, .int (nI 11)), (6, .int (nI 0)), (0, .ref 132), (1, .int (nI 0)), (2, .ref (60 + 2 * i)), (3, .int (nI 1)), (4, .int (x)), (5, .int (nI dp))]) (st' := [.int (nI (dp + 1)), .int (x), .int (nI 0), .ref (60 + 2 * i), .int (nI 1), .ref 132]) (h' := HN (bdC g [11]) hl (RF rt)) rfl ?_
    refine Ev.call (a := 4) (as := [.ref 132, .int (nI 1), .ref (60 + 2 * i), .int (nI 0), .int (x), .int (nI (dp + 1))]) (rest := []) (lv0 := [(0, .ref 132), (1, .int (nI 1)), (2, .ref (60 + 2 * i)), (3, .int (nI 0)), (4, .int (x)), (5, .int (nI (dp + 1)))]) (Q1 := (fun z0 h' => z0 = some (.int (x + nI i)) ∧ h' = HN (bdC g [11, 10]) hl (RF rt))) rfl rfl (K_rf1_1_0 _ (bdC g [11]) _ _ (x) i v (dp + 1) hi hv (by rw [bdC_s]; split <;> omega) (by rw [bdC_ne _ _ (by omega)]; exact hN) (by rw [bdC_ne _ _ (by omega)]; exact hK) (by rw [bdC_ne _ _ (by omega)]; exact hv3) (by omega) ⟨rfl, congrArg (fun z => HN z hl (RF rt)) (bdC_c h133 _ _)⟩) (fun r h' hr => ?_)
    obtain ⟨rfl, rfl⟩ := hr
    refine Ev.run 1 (pc' := 193) (lv' := [(10, .int (nI (dp + 1))), (9, .int (nI 4294967295)), (8, .int (nI 1)), (7, .int (nI 11)), (6, .int (nI 0)), (0, .ref 132), (1, .int (nI 0)), (2, .ref (60 + 2 * i)), (3, .int (nI 1)), (4, .int (x)), (5, .int (nI dp))]) (st' := [.ref (60 + 2 * i), .int (x + nI i)]) (h' := HN (bdC g [11, 10]) hl (RF rt)) rfl ?_
    refine Ev_gfI rfl rfl rfl (kcP (show i < 5 by omega)) ?_
    refine Ev.topI (congrArg nI (((bdC_ne _ _ (by omega) _).trans hv3))) ?_
    refine Ev.run 1 (pc' := 197) (lv' := [(10, .int (nI (dp + 1))), (9, .int (nI 4294967295)), (8, .int (nI 1)), (7, .int (nI 11)), (6, .int (nI 0)), (0, .ref 132), (1, .int (nI 0)), (2, .ref (60 + 2 * i)), (3, .int (nI 1)), (4, .int (x)), (5, .int (nI dp))]) (st' := [.int ((x + nI i) - nI v)]) (h' := HN (bdC g [11, 10]) hl (RF rt)) rfl ?_
    refine Ev.ret (v := some (.int ((x + nI i) - nI v))) rfl ?_
    first | exact hq | (exfalso; omega)
  · have hc16 : ¬ (dp < 20) := fun z => hc16 ((nI_ltI (by omega) (by omega)).mpr z)
    refine Ev.run 1 (pc' := 20) (lv' := [(6, .int (nI 0)), (0, .ref 132), (1, .int (nI 0)), (2, .ref (60 + 2 * i)), (3, .int (nI 1)), (4, .int (x)), (5, .int (nI dp))]) (st' := [.int (nI 0)]) (h' := HN g hl (RF rt)) rfl ?_
    refine Ev.ret (v := some (.int (nI 0))) rfl ?_
    first | exact hq | (exfalso; omega)
theorem K_rf1_1_1 {L : Nat} {xs : Nat → Int32} (d : Nat) (g : Nat → Nat → Nat) (hl : Nat → Nat → Int64) (rt : Nat × Nat × Nat × Nat) (x : Int32) (i v dp : Nat) (hi : i < 5) (hv : v < 2 ^ 31) (h133 : g 133 1 ≤ 20) (hN : g (60 + 2 * i) 1 = i) (hK : g (60 + 2 * i) 2 = 1) (hv3 : g (60 + 2 * i) 3 = v) (hdp : dp ≤ 16) {Q : Po} (hq : Q (some (.int (((x + nI i) - nI v) ^^^ nI 6))) (HN (bdC g [20, 11, 10]) hl (RF rt))) : Ev L xs (d + 5) 4 0 [(0, .ref 132), (1, .int (nI 1)), (2, .ref (60 + 2 * i)), (3, .int (nI 1)), (4, .int (x)), (5, .int (nI dp))] [] (HN g hl (RF rt)) Q := by
  refine Ev.run 2 (pc' := 2) (lv' := [(0, .ref 132), (1, .int (nI 1)), (2, .ref (60 + 2 * i)), (3, .int (nI 1)), (4, .int (x)), (5, .int (nI dp))]) (st' := [.int (nI 1), .int (nI 1)]) (h' := HN g hl (RF rt)) rfl ?_
  refine Ev.call (a := 5) (as := [.int (nI 1), .int (nI 1)]) (rest := []) (lv0 := [(0, .int (nI 1)), (1, .int (nI 1))]) (Q1 := (fun z0 h' => z0 = some (.int (nI 1)) ∧ h' = HN g hl (RF rt))) rfl rfl (K_own11 _ _ _ _ ⟨rfl, rfl⟩) (fun r h' hr => ?_)
  obtain ⟨rfl, rfl⟩ := hr
  refine Ev.run 6 (pc' := (if nI dp < nI 20 then 21 else 19)) (lv' := [(6, .int (nI 1)), (0, .ref 132), (1, .int (nI 1)), (2, .ref (60 + 2 * i)), (3, .int (nI 1)), (4, .int (x)), (5, .int (nI dp))]) (st' := []) (h' := HN g hl (RF rt)) rfl ?_
  refine Ev.ite (fun hc16 => ?_) (fun hc16 => ?_)
  · have hc16 : dp < 20 := (nI_ltI (by omega) (by omega)).mp hc16
    refine Ev.run 6 (pc' := 30) (lv' := [(6, .int (nI 1)), (0, .ref 132), (1, .int (nI 1)), (2, .ref (60 + 2 * i)), (3, .int (nI 1)), (4, .int (x)), (5, .int (nI dp))]) (st' := [.int (nI 4), .retAddr 2]) (h' := HN g hl (RF rt)) rfl ?_
    refine Ev_xald rfl (by decide) (show 4 < 21 by omega) (show 21 < 2 ^ 31 by decide) ?_
    refine Ev.topI (show xVal xs 2 4 = nI 20 from rfl) ?_
    refine Ev.run 4 (pc' := 39) (lv' := [(7, .int (nI 20)), (6, .int (nI 1)), (0, .ref 132), (1, .int (nI 1)), (2, .ref (60 + 2 * i)), (3, .int (nI 1)), (4, .int (x)), (5, .int (nI dp))]) (st' := [.int (nI 20), .ref 133]) (h' := HN g hl (RF rt)) rfl ?_
    refine Ev.call (a := 43) (as := [.ref 133, .int (nI 20)]) (rest := []) (lv0 := [(0, .ref 133), (1, .int (nI 20))]) (Q1 := (fun z0 h' => z0 = none ∧ h' = HN (ptLn g 133 20 20) hl (RF rt))) rfl rfl (K_put _ g _ _ 133 20 (ln133 rt) 20 (by omega) ⟨rfl, rfl⟩) (fun r h' hr => ?_)
    obtain ⟨rfl, rfl⟩ := hr
    refine Ev.run 5 (pc' := 49) (lv' := [(7, .int (nI 20)), (6, .int (nI 1)), (0, .ref 132), (1, .int (nI 1)), (2, .ref (60 + 2 * i)), (3, .int (nI 1)), (4, .int (x)), (5, .int (nI dp))]) (st' := [.int (nI ((ptLn g 133 20 20) 132 1) + nI 1), .ref 132]) (h' := HN (ptLn g 133 20 20) hl (RF rt)) rfl ?_
    refine Ev.topI (nI_add _ _) ?_
    refine Ev.run 1 (pc' := 52) (lv' := [(7, .int (nI 20)), (6, .int (nI 1)), (0, .ref 132), (1, .int (nI 1)), (2, .ref (60 + 2 * i)), (3, .int (nI 1)), (4, .int (x)), (5, .int (nI dp))]) (st' := []) (h' := setI (HN (ptLn g 133 20 20) hl (RF rt)) 132 1 (nI (((ptLn g 133 20 20) 132 1) + 1))) rfl ?_
    refine Ev.hp (HN_set _ _ _ _ _ _) ?_
    refine Ev.hp (congrArg (fun z => HN z hl (RF rt)) (show u2 (ptLn g 133 20 20) 132 1 ((ptLn g 133 20 20) 132 1 + 1) = bdC g [20] by rw [show ptLn g 133 20 20 132 1 = g 132 1 from by unfold ptLn; split; rw [u2_ne _ (Or.inl (by decide)), u2_ne _ (Or.inl (by decide))]; rfl]; exact bdC_1 h133 20)) ?_
    refine Ev.run 1 (pc' := 53) (lv' := [(7, .int (nI 20)), (6, .int (nI 1)), (0, .ref 132), (1, .int (nI 1)), (2, .ref (60 + 2 * i)), (3, .int (nI 1)), (4, .int (x)), (5, .int (nI dp))]) (st' := [.ref (60 + 2 * i)]) (h' := HN (bdC g [20]) hl (RF rt)) rfl ?_
    refine Ev_gfI rfl rfl rfl (kcP (show i < 5 by omega)) ?_
    refine Ev.topI (congrArg nI (((bdC_ne _ _ (by omega) _).trans hK))) ?_
    refine Ev.run 3 (pc' := 63) (lv' := [(8, .int (nI 1)), (7, .int (nI 20)), (6, .int (nI 1)), (0, .ref 132), (1, .int (nI 1)), (2, .ref (60 + 2 * i)), (3, .int (nI 1)), (4, .int (x)), (5, .int (nI dp))]) (st' := [.int (nI 1), .retAddr 1]) (h' := HN (bdC g [20]) hl (RF rt)) rfl ?_
    refine Ev_xald rfl (by decide) (show 1 < 7 by omega) (show 7 < 2 ^ 31 by decide) ?_
    refine Ev.topI (show xVal xs 1 1 = nI 0 from rfl) ?_
    refine Ev.run 4 (pc' := 70) (lv' := [(9, .int (nI 0)), (8, .int (nI 1)), (7, .int (nI 20)), (6, .int (nI 1)), (0, .ref 132), (1, .int (nI 1)), (2, .ref (60 + 2 * i)), (3, .int (nI 1)), (4, .int (x)), (5, .int (nI dp))]) (st' := [.int (nI dp + nI 1)]) (h' := HN (bdC g [20]) hl (RF rt)) rfl ?_
    refine Ev.topI (nI_add _ _) ?_
    refine Ev.run 9 (pc' := 222) (lv' := [(10, .int (nI (dp + 1))), (9, .int (nI 0)), (8, .int (nI 1)), (7, .int (nI 20)), (6, .int (nI 1)), (0, .ref 132), (1, .int (nI 1)), (2, .ref (60 + 2 * i)), (3, .int (nI 1)), (4, .int (x)), (5, .int (nI dp))]) (st' := [.int (nI (dp + 1)), .int (x), .int (nI 1), .ref (60 + 2 * i), .int (nI 0), .ref 132]) (h' := HN (bdC g [20]) hl (RF rt)) rfl ?_
    refine Ev.call (a := 4) (as := [.ref 132, .int (nI 0), .ref (60 + 2 * i), .int (nI 1), .int (x), .int (nI (dp + 1))]) (rest := []) (lv0 := [(0, .ref 132), (1, .int (nI 0)), (2, .ref (60 + 2 * i)), (3, .int (nI 1)), (4, .int (x)), (5, .int (nI (dp + 1)))]) (Q1 := (fun z0 h' => z0 = some (.int ((x + nI i) - nI v)) ∧ h' = HN (bdC g [20, 11, 10]) hl (RF rt))) rfl rfl (K_rf1_0_1 _ (bdC g [20]) _ _ (x) i v (dp + 1) hi hv (by rw [bdC_s]; split <;> omega) (by rw [bdC_ne _ _ (by omega)]; exact hN) (by rw [bdC_ne _ _ (by omega)]; exact hK) (by rw [bdC_ne _ _ (by omega)]; exact hv3) (by omega) ⟨rfl, congrArg (fun z => HN z hl (RF rt)) (bdC_c h133 _ _)⟩) (fun r h' hr => ?_)
    obtain ⟨rfl, rfl⟩ := hr
    refine Ev.run 2 (pc' := 228) (lv' := [(10, .int (nI (dp + 1))), (9, .int (nI 0)), (8, .int (nI 1)), (7, .int (nI 20)), (6, .int (nI 1)), (0, .ref 132), (1, .int (nI 1)), (2, .ref (60 + 2 * i)), (3, .int (nI 1)), (4, .int (x)), (5, .int (nI dp))]) (st' := [.int (((x + nI i) - nI v) ^^^ nI 6)]) (h' := HN (bdC g [20, 11, 10]) hl (RF rt)) rfl ?_
    refine Ev.ret (v := some (.int (((x + nI i) - nI v) ^^^ nI 6))) rfl ?_
    first | exact hq | (exfalso; omega)
  · have hc16 : ¬ (dp < 20) := fun z => hc16 ((nI_ltI (by omega) (by omega)).mpr z)
    refine Ev.run 1 (pc' := 20) (lv' := [(6, .int (nI 1)), (0, .ref 132), (1, .int (nI 1)), (2, .ref (60 + 2 * i)), (3, .int (nI 1)), (4, .int (x)), (5, .int (nI dp))]) (st' := [.int (nI 0)]) (h' := HN g hl (RF rt)) rfl ?_
    refine Ev.ret (v := some (.int (nI 0))) rfl ?_
    first | exact hq | (exfalso; omega)
theorem K_rf1_1_2 {L : Nat} {xs : Nat → Int32} (d : Nat) (g : Nat → Nat → Nat) (hl : Nat → Nat → Int64) (rt : Nat × Nat × Nat × Nat) (x : Int32) (i v dp : Nat) (hi : i < 5) (hv : v < 2 ^ 31) (h133 : g 133 1 ≤ 20) (hN : g (60 + 2 * i) 1 = i) (hK : g (60 + 2 * i) 2 = 1) (hv3 : g (60 + 2 * i) 3 = v) (hdp : dp ≤ 15) {Q : Po} (hq : Q (some (.int ((((x + nI i) - nI v) ^^^ nI 6) * nI 2))) (HN (bdC g [12, 20, 11, 10]) hl (RF rt))) : Ev L xs (d + 6) 4 0 [(0, .ref 132), (1, .int (nI 1)), (2, .ref (60 + 2 * i)), (3, .int (nI 2)), (4, .int (x)), (5, .int (nI dp))] [] (HN g hl (RF rt)) Q := by
  refine Ev.run 2 (pc' := 2) (lv' := [(0, .ref 132), (1, .int (nI 1)), (2, .ref (60 + 2 * i)), (3, .int (nI 2)), (4, .int (x)), (5, .int (nI dp))]) (st' := [.int (nI 2), .int (nI 1)]) (h' := HN g hl (RF rt)) rfl ?_
  refine Ev.call (a := 5) (as := [.int (nI 1), .int (nI 2)]) (rest := []) (lv0 := [(0, .int (nI 1)), (1, .int (nI 2))]) (Q1 := (fun z0 h' => z0 = some (.int (nI 0)) ∧ h' = HN g hl (RF rt))) rfl rfl (K_own12 _ _ _ _ ⟨rfl, rfl⟩) (fun r h' hr => ?_)
  obtain ⟨rfl, rfl⟩ := hr
  refine Ev.run 6 (pc' := (if nI dp < nI 20 then 21 else 19)) (lv' := [(6, .int (nI 0)), (0, .ref 132), (1, .int (nI 1)), (2, .ref (60 + 2 * i)), (3, .int (nI 2)), (4, .int (x)), (5, .int (nI dp))]) (st' := []) (h' := HN g hl (RF rt)) rfl ?_
  refine Ev.ite (fun hc16 => ?_) (fun hc16 => ?_)
  · have hc16 : dp < 20 := (nI_ltI (by omega) (by omega)).mp hc16
    refine Ev.run 6 (pc' := 30) (lv' := [(6, .int (nI 0)), (0, .ref 132), (1, .int (nI 1)), (2, .ref (60 + 2 * i)), (3, .int (nI 2)), (4, .int (x)), (5, .int (nI dp))]) (st' := [.int (nI 2), .retAddr 2]) (h' := HN g hl (RF rt)) rfl ?_
    refine Ev_xald rfl (by decide) (show 2 < 21 by omega) (show 21 < 2 ^ 31 by decide) ?_
    refine Ev.topI (show xVal xs 2 2 = nI 12 from rfl) ?_
    refine Ev.run 4 (pc' := 39) (lv' := [(7, .int (nI 12)), (6, .int (nI 0)), (0, .ref 132), (1, .int (nI 1)), (2, .ref (60 + 2 * i)), (3, .int (nI 2)), (4, .int (x)), (5, .int (nI dp))]) (st' := [.int (nI 12), .ref 133]) (h' := HN g hl (RF rt)) rfl ?_
    refine Ev.call (a := 43) (as := [.ref 133, .int (nI 12)]) (rest := []) (lv0 := [(0, .ref 133), (1, .int (nI 12))]) (Q1 := (fun z0 h' => z0 = none ∧ h' = HN (ptLn g 133 20 12) hl (RF rt))) rfl rfl (K_put _ g _ _ 133 20 (ln133 rt) 12 (by omega) ⟨rfl, rfl⟩) (fun r h' hr => ?_)
    obtain ⟨rfl, rfl⟩ := hr
    refine Ev.run 5 (pc' := 49) (lv' := [(7, .int (nI 12)), (6, .int (nI 0)), (0, .ref 132), (1, .int (nI 1)), (2, .ref (60 + 2 * i)), (3, .int (nI 2)), (4, .int (x)), (5, .int (nI dp))]) (st' := [.int (nI ((ptLn g 133 20 12) 132 1) + nI 1), .ref 132]) (h' := HN (ptLn g 133 20 12) hl (RF rt)) rfl ?_
    refine Ev.topI (nI_add _ _) ?_
    refine Ev.run 1 (pc' := 52) (lv' := [(7, .int (nI 12)), (6, .int (nI 0)), (0, .ref 132), (1, .int (nI 1)), (2, .ref (60 + 2 * i)), (3, .int (nI 2)), (4, .int (x)), (5, .int (nI dp))]) (st' := []) (h' := setI (HN (ptLn g 133 20 12) hl (RF rt)) 132 1 (nI (((ptLn g 133 20 12) 132 1) + 1))) rfl ?_
    refine Ev.hp (HN_set _ _ _ _ _ _) ?_
    refine Ev.hp (congrArg (fun z => HN z hl (RF rt)) (show u2 (ptLn g 133 20 12) 132 1 ((ptLn g 133 20 12) 132 1 + 1) = bdC g [12] by rw [show ptLn g 133 20 12 132 1 = g 132 1 from by unfold ptLn; split; rw [u2_ne _ (Or.inl (by decide)), u2_ne _ (Or.inl (by decide))]; rfl]; exact bdC_1 h133 12)) ?_
    refine Ev.run 1 (pc' := 53) (lv' := [(7, .int (nI 12)), (6, .int (nI 0)), (0, .ref 132), (1, .int (nI 1)), (2, .ref (60 + 2 * i)), (3, .int (nI 2)), (4, .int (x)), (5, .int (nI dp))]) (st' := [.ref (60 + 2 * i)]) (h' := HN (bdC g [12]) hl (RF rt)) rfl ?_
    refine Ev_gfI rfl rfl rfl (kcP (show i < 5 by omega)) ?_
    refine Ev.topI (congrArg nI (((bdC_ne _ _ (by omega) _).trans hK))) ?_
    refine Ev.run 3 (pc' := 63) (lv' := [(8, .int (nI 1)), (7, .int (nI 12)), (6, .int (nI 0)), (0, .ref 132), (1, .int (nI 1)), (2, .ref (60 + 2 * i)), (3, .int (nI 2)), (4, .int (x)), (5, .int (nI dp))]) (st' := [.int (nI 0), .retAddr 1]) (h' := HN (bdC g [12]) hl (RF rt)) rfl ?_
    refine Ev_xald rfl (by decide) (show 0 < 7 by omega) (show 7 < 2 ^ 31 by decide) ?_
    refine Ev.topI (show xVal xs 1 0 = nI 4294967295 from rfl) ?_
    refine Ev.run 4 (pc' := 70) (lv' := [(9, .int (nI 4294967295)), (8, .int (nI 1)), (7, .int (nI 12)), (6, .int (nI 0)), (0, .ref 132), (1, .int (nI 1)), (2, .ref (60 + 2 * i)), (3, .int (nI 2)), (4, .int (x)), (5, .int (nI dp))]) (st' := [.int (nI dp + nI 1)]) (h' := HN (bdC g [12]) hl (RF rt)) rfl ?_
    refine Ev.topI (nI_add _ _) ?_
    refine Ev.run 9 (pc' := 207) (lv' := [(10, .int (nI (dp + 1))), (9, .int (nI 4294967295)), (8, .int (nI 1)), (7, .int (nI 12)), (6, .int (nI 0)), (0, .ref 132), (1, .int (nI 1)), (2, .ref (60 + 2 * i)), (3, .int (nI 2)), (4, .int (x)), (5, .int (nI dp))]) (st' := [.int (nI (dp + 1)), .int (x), .int (nI 1), .ref (60 + 2 * i), .int (nI 1), .ref 132]) (h' := HN (bdC g [12]) hl (RF rt)) rfl ?_
    refine Ev.call (a := 4) (as := [.ref 132, .int (nI 1), .ref (60 + 2 * i), .int (nI 1), .int (x), .int (nI (dp + 1))]) (rest := []) (lv0 := [(0, .ref 132), (1, .int (nI 1)), (2, .ref (60 + 2 * i)), (3, .int (nI 1)), (4, .int (x)), (5, .int (nI (dp + 1)))]) (Q1 := (fun z0 h' => z0 = some (.int (((x + nI i) - nI v) ^^^ nI 6)) ∧ h' = HN (bdC g [12, 20, 11, 10]) hl (RF rt))) rfl rfl (K_rf1_1_1 _ (bdC g [12]) _ _ (x) i v (dp + 1) hi hv (by rw [bdC_s]; split <;> omega) (by rw [bdC_ne _ _ (by omega)]; exact hN) (by rw [bdC_ne _ _ (by omega)]; exact hK) (by rw [bdC_ne _ _ (by omega)]; exact hv3) (by omega) ⟨rfl, congrArg (fun z => HN z hl (RF rt)) (bdC_c h133 _ _)⟩) (fun r h' hr => ?_)
    obtain ⟨rfl, rfl⟩ := hr
    refine Ev.run 2 (pc' := 212) (lv' := [(10, .int (nI (dp + 1))), (9, .int (nI 4294967295)), (8, .int (nI 1)), (7, .int (nI 12)), (6, .int (nI 0)), (0, .ref 132), (1, .int (nI 1)), (2, .ref (60 + 2 * i)), (3, .int (nI 2)), (4, .int (x)), (5, .int (nI dp))]) (st' := [.int ((((x + nI i) - nI v) ^^^ nI 6) * nI 2)]) (h' := HN (bdC g [12, 20, 11, 10]) hl (RF rt)) rfl ?_
    refine Ev.ret (v := some (.int ((((x + nI i) - nI v) ^^^ nI 6) * nI 2))) rfl ?_
    first | exact hq | (exfalso; omega)
  · have hc16 : ¬ (dp < 20) := fun z => hc16 ((nI_ltI (by omega) (by omega)).mpr z)
    refine Ev.run 1 (pc' := 20) (lv' := [(6, .int (nI 0)), (0, .ref 132), (1, .int (nI 1)), (2, .ref (60 + 2 * i)), (3, .int (nI 2)), (4, .int (x)), (5, .int (nI dp))]) (st' := [.int (nI 0)]) (h' := HN g hl (RF rt)) rfl ?_
    refine Ev.ret (v := some (.int (nI 0))) rfl ?_
    first | exact hq | (exfalso; omega)
theorem K_rf2_0_0 {L : Nat} {xs : Nat → Int32} (d : Nat) (g : Nat → Nat → Nat) (hl : Nat → Nat → Int64) (rt : Nat × Nat × Nat × Nat) (x : Int32) (i v dp : Nat) (hi : i < 5) (hv : v < 2 ^ 31) (h133 : g 133 1 ≤ 20) (hN : g (60 + 2 * i) 1 = i) (hK : g (60 + 2 * i) 2 = 2) (hv3 : g (60 + 2 * i) 3 = v) (hdp : dp ≤ 18) {Q : Po} (hq : Q (some (.int (x + nI i))) (HN (bdC g [10]) hl (RF rt))) : Ev L xs (d + 3) 4 0 [(0, .ref 132), (1, .int (nI 0)), (2, .ref (60 + 2 * i)), (3, .int (nI 0)), (4, .int (x)), (5, .int (nI dp))] [] (HN g hl (RF rt)) Q := by
  refine Ev.run 2 (pc' := 2) (lv' := [(0, .ref 132), (1, .int (nI 0)), (2, .ref (60 + 2 * i)), (3, .int (nI 0)), (4, .int (x)), (5, .int (nI dp))]) (st' := [.int (nI 0), .int (nI 0)]) (h' := HN g hl (RF rt)) rfl ?_
  refine Ev.call (a := 5) (as := [.int (nI 0), .int (nI 0)]) (rest := []) (lv0 := [(0, .int (nI 0)), (1, .int (nI 0))]) (Q1 := (fun z0 h' => z0 = some (.int (nI 0)) ∧ h' = HN g hl (RF rt))) rfl rfl (K_own00 _ _ _ _ ⟨rfl, rfl⟩) (fun r h' hr => ?_)
  obtain ⟨rfl, rfl⟩ := hr
  refine Ev.run 6 (pc' := (if nI dp < nI 20 then 21 else 19)) (lv' := [(6, .int (nI 0)), (0, .ref 132), (1, .int (nI 0)), (2, .ref (60 + 2 * i)), (3, .int (nI 0)), (4, .int (x)), (5, .int (nI dp))]) (st' := []) (h' := HN g hl (RF rt)) rfl ?_
  refine Ev.ite (fun hc16 => ?_) (fun hc16 => ?_)
  · have hc16 : dp < 20 := (nI_ltI (by omega) (by omega)).mp hc16
    refine Ev.run 6 (pc' := 30) (lv' := [(6, .int (nI 0)), (0, .ref 132), (1, .int (nI 0)), (2, .ref (60 + 2 * i)), (3, .int (nI 0)), (4, .int (x)), (5, .int (nI dp))]) (st' := [.int (nI 0), .retAddr 2]) (h' := HN g hl (RF rt)) rfl ?_
    refine Ev_xald rfl (by decide) (show 0 < 21 by omega) (show 21 < 2 ^ 31 by decide) ?_
    refine Ev.topI (show xVal xs 2 0 = nI 10 from rfl) ?_
    refine Ev.run 4 (pc' := 39) (lv' := [(7, .int (nI 10)), (6, .int (nI 0)), (0, .ref 132), (1, .int (nI 0)), (2, .ref (60 + 2 * i)), (3, .int (nI 0)), (4, .int (x)), (5, .int (nI dp))]) (st' := [.int (nI 10), .ref 133]) (h' := HN g hl (RF rt)) rfl ?_
    refine Ev.call (a := 43) (as := [.ref 133, .int (nI 10)]) (rest := []) (lv0 := [(0, .ref 133), (1, .int (nI 10))]) (Q1 := (fun z0 h' => z0 = none ∧ h' = HN (ptLn g 133 20 10) hl (RF rt))) rfl rfl (K_put _ g _ _ 133 20 (ln133 rt) 10 (by omega) ⟨rfl, rfl⟩) (fun r h' hr => ?_)
    obtain ⟨rfl, rfl⟩ := hr
    refine Ev.run 5 (pc' := 49) (lv' := [(7, .int (nI 10)), (6, .int (nI 0)), (0, .ref 132), (1, .int (nI 0)), (2, .ref (60 + 2 * i)), (3, .int (nI 0)), (4, .int (x)), (5, .int (nI dp))]) (st' := [.int (nI ((ptLn g 133 20 10) 132 1) + nI 1), .ref 132]) (h' := HN (ptLn g 133 20 10) hl (RF rt)) rfl ?_
    refine Ev.topI (nI_add _ _) ?_
    refine Ev.run 1 (pc' := 52) (lv' := [(7, .int (nI 10)), (6, .int (nI 0)), (0, .ref 132), (1, .int (nI 0)), (2, .ref (60 + 2 * i)), (3, .int (nI 0)), (4, .int (x)), (5, .int (nI dp))]) (st' := []) (h' := setI (HN (ptLn g 133 20 10) hl (RF rt)) 132 1 (nI (((ptLn g 133 20 10) 132 1) + 1))) rfl ?_
    refine Ev.hp (HN_set _ _ _ _ _ _) ?_
    refine Ev.hp (congrArg (fun z => HN z hl (RF rt)) (show u2 (ptLn g 133 20 10) 132 1 ((ptLn g 133 20 10) 132 1 + 1) = bdC g [10] by rw [show ptLn g 133 20 10 132 1 = g 132 1 from by unfold ptLn; split; rw [u2_ne _ (Or.inl (by decide)), u2_ne _ (Or.inl (by decide))]; rfl]; exact bdC_1 h133 10)) ?_
    refine Ev.run 1 (pc' := 53) (lv' := [(7, .int (nI 10)), (6, .int (nI 0)), (0, .ref 132), (1, .int (nI 0)), (2, .ref (60 + 2 * i)), (3, .int (nI 0)), (4, .int (x)), (5, .int (nI dp))]) (st' := [.ref (60 + 2 * i)]) (h' := HN (bdC g [10]) hl (RF rt)) rfl ?_
    refine Ev_gfI rfl rfl rfl (kcP (show i < 5 by omega)) ?_
    refine Ev.topI (congrArg nI (((bdC_ne _ _ (by omega) _).trans hK))) ?_
    refine Ev.run 3 (pc' := 63) (lv' := [(8, .int (nI 2)), (7, .int (nI 10)), (6, .int (nI 0)), (0, .ref 132), (1, .int (nI 0)), (2, .ref (60 + 2 * i)), (3, .int (nI 0)), (4, .int (x)), (5, .int (nI dp))]) (st' := [.int (nI 0), .retAddr 1]) (h' := HN (bdC g [10]) hl (RF rt)) rfl ?_
    refine Ev_xald rfl (by decide) (show 0 < 7 by omega) (show 7 < 2 ^ 31 by decide) ?_
    refine Ev.topI (show xVal xs 1 0 = nI 4294967295 from rfl) ?_
    refine Ev.run 4 (pc' := 70) (lv' := [(9, .int (nI 4294967295)), (8, .int (nI 2)), (7, .int (nI 10)), (6, .int (nI 0)), (0, .ref 132), (1, .int (nI 0)), (2, .ref (60 + 2 * i)), (3, .int (nI 0)), (4, .int (x)), (5, .int (nI dp))]) (st' := [.int (nI dp + nI 1)]) (h' := HN (bdC g [10]) hl (RF rt)) rfl ?_
    refine Ev.topI (nI_add _ _) ?_
    refine Ev.run 5 (pc' := 175) (lv' := [(10, .int (nI (dp + 1))), (9, .int (nI 4294967295)), (8, .int (nI 2)), (7, .int (nI 10)), (6, .int (nI 0)), (0, .ref 132), (1, .int (nI 0)), (2, .ref (60 + 2 * i)), (3, .int (nI 0)), (4, .int (x)), (5, .int (nI dp))]) (st' := [.ref (60 + 2 * i), .int (x)]) (h' := HN (bdC g [10]) hl (RF rt)) rfl ?_
    refine Ev_gfI rfl rfl rfl (kcP (show i < 5 by omega)) ?_
    refine Ev.topI (congrArg nI (((bdC_ne _ _ (by omega) _).trans hN))) ?_
    refine Ev.run 1 (pc' := 179) (lv' := [(10, .int (nI (dp + 1))), (9, .int (nI 4294967295)), (8, .int (nI 2)), (7, .int (nI 10)), (6, .int (nI 0)), (0, .ref 132), (1, .int (nI 0)), (2, .ref (60 + 2 * i)), (3, .int (nI 0)), (4, .int (x)), (5, .int (nI dp))]) (st' := [.int (x + nI i)]) (h' := HN (bdC g [10]) hl (RF rt)) rfl ?_
    refine Ev.ret (v := some (.int (x + nI i))) rfl ?_
    first | exact hq | (exfalso; omega)
  · have hc16 : ¬ (dp < 20) := fun z => hc16 ((nI_ltI (by omega) (by omega)).mpr z)
    refine Ev.run 1 (pc' := 20) (lv' := [(6, .int (nI 0)), (0, .ref 132), (1, .int (nI 0)), (2, .ref (60 + 2 * i)), (3, .int (nI 0)), (4, .int (x)), (5, .int (nI dp))]) (st' := [.int (nI 0)]) (h' := HN g hl (RF rt)) rfl ?_
    refine Ev.ret (v := some (.int (nI 0))) rfl ?_
    first | exact hq | (exfalso; omega)
theorem K_rf2_2_0 {L : Nat} {xs : Nat → Int32} (d : Nat) (g : Nat → Nat → Nat) (hl : Nat → Nat → Int64) (rt : Nat × Nat × Nat × Nat) (x : Int32) (i v dp : Nat) (hi : i < 5) (hv : v < 2 ^ 31) (h133 : g 133 1 ≤ 20) (hN : g (60 + 2 * i) 1 = i) (hK : g (60 + 2 * i) 2 = 2) (hv3 : g (60 + 2 * i) 3 = v) (hdp : dp ≤ 17) {Q : Po} (hq : Q (some (.int ((x * nI 3) + nI i))) (HN (bdC g [30, 10]) hl (RF rt))) : Ev L xs (d + 4) 4 0 [(0, .ref 132), (1, .int (nI 2)), (2, .ref (60 + 2 * i)), (3, .int (nI 0)), (4, .int (x)), (5, .int (nI dp))] [] (HN g hl (RF rt)) Q := by
  refine Ev.run 2 (pc' := 2) (lv' := [(0, .ref 132), (1, .int (nI 2)), (2, .ref (60 + 2 * i)), (3, .int (nI 0)), (4, .int (x)), (5, .int (nI dp))]) (st' := [.int (nI 0), .int (nI 2)]) (h' := HN g hl (RF rt)) rfl ?_
  refine Ev.call (a := 5) (as := [.int (nI 2), .int (nI 0)]) (rest := []) (lv0 := [(0, .int (nI 2)), (1, .int (nI 0))]) (Q1 := (fun z0 h' => z0 = some (.int (nI 2)) ∧ h' = HN g hl (RF rt))) rfl rfl (K_own20 _ _ _ _ ⟨rfl, rfl⟩) (fun r h' hr => ?_)
  obtain ⟨rfl, rfl⟩ := hr
  refine Ev.run 6 (pc' := (if nI dp < nI 20 then 21 else 19)) (lv' := [(6, .int (nI 2)), (0, .ref 132), (1, .int (nI 2)), (2, .ref (60 + 2 * i)), (3, .int (nI 0)), (4, .int (x)), (5, .int (nI dp))]) (st' := []) (h' := HN g hl (RF rt)) rfl ?_
  refine Ev.ite (fun hc16 => ?_) (fun hc16 => ?_)
  · have hc16 : dp < 20 := (nI_ltI (by omega) (by omega)).mp hc16
    refine Ev.run 6 (pc' := 30) (lv' := [(6, .int (nI 2)), (0, .ref 132), (1, .int (nI 2)), (2, .ref (60 + 2 * i)), (3, .int (nI 0)), (4, .int (x)), (5, .int (nI dp))]) (st' := [.int (nI 6), .retAddr 2]) (h' := HN g hl (RF rt)) rfl ?_
    refine Ev_xald rfl (by decide) (show 6 < 21 by omega) (show 21 < 2 ^ 31 by decide) ?_
    refine Ev.topI (show xVal xs 2 6 = nI 30 from rfl) ?_
    refine Ev.run 4 (pc' := 39) (lv' := [(7, .int (nI 30)), (6, .int (nI 2)), (0, .ref 132), (1, .int (nI 2)), (2, .ref (60 + 2 * i)), (3, .int (nI 0)), (4, .int (x)), (5, .int (nI dp))]) (st' := [.int (nI 30), .ref 133]) (h' := HN g hl (RF rt)) rfl ?_
    refine Ev.call (a := 43) (as := [.ref 133, .int (nI 30)]) (rest := []) (lv0 := [(0, .ref 133), (1, .int (nI 30))]) (Q1 := (fun z0 h' => z0 = none ∧ h' = HN (ptLn g 133 20 30) hl (RF rt))) rfl rfl (K_put _ g _ _ 133 20 (ln133 rt) 30 (by omega) ⟨rfl, rfl⟩) (fun r h' hr => ?_)
    obtain ⟨rfl, rfl⟩ := hr
    refine Ev.run 5 (pc' := 49) (lv' := [(7, .int (nI 30)), (6, .int (nI 2)), (0, .ref 132), (1, .int (nI 2)), (2, .ref (60 + 2 * i)), (3, .int (nI 0)), (4, .int (x)), (5, .int (nI dp))]) (st' := [.int (nI ((ptLn g 133 20 30) 132 1) + nI 1), .ref 132]) (h' := HN (ptLn g 133 20 30) hl (RF rt)) rfl ?_
    refine Ev.topI (nI_add _ _) ?_
    refine Ev.run 1 (pc' := 52) (lv' := [(7, .int (nI 30)), (6, .int (nI 2)), (0, .ref 132), (1, .int (nI 2)), (2, .ref (60 + 2 * i)), (3, .int (nI 0)), (4, .int (x)), (5, .int (nI dp))]) (st' := []) (h' := setI (HN (ptLn g 133 20 30) hl (RF rt)) 132 1 (nI (((ptLn g 133 20 30) 132 1) + 1))) rfl ?_
    refine Ev.hp (HN_set _ _ _ _ _ _) ?_
    refine Ev.hp (congrArg (fun z => HN z hl (RF rt)) (show u2 (ptLn g 133 20 30) 132 1 ((ptLn g 133 20 30) 132 1 + 1) = bdC g [30] by rw [show ptLn g 133 20 30 132 1 = g 132 1 from by unfold ptLn; split; rw [u2_ne _ (Or.inl (by decide)), u2_ne _ (Or.inl (by decide))]; rfl]; exact bdC_1 h133 30)) ?_
    refine Ev.run 1 (pc' := 53) (lv' := [(7, .int (nI 30)), (6, .int (nI 2)), (0, .ref 132), (1, .int (nI 2)), (2, .ref (60 + 2 * i)), (3, .int (nI 0)), (4, .int (x)), (5, .int (nI dp))]) (st' := [.ref (60 + 2 * i)]) (h' := HN (bdC g [30]) hl (RF rt)) rfl ?_
    refine Ev_gfI rfl rfl rfl (kcP (show i < 5 by omega)) ?_
    refine Ev.topI (congrArg nI (((bdC_ne _ _ (by omega) _).trans hK))) ?_
    refine Ev.run 3 (pc' := 63) (lv' := [(8, .int (nI 2)), (7, .int (nI 30)), (6, .int (nI 2)), (0, .ref 132), (1, .int (nI 2)), (2, .ref (60 + 2 * i)), (3, .int (nI 0)), (4, .int (x)), (5, .int (nI dp))]) (st' := [.int (nI 2), .retAddr 1]) (h' := HN (bdC g [30]) hl (RF rt)) rfl ?_
    refine Ev_xald rfl (by decide) (show 2 < 7 by omega) (show 7 < 2 ^ 31 by decide) ?_
    refine Ev.topI (show xVal xs 1 2 = nI 0 from rfl) ?_
    refine Ev.run 4 (pc' := 70) (lv' := [(9, .int (nI 0)), (8, .int (nI 2)), (7, .int (nI 30)), (6, .int (nI 2)), (0, .ref 132), (1, .int (nI 2)), (2, .ref (60 + 2 * i)), (3, .int (nI 0)), (4, .int (x)), (5, .int (nI dp))]) (st' := [.int (nI dp + nI 1)]) (h' := HN (bdC g [30]) hl (RF rt)) rfl ?_
    refine Ev.topI (nI_add _ _) ?_
    refine Ev.run 11 (pc' := 240) (lv' := [(10, .int (nI (dp + 1))), (9, .int (nI 0)), (8, .int (nI 2)), (7, .int (nI 30)), (6, .int (nI 2)), (0, .ref 132), (1, .int (nI 2)), (2, .ref (60 + 2 * i)), (3, .int (nI 0)), (4, .int (x)), (5, .int (nI dp))]) (st' := [.int (nI (dp + 1)), .int (x * nI 3), .int (nI 0), .ref (60 + 2 * i), .int (nI 0), .ref 132]) (h' := HN (bdC g [30]) hl (RF rt)) rfl ?_
    refine Ev.call (a := 4) (as := [.ref 132, .int (nI 0), .ref (60 + 2 * i), .int (nI 0), .int (x * nI 3), .int (nI (dp + 1))]) (rest := []) (lv0 := [(0, .ref 132), (1, .int (nI 0)), (2, .ref (60 + 2 * i)), (3, .int (nI 0)), (4, .int (x * nI 3)), (5, .int (nI (dp + 1)))]) (Q1 := (fun z0 h' => z0 = some (.int ((x * nI 3) + nI i)) ∧ h' = HN (bdC g [30, 10]) hl (RF rt))) rfl rfl (K_rf2_0_0 _ (bdC g [30]) _ _ (x * nI 3) i v (dp + 1) hi hv (by rw [bdC_s]; split <;> omega) (by rw [bdC_ne _ _ (by omega)]; exact hN) (by rw [bdC_ne _ _ (by omega)]; exact hK) (by rw [bdC_ne _ _ (by omega)]; exact hv3) (by omega) ⟨rfl, congrArg (fun z => HN z hl (RF rt)) (bdC_c h133 _ _)⟩) (fun r h' hr => ?_)
    obtain ⟨rfl, rfl⟩ := hr
    refine Ev.ret (v := some (.int ((x * nI 3) + nI i))) rfl ?_
    first | exact hq | (exfalso; omega)
  · have hc16 : ¬ (dp < 20) := fun z => hc16 ((nI_ltI (by omega) (by omega)).mpr z)
    refine Ev.run 1 (pc' := 20) (lv' := [(6, .int (nI 2)), (0, .ref 132), (1, .int (nI 2)), (2, .ref (60 + 2 * i)), (3, .int (nI 0)), (4, .int (x)), (5, .int (nI dp))]) (st' := [.int (nI 0)]) (h' := HN g hl (RF rt)) rfl ?_
    refine Ev.ret (v := some (.int (nI 0))) rfl ?_
    first | exact hq | (exfalso; omega)
theorem K_rf2_2_1 {L : Nat} {xs : Nat → Int32} (d : Nat) (g : Nat → Nat → Nat) (hl : Nat → Nat → Int64) (rt : Nat × Nat × Nat × Nat) (x : Int32) (i v dp : Nat) (hi : i < 5) (hv : v < 2 ^ 31) (h133 : g 133 1 ≤ 20) (hN : g (60 + 2 * i) 1 = i) (hK : g (60 + 2 * i) 2 = 2) (hv3 : g (60 + 2 * i) 3 = v) (hdp : dp ≤ 16) {Q : Po} (hq : Q (some (.int (((x * nI 3) + nI i) - nI v))) (HN (bdC g [11, 30, 10]) hl (RF rt))) : Ev L xs (d + 5) 4 0 [(0, .ref 132), (1, .int (nI 2)), (2, .ref (60 + 2 * i)), (3, .int (nI 1)), (4, .int (x)), (5, .int (nI dp))] [] (HN g hl (RF rt)) Q := by
  refine Ev.run 2 (pc' := 2) (lv' := [(0, .ref 132), (1, .int (nI 2)), (2, .ref (60 + 2 * i)), (3, .int (nI 1)), (4, .int (x)), (5, .int (nI dp))]) (st' := [.int (nI 1), .int (nI 2)]) (h' := HN g hl (RF rt)) rfl ?_
  refine Ev.call (a := 5) (as := [.int (nI 2), .int (nI 1)]) (rest := []) (lv0 := [(0, .int (nI 2)), (1, .int (nI 1))]) (Q1 := (fun z0 h' => z0 = some (.int (nI 0)) ∧ h' = HN g hl (RF rt))) rfl rfl (K_own21 _ _ _ _ ⟨rfl, rfl⟩) (fun r h' hr => ?_)
  obtain ⟨rfl, rfl⟩ := hr
  refine Ev.run 6 (pc' := (if nI dp < nI 20 then 21 else 19)) (lv' := [(6, .int (nI 0)), (0, .ref 132), (1, .int (nI 2)), (2, .ref (60 + 2 * i)), (3, .int (nI 1)), (4, .int (x)), (5, .int (nI dp))]) (st' := []) (h' := HN g hl (RF rt)) rfl ?_
  refine Ev.ite (fun hc16 => ?_) (fun hc16 => ?_)
  · have hc16 : dp < 20 := (nI_ltI (by omega) (by omega)).mp hc16
    refine Ev.run 6 (pc' := 30) (lv' := [(6, .int (nI 0)), (0, .ref 132), (1, .int (nI 2)), (2, .ref (60 + 2 * i)), (3, .int (nI 1)), (4, .int (x)), (5, .int (nI dp))]) (st' := [.int (nI 1), .retAddr 2]) (h' := HN g hl (RF rt)) rfl ?_
    refine Ev_xald rfl (by decide) (show 1 < 21 by omega) (show 21 < 2 ^ 31 by decide) ?_
    refine Ev.topI (show xVal xs 2 1 = nI 11 from rfl) ?_
    refine Ev.run 4 (pc' := 39) (lv' := [(7, .int (nI 11)), (6, .int (nI 0)), (0, .ref 132), (1, .int (nI 2)), (2, .ref (60 + 2 * i)), (3, .int (nI 1)), (4, .int (x)), (5, .int (nI dp))]) (st' := [.int (nI 11), .ref 133]) (h' := HN g hl (RF rt)) rfl ?_
    refine Ev.call (a := 43) (as := [.ref 133, .int (nI 11)]) (rest := []) (lv0 := [(0, .ref 133), (1, .int (nI 11))]) (Q1 := (fun z0 h' => z0 = none ∧ h' = HN (ptLn g 133 20 11) hl (RF rt))) rfl rfl (K_put _ g _ _ 133 20 (ln133 rt) 11 (by omega) ⟨rfl, rfl⟩) (fun r h' hr => ?_)
    obtain ⟨rfl, rfl⟩ := hr
    refine Ev.run 5 (pc' := 49) (lv' := [(7, .int (nI 11)), (6, .int (nI 0)), (0, .ref 132), (1, .int (nI 2)), (2, .ref (60 + 2 * i)), (3, .int (nI 1)), (4, .int (x)), (5, .int (nI dp))]) (st' := [.int (nI ((ptLn g 133 20 11) 132 1) + nI 1), .ref 132]) (h' := HN (ptLn g 133 20 11) hl (RF rt)) rfl ?_
    refine Ev.topI (nI_add _ _) ?_
    refine Ev.run 1 (pc' := 52) (lv' := [(7, .int (nI 11)), (6, .int (nI 0)), (0, .ref 132), (1, .int (nI 2)), (2, .ref (60 + 2 * i)), (3, .int (nI 1)), (4, .int (x)), (5, .int (nI dp))]) (st' := []) (h' := setI (HN (ptLn g 133 20 11) hl (RF rt)) 132 1 (nI (((ptLn g 133 20 11) 132 1) + 1))) rfl ?_
    refine Ev.hp (HN_set _ _ _ _ _ _) ?_
    refine Ev.hp (congrArg (fun z => HN z hl (RF rt)) (show u2 (ptLn g 133 20 11) 132 1 ((ptLn g 133 20 11) 132 1 + 1) = bdC g [11] by rw [show ptLn g 133 20 11 132 1 = g 132 1 from by unfold ptLn; split; rw [u2_ne _ (Or.inl (by decide)), u2_ne _ (Or.inl (by decide))]; rfl]; exact bdC_1 h133 11)) ?_
    refine Ev.run 1 (pc' := 53) (lv' := [(7, .int (nI 11)), (6, .int (nI 0)), (0, .ref 132), (1, .int (nI 2)), (2, .ref (60 + 2 * i)), (3, .int (nI 1)), (4, .int (x)), (5, .int (nI dp))]) (st' := [.ref (60 + 2 * i)]) (h' := HN (bdC g [11]) hl (RF rt)) rfl ?_
    refine Ev_gfI rfl rfl rfl (kcP (show i < 5 by omega)) ?_
    refine Ev.topI (congrArg nI (((bdC_ne _ _ (by omega) _).trans hK))) ?_
    refine Ev.run 3 (pc' := 63) (lv' := [(8, .int (nI 2)), (7, .int (nI 11)), (6, .int (nI 0)), (0, .ref 132), (1, .int (nI 2)), (2, .ref (60 + 2 * i)), (3, .int (nI 1)), (4, .int (x)), (5, .int (nI dp))]) (st' := [.int (nI 0), .retAddr 1]) (h' := HN (bdC g [11]) hl (RF rt)) rfl ?_
    refine Ev_xald rfl (by decide) (show 0 < 7 by omega) (show 7 < 2 ^ 31 by decide) ?_
    refine Ev.topI (show xVal xs 1 0 = nI 4294967295 from rfl) ?_
    refine Ev.run 4 (pc' := 70) (lv' := [(9, .int (nI 4294967295)), (8, .int (nI 2)), (7, .int (nI 11)), (6, .int (nI 0)), (0, .ref 132), (1, .int (nI 2)), (2, .ref (60 + 2 * i)), (3, .int (nI 1)), (4, .int (x)), (5, .int (nI dp))]) (st' := [.int (nI dp + nI 1)]) (h' := HN (bdC g [11]) hl (RF rt)) rfl ?_
    refine Ev.topI (nI_add _ _) ?_
    refine Ev.run 9 (pc' := 189) (lv' := [(10, .int (nI (dp + 1))), (9, .int (nI 4294967295)), (8, .int (nI 2)), (7, .int (nI 11)), (6, .int (nI 0)), (0, .ref 132), (1, .int (nI 2)), (2, .ref (60 + 2 * i)), (3, .int (nI 1)), (4, .int (x)), (5, .int (nI dp))]) (st' := [.int (nI (dp + 1)), .int (x), .int (nI 0), .ref (60 + 2 * i), .int (nI 2), .ref 132]) (h' := HN (bdC g [11]) hl (RF rt)) rfl ?_
    refine Ev.call (a := 4) (as := [.ref 132, .int (nI 2), .ref (60 + 2 * i), .int (nI 0), .int (x), .int (nI (dp + 1))]) (rest := []) (lv0 := [(0, .ref 132), (1, .int (nI 2)), (2, .ref (60 + 2 * i)), (3, .int (nI 0)), (4, .int (x)), (5, .int (nI (dp + 1)))]) (Q1 := (fun z0 h' => z0 = some (.int ((x * nI 3) + nI i)) ∧ h' = HN (bdC g [11, 30, 10]) hl (RF rt))) rfl rfl (K_rf2_2_0 _ (bdC g [11]) _ _ (x) i v (dp + 1) hi hv (by rw [bdC_s]; split <;> omega) (by rw [bdC_ne _ _ (by omega)]; exact hN) (by rw [bdC_ne _ _ (by omega)]; exact hK) (by rw [bdC_ne _ _ (by omega)]; exact hv3) (by omega) ⟨rfl, congrArg (fun z => HN z hl (RF rt)) (bdC_c h133 _ _)⟩) (fun r h' hr => ?_)
    obtain ⟨rfl, rfl⟩ := hr
    refine Ev.run 1 (pc' := 193) (lv' := [(10, .int (nI (dp + 1))), (9, .int (nI 4294967295)), (8, .int (nI 2)), (7, .int (nI 11)), (6, .int (nI 0)), (0, .ref 132), (1, .int (nI 2)), (2, .ref (60 + 2 * i)), (3, .int (nI 1)), (4, .int (x)), (5, .int (nI dp))]) (st' := [.ref (60 + 2 * i), .int ((x * nI 3) + nI i)]) (h' := HN (bdC g [11, 30, 10]) hl (RF rt)) rfl ?_
    refine Ev_gfI rfl rfl rfl (kcP (show i < 5 by omega)) ?_
    refine Ev.topI (congrArg nI (((bdC_ne _ _ (by omega) _).trans hv3))) ?_
    refine Ev.run 1 (pc' := 197) (lv' := [(10, .int (nI (dp + 1))), (9, .int (nI 4294967295)), (8, .int (nI 2)), (7, .int (nI 11)), (6, .int (nI 0)), (0, .ref 132), (1, .int (nI 2)), (2, .ref (60 + 2 * i)), (3, .int (nI 1)), (4, .int (x)), (5, .int (nI dp))]) (st' := [.int (((x * nI 3) + nI i) - nI v)]) (h' := HN (bdC g [11, 30, 10]) hl (RF rt)) rfl ?_
    refine Ev.ret (v := some (.int (((x * nI 3) + nI i) - nI v))) rfl ?_
    first | exact hq | (exfalso; omega)
  · have hc16 : ¬ (dp < 20) := fun z => hc16 ((nI_ltI (by omega) (by omega)).mpr z)
    refine Ev.run 1 (pc' := 20) (lv' := [(6, .int (nI 0)), (0, .ref 132), (1, .int (nI 2)), (2, .ref (60 + 2 * i)), (3, .int (nI 1)), (4, .int (x)), (5, .int (nI dp))]) (st' := [.int (nI 0)]) (h' := HN g hl (RF rt)) rfl ?_
    refine Ev.ret (v := some (.int (nI 0))) rfl ?_
    first | exact hq | (exfalso; omega)
theorem K_rf2_2_2 {L : Nat} {xs : Nat → Int32} (d : Nat) (g : Nat → Nat → Nat) (hl : Nat → Nat → Int64) (rt : Nat × Nat × Nat × Nat) (x : Int32) (i v dp : Nat) (hi : i < 5) (hv : v < 2 ^ 31) (h133 : g 133 1 ≤ 20) (hN : g (60 + 2 * i) 1 = i) (hK : g (60 + 2 * i) 2 = 2) (hv3 : g (60 + 2 * i) 3 = v) (hdp : dp ≤ 15) {Q : Po} (hq : Q (some (.int ((((x * nI 3) + nI i) - nI v) * nI 2))) (HN (bdC g [12, 11, 30, 10]) hl (RF rt))) : Ev L xs (d + 6) 4 0 [(0, .ref 132), (1, .int (nI 2)), (2, .ref (60 + 2 * i)), (3, .int (nI 2)), (4, .int (x)), (5, .int (nI dp))] [] (HN g hl (RF rt)) Q := by
  refine Ev.run 2 (pc' := 2) (lv' := [(0, .ref 132), (1, .int (nI 2)), (2, .ref (60 + 2 * i)), (3, .int (nI 2)), (4, .int (x)), (5, .int (nI dp))]) (st' := [.int (nI 2), .int (nI 2)]) (h' := HN g hl (RF rt)) rfl ?_
  refine Ev.call (a := 5) (as := [.int (nI 2), .int (nI 2)]) (rest := []) (lv0 := [(0, .int (nI 2)), (1, .int (nI 2))]) (Q1 := (fun z0 h' => z0 = some (.int (nI 0)) ∧ h' = HN g hl (RF rt))) rfl rfl (K_own22 _ _ _ _ ⟨rfl, rfl⟩) (fun r h' hr => ?_)
  obtain ⟨rfl, rfl⟩ := hr
  refine Ev.run 6 (pc' := (if nI dp < nI 20 then 21 else 19)) (lv' := [(6, .int (nI 0)), (0, .ref 132), (1, .int (nI 2)), (2, .ref (60 + 2 * i)), (3, .int (nI 2)), (4, .int (x)), (5, .int (nI dp))]) (st' := []) (h' := HN g hl (RF rt)) rfl ?_
  refine Ev.ite (fun hc16 => ?_) (fun hc16 => ?_)
  · have hc16 : dp < 20 := (nI_ltI (by omega) (by omega)).mp hc16
    refine Ev.run 6 (pc' := 30) (lv' := [(6, .int (nI 0)), (0, .ref 132), (1, .int (nI 2)), (2, .ref (60 + 2 * i)), (3, .int (nI 2)), (4, .int (x)), (5, .int (nI dp))]) (st' := [.int (nI 2), .retAddr 2]) (h' := HN g hl (RF rt)) rfl ?_
    refine Ev_xald rfl (by decide) (show 2 < 21 by omega) (show 21 < 2 ^ 31 by decide) ?_
    refine Ev.topI (show xVal xs 2 2 = nI 12 from rfl) ?_
    refine Ev.run 4 (pc' := 39) (lv' := [(7, .int (nI 12)), (6, .int (nI 0)), (0, .ref 132), (1, .int (nI 2)), (2, .ref (60 + 2 * i)), (3, .int (nI 2)), (4, .int (x)), (5, .int (nI dp))]) (st' := [.int (nI 12), .ref 133]) (h' := HN g hl (RF rt)) rfl ?_
    refine Ev.call (a := 43) (as := [.ref 133, .int (nI 12)]) (rest := []) (lv0 := [(0, .ref 133), (1, .int (nI 12))]) (Q1 := (fun z0 h' => z0 = none ∧ h' = HN (ptLn g 133 20 12) hl (RF rt))) rfl rfl (K_put _ g _ _ 133 20 (ln133 rt) 12 (by omega) ⟨rfl, rfl⟩) (fun r h' hr => ?_)
    obtain ⟨rfl, rfl⟩ := hr
    refine Ev.run 5 (pc' := 49) (lv' := [(7, .int (nI 12)), (6, .int (nI 0)), (0, .ref 132), (1, .int (nI 2)), (2, .ref (60 + 2 * i)), (3, .int (nI 2)), (4, .int (x)), (5, .int (nI dp))]) (st' := [.int (nI ((ptLn g 133 20 12) 132 1) + nI 1), .ref 132]) (h' := HN (ptLn g 133 20 12) hl (RF rt)) rfl ?_
    refine Ev.topI (nI_add _ _) ?_
    refine Ev.run 1 (pc' := 52) (lv' := [(7, .int (nI 12)), (6, .int (nI 0)), (0, .ref 132), (1, .int (nI 2)), (2, .ref (60 + 2 * i)), (3, .int (nI 2)), (4, .int (x)), (5, .int (nI dp))]) (st' := []) (h' := setI (HN (ptLn g 133 20 12) hl (RF rt)) 132 1 (nI (((ptLn g 133 20 12) 132 1) + 1))) rfl ?_
    refine Ev.hp (HN_set _ _ _ _ _ _) ?_
    refine Ev.hp (congrArg (fun z => HN z hl (RF rt)) (show u2 (ptLn g 133 20 12) 132 1 ((ptLn g 133 20 12) 132 1 + 1) = bdC g [12] by rw [show ptLn g 133 20 12 132 1 = g 132 1 from by unfold ptLn; split; rw [u2_ne _ (Or.inl (by decide)), u2_ne _ (Or.inl (by decide))]; rfl]; exact bdC_1 h133 12)) ?_
    refine Ev.run 1 (pc' := 53) (lv' := [(7, .int (nI 12)), (6, .int (nI 0)), (0, .ref 132), (1, .int (nI 2)), (2, .ref (60 + 2 * i)), (3, .int (nI 2)), (4, .int (x)), (5, .int (nI dp))]) (st' := [.ref (60 + 2 * i)]) (h' := HN (bdC g [12]) hl (RF rt)) rfl ?_
    refine Ev_gfI rfl rfl rfl (kcP (show i < 5 by omega)) ?_
    refine Ev.topI (congrArg nI (((bdC_ne _ _ (by omega) _).trans hK))) ?_
    refine Ev.run 3 (pc' := 63) (lv' := [(8, .int (nI 2)), (7, .int (nI 12)), (6, .int (nI 0)), (0, .ref 132), (1, .int (nI 2)), (2, .ref (60 + 2 * i)), (3, .int (nI 2)), (4, .int (x)), (5, .int (nI dp))]) (st' := [.int (nI 0), .retAddr 1]) (h' := HN (bdC g [12]) hl (RF rt)) rfl ?_
    refine Ev_xald rfl (by decide) (show 0 < 7 by omega) (show 7 < 2 ^ 31 by decide) ?_
    refine Ev.topI (show xVal xs 1 0 = nI 4294967295 from rfl) ?_
    refine Ev.run 4 (pc' := 70) (lv' := [(9, .int (nI 4294967295)), (8, .int (nI 2)), (7, .int (nI 12)), (6, .int (nI 0)), (0, .ref 132), (1, .int (nI 2)), (2, .ref (60 + 2 * i)), (3, .int (nI 2)), (4, .int (x)), (5, .int (nI dp))]) (st' := [.int (nI dp + nI 1)]) (h' := HN (bdC g [12]) hl (RF rt)) rfl ?_
    refine Ev.topI (nI_add _ _) ?_
    refine Ev.run 9 (pc' := 207) (lv' := [(10, .int (nI (dp + 1))), (9, .int (nI 4294967295)), (8, .int (nI 2)), (7, .int (nI 12)), (6, .int (nI 0)), (0, .ref 132), (1, .int (nI 2)), (2, .ref (60 + 2 * i)), (3, .int (nI 2)), (4, .int (x)), (5, .int (nI dp))]) (st' := [.int (nI (dp + 1)), .int (x), .int (nI 1), .ref (60 + 2 * i), .int (nI 2), .ref 132]) (h' := HN (bdC g [12]) hl (RF rt)) rfl ?_
    refine Ev.call (a := 4) (as := [.ref 132, .int (nI 2), .ref (60 + 2 * i), .int (nI 1), .int (x), .int (nI (dp + 1))]) (rest := []) (lv0 := [(0, .ref 132), (1, .int (nI 2)), (2, .ref (60 + 2 * i)), (3, .int (nI 1)), (4, .int (x)), (5, .int (nI (dp + 1)))]) (Q1 := (fun z0 h' => z0 = some (.int (((x * nI 3) + nI i) - nI v)) ∧ h' = HN (bdC g [12, 11, 30, 10]) hl (RF rt))) rfl rfl (K_rf2_2_1 _ (bdC g [12]) _ _ (x) i v (dp + 1) hi hv (by rw [bdC_s]; split <;> omega) (by rw [bdC_ne _ _ (by omega)]; exact hN) (by rw [bdC_ne _ _ (by omega)]; exact hK) (by rw [bdC_ne _ _ (by omega)]; exact hv3) (by omega) ⟨rfl, congrArg (fun z => HN z hl (RF rt)) (bdC_c h133 _ _)⟩) (fun r h' hr => ?_)
    obtain ⟨rfl, rfl⟩ := hr
    refine Ev.run 2 (pc' := 212) (lv' := [(10, .int (nI (dp + 1))), (9, .int (nI 4294967295)), (8, .int (nI 2)), (7, .int (nI 12)), (6, .int (nI 0)), (0, .ref 132), (1, .int (nI 2)), (2, .ref (60 + 2 * i)), (3, .int (nI 2)), (4, .int (x)), (5, .int (nI dp))]) (st' := [.int ((((x * nI 3) + nI i) - nI v) * nI 2)]) (h' := HN (bdC g [12, 11, 30, 10]) hl (RF rt)) rfl ?_
    refine Ev.ret (v := some (.int ((((x * nI 3) + nI i) - nI v) * nI 2))) rfl ?_
    first | exact hq | (exfalso; omega)
  · have hc16 : ¬ (dp < 20) := fun z => hc16 ((nI_ltI (by omega) (by omega)).mpr z)
    refine Ev.run 1 (pc' := 20) (lv' := [(6, .int (nI 0)), (0, .ref 132), (1, .int (nI 2)), (2, .ref (60 + 2 * i)), (3, .int (nI 2)), (4, .int (x)), (5, .int (nI dp))]) (st' := [.int (nI 0)]) (h' := HN g hl (RF rt)) rfl ?_
    refine Ev.ret (v := some (.int (nI 0))) rfl ?_
    first | exact hq | (exfalso; omega)
theorem K_rf3_3_0 {L : Nat} {xs : Nat → Int32} (d : Nat) (g : Nat → Nat → Nat) (hl : Nat → Nat → Int64) (rt : Nat × Nat × Nat × Nat) (x : Int32) (i v dp : Nat) (hi : i < 5) (hv : v < 2 ^ 31) (h133 : g 133 1 ≤ 20) (hN : g (60 + 2 * i) 1 = i) (hK : g (60 + 2 * i) 2 = 3) (hv3 : g (60 + 2 * i) 3 = v) (hdp : dp ≤ 18) {Q : Po} (hq : Q (some (.int (x + nI i))) (HN (bdC g [10]) hl (RF rt))) : Ev L xs (d + 3) 4 0 [(0, .ref 132), (1, .int (nI 3)), (2, .ref (60 + 2 * i)), (3, .int (nI 0)), (4, .int (x)), (5, .int (nI dp))] [] (HN g hl (RF rt)) Q := by
  refine Ev.run 2 (pc' := 2) (lv' := [(0, .ref 132), (1, .int (nI 3)), (2, .ref (60 + 2 * i)), (3, .int (nI 0)), (4, .int (x)), (5, .int (nI dp))]) (st' := [.int (nI 0), .int (nI 3)]) (h' := HN g hl (RF rt)) rfl ?_
  refine Ev.call (a := 5) (as := [.int (nI 3), .int (nI 0)]) (rest := []) (lv0 := [(0, .int (nI 3)), (1, .int (nI 0))]) (Q1 := (fun z0 h' => z0 = some (.int (nI 0)) ∧ h' = HN g hl (RF rt))) rfl rfl (K_own30 _ _ _ _ ⟨rfl, rfl⟩) (fun r h' hr => ?_)
  obtain ⟨rfl, rfl⟩ := hr
  refine Ev.run 6 (pc' := (if nI dp < nI 20 then 21 else 19)) (lv' := [(6, .int (nI 0)), (0, .ref 132), (1, .int (nI 3)), (2, .ref (60 + 2 * i)), (3, .int (nI 0)), (4, .int (x)), (5, .int (nI dp))]) (st' := []) (h' := HN g hl (RF rt)) rfl ?_
  refine Ev.ite (fun hc16 => ?_) (fun hc16 => ?_)
  · have hc16 : dp < 20 := (nI_ltI (by omega) (by omega)).mp hc16
    refine Ev.run 6 (pc' := 30) (lv' := [(6, .int (nI 0)), (0, .ref 132), (1, .int (nI 3)), (2, .ref (60 + 2 * i)), (3, .int (nI 0)), (4, .int (x)), (5, .int (nI dp))]) (st' := [.int (nI 0), .retAddr 2]) (h' := HN g hl (RF rt)) rfl ?_
    refine Ev_xald rfl (by decide) (show 0 < 21 by omega) (show 21 < 2 ^ 31 by decide) ?_
    refine Ev.topI (show xVal xs 2 0 = nI 10 from rfl) ?_
    refine Ev.run 4 (pc' := 39) (lv' := [(7, .int (nI 10)), (6, .int (nI 0)), (0, .ref 132), (1, .int (nI 3)), (2, .ref (60 + 2 * i)), (3, .int (nI 0)), (4, .int (x)), (5, .int (nI dp))]) (st' := [.int (nI 10), .ref 133]) (h' := HN g hl (RF rt)) rfl ?_
    refine Ev.call (a := 43) (as := [.ref 133, .int (nI 10)]) (rest := []) (lv0 := [(0, .ref 133), (1, .int (nI 10))]) (Q1 := (fun z0 h' => z0 = none ∧ h' = HN (ptLn g 133 20 10) hl (RF rt))) rfl rfl (K_put _ g _ _ 133 20 (ln133 rt) 10 (by omega) ⟨rfl, rfl⟩) (fun r h' hr => ?_)
    obtain ⟨rfl, rfl⟩ := hr
    refine Ev.run 5 (pc' := 49) (lv' := [(7, .int (nI 10)), (6, .int (nI 0)), (0, .ref 132), (1, .int (nI 3)), (2, .ref (60 + 2 * i)), (3, .int (nI 0)), (4, .int (x)), (5, .int (nI dp))]) (st' := [.int (nI ((ptLn g 133 20 10) 132 1) + nI 1), .ref 132]) (h' := HN (ptLn g 133 20 10) hl (RF rt)) rfl ?_
    refine Ev.topI (nI_add _ _) ?_
    refine Ev.run 1 (pc' := 52) (lv' := [(7, .int (nI 10)), (6, .int (nI 0)), (0, .ref 132), (1, .int (nI 3)), (2, .ref (60 + 2 * i)), (3, .int (nI 0)), (4, .int (x)), (5, .int (nI dp))]) (st' := []) (h' := setI (HN (ptLn g 133 20 10) hl (RF rt)) 132 1 (nI (((ptLn g 133 20 10) 132 1) + 1))) rfl ?_
    refine Ev.hp (HN_set _ _ _ _ _ _) ?_
    refine Ev.hp (congrArg (fun z => HN z hl (RF rt)) (show u2 (ptLn g 133 20 10) 132 1 ((ptLn g 133 20 10) 132 1 + 1) = bdC g [10] by rw [show ptLn g 133 20 10 132 1 = g 132 1 from by unfold ptLn; split; rw [u2_ne _ (Or.inl (by decide)), u2_ne _ (Or.inl (by decide))]; rfl]; exact bdC_1 h133 10)) ?_
    refine Ev.run 1 (pc' := 53) (lv' := [(7, .int (nI 10)), (6, .int (nI 0)), (0, .ref 132), (1, .int (nI 3)), (2, .ref (60 + 2 * i)), (3, .int (nI 0)), (4, .int (x)), (5, .int (nI dp))]) (st' := [.ref (60 + 2 * i)]) (h' := HN (bdC g [10]) hl (RF rt)) rfl ?_
    refine Ev_gfI rfl rfl rfl (kcP (show i < 5 by omega)) ?_
    refine Ev.topI (congrArg nI (((bdC_ne _ _ (by omega) _).trans hK))) ?_
    refine Ev.run 3 (pc' := 63) (lv' := [(8, .int (nI 3)), (7, .int (nI 10)), (6, .int (nI 0)), (0, .ref 132), (1, .int (nI 3)), (2, .ref (60 + 2 * i)), (3, .int (nI 0)), (4, .int (x)), (5, .int (nI dp))]) (st' := [.int (nI 0), .retAddr 1]) (h' := HN (bdC g [10]) hl (RF rt)) rfl ?_
    refine Ev_xald rfl (by decide) (show 0 < 7 by omega) (show 7 < 2 ^ 31 by decide) ?_
    refine Ev.topI (show xVal xs 1 0 = nI 4294967295 from rfl) ?_
    refine Ev.run 4 (pc' := 70) (lv' := [(9, .int (nI 4294967295)), (8, .int (nI 3)), (7, .int (nI 10)), (6, .int (nI 0)), (0, .ref 132), (1, .int (nI 3)), (2, .ref (60 + 2 * i)), (3, .int (nI 0)), (4, .int (x)), (5, .int (nI dp))]) (st' := [.int (nI dp + nI 1)]) (h' := HN (bdC g [10]) hl (RF rt)) rfl ?_
    refine Ev.topI (nI_add _ _) ?_
    refine Ev.run 5 (pc' := 175) (lv' := [(10, .int (nI (dp + 1))), (9, .int (nI 4294967295)), (8, .int (nI 3)), (7, .int (nI 10)), (6, .int (nI 0)), (0, .ref 132), (1, .int (nI 3)), (2, .ref (60 + 2 * i)), (3, .int (nI 0)), (4, .int (x)), (5, .int (nI dp))]) (st' := [.ref (60 + 2 * i), .int (x)]) (h' := HN (bdC g [10]) hl (RF rt)) rfl ?_
    refine Ev_gfI rfl rfl rfl (kcP (show i < 5 by omega)) ?_
    refine Ev.topI (congrArg nI (((bdC_ne _ _ (by omega) _).trans hN))) ?_
    refine Ev.run 1 (pc' := 179) (lv' := [(10, .int (nI (dp + 1))), (9, .int (nI 4294967295)), (8, .int (nI 3)), (7, .int (nI 10)), (6, .int (nI 0)), (0, .ref 132), (1, .int (nI 3)), (2, .ref (60 + 2 * i)), (3, .int (nI 0)), (4, .int (x)), (5, .int (nI dp))]) (st' := [.int (x + nI i)]) (h' := HN (bdC g [10]) hl (RF rt)) rfl ?_
    refine Ev.ret (v := some (.int (x + nI i))) rfl ?_
    first | exact hq | (exfalso; omega)
  · have hc16 : ¬ (dp < 20) := fun z => hc16 ((nI_ltI (by omega) (by omega)).mpr z)
    refine Ev.run 1 (pc' := 20) (lv' := [(6, .int (nI 0)), (0, .ref 132), (1, .int (nI 3)), (2, .ref (60 + 2 * i)), (3, .int (nI 0)), (4, .int (x)), (5, .int (nI dp))]) (st' := [.int (nI 0)]) (h' := HN g hl (RF rt)) rfl ?_
    refine Ev.ret (v := some (.int (nI 0))) rfl ?_
    first | exact hq | (exfalso; omega)
theorem K_rf3_3_1 {L : Nat} {xs : Nat → Int32} (d : Nat) (g : Nat → Nat → Nat) (hl : Nat → Nat → Int64) (rt : Nat × Nat × Nat × Nat) (x : Int32) (i v dp : Nat) (hi : i < 5) (hv : v < 2 ^ 31) (h133 : g 133 1 ≤ 20) (hN : g (60 + 2 * i) 1 = i) (hK : g (60 + 2 * i) 2 = 3) (hv3 : g (60 + 2 * i) 3 = v) (hdp : dp ≤ 17) {Q : Po} (hq : Q (some (.int ((x + nI i) - nI v))) (HN (bdC g [11, 10]) hl (RF rt))) : Ev L xs (d + 4) 4 0 [(0, .ref 132), (1, .int (nI 3)), (2, .ref (60 + 2 * i)), (3, .int (nI 1)), (4, .int (x)), (5, .int (nI dp))] [] (HN g hl (RF rt)) Q := by
  refine Ev.run 2 (pc' := 2) (lv' := [(0, .ref 132), (1, .int (nI 3)), (2, .ref (60 + 2 * i)), (3, .int (nI 1)), (4, .int (x)), (5, .int (nI dp))]) (st' := [.int (nI 1), .int (nI 3)]) (h' := HN g hl (RF rt)) rfl ?_
  refine Ev.call (a := 5) (as := [.int (nI 3), .int (nI 1)]) (rest := []) (lv0 := [(0, .int (nI 3)), (1, .int (nI 1))]) (Q1 := (fun z0 h' => z0 = some (.int (nI 0)) ∧ h' = HN g hl (RF rt))) rfl rfl (K_own31 _ _ _ _ ⟨rfl, rfl⟩) (fun r h' hr => ?_)
  obtain ⟨rfl, rfl⟩ := hr
  refine Ev.run 6 (pc' := (if nI dp < nI 20 then 21 else 19)) (lv' := [(6, .int (nI 0)), (0, .ref 132), (1, .int (nI 3)), (2, .ref (60 + 2 * i)), (3, .int (nI 1)), (4, .int (x)), (5, .int (nI dp))]) (st' := []) (h' := HN g hl (RF rt)) rfl ?_
  refine Ev.ite (fun hc16 => ?_) (fun hc16 => ?_)
  · have hc16 : dp < 20 := (nI_ltI (by omega) (by omega)).mp hc16
    refine Ev.run 6 (pc' := 30) (lv' := [(6, .int (nI 0)), (0, .ref 132), (1, .int (nI 3)), (2, .ref (60 + 2 * i)), (3, .int (nI 1)), (4, .int (x)), (5, .int (nI dp))]) (st' := [.int (nI 1), .retAddr 2]) (h' := HN g hl (RF rt)) rfl ?_
    refine Ev_xald rfl (by decide) (show 1 < 21 by omega) (show 21 < 2 ^ 31 by decide) ?_
    refine Ev.topI (show xVal xs 2 1 = nI 11 from rfl) ?_
    refine Ev.run 4 (pc' := 39) (lv' := [(7, .int (nI 11)), (6, .int (nI 0)), (0, .ref 132), (1, .int (nI 3)), (2, .ref (60 + 2 * i)), (3, .int (nI 1)), (4, .int (x)), (5, .int (nI dp))]) (st' := [.int (nI 11), .ref 133]) (h' := HN g hl (RF rt)) rfl ?_
    refine Ev.call (a := 43) (as := [.ref 133, .int (nI 11)]) (rest := []) (lv0 := [(0, .ref 133), (1, .int (nI 11))]) (Q1 := (fun z0 h' => z0 = none ∧ h' = HN (ptLn g 133 20 11) hl (RF rt))) rfl rfl (K_put _ g _ _ 133 20 (ln133 rt) 11 (by omega) ⟨rfl, rfl⟩) (fun r h' hr => ?_)
    obtain ⟨rfl, rfl⟩ := hr
    refine Ev.run 5 (pc' := 49) (lv' := [(7, .int (nI 11)), (6, .int (nI 0)), (0, .ref 132), (1, .int (nI 3)), (2, .ref (60 + 2 * i)), (3, .int (nI 1)), (4, .int (x)), (5, .int (nI dp))]) (st' := [.int (nI ((ptLn g 133 20 11) 132 1) + nI 1), .ref 132]) (h' := HN (ptLn g 133 20 11) hl (RF rt)) rfl ?_
    refine Ev.topI (nI_add _ _) ?_
    refine Ev.run 1 (pc' := 52) (lv' := [(7, .int (nI 11)), (6, .int (nI 0)), (0, .ref 132), (1, .int (nI 3)), (2, .ref (60 + 2 * i)), (3, .int (nI 1)), (4, .int (x)), (5, .int (nI dp))]) (st' := []) (h' := setI (HN (ptLn g 133 20 11) hl (RF rt)) 132 1 (nI (((ptLn g 133 20 11) 132 1) + 1))) rfl ?_
    refine Ev.hp (HN_set _ _ _ _ _ _) ?_
    refine Ev.hp (congrArg (fun z => HN z hl (RF rt)) (show u2 (ptLn g 133 20 11) 132 1 ((ptLn g 133 20 11) 132 1 + 1) = bdC g [11] by rw [show ptLn g 133 20 11 132 1 = g 132 1 from by unfold ptLn; split; rw [u2_ne _ (Or.inl (by decide)), u2_ne _ (Or.inl (by decide))]; rfl]; exact bdC_1 h133 11)) ?_
    refine Ev.run 1 (pc' := 53) (lv' := [(7, .int (nI 11)), (6, .int (nI 0)), (0, .ref 132), (1, .int (nI 3)), (2, .ref (60 + 2 * i)), (3, .int (nI 1)), (4, .int (x)), (5, .int (nI dp))]) (st' := [.ref (60 + 2 * i)]) (h' := HN (bdC g [11]) hl (RF rt)) rfl ?_
    refine Ev_gfI rfl rfl rfl (kcP (show i < 5 by omega)) ?_
    refine Ev.topI (congrArg nI (((bdC_ne _ _ (by omega) _).trans hK))) ?_
    refine Ev.run 3 (pc' := 63) (lv' := [(8, .int (nI 3)), (7, .int (nI 11)), (6, .int (nI 0)), (0, .ref 132), (1, .int (nI 3)), (2, .ref (60 + 2 * i)), (3, .int (nI 1)), (4, .int (x)), (5, .int (nI dp))]) (st' := [.int (nI 0), .retAddr 1]) (h' := HN (bdC g [11]) hl (RF rt)) rfl ?_
    refine Ev_xald rfl (by decide) (show 0 < 7 by omega) (show 7 < 2 ^ 31 by decide) ?_
    refine Ev.topI (show xVal xs 1 0 = nI 4294967295 from rfl) ?_
    refine Ev.run 4 (pc' := 70) (lv' := [(9, .int (nI 4294967295)), (8, .int (nI 3)), (7, .int (nI 11)), (6, .int (nI 0)), (0, .ref 132), (1, .int (nI 3)), (2, .ref (60 + 2 * i)), (3, .int (nI 1)), (4, .int (x)), (5, .int (nI dp))]) (st' := [.int (nI dp + nI 1)]) (h' := HN (bdC g [11]) hl (RF rt)) rfl ?_
    refine Ev.topI (nI_add _ _) ?_
    refine Ev.run 9 (pc' := 189) (lv' := [(10, .int (nI (dp + 1))), (9, .int (nI 4294967295)), (8, .int (nI 3)), (7, .int (nI 11)), (6, .int (nI 0)), (0, .ref 132), (1, .int (nI 3)), (2, .ref (60 + 2 * i)), (3, .int (nI 1)), (4, .int (x)), (5, .int (nI dp))]) (st' := [.int (nI (dp + 1)), .int (x), .int (nI 0), .ref (60 + 2 * i), .int (nI 3), .ref 132]) (h' := HN (bdC g [11]) hl (RF rt)) rfl ?_
    refine Ev.call (a := 4) (as := [.ref 132, .int (nI 3), .ref (60 + 2 * i), .int (nI 0), .int (x), .int (nI (dp + 1))]) (rest := []) (lv0 := [(0, .ref 132), (1, .int (nI 3)), (2, .ref (60 + 2 * i)), (3, .int (nI 0)), (4, .int (x)), (5, .int (nI (dp + 1)))]) (Q1 := (fun z0 h' => z0 = some (.int (x + nI i)) ∧ h' = HN (bdC g [11, 10]) hl (RF rt))) rfl rfl (K_rf3_3_0 _ (bdC g [11]) _ _ (x) i v (dp + 1) hi hv (by rw [bdC_s]; split <;> omega) (by rw [bdC_ne _ _ (by omega)]; exact hN) (by rw [bdC_ne _ _ (by omega)]; exact hK) (by rw [bdC_ne _ _ (by omega)]; exact hv3) (by omega) ⟨rfl, congrArg (fun z => HN z hl (RF rt)) (bdC_c h133 _ _)⟩) (fun r h' hr => ?_)
    obtain ⟨rfl, rfl⟩ := hr
    refine Ev.run 1 (pc' := 193) (lv' := [(10, .int (nI (dp + 1))), (9, .int (nI 4294967295)), (8, .int (nI 3)), (7, .int (nI 11)), (6, .int (nI 0)), (0, .ref 132), (1, .int (nI 3)), (2, .ref (60 + 2 * i)), (3, .int (nI 1)), (4, .int (x)), (5, .int (nI dp))]) (st' := [.ref (60 + 2 * i), .int (x + nI i)]) (h' := HN (bdC g [11, 10]) hl (RF rt)) rfl ?_
    refine Ev_gfI rfl rfl rfl (kcP (show i < 5 by omega)) ?_
    refine Ev.topI (congrArg nI (((bdC_ne _ _ (by omega) _).trans hv3))) ?_
    refine Ev.run 1 (pc' := 197) (lv' := [(10, .int (nI (dp + 1))), (9, .int (nI 4294967295)), (8, .int (nI 3)), (7, .int (nI 11)), (6, .int (nI 0)), (0, .ref 132), (1, .int (nI 3)), (2, .ref (60 + 2 * i)), (3, .int (nI 1)), (4, .int (x)), (5, .int (nI dp))]) (st' := [.int ((x + nI i) - nI v)]) (h' := HN (bdC g [11, 10]) hl (RF rt)) rfl ?_
    refine Ev.ret (v := some (.int ((x + nI i) - nI v))) rfl ?_
    first | exact hq | (exfalso; omega)
  · have hc16 : ¬ (dp < 20) := fun z => hc16 ((nI_ltI (by omega) (by omega)).mpr z)
    refine Ev.run 1 (pc' := 20) (lv' := [(6, .int (nI 0)), (0, .ref 132), (1, .int (nI 3)), (2, .ref (60 + 2 * i)), (3, .int (nI 1)), (4, .int (x)), (5, .int (nI dp))]) (st' := [.int (nI 0)]) (h' := HN g hl (RF rt)) rfl ?_
    refine Ev.ret (v := some (.int (nI 0))) rfl ?_
    first | exact hq | (exfalso; omega)
theorem K_rf3_0_2 {L : Nat} {xs : Nat → Int32} (d : Nat) (g : Nat → Nat → Nat) (hl : Nat → Nat → Int64) (rt : Nat × Nat × Nat × Nat) (x : Int32) (i v dp : Nat) (hi : i < 5) (hv : v < 2 ^ 31) (h133 : g 133 1 ≤ 20) (hN : g (60 + 2 * i) 1 = i) (hK : g (60 + 2 * i) 2 = 3) (hv3 : g (60 + 2 * i) 3 = v) (hdp : dp ≤ 16) {Q : Po} (hq : Q (some (.int (((x + nI i) - nI v) * nI 2))) (HN (bdC g [12, 11, 10]) hl (RF rt))) : Ev L xs (d + 5) 4 0 [(0, .ref 132), (1, .int (nI 0)), (2, .ref (60 + 2 * i)), (3, .int (nI 2)), (4, .int (x)), (5, .int (nI dp))] [] (HN g hl (RF rt)) Q := by
  refine Ev.run 2 (pc' := 2) (lv' := [(0, .ref 132), (1, .int (nI 0)), (2, .ref (60 + 2 * i)), (3, .int (nI 2)), (4, .int (x)), (5, .int (nI dp))]) (st' := [.int (nI 2), .int (nI 0)]) (h' := HN g hl (RF rt)) rfl ?_
  refine Ev.call (a := 5) (as := [.int (nI 0), .int (nI 2)]) (rest := []) (lv0 := [(0, .int (nI 0)), (1, .int (nI 2))]) (Q1 := (fun z0 h' => z0 = some (.int (nI 0)) ∧ h' = HN g hl (RF rt))) rfl rfl (K_own02 _ _ _ _ ⟨rfl, rfl⟩) (fun r h' hr => ?_)
  obtain ⟨rfl, rfl⟩ := hr
  refine Ev.run 6 (pc' := (if nI dp < nI 20 then 21 else 19)) (lv' := [(6, .int (nI 0)), (0, .ref 132), (1, .int (nI 0)), (2, .ref (60 + 2 * i)), (3, .int (nI 2)), (4, .int (x)), (5, .int (nI dp))]) (st' := []) (h' := HN g hl (RF rt)) rfl ?_
  refine Ev.ite (fun hc16 => ?_) (fun hc16 => ?_)
  · have hc16 : dp < 20 := (nI_ltI (by omega) (by omega)).mp hc16
    refine Ev.run 6 (pc' := 30) (lv' := [(6, .int (nI 0)), (0, .ref 132), (1, .int (nI 0)), (2, .ref (60 + 2 * i)), (3, .int (nI 2)), (4, .int (x)), (5, .int (nI dp))]) (st' := [.int (nI 2), .retAddr 2]) (h' := HN g hl (RF rt)) rfl ?_
    refine Ev_xald rfl (by decide) (show 2 < 21 by omega) (show 21 < 2 ^ 31 by decide) ?_
    refine Ev.topI (show xVal xs 2 2 = nI 12 from rfl) ?_
    refine Ev.run 4 (pc' := 39) (lv' := [(7, .int (nI 12)), (6, .int (nI 0)), (0, .ref 132), (1, .int (nI 0)), (2, .ref (60 + 2 * i)), (3, .int (nI 2)), (4, .int (x)), (5, .int (nI dp))]) (st' := [.int (nI 12), .ref 133]) (h' := HN g hl (RF rt)) rfl ?_
    refine Ev.call (a := 43) (as := [.ref 133, .int (nI 12)]) (rest := []) (lv0 := [(0, .ref 133), (1, .int (nI 12))]) (Q1 := (fun z0 h' => z0 = none ∧ h' = HN (ptLn g 133 20 12) hl (RF rt))) rfl rfl (K_put _ g _ _ 133 20 (ln133 rt) 12 (by omega) ⟨rfl, rfl⟩) (fun r h' hr => ?_)
    obtain ⟨rfl, rfl⟩ := hr
    refine Ev.run 5 (pc' := 49) (lv' := [(7, .int (nI 12)), (6, .int (nI 0)), (0, .ref 132), (1, .int (nI 0)), (2, .ref (60 + 2 * i)), (3, .int (nI 2)), (4, .int (x)), (5, .int (nI dp))]) (st' := [.int (nI ((ptLn g 133 20 12) 132 1) + nI 1), .ref 132]) (h' := HN (ptLn g 133 20 12) hl (RF rt)) rfl ?_
    refine Ev.topI (nI_add _ _) ?_
    refine Ev.run 1 (pc' := 52) (lv' := [(7, .int (nI 12)), (6, .int (nI 0)), (0, .ref 132), (1, .int (nI 0)), (2, .ref (60 + 2 * i)), (3, .int (nI 2)), (4, .int (x)), (5, .int (nI dp))]) (st' := []) (h' := setI (HN (ptLn g 133 20 12) hl (RF rt)) 132 1 (nI (((ptLn g 133 20 12) 132 1) + 1))) rfl ?_
    refine Ev.hp (HN_set _ _ _ _ _ _) ?_
    refine Ev.hp (congrArg (fun z => HN z hl (RF rt)) (show u2 (ptLn g 133 20 12) 132 1 ((ptLn g 133 20 12) 132 1 + 1) = bdC g [12] by rw [show ptLn g 133 20 12 132 1 = g 132 1 from by unfold ptLn; split; rw [u2_ne _ (Or.inl (by decide)), u2_ne _ (Or.inl (by decide))]; rfl]; exact bdC_1 h133 12)) ?_
    refine Ev.run 1 (pc' := 53) (lv' := [(7, .int (nI 12)), (6, .int (nI 0)), (0, .ref 132), (1, .int (nI 0)), (2, .ref (60 + 2 * i)), (3, .int (nI 2)), (4, .int (x)), (5, .int (nI dp))]) (st' := [.ref (60 + 2 * i)]) (h' := HN (bdC g [12]) hl (RF rt)) rfl ?_
    refine Ev_gfI rfl rfl rfl (kcP (show i < 5 by omega)) ?_
    refine Ev.topI (congrArg nI (((bdC_ne _ _ (by omega) _).trans hK))) ?_
    refine Ev.run 3 (pc' := 63) (lv' := [(8, .int (nI 3)), (7, .int (nI 12)), (6, .int (nI 0)), (0, .ref 132), (1, .int (nI 0)), (2, .ref (60 + 2 * i)), (3, .int (nI 2)), (4, .int (x)), (5, .int (nI dp))]) (st' := [.int (nI 0), .retAddr 1]) (h' := HN (bdC g [12]) hl (RF rt)) rfl ?_
    refine Ev_xald rfl (by decide) (show 0 < 7 by omega) (show 7 < 2 ^ 31 by decide) ?_
    refine Ev.topI (show xVal xs 1 0 = nI 4294967295 from rfl) ?_
    refine Ev.run 4 (pc' := 70) (lv' := [(9, .int (nI 4294967295)), (8, .int (nI 3)), (7, .int (nI 12)), (6, .int (nI 0)), (0, .ref 132), (1, .int (nI 0)), (2, .ref (60 + 2 * i)), (3, .int (nI 2)), (4, .int (x)), (5, .int (nI dp))]) (st' := [.int (nI dp + nI 1)]) (h' := HN (bdC g [12]) hl (RF rt)) rfl ?_
    refine Ev.topI (nI_add _ _) ?_
    refine Ev.run 9 (pc' := 207) (lv' := [(10, .int (nI (dp + 1))), (9, .int (nI 4294967295)), (8, .int (nI 3)), (7, .int (nI 12)), (6, .int (nI 0)), (0, .ref 132), (1, .int (nI 0)), (2, .ref (60 + 2 * i)), (3, .int (nI 2)), (4, .int (x)), (5, .int (nI dp))]) (st' := [.int (nI (dp + 1)), .int (x), .int (nI 1), .ref (60 + 2 * i), .int (nI 3), .ref 132]) (h' := HN (bdC g [12]) hl (RF rt)) rfl ?_
    refine Ev.call (a := 4) (as := [.ref 132, .int (nI 3), .ref (60 + 2 * i), .int (nI 1), .int (x), .int (nI (dp + 1))]) (rest := []) (lv0 := [(0, .ref 132), (1, .int (nI 3)), (2, .ref (60 + 2 * i)), (3, .int (nI 1)), (4, .int (x)), (5, .int (nI (dp + 1)))]) (Q1 := (fun z0 h' => z0 = some (.int ((x + nI i) - nI v)) ∧ h' = HN (bdC g [12, 11, 10]) hl (RF rt))) rfl rfl (K_rf3_3_1 _ (bdC g [12]) _ _ (x) i v (dp + 1) hi hv (by rw [bdC_s]; split <;> omega) (by rw [bdC_ne _ _ (by omega)]; exact hN) (by rw [bdC_ne _ _ (by omega)]; exact hK) (by rw [bdC_ne _ _ (by omega)]; exact hv3) (by omega) ⟨rfl, congrArg (fun z => HN z hl (RF rt)) (bdC_c h133 _ _)⟩) (fun r h' hr => ?_)
    obtain ⟨rfl, rfl⟩ := hr
    refine Ev.run 2 (pc' := 212) (lv' := [(10, .int (nI (dp + 1))), (9, .int (nI 4294967295)), (8, .int (nI 3)), (7, .int (nI 12)), (6, .int (nI 0)), (0, .ref 132), (1, .int (nI 0)), (2, .ref (60 + 2 * i)), (3, .int (nI 2)), (4, .int (x)), (5, .int (nI dp))]) (st' := [.int (((x + nI i) - nI v) * nI 2)]) (h' := HN (bdC g [12, 11, 10]) hl (RF rt)) rfl ?_
    refine Ev.ret (v := some (.int (((x + nI i) - nI v) * nI 2))) rfl ?_
    first | exact hq | (exfalso; omega)
  · have hc16 : ¬ (dp < 20) := fun z => hc16 ((nI_ltI (by omega) (by omega)).mpr z)
    refine Ev.run 1 (pc' := 20) (lv' := [(6, .int (nI 0)), (0, .ref 132), (1, .int (nI 0)), (2, .ref (60 + 2 * i)), (3, .int (nI 2)), (4, .int (x)), (5, .int (nI dp))]) (st' := [.int (nI 0)]) (h' := HN g hl (RF rt)) rfl ?_
    refine Ev.ret (v := some (.int (nI 0))) rfl ?_
    first | exact hq | (exfalso; omega)
theorem K_rf3_3_2 {L : Nat} {xs : Nat → Int32} (d : Nat) (g : Nat → Nat → Nat) (hl : Nat → Nat → Int64) (rt : Nat × Nat × Nat × Nat) (x : Int32) (i v dp : Nat) (hi : i < 5) (hv : v < 2 ^ 31) (h133 : g 133 1 ≤ 20) (hN : g (60 + 2 * i) 1 = i) (hK : g (60 + 2 * i) 2 = 3) (hv3 : g (60 + 2 * i) 3 = v) (hdp : dp ≤ 15) {Q : Po} (hq : Q (some (.int ((((x + nI i) - nI v) * nI 2) + (((nI 1) + nI i) - nI v)))) (HN (bdC g [40, 12, 11, 10, 11, 10]) hl (RF rt))) : Ev L xs (d + 6) 4 0 [(0, .ref 132), (1, .int (nI 3)), (2, .ref (60 + 2 * i)), (3, .int (nI 2)), (4, .int (x)), (5, .int (nI dp))] [] (HN g hl (RF rt)) Q := by
  refine Ev.run 2 (pc' := 2) (lv' := [(0, .ref 132), (1, .int (nI 3)), (2, .ref (60 + 2 * i)), (3, .int (nI 2)), (4, .int (x)), (5, .int (nI dp))]) (st' := [.int (nI 2), .int (nI 3)]) (h' := HN g hl (RF rt)) rfl ?_
  refine Ev.call (a := 5) (as := [.int (nI 3), .int (nI 2)]) (rest := []) (lv0 := [(0, .int (nI 3)), (1, .int (nI 2))]) (Q1 := (fun z0 h' => z0 = some (.int (nI 3)) ∧ h' = HN g hl (RF rt))) rfl rfl (K_own32 _ _ _ _ ⟨rfl, rfl⟩) (fun r h' hr => ?_)
  obtain ⟨rfl, rfl⟩ := hr
  refine Ev.run 6 (pc' := (if nI dp < nI 20 then 21 else 19)) (lv' := [(6, .int (nI 3)), (0, .ref 132), (1, .int (nI 3)), (2, .ref (60 + 2 * i)), (3, .int (nI 2)), (4, .int (x)), (5, .int (nI dp))]) (st' := []) (h' := HN g hl (RF rt)) rfl ?_
  refine Ev.ite (fun hc16 => ?_) (fun hc16 => ?_)
  · have hc16 : dp < 20 := (nI_ltI (by omega) (by omega)).mp hc16
    refine Ev.run 6 (pc' := 30) (lv' := [(6, .int (nI 3)), (0, .ref 132), (1, .int (nI 3)), (2, .ref (60 + 2 * i)), (3, .int (nI 2)), (4, .int (x)), (5, .int (nI dp))]) (st' := [.int (nI 11), .retAddr 2]) (h' := HN g hl (RF rt)) rfl ?_
    refine Ev_xald rfl (by decide) (show 11 < 21 by omega) (show 21 < 2 ^ 31 by decide) ?_
    refine Ev.topI (show xVal xs 2 11 = nI 40 from rfl) ?_
    refine Ev.run 4 (pc' := 39) (lv' := [(7, .int (nI 40)), (6, .int (nI 3)), (0, .ref 132), (1, .int (nI 3)), (2, .ref (60 + 2 * i)), (3, .int (nI 2)), (4, .int (x)), (5, .int (nI dp))]) (st' := [.int (nI 40), .ref 133]) (h' := HN g hl (RF rt)) rfl ?_
    refine Ev.call (a := 43) (as := [.ref 133, .int (nI 40)]) (rest := []) (lv0 := [(0, .ref 133), (1, .int (nI 40))]) (Q1 := (fun z0 h' => z0 = none ∧ h' = HN (ptLn g 133 20 40) hl (RF rt))) rfl rfl (K_put _ g _ _ 133 20 (ln133 rt) 40 (by omega) ⟨rfl, rfl⟩) (fun r h' hr => ?_)
    obtain ⟨rfl, rfl⟩ := hr
    refine Ev.run 5 (pc' := 49) (lv' := [(7, .int (nI 40)), (6, .int (nI 3)), (0, .ref 132), (1, .int (nI 3)), (2, .ref (60 + 2 * i)), (3, .int (nI 2)), (4, .int (x)), (5, .int (nI dp))]) (st' := [.int (nI ((ptLn g 133 20 40) 132 1) + nI 1), .ref 132]) (h' := HN (ptLn g 133 20 40) hl (RF rt)) rfl ?_
    refine Ev.topI (nI_add _ _) ?_
    refine Ev.run 1 (pc' := 52) (lv' := [(7, .int (nI 40)), (6, .int (nI 3)), (0, .ref 132), (1, .int (nI 3)), (2, .ref (60 + 2 * i)), (3, .int (nI 2)), (4, .int (x)), (5, .int (nI dp))]) (st' := []) (h' := setI (HN (ptLn g 133 20 40) hl (RF rt)) 132 1 (nI (((ptLn g 133 20 40) 132 1) + 1))) rfl ?_
    refine Ev.hp (HN_set _ _ _ _ _ _) ?_
    refine Ev.hp (congrArg (fun z => HN z hl (RF rt)) (show u2 (ptLn g 133 20 40) 132 1 ((ptLn g 133 20 40) 132 1 + 1) = bdC g [40] by rw [show ptLn g 133 20 40 132 1 = g 132 1 from by unfold ptLn; split; rw [u2_ne _ (Or.inl (by decide)), u2_ne _ (Or.inl (by decide))]; rfl]; exact bdC_1 h133 40)) ?_
    refine Ev.run 1 (pc' := 53) (lv' := [(7, .int (nI 40)), (6, .int (nI 3)), (0, .ref 132), (1, .int (nI 3)), (2, .ref (60 + 2 * i)), (3, .int (nI 2)), (4, .int (x)), (5, .int (nI dp))]) (st' := [.ref (60 + 2 * i)]) (h' := HN (bdC g [40]) hl (RF rt)) rfl ?_
    refine Ev_gfI rfl rfl rfl (kcP (show i < 5 by omega)) ?_
    refine Ev.topI (congrArg nI (((bdC_ne _ _ (by omega) _).trans hK))) ?_
    refine Ev.run 3 (pc' := 63) (lv' := [(8, .int (nI 3)), (7, .int (nI 40)), (6, .int (nI 3)), (0, .ref 132), (1, .int (nI 3)), (2, .ref (60 + 2 * i)), (3, .int (nI 2)), (4, .int (x)), (5, .int (nI dp))]) (st' := [.int (nI 3), .retAddr 1]) (h' := HN (bdC g [40]) hl (RF rt)) rfl ?_
    refine Ev_xald rfl (by decide) (show 3 < 7 by omega) (show 7 < 2 ^ 31 by decide) ?_
    refine Ev.topI (show xVal xs 1 3 = nI 0 from rfl) ?_
    refine Ev.run 4 (pc' := 70) (lv' := [(9, .int (nI 0)), (8, .int (nI 3)), (7, .int (nI 40)), (6, .int (nI 3)), (0, .ref 132), (1, .int (nI 3)), (2, .ref (60 + 2 * i)), (3, .int (nI 2)), (4, .int (x)), (5, .int (nI dp))]) (st' := [.int (nI dp + nI 1)]) (h' := HN (bdC g [40]) hl (RF rt)) rfl ?_
    refine Ev.topI (nI_add _ _) ?_
    refine Ev.run 9 (pc' := 253) (lv' := [(10, .int (nI (dp + 1))), (9, .int (nI 0)), (8, .int (nI 3)), (7, .int (nI 40)), (6, .int (nI 3)), (0, .ref 132), (1, .int (nI 3)), (2, .ref (60 + 2 * i)), (3, .int (nI 2)), (4, .int (x)), (5, .int (nI dp))]) (st' := [.int (nI (dp + 1)), .int (x), .int (nI 2), .ref (60 + 2 * i), .int (nI 0), .ref 132]) (h' := HN (bdC g [40]) hl (RF rt)) rfl ?_
    refine Ev.call (a := 4) (as := [.ref 132, .int (nI 0), .ref (60 + 2 * i), .int (nI 2), .int (x), .int (nI (dp + 1))]) (rest := []) (lv0 := [(0, .ref 132), (1, .int (nI 0)), (2, .ref (60 + 2 * i)), (3, .int (nI 2)), (4, .int (x)), (5, .int (nI (dp + 1)))]) (Q1 := (fun z0 h' => z0 = some (.int (((x + nI i) - nI v) * nI 2)) ∧ h' = HN (bdC g [40, 12, 11, 10]) hl (RF rt))) rfl rfl (K_rf3_0_2 _ (bdC g [40]) _ _ (x) i v (dp + 1) hi hv (by rw [bdC_s]; split <;> omega) (by rw [bdC_ne _ _ (by omega)]; exact hN) (by rw [bdC_ne _ _ (by omega)]; exact hK) (by rw [bdC_ne _ _ (by omega)]; exact hv3) (by omega) ⟨rfl, congrArg (fun z => HN z hl (RF rt)) (bdC_c h133 _ _)⟩) (fun r h' hr => ?_)
    obtain ⟨rfl, rfl⟩ := hr
    refine Ev.run 6 (pc' := 264) (lv' := [(10, .int (nI (dp + 1))), (9, .int (nI 0)), (8, .int (nI 3)), (7, .int (nI 40)), (6, .int (nI 3)), (0, .ref 132), (1, .int (nI 3)), (2, .ref (60 + 2 * i)), (3, .int (nI 2)), (4, .int (x)), (5, .int (nI dp))]) (st' := [.int (nI (dp + 1)), .int (nI 1), .int (nI 1), .ref (60 + 2 * i), .int (nI 3), .ref 132, .int (((x + nI i) - nI v) * nI 2)]) (h' := HN (bdC g [40, 12, 11, 10]) hl (RF rt)) rfl ?_
    refine Ev.call (a := 4) (as := [.ref 132, .int (nI 3), .ref (60 + 2 * i), .int (nI 1), .int (nI 1), .int (nI (dp + 1))]) (rest := [.int (((x + nI i) - nI v) * nI 2)]) (lv0 := [(0, .ref 132), (1, .int (nI 3)), (2, .ref (60 + 2 * i)), (3, .int (nI 1)), (4, .int (nI 1)), (5, .int (nI (dp + 1)))]) (Q1 := (fun z0 h' => z0 = some (.int (((nI 1) + nI i) - nI v)) ∧ h' = HN (bdC g [40, 12, 11, 10, 11, 10]) hl (RF rt))) rfl rfl (K_rf3_3_1 _ (bdC g [40, 12, 11, 10]) _ _ (nI 1) i v (dp + 1) hi hv (by rw [bdC_s]; split <;> omega) (by rw [bdC_ne _ _ (by omega)]; exact hN) (by rw [bdC_ne _ _ (by omega)]; exact hK) (by rw [bdC_ne _ _ (by omega)]; exact hv3) (by omega) ⟨rfl, congrArg (fun z => HN z hl (RF rt)) (bdC_c h133 _ _)⟩) (fun r h' hr => ?_)
    obtain ⟨rfl, rfl⟩ := hr
    refine Ev.run 1 (pc' := 268) (lv' := [(10, .int (nI (dp + 1))), (9, .int (nI 0)), (8, .int (nI 3)), (7, .int (nI 40)), (6, .int (nI 3)), (0, .ref 132), (1, .int (nI 3)), (2, .ref (60 + 2 * i)), (3, .int (nI 2)), (4, .int (x)), (5, .int (nI dp))]) (st' := [.int ((((x + nI i) - nI v) * nI 2) + (((nI 1) + nI i) - nI v))]) (h' := HN (bdC g [40, 12, 11, 10, 11, 10]) hl (RF rt)) rfl ?_
    refine Ev.ret (v := some (.int ((((x + nI i) - nI v) * nI 2) + (((nI 1) + nI i) - nI v)))) rfl ?_
    first | exact hq | (exfalso; omega)
  · have hc16 : ¬ (dp < 20) := fun z => hc16 ((nI_ltI (by omega) (by omega)).mpr z)
    refine Ev.run 1 (pc' := 20) (lv' := [(6, .int (nI 3)), (0, .ref 132), (1, .int (nI 3)), (2, .ref (60 + 2 * i)), (3, .int (nI 2)), (4, .int (x)), (5, .int (nI dp))]) (st' := [.int (nI 0)]) (h' := HN g hl (RF rt)) rfl ?_
    refine Ev.ret (v := some (.int (nI 0))) rfl ?_
    first | exact hq | (exfalso; omega)
theorem K_rf4_1_0 {L : Nat} {xs : Nat → Int32} (d : Nat) (g : Nat → Nat → Nat) (hl : Nat → Nat → Int64) (rt : Nat × Nat × Nat × Nat) (x : Int32) (i v dp : Nat) (hi : i < 5) (hv : v < 2 ^ 31) (h133 : g 133 1 ≤ 20) (hN : g (60 + 2 * i) 1 = i) (hK : g (60 + 2 * i) 2 = 4) (hv3 : g (60 + 2 * i) 3 = v) (hdp : dp ≤ 18) {Q : Po} (hq : Q (some (.int (x + nI i))) (HN (bdC g [10]) hl (RF rt))) : Ev L xs (d + 3) 4 0 [(0, .ref 132), (1, .int (nI 1)), (2, .ref (60 + 2 * i)), (3, .int (nI 0)), (4, .int (x)), (5, .int (nI dp))] [] (HN g hl (RF rt)) Q := by
  refine Ev.run 2 (pc' := 2) (lv' := [(0, .ref 132), (1, .int (nI 1)), (2, .ref (60 + 2 * i)), (3, .int (nI 0)), (4, .int (x)), (5, .int (nI dp))]) (st' := [.int (nI 0), .int (nI 1)]) (h' := HN g hl (RF rt)) rfl ?_
  refine Ev.call (a := 5) (as := [.int (nI 1), .int (nI 0)]) (rest := []) (lv0 := [(0, .int (nI 1)), (1, .int (nI 0))]) (Q1 := (fun z0 h' => z0 = some (.int (nI 0)) ∧ h' = HN g hl (RF rt))) rfl rfl (K_own10 _ _ _ _ ⟨rfl, rfl⟩) (fun r h' hr => ?_)
  obtain ⟨rfl, rfl⟩ := hr
  refine Ev.run 6 (pc' := (if nI dp < nI 20 then 21 else 19)) (lv' := [(6, .int (nI 0)), (0, .ref 132), (1, .int (nI 1)), (2, .ref (60 + 2 * i)), (3, .int (nI 0)), (4, .int (x)), (5, .int (nI dp))]) (st' := []) (h' := HN g hl (RF rt)) rfl ?_
  refine Ev.ite (fun hc16 => ?_) (fun hc16 => ?_)
  · have hc16 : dp < 20 := (nI_ltI (by omega) (by omega)).mp hc16
    refine Ev.run 6 (pc' := 30) (lv' := [(6, .int (nI 0)), (0, .ref 132), (1, .int (nI 1)), (2, .ref (60 + 2 * i)), (3, .int (nI 0)), (4, .int (x)), (5, .int (nI dp))]) (st' := [.int (nI 0), .retAddr 2]) (h' := HN g hl (RF rt)) rfl ?_
    refine Ev_xald rfl (by decide) (show 0 < 21 by omega) (show 21 < 2 ^ 31 by decide) ?_
    refine Ev.topI (show xVal xs 2 0 = nI 10 from rfl) ?_
    refine Ev.run 4 (pc' := 39) (lv' := [(7, .int (nI 10)), (6, .int (nI 0)), (0, .ref 132), (1, .int (nI 1)), (2, .ref (60 + 2 * i)), (3, .int (nI 0)), (4, .int (x)), (5, .int (nI dp))]) (st' := [.int (nI 10), .ref 133]) (h' := HN g hl (RF rt)) rfl ?_
    refine Ev.call (a := 43) (as := [.ref 133, .int (nI 10)]) (rest := []) (lv0 := [(0, .ref 133), (1, .int (nI 10))]) (Q1 := (fun z0 h' => z0 = none ∧ h' = HN (ptLn g 133 20 10) hl (RF rt))) rfl rfl (K_put _ g _ _ 133 20 (ln133 rt) 10 (by omega) ⟨rfl, rfl⟩) (fun r h' hr => ?_)
    obtain ⟨rfl, rfl⟩ := hr
    refine Ev.run 5 (pc' := 49) (lv' := [(7, .int (nI 10)), (6, .int (nI 0)), (0, .ref 132), (1, .int (nI 1)), (2, .ref (60 + 2 * i)), (3, .int (nI 0)), (4, .int (x)), (5, .int (nI dp))]) (st' := [.int (nI ((ptLn g 133 20 10) 132 1) + nI 1), .ref 132]) (h' := HN (ptLn g 133 20 10) hl (RF rt)) rfl ?_
    refine Ev.topI (nI_add _ _) ?_
    refine Ev.run 1 (pc' := 52) (lv' := [(7, .int (nI 10)), (6, .int (nI 0)), (0, .ref 132), (1, .int (nI 1)), (2, .ref (60 + 2 * i)), (3, .int (nI 0)), (4, .int (x)), (5, .int (nI dp))]) (st' := []) (h' := setI (HN (ptLn g 133 20 10) hl (RF rt)) 132 1 (nI (((ptLn g 133 20 10) 132 1) + 1))) rfl ?_
    refine Ev.hp (HN_set _ _ _ _ _ _) ?_
    refine Ev.hp (congrArg (fun z => HN z hl (RF rt)) (show u2 (ptLn g 133 20 10) 132 1 ((ptLn g 133 20 10) 132 1 + 1) = bdC g [10] by rw [show ptLn g 133 20 10 132 1 = g 132 1 from by unfold ptLn; split; rw [u2_ne _ (Or.inl (by decide)), u2_ne _ (Or.inl (by decide))]; rfl]; exact bdC_1 h133 10)) ?_
    refine Ev.run 1 (pc' := 53) (lv' := [(7, .int (nI 10)), (6, .int (nI 0)), (0, .ref 132), (1, .int (nI 1)), (2, .ref (60 + 2 * i)), (3, .int (nI 0)), (4, .int (x)), (5, .int (nI dp))]) (st' := [.ref (60 + 2 * i)]) (h' := HN (bdC g [10]) hl (RF rt)) rfl ?_
    refine Ev_gfI rfl rfl rfl (kcP (show i < 5 by omega)) ?_
    refine Ev.topI (congrArg nI (((bdC_ne _ _ (by omega) _).trans hK))) ?_
    refine Ev.run 3 (pc' := 63) (lv' := [(8, .int (nI 4)), (7, .int (nI 10)), (6, .int (nI 0)), (0, .ref 132), (1, .int (nI 1)), (2, .ref (60 + 2 * i)), (3, .int (nI 0)), (4, .int (x)), (5, .int (nI dp))]) (st' := [.int (nI 0), .retAddr 1]) (h' := HN (bdC g [10]) hl (RF rt)) rfl ?_
    refine Ev_xald rfl (by decide) (show 0 < 7 by omega) (show 7 < 2 ^ 31 by decide) ?_
    refine Ev.topI (show xVal xs 1 0 = nI 4294967295 from rfl) ?_
    refine Ev.run 4 (pc' := 70) (lv' := [(9, .int (nI 4294967295)), (8, .int (nI 4)), (7, .int (nI 10)), (6, .int (nI 0)), (0, .ref 132), (1, .int (nI 1)), (2, .ref (60 + 2 * i)), (3, .int (nI 0)), (4, .int (x)), (5, .int (nI dp))]) (st' := [.int (nI dp + nI 1)]) (h' := HN (bdC g [10]) hl (RF rt)) rfl ?_
    refine Ev.topI (nI_add _ _) ?_
    refine Ev.run 5 (pc' := 175) (lv' := [(10, .int (nI (dp + 1))), (9, .int (nI 4294967295)), (8, .int (nI 4)), (7, .int (nI 10)), (6, .int (nI 0)), (0, .ref 132), (1, .int (nI 1)), (2, .ref (60 + 2 * i)), (3, .int (nI 0)), (4, .int (x)), (5, .int (nI dp))]) (st' := [.ref (60 + 2 * i), .int (x)]) (h' := HN (bdC g [10]) hl (RF rt)) rfl ?_
    refine Ev_gfI rfl rfl rfl (kcP (show i < 5 by omega)) ?_
    refine Ev.topI (congrArg nI (((bdC_ne _ _ (by omega) _).trans hN))) ?_
    refine Ev.run 1 (pc' := 179) (lv' := [(10, .int (nI (dp + 1))), (9, .int (nI 4294967295)), (8, .int (nI 4)), (7, .int (nI 10)), (6, .int (nI 0)), (0, .ref 132), (1, .int (nI 1)), (2, .ref (60 + 2 * i)), (3, .int (nI 0)), (4, .int (x)), (5, .int (nI dp))]) (st' := [.int (x + nI i)]) (h' := HN (bdC g [10]) hl (RF rt)) rfl ?_
    refine Ev.ret (v := some (.int (x + nI i))) rfl ?_
    first | exact hq | (exfalso; omega)
  · have hc16 : ¬ (dp < 20) := fun z => hc16 ((nI_ltI (by omega) (by omega)).mpr z)
    refine Ev.run 1 (pc' := 20) (lv' := [(6, .int (nI 0)), (0, .ref 132), (1, .int (nI 1)), (2, .ref (60 + 2 * i)), (3, .int (nI 0)), (4, .int (x)), (5, .int (nI dp))]) (st' := [.int (nI 0)]) (h' := HN g hl (RF rt)) rfl ?_
    refine Ev.ret (v := some (.int (nI 0))) rfl ?_
    first | exact hq | (exfalso; omega)
theorem K_rf4_4_0 {L : Nat} {xs : Nat → Int32} (d : Nat) (g : Nat → Nat → Nat) (hl : Nat → Nat → Int64) (rt : Nat × Nat × Nat × Nat) (x : Int32) (i v dp : Nat) (hi : i < 5) (hv : v < 2 ^ 31) (h133 : g 133 1 ≤ 20) (hN : g (60 + 2 * i) 1 = i) (hK : g (60 + 2 * i) 2 = 4) (hv3 : g (60 + 2 * i) 3 = v) (hdp : dp ≤ 17) {Q : Po} (hq : Q (some (.int (-(x + nI i)))) (HN (bdC g [50, 10]) hl (RF rt))) : Ev L xs (d + 4) 4 0 [(0, .ref 132), (1, .int (nI 4)), (2, .ref (60 + 2 * i)), (3, .int (nI 0)), (4, .int (x)), (5, .int (nI dp))] [] (HN g hl (RF rt)) Q := by
  refine Ev.run 2 (pc' := 2) (lv' := [(0, .ref 132), (1, .int (nI 4)), (2, .ref (60 + 2 * i)), (3, .int (nI 0)), (4, .int (x)), (5, .int (nI dp))]) (st' := [.int (nI 0), .int (nI 4)]) (h' := HN g hl (RF rt)) rfl ?_
  refine Ev.call (a := 5) (as := [.int (nI 4), .int (nI 0)]) (rest := []) (lv0 := [(0, .int (nI 4)), (1, .int (nI 0))]) (Q1 := (fun z0 h' => z0 = some (.int (nI 4)) ∧ h' = HN g hl (RF rt))) rfl rfl (K_own40 _ _ _ _ ⟨rfl, rfl⟩) (fun r h' hr => ?_)
  obtain ⟨rfl, rfl⟩ := hr
  refine Ev.run 6 (pc' := (if nI dp < nI 20 then 21 else 19)) (lv' := [(6, .int (nI 4)), (0, .ref 132), (1, .int (nI 4)), (2, .ref (60 + 2 * i)), (3, .int (nI 0)), (4, .int (x)), (5, .int (nI dp))]) (st' := []) (h' := HN g hl (RF rt)) rfl ?_
  refine Ev.ite (fun hc16 => ?_) (fun hc16 => ?_)
  · have hc16 : dp < 20 := (nI_ltI (by omega) (by omega)).mp hc16
    refine Ev.run 6 (pc' := 30) (lv' := [(6, .int (nI 4)), (0, .ref 132), (1, .int (nI 4)), (2, .ref (60 + 2 * i)), (3, .int (nI 0)), (4, .int (x)), (5, .int (nI dp))]) (st' := [.int (nI 12), .retAddr 2]) (h' := HN g hl (RF rt)) rfl ?_
    refine Ev_xald rfl (by decide) (show 12 < 21 by omega) (show 21 < 2 ^ 31 by decide) ?_
    refine Ev.topI (show xVal xs 2 12 = nI 50 from rfl) ?_
    refine Ev.run 4 (pc' := 39) (lv' := [(7, .int (nI 50)), (6, .int (nI 4)), (0, .ref 132), (1, .int (nI 4)), (2, .ref (60 + 2 * i)), (3, .int (nI 0)), (4, .int (x)), (5, .int (nI dp))]) (st' := [.int (nI 50), .ref 133]) (h' := HN g hl (RF rt)) rfl ?_
    refine Ev.call (a := 43) (as := [.ref 133, .int (nI 50)]) (rest := []) (lv0 := [(0, .ref 133), (1, .int (nI 50))]) (Q1 := (fun z0 h' => z0 = none ∧ h' = HN (ptLn g 133 20 50) hl (RF rt))) rfl rfl (K_put _ g _ _ 133 20 (ln133 rt) 50 (by omega) ⟨rfl, rfl⟩) (fun r h' hr => ?_)
    obtain ⟨rfl, rfl⟩ := hr
    refine Ev.run 5 (pc' := 49) (lv' := [(7, .int (nI 50)), (6, .int (nI 4)), (0, .ref 132), (1, .int (nI 4)), (2, .ref (60 + 2 * i)), (3, .int (nI 0)), (4, .int (x)), (5, .int (nI dp))]) (st' := [.int (nI ((ptLn g 133 20 50) 132 1) + nI 1), .ref 132]) (h' := HN (ptLn g 133 20 50) hl (RF rt)) rfl ?_
    refine Ev.topI (nI_add _ _) ?_
    refine Ev.run 1 (pc' := 52) (lv' := [(7, .int (nI 50)), (6, .int (nI 4)), (0, .ref 132), (1, .int (nI 4)), (2, .ref (60 + 2 * i)), (3, .int (nI 0)), (4, .int (x)), (5, .int (nI dp))]) (st' := []) (h' := setI (HN (ptLn g 133 20 50) hl (RF rt)) 132 1 (nI (((ptLn g 133 20 50) 132 1) + 1))) rfl ?_
    refine Ev.hp (HN_set _ _ _ _ _ _) ?_
    refine Ev.hp (congrArg (fun z => HN z hl (RF rt)) (show u2 (ptLn g 133 20 50) 132 1 ((ptLn g 133 20 50) 132 1 + 1) = bdC g [50] by rw [show ptLn g 133 20 50 132 1 = g 132 1 from by unfold ptLn; split; rw [u2_ne _ (Or.inl (by decide)), u2_ne _ (Or.inl (by decide))]; rfl]; exact bdC_1 h133 50)) ?_
    refine Ev.run 1 (pc' := 53) (lv' := [(7, .int (nI 50)), (6, .int (nI 4)), (0, .ref 132), (1, .int (nI 4)), (2, .ref (60 + 2 * i)), (3, .int (nI 0)), (4, .int (x)), (5, .int (nI dp))]) (st' := [.ref (60 + 2 * i)]) (h' := HN (bdC g [50]) hl (RF rt)) rfl ?_
    refine Ev_gfI rfl rfl rfl (kcP (show i < 5 by omega)) ?_
    refine Ev.topI (congrArg nI (((bdC_ne _ _ (by omega) _).trans hK))) ?_
    refine Ev.run 3 (pc' := 63) (lv' := [(8, .int (nI 4)), (7, .int (nI 50)), (6, .int (nI 4)), (0, .ref 132), (1, .int (nI 4)), (2, .ref (60 + 2 * i)), (3, .int (nI 0)), (4, .int (x)), (5, .int (nI dp))]) (st' := [.int (nI 4), .retAddr 1]) (h' := HN (bdC g [50]) hl (RF rt)) rfl ?_
    refine Ev_xald rfl (by decide) (show 4 < 7 by omega) (show 7 < 2 ^ 31 by decide) ?_
    refine Ev.topI (show xVal xs 1 4 = nI 1 from rfl) ?_
    refine Ev.run 4 (pc' := 70) (lv' := [(9, .int (nI 1)), (8, .int (nI 4)), (7, .int (nI 50)), (6, .int (nI 4)), (0, .ref 132), (1, .int (nI 4)), (2, .ref (60 + 2 * i)), (3, .int (nI 0)), (4, .int (x)), (5, .int (nI dp))]) (st' := [.int (nI dp + nI 1)]) (h' := HN (bdC g [50]) hl (RF rt)) rfl ?_
    refine Ev.topI (nI_add _ _) ?_
    refine Ev.run 9 (pc' := 278) (lv' := [(10, .int (nI (dp + 1))), (9, .int (nI 1)), (8, .int (nI 4)), (7, .int (nI 50)), (6, .int (nI 4)), (0, .ref 132), (1, .int (nI 4)), (2, .ref (60 + 2 * i)), (3, .int (nI 0)), (4, .int (x)), (5, .int (nI dp))]) (st' := [.int (nI (dp + 1)), .int (x), .int (nI 0), .ref (60 + 2 * i), .int (nI 1), .ref 132]) (h' := HN (bdC g [50]) hl (RF rt)) rfl ?_
    refine Ev.call (a := 4) (as := [.ref 132, .int (nI 1), .ref (60 + 2 * i), .int (nI 0), .int (x), .int (nI (dp + 1))]) (rest := []) (lv0 := [(0, .ref 132), (1, .int (nI 1)), (2, .ref (60 + 2 * i)), (3, .int (nI 0)), (4, .int (x)), (5, .int (nI (dp + 1)))]) (Q1 := (fun z0 h' => z0 = some (.int (x + nI i)) ∧ h' = HN (bdC g [50, 10]) hl (RF rt))) rfl rfl (K_rf4_1_0 _ (bdC g [50]) _ _ (x) i v (dp + 1) hi hv (by rw [bdC_s]; split <;> omega) (by rw [bdC_ne _ _ (by omega)]; exact hN) (by rw [bdC_ne _ _ (by omega)]; exact hK) (by rw [bdC_ne _ _ (by omega)]; exact hv3) (by omega) ⟨rfl, congrArg (fun z => HN z hl (RF rt)) (bdC_c h133 _ _)⟩) (fun r h' hr => ?_)
    obtain ⟨rfl, rfl⟩ := hr
    refine Ev.run 1 (pc' := 282) (lv' := [(10, .int (nI (dp + 1))), (9, .int (nI 1)), (8, .int (nI 4)), (7, .int (nI 50)), (6, .int (nI 4)), (0, .ref 132), (1, .int (nI 4)), (2, .ref (60 + 2 * i)), (3, .int (nI 0)), (4, .int (x)), (5, .int (nI dp))]) (st' := [.int (-(x + nI i))]) (h' := HN (bdC g [50, 10]) hl (RF rt)) rfl ?_
    refine Ev.ret (v := some (.int (-(x + nI i)))) rfl ?_
    first | exact hq | (exfalso; omega)
  · have hc16 : ¬ (dp < 20) := fun z => hc16 ((nI_ltI (by omega) (by omega)).mpr z)
    refine Ev.run 1 (pc' := 20) (lv' := [(6, .int (nI 4)), (0, .ref 132), (1, .int (nI 4)), (2, .ref (60 + 2 * i)), (3, .int (nI 0)), (4, .int (x)), (5, .int (nI dp))]) (st' := [.int (nI 0)]) (h' := HN g hl (RF rt)) rfl ?_
    refine Ev.ret (v := some (.int (nI 0))) rfl ?_
    first | exact hq | (exfalso; omega)
theorem K_rf4_0_1 {L : Nat} {xs : Nat → Int32} (d : Nat) (g : Nat → Nat → Nat) (hl : Nat → Nat → Int64) (rt : Nat × Nat × Nat × Nat) (x : Int32) (i v dp : Nat) (hi : i < 5) (hv : v < 2 ^ 31) (h133 : g 133 1 ≤ 20) (hN : g (60 + 2 * i) 1 = i) (hK : g (60 + 2 * i) 2 = 4) (hv3 : g (60 + 2 * i) 3 = v) (hdp : dp ≤ 16) {Q : Po} (hq : Q (some (.int ((-(x + nI i)) - nI v))) (HN (bdC g [11, 50, 10]) hl (RF rt))) : Ev L xs (d + 5) 4 0 [(0, .ref 132), (1, .int (nI 0)), (2, .ref (60 + 2 * i)), (3, .int (nI 1)), (4, .int (x)), (5, .int (nI dp))] [] (HN g hl (RF rt)) Q := by
  refine Ev.run 2 (pc' := 2) (lv' := [(0, .ref 132), (1, .int (nI 0)), (2, .ref (60 + 2 * i)), (3, .int (nI 1)), (4, .int (x)), (5, .int (nI dp))]) (st' := [.int (nI 1), .int (nI 0)]) (h' := HN g hl (RF rt)) rfl ?_
  refine Ev.call (a := 5) (as := [.int (nI 0), .int (nI 1)]) (rest := []) (lv0 := [(0, .int (nI 0)), (1, .int (nI 1))]) (Q1 := (fun z0 h' => z0 = some (.int (nI 0)) ∧ h' = HN g hl (RF rt))) rfl rfl (K_own01 _ _ _ _ ⟨rfl, rfl⟩) (fun r h' hr => ?_)
  obtain ⟨rfl, rfl⟩ := hr
  refine Ev.run 6 (pc' := (if nI dp < nI 20 then 21 else 19)) (lv' := [(6, .int (nI 0)), (0, .ref 132), (1, .int (nI 0)), (2, .ref (60 + 2 * i)), (3, .int (nI 1)), (4, .int (x)), (5, .int (nI dp))]) (st' := []) (h' := HN g hl (RF rt)) rfl ?_
  refine Ev.ite (fun hc16 => ?_) (fun hc16 => ?_)
  · have hc16 : dp < 20 := (nI_ltI (by omega) (by omega)).mp hc16
    refine Ev.run 6 (pc' := 30) (lv' := [(6, .int (nI 0)), (0, .ref 132), (1, .int (nI 0)), (2, .ref (60 + 2 * i)), (3, .int (nI 1)), (4, .int (x)), (5, .int (nI dp))]) (st' := [.int (nI 1), .retAddr 2]) (h' := HN g hl (RF rt)) rfl ?_
    refine Ev_xald rfl (by decide) (show 1 < 21 by omega) (show 21 < 2 ^ 31 by decide) ?_
    refine Ev.topI (show xVal xs 2 1 = nI 11 from rfl) ?_
    refine Ev.run 4 (pc' := 39) (lv' := [(7, .int (nI 11)), (6, .int (nI 0)), (0, .ref 132), (1, .int (nI 0)), (2, .ref (60 + 2 * i)), (3, .int (nI 1)), (4, .int (x)), (5, .int (nI dp))]) (st' := [.int (nI 11), .ref 133]) (h' := HN g hl (RF rt)) rfl ?_
    refine Ev.call (a := 43) (as := [.ref 133, .int (nI 11)]) (rest := []) (lv0 := [(0, .ref 133), (1, .int (nI 11))]) (Q1 := (fun z0 h' => z0 = none ∧ h' = HN (ptLn g 133 20 11) hl (RF rt))) rfl rfl (K_put _ g _ _ 133 20 (ln133 rt) 11 (by omega) ⟨rfl, rfl⟩) (fun r h' hr => ?_)
    obtain ⟨rfl, rfl⟩ := hr
    refine Ev.run 5 (pc' := 49) (lv' := [(7, .int (nI 11)), (6, .int (nI 0)), (0, .ref 132), (1, .int (nI 0)), (2, .ref (60 + 2 * i)), (3, .int (nI 1)), (4, .int (x)), (5, .int (nI dp))]) (st' := [.int (nI ((ptLn g 133 20 11) 132 1) + nI 1), .ref 132]) (h' := HN (ptLn g 133 20 11) hl (RF rt)) rfl ?_
    refine Ev.topI (nI_add _ _) ?_
    refine Ev.run 1 (pc' := 52) (lv' := [(7, .int (nI 11)), (6, .int (nI 0)), (0, .ref 132), (1, .int (nI 0)), (2, .ref (60 + 2 * i)), (3, .int (nI 1)), (4, .int (x)), (5, .int (nI dp))]) (st' := []) (h' := setI (HN (ptLn g 133 20 11) hl (RF rt)) 132 1 (nI (((ptLn g 133 20 11) 132 1) + 1))) rfl ?_
    refine Ev.hp (HN_set _ _ _ _ _ _) ?_
    refine Ev.hp (congrArg (fun z => HN z hl (RF rt)) (show u2 (ptLn g 133 20 11) 132 1 ((ptLn g 133 20 11) 132 1 + 1) = bdC g [11] by rw [show ptLn g 133 20 11 132 1 = g 132 1 from by unfold ptLn; split; rw [u2_ne _ (Or.inl (by decide)), u2_ne _ (Or.inl (by decide))]; rfl]; exact bdC_1 h133 11)) ?_
    refine Ev.run 1 (pc' := 53) (lv' := [(7, .int (nI 11)), (6, .int (nI 0)), (0, .ref 132), (1, .int (nI 0)), (2, .ref (60 + 2 * i)), (3, .int (nI 1)), (4, .int (x)), (5, .int (nI dp))]) (st' := [.ref (60 + 2 * i)]) (h' := HN (bdC g [11]) hl (RF rt)) rfl ?_
    refine Ev_gfI rfl rfl rfl (kcP (show i < 5 by omega)) ?_
    refine Ev.topI (congrArg nI (((bdC_ne _ _ (by omega) _).trans hK))) ?_
    refine Ev.run 3 (pc' := 63) (lv' := [(8, .int (nI 4)), (7, .int (nI 11)), (6, .int (nI 0)), (0, .ref 132), (1, .int (nI 0)), (2, .ref (60 + 2 * i)), (3, .int (nI 1)), (4, .int (x)), (5, .int (nI dp))]) (st' := [.int (nI 0), .retAddr 1]) (h' := HN (bdC g [11]) hl (RF rt)) rfl ?_
    refine Ev_xald rfl (by decide) (show 0 < 7 by omega) (show 7 < 2 ^ 31 by decide) ?_
    refine Ev.topI (show xVal xs 1 0 = nI 4294967295 from rfl) ?_
    refine Ev.run 4 (pc' := 70) (lv' := [(9, .int (nI 4294967295)), (8, .int (nI 4)), (7, .int (nI 11)), (6, .int (nI 0)), (0, .ref 132), (1, .int (nI 0)), (2, .ref (60 + 2 * i)), (3, .int (nI 1)), (4, .int (x)), (5, .int (nI dp))]) (st' := [.int (nI dp + nI 1)]) (h' := HN (bdC g [11]) hl (RF rt)) rfl ?_
    refine Ev.topI (nI_add _ _) ?_
    refine Ev.run 9 (pc' := 189) (lv' := [(10, .int (nI (dp + 1))), (9, .int (nI 4294967295)), (8, .int (nI 4)), (7, .int (nI 11)), (6, .int (nI 0)), (0, .ref 132), (1, .int (nI 0)), (2, .ref (60 + 2 * i)), (3, .int (nI 1)), (4, .int (x)), (5, .int (nI dp))]) (st' := [.int (nI (dp + 1)), .int (x), .int (nI 0), .ref (60 + 2 * i), .int (nI 4), .ref 132]) (h' := HN (bdC g [11]) hl (RF rt)) rfl ?_
    refine Ev.call (a := 4) (as := [.ref 132, .int (nI 4), .ref (60 + 2 * i), .int (nI 0), .int (x), .int (nI (dp + 1))]) (rest := []) (lv0 := [(0, .ref 132), (1, .int (nI 4)), (2, .ref (60 + 2 * i)), (3, .int (nI 0)), (4, .int (x)), (5, .int (nI (dp + 1)))]) (Q1 := (fun z0 h' => z0 = some (.int (-(x + nI i))) ∧ h' = HN (bdC g [11, 50, 10]) hl (RF rt))) rfl rfl (K_rf4_4_0 _ (bdC g [11]) _ _ (x) i v (dp + 1) hi hv (by rw [bdC_s]; split <;> omega) (by rw [bdC_ne _ _ (by omega)]; exact hN) (by rw [bdC_ne _ _ (by omega)]; exact hK) (by rw [bdC_ne _ _ (by omega)]; exact hv3) (by omega) ⟨rfl, congrArg (fun z => HN z hl (RF rt)) (bdC_c h133 _ _)⟩) (fun r h' hr => ?_)
    obtain ⟨rfl, rfl⟩ := hr
    refine Ev.run 1 (pc' := 193) (lv' := [(10, .int (nI (dp + 1))), (9, .int (nI 4294967295)), (8, .int (nI 4)), (7, .int (nI 11)), (6, .int (nI 0)), (0, .ref 132), (1, .int (nI 0)), (2, .ref (60 + 2 * i)), (3, .int (nI 1)), (4, .int (x)), (5, .int (nI dp))]) (st' := [.ref (60 + 2 * i), .int (-(x + nI i))]) (h' := HN (bdC g [11, 50, 10]) hl (RF rt)) rfl ?_
    refine Ev_gfI rfl rfl rfl (kcP (show i < 5 by omega)) ?_
    refine Ev.topI (congrArg nI (((bdC_ne _ _ (by omega) _).trans hv3))) ?_
    refine Ev.run 1 (pc' := 197) (lv' := [(10, .int (nI (dp + 1))), (9, .int (nI 4294967295)), (8, .int (nI 4)), (7, .int (nI 11)), (6, .int (nI 0)), (0, .ref 132), (1, .int (nI 0)), (2, .ref (60 + 2 * i)), (3, .int (nI 1)), (4, .int (x)), (5, .int (nI dp))]) (st' := [.int ((-(x + nI i)) - nI v)]) (h' := HN (bdC g [11, 50, 10]) hl (RF rt)) rfl ?_
    refine Ev.ret (v := some (.int ((-(x + nI i)) - nI v))) rfl ?_
    first | exact hq | (exfalso; omega)
  · have hc16 : ¬ (dp < 20) := fun z => hc16 ((nI_ltI (by omega) (by omega)).mpr z)
    refine Ev.run 1 (pc' := 20) (lv' := [(6, .int (nI 0)), (0, .ref 132), (1, .int (nI 0)), (2, .ref (60 + 2 * i)), (3, .int (nI 1)), (4, .int (x)), (5, .int (nI dp))]) (st' := [.int (nI 0)]) (h' := HN g hl (RF rt)) rfl ?_
    refine Ev.ret (v := some (.int (nI 0))) rfl ?_
    first | exact hq | (exfalso; omega)
theorem K_rf4_1_1 {L : Nat} {xs : Nat → Int32} (d : Nat) (g : Nat → Nat → Nat) (hl : Nat → Nat → Int64) (rt : Nat × Nat × Nat × Nat) (x : Int32) (i v dp : Nat) (hi : i < 5) (hv : v < 2 ^ 31) (h133 : g 133 1 ≤ 20) (hN : g (60 + 2 * i) 1 = i) (hK : g (60 + 2 * i) 2 = 4) (hv3 : g (60 + 2 * i) 3 = v) (hdp : dp ≤ 15) {Q : Po} (hq : Q (some (.int (((-(x + nI i)) - nI v) ^^^ nI 6))) (HN (bdC g [20, 11, 50, 10]) hl (RF rt))) : Ev L xs (d + 6) 4 0 [(0, .ref 132), (1, .int (nI 1)), (2, .ref (60 + 2 * i)), (3, .int (nI 1)), (4, .int (x)), (5, .int (nI dp))] [] (HN g hl (RF rt)) Q := by
  refine Ev.run 2 (pc' := 2) (lv' := [(0, .ref 132), (1, .int (nI 1)), (2, .ref (60 + 2 * i)), (3, .int (nI 1)), (4, .int (x)), (5, .int (nI dp))]) (st' := [.int (nI 1), .int (nI 1)]) (h' := HN g hl (RF rt)) rfl ?_
  refine Ev.call (a := 5) (as := [.int (nI 1), .int (nI 1)]) (rest := []) (lv0 := [(0, .int (nI 1)), (1, .int (nI 1))]) (Q1 := (fun z0 h' => z0 = some (.int (nI 1)) ∧ h' = HN g hl (RF rt))) rfl rfl (K_own11 _ _ _ _ ⟨rfl, rfl⟩) (fun r h' hr => ?_)
  obtain ⟨rfl, rfl⟩ := hr
  refine Ev.run 6 (pc' := (if nI dp < nI 20 then 21 else 19)) (lv' := [(6, .int (nI 1)), (0, .ref 132), (1, .int (nI 1)), (2, .ref (60 + 2 * i)), (3, .int (nI 1)), (4, .int (x)), (5, .int (nI dp))]) (st' := []) (h' := HN g hl (RF rt)) rfl ?_
  refine Ev.ite (fun hc16 => ?_) (fun hc16 => ?_)
  · have hc16 : dp < 20 := (nI_ltI (by omega) (by omega)).mp hc16
    refine Ev.run 6 (pc' := 30) (lv' := [(6, .int (nI 1)), (0, .ref 132), (1, .int (nI 1)), (2, .ref (60 + 2 * i)), (3, .int (nI 1)), (4, .int (x)), (5, .int (nI dp))]) (st' := [.int (nI 4), .retAddr 2]) (h' := HN g hl (RF rt)) rfl ?_
    refine Ev_xald rfl (by decide) (show 4 < 21 by omega) (show 21 < 2 ^ 31 by decide) ?_
    refine Ev.topI (show xVal xs 2 4 = nI 20 from rfl) ?_
    refine Ev.run 4 (pc' := 39) (lv' := [(7, .int (nI 20)), (6, .int (nI 1)), (0, .ref 132), (1, .int (nI 1)), (2, .ref (60 + 2 * i)), (3, .int (nI 1)), (4, .int (x)), (5, .int (nI dp))]) (st' := [.int (nI 20), .ref 133]) (h' := HN g hl (RF rt)) rfl ?_
    refine Ev.call (a := 43) (as := [.ref 133, .int (nI 20)]) (rest := []) (lv0 := [(0, .ref 133), (1, .int (nI 20))]) (Q1 := (fun z0 h' => z0 = none ∧ h' = HN (ptLn g 133 20 20) hl (RF rt))) rfl rfl (K_put _ g _ _ 133 20 (ln133 rt) 20 (by omega) ⟨rfl, rfl⟩) (fun r h' hr => ?_)
    obtain ⟨rfl, rfl⟩ := hr
    refine Ev.run 5 (pc' := 49) (lv' := [(7, .int (nI 20)), (6, .int (nI 1)), (0, .ref 132), (1, .int (nI 1)), (2, .ref (60 + 2 * i)), (3, .int (nI 1)), (4, .int (x)), (5, .int (nI dp))]) (st' := [.int (nI ((ptLn g 133 20 20) 132 1) + nI 1), .ref 132]) (h' := HN (ptLn g 133 20 20) hl (RF rt)) rfl ?_
    refine Ev.topI (nI_add _ _) ?_
    refine Ev.run 1 (pc' := 52) (lv' := [(7, .int (nI 20)), (6, .int (nI 1)), (0, .ref 132), (1, .int (nI 1)), (2, .ref (60 + 2 * i)), (3, .int (nI 1)), (4, .int (x)), (5, .int (nI dp))]) (st' := []) (h' := setI (HN (ptLn g 133 20 20) hl (RF rt)) 132 1 (nI (((ptLn g 133 20 20) 132 1) + 1))) rfl ?_
    refine Ev.hp (HN_set _ _ _ _ _ _) ?_
    refine Ev.hp (congrArg (fun z => HN z hl (RF rt)) (show u2 (ptLn g 133 20 20) 132 1 ((ptLn g 133 20 20) 132 1 + 1) = bdC g [20] by rw [show ptLn g 133 20 20 132 1 = g 132 1 from by unfold ptLn; split; rw [u2_ne _ (Or.inl (by decide)), u2_ne _ (Or.inl (by decide))]; rfl]; exact bdC_1 h133 20)) ?_
    refine Ev.run 1 (pc' := 53) (lv' := [(7, .int (nI 20)), (6, .int (nI 1)), (0, .ref 132), (1, .int (nI 1)), (2, .ref (60 + 2 * i)), (3, .int (nI 1)), (4, .int (x)), (5, .int (nI dp))]) (st' := [.ref (60 + 2 * i)]) (h' := HN (bdC g [20]) hl (RF rt)) rfl ?_
    refine Ev_gfI rfl rfl rfl (kcP (show i < 5 by omega)) ?_
    refine Ev.topI (congrArg nI (((bdC_ne _ _ (by omega) _).trans hK))) ?_
    refine Ev.run 3 (pc' := 63) (lv' := [(8, .int (nI 4)), (7, .int (nI 20)), (6, .int (nI 1)), (0, .ref 132), (1, .int (nI 1)), (2, .ref (60 + 2 * i)), (3, .int (nI 1)), (4, .int (x)), (5, .int (nI dp))]) (st' := [.int (nI 1), .retAddr 1]) (h' := HN (bdC g [20]) hl (RF rt)) rfl ?_
    refine Ev_xald rfl (by decide) (show 1 < 7 by omega) (show 7 < 2 ^ 31 by decide) ?_
    refine Ev.topI (show xVal xs 1 1 = nI 0 from rfl) ?_
    refine Ev.run 4 (pc' := 70) (lv' := [(9, .int (nI 0)), (8, .int (nI 4)), (7, .int (nI 20)), (6, .int (nI 1)), (0, .ref 132), (1, .int (nI 1)), (2, .ref (60 + 2 * i)), (3, .int (nI 1)), (4, .int (x)), (5, .int (nI dp))]) (st' := [.int (nI dp + nI 1)]) (h' := HN (bdC g [20]) hl (RF rt)) rfl ?_
    refine Ev.topI (nI_add _ _) ?_
    refine Ev.run 9 (pc' := 222) (lv' := [(10, .int (nI (dp + 1))), (9, .int (nI 0)), (8, .int (nI 4)), (7, .int (nI 20)), (6, .int (nI 1)), (0, .ref 132), (1, .int (nI 1)), (2, .ref (60 + 2 * i)), (3, .int (nI 1)), (4, .int (x)), (5, .int (nI dp))]) (st' := [.int (nI (dp + 1)), .int (x), .int (nI 1), .ref (60 + 2 * i), .int (nI 0), .ref 132]) (h' := HN (bdC g [20]) hl (RF rt)) rfl ?_
    refine Ev.call (a := 4) (as := [.ref 132, .int (nI 0), .ref (60 + 2 * i), .int (nI 1), .int (x), .int (nI (dp + 1))]) (rest := []) (lv0 := [(0, .ref 132), (1, .int (nI 0)), (2, .ref (60 + 2 * i)), (3, .int (nI 1)), (4, .int (x)), (5, .int (nI (dp + 1)))]) (Q1 := (fun z0 h' => z0 = some (.int ((-(x + nI i)) - nI v)) ∧ h' = HN (bdC g [20, 11, 50, 10]) hl (RF rt))) rfl rfl (K_rf4_0_1 _ (bdC g [20]) _ _ (x) i v (dp + 1) hi hv (by rw [bdC_s]; split <;> omega) (by rw [bdC_ne _ _ (by omega)]; exact hN) (by rw [bdC_ne _ _ (by omega)]; exact hK) (by rw [bdC_ne _ _ (by omega)]; exact hv3) (by omega) ⟨rfl, congrArg (fun z => HN z hl (RF rt)) (bdC_c h133 _ _)⟩) (fun r h' hr => ?_)
    obtain ⟨rfl, rfl⟩ := hr
    refine Ev.run 2 (pc' := 228) (lv' := [(10, .int (nI (dp + 1))), (9, .int (nI 0)), (8, .int (nI 4)), (7, .int (nI 20)), (6, .int (nI 1)), (0, .ref 132), (1, .int (nI 1)), (2, .ref (60 + 2 * i)), (3, .int (nI 1)), (4, .int (x)), (5, .int (nI dp))]) (st' := [.int (((-(x + nI i)) - nI v) ^^^ nI 6)]) (h' := HN (bdC g [20, 11, 50, 10]) hl (RF rt)) rfl ?_
    refine Ev.ret (v := some (.int (((-(x + nI i)) - nI v) ^^^ nI 6))) rfl ?_
    first | exact hq | (exfalso; omega)
  · have hc16 : ¬ (dp < 20) := fun z => hc16 ((nI_ltI (by omega) (by omega)).mpr z)
    refine Ev.run 1 (pc' := 20) (lv' := [(6, .int (nI 1)), (0, .ref 132), (1, .int (nI 1)), (2, .ref (60 + 2 * i)), (3, .int (nI 1)), (4, .int (x)), (5, .int (nI dp))]) (st' := [.int (nI 0)]) (h' := HN g hl (RF rt)) rfl ?_
    refine Ev.ret (v := some (.int (nI 0))) rfl ?_
    first | exact hq | (exfalso; omega)
theorem K_rf4_4_1 {L : Nat} {xs : Nat → Int32} (d : Nat) (g : Nat → Nat → Nat) (hl : Nat → Nat → Int64) (rt : Nat × Nat × Nat × Nat) (x : Int32) (i v dp : Nat) (hi : i < 5) (hv : v < 2 ^ 31) (h133 : g 133 1 ≤ 20) (hN : g (60 + 2 * i) 1 = i) (hK : g (60 + 2 * i) 2 = 4) (hv3 : g (60 + 2 * i) 3 = v) (hdp : dp ≤ 14) {Q : Po} (hq : Q (some (.int (((-((x + nI 1) + nI i)) - nI v) ^^^ nI 6))) (HN (bdC g [51, 20, 11, 50, 10]) hl (RF rt))) : Ev L xs (d + 7) 4 0 [(0, .ref 132), (1, .int (nI 4)), (2, .ref (60 + 2 * i)), (3, .int (nI 1)), (4, .int (x)), (5, .int (nI dp))] [] (HN g hl (RF rt)) Q := by
  refine Ev.run 2 (pc' := 2) (lv' := [(0, .ref 132), (1, .int (nI 4)), (2, .ref (60 + 2 * i)), (3, .int (nI 1)), (4, .int (x)), (5, .int (nI dp))]) (st' := [.int (nI 1), .int (nI 4)]) (h' := HN g hl (RF rt)) rfl ?_
  refine Ev.call (a := 5) (as := [.int (nI 4), .int (nI 1)]) (rest := []) (lv0 := [(0, .int (nI 4)), (1, .int (nI 1))]) (Q1 := (fun z0 h' => z0 = some (.int (nI 4)) ∧ h' = HN g hl (RF rt))) rfl rfl (K_own41 _ _ _ _ ⟨rfl, rfl⟩) (fun r h' hr => ?_)
  obtain ⟨rfl, rfl⟩ := hr
  refine Ev.run 6 (pc' := (if nI dp < nI 20 then 21 else 19)) (lv' := [(6, .int (nI 4)), (0, .ref 132), (1, .int (nI 4)), (2, .ref (60 + 2 * i)), (3, .int (nI 1)), (4, .int (x)), (5, .int (nI dp))]) (st' := []) (h' := HN g hl (RF rt)) rfl ?_
  refine Ev.ite (fun hc16 => ?_) (fun hc16 => ?_)
  · have hc16 : dp < 20 := (nI_ltI (by omega) (by omega)).mp hc16
    refine Ev.run 6 (pc' := 30) (lv' := [(6, .int (nI 4)), (0, .ref 132), (1, .int (nI 4)), (2, .ref (60 + 2 * i)), (3, .int (nI 1)), (4, .int (x)), (5, .int (nI dp))]) (st' := [.int (nI 13), .retAddr 2]) (h' := HN g hl (RF rt)) rfl ?_
    refine Ev_xald rfl (by decide) (show 13 < 21 by omega) (show 21 < 2 ^ 31 by decide) ?_
    refine Ev.topI (show xVal xs 2 13 = nI 51 from rfl) ?_
    refine Ev.run 4 (pc' := 39) (lv' := [(7, .int (nI 51)), (6, .int (nI 4)), (0, .ref 132), (1, .int (nI 4)), (2, .ref (60 + 2 * i)), (3, .int (nI 1)), (4, .int (x)), (5, .int (nI dp))]) (st' := [.int (nI 51), .ref 133]) (h' := HN g hl (RF rt)) rfl ?_
    refine Ev.call (a := 43) (as := [.ref 133, .int (nI 51)]) (rest := []) (lv0 := [(0, .ref 133), (1, .int (nI 51))]) (Q1 := (fun z0 h' => z0 = none ∧ h' = HN (ptLn g 133 20 51) hl (RF rt))) rfl rfl (K_put _ g _ _ 133 20 (ln133 rt) 51 (by omega) ⟨rfl, rfl⟩) (fun r h' hr => ?_)
    obtain ⟨rfl, rfl⟩ := hr
    refine Ev.run 5 (pc' := 49) (lv' := [(7, .int (nI 51)), (6, .int (nI 4)), (0, .ref 132), (1, .int (nI 4)), (2, .ref (60 + 2 * i)), (3, .int (nI 1)), (4, .int (x)), (5, .int (nI dp))]) (st' := [.int (nI ((ptLn g 133 20 51) 132 1) + nI 1), .ref 132]) (h' := HN (ptLn g 133 20 51) hl (RF rt)) rfl ?_
    refine Ev.topI (nI_add _ _) ?_
    refine Ev.run 1 (pc' := 52) (lv' := [(7, .int (nI 51)), (6, .int (nI 4)), (0, .ref 132), (1, .int (nI 4)), (2, .ref (60 + 2 * i)), (3, .int (nI 1)), (4, .int (x)), (5, .int (nI dp))]) (st' := []) (h' := setI (HN (ptLn g 133 20 51) hl (RF rt)) 132 1 (nI (((ptLn g 133 20 51) 132 1) + 1))) rfl ?_
    refine Ev.hp (HN_set _ _ _ _ _ _) ?_
    refine Ev.hp (congrArg (fun z => HN z hl (RF rt)) (show u2 (ptLn g 133 20 51) 132 1 ((ptLn g 133 20 51) 132 1 + 1) = bdC g [51] by rw [show ptLn g 133 20 51 132 1 = g 132 1 from by unfold ptLn; split; rw [u2_ne _ (Or.inl (by decide)), u2_ne _ (Or.inl (by decide))]; rfl]; exact bdC_1 h133 51)) ?_
    refine Ev.run 1 (pc' := 53) (lv' := [(7, .int (nI 51)), (6, .int (nI 4)), (0, .ref 132), (1, .int (nI 4)), (2, .ref (60 + 2 * i)), (3, .int (nI 1)), (4, .int (x)), (5, .int (nI dp))]) (st' := [.ref (60 + 2 * i)]) (h' := HN (bdC g [51]) hl (RF rt)) rfl ?_
    refine Ev_gfI rfl rfl rfl (kcP (show i < 5 by omega)) ?_
    refine Ev.topI (congrArg nI (((bdC_ne _ _ (by omega) _).trans hK))) ?_
    refine Ev.run 3 (pc' := 63) (lv' := [(8, .int (nI 4)), (7, .int (nI 51)), (6, .int (nI 4)), (0, .ref 132), (1, .int (nI 4)), (2, .ref (60 + 2 * i)), (3, .int (nI 1)), (4, .int (x)), (5, .int (nI dp))]) (st' := [.int (nI 4), .retAddr 1]) (h' := HN (bdC g [51]) hl (RF rt)) rfl ?_
    refine Ev_xald rfl (by decide) (show 4 < 7 by omega) (show 7 < 2 ^ 31 by decide) ?_
    refine Ev.topI (show xVal xs 1 4 = nI 1 from rfl) ?_
    refine Ev.run 4 (pc' := 70) (lv' := [(9, .int (nI 1)), (8, .int (nI 4)), (7, .int (nI 51)), (6, .int (nI 4)), (0, .ref 132), (1, .int (nI 4)), (2, .ref (60 + 2 * i)), (3, .int (nI 1)), (4, .int (x)), (5, .int (nI dp))]) (st' := [.int (nI dp + nI 1)]) (h' := HN (bdC g [51]) hl (RF rt)) rfl ?_
    refine Ev.topI (nI_add _ _) ?_
    refine Ev.run 11 (pc' := 294) (lv' := [(10, .int (nI (dp + 1))), (9, .int (nI 1)), (8, .int (nI 4)), (7, .int (nI 51)), (6, .int (nI 4)), (0, .ref 132), (1, .int (nI 4)), (2, .ref (60 + 2 * i)), (3, .int (nI 1)), (4, .int (x)), (5, .int (nI dp))]) (st' := [.int (nI (dp + 1)), .int (x + nI 1), .int (nI 1), .ref (60 + 2 * i), .int (nI 1), .ref 132]) (h' := HN (bdC g [51]) hl (RF rt)) rfl ?_
    refine Ev.call (a := 4) (as := [.ref 132, .int (nI 1), .ref (60 + 2 * i), .int (nI 1), .int (x + nI 1), .int (nI (dp + 1))]) (rest := []) (lv0 := [(0, .ref 132), (1, .int (nI 1)), (2, .ref (60 + 2 * i)), (3, .int (nI 1)), (4, .int (x + nI 1)), (5, .int (nI (dp + 1)))]) (Q1 := (fun z0 h' => z0 = some (.int (((-((x + nI 1) + nI i)) - nI v) ^^^ nI 6)) ∧ h' = HN (bdC g [51, 20, 11, 50, 10]) hl (RF rt))) rfl rfl (K_rf4_1_1 _ (bdC g [51]) _ _ (x + nI 1) i v (dp + 1) hi hv (by rw [bdC_s]; split <;> omega) (by rw [bdC_ne _ _ (by omega)]; exact hN) (by rw [bdC_ne _ _ (by omega)]; exact hK) (by rw [bdC_ne _ _ (by omega)]; exact hv3) (by omega) ⟨rfl, congrArg (fun z => HN z hl (RF rt)) (bdC_c h133 _ _)⟩) (fun r h' hr => ?_)
    obtain ⟨rfl, rfl⟩ := hr
    refine Ev.ret (v := some (.int (((-((x + nI 1) + nI i)) - nI v) ^^^ nI 6))) rfl ?_
    first | exact hq | (exfalso; omega)
  · have hc16 : ¬ (dp < 20) := fun z => hc16 ((nI_ltI (by omega) (by omega)).mpr z)
    refine Ev.run 1 (pc' := 20) (lv' := [(6, .int (nI 4)), (0, .ref 132), (1, .int (nI 4)), (2, .ref (60 + 2 * i)), (3, .int (nI 1)), (4, .int (x)), (5, .int (nI dp))]) (st' := [.int (nI 0)]) (h' := HN g hl (RF rt)) rfl ?_
    refine Ev.ret (v := some (.int (nI 0))) rfl ?_
    first | exact hq | (exfalso; omega)
theorem K_rf4_4_2 {L : Nat} {xs : Nat → Int32} (d : Nat) (g : Nat → Nat → Nat) (hl : Nat → Nat → Int64) (rt : Nat × Nat × Nat × Nat) (x : Int32) (i v dp : Nat) (hi : i < 5) (hv : v < 2 ^ 31) (h133 : g 133 1 ≤ 20) (hN : g (60 + 2 * i) 1 = i) (hK : g (60 + 2 * i) 2 = 4) (hv3 : g (60 + 2 * i) 3 = v) (hdp : dp ≤ 13) {Q : Po} (hq : Q (some (.int ((((-((x + nI 1) + nI i)) - nI v) ^^^ nI 6) * nI 2))) (HN (bdC g [12, 51, 20, 11, 50, 10]) hl (RF rt))) : Ev L xs (d + 8) 4 0 [(0, .ref 132), (1, .int (nI 4)), (2, .ref (60 + 2 * i)), (3, .int (nI 2)), (4, .int (x)), (5, .int (nI dp))] [] (HN g hl (RF rt)) Q := by
  refine Ev.run 2 (pc' := 2) (lv' := [(0, .ref 132), (1, .int (nI 4)), (2, .ref (60 + 2 * i)), (3, .int (nI 2)), (4, .int (x)), (5, .int (nI dp))]) (st' := [.int (nI 2), .int (nI 4)]) (h' := HN g hl (RF rt)) rfl ?_
  refine Ev.call (a := 5) (as := [.int (nI 4), .int (nI 2)]) (rest := []) (lv0 := [(0, .int (nI 4)), (1, .int (nI 2))]) (Q1 := (fun z0 h' => z0 = some (.int (nI 0)) ∧ h' = HN g hl (RF rt))) rfl rfl (K_own42 _ _ _ _ ⟨rfl, rfl⟩) (fun r h' hr => ?_)
  obtain ⟨rfl, rfl⟩ := hr
  refine Ev.run 6 (pc' := (if nI dp < nI 20 then 21 else 19)) (lv' := [(6, .int (nI 0)), (0, .ref 132), (1, .int (nI 4)), (2, .ref (60 + 2 * i)), (3, .int (nI 2)), (4, .int (x)), (5, .int (nI dp))]) (st' := []) (h' := HN g hl (RF rt)) rfl ?_
  refine Ev.ite (fun hc16 => ?_) (fun hc16 => ?_)
  · have hc16 : dp < 20 := (nI_ltI (by omega) (by omega)).mp hc16
    refine Ev.run 6 (pc' := 30) (lv' := [(6, .int (nI 0)), (0, .ref 132), (1, .int (nI 4)), (2, .ref (60 + 2 * i)), (3, .int (nI 2)), (4, .int (x)), (5, .int (nI dp))]) (st' := [.int (nI 2), .retAddr 2]) (h' := HN g hl (RF rt)) rfl ?_
    refine Ev_xald rfl (by decide) (show 2 < 21 by omega) (show 21 < 2 ^ 31 by decide) ?_
    refine Ev.topI (show xVal xs 2 2 = nI 12 from rfl) ?_
    refine Ev.run 4 (pc' := 39) (lv' := [(7, .int (nI 12)), (6, .int (nI 0)), (0, .ref 132), (1, .int (nI 4)), (2, .ref (60 + 2 * i)), (3, .int (nI 2)), (4, .int (x)), (5, .int (nI dp))]) (st' := [.int (nI 12), .ref 133]) (h' := HN g hl (RF rt)) rfl ?_
    refine Ev.call (a := 43) (as := [.ref 133, .int (nI 12)]) (rest := []) (lv0 := [(0, .ref 133), (1, .int (nI 12))]) (Q1 := (fun z0 h' => z0 = none ∧ h' = HN (ptLn g 133 20 12) hl (RF rt))) rfl rfl (K_put _ g _ _ 133 20 (ln133 rt) 12 (by omega) ⟨rfl, rfl⟩) (fun r h' hr => ?_)
    obtain ⟨rfl, rfl⟩ := hr
    refine Ev.run 5 (pc' := 49) (lv' := [(7, .int (nI 12)), (6, .int (nI 0)), (0, .ref 132), (1, .int (nI 4)), (2, .ref (60 + 2 * i)), (3, .int (nI 2)), (4, .int (x)), (5, .int (nI dp))]) (st' := [.int (nI ((ptLn g 133 20 12) 132 1) + nI 1), .ref 132]) (h' := HN (ptLn g 133 20 12) hl (RF rt)) rfl ?_
    refine Ev.topI (nI_add _ _) ?_
    refine Ev.run 1 (pc' := 52) (lv' := [(7, .int (nI 12)), (6, .int (nI 0)), (0, .ref 132), (1, .int (nI 4)), (2, .ref (60 + 2 * i)), (3, .int (nI 2)), (4, .int (x)), (5, .int (nI dp))]) (st' := []) (h' := setI (HN (ptLn g 133 20 12) hl (RF rt)) 132 1 (nI (((ptLn g 133 20 12) 132 1) + 1))) rfl ?_
    refine Ev.hp (HN_set _ _ _ _ _ _) ?_
    refine Ev.hp (congrArg (fun z => HN z hl (RF rt)) (show u2 (ptLn g 133 20 12) 132 1 ((ptLn g 133 20 12) 132 1 + 1) = bdC g [12] by rw [show ptLn g 133 20 12 132 1 = g 132 1 from by unfold ptLn; split; rw [u2_ne _ (Or.inl (by decide)), u2_ne _ (Or.inl (by decide))]; rfl]; exact bdC_1 h133 12)) ?_
    refine Ev.run 1 (pc' := 53) (lv' := [(7, .int (nI 12)), (6, .int (nI 0)), (0, .ref 132), (1, .int (nI 4)), (2, .ref (60 + 2 * i)), (3, .int (nI 2)), (4, .int (x)), (5, .int (nI dp))]) (st' := [.ref (60 + 2 * i)]) (h' := HN (bdC g [12]) hl (RF rt)) rfl ?_
    refine Ev_gfI rfl rfl rfl (kcP (show i < 5 by omega)) ?_
    refine Ev.topI (congrArg nI (((bdC_ne _ _ (by omega) _).trans hK))) ?_
    refine Ev.run 3 (pc' := 63) (lv' := [(8, .int (nI 4)), (7, .int (nI 12)), (6, .int (nI 0)), (0, .ref 132), (1, .int (nI 4)), (2, .ref (60 + 2 * i)), (3, .int (nI 2)), (4, .int (x)), (5, .int (nI dp))]) (st' := [.int (nI 0), .retAddr 1]) (h' := HN (bdC g [12]) hl (RF rt)) rfl ?_
    refine Ev_xald rfl (by decide) (show 0 < 7 by omega) (show 7 < 2 ^ 31 by decide) ?_
    refine Ev.topI (show xVal xs 1 0 = nI 4294967295 from rfl) ?_
    refine Ev.run 4 (pc' := 70) (lv' := [(9, .int (nI 4294967295)), (8, .int (nI 4)), (7, .int (nI 12)), (6, .int (nI 0)), (0, .ref 132), (1, .int (nI 4)), (2, .ref (60 + 2 * i)), (3, .int (nI 2)), (4, .int (x)), (5, .int (nI dp))]) (st' := [.int (nI dp + nI 1)]) (h' := HN (bdC g [12]) hl (RF rt)) rfl ?_
    refine Ev.topI (nI_add _ _) ?_
    refine Ev.run 9 (pc' := 207) (lv' := [(10, .int (nI (dp + 1))), (9, .int (nI 4294967295)), (8, .int (nI 4)), (7, .int (nI 12)), (6, .int (nI 0)), (0, .ref 132), (1, .int (nI 4)), (2, .ref (60 + 2 * i)), (3, .int (nI 2)), (4, .int (x)), (5, .int (nI dp))]) (st' := [.int (nI (dp + 1)), .int (x), .int (nI 1), .ref (60 + 2 * i), .int (nI 4), .ref 132]) (h' := HN (bdC g [12]) hl (RF rt)) rfl ?_
    refine Ev.call (a := 4) (as := [.ref 132, .int (nI 4), .ref (60 + 2 * i), .int (nI 1), .int (x), .int (nI (dp + 1))]) (rest := []) (lv0 := [(0, .ref 132), (1, .int (nI 4)), (2, .ref (60 + 2 * i)), (3, .int (nI 1)), (4, .int (x)), (5, .int (nI (dp + 1)))]) (Q1 := (fun z0 h' => z0 = some (.int (((-((x + nI 1) + nI i)) - nI v) ^^^ nI 6)) ∧ h' = HN (bdC g [12, 51, 20, 11, 50, 10]) hl (RF rt))) rfl rfl (K_rf4_4_1 _ (bdC g [12]) _ _ (x) i v (dp + 1) hi hv (by rw [bdC_s]; split <;> omega) (by rw [bdC_ne _ _ (by omega)]; exact hN) (by rw [bdC_ne _ _ (by omega)]; exact hK) (by rw [bdC_ne _ _ (by omega)]; exact hv3) (by omega) ⟨rfl, congrArg (fun z => HN z hl (RF rt)) (bdC_c h133 _ _)⟩) (fun r h' hr => ?_)
    obtain ⟨rfl, rfl⟩ := hr
    refine Ev.run 2 (pc' := 212) (lv' := [(10, .int (nI (dp + 1))), (9, .int (nI 4294967295)), (8, .int (nI 4)), (7, .int (nI 12)), (6, .int (nI 0)), (0, .ref 132), (1, .int (nI 4)), (2, .ref (60 + 2 * i)), (3, .int (nI 2)), (4, .int (x)), (5, .int (nI dp))]) (st' := [.int ((((-((x + nI 1) + nI i)) - nI v) ^^^ nI 6) * nI 2)]) (h' := HN (bdC g [12, 51, 20, 11, 50, 10]) hl (RF rt)) rfl ?_
    refine Ev.ret (v := some (.int ((((-((x + nI 1) + nI i)) - nI v) ^^^ nI 6) * nI 2))) rfl ?_
    first | exact hq | (exfalso; omega)
  · have hc16 : ¬ (dp < 20) := fun z => hc16 ((nI_ltI (by omega) (by omega)).mpr z)
    refine Ev.run 1 (pc' := 20) (lv' := [(6, .int (nI 0)), (0, .ref 132), (1, .int (nI 4)), (2, .ref (60 + 2 * i)), (3, .int (nI 2)), (4, .int (x)), (5, .int (nI dp))]) (st' := [.int (nI 0)]) (h' := HN g hl (RF rt)) rfl ?_
    refine Ev.ret (v := some (.int (nI 0))) rfl ?_
    first | exact hq | (exfalso; omega)
theorem K_rf5_0_0 {L : Nat} {xs : Nat → Int32} (d : Nat) (g : Nat → Nat → Nat) (hl : Nat → Nat → Int64) (rt : Nat × Nat × Nat × Nat) (x : Int32) (i v dp : Nat) (hi : i < 5) (hv : v < 2 ^ 31) (h133 : g 133 1 ≤ 20) (hN : g (60 + 2 * i) 1 = i) (hK : g (60 + 2 * i) 2 = 5) (hv3 : g (60 + 2 * i) 3 = v) (hdp : dp ≤ 18) {Q : Po} (hq : Q (some (.int (x + nI i))) (HN (bdC g [10]) hl (RF rt))) : Ev L xs (d + 3) 4 0 [(0, .ref 132), (1, .int (nI 0)), (2, .ref (60 + 2 * i)), (3, .int (nI 0)), (4, .int (x)), (5, .int (nI dp))] [] (HN g hl (RF rt)) Q := by
  refine Ev.run 2 (pc' := 2) (lv' := [(0, .ref 132), (1, .int (nI 0)), (2, .ref (60 + 2 * i)), (3, .int (nI 0)), (4, .int (x)), (5, .int (nI dp))]) (st' := [.int (nI 0), .int (nI 0)]) (h' := HN g hl (RF rt)) rfl ?_
  refine Ev.call (a := 5) (as := [.int (nI 0), .int (nI 0)]) (rest := []) (lv0 := [(0, .int (nI 0)), (1, .int (nI 0))]) (Q1 := (fun z0 h' => z0 = some (.int (nI 0)) ∧ h' = HN g hl (RF rt))) rfl rfl (K_own00 _ _ _ _ ⟨rfl, rfl⟩) (fun r h' hr => ?_)
  obtain ⟨rfl, rfl⟩ := hr
  refine Ev.run 6 (pc' := (if nI dp < nI 20 then 21 else 19)) (lv' := [(6, .int (nI 0)), (0, .ref 132), (1, .int (nI 0)), (2, .ref (60 + 2 * i)), (3, .int (nI 0)), (4, .int (x)), (5, .int (nI dp))]) (st' := []) (h' := HN g hl (RF rt)) rfl ?_
  refine Ev.ite (fun hc16 => ?_) (fun hc16 => ?_)
  · have hc16 : dp < 20 := (nI_ltI (by omega) (by omega)).mp hc16
    refine Ev.run 6 (pc' := 30) (lv' := [(6, .int (nI 0)), (0, .ref 132), (1, .int (nI 0)), (2, .ref (60 + 2 * i)), (3, .int (nI 0)), (4, .int (x)), (5, .int (nI dp))]) (st' := [.int (nI 0), .retAddr 2]) (h' := HN g hl (RF rt)) rfl ?_
    refine Ev_xald rfl (by decide) (show 0 < 21 by omega) (show 21 < 2 ^ 31 by decide) ?_
    refine Ev.topI (show xVal xs 2 0 = nI 10 from rfl) ?_
    refine Ev.run 4 (pc' := 39) (lv' := [(7, .int (nI 10)), (6, .int (nI 0)), (0, .ref 132), (1, .int (nI 0)), (2, .ref (60 + 2 * i)), (3, .int (nI 0)), (4, .int (x)), (5, .int (nI dp))]) (st' := [.int (nI 10), .ref 133]) (h' := HN g hl (RF rt)) rfl ?_
    refine Ev.call (a := 43) (as := [.ref 133, .int (nI 10)]) (rest := []) (lv0 := [(0, .ref 133), (1, .int (nI 10))]) (Q1 := (fun z0 h' => z0 = none ∧ h' = HN (ptLn g 133 20 10) hl (RF rt))) rfl rfl (K_put _ g _ _ 133 20 (ln133 rt) 10 (by omega) ⟨rfl, rfl⟩) (fun r h' hr => ?_)
    obtain ⟨rfl, rfl⟩ := hr
    refine Ev.run 5 (pc' := 49) (lv' := [(7, .int (nI 10)), (6, .int (nI 0)), (0, .ref 132), (1, .int (nI 0)), (2, .ref (60 + 2 * i)), (3, .int (nI 0)), (4, .int (x)), (5, .int (nI dp))]) (st' := [.int (nI ((ptLn g 133 20 10) 132 1) + nI 1), .ref 132]) (h' := HN (ptLn g 133 20 10) hl (RF rt)) rfl ?_
    refine Ev.topI (nI_add _ _) ?_
    refine Ev.run 1 (pc' := 52) (lv' := [(7, .int (nI 10)), (6, .int (nI 0)), (0, .ref 132), (1, .int (nI 0)), (2, .ref (60 + 2 * i)), (3, .int (nI 0)), (4, .int (x)), (5, .int (nI dp))]) (st' := []) (h' := setI (HN (ptLn g 133 20 10) hl (RF rt)) 132 1 (nI (((ptLn g 133 20 10) 132 1) + 1))) rfl ?_
    refine Ev.hp (HN_set _ _ _ _ _ _) ?_
    refine Ev.hp (congrArg (fun z => HN z hl (RF rt)) (show u2 (ptLn g 133 20 10) 132 1 ((ptLn g 133 20 10) 132 1 + 1) = bdC g [10] by rw [show ptLn g 133 20 10 132 1 = g 132 1 from by unfold ptLn; split; rw [u2_ne _ (Or.inl (by decide)), u2_ne _ (Or.inl (by decide))]; rfl]; exact bdC_1 h133 10)) ?_
    refine Ev.run 1 (pc' := 53) (lv' := [(7, .int (nI 10)), (6, .int (nI 0)), (0, .ref 132), (1, .int (nI 0)), (2, .ref (60 + 2 * i)), (3, .int (nI 0)), (4, .int (x)), (5, .int (nI dp))]) (st' := [.ref (60 + 2 * i)]) (h' := HN (bdC g [10]) hl (RF rt)) rfl ?_
    refine Ev_gfI rfl rfl rfl (kcP (show i < 5 by omega)) ?_
    refine Ev.topI (congrArg nI (((bdC_ne _ _ (by omega) _).trans hK))) ?_
    refine Ev.run 3 (pc' := 63) (lv' := [(8, .int (nI 5)), (7, .int (nI 10)), (6, .int (nI 0)), (0, .ref 132), (1, .int (nI 0)), (2, .ref (60 + 2 * i)), (3, .int (nI 0)), (4, .int (x)), (5, .int (nI dp))]) (st' := [.int (nI 0), .retAddr 1]) (h' := HN (bdC g [10]) hl (RF rt)) rfl ?_
    refine Ev_xald rfl (by decide) (show 0 < 7 by omega) (show 7 < 2 ^ 31 by decide) ?_
    refine Ev.topI (show xVal xs 1 0 = nI 4294967295 from rfl) ?_
    refine Ev.run 4 (pc' := 70) (lv' := [(9, .int (nI 4294967295)), (8, .int (nI 5)), (7, .int (nI 10)), (6, .int (nI 0)), (0, .ref 132), (1, .int (nI 0)), (2, .ref (60 + 2 * i)), (3, .int (nI 0)), (4, .int (x)), (5, .int (nI dp))]) (st' := [.int (nI dp + nI 1)]) (h' := HN (bdC g [10]) hl (RF rt)) rfl ?_
    refine Ev.topI (nI_add _ _) ?_
    refine Ev.run 5 (pc' := 175) (lv' := [(10, .int (nI (dp + 1))), (9, .int (nI 4294967295)), (8, .int (nI 5)), (7, .int (nI 10)), (6, .int (nI 0)), (0, .ref 132), (1, .int (nI 0)), (2, .ref (60 + 2 * i)), (3, .int (nI 0)), (4, .int (x)), (5, .int (nI dp))]) (st' := [.ref (60 + 2 * i), .int (x)]) (h' := HN (bdC g [10]) hl (RF rt)) rfl ?_
    refine Ev_gfI rfl rfl rfl (kcP (show i < 5 by omega)) ?_
    refine Ev.topI (congrArg nI (((bdC_ne _ _ (by omega) _).trans hN))) ?_
    refine Ev.run 1 (pc' := 179) (lv' := [(10, .int (nI (dp + 1))), (9, .int (nI 4294967295)), (8, .int (nI 5)), (7, .int (nI 10)), (6, .int (nI 0)), (0, .ref 132), (1, .int (nI 0)), (2, .ref (60 + 2 * i)), (3, .int (nI 0)), (4, .int (x)), (5, .int (nI dp))]) (st' := [.int (x + nI i)]) (h' := HN (bdC g [10]) hl (RF rt)) rfl ?_
    refine Ev.ret (v := some (.int (x + nI i))) rfl ?_
    first | exact hq | (exfalso; omega)
  · have hc16 : ¬ (dp < 20) := fun z => hc16 ((nI_ltI (by omega) (by omega)).mpr z)
    refine Ev.run 1 (pc' := 20) (lv' := [(6, .int (nI 0)), (0, .ref 132), (1, .int (nI 0)), (2, .ref (60 + 2 * i)), (3, .int (nI 0)), (4, .int (x)), (5, .int (nI dp))]) (st' := [.int (nI 0)]) (h' := HN g hl (RF rt)) rfl ?_
    refine Ev.ret (v := some (.int (nI 0))) rfl ?_
    first | exact hq | (exfalso; omega)
theorem K_rf5_5_0 {L : Nat} {xs : Nat → Int32} (d : Nat) (g : Nat → Nat → Nat) (hl : Nat → Nat → Int64) (rt : Nat × Nat × Nat × Nat) (x : Int32) (i v dp : Nat) (hi : i < 5) (hv : v < 2 ^ 31) (h133 : g 133 1 ≤ 20) (hN : g (60 + 2 * i) 1 = i) (hK : g (60 + 2 * i) 2 = 5) (hv3 : g (60 + 2 * i) 3 = v) (hdp : dp ≤ 17) {Q : Po} (hq : Q (some (.int ((x * nI 3) + nI i))) (HN (bdC g [30, 10]) hl (RF rt))) : Ev L xs (d + 4) 4 0 [(0, .ref 132), (1, .int (nI 5)), (2, .ref (60 + 2 * i)), (3, .int (nI 0)), (4, .int (x)), (5, .int (nI dp))] [] (HN g hl (RF rt)) Q := by
  refine Ev.run 2 (pc' := 2) (lv' := [(0, .ref 132), (1, .int (nI 5)), (2, .ref (60 + 2 * i)), (3, .int (nI 0)), (4, .int (x)), (5, .int (nI dp))]) (st' := [.int (nI 0), .int (nI 5)]) (h' := HN g hl (RF rt)) rfl ?_
  refine Ev.call (a := 5) (as := [.int (nI 5), .int (nI 0)]) (rest := []) (lv0 := [(0, .int (nI 5)), (1, .int (nI 0))]) (Q1 := (fun z0 h' => z0 = some (.int (nI 2)) ∧ h' = HN g hl (RF rt))) rfl rfl (K_own50 _ _ _ _ ⟨rfl, rfl⟩) (fun r h' hr => ?_)
  obtain ⟨rfl, rfl⟩ := hr
  refine Ev.run 6 (pc' := (if nI dp < nI 20 then 21 else 19)) (lv' := [(6, .int (nI 2)), (0, .ref 132), (1, .int (nI 5)), (2, .ref (60 + 2 * i)), (3, .int (nI 0)), (4, .int (x)), (5, .int (nI dp))]) (st' := []) (h' := HN g hl (RF rt)) rfl ?_
  refine Ev.ite (fun hc16 => ?_) (fun hc16 => ?_)
  · have hc16 : dp < 20 := (nI_ltI (by omega) (by omega)).mp hc16
    refine Ev.run 6 (pc' := 30) (lv' := [(6, .int (nI 2)), (0, .ref 132), (1, .int (nI 5)), (2, .ref (60 + 2 * i)), (3, .int (nI 0)), (4, .int (x)), (5, .int (nI dp))]) (st' := [.int (nI 6), .retAddr 2]) (h' := HN g hl (RF rt)) rfl ?_
    refine Ev_xald rfl (by decide) (show 6 < 21 by omega) (show 21 < 2 ^ 31 by decide) ?_
    refine Ev.topI (show xVal xs 2 6 = nI 30 from rfl) ?_
    refine Ev.run 4 (pc' := 39) (lv' := [(7, .int (nI 30)), (6, .int (nI 2)), (0, .ref 132), (1, .int (nI 5)), (2, .ref (60 + 2 * i)), (3, .int (nI 0)), (4, .int (x)), (5, .int (nI dp))]) (st' := [.int (nI 30), .ref 133]) (h' := HN g hl (RF rt)) rfl ?_
    refine Ev.call (a := 43) (as := [.ref 133, .int (nI 30)]) (rest := []) (lv0 := [(0, .ref 133), (1, .int (nI 30))]) (Q1 := (fun z0 h' => z0 = none ∧ h' = HN (ptLn g 133 20 30) hl (RF rt))) rfl rfl (K_put _ g _ _ 133 20 (ln133 rt) 30 (by omega) ⟨rfl, rfl⟩) (fun r h' hr => ?_)
    obtain ⟨rfl, rfl⟩ := hr
    refine Ev.run 5 (pc' := 49) (lv' := [(7, .int (nI 30)), (6, .int (nI 2)), (0, .ref 132), (1, .int (nI 5)), (2, .ref (60 + 2 * i)), (3, .int (nI 0)), (4, .int (x)), (5, .int (nI dp))]) (st' := [.int (nI ((ptLn g 133 20 30) 132 1) + nI 1), .ref 132]) (h' := HN (ptLn g 133 20 30) hl (RF rt)) rfl ?_
    refine Ev.topI (nI_add _ _) ?_
    refine Ev.run 1 (pc' := 52) (lv' := [(7, .int (nI 30)), (6, .int (nI 2)), (0, .ref 132), (1, .int (nI 5)), (2, .ref (60 + 2 * i)), (3, .int (nI 0)), (4, .int (x)), (5, .int (nI dp))]) (st' := []) (h' := setI (HN (ptLn g 133 20 30) hl (RF rt)) 132 1 (nI (((ptLn g 133 20 30) 132 1) + 1))) rfl ?_
    refine Ev.hp (HN_set _ _ _ _ _ _) ?_
    refine Ev.hp (congrArg (fun z => HN z hl (RF rt)) (show u2 (ptLn g 133 20 30) 132 1 ((ptLn g 133 20 30) 132 1 + 1) = bdC g [30] by rw [show ptLn g 133 20 30 132 1 = g 132 1 from by unfold ptLn; split; rw [u2_ne _ (Or.inl (by decide)), u2_ne _ (Or.inl (by decide))]; rfl]; exact bdC_1 h133 30)) ?_
    refine Ev.run 1 (pc' := 53) (lv' := [(7, .int (nI 30)), (6, .int (nI 2)), (0, .ref 132), (1, .int (nI 5)), (2, .ref (60 + 2 * i)), (3, .int (nI 0)), (4, .int (x)), (5, .int (nI dp))]) (st' := [.ref (60 + 2 * i)]) (h' := HN (bdC g [30]) hl (RF rt)) rfl ?_
    refine Ev_gfI rfl rfl rfl (kcP (show i < 5 by omega)) ?_
    refine Ev.topI (congrArg nI (((bdC_ne _ _ (by omega) _).trans hK))) ?_
    refine Ev.run 3 (pc' := 63) (lv' := [(8, .int (nI 5)), (7, .int (nI 30)), (6, .int (nI 2)), (0, .ref 132), (1, .int (nI 5)), (2, .ref (60 + 2 * i)), (3, .int (nI 0)), (4, .int (x)), (5, .int (nI dp))]) (st' := [.int (nI 2), .retAddr 1]) (h' := HN (bdC g [30]) hl (RF rt)) rfl ?_
    refine Ev_xald rfl (by decide) (show 2 < 7 by omega) (show 7 < 2 ^ 31 by decide) ?_
    refine Ev.topI (show xVal xs 1 2 = nI 0 from rfl) ?_
    refine Ev.run 4 (pc' := 70) (lv' := [(9, .int (nI 0)), (8, .int (nI 5)), (7, .int (nI 30)), (6, .int (nI 2)), (0, .ref 132), (1, .int (nI 5)), (2, .ref (60 + 2 * i)), (3, .int (nI 0)), (4, .int (x)), (5, .int (nI dp))]) (st' := [.int (nI dp + nI 1)]) (h' := HN (bdC g [30]) hl (RF rt)) rfl ?_
    refine Ev.topI (nI_add _ _) ?_
    refine Ev.run 11 (pc' := 240) (lv' := [(10, .int (nI (dp + 1))), (9, .int (nI 0)), (8, .int (nI 5)), (7, .int (nI 30)), (6, .int (nI 2)), (0, .ref 132), (1, .int (nI 5)), (2, .ref (60 + 2 * i)), (3, .int (nI 0)), (4, .int (x)), (5, .int (nI dp))]) (st' := [.int (nI (dp + 1)), .int (x * nI 3), .int (nI 0), .ref (60 + 2 * i), .int (nI 0), .ref 132]) (h' := HN (bdC g [30]) hl (RF rt)) rfl ?_
    refine Ev.call (a := 4) (as := [.ref 132, .int (nI 0), .ref (60 + 2 * i), .int (nI 0), .int (x * nI 3), .int (nI (dp + 1))]) (rest := []) (lv0 := [(0, .ref 132), (1, .int (nI 0)), (2, .ref (60 + 2 * i)), (3, .int (nI 0)), (4, .int (x * nI 3)), (5, .int (nI (dp + 1)))]) (Q1 := (fun z0 h' => z0 = some (.int ((x * nI 3) + nI i)) ∧ h' = HN (bdC g [30, 10]) hl (RF rt))) rfl rfl (K_rf5_0_0 _ (bdC g [30]) _ _ (x * nI 3) i v (dp + 1) hi hv (by rw [bdC_s]; split <;> omega) (by rw [bdC_ne _ _ (by omega)]; exact hN) (by rw [bdC_ne _ _ (by omega)]; exact hK) (by rw [bdC_ne _ _ (by omega)]; exact hv3) (by omega) ⟨rfl, congrArg (fun z => HN z hl (RF rt)) (bdC_c h133 _ _)⟩) (fun r h' hr => ?_)
    obtain ⟨rfl, rfl⟩ := hr
    refine Ev.ret (v := some (.int ((x * nI 3) + nI i))) rfl ?_
    first | exact hq | (exfalso; omega)
  · have hc16 : ¬ (dp < 20) := fun z => hc16 ((nI_ltI (by omega) (by omega)).mpr z)
    refine Ev.run 1 (pc' := 20) (lv' := [(6, .int (nI 2)), (0, .ref 132), (1, .int (nI 5)), (2, .ref (60 + 2 * i)), (3, .int (nI 0)), (4, .int (x)), (5, .int (nI dp))]) (st' := [.int (nI 0)]) (h' := HN g hl (RF rt)) rfl ?_
    refine Ev.ret (v := some (.int (nI 0))) rfl ?_
    first | exact hq | (exfalso; omega)
theorem K_rf5_5_1 {L : Nat} {xs : Nat → Int32} (d : Nat) (g : Nat → Nat → Nat) (hl : Nat → Nat → Int64) (rt : Nat × Nat × Nat × Nat) (x : Int32) (i v dp : Nat) (hi : i < 5) (hv : v < 2 ^ 31) (h133 : g 133 1 ≤ 20) (hN : g (60 + 2 * i) 1 = i) (hK : g (60 + 2 * i) 2 = 5) (hv3 : g (60 + 2 * i) 3 = v) (hdp : dp ≤ 16) {Q : Po} (hq : Q (some (.int (((x * nI 3) + nI i) - nI v))) (HN (bdC g [11, 30, 10]) hl (RF rt))) : Ev L xs (d + 5) 4 0 [(0, .ref 132), (1, .int (nI 5)), (2, .ref (60 + 2 * i)), (3, .int (nI 1)), (4, .int (x)), (5, .int (nI dp))] [] (HN g hl (RF rt)) Q := by
  refine Ev.run 2 (pc' := 2) (lv' := [(0, .ref 132), (1, .int (nI 5)), (2, .ref (60 + 2 * i)), (3, .int (nI 1)), (4, .int (x)), (5, .int (nI dp))]) (st' := [.int (nI 1), .int (nI 5)]) (h' := HN g hl (RF rt)) rfl ?_
  refine Ev.call (a := 5) (as := [.int (nI 5), .int (nI 1)]) (rest := []) (lv0 := [(0, .int (nI 5)), (1, .int (nI 1))]) (Q1 := (fun z0 h' => z0 = some (.int (nI 0)) ∧ h' = HN g hl (RF rt))) rfl rfl (K_own51 _ _ _ _ ⟨rfl, rfl⟩) (fun r h' hr => ?_)
  obtain ⟨rfl, rfl⟩ := hr
  refine Ev.run 6 (pc' := (if nI dp < nI 20 then 21 else 19)) (lv' := [(6, .int (nI 0)), (0, .ref 132), (1, .int (nI 5)), (2, .ref (60 + 2 * i)), (3, .int (nI 1)), (4, .int (x)), (5, .int (nI dp))]) (st' := []) (h' := HN g hl (RF rt)) rfl ?_
  refine Ev.ite (fun hc16 => ?_) (fun hc16 => ?_)
  · have hc16 : dp < 20 := (nI_ltI (by omega) (by omega)).mp hc16
    refine Ev.run 6 (pc' := 30) (lv' := [(6, .int (nI 0)), (0, .ref 132), (1, .int (nI 5)), (2, .ref (60 + 2 * i)), (3, .int (nI 1)), (4, .int (x)), (5, .int (nI dp))]) (st' := [.int (nI 1), .retAddr 2]) (h' := HN g hl (RF rt)) rfl ?_
    refine Ev_xald rfl (by decide) (show 1 < 21 by omega) (show 21 < 2 ^ 31 by decide) ?_
    refine Ev.topI (show xVal xs 2 1 = nI 11 from rfl) ?_
    refine Ev.run 4 (pc' := 39) (lv' := [(7, .int (nI 11)), (6, .int (nI 0)), (0, .ref 132), (1, .int (nI 5)), (2, .ref (60 + 2 * i)), (3, .int (nI 1)), (4, .int (x)), (5, .int (nI dp))]) (st' := [.int (nI 11), .ref 133]) (h' := HN g hl (RF rt)) rfl ?_
    refine Ev.call (a := 43) (as := [.ref 133, .int (nI 11)]) (rest := []) (lv0 := [(0, .ref 133), (1, .int (nI 11))]) (Q1 := (fun z0 h' => z0 = none ∧ h' = HN (ptLn g 133 20 11) hl (RF rt))) rfl rfl (K_put _ g _ _ 133 20 (ln133 rt) 11 (by omega) ⟨rfl, rfl⟩) (fun r h' hr => ?_)
    obtain ⟨rfl, rfl⟩ := hr
    refine Ev.run 5 (pc' := 49) (lv' := [(7, .int (nI 11)), (6, .int (nI 0)), (0, .ref 132), (1, .int (nI 5)), (2, .ref (60 + 2 * i)), (3, .int (nI 1)), (4, .int (x)), (5, .int (nI dp))]) (st' := [.int (nI ((ptLn g 133 20 11) 132 1) + nI 1), .ref 132]) (h' := HN (ptLn g 133 20 11) hl (RF rt)) rfl ?_
    refine Ev.topI (nI_add _ _) ?_
    refine Ev.run 1 (pc' := 52) (lv' := [(7, .int (nI 11)), (6, .int (nI 0)), (0, .ref 132), (1, .int (nI 5)), (2, .ref (60 + 2 * i)), (3, .int (nI 1)), (4, .int (x)), (5, .int (nI dp))]) (st' := []) (h' := setI (HN (ptLn g 133 20 11) hl (RF rt)) 132 1 (nI (((ptLn g 133 20 11) 132 1) + 1))) rfl ?_
    refine Ev.hp (HN_set _ _ _ _ _ _) ?_
    refine Ev.hp (congrArg (fun z => HN z hl (RF rt)) (show u2 (ptLn g 133 20 11) 132 1 ((ptLn g 133 20 11) 132 1 + 1) = bdC g [11] by rw [show ptLn g 133 20 11 132 1 = g 132 1 from by unfold ptLn; split; rw [u2_ne _ (Or.inl (by decide)), u2_ne _ (Or.inl (by decide))]; rfl]; exact bdC_1 h133 11)) ?_
    refine Ev.run 1 (pc' := 53) (lv' := [(7, .int (nI 11)), (6, .int (nI 0)), (0, .ref 132), (1, .int (nI 5)), (2, .ref (60 + 2 * i)), (3, .int (nI 1)), (4, .int (x)), (5, .int (nI dp))]) (st' := [.ref (60 + 2 * i)]) (h' := HN (bdC g [11]) hl (RF rt)) rfl ?_
    refine Ev_gfI rfl rfl rfl (kcP (show i < 5 by omega)) ?_
    refine Ev.topI (congrArg nI (((bdC_ne _ _ (by omega) _).trans hK))) ?_
    refine Ev.run 3 (pc' := 63) (lv' := [(8, .int (nI 5)), (7, .int (nI 11)), (6, .int (nI 0)), (0, .ref 132), (1, .int (nI 5)), (2, .ref (60 + 2 * i)), (3, .int (nI 1)), (4, .int (x)), (5, .int (nI dp))]) (st' := [.int (nI 0), .retAddr 1]) (h' := HN (bdC g [11]) hl (RF rt)) rfl ?_
    refine Ev_xald rfl (by decide) (show 0 < 7 by omega) (show 7 < 2 ^ 31 by decide) ?_
    refine Ev.topI (show xVal xs 1 0 = nI 4294967295 from rfl) ?_
    refine Ev.run 4 (pc' := 70) (lv' := [(9, .int (nI 4294967295)), (8, .int (nI 5)), (7, .int (nI 11)), (6, .int (nI 0)), (0, .ref 132), (1, .int (nI 5)), (2, .ref (60 + 2 * i)), (3, .int (nI 1)), (4, .int (x)), (5, .int (nI dp))]) (st' := [.int (nI dp + nI 1)]) (h' := HN (bdC g [11]) hl (RF rt)) rfl ?_
    refine Ev.topI (nI_add _ _) ?_
    refine Ev.run 9 (pc' := 189) (lv' := [(10, .int (nI (dp + 1))), (9, .int (nI 4294967295)), (8, .int (nI 5)), (7, .int (nI 11)), (6, .int (nI 0)), (0, .ref 132), (1, .int (nI 5)), (2, .ref (60 + 2 * i)), (3, .int (nI 1)), (4, .int (x)), (5, .int (nI dp))]) (st' := [.int (nI (dp + 1)), .int (x), .int (nI 0), .ref (60 + 2 * i), .int (nI 5), .ref 132]) (h' := HN (bdC g [11]) hl (RF rt)) rfl ?_
    refine Ev.call (a := 4) (as := [.ref 132, .int (nI 5), .ref (60 + 2 * i), .int (nI 0), .int (x), .int (nI (dp + 1))]) (rest := []) (lv0 := [(0, .ref 132), (1, .int (nI 5)), (2, .ref (60 + 2 * i)), (3, .int (nI 0)), (4, .int (x)), (5, .int (nI (dp + 1)))]) (Q1 := (fun z0 h' => z0 = some (.int ((x * nI 3) + nI i)) ∧ h' = HN (bdC g [11, 30, 10]) hl (RF rt))) rfl rfl (K_rf5_5_0 _ (bdC g [11]) _ _ (x) i v (dp + 1) hi hv (by rw [bdC_s]; split <;> omega) (by rw [bdC_ne _ _ (by omega)]; exact hN) (by rw [bdC_ne _ _ (by omega)]; exact hK) (by rw [bdC_ne _ _ (by omega)]; exact hv3) (by omega) ⟨rfl, congrArg (fun z => HN z hl (RF rt)) (bdC_c h133 _ _)⟩) (fun r h' hr => ?_)
    obtain ⟨rfl, rfl⟩ := hr
    refine Ev.run 1 (pc' := 193) (lv' := [(10, .int (nI (dp + 1))), (9, .int (nI 4294967295)), (8, .int (nI 5)), (7, .int (nI 11)), (6, .int (nI 0)), (0, .ref 132), (1, .int (nI 5)), (2, .ref (60 + 2 * i)), (3, .int (nI 1)), (4, .int (x)), (5, .int (nI dp))]) (st' := [.ref (60 + 2 * i), .int ((x * nI 3) + nI i)]) (h' := HN (bdC g [11, 30, 10]) hl (RF rt)) rfl ?_
    refine Ev_gfI rfl rfl rfl (kcP (show i < 5 by omega)) ?_
    refine Ev.topI (congrArg nI (((bdC_ne _ _ (by omega) _).trans hv3))) ?_
    refine Ev.run 1 (pc' := 197) (lv' := [(10, .int (nI (dp + 1))), (9, .int (nI 4294967295)), (8, .int (nI 5)), (7, .int (nI 11)), (6, .int (nI 0)), (0, .ref 132), (1, .int (nI 5)), (2, .ref (60 + 2 * i)), (3, .int (nI 1)), (4, .int (x)), (5, .int (nI dp))]) (st' := [.int (((x * nI 3) + nI i) - nI v)]) (h' := HN (bdC g [11, 30, 10]) hl (RF rt)) rfl ?_
    refine Ev.ret (v := some (.int (((x * nI 3) + nI i) - nI v))) rfl ?_
    first | exact hq | (exfalso; omega)
  · have hc16 : ¬ (dp < 20) := fun z => hc16 ((nI_ltI (by omega) (by omega)).mpr z)
    refine Ev.run 1 (pc' := 20) (lv' := [(6, .int (nI 0)), (0, .ref 132), (1, .int (nI 5)), (2, .ref (60 + 2 * i)), (3, .int (nI 1)), (4, .int (x)), (5, .int (nI dp))]) (st' := [.int (nI 0)]) (h' := HN g hl (RF rt)) rfl ?_
    refine Ev.ret (v := some (.int (nI 0))) rfl ?_
    first | exact hq | (exfalso; omega)
theorem K_rf5_2_2 {L : Nat} {xs : Nat → Int32} (d : Nat) (g : Nat → Nat → Nat) (hl : Nat → Nat → Int64) (rt : Nat × Nat × Nat × Nat) (x : Int32) (i v dp : Nat) (hi : i < 5) (hv : v < 2 ^ 31) (h133 : g 133 1 ≤ 20) (hN : g (60 + 2 * i) 1 = i) (hK : g (60 + 2 * i) 2 = 5) (hv3 : g (60 + 2 * i) 3 = v) (hdp : dp ≤ 15) {Q : Po} (hq : Q (some (.int ((((x * nI 3) + nI i) - nI v) * nI 2))) (HN (bdC g [12, 11, 30, 10]) hl (RF rt))) : Ev L xs (d + 6) 4 0 [(0, .ref 132), (1, .int (nI 2)), (2, .ref (60 + 2 * i)), (3, .int (nI 2)), (4, .int (x)), (5, .int (nI dp))] [] (HN g hl (RF rt)) Q := by
  refine Ev.run 2 (pc' := 2) (lv' := [(0, .ref 132), (1, .int (nI 2)), (2, .ref (60 + 2 * i)), (3, .int (nI 2)), (4, .int (x)), (5, .int (nI dp))]) (st' := [.int (nI 2), .int (nI 2)]) (h' := HN g hl (RF rt)) rfl ?_
  refine Ev.call (a := 5) (as := [.int (nI 2), .int (nI 2)]) (rest := []) (lv0 := [(0, .int (nI 2)), (1, .int (nI 2))]) (Q1 := (fun z0 h' => z0 = some (.int (nI 0)) ∧ h' = HN g hl (RF rt))) rfl rfl (K_own22 _ _ _ _ ⟨rfl, rfl⟩) (fun r h' hr => ?_)
  obtain ⟨rfl, rfl⟩ := hr
  refine Ev.run 6 (pc' := (if nI dp < nI 20 then 21 else 19)) (lv' := [(6, .int (nI 0)), (0, .ref 132), (1, .int (nI 2)), (2, .ref (60 + 2 * i)), (3, .int (nI 2)), (4, .int (x)), (5, .int (nI dp))]) (st' := []) (h' := HN g hl (RF rt)) rfl ?_
  refine Ev.ite (fun hc16 => ?_) (fun hc16 => ?_)
  · have hc16 : dp < 20 := (nI_ltI (by omega) (by omega)).mp hc16
    refine Ev.run 6 (pc' := 30) (lv' := [(6, .int (nI 0)), (0, .ref 132), (1, .int (nI 2)), (2, .ref (60 + 2 * i)), (3, .int (nI 2)), (4, .int (x)), (5, .int (nI dp))]) (st' := [.int (nI 2), .retAddr 2]) (h' := HN g hl (RF rt)) rfl ?_
    refine Ev_xald rfl (by decide) (show 2 < 21 by omega) (show 21 < 2 ^ 31 by decide) ?_
    refine Ev.topI (show xVal xs 2 2 = nI 12 from rfl) ?_
    refine Ev.run 4 (pc' := 39) (lv' := [(7, .int (nI 12)), (6, .int (nI 0)), (0, .ref 132), (1, .int (nI 2)), (2, .ref (60 + 2 * i)), (3, .int (nI 2)), (4, .int (x)), (5, .int (nI dp))]) (st' := [.int (nI 12), .ref 133]) (h' := HN g hl (RF rt)) rfl ?_
    refine Ev.call (a := 43) (as := [.ref 133, .int (nI 12)]) (rest := []) (lv0 := [(0, .ref 133), (1, .int (nI 12))]) (Q1 := (fun z0 h' => z0 = none ∧ h' = HN (ptLn g 133 20 12) hl (RF rt))) rfl rfl (K_put _ g _ _ 133 20 (ln133 rt) 12 (by omega) ⟨rfl, rfl⟩) (fun r h' hr => ?_)
    obtain ⟨rfl, rfl⟩ := hr
    refine Ev.run 5 (pc' := 49) (lv' := [(7, .int (nI 12)), (6, .int (nI 0)), (0, .ref 132), (1, .int (nI 2)), (2, .ref (60 + 2 * i)), (3, .int (nI 2)), (4, .int (x)), (5, .int (nI dp))]) (st' := [.int (nI ((ptLn g 133 20 12) 132 1) + nI 1), .ref 132]) (h' := HN (ptLn g 133 20 12) hl (RF rt)) rfl ?_
    refine Ev.topI (nI_add _ _) ?_
    refine Ev.run 1 (pc' := 52) (lv' := [(7, .int (nI 12)), (6, .int (nI 0)), (0, .ref 132), (1, .int (nI 2)), (2, .ref (60 + 2 * i)), (3, .int (nI 2)), (4, .int (x)), (5, .int (nI dp))]) (st' := []) (h' := setI (HN (ptLn g 133 20 12) hl (RF rt)) 132 1 (nI (((ptLn g 133 20 12) 132 1) + 1))) rfl ?_
    refine Ev.hp (HN_set _ _ _ _ _ _) ?_
    refine Ev.hp (congrArg (fun z => HN z hl (RF rt)) (show u2 (ptLn g 133 20 12) 132 1 ((ptLn g 133 20 12) 132 1 + 1) = bdC g [12] by rw [show ptLn g 133 20 12 132 1 = g 132 1 from by unfold ptLn; split; rw [u2_ne _ (Or.inl (by decide)), u2_ne _ (Or.inl (by decide))]; rfl]; exact bdC_1 h133 12)) ?_
    refine Ev.run 1 (pc' := 53) (lv' := [(7, .int (nI 12)), (6, .int (nI 0)), (0, .ref 132), (1, .int (nI 2)), (2, .ref (60 + 2 * i)), (3, .int (nI 2)), (4, .int (x)), (5, .int (nI dp))]) (st' := [.ref (60 + 2 * i)]) (h' := HN (bdC g [12]) hl (RF rt)) rfl ?_
    refine Ev_gfI rfl rfl rfl (kcP (show i < 5 by omega)) ?_
    refine Ev.topI (congrArg nI (((bdC_ne _ _ (by omega) _).trans hK))) ?_
    refine Ev.run 3 (pc' := 63) (lv' := [(8, .int (nI 5)), (7, .int (nI 12)), (6, .int (nI 0)), (0, .ref 132), (1, .int (nI 2)), (2, .ref (60 + 2 * i)), (3, .int (nI 2)), (4, .int (x)), (5, .int (nI dp))]) (st' := [.int (nI 0), .retAddr 1]) (h' := HN (bdC g [12]) hl (RF rt)) rfl ?_
    refine Ev_xald rfl (by decide) (show 0 < 7 by omega) (show 7 < 2 ^ 31 by decide) ?_
    refine Ev.topI (show xVal xs 1 0 = nI 4294967295 from rfl) ?_
    refine Ev.run 4 (pc' := 70) (lv' := [(9, .int (nI 4294967295)), (8, .int (nI 5)), (7, .int (nI 12)), (6, .int (nI 0)), (0, .ref 132), (1, .int (nI 2)), (2, .ref (60 + 2 * i)), (3, .int (nI 2)), (4, .int (x)), (5, .int (nI dp))]) (st' := [.int (nI dp + nI 1)]) (h' := HN (bdC g [12]) hl (RF rt)) rfl ?_
    refine Ev.topI (nI_add _ _) ?_
    refine Ev.run 9 (pc' := 207) (lv' := [(10, .int (nI (dp + 1))), (9, .int (nI 4294967295)), (8, .int (nI 5)), (7, .int (nI 12)), (6, .int (nI 0)), (0, .ref 132), (1, .int (nI 2)), (2, .ref (60 + 2 * i)), (3, .int (nI 2)), (4, .int (x)), (5, .int (nI dp))]) (st' := [.int (nI (dp + 1)), .int (x), .int (nI 1), .ref (60 + 2 * i), .int (nI 5), .ref 132]) (h' := HN (bdC g [12]) hl (RF rt)) rfl ?_
    refine Ev.call (a := 4) (as := [.ref 132, .int (nI 5), .ref (60 + 2 * i), .int (nI 1), .int (x), .int (nI (dp + 1))]) (rest := []) (lv0 := [(0, .ref 132), (1, .int (nI 5)), (2, .ref (60 + 2 * i)), (3, .int (nI 1)), (4, .int (x)), (5, .int (nI (dp + 1)))]) (Q1 := (fun z0 h' => z0 = some (.int (((x * nI 3) + nI i) - nI v)) ∧ h' = HN (bdC g [12, 11, 30, 10]) hl (RF rt))) rfl rfl (K_rf5_5_1 _ (bdC g [12]) _ _ (x) i v (dp + 1) hi hv (by rw [bdC_s]; split <;> omega) (by rw [bdC_ne _ _ (by omega)]; exact hN) (by rw [bdC_ne _ _ (by omega)]; exact hK) (by rw [bdC_ne _ _ (by omega)]; exact hv3) (by omega) ⟨rfl, congrArg (fun z => HN z hl (RF rt)) (bdC_c h133 _ _)⟩) (fun r h' hr => ?_)
    obtain ⟨rfl, rfl⟩ := hr
    refine Ev.run 2 (pc' := 212) (lv' := [(10, .int (nI (dp + 1))), (9, .int (nI 4294967295)), (8, .int (nI 5)), (7, .int (nI 12)), (6, .int (nI 0)), (0, .ref 132), (1, .int (nI 2)), (2, .ref (60 + 2 * i)), (3, .int (nI 2)), (4, .int (x)), (5, .int (nI dp))]) (st' := [.int ((((x * nI 3) + nI i) - nI v) * nI 2)]) (h' := HN (bdC g [12, 11, 30, 10]) hl (RF rt)) rfl ?_
    refine Ev.ret (v := some (.int ((((x * nI 3) + nI i) - nI v) * nI 2))) rfl ?_
    first | exact hq | (exfalso; omega)
  · have hc16 : ¬ (dp < 20) := fun z => hc16 ((nI_ltI (by omega) (by omega)).mpr z)
    refine Ev.run 1 (pc' := 20) (lv' := [(6, .int (nI 0)), (0, .ref 132), (1, .int (nI 2)), (2, .ref (60 + 2 * i)), (3, .int (nI 2)), (4, .int (x)), (5, .int (nI dp))]) (st' := [.int (nI 0)]) (h' := HN g hl (RF rt)) rfl ?_
    refine Ev.ret (v := some (.int (nI 0))) rfl ?_
    first | exact hq | (exfalso; omega)
theorem K_rf5_5_2 {L : Nat} {xs : Nat → Int32} (d : Nat) (g : Nat → Nat → Nat) (hl : Nat → Nat → Int64) (rt : Nat × Nat × Nat × Nat) (x : Int32) (i v dp : Nat) (hi : i < 5) (hv : v < 2 ^ 31) (h133 : g 133 1 ≤ 20) (hN : g (60 + 2 * i) 1 = i) (hK : g (60 + 2 * i) 2 = 5) (hv3 : g (60 + 2 * i) 3 = v) (hdp : dp ≤ 14) {Q : Po} (hq : Q (some (.int (((((x - nI i) * nI 3) + nI i) - nI v) * nI 2))) (HN (bdC g [60, 12, 11, 30, 10]) hl (RF rt))) : Ev L xs (d + 7) 4 0 [(0, .ref 132), (1, .int (nI 5)), (2, .ref (60 + 2 * i)), (3, .int (nI 2)), (4, .int (x)), (5, .int (nI dp))] [] (HN g hl (RF rt)) Q := by
  refine Ev.run 2 (pc' := 2) (lv' := [(0, .ref 132), (1, .int (nI 5)), (2, .ref (60 + 2 * i)), (3, .int (nI 2)), (4, .int (x)), (5, .int (nI dp))]) (st' := [.int (nI 2), .int (nI 5)]) (h' := HN g hl (RF rt)) rfl ?_
  refine Ev.call (a := 5) (as := [.int (nI 5), .int (nI 2)]) (rest := []) (lv0 := [(0, .int (nI 5)), (1, .int (nI 2))]) (Q1 := (fun z0 h' => z0 = some (.int (nI 5)) ∧ h' = HN g hl (RF rt))) rfl rfl (K_own52 _ _ _ _ ⟨rfl, rfl⟩) (fun r h' hr => ?_)
  obtain ⟨rfl, rfl⟩ := hr
  refine Ev.run 6 (pc' := (if nI dp < nI 20 then 21 else 19)) (lv' := [(6, .int (nI 5)), (0, .ref 132), (1, .int (nI 5)), (2, .ref (60 + 2 * i)), (3, .int (nI 2)), (4, .int (x)), (5, .int (nI dp))]) (st' := []) (h' := HN g hl (RF rt)) rfl ?_
  refine Ev.ite (fun hc16 => ?_) (fun hc16 => ?_)
  · have hc16 : dp < 20 := (nI_ltI (by omega) (by omega)).mp hc16
    refine Ev.run 6 (pc' := 30) (lv' := [(6, .int (nI 5)), (0, .ref 132), (1, .int (nI 5)), (2, .ref (60 + 2 * i)), (3, .int (nI 2)), (4, .int (x)), (5, .int (nI dp))]) (st' := [.int (nI 17), .retAddr 2]) (h' := HN g hl (RF rt)) rfl ?_
    refine Ev_xald rfl (by decide) (show 17 < 21 by omega) (show 21 < 2 ^ 31 by decide) ?_
    refine Ev.topI (show xVal xs 2 17 = nI 60 from rfl) ?_
    refine Ev.run 4 (pc' := 39) (lv' := [(7, .int (nI 60)), (6, .int (nI 5)), (0, .ref 132), (1, .int (nI 5)), (2, .ref (60 + 2 * i)), (3, .int (nI 2)), (4, .int (x)), (5, .int (nI dp))]) (st' := [.int (nI 60), .ref 133]) (h' := HN g hl (RF rt)) rfl ?_
    refine Ev.call (a := 43) (as := [.ref 133, .int (nI 60)]) (rest := []) (lv0 := [(0, .ref 133), (1, .int (nI 60))]) (Q1 := (fun z0 h' => z0 = none ∧ h' = HN (ptLn g 133 20 60) hl (RF rt))) rfl rfl (K_put _ g _ _ 133 20 (ln133 rt) 60 (by omega) ⟨rfl, rfl⟩) (fun r h' hr => ?_)
    obtain ⟨rfl, rfl⟩ := hr
    refine Ev.run 5 (pc' := 49) (lv' := [(7, .int (nI 60)), (6, .int (nI 5)), (0, .ref 132), (1, .int (nI 5)), (2, .ref (60 + 2 * i)), (3, .int (nI 2)), (4, .int (x)), (5, .int (nI dp))]) (st' := [.int (nI ((ptLn g 133 20 60) 132 1) + nI 1), .ref 132]) (h' := HN (ptLn g 133 20 60) hl (RF rt)) rfl ?_
    refine Ev.topI (nI_add _ _) ?_
    refine Ev.run 1 (pc' := 52) (lv' := [(7, .int (nI 60)), (6, .int (nI 5)), (0, .ref 132), (1, .int (nI 5)), (2, .ref (60 + 2 * i)), (3, .int (nI 2)), (4, .int (x)), (5, .int (nI dp))]) (st' := []) (h' := setI (HN (ptLn g 133 20 60) hl (RF rt)) 132 1 (nI (((ptLn g 133 20 60) 132 1) + 1))) rfl ?_
    refine Ev.hp (HN_set _ _ _ _ _ _) ?_
    refine Ev.hp (congrArg (fun z => HN z hl (RF rt)) (show u2 (ptLn g 133 20 60) 132 1 ((ptLn g 133 20 60) 132 1 + 1) = bdC g [60] by rw [show ptLn g 133 20 60 132 1 = g 132 1 from by unfold ptLn; split; rw [u2_ne _ (Or.inl (by decide)), u2_ne _ (Or.inl (by decide))]; rfl]; exact bdC_1 h133 60)) ?_
    refine Ev.run 1 (pc' := 53) (lv' := [(7, .int (nI 60)), (6, .int (nI 5)), (0, .ref 132), (1, .int (nI 5)), (2, .ref (60 + 2 * i)), (3, .int (nI 2)), (4, .int (x)), (5, .int (nI dp))]) (st' := [.ref (60 + 2 * i)]) (h' := HN (bdC g [60]) hl (RF rt)) rfl ?_
    refine Ev_gfI rfl rfl rfl (kcP (show i < 5 by omega)) ?_
    refine Ev.topI (congrArg nI (((bdC_ne _ _ (by omega) _).trans hK))) ?_
    refine Ev.run 3 (pc' := 63) (lv' := [(8, .int (nI 5)), (7, .int (nI 60)), (6, .int (nI 5)), (0, .ref 132), (1, .int (nI 5)), (2, .ref (60 + 2 * i)), (3, .int (nI 2)), (4, .int (x)), (5, .int (nI dp))]) (st' := [.int (nI 5), .retAddr 1]) (h' := HN (bdC g [60]) hl (RF rt)) rfl ?_
    refine Ev_xald rfl (by decide) (show 5 < 7 by omega) (show 7 < 2 ^ 31 by decide) ?_
    refine Ev.topI (show xVal xs 1 5 = nI 2 from rfl) ?_
    refine Ev.run 4 (pc' := 70) (lv' := [(9, .int (nI 2)), (8, .int (nI 5)), (7, .int (nI 60)), (6, .int (nI 5)), (0, .ref 132), (1, .int (nI 5)), (2, .ref (60 + 2 * i)), (3, .int (nI 2)), (4, .int (x)), (5, .int (nI dp))]) (st' := [.int (nI dp + nI 1)]) (h' := HN (bdC g [60]) hl (RF rt)) rfl ?_
    refine Ev.topI (nI_add _ _) ?_
    refine Ev.run 9 (pc' := 306) (lv' := [(10, .int (nI (dp + 1))), (9, .int (nI 2)), (8, .int (nI 5)), (7, .int (nI 60)), (6, .int (nI 5)), (0, .ref 132), (1, .int (nI 5)), (2, .ref (60 + 2 * i)), (3, .int (nI 2)), (4, .int (x)), (5, .int (nI dp))]) (st' := [.ref (60 + 2 * i), .int (x), .int (nI 2), .ref (60 + 2 * i), .int (nI 2), .ref 132]) (h' := HN (bdC g [60]) hl (RF rt)) rfl ?_
    refine Ev_gfI rfl rfl rfl (kcP (show i < 5 by omega)) ?_
    refine Ev.topI (congrArg nI (((bdC_ne _ _ (by omega) _).trans hN))) ?_
    refine Ev.run 2 (pc' := 312) (lv' := [(10, .int (nI (dp + 1))), (9, .int (nI 2)), (8, .int (nI 5)), (7, .int (nI 60)), (6, .int (nI 5)), (0, .ref 132), (1, .int (nI 5)), (2, .ref (60 + 2 * i)), (3, .int (nI 2)), (4, .int (x)), (5, .int (nI dp))]) (st' := [.int (nI (dp + 1)), .int (x - nI i), .int (nI 2), .ref (60 + 2 * i), .int (nI 2), .ref 132]) (h' := HN (bdC g [60]) hl (RF rt)) rfl ?_
    refine Ev.call (a := 4) (as := [.ref 132, .int (nI 2), .ref (60 + 2 * i), .int (nI 2), .int (x - nI i), .int (nI (dp + 1))]) (rest := []) (lv0 := [(0, .ref 132), (1, .int (nI 2)), (2, .ref (60 + 2 * i)), (3, .int (nI 2)), (4, .int (x - nI i)), (5, .int (nI (dp + 1)))]) (Q1 := (fun z0 h' => z0 = some (.int (((((x - nI i) * nI 3) + nI i) - nI v) * nI 2)) ∧ h' = HN (bdC g [60, 12, 11, 30, 10]) hl (RF rt))) rfl rfl (K_rf5_2_2 _ (bdC g [60]) _ _ (x - nI i) i v (dp + 1) hi hv (by rw [bdC_s]; split <;> omega) (by rw [bdC_ne _ _ (by omega)]; exact hN) (by rw [bdC_ne _ _ (by omega)]; exact hK) (by rw [bdC_ne _ _ (by omega)]; exact hv3) (by omega) ⟨rfl, congrArg (fun z => HN z hl (RF rt)) (bdC_c h133 _ _)⟩) (fun r h' hr => ?_)
    obtain ⟨rfl, rfl⟩ := hr
    refine Ev.ret (v := some (.int (((((x - nI i) * nI 3) + nI i) - nI v) * nI 2))) rfl ?_
    first | exact hq | (exfalso; omega)
  · have hc16 : ¬ (dp < 20) := fun z => hc16 ((nI_ltI (by omega) (by omega)).mpr z)
    refine Ev.run 1 (pc' := 20) (lv' := [(6, .int (nI 5)), (0, .ref 132), (1, .int (nI 5)), (2, .ref (60 + 2 * i)), (3, .int (nI 2)), (4, .int (x)), (5, .int (nI dp))]) (st' := [.int (nI 0)]) (h' := HN g hl (RF rt)) rfl ?_
    refine Ev.ret (v := some (.int (nI 0))) rfl ?_
    first | exact hq | (exfalso; omega)
theorem K_rf6_3_0 {L : Nat} {xs : Nat → Int32} (d : Nat) (g : Nat → Nat → Nat) (hl : Nat → Nat → Int64) (rt : Nat × Nat × Nat × Nat) (x : Int32) (i v dp : Nat) (hi : i < 5) (hv : v < 2 ^ 31) (h133 : g 133 1 ≤ 20) (hN : g (60 + 2 * i) 1 = i) (hK : g (60 + 2 * i) 2 = 6) (hv3 : g (60 + 2 * i) 3 = v) (hdp : dp ≤ 18) {Q : Po} (hq : Q (some (.int (x + nI i))) (HN (bdC g [10]) hl (RF rt))) : Ev L xs (d + 3) 4 0 [(0, .ref 132), (1, .int (nI 3)), (2, .ref (60 + 2 * i)), (3, .int (nI 0)), (4, .int (x)), (5, .int (nI dp))] [] (HN g hl (RF rt)) Q := by
  refine Ev.run 2 (pc' := 2) (lv' := [(0, .ref 132), (1, .int (nI 3)), (2, .ref (60 + 2 * i)), (3, .int (nI 0)), (4, .int (x)), (5, .int (nI dp))]) (st' := [.int (nI 0), .int (nI 3)]) (h' := HN g hl (RF rt)) rfl ?_
  refine Ev.call (a := 5) (as := [.int (nI 3), .int (nI 0)]) (rest := []) (lv0 := [(0, .int (nI 3)), (1, .int (nI 0))]) (Q1 := (fun z0 h' => z0 = some (.int (nI 0)) ∧ h' = HN g hl (RF rt))) rfl rfl (K_own30 _ _ _ _ ⟨rfl, rfl⟩) (fun r h' hr => ?_)
  obtain ⟨rfl, rfl⟩ := hr
  refine Ev.run 6 (pc' := (if nI dp < nI 20 then 21 else 19)) (lv' := [(6, .int (nI 0)), (0, .ref 132), (1, .int (nI 3)), (2, .ref (60 + 2 * i)), (3, .int (nI 0)), (4, .int (x)), (5, .int (nI dp))]) (st' := []) (h' := HN g hl (RF rt)) rfl ?_
  refine Ev.ite (fun hc16 => ?_) (fun hc16 => ?_)
  · have hc16 : dp < 20 := (nI_ltI (by omega) (by omega)).mp hc16
    refine Ev.run 6 (pc' := 30) (lv' := [(6, .int (nI 0)), (0, .ref 132), (1, .int (nI 3)), (2, .ref (60 + 2 * i)), (3, .int (nI 0)), (4, .int (x)), (5, .int (nI dp))]) (st' := [.int (nI 0), .retAddr 2]) (h' := HN g hl (RF rt)) rfl ?_
    refine Ev_xald rfl (by decide) (show 0 < 21 by omega) (show 21 < 2 ^ 31 by decide) ?_
    refine Ev.topI (show xVal xs 2 0 = nI 10 from rfl) ?_
    refine Ev.run 4 (pc' := 39) (lv' := [(7, .int (nI 10)), (6, .int (nI 0)), (0, .ref 132), (1, .int (nI 3)), (2, .ref (60 + 2 * i)), (3, .int (nI 0)), (4, .int (x)), (5, .int (nI dp))]) (st' := [.int (nI 10), .ref 133]) (h' := HN g hl (RF rt)) rfl ?_
    refine Ev.call (a := 43) (as := [.ref 133, .int (nI 10)]) (rest := []) (lv0 := [(0, .ref 133), (1, .int (nI 10))]) (Q1 := (fun z0 h' => z0 = none ∧ h' = HN (ptLn g 133 20 10) hl (RF rt))) rfl rfl (K_put _ g _ _ 133 20 (ln133 rt) 10 (by omega) ⟨rfl, rfl⟩) (fun r h' hr => ?_)
    obtain ⟨rfl, rfl⟩ := hr
    refine Ev.run 5 (pc' := 49) (lv' := [(7, .int (nI 10)), (6, .int (nI 0)), (0, .ref 132), (1, .int (nI 3)), (2, .ref (60 + 2 * i)), (3, .int (nI 0)), (4, .int (x)), (5, .int (nI dp))]) (st' := [.int (nI ((ptLn g 133 20 10) 132 1) + nI 1), .ref 132]) (h' := HN (ptLn g 133 20 10) hl (RF rt)) rfl ?_
    refine Ev.topI (nI_add _ _) ?_
    refine Ev.run 1 (pc' := 52) (lv' := [(7, .int (nI 10)), (6, .int (nI 0)), (0, .ref 132), (1, .int (nI 3)), (2, .ref (60 + 2 * i)), (3, .int (nI 0)), (4, .int (x)), (5, .int (nI dp))]) (st' := []) (h' := setI (HN (ptLn g 133 20 10) hl (RF rt)) 132 1 (nI (((ptLn g 133 20 10) 132 1) + 1))) rfl ?_
    refine Ev.hp (HN_set _ _ _ _ _ _) ?_
    refine Ev.hp (congrArg (fun z => HN z hl (RF rt)) (show u2 (ptLn g 133 20 10) 132 1 ((ptLn g 133 20 10) 132 1 + 1) = bdC g [10] by rw [show ptLn g 133 20 10 132 1 = g 132 1 from by unfold ptLn; split; rw [u2_ne _ (Or.inl (by decide)), u2_ne _ (Or.inl (by decide))]; rfl]; exact bdC_1 h133 10)) ?_
    refine Ev.run 1 (pc' := 53) (lv' := [(7, .int (nI 10)), (6, .int (nI 0)), (0, .ref 132), (1, .int (nI 3)), (2, .ref (60 + 2 * i)), (3, .int (nI 0)), (4, .int (x)), (5, .int (nI dp))]) (st' := [.ref (60 + 2 * i)]) (h' := HN (bdC g [10]) hl (RF rt)) rfl ?_
    refine Ev_gfI rfl rfl rfl (kcP (show i < 5 by omega)) ?_
    refine Ev.topI (congrArg nI (((bdC_ne _ _ (by omega) _).trans hK))) ?_
    refine Ev.run 3 (pc' := 63) (lv' := [(8, .int (nI 6)), (7, .int (nI 10)), (6, .int (nI 0)), (0, .ref 132), (1, .int (nI 3)), (2, .ref (60 + 2 * i)), (3, .int (nI 0)), (4, .int (x)), (5, .int (nI dp))]) (st' := [.int (nI 0), .retAddr 1]) (h' := HN (bdC g [10]) hl (RF rt)) rfl ?_
    refine Ev_xald rfl (by decide) (show 0 < 7 by omega) (show 7 < 2 ^ 31 by decide) ?_
    refine Ev.topI (show xVal xs 1 0 = nI 4294967295 from rfl) ?_
    refine Ev.run 4 (pc' := 70) (lv' := [(9, .int (nI 4294967295)), (8, .int (nI 6)), (7, .int (nI 10)), (6, .int (nI 0)), (0, .ref 132), (1, .int (nI 3)), (2, .ref (60 + 2 * i)), (3, .int (nI 0)), (4, .int (x)), (5, .int (nI dp))]) (st' := [.int (nI dp + nI 1)]) (h' := HN (bdC g [10]) hl (RF rt)) rfl ?_
    refine Ev.topI (nI_add _ _) ?_
    refine Ev.run 5 (pc' := 175) (lv' := [(10, .int (nI (dp + 1))), (9, .int (nI 4294967295)), (8, .int (nI 6)), (7, .int (nI 10)), (6, .int (nI 0)), (0, .ref 132), (1, .int (nI 3)), (2, .ref (60 + 2 * i)), (3, .int (nI 0)), (4, .int (x)), (5, .int (nI dp))]) (st' := [.ref (60 + 2 * i), .int (x)]) (h' := HN (bdC g [10]) hl (RF rt)) rfl ?_
    refine Ev_gfI rfl rfl rfl (kcP (show i < 5 by omega)) ?_
    refine Ev.topI (congrArg nI (((bdC_ne _ _ (by omega) _).trans hN))) ?_
    refine Ev.run 1 (pc' := 179) (lv' := [(10, .int (nI (dp + 1))), (9, .int (nI 4294967295)), (8, .int (nI 6)), (7, .int (nI 10)), (6, .int (nI 0)), (0, .ref 132), (1, .int (nI 3)), (2, .ref (60 + 2 * i)), (3, .int (nI 0)), (4, .int (x)), (5, .int (nI dp))]) (st' := [.int (x + nI i)]) (h' := HN (bdC g [10]) hl (RF rt)) rfl ?_
    refine Ev.ret (v := some (.int (x + nI i))) rfl ?_
    first | exact hq | (exfalso; omega)
  · have hc16 : ¬ (dp < 20) := fun z => hc16 ((nI_ltI (by omega) (by omega)).mpr z)
    refine Ev.run 1 (pc' := 20) (lv' := [(6, .int (nI 0)), (0, .ref 132), (1, .int (nI 3)), (2, .ref (60 + 2 * i)), (3, .int (nI 0)), (4, .int (x)), (5, .int (nI dp))]) (st' := [.int (nI 0)]) (h' := HN g hl (RF rt)) rfl ?_
    refine Ev.ret (v := some (.int (nI 0))) rfl ?_
    first | exact hq | (exfalso; omega)
theorem K_rf6_6_0 {L : Nat} {xs : Nat → Int32} (d : Nat) (g : Nat → Nat → Nat) (hl : Nat → Nat → Int64) (rt : Nat × Nat × Nat × Nat) (x : Int32) (i v dp : Nat) (hi : i < 5) (hv : v < 2 ^ 31) (h133 : g 133 1 ≤ 20) (hN : g (60 + 2 * i) 1 = i) (hK : g (60 + 2 * i) 2 = 6) (hv3 : g (60 + 2 * i) 3 = v) (hdp : dp ≤ 17) {Q : Po} (hq : Q (some (.int ((x + nI i) ^^^ nI v))) (HN (bdC g [71, 10]) hl (RF rt))) : Ev L xs (d + 4) 4 0 [(0, .ref 132), (1, .int (nI 6)), (2, .ref (60 + 2 * i)), (3, .int (nI 0)), (4, .int (x)), (5, .int (nI dp))] [] (HN g hl (RF rt)) Q := by
  refine Ev.run 2 (pc' := 2) (lv' := [(0, .ref 132), (1, .int (nI 6)), (2, .ref (60 + 2 * i)), (3, .int (nI 0)), (4, .int (x)), (5, .int (nI dp))]) (st' := [.int (nI 0), .int (nI 6)]) (h' := HN g hl (RF rt)) rfl ?_
  refine Ev.call (a := 5) (as := [.int (nI 6), .int (nI 0)]) (rest := []) (lv0 := [(0, .int (nI 6)), (1, .int (nI 0))]) (Q1 := (fun z0 h' => z0 = some (.int (nI 6)) ∧ h' = HN g hl (RF rt))) rfl rfl (K_own60 _ _ _ _ ⟨rfl, rfl⟩) (fun r h' hr => ?_)
  obtain ⟨rfl, rfl⟩ := hr
  refine Ev.run 6 (pc' := (if nI dp < nI 20 then 21 else 19)) (lv' := [(6, .int (nI 6)), (0, .ref 132), (1, .int (nI 6)), (2, .ref (60 + 2 * i)), (3, .int (nI 0)), (4, .int (x)), (5, .int (nI dp))]) (st' := []) (h' := HN g hl (RF rt)) rfl ?_
  refine Ev.ite (fun hc16 => ?_) (fun hc16 => ?_)
  · have hc16 : dp < 20 := (nI_ltI (by omega) (by omega)).mp hc16
    refine Ev.run 6 (pc' := 30) (lv' := [(6, .int (nI 6)), (0, .ref 132), (1, .int (nI 6)), (2, .ref (60 + 2 * i)), (3, .int (nI 0)), (4, .int (x)), (5, .int (nI dp))]) (st' := [.int (nI 18), .retAddr 2]) (h' := HN g hl (RF rt)) rfl ?_
    refine Ev_xald rfl (by decide) (show 18 < 21 by omega) (show 21 < 2 ^ 31 by decide) ?_
    refine Ev.topI (show xVal xs 2 18 = nI 71 from rfl) ?_
    refine Ev.run 4 (pc' := 39) (lv' := [(7, .int (nI 71)), (6, .int (nI 6)), (0, .ref 132), (1, .int (nI 6)), (2, .ref (60 + 2 * i)), (3, .int (nI 0)), (4, .int (x)), (5, .int (nI dp))]) (st' := [.int (nI 71), .ref 133]) (h' := HN g hl (RF rt)) rfl ?_
    refine Ev.call (a := 43) (as := [.ref 133, .int (nI 71)]) (rest := []) (lv0 := [(0, .ref 133), (1, .int (nI 71))]) (Q1 := (fun z0 h' => z0 = none ∧ h' = HN (ptLn g 133 20 71) hl (RF rt))) rfl rfl (K_put _ g _ _ 133 20 (ln133 rt) 71 (by omega) ⟨rfl, rfl⟩) (fun r h' hr => ?_)
    obtain ⟨rfl, rfl⟩ := hr
    refine Ev.run 5 (pc' := 49) (lv' := [(7, .int (nI 71)), (6, .int (nI 6)), (0, .ref 132), (1, .int (nI 6)), (2, .ref (60 + 2 * i)), (3, .int (nI 0)), (4, .int (x)), (5, .int (nI dp))]) (st' := [.int (nI ((ptLn g 133 20 71) 132 1) + nI 1), .ref 132]) (h' := HN (ptLn g 133 20 71) hl (RF rt)) rfl ?_
    refine Ev.topI (nI_add _ _) ?_
    refine Ev.run 1 (pc' := 52) (lv' := [(7, .int (nI 71)), (6, .int (nI 6)), (0, .ref 132), (1, .int (nI 6)), (2, .ref (60 + 2 * i)), (3, .int (nI 0)), (4, .int (x)), (5, .int (nI dp))]) (st' := []) (h' := setI (HN (ptLn g 133 20 71) hl (RF rt)) 132 1 (nI (((ptLn g 133 20 71) 132 1) + 1))) rfl ?_
    refine Ev.hp (HN_set _ _ _ _ _ _) ?_
    refine Ev.hp (congrArg (fun z => HN z hl (RF rt)) (show u2 (ptLn g 133 20 71) 132 1 ((ptLn g 133 20 71) 132 1 + 1) = bdC g [71] by rw [show ptLn g 133 20 71 132 1 = g 132 1 from by unfold ptLn; split; rw [u2_ne _ (Or.inl (by decide)), u2_ne _ (Or.inl (by decide))]; rfl]; exact bdC_1 h133 71)) ?_
    refine Ev.run 1 (pc' := 53) (lv' := [(7, .int (nI 71)), (6, .int (nI 6)), (0, .ref 132), (1, .int (nI 6)), (2, .ref (60 + 2 * i)), (3, .int (nI 0)), (4, .int (x)), (5, .int (nI dp))]) (st' := [.ref (60 + 2 * i)]) (h' := HN (bdC g [71]) hl (RF rt)) rfl ?_
    refine Ev_gfI rfl rfl rfl (kcP (show i < 5 by omega)) ?_
    refine Ev.topI (congrArg nI (((bdC_ne _ _ (by omega) _).trans hK))) ?_
    refine Ev.run 3 (pc' := 63) (lv' := [(8, .int (nI 6)), (7, .int (nI 71)), (6, .int (nI 6)), (0, .ref 132), (1, .int (nI 6)), (2, .ref (60 + 2 * i)), (3, .int (nI 0)), (4, .int (x)), (5, .int (nI dp))]) (st' := [.int (nI 6), .retAddr 1]) (h' := HN (bdC g [71]) hl (RF rt)) rfl ?_
    refine Ev_xald rfl (by decide) (show 6 < 7 by omega) (show 7 < 2 ^ 31 by decide) ?_
    refine Ev.topI (show xVal xs 1 6 = nI 3 from rfl) ?_
    refine Ev.run 4 (pc' := 70) (lv' := [(9, .int (nI 3)), (8, .int (nI 6)), (7, .int (nI 71)), (6, .int (nI 6)), (0, .ref 132), (1, .int (nI 6)), (2, .ref (60 + 2 * i)), (3, .int (nI 0)), (4, .int (x)), (5, .int (nI dp))]) (st' := [.int (nI dp + nI 1)]) (h' := HN (bdC g [71]) hl (RF rt)) rfl ?_
    refine Ev.topI (nI_add _ _) ?_
    refine Ev.run 9 (pc' := 350) (lv' := [(10, .int (nI (dp + 1))), (9, .int (nI 3)), (8, .int (nI 6)), (7, .int (nI 71)), (6, .int (nI 6)), (0, .ref 132), (1, .int (nI 6)), (2, .ref (60 + 2 * i)), (3, .int (nI 0)), (4, .int (x)), (5, .int (nI dp))]) (st' := [.int (nI (dp + 1)), .int (x), .int (nI 0), .ref (60 + 2 * i), .int (nI 3), .ref 132]) (h' := HN (bdC g [71]) hl (RF rt)) rfl ?_
    refine Ev.call (a := 4) (as := [.ref 132, .int (nI 3), .ref (60 + 2 * i), .int (nI 0), .int (x), .int (nI (dp + 1))]) (rest := []) (lv0 := [(0, .ref 132), (1, .int (nI 3)), (2, .ref (60 + 2 * i)), (3, .int (nI 0)), (4, .int (x)), (5, .int (nI (dp + 1)))]) (Q1 := (fun z0 h' => z0 = some (.int (x + nI i)) ∧ h' = HN (bdC g [71, 10]) hl (RF rt))) rfl rfl (K_rf6_3_0 _ (bdC g [71]) _ _ (x) i v (dp + 1) hi hv (by rw [bdC_s]; split <;> omega) (by rw [bdC_ne _ _ (by omega)]; exact hN) (by rw [bdC_ne _ _ (by omega)]; exact hK) (by rw [bdC_ne _ _ (by omega)]; exact hv3) (by omega) ⟨rfl, congrArg (fun z => HN z hl (RF rt)) (bdC_c h133 _ _)⟩) (fun r h' hr => ?_)
    obtain ⟨rfl, rfl⟩ := hr
    refine Ev.run 1 (pc' := 354) (lv' := [(10, .int (nI (dp + 1))), (9, .int (nI 3)), (8, .int (nI 6)), (7, .int (nI 71)), (6, .int (nI 6)), (0, .ref 132), (1, .int (nI 6)), (2, .ref (60 + 2 * i)), (3, .int (nI 0)), (4, .int (x)), (5, .int (nI dp))]) (st' := [.ref (60 + 2 * i), .int (x + nI i)]) (h' := HN (bdC g [71, 10]) hl (RF rt)) rfl ?_
    refine Ev_gfI rfl rfl rfl (kcP (show i < 5 by omega)) ?_
    refine Ev.topI (congrArg nI (((bdC_ne _ _ (by omega) _).trans hv3))) ?_
    refine Ev.run 1 (pc' := 358) (lv' := [(10, .int (nI (dp + 1))), (9, .int (nI 3)), (8, .int (nI 6)), (7, .int (nI 71)), (6, .int (nI 6)), (0, .ref 132), (1, .int (nI 6)), (2, .ref (60 + 2 * i)), (3, .int (nI 0)), (4, .int (x)), (5, .int (nI dp))]) (st' := [.int ((x + nI i) ^^^ nI v)]) (h' := HN (bdC g [71, 10]) hl (RF rt)) rfl ?_
    refine Ev.ret (v := some (.int ((x + nI i) ^^^ nI v))) rfl ?_
    first | exact hq | (exfalso; omega)
  · have hc16 : ¬ (dp < 20) := fun z => hc16 ((nI_ltI (by omega) (by omega)).mpr z)
    refine Ev.run 1 (pc' := 20) (lv' := [(6, .int (nI 6)), (0, .ref 132), (1, .int (nI 6)), (2, .ref (60 + 2 * i)), (3, .int (nI 0)), (4, .int (x)), (5, .int (nI dp))]) (st' := [.int (nI 0)]) (h' := HN g hl (RF rt)) rfl ?_
    refine Ev.ret (v := some (.int (nI 0))) rfl ?_
    first | exact hq | (exfalso; omega)
theorem K_rf6_3_1 {L : Nat} {xs : Nat → Int32} (d : Nat) (g : Nat → Nat → Nat) (hl : Nat → Nat → Int64) (rt : Nat × Nat × Nat × Nat) (x : Int32) (i v dp : Nat) (hi : i < 5) (hv : v < 2 ^ 31) (h133 : g 133 1 ≤ 20) (hN : g (60 + 2 * i) 1 = i) (hK : g (60 + 2 * i) 2 = 6) (hv3 : g (60 + 2 * i) 3 = v) (hdp : dp ≤ 16) {Q : Po} (hq : Q (some (.int (((x + nI i) ^^^ nI v) - nI v))) (HN (bdC g [11, 71, 10]) hl (RF rt))) : Ev L xs (d + 5) 4 0 [(0, .ref 132), (1, .int (nI 3)), (2, .ref (60 + 2 * i)), (3, .int (nI 1)), (4, .int (x)), (5, .int (nI dp))] [] (HN g hl (RF rt)) Q := by
  refine Ev.run 2 (pc' := 2) (lv' := [(0, .ref 132), (1, .int (nI 3)), (2, .ref (60 + 2 * i)), (3, .int (nI 1)), (4, .int (x)), (5, .int (nI dp))]) (st' := [.int (nI 1), .int (nI 3)]) (h' := HN g hl (RF rt)) rfl ?_
  refine Ev.call (a := 5) (as := [.int (nI 3), .int (nI 1)]) (rest := []) (lv0 := [(0, .int (nI 3)), (1, .int (nI 1))]) (Q1 := (fun z0 h' => z0 = some (.int (nI 0)) ∧ h' = HN g hl (RF rt))) rfl rfl (K_own31 _ _ _ _ ⟨rfl, rfl⟩) (fun r h' hr => ?_)
  obtain ⟨rfl, rfl⟩ := hr
  refine Ev.run 6 (pc' := (if nI dp < nI 20 then 21 else 19)) (lv' := [(6, .int (nI 0)), (0, .ref 132), (1, .int (nI 3)), (2, .ref (60 + 2 * i)), (3, .int (nI 1)), (4, .int (x)), (5, .int (nI dp))]) (st' := []) (h' := HN g hl (RF rt)) rfl ?_
  refine Ev.ite (fun hc16 => ?_) (fun hc16 => ?_)
  · have hc16 : dp < 20 := (nI_ltI (by omega) (by omega)).mp hc16
    refine Ev.run 6 (pc' := 30) (lv' := [(6, .int (nI 0)), (0, .ref 132), (1, .int (nI 3)), (2, .ref (60 + 2 * i)), (3, .int (nI 1)), (4, .int (x)), (5, .int (nI dp))]) (st' := [.int (nI 1), .retAddr 2]) (h' := HN g hl (RF rt)) rfl ?_
    refine Ev_xald rfl (by decide) (show 1 < 21 by omega) (show 21 < 2 ^ 31 by decide) ?_
    refine Ev.topI (show xVal xs 2 1 = nI 11 from rfl) ?_
    refine Ev.run 4 (pc' := 39) (lv' := [(7, .int (nI 11)), (6, .int (nI 0)), (0, .ref 132), (1, .int (nI 3)), (2, .ref (60 + 2 * i)), (3, .int (nI 1)), (4, .int (x)), (5, .int (nI dp))]) (st' := [.int (nI 11), .ref 133]) (h' := HN g hl (RF rt)) rfl ?_
    refine Ev.call (a := 43) (as := [.ref 133, .int (nI 11)]) (rest := []) (lv0 := [(0, .ref 133), (1, .int (nI 11))]) (Q1 := (fun z0 h' => z0 = none ∧ h' = HN (ptLn g 133 20 11) hl (RF rt))) rfl rfl (K_put _ g _ _ 133 20 (ln133 rt) 11 (by omega) ⟨rfl, rfl⟩) (fun r h' hr => ?_)
    obtain ⟨rfl, rfl⟩ := hr
    refine Ev.run 5 (pc' := 49) (lv' := [(7, .int (nI 11)), (6, .int (nI 0)), (0, .ref 132), (1, .int (nI 3)), (2, .ref (60 + 2 * i)), (3, .int (nI 1)), (4, .int (x)), (5, .int (nI dp))]) (st' := [.int (nI ((ptLn g 133 20 11) 132 1) + nI 1), .ref 132]) (h' := HN (ptLn g 133 20 11) hl (RF rt)) rfl ?_
    refine Ev.topI (nI_add _ _) ?_
    refine Ev.run 1 (pc' := 52) (lv' := [(7, .int (nI 11)), (6, .int (nI 0)), (0, .ref 132), (1, .int (nI 3)), (2, .ref (60 + 2 * i)), (3, .int (nI 1)), (4, .int (x)), (5, .int (nI dp))]) (st' := []) (h' := setI (HN (ptLn g 133 20 11) hl (RF rt)) 132 1 (nI (((ptLn g 133 20 11) 132 1) + 1))) rfl ?_
    refine Ev.hp (HN_set _ _ _ _ _ _) ?_
    refine Ev.hp (congrArg (fun z => HN z hl (RF rt)) (show u2 (ptLn g 133 20 11) 132 1 ((ptLn g 133 20 11) 132 1 + 1) = bdC g [11] by rw [show ptLn g 133 20 11 132 1 = g 132 1 from by unfold ptLn; split; rw [u2_ne _ (Or.inl (by decide)), u2_ne _ (Or.inl (by decide))]; rfl]; exact bdC_1 h133 11)) ?_
    refine Ev.run 1 (pc' := 53) (lv' := [(7, .int (nI 11)), (6, .int (nI 0)), (0, .ref 132), (1, .int (nI 3)), (2, .ref (60 + 2 * i)), (3, .int (nI 1)), (4, .int (x)), (5, .int (nI dp))]) (st' := [.ref (60 + 2 * i)]) (h' := HN (bdC g [11]) hl (RF rt)) rfl ?_
    refine Ev_gfI rfl rfl rfl (kcP (show i < 5 by omega)) ?_
    refine Ev.topI (congrArg nI (((bdC_ne _ _ (by omega) _).trans hK))) ?_
    refine Ev.run 3 (pc' := 63) (lv' := [(8, .int (nI 6)), (7, .int (nI 11)), (6, .int (nI 0)), (0, .ref 132), (1, .int (nI 3)), (2, .ref (60 + 2 * i)), (3, .int (nI 1)), (4, .int (x)), (5, .int (nI dp))]) (st' := [.int (nI 0), .retAddr 1]) (h' := HN (bdC g [11]) hl (RF rt)) rfl ?_
    refine Ev_xald rfl (by decide) (show 0 < 7 by omega) (show 7 < 2 ^ 31 by decide) ?_
    refine Ev.topI (show xVal xs 1 0 = nI 4294967295 from rfl) ?_
    refine Ev.run 4 (pc' := 70) (lv' := [(9, .int (nI 4294967295)), (8, .int (nI 6)), (7, .int (nI 11)), (6, .int (nI 0)), (0, .ref 132), (1, .int (nI 3)), (2, .ref (60 + 2 * i)), (3, .int (nI 1)), (4, .int (x)), (5, .int (nI dp))]) (st' := [.int (nI dp + nI 1)]) (h' := HN (bdC g [11]) hl (RF rt)) rfl ?_
    refine Ev.topI (nI_add _ _) ?_
    refine Ev.run 9 (pc' := 189) (lv' := [(10, .int (nI (dp + 1))), (9, .int (nI 4294967295)), (8, .int (nI 6)), (7, .int (nI 11)), (6, .int (nI 0)), (0, .ref 132), (1, .int (nI 3)), (2, .ref (60 + 2 * i)), (3, .int (nI 1)), (4, .int (x)), (5, .int (nI dp))]) (st' := [.int (nI (dp + 1)), .int (x), .int (nI 0), .ref (60 + 2 * i), .int (nI 6), .ref 132]) (h' := HN (bdC g [11]) hl (RF rt)) rfl ?_
    refine Ev.call (a := 4) (as := [.ref 132, .int (nI 6), .ref (60 + 2 * i), .int (nI 0), .int (x), .int (nI (dp + 1))]) (rest := []) (lv0 := [(0, .ref 132), (1, .int (nI 6)), (2, .ref (60 + 2 * i)), (3, .int (nI 0)), (4, .int (x)), (5, .int (nI (dp + 1)))]) (Q1 := (fun z0 h' => z0 = some (.int ((x + nI i) ^^^ nI v)) ∧ h' = HN (bdC g [11, 71, 10]) hl (RF rt))) rfl rfl (K_rf6_6_0 _ (bdC g [11]) _ _ (x) i v (dp + 1) hi hv (by rw [bdC_s]; split <;> omega) (by rw [bdC_ne _ _ (by omega)]; exact hN) (by rw [bdC_ne _ _ (by omega)]; exact hK) (by rw [bdC_ne _ _ (by omega)]; exact hv3) (by omega) ⟨rfl, congrArg (fun z => HN z hl (RF rt)) (bdC_c h133 _ _)⟩) (fun r h' hr => ?_)
    obtain ⟨rfl, rfl⟩ := hr
    refine Ev.run 1 (pc' := 193) (lv' := [(10, .int (nI (dp + 1))), (9, .int (nI 4294967295)), (8, .int (nI 6)), (7, .int (nI 11)), (6, .int (nI 0)), (0, .ref 132), (1, .int (nI 3)), (2, .ref (60 + 2 * i)), (3, .int (nI 1)), (4, .int (x)), (5, .int (nI dp))]) (st' := [.ref (60 + 2 * i), .int ((x + nI i) ^^^ nI v)]) (h' := HN (bdC g [11, 71, 10]) hl (RF rt)) rfl ?_
    refine Ev_gfI rfl rfl rfl (kcP (show i < 5 by omega)) ?_
    refine Ev.topI (congrArg nI (((bdC_ne _ _ (by omega) _).trans hv3))) ?_
    refine Ev.run 1 (pc' := 197) (lv' := [(10, .int (nI (dp + 1))), (9, .int (nI 4294967295)), (8, .int (nI 6)), (7, .int (nI 11)), (6, .int (nI 0)), (0, .ref 132), (1, .int (nI 3)), (2, .ref (60 + 2 * i)), (3, .int (nI 1)), (4, .int (x)), (5, .int (nI dp))]) (st' := [.int (((x + nI i) ^^^ nI v) - nI v)]) (h' := HN (bdC g [11, 71, 10]) hl (RF rt)) rfl ?_
    refine Ev.ret (v := some (.int (((x + nI i) ^^^ nI v) - nI v))) rfl ?_
    first | exact hq | (exfalso; omega)
  · have hc16 : ¬ (dp < 20) := fun z => hc16 ((nI_ltI (by omega) (by omega)).mpr z)
    refine Ev.run 1 (pc' := 20) (lv' := [(6, .int (nI 0)), (0, .ref 132), (1, .int (nI 3)), (2, .ref (60 + 2 * i)), (3, .int (nI 1)), (4, .int (x)), (5, .int (nI dp))]) (st' := [.int (nI 0)]) (h' := HN g hl (RF rt)) rfl ?_
    refine Ev.ret (v := some (.int (nI 0))) rfl ?_
    first | exact hq | (exfalso; omega)
theorem K_rf6_6_1 {L : Nat} {xs : Nat → Int32} (d : Nat) (g : Nat → Nat → Nat) (hl : Nat → Nat → Int64) (rt : Nat × Nat × Nat × Nat) (x : Int32) (i v dp : Nat) (hi : i < 5) (hv : v < 2 ^ 31) (h133 : g 133 1 ≤ 20) (hN : g (60 + 2 * i) 1 = i) (hK : g (60 + 2 * i) 2 = 6) (hv3 : g (60 + 2 * i) 3 = v) (hdp : dp ≤ 15) {Q : Po} (hq : Q (some (.int ((((x + nI i) ^^^ nI v) - nI v) + ((nI 2) + nI i)))) (HN (bdC g [70, 11, 71, 10, 10]) hl (RF rt))) : Ev L xs (d + 6) 4 0 [(0, .ref 132), (1, .int (nI 6)), (2, .ref (60 + 2 * i)), (3, .int (nI 1)), (4, .int (x)), (5, .int (nI dp))] [] (HN g hl (RF rt)) Q := by
  refine Ev.run 2 (pc' := 2) (lv' := [(0, .ref 132), (1, .int (nI 6)), (2, .ref (60 + 2 * i)), (3, .int (nI 1)), (4, .int (x)), (5, .int (nI dp))]) (st' := [.int (nI 1), .int (nI 6)]) (h' := HN g hl (RF rt)) rfl ?_
  refine Ev.call (a := 5) (as := [.int (nI 6), .int (nI 1)]) (rest := []) (lv0 := [(0, .int (nI 6)), (1, .int (nI 1))]) (Q1 := (fun z0 h' => z0 = some (.int (nI 6)) ∧ h' = HN g hl (RF rt))) rfl rfl (K_own61 _ _ _ _ ⟨rfl, rfl⟩) (fun r h' hr => ?_)
  obtain ⟨rfl, rfl⟩ := hr
  refine Ev.run 6 (pc' := (if nI dp < nI 20 then 21 else 19)) (lv' := [(6, .int (nI 6)), (0, .ref 132), (1, .int (nI 6)), (2, .ref (60 + 2 * i)), (3, .int (nI 1)), (4, .int (x)), (5, .int (nI dp))]) (st' := []) (h' := HN g hl (RF rt)) rfl ?_
  refine Ev.ite (fun hc16 => ?_) (fun hc16 => ?_)
  · have hc16 : dp < 20 := (nI_ltI (by omega) (by omega)).mp hc16
    refine Ev.run 6 (pc' := 30) (lv' := [(6, .int (nI 6)), (0, .ref 132), (1, .int (nI 6)), (2, .ref (60 + 2 * i)), (3, .int (nI 1)), (4, .int (x)), (5, .int (nI dp))]) (st' := [.int (nI 19), .retAddr 2]) (h' := HN g hl (RF rt)) rfl ?_
    refine Ev_xald rfl (by decide) (show 19 < 21 by omega) (show 21 < 2 ^ 31 by decide) ?_
    refine Ev.topI (show xVal xs 2 19 = nI 70 from rfl) ?_
    refine Ev.run 4 (pc' := 39) (lv' := [(7, .int (nI 70)), (6, .int (nI 6)), (0, .ref 132), (1, .int (nI 6)), (2, .ref (60 + 2 * i)), (3, .int (nI 1)), (4, .int (x)), (5, .int (nI dp))]) (st' := [.int (nI 70), .ref 133]) (h' := HN g hl (RF rt)) rfl ?_
    refine Ev.call (a := 43) (as := [.ref 133, .int (nI 70)]) (rest := []) (lv0 := [(0, .ref 133), (1, .int (nI 70))]) (Q1 := (fun z0 h' => z0 = none ∧ h' = HN (ptLn g 133 20 70) hl (RF rt))) rfl rfl (K_put _ g _ _ 133 20 (ln133 rt) 70 (by omega) ⟨rfl, rfl⟩) (fun r h' hr => ?_)
    obtain ⟨rfl, rfl⟩ := hr
    refine Ev.run 5 (pc' := 49) (lv' := [(7, .int (nI 70)), (6, .int (nI 6)), (0, .ref 132), (1, .int (nI 6)), (2, .ref (60 + 2 * i)), (3, .int (nI 1)), (4, .int (x)), (5, .int (nI dp))]) (st' := [.int (nI ((ptLn g 133 20 70) 132 1) + nI 1), .ref 132]) (h' := HN (ptLn g 133 20 70) hl (RF rt)) rfl ?_
    refine Ev.topI (nI_add _ _) ?_
    refine Ev.run 1 (pc' := 52) (lv' := [(7, .int (nI 70)), (6, .int (nI 6)), (0, .ref 132), (1, .int (nI 6)), (2, .ref (60 + 2 * i)), (3, .int (nI 1)), (4, .int (x)), (5, .int (nI dp))]) (st' := []) (h' := setI (HN (ptLn g 133 20 70) hl (RF rt)) 132 1 (nI (((ptLn g 133 20 70) 132 1) + 1))) rfl ?_
    refine Ev.hp (HN_set _ _ _ _ _ _) ?_
    refine Ev.hp (congrArg (fun z => HN z hl (RF rt)) (show u2 (ptLn g 133 20 70) 132 1 ((ptLn g 133 20 70) 132 1 + 1) = bdC g [70] by rw [show ptLn g 133 20 70 132 1 = g 132 1 from by unfold ptLn; split; rw [u2_ne _ (Or.inl (by decide)), u2_ne _ (Or.inl (by decide))]; rfl]; exact bdC_1 h133 70)) ?_
    refine Ev.run 1 (pc' := 53) (lv' := [(7, .int (nI 70)), (6, .int (nI 6)), (0, .ref 132), (1, .int (nI 6)), (2, .ref (60 + 2 * i)), (3, .int (nI 1)), (4, .int (x)), (5, .int (nI dp))]) (st' := [.ref (60 + 2 * i)]) (h' := HN (bdC g [70]) hl (RF rt)) rfl ?_
    refine Ev_gfI rfl rfl rfl (kcP (show i < 5 by omega)) ?_
    refine Ev.topI (congrArg nI (((bdC_ne _ _ (by omega) _).trans hK))) ?_
    refine Ev.run 3 (pc' := 63) (lv' := [(8, .int (nI 6)), (7, .int (nI 70)), (6, .int (nI 6)), (0, .ref 132), (1, .int (nI 6)), (2, .ref (60 + 2 * i)), (3, .int (nI 1)), (4, .int (x)), (5, .int (nI dp))]) (st' := [.int (nI 6), .retAddr 1]) (h' := HN (bdC g [70]) hl (RF rt)) rfl ?_
    refine Ev_xald rfl (by decide) (show 6 < 7 by omega) (show 7 < 2 ^ 31 by decide) ?_
    refine Ev.topI (show xVal xs 1 6 = nI 3 from rfl) ?_
    refine Ev.run 4 (pc' := 70) (lv' := [(9, .int (nI 3)), (8, .int (nI 6)), (7, .int (nI 70)), (6, .int (nI 6)), (0, .ref 132), (1, .int (nI 6)), (2, .ref (60 + 2 * i)), (3, .int (nI 1)), (4, .int (x)), (5, .int (nI dp))]) (st' := [.int (nI dp + nI 1)]) (h' := HN (bdC g [70]) hl (RF rt)) rfl ?_
    refine Ev.topI (nI_add _ _) ?_
    refine Ev.run 9 (pc' := 325) (lv' := [(10, .int (nI (dp + 1))), (9, .int (nI 3)), (8, .int (nI 6)), (7, .int (nI 70)), (6, .int (nI 6)), (0, .ref 132), (1, .int (nI 6)), (2, .ref (60 + 2 * i)), (3, .int (nI 1)), (4, .int (x)), (5, .int (nI dp))]) (st' := [.int (nI (dp + 1)), .int (x), .int (nI 1), .ref (60 + 2 * i), .int (nI 3), .ref 132]) (h' := HN (bdC g [70]) hl (RF rt)) rfl ?_
    refine Ev.call (a := 4) (as := [.ref 132, .int (nI 3), .ref (60 + 2 * i), .int (nI 1), .int (x), .int (nI (dp + 1))]) (rest := []) (lv0 := [(0, .ref 132), (1, .int (nI 3)), (2, .ref (60 + 2 * i)), (3, .int (nI 1)), (4, .int (x)), (5, .int (nI (dp + 1)))]) (Q1 := (fun z0 h' => z0 = some (.int (((x + nI i) ^^^ nI v) - nI v)) ∧ h' = HN (bdC g [70, 11, 71, 10]) hl (RF rt))) rfl rfl (K_rf6_3_1 _ (bdC g [70]) _ _ (x) i v (dp + 1) hi hv (by rw [bdC_s]; split <;> omega) (by rw [bdC_ne _ _ (by omega)]; exact hN) (by rw [bdC_ne _ _ (by omega)]; exact hK) (by rw [bdC_ne _ _ (by omega)]; exact hv3) (by omega) ⟨rfl, congrArg (fun z => HN z hl (RF rt)) (bdC_c h133 _ _)⟩) (fun r h' hr => ?_)
    obtain ⟨rfl, rfl⟩ := hr
    refine Ev.run 6 (pc' := 336) (lv' := [(10, .int (nI (dp + 1))), (9, .int (nI 3)), (8, .int (nI 6)), (7, .int (nI 70)), (6, .int (nI 6)), (0, .ref 132), (1, .int (nI 6)), (2, .ref (60 + 2 * i)), (3, .int (nI 1)), (4, .int (x)), (5, .int (nI dp))]) (st' := [.int (nI (dp + 1)), .int (nI 2), .int (nI 0), .ref (60 + 2 * i), .int (nI 3), .ref 132, .int (((x + nI i) ^^^ nI v) - nI v)]) (h' := HN (bdC g [70, 11, 71, 10]) hl (RF rt)) rfl ?_
    refine Ev.call (a := 4) (as := [.ref 132, .int (nI 3), .ref (60 + 2 * i), .int (nI 0), .int (nI 2), .int (nI (dp + 1))]) (rest := [.int (((x + nI i) ^^^ nI v) - nI v)]) (lv0 := [(0, .ref 132), (1, .int (nI 3)), (2, .ref (60 + 2 * i)), (3, .int (nI 0)), (4, .int (nI 2)), (5, .int (nI (dp + 1)))]) (Q1 := (fun z0 h' => z0 = some (.int ((nI 2) + nI i)) ∧ h' = HN (bdC g [70, 11, 71, 10, 10]) hl (RF rt))) rfl rfl (K_rf6_3_0 _ (bdC g [70, 11, 71, 10]) _ _ (nI 2) i v (dp + 1) hi hv (by rw [bdC_s]; split <;> omega) (by rw [bdC_ne _ _ (by omega)]; exact hN) (by rw [bdC_ne _ _ (by omega)]; exact hK) (by rw [bdC_ne _ _ (by omega)]; exact hv3) (by omega) ⟨rfl, congrArg (fun z => HN z hl (RF rt)) (bdC_c h133 _ _)⟩) (fun r h' hr => ?_)
    obtain ⟨rfl, rfl⟩ := hr
    refine Ev.run 1 (pc' := 340) (lv' := [(10, .int (nI (dp + 1))), (9, .int (nI 3)), (8, .int (nI 6)), (7, .int (nI 70)), (6, .int (nI 6)), (0, .ref 132), (1, .int (nI 6)), (2, .ref (60 + 2 * i)), (3, .int (nI 1)), (4, .int (x)), (5, .int (nI dp))]) (st' := [.int ((((x + nI i) ^^^ nI v) - nI v) + ((nI 2) + nI i))]) (h' := HN (bdC g [70, 11, 71, 10, 10]) hl (RF rt)) rfl ?_
    refine Ev.ret (v := some (.int ((((x + nI i) ^^^ nI v) - nI v) + ((nI 2) + nI i)))) rfl ?_
    first | exact hq | (exfalso; omega)
  · have hc16 : ¬ (dp < 20) := fun z => hc16 ((nI_ltI (by omega) (by omega)).mpr z)
    refine Ev.run 1 (pc' := 20) (lv' := [(6, .int (nI 6)), (0, .ref 132), (1, .int (nI 6)), (2, .ref (60 + 2 * i)), (3, .int (nI 1)), (4, .int (x)), (5, .int (nI dp))]) (st' := [.int (nI 0)]) (h' := HN g hl (RF rt)) rfl ?_
    refine Ev.ret (v := some (.int (nI 0))) rfl ?_
    first | exact hq | (exfalso; omega)
theorem K_rf6_0_2 {L : Nat} {xs : Nat → Int32} (d : Nat) (g : Nat → Nat → Nat) (hl : Nat → Nat → Int64) (rt : Nat × Nat × Nat × Nat) (x : Int32) (i v dp : Nat) (hi : i < 5) (hv : v < 2 ^ 31) (h133 : g 133 1 ≤ 20) (hN : g (60 + 2 * i) 1 = i) (hK : g (60 + 2 * i) 2 = 6) (hv3 : g (60 + 2 * i) 3 = v) (hdp : dp ≤ 14) {Q : Po} (hq : Q (some (.int (((((x + nI i) ^^^ nI v) - nI v) + ((nI 2) + nI i)) * nI 2))) (HN (bdC g [12, 70, 11, 71, 10, 10]) hl (RF rt))) : Ev L xs (d + 7) 4 0 [(0, .ref 132), (1, .int (nI 0)), (2, .ref (60 + 2 * i)), (3, .int (nI 2)), (4, .int (x)), (5, .int (nI dp))] [] (HN g hl (RF rt)) Q := by
  refine Ev.run 2 (pc' := 2) (lv' := [(0, .ref 132), (1, .int (nI 0)), (2, .ref (60 + 2 * i)), (3, .int (nI 2)), (4, .int (x)), (5, .int (nI dp))]) (st' := [.int (nI 2), .int (nI 0)]) (h' := HN g hl (RF rt)) rfl ?_
  refine Ev.call (a := 5) (as := [.int (nI 0), .int (nI 2)]) (rest := []) (lv0 := [(0, .int (nI 0)), (1, .int (nI 2))]) (Q1 := (fun z0 h' => z0 = some (.int (nI 0)) ∧ h' = HN g hl (RF rt))) rfl rfl (K_own02 _ _ _ _ ⟨rfl, rfl⟩) (fun r h' hr => ?_)
  obtain ⟨rfl, rfl⟩ := hr
  refine Ev.run 6 (pc' := (if nI dp < nI 20 then 21 else 19)) (lv' := [(6, .int (nI 0)), (0, .ref 132), (1, .int (nI 0)), (2, .ref (60 + 2 * i)), (3, .int (nI 2)), (4, .int (x)), (5, .int (nI dp))]) (st' := []) (h' := HN g hl (RF rt)) rfl ?_
  refine Ev.ite (fun hc16 => ?_) (fun hc16 => ?_)
  · have hc16 : dp < 20 := (nI_ltI (by omega) (by omega)).mp hc16
    refine Ev.run 6 (pc' := 30) (lv' := [(6, .int (nI 0)), (0, .ref 132), (1, .int (nI 0)), (2, .ref (60 + 2 * i)), (3, .int (nI 2)), (4, .int (x)), (5, .int (nI dp))]) (st' := [.int (nI 2), .retAddr 2]) (h' := HN g hl (RF rt)) rfl ?_
    refine Ev_xald rfl (by decide) (show 2 < 21 by omega) (show 21 < 2 ^ 31 by decide) ?_
    refine Ev.topI (show xVal xs 2 2 = nI 12 from rfl) ?_
    refine Ev.run 4 (pc' := 39) (lv' := [(7, .int (nI 12)), (6, .int (nI 0)), (0, .ref 132), (1, .int (nI 0)), (2, .ref (60 + 2 * i)), (3, .int (nI 2)), (4, .int (x)), (5, .int (nI dp))]) (st' := [.int (nI 12), .ref 133]) (h' := HN g hl (RF rt)) rfl ?_
    refine Ev.call (a := 43) (as := [.ref 133, .int (nI 12)]) (rest := []) (lv0 := [(0, .ref 133), (1, .int (nI 12))]) (Q1 := (fun z0 h' => z0 = none ∧ h' = HN (ptLn g 133 20 12) hl (RF rt))) rfl rfl (K_put _ g _ _ 133 20 (ln133 rt) 12 (by omega) ⟨rfl, rfl⟩) (fun r h' hr => ?_)
    obtain ⟨rfl, rfl⟩ := hr
    refine Ev.run 5 (pc' := 49) (lv' := [(7, .int (nI 12)), (6, .int (nI 0)), (0, .ref 132), (1, .int (nI 0)), (2, .ref (60 + 2 * i)), (3, .int (nI 2)), (4, .int (x)), (5, .int (nI dp))]) (st' := [.int (nI ((ptLn g 133 20 12) 132 1) + nI 1), .ref 132]) (h' := HN (ptLn g 133 20 12) hl (RF rt)) rfl ?_
    refine Ev.topI (nI_add _ _) ?_
    refine Ev.run 1 (pc' := 52) (lv' := [(7, .int (nI 12)), (6, .int (nI 0)), (0, .ref 132), (1, .int (nI 0)), (2, .ref (60 + 2 * i)), (3, .int (nI 2)), (4, .int (x)), (5, .int (nI dp))]) (st' := []) (h' := setI (HN (ptLn g 133 20 12) hl (RF rt)) 132 1 (nI (((ptLn g 133 20 12) 132 1) + 1))) rfl ?_
    refine Ev.hp (HN_set _ _ _ _ _ _) ?_
    refine Ev.hp (congrArg (fun z => HN z hl (RF rt)) (show u2 (ptLn g 133 20 12) 132 1 ((ptLn g 133 20 12) 132 1 + 1) = bdC g [12] by rw [show ptLn g 133 20 12 132 1 = g 132 1 from by unfold ptLn; split; rw [u2_ne _ (Or.inl (by decide)), u2_ne _ (Or.inl (by decide))]; rfl]; exact bdC_1 h133 12)) ?_
    refine Ev.run 1 (pc' := 53) (lv' := [(7, .int (nI 12)), (6, .int (nI 0)), (0, .ref 132), (1, .int (nI 0)), (2, .ref (60 + 2 * i)), (3, .int (nI 2)), (4, .int (x)), (5, .int (nI dp))]) (st' := [.ref (60 + 2 * i)]) (h' := HN (bdC g [12]) hl (RF rt)) rfl ?_
    refine Ev_gfI rfl rfl rfl (kcP (show i < 5 by omega)) ?_
    refine Ev.topI (congrArg nI (((bdC_ne _ _ (by omega) _).trans hK))) ?_
    refine Ev.run 3 (pc' := 63) (lv' := [(8, .int (nI 6)), (7, .int (nI 12)), (6, .int (nI 0)), (0, .ref 132), (1, .int (nI 0)), (2, .ref (60 + 2 * i)), (3, .int (nI 2)), (4, .int (x)), (5, .int (nI dp))]) (st' := [.int (nI 0), .retAddr 1]) (h' := HN (bdC g [12]) hl (RF rt)) rfl ?_
    refine Ev_xald rfl (by decide) (show 0 < 7 by omega) (show 7 < 2 ^ 31 by decide) ?_
    refine Ev.topI (show xVal xs 1 0 = nI 4294967295 from rfl) ?_
    refine Ev.run 4 (pc' := 70) (lv' := [(9, .int (nI 4294967295)), (8, .int (nI 6)), (7, .int (nI 12)), (6, .int (nI 0)), (0, .ref 132), (1, .int (nI 0)), (2, .ref (60 + 2 * i)), (3, .int (nI 2)), (4, .int (x)), (5, .int (nI dp))]) (st' := [.int (nI dp + nI 1)]) (h' := HN (bdC g [12]) hl (RF rt)) rfl ?_
    refine Ev.topI (nI_add _ _) ?_
    refine Ev.run 9 (pc' := 207) (lv' := [(10, .int (nI (dp + 1))), (9, .int (nI 4294967295)), (8, .int (nI 6)), (7, .int (nI 12)), (6, .int (nI 0)), (0, .ref 132), (1, .int (nI 0)), (2, .ref (60 + 2 * i)), (3, .int (nI 2)), (4, .int (x)), (5, .int (nI dp))]) (st' := [.int (nI (dp + 1)), .int (x), .int (nI 1), .ref (60 + 2 * i), .int (nI 6), .ref 132]) (h' := HN (bdC g [12]) hl (RF rt)) rfl ?_
    refine Ev.call (a := 4) (as := [.ref 132, .int (nI 6), .ref (60 + 2 * i), .int (nI 1), .int (x), .int (nI (dp + 1))]) (rest := []) (lv0 := [(0, .ref 132), (1, .int (nI 6)), (2, .ref (60 + 2 * i)), (3, .int (nI 1)), (4, .int (x)), (5, .int (nI (dp + 1)))]) (Q1 := (fun z0 h' => z0 = some (.int ((((x + nI i) ^^^ nI v) - nI v) + ((nI 2) + nI i))) ∧ h' = HN (bdC g [12, 70, 11, 71, 10, 10]) hl (RF rt))) rfl rfl (K_rf6_6_1 _ (bdC g [12]) _ _ (x) i v (dp + 1) hi hv (by rw [bdC_s]; split <;> omega) (by rw [bdC_ne _ _ (by omega)]; exact hN) (by rw [bdC_ne _ _ (by omega)]; exact hK) (by rw [bdC_ne _ _ (by omega)]; exact hv3) (by omega) ⟨rfl, congrArg (fun z => HN z hl (RF rt)) (bdC_c h133 _ _)⟩) (fun r h' hr => ?_)
    obtain ⟨rfl, rfl⟩ := hr
    refine Ev.run 2 (pc' := 212) (lv' := [(10, .int (nI (dp + 1))), (9, .int (nI 4294967295)), (8, .int (nI 6)), (7, .int (nI 12)), (6, .int (nI 0)), (0, .ref 132), (1, .int (nI 0)), (2, .ref (60 + 2 * i)), (3, .int (nI 2)), (4, .int (x)), (5, .int (nI dp))]) (st' := [.int (((((x + nI i) ^^^ nI v) - nI v) + ((nI 2) + nI i)) * nI 2)]) (h' := HN (bdC g [12, 70, 11, 71, 10, 10]) hl (RF rt)) rfl ?_
    refine Ev.ret (v := some (.int (((((x + nI i) ^^^ nI v) - nI v) + ((nI 2) + nI i)) * nI 2))) rfl ?_
    first | exact hq | (exfalso; omega)
  · have hc16 : ¬ (dp < 20) := fun z => hc16 ((nI_ltI (by omega) (by omega)).mpr z)
    refine Ev.run 1 (pc' := 20) (lv' := [(6, .int (nI 0)), (0, .ref 132), (1, .int (nI 0)), (2, .ref (60 + 2 * i)), (3, .int (nI 2)), (4, .int (x)), (5, .int (nI dp))]) (st' := [.int (nI 0)]) (h' := HN g hl (RF rt)) rfl ?_
    refine Ev.ret (v := some (.int (nI 0))) rfl ?_
    first | exact hq | (exfalso; omega)
theorem K_rf6_6_2 {L : Nat} {xs : Nat → Int32} (d : Nat) (g : Nat → Nat → Nat) (hl : Nat → Nat → Int64) (rt : Nat × Nat × Nat × Nat) (x : Int32) (i v dp : Nat) (hi : i < 5) (hv : v < 2 ^ 31) (h133 : g 133 1 ≤ 20) (hN : g (60 + 2 * i) 1 = i) (hK : g (60 + 2 * i) 2 = 6) (hv3 : g (60 + 2 * i) 3 = v) (hdp : dp ≤ 13) {Q : Po} (hq : Q (some (.int ((((((x + nI i) ^^^ nI v) - nI v) + ((nI 2) + nI i)) * nI 2) + (((((nI 1) + nI i) ^^^ nI v) - nI v) + ((nI 2) + nI i))))) (HN (bdC g [40, 12, 70, 11, 71, 10, 10, 70, 11, 71, 10, 10]) hl (RF rt))) : Ev L xs (d + 8) 4 0 [(0, .ref 132), (1, .int (nI 6)), (2, .ref (60 + 2 * i)), (3, .int (nI 2)), (4, .int (x)), (5, .int (nI dp))] [] (HN g hl (RF rt)) Q := by
  refine Ev.run 2 (pc' := 2) (lv' := [(0, .ref 132), (1, .int (nI 6)), (2, .ref (60 + 2 * i)), (3, .int (nI 2)), (4, .int (x)), (5, .int (nI dp))]) (st' := [.int (nI 2), .int (nI 6)]) (h' := HN g hl (RF rt)) rfl ?_
  refine Ev.call (a := 5) (as := [.int (nI 6), .int (nI 2)]) (rest := []) (lv0 := [(0, .int (nI 6)), (1, .int (nI 2))]) (Q1 := (fun z0 h' => z0 = some (.int (nI 3)) ∧ h' = HN g hl (RF rt))) rfl rfl (K_own62 _ _ _ _ ⟨rfl, rfl⟩) (fun r h' hr => ?_)
  obtain ⟨rfl, rfl⟩ := hr
  refine Ev.run 6 (pc' := (if nI dp < nI 20 then 21 else 19)) (lv' := [(6, .int (nI 3)), (0, .ref 132), (1, .int (nI 6)), (2, .ref (60 + 2 * i)), (3, .int (nI 2)), (4, .int (x)), (5, .int (nI dp))]) (st' := []) (h' := HN g hl (RF rt)) rfl ?_
  refine Ev.ite (fun hc16 => ?_) (fun hc16 => ?_)
  · have hc16 : dp < 20 := (nI_ltI (by omega) (by omega)).mp hc16
    refine Ev.run 6 (pc' := 30) (lv' := [(6, .int (nI 3)), (0, .ref 132), (1, .int (nI 6)), (2, .ref (60 + 2 * i)), (3, .int (nI 2)), (4, .int (x)), (5, .int (nI dp))]) (st' := [.int (nI 11), .retAddr 2]) (h' := HN g hl (RF rt)) rfl ?_
    refine Ev_xald rfl (by decide) (show 11 < 21 by omega) (show 21 < 2 ^ 31 by decide) ?_
    refine Ev.topI (show xVal xs 2 11 = nI 40 from rfl) ?_
    refine Ev.run 4 (pc' := 39) (lv' := [(7, .int (nI 40)), (6, .int (nI 3)), (0, .ref 132), (1, .int (nI 6)), (2, .ref (60 + 2 * i)), (3, .int (nI 2)), (4, .int (x)), (5, .int (nI dp))]) (st' := [.int (nI 40), .ref 133]) (h' := HN g hl (RF rt)) rfl ?_
    refine Ev.call (a := 43) (as := [.ref 133, .int (nI 40)]) (rest := []) (lv0 := [(0, .ref 133), (1, .int (nI 40))]) (Q1 := (fun z0 h' => z0 = none ∧ h' = HN (ptLn g 133 20 40) hl (RF rt))) rfl rfl (K_put _ g _ _ 133 20 (ln133 rt) 40 (by omega) ⟨rfl, rfl⟩) (fun r h' hr => ?_)
    obtain ⟨rfl, rfl⟩ := hr
    refine Ev.run 5 (pc' := 49) (lv' := [(7, .int (nI 40)), (6, .int (nI 3)), (0, .ref 132), (1, .int (nI 6)), (2, .ref (60 + 2 * i)), (3, .int (nI 2)), (4, .int (x)), (5, .int (nI dp))]) (st' := [.int (nI ((ptLn g 133 20 40) 132 1) + nI 1), .ref 132]) (h' := HN (ptLn g 133 20 40) hl (RF rt)) rfl ?_
    refine Ev.topI (nI_add _ _) ?_
    refine Ev.run 1 (pc' := 52) (lv' := [(7, .int (nI 40)), (6, .int (nI 3)), (0, .ref 132), (1, .int (nI 6)), (2, .ref (60 + 2 * i)), (3, .int (nI 2)), (4, .int (x)), (5, .int (nI dp))]) (st' := []) (h' := setI (HN (ptLn g 133 20 40) hl (RF rt)) 132 1 (nI (((ptLn g 133 20 40) 132 1) + 1))) rfl ?_
    refine Ev.hp (HN_set _ _ _ _ _ _) ?_
    refine Ev.hp (congrArg (fun z => HN z hl (RF rt)) (show u2 (ptLn g 133 20 40) 132 1 ((ptLn g 133 20 40) 132 1 + 1) = bdC g [40] by rw [show ptLn g 133 20 40 132 1 = g 132 1 from by unfold ptLn; split; rw [u2_ne _ (Or.inl (by decide)), u2_ne _ (Or.inl (by decide))]; rfl]; exact bdC_1 h133 40)) ?_
    refine Ev.run 1 (pc' := 53) (lv' := [(7, .int (nI 40)), (6, .int (nI 3)), (0, .ref 132), (1, .int (nI 6)), (2, .ref (60 + 2 * i)), (3, .int (nI 2)), (4, .int (x)), (5, .int (nI dp))]) (st' := [.ref (60 + 2 * i)]) (h' := HN (bdC g [40]) hl (RF rt)) rfl ?_
    refine Ev_gfI rfl rfl rfl (kcP (show i < 5 by omega)) ?_
    refine Ev.topI (congrArg nI (((bdC_ne _ _ (by omega) _).trans hK))) ?_
    refine Ev.run 3 (pc' := 63) (lv' := [(8, .int (nI 6)), (7, .int (nI 40)), (6, .int (nI 3)), (0, .ref 132), (1, .int (nI 6)), (2, .ref (60 + 2 * i)), (3, .int (nI 2)), (4, .int (x)), (5, .int (nI dp))]) (st' := [.int (nI 3), .retAddr 1]) (h' := HN (bdC g [40]) hl (RF rt)) rfl ?_
    refine Ev_xald rfl (by decide) (show 3 < 7 by omega) (show 7 < 2 ^ 31 by decide) ?_
    refine Ev.topI (show xVal xs 1 3 = nI 0 from rfl) ?_
    refine Ev.run 4 (pc' := 70) (lv' := [(9, .int (nI 0)), (8, .int (nI 6)), (7, .int (nI 40)), (6, .int (nI 3)), (0, .ref 132), (1, .int (nI 6)), (2, .ref (60 + 2 * i)), (3, .int (nI 2)), (4, .int (x)), (5, .int (nI dp))]) (st' := [.int (nI dp + nI 1)]) (h' := HN (bdC g [40]) hl (RF rt)) rfl ?_
    refine Ev.topI (nI_add _ _) ?_
    refine Ev.run 9 (pc' := 253) (lv' := [(10, .int (nI (dp + 1))), (9, .int (nI 0)), (8, .int (nI 6)), (7, .int (nI 40)), (6, .int (nI 3)), (0, .ref 132), (1, .int (nI 6)), (2, .ref (60 + 2 * i)), (3, .int (nI 2)), (4, .int (x)), (5, .int (nI dp))]) (st' := [.int (nI (dp + 1)), .int (x), .int (nI 2), .ref (60 + 2 * i), .int (nI 0), .ref 132]) (h' := HN (bdC g [40]) hl (RF rt)) rfl ?_
    refine Ev.call (a := 4) (as := [.ref 132, .int (nI 0), .ref (60 + 2 * i), .int (nI 2), .int (x), .int (nI (dp + 1))]) (rest := []) (lv0 := [(0, .ref 132), (1, .int (nI 0)), (2, .ref (60 + 2 * i)), (3, .int (nI 2)), (4, .int (x)), (5, .int (nI (dp + 1)))]) (Q1 := (fun z0 h' => z0 = some (.int (((((x + nI i) ^^^ nI v) - nI v) + ((nI 2) + nI i)) * nI 2)) ∧ h' = HN (bdC g [40, 12, 70, 11, 71, 10, 10]) hl (RF rt))) rfl rfl (K_rf6_0_2 _ (bdC g [40]) _ _ (x) i v (dp + 1) hi hv (by rw [bdC_s]; split <;> omega) (by rw [bdC_ne _ _ (by omega)]; exact hN) (by rw [bdC_ne _ _ (by omega)]; exact hK) (by rw [bdC_ne _ _ (by omega)]; exact hv3) (by omega) ⟨rfl, congrArg (fun z => HN z hl (RF rt)) (bdC_c h133 _ _)⟩) (fun r h' hr => ?_)
    obtain ⟨rfl, rfl⟩ := hr
    refine Ev.run 6 (pc' := 264) (lv' := [(10, .int (nI (dp + 1))), (9, .int (nI 0)), (8, .int (nI 6)), (7, .int (nI 40)), (6, .int (nI 3)), (0, .ref 132), (1, .int (nI 6)), (2, .ref (60 + 2 * i)), (3, .int (nI 2)), (4, .int (x)), (5, .int (nI dp))]) (st' := [.int (nI (dp + 1)), .int (nI 1), .int (nI 1), .ref (60 + 2 * i), .int (nI 6), .ref 132, .int (((((x + nI i) ^^^ nI v) - nI v) + ((nI 2) + nI i)) * nI 2)]) (h' := HN (bdC g [40, 12, 70, 11, 71, 10, 10]) hl (RF rt)) rfl ?_
    refine Ev.call (a := 4) (as := [.ref 132, .int (nI 6), .ref (60 + 2 * i), .int (nI 1), .int (nI 1), .int (nI (dp + 1))]) (rest := [.int (((((x + nI i) ^^^ nI v) - nI v) + ((nI 2) + nI i)) * nI 2)]) (lv0 := [(0, .ref 132), (1, .int (nI 6)), (2, .ref (60 + 2 * i)), (3, .int (nI 1)), (4, .int (nI 1)), (5, .int (nI (dp + 1)))]) (Q1 := (fun z0 h' => z0 = some (.int (((((nI 1) + nI i) ^^^ nI v) - nI v) + ((nI 2) + nI i))) ∧ h' = HN (bdC g [40, 12, 70, 11, 71, 10, 10, 70, 11, 71, 10, 10]) hl (RF rt))) rfl rfl (K_rf6_6_1 _ (bdC g [40, 12, 70, 11, 71, 10, 10]) _ _ (nI 1) i v (dp + 1) hi hv (by rw [bdC_s]; split <;> omega) (by rw [bdC_ne _ _ (by omega)]; exact hN) (by rw [bdC_ne _ _ (by omega)]; exact hK) (by rw [bdC_ne _ _ (by omega)]; exact hv3) (by omega) ⟨rfl, congrArg (fun z => HN z hl (RF rt)) (bdC_c h133 _ _)⟩) (fun r h' hr => ?_)
    obtain ⟨rfl, rfl⟩ := hr
    refine Ev.run 1 (pc' := 268) (lv' := [(10, .int (nI (dp + 1))), (9, .int (nI 0)), (8, .int (nI 6)), (7, .int (nI 40)), (6, .int (nI 3)), (0, .ref 132), (1, .int (nI 6)), (2, .ref (60 + 2 * i)), (3, .int (nI 2)), (4, .int (x)), (5, .int (nI dp))]) (st' := [.int ((((((x + nI i) ^^^ nI v) - nI v) + ((nI 2) + nI i)) * nI 2) + (((((nI 1) + nI i) ^^^ nI v) - nI v) + ((nI 2) + nI i)))]) (h' := HN (bdC g [40, 12, 70, 11, 71, 10, 10, 70, 11, 71, 10, 10]) hl (RF rt)) rfl ?_
    refine Ev.ret (v := some (.int ((((((x + nI i) ^^^ nI v) - nI v) + ((nI 2) + nI i)) * nI 2) + (((((nI 1) + nI i) ^^^ nI v) - nI v) + ((nI 2) + nI i))))) rfl ?_
    first | exact hq | (exfalso; omega)
  · have hc16 : ¬ (dp < 20) := fun z => hc16 ((nI_ltI (by omega) (by omega)).mpr z)
    refine Ev.run 1 (pc' := 20) (lv' := [(6, .int (nI 3)), (0, .ref 132), (1, .int (nI 6)), (2, .ref (60 + 2 * i)), (3, .int (nI 2)), (4, .int (x)), (5, .int (nI dp))]) (st' := [.int (nI 0)]) (h' := HN g hl (RF rt)) rfl ?_
    refine Ev.ret (v := some (.int (nI 0))) rfl ?_
    first | exact hq | (exfalso; omega)
