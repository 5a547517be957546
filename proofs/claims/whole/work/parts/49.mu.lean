/-! the reference: clauses of a table -/
def lettL : List Nat := [107, 110, 111, 119, 108, 101, 97, 115, 116, 108, 105, 118, 101, 115]
def HLt (g : Nat → Nat → Nat) : Prop := ∀ k, k < 14 → g 184 k = lettL.getD k 0
def kdS (g : Nat → Nat → Nat) (p : Nat) : Nat := if pkS g p = 107 then 0 else if pkS g (p + 1) = 105 then 2 else 1
def wdL (k : Nat) : List Nat := if k = 0 then [107, 110, 111, 119] else if k = 2 then [108, 105, 118, 101, 115] else [108, 101, 97, 115, 116]
def clS (g : Nat → Nat → Nat) (p : Nat) (l : List Nat) : Bool × Nat × List Nat × Nat × Nat := if (exS g (wdL (kdS g p) ++ [32]) p).1 = true then (if kdS g p = 0 then ((eF g 101 (exS g (wdL (kdS g p) ++ [32]) p).2 l [] true).1, (eF g 101 (exS g (wdL (kdS g p) ++ [32]) p).2 l [] true).2.1, (eF g 101 (exS g (wdL (kdS g p) ++ [32]) p).2 l [] true).2.2, 0, 0) else if (nuS g (exS g (wdL (kdS g p) ++ [32]) p).2).1 = true then (true, (nuS g (exS g (wdL (kdS g p) ++ [32]) p).2).2.2, l, kdS g p, (nuS g (exS g (wdL (kdS g p) ++ [32]) p).2).2.1) else (false, (exS g (wdL (kdS g p) ++ [32]) p).2, l, kdS g p, 0)) else (false, (exS g (wdL (kdS g p) ++ [32]) p).2, l, kdS g p, 0)
section PK
variable {g G : Nat → Nat → Nat}
theorem exS_cg (h : pkS G = pkS g) : exS G = exS g := by
  funext cs
  induction cs with
  | nil => rfl
  | cons c cs ih => funext p; unfold exS; rw [h, ih]
theorem nuS_cg (h : pkS G = pkS g) : nuS G = nuS g := by funext p; unfold nuS; rw [h]
theorem teS_cg (h : pkS G = pkS g) : teS G = teS g := by funext p; unfold teS; rw [h, nuS_cg h]
theorem kdS_cg (h : pkS G = pkS g) : kdS G = kdS g := by funext p; unfold kdS; rw [h]
theorem eF_cg (h : pkS G = pkS g) : eF G = eF g := by
  funext f
  induction f with
  | zero => rfl
  | succ f ih =>
    funext p l W wt
    cases wt with
    | true => rw [eF, eF, h, ih, teS_cg h]
    | false => rw [eF, eF, h, ih]
theorem clS_cg (h : pkS G = pkS g) : clS G = clS g := by funext p l; unfold clS; rw [exS_cg h, kdS_cg h, nuS_cg h, eF_cg h]
theorem pkS_cg (h : G 166 17 = g 166 17) (h2 : G 176 = g 176) : pkS G = pkS g := by funext p; unfold pkS; rw [h, h2]
end PK
def CLF (g G : Nat → Nat → Nat) (c : Nat) : Prop := (∀ a, a ≠ 178 → a ≠ 179 → a ≠ 180 → a ≠ 181 → G a = g a) ∧ (∀ a j, j ≠ c → G a j = g a j) ∧ G 178 c ≤ 2 ∧ (g 179 c ≤ 99 → G 179 c ≤ 99)
def CLR (g G : Nat → Nat → Nat) (c k m a e : Nat) : Prop := CLF g G c ∧ G 178 c = k ∧ (k ≠ 0 → G 179 c = m) ∧ (k = 0 → G 180 c = a ∧ G 181 c = e)
theorem u2_at (g : Nat → Nat → Nat) (c j x : Nat) : u2 g c j x c j = x := by unfold u2; rw [if_pos rfl, if_pos rfl]
theorem u2_ne (g : Nat → Nat → Nat) {c j x a i : Nat} (h : a ≠ c ∨ i ≠ j) : u2 g c j x a i = g a i := by
  unfold u2
  by_cases e : a = c
  · rw [if_pos e, if_neg (by omega), e]
  · rw [if_neg e]
theorem CLF.w178 (g : Nat → Nat → Nat) (c k : Nat) (hk : k ≤ 2) : CLF g (u2 g 178 c k) c := ⟨fun a h _ _ _ => by funext j; exact u2_ne g (Or.inl h), fun a j h => u2_ne g (Or.inr h), by rw [u2_at]; exact hk, fun h => by rw [u2_ne g (Or.inl (by decide))]; exact h⟩
theorem CLF.w179 {g G : Nat → Nat → Nat} {c m : Nat} (h : CLF g G c) (hm : m ≤ 99) : CLF g (u2 G 179 c m) c := ⟨fun a h1 h2 h3 h4 => by
  rw [← h.1 a h1 h2 h3 h4]; funext j; exact u2_ne G (Or.inl h2), fun a j hj => by rw [u2_ne G (Or.inr hj)]; exact h.2.1 a j hj, by rw [u2_ne G (Or.inl (by decide))]; exact h.2.2.1, fun _ => by rw [u2_at]; exact hm⟩
theorem CLF.w180 {g G : Nat → Nat → Nat} {c m : Nat} (h : CLF g G c) : CLF g (u2 G 180 c m) c := ⟨fun a h1 h2 h3 h4 => by
  rw [← h.1 a h1 h2 h3 h4]; funext j; exact u2_ne G (Or.inl h3), fun a j hj => by rw [u2_ne G (Or.inr hj)]; exact h.2.1 a j hj, by rw [u2_ne G (Or.inl (by decide))]; exact h.2.2.1, fun z => by rw [u2_ne G (Or.inl (by decide))]; exact h.2.2.2 z⟩
theorem CLF.w181 {g G : Nat → Nat → Nat} {c m : Nat} (h : CLF g G c) : CLF g (u2 G 181 c m) c := ⟨fun a h1 h2 h3 h4 => by
  rw [← h.1 a h1 h2 h3 h4]; funext j; exact u2_ne G (Or.inl h4), fun a j hj => by rw [u2_ne G (Or.inr hj)]; exact h.2.1 a j hj, by rw [u2_ne G (Or.inl (by decide))]; exact h.2.2.1, fun z => by rw [u2_ne G (Or.inl (by decide))]; exact h.2.2.2 z⟩
theorem wd_lt : ∀ k, ∀ c ∈ wdL k ++ [32], c < 4294967295 := by
  intro k c hc
  unfold wdL at hc
  split at hc
  · revert c; decide
  · split at hc
    · revert c; decide
    · revert c; decide
theorem wl0 {g : Nat → Nat → Nat} (h : HLt g) : ∀ k, k < 4 → g 184 (0 + k) = [107, 110, 111, 119].getD k 0 := fun k hk => by
  rw [h (0 + k) (by omega)]
  revert k
  decide
theorem wb0 : ∀ k, k < 4 → [107, 110, 111, 119].getD k 0 ≤ 127 := by decide
theorem wl9 {g : Nat → Nat → Nat} (h : HLt g) : ∀ k, k < 5 → g 184 (9 + k) = [108, 105, 118, 101, 115].getD k 0 := fun k hk => by
  rw [h (9 + k) (by omega)]
  revert k
  decide
theorem wb9 : ∀ k, k < 5 → [108, 105, 118, 101, 115].getD k 0 ≤ 127 := by decide
theorem wl4 {g : Nat → Nat → Nat} (h : HLt g) : ∀ k, k < 5 → g 184 (4 + k) = [108, 101, 97, 115, 116].getD k 0 := fun k hk => by
  rw [h (4 + k) (by omega)]
  revert k
  decide
theorem wb4 : ∀ k, k < 5 → [108, 101, 97, 115, 116].getD k 0 ≤ 127 := by decide

theorem C_takesHead {L : Nat} {xs : Nat → Int32} (d : Nat) (g : Nat → Nat → Nat) (hl : Nat → Nat → Int64) (rt : Nat × Nat × Nat × Nat) (hF : g 166 17 ≤ 100) (ht : ∀ j, j < 100 → g 176 j ≤ 127) (hLt : HLt g) (p dg b : Nat) (l : List Nat) (w : Nat → Nat) (n op : Nat) (c : Nat) (hc : c < 60) (hp : p ≤ 400) {Q : Po} (hq : (∀ q, exS g (wdL (kdS g p) ++ [32]) p = (true, q) → Q (some (.int (nI 1))) (HN (PT (u2 g 178 c (kdS g p)) q dg b l w n op) hl (RF rt))) ∧ (∀ q, exS g (wdL (kdS g p) ++ [32]) p = (false, q) → Q (some (.int (nI 0))) (HN (PT (u2 g 178 c (kdS g p)) q dg b l w n op) hl (RF rt)))) : Ev L xs (d + 3) 152 0 [(0, .ref 166), (1, .int (nI c))] [] (HN (PT g p dg b l w n op) hl (RF rt)) Q := by
  refine Ev.run 1 (pc' := 1) (lv' := [(0, .ref 166), (1, .int (nI c))]) (st' := [.ref 166]) (h' := HN (PT g p dg b l w n op) hl (RF rt)) rfl ?_
  refine Ev.call (a := 140) (as := [.ref 166]) (rest := []) (lv0 := [(0, .ref 166)]) (Q1 := (fun z0 h' => z0 = some (.int (nI (pkS g p))) ∧ h' = HN (PT g p dg b l w n op) hl (RF rt))) rfl rfl (C_peek _ g _ _ hF ht p dg b l w n op (by omega) ⟨rfl, rfl⟩) (fun r h' hr => ?_)
  obtain ⟨rfl, rfl⟩ := hr
  have hpk4 := pkS_le hF ht p
  refine Ev.run 2 (pc' := (if nI (pkS g p) = nI 107 then 9 else 23)) (lv' := [(0, .ref 166), (1, .int (nI c))]) (st' := []) (h' := HN (PT g p dg b l w n op) hl (RF rt)) rfl ?_
  refine Ev.ite (fun hc6 => ?_) (fun hc6 => ?_)
  · have hc6 : (pkS g p) = 107 := (nI_eqU (by omega) (by omega)).mp hc6
    refine Ev.run 4 (pc' := 15) (lv' := [(0, .ref 166), (1, .int (nI c))]) (st' := [.int (nI 0), .int (nI c), .ref 178]) (h' := HN (PT g p dg b l w n op) hl (RF rt)) rfl ?_
    refine Ev_iast rfl rfl (show c < 60 by omega) (Nat.le_of_ble_eq_true rfl) ?_
    refine Ev.hp (congrArg (fun z => HN z hl (RF rt)) (PT_o _ _ _ _ _ _ _ _ 178 _ _ (by decide) (by decide) (by decide))) ?_
    refine Ev.run 3 (pc' := 19) (lv' := [(0, .ref 166), (1, .int (nI c))]) (st' := [.int (nI 4), .int (nI 0), .ref 166]) (h' := HN (PT (u2 g 178 c 0) p dg b l w n op) hl (RF rt)) rfl ?_
    refine Ev.call (a := 143) (as := [.ref 166, .int (nI 0), .int (nI 4)]) (rest := []) (lv0 := [(0, .ref 166), (1, .int (nI 0)), (2, .int (nI 4))]) (Q1 := (fun z0 h' => (∃ q, exS g ([107, 110, 111, 119] ++ [32]) p = (true, q) ∧ z0 = some (.int (nI 1)) ∧ h' = HN (PT (u2 g 178 c 0) q dg b l w n op) hl (RF rt)) ∨ (∃ q, exS g ([107, 110, 111, 119] ++ [32]) p = (false, q) ∧ z0 = some (.int (nI 0)) ∧ h' = HN (PT (u2 g 178 c 0) q dg b l w n op) hl (RF rt)))) rfl rfl (C_takesWord _ (u2 g 178 c 0) _ _ hF ht p dg b l w n op 0 4 [107, 110, 111, 119] rfl (wl0 hLt) (by decide) wb0 (by omega) ⟨fun q z => Or.inl ⟨q, ((congrFun (congrFun (exS_cg (g := g) (G := (u2 g 178 c 0)) (pkS_cg rfl rfl)) _) _).symm.trans z), rfl, rfl⟩, fun q z => Or.inr ⟨q, ((congrFun (congrFun (exS_cg (g := g) (G := (u2 g 178 c 0)) (pkS_cg rfl rfl)) _) _).symm.trans z), rfl, rfl⟩⟩) (fun r h' hr => ?_)
    rcases hr with ⟨q125, hex, rfl, rfl⟩ | ⟨q125, hex, rfl, rfl⟩
    · skip
      refine Ev.ret (v := some (.int (nI 1))) rfl ?_
      have hkd0 : kdS g p = 0 := by unfold kdS; rw [if_pos hc6]
      have hx := hq.1 q125 (by rw [hkd0]; exact hex)
      rw [hkd0] at hx
      exact hx
    · skip
      refine Ev.ret (v := some (.int (nI 0))) rfl ?_
      have hkd0 : kdS g p = 0 := by unfold kdS; rw [if_pos hc6]
      have hx := hq.2 q125 (by rw [hkd0]; exact hex)
      rw [hkd0] at hx
      exact hx
  · have hc6 : ¬ ((pkS g p) = 107) := fun z => hc6 ((nI_eqU (by omega) (by omega)).mpr z)
    refine Ev.run 4 (pc' := 29) (lv' := [(0, .ref 166), (1, .int (nI c))]) (st' := [.ref 166, .int (nI c), .ref 178]) (h' := HN (PT g p dg b l w n op) hl (RF rt)) rfl ?_
    refine Ev.call (a := 141) (as := [.ref 166]) (rest := [.int (nI c), .ref 178]) (lv0 := [(0, .ref 166)]) (Q1 := (fun z0 h' => z0 = some (.int (nI (pkS g (p + 1)))) ∧ h' = HN (PT g p dg b l w n op) hl (RF rt))) rfl rfl (C_second _ g _ _ hF ht p dg b l w n op (by omega) ⟨rfl, rfl⟩) (fun r h' hr => ?_)
    obtain ⟨rfl, rfl⟩ := hr
    have hpk32 := pkS_le hF ht (p + 1)
    refine Ev.run 2 (pc' := (if nI (pkS g (p + 1)) = nI 105 then 37 else 41)) (lv' := [(0, .ref 166), (1, .int (nI c))]) (st' := [.int (nI c), .ref 178]) (h' := HN (PT g p dg b l w n op) hl (RF rt)) rfl ?_
    refine Ev.ite (fun hc34 => ?_) (fun hc34 => ?_)
    · have hc34 : (pkS g (p + 1)) = 105 := (nI_eqU (by omega) (by omega)).mp hc34
      refine Ev.run 2 (pc' := 42) (lv' := [(0, .ref 166), (1, .int (nI c))]) (st' := [.int (nI 2), .int (nI c), .ref 178]) (h' := HN (PT g p dg b l w n op) hl (RF rt)) rfl ?_
      refine Ev_iast rfl rfl (show c < 60 by omega) (Nat.le_of_ble_eq_true rfl) ?_
      refine Ev.hp (congrArg (fun z => HN z hl (RF rt)) (PT_o _ _ _ _ _ _ _ _ 178 _ _ (by decide) (by decide) (by decide))) ?_
      refine Ev.run 3 (pc' := 48) (lv' := [(0, .ref 166), (1, .int (nI c))]) (st' := [.int (nI c), .ref 178]) (h' := HN (PT (u2 g 178 c 2) p dg b l w n op) hl (RF rt)) rfl ?_
      refine Ev_iald rfl rfl (show c < 60 by omega) (Nat.le_of_ble_eq_true rfl) ?_
      refine Ev.topI (congrArg nI (show (PT (u2 g 178 c 2) p dg b l w n op) 178 c = 2 from u2_at g 178 c 2)) ?_
      refine Ev.run 5 (pc' := 57) (lv' := [(0, .ref 166), (1, .int (nI c))]) (st' := [.int (nI 5), .int (nI 9), .ref 166]) (h' := HN (PT (u2 g 178 c 2) p dg b l w n op) hl (RF rt)) rfl ?_
      refine Ev.call (a := 143) (as := [.ref 166, .int (nI 9), .int (nI 5)]) (rest := []) (lv0 := [(0, .ref 166), (1, .int (nI 9)), (2, .int (nI 5))]) (Q1 := (fun z0 h' => (∃ q, exS g ([108, 105, 118, 101, 115] ++ [32]) p = (true, q) ∧ z0 = some (.int (nI 1)) ∧ h' = HN (PT (u2 g 178 c 2) q dg b l w n op) hl (RF rt)) ∨ (∃ q, exS g ([108, 105, 118, 101, 115] ++ [32]) p = (false, q) ∧ z0 = some (.int (nI 0)) ∧ h' = HN (PT (u2 g 178 c 2) q dg b l w n op) hl (RF rt)))) rfl rfl (C_takesWord _ (u2 g 178 c 2) _ _ hF ht p dg b l w n op 9 5 [108, 105, 118, 101, 115] rfl (wl9 hLt) (by decide) wb9 (by omega) ⟨fun q z => Or.inl ⟨q, ((congrFun (congrFun (exS_cg (g := g) (G := (u2 g 178 c 2)) (pkS_cg rfl rfl)) _) _).symm.trans z), rfl, rfl⟩, fun q z => Or.inr ⟨q, ((congrFun (congrFun (exS_cg (g := g) (G := (u2 g 178 c 2)) (pkS_cg rfl rfl)) _) _).symm.trans z), rfl, rfl⟩⟩) (fun r h' hr => ?_)
      rcases hr with ⟨q126, hex, rfl, rfl⟩ | ⟨q126, hex, rfl, rfl⟩
      · skip
        refine Ev.run 1 (pc' := 69) (lv' := [(0, .ref 166), (1, .int (nI c))]) (st' := [.int (nI 1)]) (h' := HN (PT (u2 g 178 c 2) q126 dg b l w n op) hl (RF rt)) rfl ?_
        refine Ev.ret (v := some (.int (nI 1))) rfl ?_
        have hkd0 : kdS g p = 2 := by unfold kdS; rw [if_neg hc6, if_pos hc34]
        have hx := hq.1 q126 (by rw [hkd0]; exact hex)
        rw [hkd0] at hx
        exact hx
      · skip
        refine Ev.run 1 (pc' := 69) (lv' := [(0, .ref 166), (1, .int (nI c))]) (st' := [.int (nI 0)]) (h' := HN (PT (u2 g 178 c 2) q126 dg b l w n op) hl (RF rt)) rfl ?_
        refine Ev.ret (v := some (.int (nI 0))) rfl ?_
        have hkd0 : kdS g p = 2 := by unfold kdS; rw [if_neg hc6, if_pos hc34]
        have hx := hq.2 q126 (by rw [hkd0]; exact hex)
        rw [hkd0] at hx
        exact hx
    · have hc34 : ¬ ((pkS g (p + 1)) = 105) := fun z => hc34 ((nI_eqU (by omega) (by omega)).mpr z)
      refine Ev.run 1 (pc' := 42) (lv' := [(0, .ref 166), (1, .int (nI c))]) (st' := [.int (nI 1), .int (nI c), .ref 178]) (h' := HN (PT g p dg b l w n op) hl (RF rt)) rfl ?_
      refine Ev_iast rfl rfl (show c < 60 by omega) (Nat.le_of_ble_eq_true rfl) ?_
      refine Ev.hp (congrArg (fun z => HN z hl (RF rt)) (PT_o _ _ _ _ _ _ _ _ 178 _ _ (by decide) (by decide) (by decide))) ?_
      refine Ev.run 3 (pc' := 48) (lv' := [(0, .ref 166), (1, .int (nI c))]) (st' := [.int (nI c), .ref 178]) (h' := HN (PT (u2 g 178 c 1) p dg b l w n op) hl (RF rt)) rfl ?_
      refine Ev_iald rfl rfl (show c < 60 by omega) (Nat.le_of_ble_eq_true rfl) ?_
      refine Ev.topI (congrArg nI (show (PT (u2 g 178 c 1) p dg b l w n op) 178 c = 1 from u2_at g 178 c 1)) ?_
      refine Ev.run 5 (pc' := 66) (lv' := [(0, .ref 166), (1, .int (nI c))]) (st' := [.int (nI 5), .int (nI 4), .ref 166]) (h' := HN (PT (u2 g 178 c 1) p dg b l w n op) hl (RF rt)) rfl ?_
      refine Ev.call (a := 143) (as := [.ref 166, .int (nI 4), .int (nI 5)]) (rest := []) (lv0 := [(0, .ref 166), (1, .int (nI 4)), (2, .int (nI 5))]) (Q1 := (fun z0 h' => (∃ q, exS g ([108, 101, 97, 115, 116] ++ [32]) p = (true, q) ∧ z0 = some (.int (nI 1)) ∧ h' = HN (PT (u2 g 178 c 1) q dg b l w n op) hl (RF rt)) ∨ (∃ q, exS g ([108, 101, 97, 115, 116] ++ [32]) p = (false, q) ∧ z0 = some (.int (nI 0)) ∧ h' = HN (PT (u2 g 178 c 1) q dg b l w n op) hl (RF rt)))) rfl rfl (C_takesWord _ (u2 g 178 c 1) _ _ hF ht p dg b l w n op 4 5 [108, 101, 97, 115, 116] rfl (wl4 hLt) (by decide) wb4 (by omega) ⟨fun q z => Or.inl ⟨q, ((congrFun (congrFun (exS_cg (g := g) (G := (u2 g 178 c 1)) (pkS_cg rfl rfl)) _) _).symm.trans z), rfl, rfl⟩, fun q z => Or.inr ⟨q, ((congrFun (congrFun (exS_cg (g := g) (G := (u2 g 178 c 1)) (pkS_cg rfl rfl)) _) _).symm.trans z), rfl, rfl⟩⟩) (fun r h' hr => ?_)
      rcases hr with ⟨q127, hex, rfl, rfl⟩ | ⟨q127, hex, rfl, rfl⟩
      · skip
        refine Ev.ret (v := some (.int (nI 1))) rfl ?_
        have hkd0 : kdS g p = 1 := by unfold kdS; rw [if_neg hc6, if_neg hc34]
        have hx := hq.1 q127 (by rw [hkd0]; exact hex)
        rw [hkd0] at hx
        exact hx
      · skip
        refine Ev.ret (v := some (.int (nI 0))) rfl ?_
        have hkd0 : kdS g p = 1 := by unfold kdS; rw [if_neg hc6, if_neg hc34]
        have hx := hq.2 q127 (by rw [hkd0]; exact hex)
        rw [hkd0] at hx
        exact hx
