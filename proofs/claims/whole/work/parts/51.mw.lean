/-! the reference: tables -/
theorem PT_init (g : Nat → Nat → Nat) (b : Nat) : u2 (u2 g 166 18 0) 166 28 b = PT g 0 (g 166 19) b [] (g 183) (g 166 29) (g 166 30) := by
  funext a c; unfold u2 PT
  by_cases e : a = 166
  · subst e
    by_cases e1 : c = 28
    · subst e1; simp
    · by_cases e2 : c = 18
      · subst e2; simp
      · by_cases e3 : c = 19
        · subst e3; simp
        · by_cases e4 : c = 29
          · subst e4; simp
          · by_cases e5 : c = 30
            · subst e5; simp
            · simp [e1, e2, e3, e4, e5]
  · by_cases e2 : a = 182
    · subst e2
      have h : ¬ (b ≤ c ∧ c < b + ([] : List Nat).length) := by intro z; have := z.2; have e3 : ([] : List Nat).length = 0 := rfl; omega
      rw [if_neg e, if_neg e, if_neg e, if_pos rfl, if_neg h]
    · by_cases e3 : a = 183
      · subst e3; simp
      · simp [e, e2, e3]
def goF (g : Nat → Nat → Nat) (b : Nat) : Nat → Nat → List Nat → List (Nat × Nat × Nat × Nat) → Bool × Nat × List Nat × List (Nat × Nat × Nat × Nat)
  | 0, p, l, cs => (false, p, l, cs)
  | m + 1, p, l, cs => if (clS g p l).1 = true then (if (clS g p l).2.1 = g 166 17 then (true, (clS g p l).2.1, (clS g p l).2.2.1, cs ++ [((clS g p l).2.2.2.1, (clS g p l).2.2.2.2, b + l.length, b + (clS g p l).2.2.1.length)]) else if m = 0 then (false, (clS g p l).2.1, (clS g p l).2.2.1, cs ++ [((clS g p l).2.2.2.1, (clS g p l).2.2.2.2, b + l.length, b + (clS g p l).2.2.1.length)]) else if pkS g (clS g p l).2.1 = 59 then goF g b m ((clS g p l).2.1 + 1) (clS g p l).2.2.1 (cs ++ [((clS g p l).2.2.2.1, (clS g p l).2.2.2.2, b + l.length, b + (clS g p l).2.2.1.length)]) else (false, (clS g p l).2.1, (clS g p l).2.2.1, cs ++ [((clS g p l).2.2.2.1, (clS g p l).2.2.2.2, b + l.length, b + (clS g p l).2.2.1.length)])) else (false, (clS g p l).2.1, (clS g p l).2.2.1, cs)
theorem goF_cg {g G : Nat → Nat → Nat} (h : pkS G = pkS g) (h2 : G 166 17 = g 166 17) (b : Nat) : ∀ m p l cs, goF G b m p l cs = goF g b m p l cs := by
  intro m
  induction m with
  | zero => intro p l cs; rfl
  | succ m ih =>
    intro p l cs
    unfold goF
    rw [clS_cg h, h, h2, ih]
def CLD (G : Nat → Nat → Nat) (c : Nat) (x : Nat × Nat × Nat × Nat) : Prop := G 178 c = x.1 ∧ (x.1 ≠ 0 → G 179 c = x.2.1) ∧ (x.1 = 0 → G 180 c = x.2.2.1 ∧ G 181 c = x.2.2.2)
def GR (g G : Nat → Nat → Nat) (f : Nat) (cs : List (Nat × Nat × Nat × Nat)) : Prop := (∀ a, a ≠ 177 → a ≠ 178 → a ≠ 179 → a ≠ 180 → a ≠ 181 → G a = g a) ∧ (∀ j, j ≠ f → G 177 j = g 177 j) ∧ (∀ a j, a ≠ 177 → j < 10 * f ∨ 10 * f + 10 ≤ j → G a j = g a j) ∧ (∀ j, j < 60 → G 178 j ≤ 2) ∧ (∀ j, j < 60 → G 179 j ≤ 99) ∧ G 177 f ≤ 10 ∧ ∀ j, j < cs.length → CLD G (10 * f + j) (cs.getD j (0, 0, 0, 0))
theorem CLD_eq {G G2 : Nat → Nat → Nat} {c : Nat} {x : Nat × Nat × Nat × Nat} (h : ∀ a, a = 178 ∨ a = 179 ∨ a = 180 ∨ a = 181 → G2 a c = G a c) (k : CLD G c x) : CLD G2 c x := by
  unfold CLD at k ⊢
  rw [h 178 (by omega), h 179 (by omega), h 180 (by omega), h 181 (by omega)]
  exact k
theorem GR.fail {g0 g G : Nat → Nat → Nat} {f : Nat} {cs : List (Nat × Nat × Nat × Nat)} (h : GR g0 g f cs) (k : CLF g G (10 * f + cs.length)) (hn : cs.length < 10) (hf : f < 6) : GR g0 G f cs := by
  obtain ⟨h1, h2, h3, h4, h5, h6, h7⟩ := h
  obtain ⟨k1, k2, k3, k4⟩ := k
  refine ⟨fun a a1 a2 a3 a4 a5 => (k1 a a2 a3 a4 a5).trans (h1 a a1 a2 a3 a4 a5), fun j hj => ?_, fun a j ha hj => (k2 a j (by omega)).trans (h3 a j ha hj), fun j hj => ?_, fun j hj => ?_, ?_, fun j hj => ?_⟩
  · rw [k1 177 (by decide) (by decide) (by decide) (by decide)]; exact h2 j hj
  · by_cases e : j = 10 * f + cs.length
    · rw [e]; exact k3
    · rw [k2 178 j e]; exact h4 j hj
  · by_cases e : j = 10 * f + cs.length
    · rw [e]; exact k4 (h5 _ (by omega))
    · rw [k2 179 j e]; exact h5 j hj
  · rw [k1 177 (by decide) (by decide) (by decide) (by decide)]; exact h6
  · exact CLD_eq (fun a _ => k2 a _ (by omega)) (h7 j hj)
theorem GR.step {g0 g G : Nat → Nat → Nat} {f k m a e : Nat} {cs : List (Nat × Nat × Nat × Nat)} (h : GR g0 g f cs) (kk : CLR g G (10 * f + cs.length) k m a e) (hn : cs.length < 10) (hf : f < 6) : GR g0 (u2 G 177 f (cs.length + 1)) f (cs ++ [(k, m, a, e)]) := by
  obtain ⟨h1, h2, h3, h4, h5, h6, h7⟩ := h.fail kk.1 hn hf
  have hu : ∀ a j, a ≠ 177 → u2 G 177 f (cs.length + 1) a j = G a j := fun a j ha => u2_ne G (Or.inl ha)
  refine ⟨fun a a1 a2 a3 a4 a5 => ?_, fun j hj => ?_, fun a j ha hj => (hu a j ha).trans (h3 a j ha hj), fun j hj => ?_, fun j hj => ?_, ?_, fun j hj => ?_⟩
  · rw [← h1 a a1 a2 a3 a4 a5]; funext j; exact hu a j a1
  · rw [u2_ne G (Or.inr hj)]; exact h2 j hj
  · rw [hu 178 j (by decide)]; exact h4 j hj
  · rw [hu 179 j (by decide)]; exact h5 j hj
  · rw [u2_at]; omega
  · refine CLD_eq (G := G) (fun a ha => hu a _ (by omega)) ?_
    rw [List.length_append] at hj
    have hj : j < cs.length + 1 := hj
    by_cases e2 : j = cs.length
    · subst e2
      rw [List.getD_eq_getElem?_getD, List.getElem?_append_right (Nat.le_refl _), Nat.sub_self]
      exact ⟨kk.2.1, kk.2.2.1, kk.2.2.2⟩
    · rw [List.getD_eq_getElem?_getD, List.getElem?_append_left (by omega), ← List.getD_eq_getElem?_getD]
      exact h7 j (by omega)
theorem C_goesText {L : Nat} {xs : Nat → Int32} (d : Nat) (g : Nat → Nat → Nat) (hl : Nat → Nat → Int64) (rt : Nat × Nat × Nat × Nat) (hF : g 166 17 ≤ 100) (ht : ∀ j, j < 100 → g 176 j ≤ 127) (hLt : HLt g) (hwd : ∀ j, j < 60 → g 178 j ≤ 2) (hnu : ∀ j, j < 60 → g 179 j ≤ 99) (f : Nat) (hf : f < 6) (hcl6 : g 177 f ≤ 10) {Q : Po} (hq : (∀ (G : Nat → Nat → Nat) (q : Nat) (l2 : List Nat) (cs : List (Nat × Nat × Nat × Nat)) (dd : Nat) (w2 : Nat → Nat) (n2 op2 : Nat), goF g (100 * f) 10 0 [] [] = (true, q, l2, cs) → GR g G f cs → G 177 f = cs.length → l2.length ≤ q → q ≤ g 166 17 → Q (some (.int (nI 1))) (HN (PT G q dd (100 * f) l2 w2 n2 op2) hl (RF rt))) ∧ (∀ (G : Nat → Nat → Nat) (q : Nat) (l2 : List Nat) (cs : List (Nat × Nat × Nat × Nat)) (dd : Nat) (w2 : Nat → Nat) (n2 op2 : Nat), goF g (100 * f) 10 0 [] [] = (false, q, l2, cs) → GR g G f cs → l2.length ≤ q → q ≤ g 166 17 → Q (some (.int (nI 0))) (HN (PT G q dd (100 * f) l2 w2 n2 op2) hl (RF rt)))) : Ev L xs (d + 6) 154 0 [(0, .ref 166), (1, .int (nI f))] [] (HN g hl (RF rt)) Q := by
  refine Ev.run 3 (pc' := 5) (lv' := [(0, .ref 166), (1, .int (nI f))]) (st' := []) (h' := setI (HN g hl (RF rt)) 166 18 (nI 0)) rfl ?_
  refine Ev.hp (HN_set _ _ _ _ _ _) ?_
  refine Ev.run 4 (pc' := 10) (lv' := [(0, .ref 166), (1, .int (nI f))]) (st' := [.int (nI 100 * nI f), .ref 166]) (h' := HN (u2 g 166 18 0) hl (RF rt)) rfl ?_
  refine Ev.topI (pk_mul _ _) ?_
  refine Ev.run 1 (pc' := 13) (lv' := [(0, .ref 166), (1, .int (nI f))]) (st' := []) (h' := setI (HN (u2 g 166 18 0) hl (RF rt)) 166 28 (nI (100 * f))) rfl ?_
  refine Ev.hp (HN_set _ _ _ _ _ _) ?_
  refine Ev.run 2 (pc' := 15) (lv' := [(2, .int (nI 0)), (0, .ref 166), (1, .int (nI f))]) (st' := []) (h' := HN (u2 (u2 g 166 18 0) 166 28 (100 * f)) hl (RF rt)) rfl ?_
  refine Ev.hp (congrArg (fun z => HN z hl (RF rt)) (PT_init g (100 * f))) ?_
  generalize hR : goF g (100 * f) 10 0 [] [] = R at hq
  have key : ∀ (m : Nat) (G : Nat → Nat → Nat) (p dg : Nat) (l : List Nat) (cs : List (Nat × Nat × Nat × Nat)) (w : Nat → Nat) (n op : Nat), m + cs.length = 10 → cs.length < 10 → GR g G f cs → l.length ≤ p → p ≤ G 166 17 → goF G (100 * f) m p l cs = R → HLt G → G 166 17 ≤ 100 → (∀ j, j < 100 → G 176 j ≤ 127) → Ev L xs (d + 6) 154 15 [(2, .int (nI cs.length)), (0, .ref 166), (1, .int (nI f))] [] (HN (PT G p dg (100 * f) l w n op) hl (RF rt)) Q := by
    intro m
    induction m with
    | zero => intro g p dg l cs w n op h1 h2; omega
    | succ m ih =>
      intro g p dg l cs w n op h1 h2 hg hlp hp hE hLt hF ht
      refine Ev.run 4 (pc' := 20) (lv' := [(2, .int (nI cs.length)), (0, .ref 166), (1, .int (nI f))]) (st' := [.int (nI 10 * nI f), .ref 166]) (h' := HN (PT g p dg (100 * f) l w n op) hl (RF rt)) rfl ?_
      refine Ev.topI (pk_mul _ _) ?_
      refine Ev.run 2 (pc' := 22) (lv' := [(2, .int (nI cs.length)), (0, .ref 166), (1, .int (nI f))]) (st' := [.int (nI (10 * f) + nI cs.length), .ref 166]) (h' := HN (PT g p dg (100 * f) l w n op) hl (RF rt)) rfl ?_
      refine Ev.topI (nI_add _ _) ?_
      refine Ev.call (a := 153) (as := [.ref 166, .int (nI ((10 * f) + cs.length))]) (rest := []) (lv0 := [(0, .ref 166), (1, .int (nI ((10 * f) + cs.length)))]) (Q1 := (fun z0 h' => (∃ (G : Nat → Nat → Nat) (q : Nat) (l2 : List Nat) (k m dd : Nat) (w2 : Nat → Nat) (n2 op2 : Nat), clS g p l = (true, q, l2, k, m) ∧ CLR g G ((10 * f) + cs.length) k m ((100 * f) + l.length) ((100 * f) + l2.length) ∧ l2.length ≤ q ∧ q ≤ g 166 17 ∧ z0 = some (.int (nI 1)) ∧ h' = HN (PT G q dd (100 * f) l2 w2 n2 op2) hl (RF rt)) ∨ (∃ (G : Nat → Nat → Nat) (q : Nat) (l2 : List Nat) (k m dd : Nat) (w2 : Nat → Nat) (n2 op2 : Nat), clS g p l = (false, q, l2, k, m) ∧ CLF g G ((10 * f) + cs.length) ∧ l2.length ≤ q ∧ q ≤ g 166 17 ∧ z0 = some (.int (nI 0)) ∧ h' = HN (PT G q dd (100 * f) l2 w2 n2 op2) hl (RF rt)))) rfl rfl (C_takesClause _ g _ _ hF ht hLt p dg (100 * f) l w n op ((10 * f) + cs.length) (by omega) (by omega) (by omega) (by omega) ⟨fun G q l2 k m dd w2 n2 op2 z h1 h2 h3 => Or.inl ⟨G, q, l2, k, m, dd, w2, n2, op2, z, h1, h2, h3, rfl, rfl⟩, fun G q l2 k m dd w2 n2 op2 z h1 h2 h3 => Or.inr ⟨G, q, l2, k, m, dd, w2, n2, op2, z, h1, h2, h3, rfl, rfl⟩⟩) (fun r h' hr => ?_)
      rcases hr with ⟨G131, q131, l131, k131, m131, dd131, w131, n131, op131, hcl, hcr, hl1, hl2, rfl, rfl⟩ | ⟨G131, q131, l131, k131, m131, dd131, w131, n131, op131, hcl, hcr, hl1, hl2, rfl, rfl⟩
      · skip
        refine Ev.run 2 (pc' := 33) (lv' := [(2, .int (nI cs.length + 1)), (0, .ref 166), (1, .int (nI f))]) (st' := []) (h' := HN (PT G131 q131 dd131 (100 * f) l131 w131 n131 op131) hl (RF rt)) rfl ?_
        refine Ev.lvE (congrArg (fun z => (2, Value.int z) :: [(0, .ref 166), (1, .int (nI f))]) (nI_1 _)) ?_
        refine Ev.run 4 (pc' := 39) (lv' := [(2, .int (nI (cs.length + 1))), (0, .ref 166), (1, .int (nI f))]) (st' := [.int (nI (cs.length + 1)), .int (nI f), .ref 177]) (h' := HN (PT G131 q131 dd131 (100 * f) l131 w131 n131 op131) hl (RF rt)) rfl ?_
        refine Ev_iast rfl rfl (show f < 6 by omega) (Nat.le_of_ble_eq_true rfl) ?_
        refine Ev.hp (congrArg (fun z => HN z hl (RF rt)) (PT_o _ _ _ _ _ _ _ _ 177 _ _ (by decide) (by decide) (by decide))) ?_
        have hcr1 := hcr.1.1
        have hr17 : (u2 G131 177 f (cs.length + 1)) 166 17 = g 166 17 := (u2_ne _ (Or.inl (by decide))).trans (congrFun (hcr1 166 (by decide) (by decide) (by decide) (by decide)) 17)
        have hr176 : (u2 G131 177 f (cs.length + 1)) 176 = g 176 := (funext fun j => u2_ne _ (Or.inl (by decide))).trans (hcr1 176 (by decide) (by decide) (by decide) (by decide))
        have hr184 : (u2 G131 177 f (cs.length + 1)) 184 = g 184 := (funext fun j => u2_ne _ (Or.inl (by decide))).trans (hcr1 184 (by decide) (by decide) (by decide) (by decide))
        have hpk2 : pkS (u2 G131 177 f (cs.length + 1)) = pkS g := pkS_cg hr17 hr176
        have hF2 : (u2 G131 177 f (cs.length + 1)) 166 17 ≤ 100 := by rw [hr17]; exact hF
        have ht2 : ∀ j, j < 100 → (u2 G131 177 f (cs.length + 1)) 176 j ≤ 127 := by rw [hr176]; exact ht
        have hLt2 : HLt (u2 G131 177 f (cs.length + 1)) := by unfold HLt; rw [hr184]; exact hLt
        have hgs := hg.step hcr (by omega) hf
        refine Ev.run 5 (pc' := (if nI q131 = nI ((u2 G131 177 f (cs.length + 1)) 166 17) then 51 else 53)) (lv' := [(2, .int (nI (cs.length + 1))), (0, .ref 166), (1, .int (nI f))]) (st' := []) (h' := HN (PT (u2 G131 177 f (cs.length + 1)) q131 dd131 (100 * f) l131 w131 n131 op131) hl (RF rt)) rfl ?_
        refine Ev.ite (fun hc48 => ?_) (fun hc48 => ?_)
        · have hc48 : q131 = ((u2 G131 177 f (cs.length + 1)) 166 17) := (nI_eqU (by omega) (by omega)).mp hc48
          refine Ev.run 1 (pc' := 52) (lv' := [(2, .int (nI (cs.length + 1))), (0, .ref 166), (1, .int (nI f))]) (st' := [.int (nI 1)]) (h' := HN (PT (u2 G131 177 f (cs.length + 1)) q131 dd131 (100 * f) l131 w131 n131 op131) hl (RF rt)) rfl ?_
          refine Ev.ret (v := some (.int (nI 1))) rfl ?_
          have hE2 : R = (true, q131, l131, cs ++ [(k131, m131, 100 * f + l.length, 100 * f + l131.length)]) := by rw [← hE, goF]; simp only [hcl, if_true]; rw [if_pos (by omega)]
          exact hq.1 _ _ _ _ _ _ _ _ hE2 hgs (by rw [u2_at, List.length_append]; rfl) hl1 (by rw [← hg.1 166 (by decide) (by decide) (by decide) (by decide) (by decide)]; exact hl2)
        · have hc48 : ¬ (q131 = ((u2 G131 177 f (cs.length + 1)) 166 17)) := fun z => hc48 ((nI_eqU (by omega) (by omega)).mpr z)
          refine Ev.run 3 (pc' := (if nI (cs.length + 1) = nI 10 then 68 else 59)) (lv' := [(2, .int (nI (cs.length + 1))), (0, .ref 166), (1, .int (nI f))]) (st' := []) (h' := HN (PT (u2 G131 177 f (cs.length + 1)) q131 dd131 (100 * f) l131 w131 n131 op131) hl (RF rt)) rfl ?_
          refine Ev.ite (fun hc56 => ?_) (fun hc56 => ?_)
          · have hc56 : (cs.length + 1) = 10 := (nI_eqU (by omega) (by omega)).mp hc56
            refine Ev.run 1 (pc' := 69) (lv' := [(2, .int (nI (cs.length + 1))), (0, .ref 166), (1, .int (nI f))]) (st' := [.int (nI 0)]) (h' := HN (PT (u2 G131 177 f (cs.length + 1)) q131 dd131 (100 * f) l131 w131 n131 op131) hl (RF rt)) rfl ?_
            refine Ev.ret (v := some (.int (nI 0))) rfl ?_
            have hE2 : R = (false, q131, l131, cs ++ [(k131, m131, 100 * f + l.length, 100 * f + l131.length)]) := by rw [← hE, goF]; simp only [hcl, if_true]; rw [if_neg (by omega), if_pos (by omega)]
            exact hq.2 _ _ _ _ _ _ _ _ hE2 hgs hl1 (by rw [← hg.1 166 (by decide) (by decide) (by decide) (by decide) (by decide)]; exact hl2)
          · have hc56 : ¬ ((cs.length + 1) = 10) := fun z => hc56 ((nI_eqU (by omega) (by omega)).mpr z)
            refine Ev.run 2 (pc' := 62) (lv' := [(2, .int (nI (cs.length + 1))), (0, .ref 166), (1, .int (nI f))]) (st' := [.int (nI 59), .ref 166]) (h' := HN (PT (u2 G131 177 f (cs.length + 1)) q131 dd131 (100 * f) l131 w131 n131 op131) hl (RF rt)) rfl ?_
            refine Ev.call (a := 142) (as := [.ref 166, .int (nI 59)]) (rest := []) (lv0 := [(0, .ref 166), (1, .int (nI 59))]) (Q1 := (fun z0 h' => (pkS g q131 = 59 ∧ z0 = some (.int (nI 1)) ∧ h' = HN (PT (u2 G131 177 f (cs.length + 1)) (q131 + 1) dd131 (100 * f) l131 w131 n131 op131) hl (RF rt)) ∨ (¬ pkS g q131 = 59 ∧ z0 = some (.int (nI 0)) ∧ h' = HN (PT (u2 G131 177 f (cs.length + 1)) q131 dd131 (100 * f) l131 w131 n131 op131) hl (RF rt)))) rfl rfl (C_takes _ (u2 G131 177 f (cs.length + 1)) _ _ hF2 ht2 q131 dd131 (100 * f) l131 w131 n131 op131 59 (by omega) (by omega) ⟨fun z => Or.inl ⟨(congrFun hpk2 _).symm.trans z, rfl, rfl⟩, fun z => Or.inr ⟨fun y => z ((congrFun hpk2 _).trans y), rfl, rfl⟩⟩) (fun r h' hr => ?_)
            rcases hr with ⟨hk62, rfl, rfl⟩ | ⟨hk62, rfl, rfl⟩
            · skip
              refine Ev.run 1 (pc' := 15) (lv' := [(2, .int (nI (cs.length + 1))), (0, .ref 166), (1, .int (nI f))]) (st' := []) (h' := HN (PT (u2 G131 177 f (cs.length + 1)) (q131 + 1) dd131 (100 * f) l131 w131 n131 op131) hl (RF rt)) rfl ?_
              have hE2 : goF g (100 * f) m (q131 + 1) l131 (cs ++ [(k131, m131, 100 * f + l.length, 100 * f + l131.length)]) = R := by rw [← hE, goF]; simp only [hcl, if_true]; rw [if_neg (by omega), if_neg (by omega), if_pos hk62]
              rw [← goF_cg hpk2 hr17] at hE2
              have hpF : q131 < g 166 17 := pkS_lt (by omega)
              have hx := ih (u2 G131 177 f (cs.length + 1)) (q131 + 1) dd131 l131 (cs ++ [(k131, m131, 100 * f + l.length, 100 * f + l131.length)]) w131 n131 op131 (by rw [List.length_append]; show m + (cs.length + 1) = 10; omega) (by rw [List.length_append]; show cs.length + 1 < 10; omega) (hg.step hcr (by omega) hf) (by omega) (by omega) hE2 hLt2 hF2 ht2
              rw [List.length_append] at hx
              exact Ev.wk (Ext.cons rfl rfl (Ext.cons rfl rfl (Ext.cons rfl rfl (Ext.nil rfl)))) hx
            · skip
              refine Ev.run 2 (pc' := 69) (lv' := [(2, .int (nI (cs.length + 1))), (0, .ref 166), (1, .int (nI f))]) (st' := [.int (nI 0)]) (h' := HN (PT (u2 G131 177 f (cs.length + 1)) q131 dd131 (100 * f) l131 w131 n131 op131) hl (RF rt)) rfl ?_
              refine Ev.ret (v := some (.int (nI 0))) rfl ?_
              have hE2 : R = (false, q131, l131, cs ++ [(k131, m131, 100 * f + l.length, 100 * f + l131.length)]) := by rw [← hE, goF]; simp only [hcl, if_true]; rw [if_neg (by omega), if_neg (by omega), if_neg hk62]
              exact hq.2 _ _ _ _ _ _ _ _ hE2 hgs hl1 (by rw [← hg.1 166 (by decide) (by decide) (by decide) (by decide) (by decide)]; exact hl2)
      · skip
        refine Ev.run 2 (pc' := 29) (lv' := [(2, .int (nI cs.length)), (0, .ref 166), (1, .int (nI f))]) (st' := [.int (nI 0)]) (h' := HN (PT G131 q131 dd131 (100 * f) l131 w131 n131 op131) hl (RF rt)) rfl ?_
        refine Ev.ret (v := some (.int (nI 0))) rfl ?_
        have hE2 : R = (false, q131, l131, cs) := by rw [← hE, goF]; simp only [hcl, Bool.false_eq_true, if_false]
        exact hq.2 _ _ _ _ _ _ _ _ hE2 (hg.fail hcr (by omega) hf) hl1 (by rw [← hg.1 166 (by decide) (by decide) (by decide) (by decide) (by decide)]; exact hl2)
  exact key 10 g 0 _ [] [] _ _ _ rfl (by decide) ⟨fun _ _ _ _ _ _ => rfl, fun _ _ => rfl, fun _ _ _ _ => rfl, hwd, hnu, hcl6, fun j hj => absurd hj (Nat.not_lt_zero _)⟩ (Nat.le_refl _) (Nat.zero_le _) hR hLt hF ht
