/-! the whole text: clauses one after another -/
/-- c clauses are read, the next begins at p -/
def SgT (g : Nat → Nat → Nat) (b c p : Nat) (l0 : List Nat) (cs : List C4) (lk : List Nat) (le li : Nat) : Prop := c < 10 ∧ cs.length = c ∧ CSR b l0 cs lk le li ∧ p ≤ g 166 17 ∧ lk.length ≤ p ∧ goF g b 10 0 [] [] = goF g b (10 - c) p l0 cs
/-- c clauses are read, the last ended at q -/
def AS (g : Nat → Nat → Nat) (b c q : Nat) (l0 : List Nat) (cs : List C4) (lk : List Nat) (le li : Nat) : Prop := 1 ≤ c ∧ c ≤ 10 ∧ cs.length = c ∧ CSR b l0 cs lk le li ∧ q ≤ g 166 17 ∧ lk.length ≤ q ∧ goF g b 10 0 [] [] = if q = g 166 17 then (true, q, l0, cs) else if c = 10 then (false, q, l0, cs) else if pkS g q = 59 then goF g b (10 - c) (q + 1) l0 cs else (false, q, l0, cs)
theorem SgT.nil (g : Nat → Nat → Nat) (b : Nat) : SgT g b 0 0 [] [] [] 3 3 := ⟨by decide, rfl, CSR.nil b, Nat.zero_le _, Nat.le_refl _, rfl⟩
theorem goF_ok {g : Nat → Nat → Nat} {b m p q kd mm : Nat} {l l2 : List Nat} (cs : List C4) (h : clS g p l = (true, q, l2, kd, mm)) : goF g b (m + 1) p l cs = if q = g 166 17 then (true, q, l2, cs ++ [(kd, mm, b + l.length, b + l2.length)]) else if m = 0 then (false, q, l2, cs ++ [(kd, mm, b + l.length, b + l2.length)]) else if pkS g q = 59 then goF g b m (q + 1) l2 (cs ++ [(kd, mm, b + l.length, b + l2.length)]) else (false, q, l2, cs ++ [(kd, mm, b + l.length, b + l2.length)]) := by
  rw [goF, h]
  exact if_pos rfl
theorem goF_no {g : Nat → Nat → Nat} {b m p q kd mm : Nat} {l l2 : List Nat} (cs : List C4) (h : clS g p l = (false, q, l2, kd, mm)) : goF g b (m + 1) p l cs = (false, q, l2, cs) := by
  rw [goF, h]
  exact if_neg (by exact Bool.false_ne_true)
section GO
variable {g : Nat → Nat → Nat} {b c p q : Nat} {l0 : List Nat} {cs : List C4} {lk : List Nat} {le li : Nat}
theorem SgT.as {kd mm : Nat} {l2 lk2 : List Nat} {le2 li2 : Nat} (h : SgT g b c p l0 cs lk le li) (e : clS g p l0 = (true, q, l2, kd, mm)) (hq : q ≤ g 166 17) (k : CSR b l2 (cs ++ [(kd, mm, b + l0.length, b + l2.length)]) lk2 le2 li2) (hl : lk2.length ≤ q) : AS g b (c + 1) q l2 (cs ++ [(kd, mm, b + l0.length, b + l2.length)]) lk2 le2 li2 := by
  obtain ⟨h1, h2, h3, h4, h5, h6⟩ := h
  refine ⟨by omega, by omega, by rw [List.length_append, h2]; rfl, k, hq, hl, ?_⟩
  rw [h6, show 10 - c = (10 - (c + 1)) + 1 by omega, goF_ok cs e]
  by_cases z : c + 1 = 10
  · rw [if_pos z, if_pos (show 10 - (c + 1) = 0 by omega)]
  · rw [if_neg z, if_neg (show ¬ 10 - (c + 1) = 0 by omega)]
theorem SgT.x (h : SgT g b c p l0 cs lk le li) (k : KFx g p q) : ∃ l2 cs2, goF g b 10 0 [] [] = (false, q, l2, cs2) := by
  obtain ⟨h1, h2, h3, h4, h5, h6⟩ := h
  obtain ⟨l2, kd, mm, e⟩ := k.1 l0
  exact ⟨l2, cs, by rw [h6, show 10 - c = (9 - c) + 1 by omega, goF_no cs e]⟩
theorem AS.go (h : AS g b c q l0 cs lk le li) (h1 : q < g 166 17) (h2 : c < 10) (h3 : pkS g q = 59) : SgT g b c (q + 1) l0 cs lk le li := by
  obtain ⟨a1, a2, a3, a4, a5, a6, a7⟩ := h
  refine ⟨h2, a3, a4, by omega, by omega, ?_⟩
  rw [a7, if_neg (by omega), if_neg (by omega), if_pos h3]
theorem AS.fin (h : AS g b c q l0 cs lk le li) (h1 : q = g 166 17) : goF g b 10 0 [] [] = (true, q, l0, cs) := by
  rw [h.2.2.2.2.2.2, if_pos h1]
theorem AS.x (h : AS g b c q l0 cs lk le li) (h1 : q < g 166 17) (h2 : c = 10 ∨ ¬ pkS g q = 59) : goF g b 10 0 [] [] = (false, q, l0, cs) := by
  rw [h.2.2.2.2.2.2, if_neg (by omega)]
  by_cases z : c = 10
  · rw [if_pos z]
  · rcases h2 with y | y
    · exact absurd y z
    · rw [if_neg z, if_neg y]
theorem SgT.kn {lx : List Nat} (h : SgT g b c p l0 cs lk le li) (k : KKn g p q lx) (lk2 : List Nat) (e : lk2 = if lk.isEmpty = true then lx else lk ++ (lx ++ [4294967172])) : AS g b (c + 1) q (l0 ++ lx) (cs ++ [(0, 0, b + l0.length, b + (l0 ++ lx).length)]) lk2 le li := by
  obtain ⟨k1, k2, k3, k4, k5⟩ := k
  have h5 := h.2.2.2.2.1
  have sr : SR lk2 := by
    rw [e]
    split
    · exact k3
    · exact h.2.2.1.2.2.2.2.app (k3.app (SR.one (fun z => by omega)))
  refine h.as (k1 l0) k5 (h.2.2.1.more (0, 0, b + l0.length, b + (l0 ++ lx).length) lx (fun _ => ⟨rfl, rfl, k2⟩) lk2 (by rw [e]; exact (if_pos rfl).symm) sr) ?_
  rw [e]
  split
  · omega
  · rw [List.length_append, List.length_append]
    show lk.length + (lx.length + 1) ≤ q
    omega
theorem SgT.nu {kd m : Nat} (h : SgT g b c p l0 cs lk le li) (h0 : kd ≠ 0) (k : KNu g p q kd m) : AS g b (c + 1) q l0 (cs ++ [(kd, m, b + l0.length, b + l0.length)]) lk (if kd = 1 then m else le) (if kd = 2 then m else li) := by
  have h5 := h.2.2.2.2.1
  have z := h.2.2.1.more (kd, m, b + l0.length, b + l0.length) [] (fun z => absurd z h0) lk (if_neg h0).symm h.2.2.1.2.2.2.2
  rw [List.append_nil] at z
  exact h.as (k.1 l0) k.2.2.1 z (by have := k.2.1; omega)
end GO
theorem isE {lk lx : List Nat} (h : lk.length = 0) : lk ++ lx = if lk.isEmpty = true then lx else lk ++ (lx ++ [4294967172]) := by
  cases lk with
  | nil => rfl
  | cons a t => cases h
theorem isE2 {lk lx : List Nat} (h : ¬ lk.length = 0) (h2 : (lk ++ lx).length < 100) : plT (lk ++ lx) 4294967172 = if lk.isEmpty = true then lx else lk ++ (lx ++ [4294967172]) := by
  rw [plT_lt h2, List.append_assoc]
  cases lk with
  | nil => exact absurd rfl h
  | cons a t => rfl
theorem K_pturn {L : Nat} {xs : Nat → Int32} (d : Nat) (g : Nat → Nat → Nat) (hl : Nat → Nat → Int64) (T c e : Nat) (hT : TbT T) (hX : TX g) (p le li : Nat) (l : List Nat) (c0 : Nat) (hc : c0 ≤ 10) (hp : p ≤ g 166 17) (hlp : l.length ≤ p) {Q : Po} (hq : (p < g 166 17 → c0 < 10 → pkS g p = 59 → (∀ q lx, KKn g (p + 1) q lx → l.length = 0 → Ev L xs (d + 18) 51 33 [(3, .int (nI (c0 + 1))), (0, .ref 5)] [] (HN (RT g T q 0 le li (l ++ lx)) hl (RF (3, T, c, e))) Q) ∧ (∀ q lx, KKn g (p + 1) q lx → ¬ l.length = 0 → Ev L xs (d + 18) 51 33 [(3, .int (nI (c0 + 1))), (0, .ref 5)] [] (HN (RT g T q 0 le li (plT (l ++ lx) 4294967172)) hl (RF (3, T, c, e))) Q) ∧ (∀ q m, KNu g (p + 1) q 1 m → Ev L xs (d + 18) 51 33 [(3, .int (nI (c0 + 1))), (0, .ref 5)] [] (HN (RT g T q 0 m li l) hl (RF (3, T, c, e))) Q) ∧ (∀ q m, KNu g (p + 1) q 2 m → Ev L xs (d + 18) 51 33 [(3, .int (nI (c0 + 1))), (0, .ref 5)] [] (HN (RT g T q 0 le m l) hl (RF (3, T, c, e))) Q) ∧ (∀ q le' li' l', KFx g (p + 1) q → l'.length ≤ 100 → Q (some (.int (nI q))) (HN (RT g T q 1 le' li' l') hl (RF (3, T, c, e))))) ∧ (p < g 166 17 → (c0 = 10 ∨ ¬ pkS g p = 59) → ∀ fl' le' li' l', l'.length ≤ 100 → Q (some (.int (nI p))) (HN (RT g T p fl' le' li' l') hl (RF (3, T, c, e)))) ∧ (p = g 166 17 → Q (some (.int (nI 4294967295))) (HN (RT g T p 0 le li l) hl (RF (3, T, c, e))))) : Ev L xs (d + 18) 51 33 [(3, .int (nI c0)), (0, .ref 5)] [] (HN (RT g T p 0 le li l) hl (RF (3, T, c, e))) Q := by
  have hN := hX.1
  have h31 := hX.2.2.1
  refine Ev.run 3 (pc' := (if nI 10 ≤ nI c0 then 76 else 39)) (lv' := [(3, .int (nI c0)), (0, .ref 5)]) (st' := []) (h' := HN (RT g T p 0 le li l) hl (RF (3, T, c, e))) rfl ?_
  refine Ev.ite (fun hc36 => ?_) (fun hc36 => ?_)
  · have hc36 : 10 ≤ c0 := (nI_leI (by omega) (by omega)).mp hc36
    refine Ev.run 8 (pc' := 94) (lv' := [(3, .int (nI c0)), (0, .ref 5)]) (st' := [.int (nI ((RT g T p 0 le li l) 3 1)), .int (nI p)]) (h' := HN (RT g T p 0 le li l) hl (RF (3, T, c, e))) rfl ?_
    refine Ev.topI (congrArg nI (RT_o _ _ _ _ _ _ hT (show 3 < 136 ∧ 3 ≠ 5 by decide) _)) ?_
    refine Ev.run 1 (pc' := (if nI (g 3 1) ≤ nI p then 104 else 97)) (lv' := [(3, .int (nI c0)), (0, .ref 5)]) (st' := []) (h' := HN (RT g T p 0 le li l) hl (RF (3, T, c, e))) rfl ?_
    refine Ev.ite (fun hc94 => ?_) (fun hc94 => ?_)
    · have hc94 : (g 3 1) ≤ p := (nI_leI (by omega) (by omega)).mp hc94
      refine Ev.run 1 (pc' := 105) (lv' := [(3, .int (nI c0)), (0, .ref 5)]) (st' := [.int (nI 4294967295)]) (h' := HN (RT g T p 0 le li l) hl (RF (3, T, c, e))) rfl ?_
      refine Ev.ret (v := some (.int (nI 4294967295))) rfl ?_
      first
        | exact hq.2.2 (by omega)
        | exact hq.2.1 (by omega) (Or.inl (by omega)) _ _ _ _ (by first | omega | assumption)
        | exact hq.2.1 (by omega) (Or.inr hxs) _ _ _ _ (by first | omega | assumption)
        | exact (hq.1 (by omega) (by omega) hxs).2.2.2.2 _ _ _ _ hv hvl
    · have hc94 : ¬ ((g 3 1) ≤ p) := fun z => hc94 ((nI_leI (by omega) (by omega)).mpr z)
      refine Ev.run 3 (pc' := 105) (lv' := [(3, .int (nI c0)), (0, .ref 5)]) (st' := [.int (nI p)]) (h' := HN (RT g T p 0 le li l) hl (RF (3, T, c, e))) rfl ?_
      refine Ev.ret (v := some (.int (nI p))) rfl ?_
      first
        | exact hq.2.2 (by omega)
        | exact hq.2.1 (by omega) (Or.inl (by omega)) _ _ _ _ (by first | omega | assumption)
        | exact hq.2.1 (by omega) (Or.inr hxs) _ _ _ _ (by first | omega | assumption)
        | exact (hq.1 (by omega) (by omega) hxs).2.2.2.2 _ _ _ _ hv hvl
  · have hc36 : ¬ (10 ≤ c0) := fun z => hc36 ((nI_leI (by omega) (by omega)).mpr z)
    refine Ev.run 8 (pc' := 57) (lv' := [(3, .int (nI c0)), (0, .ref 5)]) (st' := [.int (nI ((RT g T p 0 le li l) 3 1)), .int (nI p)]) (h' := HN (RT g T p 0 le li l) hl (RF (3, T, c, e))) rfl ?_
    refine Ev.topI (congrArg nI (RT_o _ _ _ _ _ _ hT (show 3 < 136 ∧ 3 ≠ 5 by decide) _)) ?_
    refine Ev.run 1 (pc' := (if nI (g 3 1) ≤ nI p then 76 else 60)) (lv' := [(3, .int (nI c0)), (0, .ref 5)]) (st' := []) (h' := HN (RT g T p 0 le li l) hl (RF (3, T, c, e))) rfl ?_
    refine Ev.ite (fun hc57 => ?_) (fun hc57 => ?_)
    · have hc57 : (g 3 1) ≤ p := (nI_leI (by omega) (by omega)).mp hc57
      refine Ev.run 8 (pc' := 94) (lv' := [(3, .int (nI c0)), (0, .ref 5)]) (st' := [.int (nI ((RT g T p 0 le li l) 3 1)), .int (nI p)]) (h' := HN (RT g T p 0 le li l) hl (RF (3, T, c, e))) rfl ?_
      refine Ev.topI (congrArg nI (RT_o _ _ _ _ _ _ hT (show 3 < 136 ∧ 3 ≠ 5 by decide) _)) ?_
      refine Ev.run 1 (pc' := (if nI (g 3 1) ≤ nI p then 104 else 97)) (lv' := [(3, .int (nI c0)), (0, .ref 5)]) (st' := []) (h' := HN (RT g T p 0 le li l) hl (RF (3, T, c, e))) rfl ?_
      refine Ev.ite (fun hc94 => ?_) (fun hc94 => ?_)
      · have hc94 : (g 3 1) ≤ p := (nI_leI (by omega) (by omega)).mp hc94
        refine Ev.run 1 (pc' := 105) (lv' := [(3, .int (nI c0)), (0, .ref 5)]) (st' := [.int (nI 4294967295)]) (h' := HN (RT g T p 0 le li l) hl (RF (3, T, c, e))) rfl ?_
        refine Ev.ret (v := some (.int (nI 4294967295))) rfl ?_
        first
          | exact hq.2.2 (by omega)
          | exact hq.2.1 (by omega) (Or.inl (by omega)) _ _ _ _ (by first | omega | assumption)
          | exact hq.2.1 (by omega) (Or.inr hxs) _ _ _ _ (by first | omega | assumption)
          | exact (hq.1 (by omega) (by omega) hxs).2.2.2.2 _ _ _ _ hv hvl
      · have hc94 : ¬ ((g 3 1) ≤ p) := fun z => hc94 ((nI_leI (by omega) (by omega)).mpr z)
        refine Ev.run 3 (pc' := 105) (lv' := [(3, .int (nI c0)), (0, .ref 5)]) (st' := [.int (nI p)]) (h' := HN (RT g T p 0 le li l) hl (RF (3, T, c, e))) rfl ?_
        refine Ev.ret (v := some (.int (nI p))) rfl ?_
        first
          | exact hq.2.2 (by omega)
          | exact hq.2.1 (by omega) (Or.inl (by omega)) _ _ _ _ (by first | omega | assumption)
          | exact hq.2.1 (by omega) (Or.inr hxs) _ _ _ _ (by first | omega | assumption)
          | exact (hq.1 (by omega) (by omega) hxs).2.2.2.2 _ _ _ _ hv hvl
    · have hc57 : ¬ ((g 3 1) ≤ p) := fun z => hc57 ((nI_leI (by omega) (by omega)).mpr z)
      refine Ev.run 2 (pc' := 63) (lv' := [(3, .int (nI c0)), (0, .ref 5)]) (st' := [.int (nI 59), .ref 5]) (h' := HN (RT g T p 0 le li l) hl (RF (3, T, c, e))) rfl ?_
      refine Ev.call (a := 58) (as := [.ref 5, .int (nI 59)]) (rest := []) (lv0 := [(0, .ref 5), (1, .int (nI 59))]) (Q1 := (fun z0 h' => (pkS g p = 59 ∧ z0 = none ∧ h' = HN (RT g T (p + 1) 0 le li l) hl (RF (3, T, c, e))) ∨ (¬ pkS g p = 59 ∧ z0 = none ∧ h' = HN (RT g T p 1 le li l) hl (RF (3, T, c, e))))) rfl rfl (K_exp0 _ _ _ _ _ _ hT hX p le li l 59 (by omega) (by decide) (by decide) ⟨fun hz => Or.inl ⟨hz, rfl, rfl⟩, fun hz => Or.inr ⟨hz, rfl, rfl⟩⟩) (fun r h' hr => ?_)
      rcases hr with ⟨hxs, rfl, rfl⟩ | ⟨hxs, rfl, rfl⟩
      · skip
        refine Ev.run 1 (pc' := 67) (lv' := [(3, .int (nI c0)), (0, .ref 5)]) (st' := [.ref 5]) (h' := HN (RT g T (p + 1) 0 le li l) hl (RF (3, T, c, e))) rfl ?_
        refine Ev.call (a := 52) (as := [.ref 5]) (rest := []) (lv0 := [(0, .ref 5)]) (Q1 := (fun z0 h' => (∃ (q : Nat) (lx : List Nat), KKn g (p + 1) q lx ∧ l.length = 0 ∧ z0 = none ∧ h' = HN (RT g T q 0 le li (l ++ lx)) hl (RF (3, T, c, e))) ∨ (∃ (q : Nat) (lx : List Nat), KKn g (p + 1) q lx ∧ ¬ l.length = 0 ∧ z0 = none ∧ h' = HN (RT g T q 0 le li (plT (l ++ lx) 4294967172)) hl (RF (3, T, c, e))) ∨ (∃ (q m : Nat), KNu g (p + 1) q 1 m ∧ z0 = none ∧ h' = HN (RT g T q 0 m li l) hl (RF (3, T, c, e))) ∨ (∃ (q m : Nat), KNu g (p + 1) q 2 m ∧ z0 = none ∧ h' = HN (RT g T q 0 le m l) hl (RF (3, T, c, e))) ∨ (∃ (q le' li' : Nat) (l' : List Nat), KFx g (p + 1) q ∧ l'.length ≤ 100 ∧ z0 = none ∧ h' = HN (RT g T q 1 le' li' l') hl (RF (3, T, c, e))))) rfl rfl (K_clause _ _ _ _ _ _ hT hX (p + 1) le li l (by omega) (by first | omega | exact Nat.le_refl _) ⟨fun q lx hz => ⟨fun z => Or.inl ⟨q, lx, hz, z, rfl, rfl⟩, fun z => Or.inr (Or.inl ⟨q, lx, hz, z, rfl, rfl⟩)⟩, fun q m hz => Or.inr (Or.inr (Or.inl ⟨q, m, hz, rfl, rfl⟩)), fun q m hz => Or.inr (Or.inr (Or.inr (Or.inl ⟨q, m, hz, rfl, rfl⟩))), fun q le' li' l' hz hz2 => Or.inr (Or.inr (Or.inr (Or.inr ⟨q, le', li', l', hz, hz2, rfl, rfl⟩)))⟩) (fun r h' hr => ?_)
        rcases hr with ⟨qv, lv, hv, hv0, rfl, rfl⟩ | ⟨qv, lv, hv, hv0, rfl, rfl⟩ | ⟨qv, mv, hv, rfl, rfl⟩ | ⟨qv, mv, hv, rfl, rfl⟩ | ⟨qv, lev, liv, lv, hv, hvl, rfl, rfl⟩
        · skip
          refine Ev.run 1 (pc' := 73) (lv' := [(3, .int (nI c0 + 1)), (0, .ref 5)]) (st' := []) (h' := HN (RT g T qv 0 le li (l ++ lv)) hl (RF (3, T, c, e))) rfl ?_
          refine Ev.lvE (congrArg (fun z => (3, Value.int z) :: [(0, .ref 5)]) (nI_1 _)) ?_
          refine Ev.run 1 (pc' := 33) (lv' := [(3, .int (nI (c0 + 1))), (0, .ref 5)]) (st' := []) (h' := HN (RT g T qv 0 le li (l ++ lv)) hl (RF (3, T, c, e))) rfl ?_
          exact Ev.wk (Ext.cons rfl rfl (Ext.cons rfl rfl (Ext.nil rfl))) ((hq.1 (by omega) (by omega) hxs).1 _ _ hv hv0)
        · skip
          refine Ev.run 1 (pc' := 73) (lv' := [(3, .int (nI c0 + 1)), (0, .ref 5)]) (st' := []) (h' := HN (RT g T qv 0 le li (plT (l ++ lv) 4294967172)) hl (RF (3, T, c, e))) rfl ?_
          refine Ev.lvE (congrArg (fun z => (3, Value.int z) :: [(0, .ref 5)]) (nI_1 _)) ?_
          refine Ev.run 1 (pc' := 33) (lv' := [(3, .int (nI (c0 + 1))), (0, .ref 5)]) (st' := []) (h' := HN (RT g T qv 0 le li (plT (l ++ lv) 4294967172)) hl (RF (3, T, c, e))) rfl ?_
          exact Ev.wk (Ext.cons rfl rfl (Ext.cons rfl rfl (Ext.nil rfl))) ((hq.1 (by omega) (by omega) hxs).2.1 _ _ hv hv0)
        · skip
          refine Ev.run 1 (pc' := 73) (lv' := [(3, .int (nI c0 + 1)), (0, .ref 5)]) (st' := []) (h' := HN (RT g T qv 0 mv li l) hl (RF (3, T, c, e))) rfl ?_
          refine Ev.lvE (congrArg (fun z => (3, Value.int z) :: [(0, .ref 5)]) (nI_1 _)) ?_
          refine Ev.run 1 (pc' := 33) (lv' := [(3, .int (nI (c0 + 1))), (0, .ref 5)]) (st' := []) (h' := HN (RT g T qv 0 mv li l) hl (RF (3, T, c, e))) rfl ?_
          exact Ev.wk (Ext.cons rfl rfl (Ext.cons rfl rfl (Ext.nil rfl))) ((hq.1 (by omega) (by omega) hxs).2.2.1 _ _ hv)
        · skip
          refine Ev.run 1 (pc' := 73) (lv' := [(3, .int (nI c0 + 1)), (0, .ref 5)]) (st' := []) (h' := HN (RT g T qv 0 le mv l) hl (RF (3, T, c, e))) rfl ?_
          refine Ev.lvE (congrArg (fun z => (3, Value.int z) :: [(0, .ref 5)]) (nI_1 _)) ?_
          refine Ev.run 1 (pc' := 33) (lv' := [(3, .int (nI (c0 + 1))), (0, .ref 5)]) (st' := []) (h' := HN (RT g T qv 0 le mv l) hl (RF (3, T, c, e))) rfl ?_
          exact Ev.wk (Ext.cons rfl rfl (Ext.cons rfl rfl (Ext.nil rfl))) ((hq.1 (by omega) (by omega) hxs).2.2.2.1 _ _ hv)
        · skip
          have hv2 := hv.2.2
          refine Ev.run 1 (pc' := 73) (lv' := [(3, .int (nI c0 + 1)), (0, .ref 5)]) (st' := []) (h' := HN (RT g T qv 1 lev liv lv) hl (RF (3, T, c, e))) rfl ?_
          refine Ev.lvE (congrArg (fun z => (3, Value.int z) :: [(0, .ref 5)]) (nI_1 _)) ?_
          refine Ev.run 1 (pc' := 33) (lv' := [(3, .int (nI (c0 + 1))), (0, .ref 5)]) (st' := []) (h' := HN (RT g T qv 1 lev liv lv) hl (RF (3, T, c, e))) rfl ?_
          refine Ev.run 3 (pc' := (if nI 10 ≤ nI (c0 + 1) then 76 else 39)) (lv' := [(3, .int (nI (c0 + 1))), (0, .ref 5)]) (st' := []) (h' := HN (RT g T qv 1 lev liv lv) hl (RF (3, T, c, e))) rfl ?_
          refine Ev.ite (fun hc36 => ?_) (fun hc36 => ?_)
          · have hc36 : 10 ≤ (c0 + 1) := (nI_leI (by omega) (by omega)).mp hc36
            refine Ev.run 6 (pc' := 105) (lv' := [(3, .int (nI (c0 + 1))), (0, .ref 5)]) (st' := [.int (nI qv)]) (h' := HN (RT g T qv 1 lev liv lv) hl (RF (3, T, c, e))) rfl ?_
            refine Ev.ret (v := some (.int (nI qv))) rfl ?_
            first
              | exact hq.2.2 (by omega)
              | exact hq.2.1 (by omega) (Or.inl (by omega)) _ _ _ _ (by first | omega | assumption)
              | exact hq.2.1 (by omega) (Or.inr hxs) _ _ _ _ (by first | omega | assumption)
              | exact (hq.1 (by omega) (by omega) hxs).2.2.2.2 _ _ _ _ hv hvl
          · have hc36 : ¬ (10 ≤ (c0 + 1)) := fun z => hc36 ((nI_leI (by omega) (by omega)).mpr z)
            refine Ev.run 9 (pc' := 105) (lv' := [(3, .int (nI (c0 + 1))), (0, .ref 5)]) (st' := [.int (nI qv)]) (h' := HN (RT g T qv 1 lev liv lv) hl (RF (3, T, c, e))) rfl ?_
            refine Ev.ret (v := some (.int (nI qv))) rfl ?_
            first
              | exact hq.2.2 (by omega)
              | exact hq.2.1 (by omega) (Or.inl (by omega)) _ _ _ _ (by first | omega | assumption)
              | exact hq.2.1 (by omega) (Or.inr hxs) _ _ _ _ (by first | omega | assumption)
              | exact (hq.1 (by omega) (by omega) hxs).2.2.2.2 _ _ _ _ hv hvl
      · skip
        refine Ev.run 1 (pc' := 67) (lv' := [(3, .int (nI c0)), (0, .ref 5)]) (st' := [.ref 5]) (h' := HN (RT g T p 1 le li l) hl (RF (3, T, c, e))) rfl ?_
        refine Ev.call (a := 52) (as := [.ref 5]) (rest := []) (lv0 := [(0, .ref 5)]) (Q1 := (fun z0 h' => z0 = none ∧ ∃ (le' li' : Nat) (l' : List Nat), l'.length ≤ 100 ∧ h' = HN (RT g T p 1 le' li' l') hl (RF (3, T, c, e)))) rfl rfl (K_clause1 _ _ _ _ _ _ hT hX p le li l (by omega) (by first | omega | assumption) (fun le' li' l' hl' => ⟨rfl, le', li', l', hl', rfl⟩)) (fun r h' hr => ?_)
        obtain ⟨rfl, lez, liz, lz, hlz, rfl⟩ := hr
        refine Ev.run 1 (pc' := 73) (lv' := [(3, .int (nI c0 + 1)), (0, .ref 5)]) (st' := []) (h' := HN (RT g T p 1 lez liz lz) hl (RF (3, T, c, e))) rfl ?_
        refine Ev.lvE (congrArg (fun z => (3, Value.int z) :: [(0, .ref 5)]) (nI_1 _)) ?_
        refine Ev.run 1 (pc' := 33) (lv' := [(3, .int (nI (c0 + 1))), (0, .ref 5)]) (st' := []) (h' := HN (RT g T p 1 lez liz lz) hl (RF (3, T, c, e))) rfl ?_
        refine Ev.run 3 (pc' := (if nI 10 ≤ nI (c0 + 1) then 76 else 39)) (lv' := [(3, .int (nI (c0 + 1))), (0, .ref 5)]) (st' := []) (h' := HN (RT g T p 1 lez liz lz) hl (RF (3, T, c, e))) rfl ?_
        refine Ev.ite (fun hc36 => ?_) (fun hc36 => ?_)
        · have hc36 : 10 ≤ (c0 + 1) := (nI_leI (by omega) (by omega)).mp hc36
          refine Ev.run 6 (pc' := 105) (lv' := [(3, .int (nI (c0 + 1))), (0, .ref 5)]) (st' := [.int (nI p)]) (h' := HN (RT g T p 1 lez liz lz) hl (RF (3, T, c, e))) rfl ?_
          refine Ev.ret (v := some (.int (nI p))) rfl ?_
          first
            | exact hq.2.2 (by omega)
            | exact hq.2.1 (by omega) (Or.inl (by omega)) _ _ _ _ (by first | omega | assumption)
            | exact hq.2.1 (by omega) (Or.inr hxs) _ _ _ _ (by first | omega | assumption)
            | exact (hq.1 (by omega) (by omega) hxs).2.2.2.2 _ _ _ _ hv hvl
        · have hc36 : ¬ (10 ≤ (c0 + 1)) := fun z => hc36 ((nI_leI (by omega) (by omega)).mpr z)
          refine Ev.run 9 (pc' := 105) (lv' := [(3, .int (nI (c0 + 1))), (0, .ref 5)]) (st' := [.int (nI p)]) (h' := HN (RT g T p 1 lez liz lz) hl (RF (3, T, c, e))) rfl ?_
          refine Ev.ret (v := some (.int (nI p))) rfl ?_
          first
            | exact hq.2.2 (by omega)
            | exact hq.2.1 (by omega) (Or.inl (by omega)) _ _ _ _ (by first | omega | assumption)
            | exact hq.2.1 (by omega) (Or.inr hxs) _ _ _ _ (by first | omega | assumption)
            | exact (hq.1 (by omega) (by omega) hxs).2.2.2.2 _ _ _ _ hv hvl
theorem K_ploop {L : Nat} {xs : Nat → Int32} (d : Nat) (g : Nat → Nat → Nat) (hl : Nat → Nat → Int64) (T c e : Nat) (hT : TbT T) (hX : TX g) (b : Nat) {Q : Po} (hq : (∀ l0 cs lk le li, goF g b 10 0 [] [] = (true, g 166 17, l0, cs) → CSR b l0 cs lk le li → lk.length ≤ 100 → cs.length ≤ 10 → Q (some (.int (nI 4294967295))) (HN (RT g T (g 166 17) 0 le li lk) hl (RF (3, T, c, e)))) ∧ (∀ q l2 cs2 fl' le' li' l', goF g b 10 0 [] [] = (false, q, l2, cs2) → q ≤ g 166 17 → l'.length ≤ 100 → Q (some (.int (nI q))) (HN (RT g T q fl' le' li' l') hl (RF (3, T, c, e))))) : ∀ c0, c0 ≤ 10 → ∀ (q : Nat) (l0 : List Nat) (cs : List C4) (lk : List Nat) (le li : Nat), AS g b c0 q l0 cs lk le li → Ev L xs (d + 18) 51 33 [(3, .int (nI c0)), (0, .ref 5)] [] (HN (RT g T q 0 le li lk) hl (RF (3, T, c, e))) Q := by
  have hN := hX.1
  refine fun c0 => for_ind 10 (fun c0 => ∀ (q : Nat) (l0 : List Nat) (cs : List C4) (lk : List Nat) (le li : Nat), AS g b c0 q l0 cs lk le li → Ev L xs (d + 18) 51 33 [(3, .int (nI c0)), (0, .ref 5)] [] (HN (RT g T q 0 le li lk) hl (RF (3, T, c, e))) Q) (fun c0 hc hnext => ?_) c0
  intro q l0 cs lk le li h
  have a2 := h.2.1
  have a5 := h.2.2.2.2.1
  have a6 := h.2.2.2.2.2.1
  refine K_pturn d g hl T c e hT hX q le li lk c0 hc a5 a6 ⟨fun h1 h2 h3 => ?_, fun h1 h2 fl' le' li' l' hl' => ?_, fun h1 => ?_⟩
  · have st := h.go h1 h2 h3
    refine ⟨fun q2 lx hk h0 => ?_, fun q2 lx hk h0 => ?_, fun q2 m hk => ?_, fun q2 m hk => ?_, fun q2 le' li' l' hk hl' => ?_⟩
    · exact hnext (by omega) _ _ _ _ _ _ (st.kn hk _ (isE h0))
    · exact hnext (by omega) _ _ _ _ _ _ (st.kn hk _ (isE2 h0 (by
        have e1 := hk.2.2.2.1
        have e2 := hk.2.2.2.2
        rw [List.length_append]
        omega)))
    · exact hnext (by omega) _ _ _ _ _ _ (st.nu (by decide) hk)
    · exact hnext (by omega) _ _ _ _ _ _ (st.nu (by decide) hk)
    · obtain ⟨l2, cs2, e2⟩ := st.x hk
      exact hq.2 _ _ _ _ _ _ _ e2 hk.2.2 hl'
  · exact hq.2 _ _ _ _ _ _ _ (h.x h1 h2) a5 hl'
  · have e2 := h.fin h1
    subst h1
    exact hq.1 _ _ _ _ _ e2 h.2.2.2.1 (by omega) (by rw [h.2.2.1]; exact a2)
theorem K_par {L : Nat} {xs : Nat → Int32} (d : Nat) (g : Nat → Nat → Nat) (hl : Nat → Nat → Int64) (T c e : Nat) (hT : TbT T) (hX : TX g) (b : Nat) {Q : Po} (hq : (∀ l0 cs lk le li, goF g b 10 0 [] [] = (true, g 166 17, l0, cs) → CSR b l0 cs lk le li → lk.length ≤ 100 → cs.length ≤ 10 → Q (some (.int (nI 4294967295))) (HN (RT g T (g 166 17) 0 le li lk) hl (RF (3, T, c, e)))) ∧ (∀ q l2 cs2 fl' le' li' l', goF g b 10 0 [] [] = (false, q, l2, cs2) → q ≤ g 166 17 → l'.length ≤ 100 → Q (some (.int (nI q))) (HN (RT g T q fl' le' li' l') hl (RF (3, T, c, e))))) : Ev L xs (d + 18) 51 27 [(0, .ref 5), (1, .ref 3), (2, .ref T)] [] (HN (RT g T 0 0 3 3 ([])) hl (RF (3, T, c, e))) Q := by
  have hN := hX.1
  have h31 := hX.2.2.1
  have hst := SgT.nil g b
  refine Ev.run 1 (pc' := 28) (lv' := [(0, .ref 5), (1, .ref 3), (2, .ref T)]) (st' := [.ref 5]) (h' := HN (RT g T 0 0 3 3 ([])) hl (RF (3, T, c, e))) rfl ?_
  refine Ev.call (a := 52) (as := [.ref 5]) (rest := []) (lv0 := [(0, .ref 5)]) (Q1 := (fun z0 h' => (∃ (q : Nat) (lx : List Nat), KKn g 0 q lx ∧ ([]).length = 0 ∧ z0 = none ∧ h' = HN (RT g T q 0 3 3 ([] ++ lx)) hl (RF (3, T, c, e))) ∨ (∃ (q : Nat) (lx : List Nat), KKn g 0 q lx ∧ ¬ ([]).length = 0 ∧ z0 = none ∧ h' = HN (RT g T q 0 3 3 (plT ([] ++ lx) 4294967172)) hl (RF (3, T, c, e))) ∨ (∃ (q m : Nat), KNu g 0 q 1 m ∧ z0 = none ∧ h' = HN (RT g T q 0 m 3 ([])) hl (RF (3, T, c, e))) ∨ (∃ (q m : Nat), KNu g 0 q 2 m ∧ z0 = none ∧ h' = HN (RT g T q 0 3 m ([])) hl (RF (3, T, c, e))) ∨ (∃ (q le' li' : Nat) (l' : List Nat), KFx g 0 q ∧ l'.length ≤ 100 ∧ z0 = none ∧ h' = HN (RT g T q 1 le' li' l') hl (RF (3, T, c, e))))) rfl rfl (K_clause _ _ _ _ _ _ hT hX 0 3 3 ([]) (by omega) (by first | omega | exact Nat.le_refl _) ⟨fun q lx hz => ⟨fun z => Or.inl ⟨q, lx, hz, z, rfl, rfl⟩, fun z => Or.inr (Or.inl ⟨q, lx, hz, z, rfl, rfl⟩)⟩, fun q m hz => Or.inr (Or.inr (Or.inl ⟨q, m, hz, rfl, rfl⟩)), fun q m hz => Or.inr (Or.inr (Or.inr (Or.inl ⟨q, m, hz, rfl, rfl⟩))), fun q le' li' l' hz hz2 => Or.inr (Or.inr (Or.inr (Or.inr ⟨q, le', li', l', hz, hz2, rfl, rfl⟩)))⟩) (fun r h' hr => ?_)
  rcases hr with ⟨qv, lv, hv, hv0, rfl, rfl⟩ | ⟨qv, lv, hv, hv0, rfl, rfl⟩ | ⟨qv, mv, hv, rfl, rfl⟩ | ⟨qv, mv, hv, rfl, rfl⟩ | ⟨qv, lev, liv, lv, hv, hvl, rfl, rfl⟩
  · skip
    refine Ev.run 2 (pc' := 33) (lv' := [(3, .int (nI 1)), (0, .ref 5), (1, .ref 3), (2, .ref T)]) (st' := []) (h' := HN (RT g T qv 0 3 3 ([] ++ lv)) hl (RF (3, T, c, e))) rfl ?_
    exact Ev.wk (Ext.cons rfl rfl (Ext.cons rfl rfl (Ext.nil rfl))) (K_ploop d g hl T c e hT hX b hq 1 (by decide) _ _ _ _ _ _ (hst.kn hv _ (isE hv0)))
  · skip
    refine Ev.run 2 (pc' := 33) (lv' := [(3, .int (nI 1)), (0, .ref 5), (1, .ref 3), (2, .ref T)]) (st' := []) (h' := HN (RT g T qv 0 3 3 (plT ([] ++ lv) 4294967172)) hl (RF (3, T, c, e))) rfl ?_
    exact absurd rfl hv0
  · skip
    refine Ev.run 2 (pc' := 33) (lv' := [(3, .int (nI 1)), (0, .ref 5), (1, .ref 3), (2, .ref T)]) (st' := []) (h' := HN (RT g T qv 0 mv 3 ([])) hl (RF (3, T, c, e))) rfl ?_
    exact Ev.wk (Ext.cons rfl rfl (Ext.cons rfl rfl (Ext.nil rfl))) (K_ploop d g hl T c e hT hX b hq 1 (by decide) _ _ _ _ _ _ (hst.nu (by decide) hv))
  · skip
    refine Ev.run 2 (pc' := 33) (lv' := [(3, .int (nI 1)), (0, .ref 5), (1, .ref 3), (2, .ref T)]) (st' := []) (h' := HN (RT g T qv 0 3 mv ([])) hl (RF (3, T, c, e))) rfl ?_
    exact Ev.wk (Ext.cons rfl rfl (Ext.cons rfl rfl (Ext.nil rfl))) (K_ploop d g hl T c e hT hX b hq 1 (by decide) _ _ _ _ _ _ (hst.nu (by decide) hv))
  · skip
    have hv2 := hv.2.2
    refine Ev.run 2 (pc' := 33) (lv' := [(3, .int (nI 1)), (0, .ref 5), (1, .ref 3), (2, .ref T)]) (st' := []) (h' := HN (RT g T qv 1 lev liv lv) hl (RF (3, T, c, e))) rfl ?_
    refine Ev.run 12 (pc' := 105) (lv' := [(3, .int (nI 1)), (0, .ref 5), (1, .ref 3), (2, .ref T)]) (st' := [.int (nI qv)]) (h' := HN (RT g T qv 1 lev liv lv) hl (RF (3, T, c, e))) rfl ?_
    refine Ev.ret (v := some (.int (nI qv))) rfl ?_
    obtain ⟨l2, cs2, e2⟩ := hst.x hv
    exact hq.2 _ _ _ _ _ _ _ e2 hv.2.2 hvl
