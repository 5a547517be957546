/-! learn on both sides -/
theorem evF_33 (g : Nat → Nat → Nat) (p i q j lo : Nat) : ∀ k, evF (u2 (u2 g 166 33 p) 166 34 i) q j lo k = evF g q j lo k := by
  intro k
  induction k with
  | zero => rfl
  | succ k ih =>
    show (evF (u2 (u2 g 166 33 p) 166 34 i) q j lo k).bind (evT (u2 (u2 g 166 33 p) 166 34 i) q j (g 182 (lo + k))) = (evF g q j lo k).bind (evT g q j (g 182 (lo + k)))
    rw [ih]
    rfl
theorem kw_33 {g : Nat → Nat → Nat} (h33 : g 166 33 = 4294967295) (p i : Nat) {q : Nat} (hq : q < 5) (j : Nat) : kwS (u2 (u2 g 166 33 p) 166 34 i) q j = (kwS g q j || decide (q = p ∧ j = i)) := by
  have e : ∀ c, hldS (u2 (u2 g 166 33 p) 166 34 i) c q j = hldS g c q j := fun c => by
    unfold hldS
    show ((evF (u2 (u2 g 166 33 p) 166 34 i) q j (g 180 c) (g 181 c - g 180 c)).getD []).headD false = _
    rw [evF_33]
  have a : ∀ x : Nat → Nat → Nat, kwS x q j = dc (x 171 q = 5 ∨ (q = x 166 33 ∧ j = x 166 34) ∨ (∃ m, m < nC x ∧ x 178 (fC x + m) = 0 ∧ hldS x (fC x + m) q j = true) ∨ ∀ m, m < nC x → x 178 (fC x + m) ≠ 0) := fun x => rfl
  rw [a, a]
  have b : (dc (g 171 q = 5 ∨ (q = g 166 33 ∧ j = g 166 34) ∨ (∃ m, m < nC g ∧ g 178 (fC g + m) = 0 ∧ hldS g (fC g + m) q j = true) ∨ ∀ m, m < nC g → g 178 (fC g + m) ≠ 0) || decide (q = p ∧ j = i)) = dc ((g 171 q = 5 ∨ (q = g 166 33 ∧ j = g 166 34) ∨ (∃ m, m < nC g ∧ g 178 (fC g + m) = 0 ∧ hldS g (fC g + m) q j = true) ∨ ∀ m, m < nC g → g 178 (fC g + m) ≠ 0) ∨ (q = p ∧ j = i)) := by
    refine bool_ext ⟨fun z => ?_, fun z => ?_⟩
    · rw [Bool.or_eq_true] at z
      rcases z with z | z
      · exact dc_t (Or.inl (dc_p z))
      · exact dc_t (Or.inr (of_decide_eq_true z))
    · rw [Bool.or_eq_true]
      rcases dc_p z with z | z
      · exact Or.inl (dc_t z)
      · exact Or.inr (decide_eq_true z)
  rw [b]
  refine dc_c ⟨fun z => ?_, fun z => ?_⟩
  · rcases z with z | z | ⟨m, z1, z2, z3⟩ | z
    · exact Or.inl (Or.inl z)
    · exact Or.inr z
    · exact Or.inl (Or.inr (Or.inr (Or.inl ⟨m, z1, z2, (e _).symm.trans z3⟩)))
    · exact Or.inl (Or.inr (Or.inr (Or.inr z)))
  · rcases z with (z | z | ⟨m, z1, z2, z3⟩ | z) | z
    · exact Or.inl z
    · exact absurd z.1 (by omega)
    · exact Or.inr (Or.inr (Or.inl ⟨m, z1, z2, (e _).trans z3⟩))
    · exact Or.inr (Or.inr (Or.inr z))
    · exact Or.inr (Or.inl z)
theorem kn_33 {g : Nat → Nat → Nat} (h33 : g 166 33 = 4294967295) {p i : Nat} (hi : i < g 166 0) {q : Nat} (hq : q < 5) : knS (u2 (u2 g 166 33 p) 166 34 i) q = if q = p then knS g q ||| nSh 1 i else knS g q := by
  refine nat_tb_ext fun k => ?_
  unfold knS
  rw [bset_tb, kw_33 h33 p i hq]
  show (decide (k < g 166 0) && (kwS g q k || decide (q = p ∧ k = i))) = _
  by_cases e : q = p
  · rw [if_pos e, Nat.testBit_or, bset_tb, nSh_tb]
    by_cases e2 : i = k
    · rw [decide_eq_true e2, decide_eq_true (show q = p ∧ k = i from ⟨e, e2.symm⟩), decide_eq_true (show k < g 166 0 by omega), Bool.or_true, Bool.or_true]; rfl
    · rw [decide_eq_false e2, decide_eq_false (fun z : q = p ∧ k = i => e2 z.2.symm), Bool.or_false, Bool.or_false]
  · rw [if_neg e, bset_tb, decide_eq_false (fun z : q = p ∧ k = i => e z.1), Bool.or_false]
section LR
variable {g G : Nat → Nat → Nat} {hl : Nat → Nat → Int64} {rt : Nat × Nat × Nat × Nat}
theorem lsW_59 (hI : MI g) (p X m y : Nat) : ∀ f, lsW (u2 g 59 p X) m y f = lsW g m y f := by
  intro f
  induction f with
  | zero => rfl
  | succ f ih =>
    unfold lsW
    rw [ih]
    refine bset_cg (p := _) (q := _) (n := g 166 0) (fun o ho => ?_)
    have h0 := hI.hW
    have e : ftL (u2 g 59 p X) o (6 - f) = ftL g o (6 - f) := by
      unfold ftL ftB
      have e2 : atLn (u2 g 59 p X) (19 + 2 * o) = atLn g (19 + 2 * o) := by
        funext k
        unfold atLn
        rw [u2_ne _ (Or.inl (by omega)), u2_ne _ (Or.inl (by omega))]
      rw [e2]
      rfl
    rw [e]
    rfl
theorem Inv.u59 (h : Inv g hl rt) (p : Nat) {X : Nat} (hX : X < 4096) : Inv (u2 g 59 p X) hl rt := by
  have e : u2 g 59 p X = ur g 59 (up (g 59) p X) := by rw [← ur_up, ur_self]
  rw [e]
  refine h.w59 (fun j hj => ?_)
  unfold up
  split
  · exact hX
  · exact h.k59 j hj
theorem lr_gx (hV : Inv g hl rt) (hr : RDY g) (hc : Cz g G) (hm : MI G) {p i : Nat} (hp : p < g 166 6) (hi : i < g 166 0) (r : Nat → Nat) : GX (u2 g 59 p (knS g p ||| nSh 1 i)) (u2 (kpU (u2 (u2 G 166 33 p) 166 34 i) r) 59 p (knS g p ||| nSh 1 i)) (lwS g 1) ∧ RY (u2 (kpU (u2 (u2 G 166 33 p) 166 34 i) r) 59 p (knS g p ||| nSh 1 i)) ∧ ∀ s, RXs s g → RXs s (u2 (kpU (u2 (u2 G 166 33 p) 166 34 i) r) 59 p (knS g p ||| nSh 1 i)) := by
  have hW := hV.mi.hW
  have h6 := hV.mi.hPl
  obtain ⟨X, hX⟩ : ∃ X, X = knS g p ||| nSh 1 i := ⟨_, rfl⟩
  rw [← hX]
  have hX4 : X < 4096 := by
    rw [hX, nSh_1]
    exact Nat.or_lt_two_pow (n := 12) (knS_lt hV.mi p) (Nat.pow_lt_pow_right (by decide) (by omega))
  have hV' := hV.u59 p hX4
  have em : Em g (u2 g 59 p X) := Em.own g (by decide) _ _
  have em2 : Em (kpU (u2 (u2 G 166 33 p) 166 34 i) r) (u2 (kpU (u2 (u2 G 166 33 p) 166 34 i) r) 59 p X) := Em.own _ (by decide) _ _
  have hmi : MI (kpU (u2 (u2 G 166 33 p) 166 34 i) r) := ((hm.f33 (Or.inl (by omega))).f34 (by omega)).mkpU r
  have ck : Cx (u2 (u2 G 166 33 p) 166 34 i) (kpU (u2 (u2 G 166 33 p) 166 34 i) r) := Cx.ckp _ r
  have cg : Cx (u2 (u2 g 166 33 p) 166 34 i) (u2 (u2 G 166 33 p) 166 34 i) := by
    refine ⟨fun c h1 h2 h3 h4 h5 h6' h7 => ?_, fun j h1 h2 h3 h4 h5 h6' h7 h8 h9 => ?_⟩
    · funext b
      rw [u2_ne _ (Or.inl h1), u2_ne _ (Or.inl h1), u2_ne _ (Or.inl h1), u2_ne _ (Or.inl h1), hc.1 c h1 h2 h6' h7]
    · unfold u2
      rw [if_pos rfl, if_pos rfl, if_pos rfl, if_pos rfl]
      by_cases e : j = 34
      · rw [if_pos e, if_pos e]
      · rw [if_neg e, if_neg e]
        by_cases e2 : j = 33
        · rw [if_pos e2, if_pos e2]
        · rw [if_neg e2, if_neg e2]
          exact hc.2.1 j e h4 h5 h6' h7 h8 h9
  have hkn : ∀ q, q < g 166 6 → u2 g 59 p X 59 q = knS (u2 (kpU (u2 (u2 G 166 33 p) 166 34 i) r) 59 p X) q := fun q hq => by
    rw [em2.xknS, ck.xknS, cg.xknS, kn_33 hV.lr hi (by omega)]
    unfold u2
    rw [if_pos rfl]
    by_cases e : q = p
    · rw [if_pos e, if_pos e, hX, e]
    · rw [if_neg e, if_neg e]
      exact hr.1 q hq
  have f : ∀ j, j ≠ 33 → j ≠ 34 → j ≠ 36 → j ≠ 37 → j ≠ 38 → j ≠ 39 → j ≠ 42 → j ≠ 43 → u2 (kpU (u2 (u2 G 166 33 p) 166 34 i) r) 59 p X 166 j = g 166 j := fun j h3 h4 h36 h37 h38 h39 h42 h43 => by
    rw [em2.f]
    unfold kpU
    unfold cpR
    rw [if_neg (by decide), if_neg (by decide), u2_ne _ (Or.inr h39), u2_ne _ (Or.inr h38), u2_ne _ (Or.inr h37), u2_ne _ (Or.inr h4), u2_ne _ (Or.inr h3)]
    exact hc.2.1 j h4 h36 h37 h38 h39 h42 h43
  have f7 : ∀ c, c ≠ 166 → c ≠ 173 → c ≠ 187 → c ≠ 188 → u2 (kpU (u2 (u2 G 166 33 p) 166 34 i) r) 59 p X c = u2 g 59 p X c := fun c h1 h2 h3 h4 => by
    have z : kpU (u2 (u2 G 166 33 p) 166 34 i) r c = g c := by
      funext b
      unfold kpU cpR
      rw [if_neg h4, if_neg h3, u2_ne _ (Or.inl h1), u2_ne _ (Or.inl h1), u2_ne _ (Or.inl h1), u2_ne _ (Or.inl h1), u2_ne _ (Or.inl h1), hc.1 c h1 h2 h3 h4]
    funext b
    show (if c = 59 then if b = p then X else kpU (u2 (u2 G 166 33 p) 166 34 i) r c b else kpU (u2 (u2 G 166 33 p) 166 34 i) r c b) = (if c = 59 then if b = p then X else g c b else g c b)
    rw [z]
  refine ⟨⟨hV'.mi, em2.mI hmi, hV'.gm.cb, ⟨fun c h1 h2 h3 h4 h5 h6' h7 => f7 c h1 h2 h6' h7, fun j h1 h2 h3 h4 h5 h6' h7 h8 h9 h10 h11 => ?_⟩, (congrFun em.xlwS 1).symm, hV'.gm.cs, hkn, fun j hj => ?_⟩, hV.gm.ry.cg (f 6 (by decide) (by decide) (by decide) (by decide) (by decide) (by decide) (by decide) (by decide)) (f 7 (by decide) (by decide) (by decide) (by decide) (by decide) (by decide) (by decide) (by decide)) (f 8 (by decide) (by decide) (by decide) (by decide) (by decide) (by decide) (by decide) (by decide)), fun s hx => ?_⟩
  · rw [f j h4 h5 h6' h7 h8 h9 h10 h11, em.f]
  · rw [em.xallS, em.xlwS, lsW_59 hV.mi]
    exact hr.2 j hj
  · unfold RXs RX at *
    rw [f 9 (by decide) (by decide) (by decide) (by decide) (by decide) (by decide) (by decide) (by decide), f 7 (by decide) (by decide) (by decide) (by decide) (by decide) (by decide) (by decide) (by decide), f 8 (by decide) (by decide) (by decide) (by decide) (by decide) (by decide) (by decide) (by decide), f7 175 (by decide) (by decide) (by decide) (by decide)]
    refine ⟨hx.1, hx.2.1, fun j hj => (hx.2.2.1 j hj).trans ?_, hx.2.2.2⟩
    show g 173 j = G 173 j
    exact (hc.2.2 j hj).symm
/-- lives then, if one knew one word more, as the reference has it -/
noncomputable def lrV (g : Nat → Nat → Nat) (p n i : Nat) : Nat := itG n (kpU (u2 (u2 g 166 33 p) 166 34 i) (g 175)) 173 p
theorem Cz.refl (g : Nat → Nat → Nat) : Cz g g := ⟨fun _ _ _ _ _ => rfl, fun _ _ _ _ _ _ _ _ => rfl, fun _ _ => rfl⟩
theorem lr_val (hV : Inv g hl rt) (hr : RDY g) (hc : Cz g G) (hm : MI G) {p i : Nat} (hp : p < g 166 6) (hi : i < g 166 0) (r : Nat → Nat) (n : Nat) {s : Sx} (hx : RXs s g) : (itX (u2 g 59 p (knS g p ||| nSh 1 i)) (lwS g 1) n s).2.2.2 p = itG n (kpU (u2 (u2 G 166 33 p) 166 34 i) r) 173 p := by
  have h6 := hV.mi.hPl
  obtain ⟨a, b, c⟩ := lr_gx hV hr hc hm hp hi r
  have e := (it_eq n _ s a (c s hx) b).1
  have em2 : Em (kpU (u2 (u2 G 166 33 p) 166 34 i) r) (u2 (kpU (u2 (u2 G 166 33 p) 166 34 i) r) 59 p (knS g p ||| nSh 1 i)) := Em.own _ (by decide) _ _
  rw [e.2.2.1 p (by omega), (Em.mitG n em2).r173]
theorem lr_like (hV : Inv g hl rt) (hr : RDY g) (hc : Cz g G) (hm : MI G) {p i : Nat} (hp : p < g 166 6) (hi : i < g 166 0) (r : Nat → Nat) (n : Nat) : itG n (kpU (u2 (u2 G 166 33 p) 166 34 i) r) 173 p = lrV g p n i := by
  have hx : RXs (g 44, g 45, g 46, g 47) g := hV.gm.rx
  exact (lr_val hV hr hc hm hp hi r n hx).symm.trans (lr_val hV hr (Cz.refl g) hV.mi hp hi (g 175) n hx)
theorem lrV_le (hV : Inv g hl rt) (hr : RDY g) {p i : Nat} (hp : p < g 166 6) (hi : i < g 166 0) (n : Nat) : lrV g p n i ≤ 99 := by
  have h6 := hV.mi.hPl
  have hW := hV.mi.hW
  obtain ⟨a, b, c⟩ := lr_gx hV hr (Cz.refl g) hV.mi hp hi (g 175)
  have em2 : Em (kpU (u2 (u2 g 166 33 p) 166 34 i) (g 175)) (u2 (kpU (u2 (u2 g 166 33 p) 166 34 i) (g 175)) 59 p (knS g p ||| nSh 1 i)) := Em.own _ (by decide) _ _
  have := (GX.it a n).2.1.hli p (by omega)
  rw [(Em.mitG n em2).r173] at this
  exact this
end LR
theorem KLn_a {L : Nat} {xs : Nat → Int32} (d : Nat) (g : Nat → Nat → Nat) (hl : Nat → Nat → Int64) (rt : Nat × Nat × Nat × Nat) (hV : Inv g hl rt) (T : Sx) (k kn b m p n : Nat) (hkn : kn < 4096) (hp : p < 5) (hk : k < g 166 0) {Q : Po} (h0 : kn.testBit k = false → Ev L xs (d + 9) 93 110 [(7, .int (nI k)), (6, .int (nI kn)), (5, .int (nI b)), (4, .int (nI m)), (3, .ref 128), (0, .ref 0), (1, .int (nI p)), (2, .int (nI n))] [] (HN (u2 (ROs g 128 T) 59 p (kn ||| nSh 1 k)) hl (RF rt)) Q) (h1 : kn.testBit k = true → Ev L xs (d + 9) 93 66 [(7, .int (nI (k + 1))), (6, .int (nI kn)), (5, .int (nI b)), (4, .int (nI m)), (3, .ref 128), (0, .ref 0), (1, .int (nI p)), (2, .int (nI n))] [] (HN (ROs g 128 T) hl (RF rt)) Q) : Ev L xs (d + 9) 93 66 [(7, .int (nI k)), (6, .int (nI kn)), (5, .int (nI b)), (4, .int (nI m)), (3, .ref 128), (0, .ref 0), (1, .int (nI p)), (2, .int (nI n))] [] (HN (ROs g 128 T) hl (RF rt)) Q := by
  have hI := hV.mi
  have hW := hI.hW
  have hS := hI.hS
  have hPl := hI.hPl
  have hNx := hI.hNx
  have hLa := hI.hLa
  have hLo := hI.hLo
  have hTb := hI.hTb
  have hTh := hI.hTh
  have hFd := hI.hFd
  have hSn := hI.hSn
  have hSh := hI.hSh
  have hRan := hI.hRan
  have hLr := hI.hLr
  have hLt := hI.hLt
  have hgl := hI.hgl
  have hsz := hI.hsz
  have hcm := hI.hcm
  have hsl := hI.hsl
  have hkd := hI.hkd
  have hvv := hI.hvv
  have hli := hI.hli
  have hro := hI.hro
  have hrw := hI.hrw
  have htx := hI.htx
  have hsw := hI.hsw
  have hsx := hI.hsx
  have hsy := hI.hsy
  have hsh := hI.hsh
  have hle := hI.hle
  have hcl := hI.hcl
  have hwd := hI.hwd
  have hnu := hI.hnu
  have hwn := hI.hwn
  have hs1 := hI.hs1
  have hso := hI.hso
  have hB := hV.gm.cb
  have hB0 := hB.1
  have hPs := hV.gm.cs
  have hsp1 := hV.sp.1
  have htx1 := hV.tx.1
  have h451 := hV.gm.rx.1
  have h442 := hV.gm.rx.2.2.2.1
  have h443 := hV.gm.rx.2.2.2.2
  have h481 := hV.gm.l48.1
  have h501 := hV.gm.l50.1
  have h521 := hV.gm.l52.1
  have h541 := hV.gm.l54.1
  have h04 := hV.tb.1
  have hac1 := hV.ac.1
  have hac2 := hV.ac.2.1
  have hPl0 := hV.gm.cp
  refine Ev.run 6 (pc' := (if nI (g 13 5) ≤ nI k then 159 else 81)) (lv' := [(7, .int (nI k)), (6, .int (nI kn)), (5, .int (nI b)), (4, .int (nI m)), (3, .ref 128), (0, .ref 0), (1, .int (nI p)), (2, .int (nI n))]) (st' := []) (h' := HN (RO g 128 T.1 T.2.1 T.2.2.1 T.2.2.2) hl (RF rt)) rfl ?_
  refine Ev.ite (fun hc78 => ?_) (fun hc78 => ?_)
  · have hc78 : (g 13 5) ≤ k := (nI_leI (by omega) (by omega)).mp hc78
    exfalso
    omega
  · have hc78 : ¬ ((g 13 5) ≤ k) := fun z => hc78 ((nI_leI (by omega) (by omega)).mpr z)
    refine Ev.run 2 (pc' := 85) (lv' := [(7, .int (nI k)), (6, .int (nI kn)), (5, .int (nI b)), (4, .int (nI m)), (3, .ref 128), (0, .ref 0), (1, .int (nI p)), (2, .int (nI n))]) (st' := [.int (nI k), .int (nI kn)]) (h' := HN (RO g 128 T.1 T.2.1 T.2.2.1 T.2.2.2) hl (RF rt)) rfl ?_
    refine Ev.call (a := 122) (as := [.int (nI kn), .int (nI k)]) (rest := []) (lv0 := [(0, .int (nI kn)), (1, .int (nI k))]) (Q1 := (fun z0 h' => z0 = some (.int (nI (bn (kn.testBit k)))) ∧ h' = HN (RO g 128 T.1 T.2.1 T.2.2.1 T.2.2.2) hl (RF rt))) rfl rfl (K_isIn _ (ROs g 128 T) _ _ kn k (by omega) (by omega) ⟨rfl, rfl⟩) (fun r h' hr => ?_)
    obtain ⟨rfl, rfl⟩ := hr
    refine Ev_bn (fun hb88 => ?_) (fun hb88 => ?_)
    · skip
      refine Ev.run 3 (pc' := 156) (lv' := [(7, .int (nI k + 1)), (6, .int (nI kn)), (5, .int (nI b)), (4, .int (nI m)), (3, .ref 128), (0, .ref 0), (1, .int (nI p)), (2, .int (nI n))]) (st' := []) (h' := HN (RO g 128 T.1 T.2.1 T.2.2.1 T.2.2.2) hl (RF rt)) rfl ?_
      refine Ev.lvE (congrArg (fun z => (7, Value.int z) :: [(6, .int (nI kn)), (5, .int (nI b)), (4, .int (nI m)), (3, .ref 128), (0, .ref 0), (1, .int (nI p)), (2, .int (nI n))]) (nI_1 _)) ?_
      refine Ev.run 1 (pc' := 66) (lv' := [(7, .int (nI (k + 1))), (6, .int (nI kn)), (5, .int (nI b)), (4, .int (nI m)), (3, .ref 128), (0, .ref 0), (1, .int (nI p)), (2, .int (nI n))]) (st' := []) (h' := HN (RO g 128 T.1 T.2.1 T.2.2.1 T.2.2.2) hl (RF rt)) rfl ?_
      exact Ev.wk (Ext.cons rfl rfl (Ext.cons rfl rfl (Ext.cons rfl rfl (Ext.cons rfl rfl (Ext.cons rfl rfl (Ext.cons rfl rfl (Ext.cons rfl rfl (Ext.cons rfl rfl (Ext.nil rfl))))))))) (h1 hb88)
    · skip
      refine Ev.run 9 (pc' := 108) (lv' := [(7, .int (nI k)), (6, .int (nI kn)), (5, .int (nI b)), (4, .int (nI m)), (3, .ref 128), (0, .ref 0), (1, .int (nI p)), (2, .int (nI n))]) (st' := [.int (nI 1 <<< (nI k &&& 31)), .int (nI kn), .int (nI p), .ref 59]) (h' := HN (RO g 128 T.1 T.2.1 T.2.2.1 T.2.2.2) hl (RF rt)) rfl ?_
      refine Ev.topI (nI_shl (by omega)) ?_
      refine Ev.run 1 (pc' := 109) (lv' := [(7, .int (nI k)), (6, .int (nI kn)), (5, .int (nI b)), (4, .int (nI m)), (3, .ref 128), (0, .ref 0), (1, .int (nI p)), (2, .int (nI n))]) (st' := [.int (nI kn ||| nI (nSh 1 k)), .int (nI p), .ref 59]) (h' := HN (RO g 128 T.1 T.2.1 T.2.2.1 T.2.2.2) hl (RF rt)) rfl ?_
      refine Ev.topI (nIo _ _) ?_
      refine Ev_iast rfl rfl (show p < 5 by omega) (Nat.le_of_ble_eq_true rfl) ?_
      exact h0 hb88
theorem KLn_end {L : Nat} {xs : Nat → Int32} (d : Nat) (g : Nat → Nat → Nat) (hl : Nat → Nat → Int64) (rt : Nat × Nat × Nat × Nat) (hV : Inv g hl rt) (T : Sx) (k kn b m p n : Nat) (hkn : kn < 4096) (hp : p < 5) (hk : k ≤ 12) (hk2 : g 166 0 ≤ k) {Q : Po} (hq : Q (some (.int (nI b))) (HN (u2 (ROs g 128 T) 59 p kn) hl (RF rt))) : Ev L xs (d + 9) 93 66 [(7, .int (nI k)), (6, .int (nI kn)), (5, .int (nI b)), (4, .int (nI m)), (3, .ref 128), (0, .ref 0), (1, .int (nI p)), (2, .int (nI n))] [] (HN (ROs g 128 T) hl (RF rt)) Q := by
  have hI := hV.mi
  have hW := hI.hW
  have hS := hI.hS
  have hPl := hI.hPl
  have hNx := hI.hNx
  have hLa := hI.hLa
  have hLo := hI.hLo
  have hTb := hI.hTb
  have hTh := hI.hTh
  have hFd := hI.hFd
  have hSn := hI.hSn
  have hSh := hI.hSh
  have hRan := hI.hRan
  have hLr := hI.hLr
  have hLt := hI.hLt
  have hgl := hI.hgl
  have hsz := hI.hsz
  have hcm := hI.hcm
  have hsl := hI.hsl
  have hkd := hI.hkd
  have hvv := hI.hvv
  have hli := hI.hli
  have hro := hI.hro
  have hrw := hI.hrw
  have htx := hI.htx
  have hsw := hI.hsw
  have hsx := hI.hsx
  have hsy := hI.hsy
  have hsh := hI.hsh
  have hle := hI.hle
  have hcl := hI.hcl
  have hwd := hI.hwd
  have hnu := hI.hnu
  have hwn := hI.hwn
  have hs1 := hI.hs1
  have hso := hI.hso
  have hB := hV.gm.cb
  have hB0 := hB.1
  have hPs := hV.gm.cs
  have hsp1 := hV.sp.1
  have htx1 := hV.tx.1
  have h451 := hV.gm.rx.1
  have h442 := hV.gm.rx.2.2.2.1
  have h443 := hV.gm.rx.2.2.2.2
  have h481 := hV.gm.l48.1
  have h501 := hV.gm.l50.1
  have h521 := hV.gm.l52.1
  have h541 := hV.gm.l54.1
  have h04 := hV.tb.1
  have hac1 := hV.ac.1
  have hac2 := hV.ac.2.1
  have hPl0 := hV.gm.cp
  refine Ev.run 6 (pc' := (if nI (g 13 5) ≤ nI k then 159 else 81)) (lv' := [(7, .int (nI k)), (6, .int (nI kn)), (5, .int (nI b)), (4, .int (nI m)), (3, .ref 128), (0, .ref 0), (1, .int (nI p)), (2, .int (nI n))]) (st' := []) (h' := HN (RO g 128 T.1 T.2.1 T.2.2.1 T.2.2.2) hl (RF rt)) rfl ?_
  refine Ev.ite (fun hc78 => ?_) (fun hc78 => ?_)
  · have hc78 : (g 13 5) ≤ k := (nI_leI (by omega) (by omega)).mp hc78
    refine Ev.run 5 (pc' := 169) (lv' := [(7, .int (nI k)), (6, .int (nI kn)), (5, .int (nI b)), (4, .int (nI m)), (3, .ref 128), (0, .ref 0), (1, .int (nI p)), (2, .int (nI n))]) (st' := [.int (nI kn), .int (nI p), .ref 59]) (h' := HN (RO g 128 T.1 T.2.1 T.2.2.1 T.2.2.2) hl (RF rt)) rfl ?_
    refine Ev_iast rfl rfl (show p < 5 by omega) (Nat.le_of_ble_eq_true rfl) ?_
    refine Ev.run 1 (pc' := 172) (lv' := [(7, .int (nI k)), (6, .int (nI kn)), (5, .int (nI b)), (4, .int (nI m)), (3, .ref 128), (0, .ref 0), (1, .int (nI p)), (2, .int (nI n))]) (st' := [.int (nI b)]) (h' := HN (u2 (RO g 128 T.1 T.2.1 T.2.2.1 T.2.2.2) 59 p kn) hl (RF rt)) rfl ?_
    refine Ev.ret (v := some (.int (nI b))) rfl ?_
    exact hq
  · have hc78 : ¬ ((g 13 5) ≤ k) := fun z => hc78 ((nI_leI (by omega) (by omega)).mpr z)
    exfalso
    omega
theorem KLn_b {L : Nat} {xs : Nat → Int32} (d : Nat) (g : Nat → Nat → Nat) (hl : Nat → Nat → Int64) (rt : Nat × Nat × Nat × Nat) (hV : Inv g hl rt) (T : Sx) (k kn b m p n : Nat) (hkn : kn < 4096) (hp : p < 5) (m' : Nat) (hm99 : m ≤ 99) (hn60 : n ≤ 60) (hcp : ∀ s, RXs s g → CPX g (lwS g 1) s) (hm2 : ∀ s, RXs s g → (itX g (lwS g 1) n s).2.2.2 p = m') {Q : Po} (k1 : m < m' → ∀ T', Ev L xs (d + 9) 93 66 [(7, .int (nI (k + 1))), (6, .int (nI kn)), (5, .int (nI k)), (4, .int (nI m')), (3, .ref 128), (0, .ref 0), (1, .int (nI p)), (2, .int (nI n))] [] (HN (ROs g 128 T') hl (RF rt)) Q) (k2 : ¬ m < m' → ∀ T', Ev L xs (d + 9) 93 66 [(7, .int (nI (k + 1))), (6, .int (nI kn)), (5, .int (nI b)), (4, .int (nI m)), (3, .ref 128), (0, .ref 0), (1, .int (nI p)), (2, .int (nI n))] [] (HN (ROs g 128 T') hl (RF rt)) Q) : Ev L xs (d + 9) 93 110 [(7, .int (nI k)), (6, .int (nI kn)), (5, .int (nI b)), (4, .int (nI m)), (3, .ref 128), (0, .ref 0), (1, .int (nI p)), (2, .int (nI n))] [] (HN (ROs g 128 T) hl (RF rt)) Q := by
  have hI := hV.mi
  have hW := hI.hW
  have hS := hI.hS
  have hPl := hI.hPl
  have hNx := hI.hNx
  have hLa := hI.hLa
  have hLo := hI.hLo
  have hTb := hI.hTb
  have hTh := hI.hTh
  have hFd := hI.hFd
  have hSn := hI.hSn
  have hSh := hI.hSh
  have hRan := hI.hRan
  have hLr := hI.hLr
  have hLt := hI.hLt
  have hgl := hI.hgl
  have hsz := hI.hsz
  have hcm := hI.hcm
  have hsl := hI.hsl
  have hkd := hI.hkd
  have hvv := hI.hvv
  have hli := hI.hli
  have hro := hI.hro
  have hrw := hI.hrw
  have htx := hI.htx
  have hsw := hI.hsw
  have hsx := hI.hsx
  have hsy := hI.hsy
  have hsh := hI.hsh
  have hle := hI.hle
  have hcl := hI.hcl
  have hwd := hI.hwd
  have hnu := hI.hnu
  have hwn := hI.hwn
  have hs1 := hI.hs1
  have hso := hI.hso
  have hB := hV.gm.cb
  have hB0 := hB.1
  have hPs := hV.gm.cs
  have hsp1 := hV.sp.1
  have htx1 := hV.tx.1
  have h451 := hV.gm.rx.1
  have h442 := hV.gm.rx.2.2.2.1
  have h443 := hV.gm.rx.2.2.2.2
  have h481 := hV.gm.l48.1
  have h501 := hV.gm.l50.1
  have h521 := hV.gm.l52.1
  have h541 := hV.gm.l54.1
  have h04 := hV.tb.1
  have hac1 := hV.ac.1
  have hac2 := hV.ac.2.1
  have hPl0 := hV.gm.cp
  refine Ev.run 4 (pc' := 118) (lv' := [(7, .int (nI k)), (6, .int (nI kn)), (5, .int (nI b)), (4, .int (nI m)), (3, .ref 128), (0, .ref 0), (1, .int (nI p)), (2, .int (nI n))]) (st' := [.ref 44, .ref 128]) (h' := HN (RO g 128 T.1 T.2.1 T.2.2.1 T.2.2.2) hl (RF rt)) rfl ?_
  refine Ev.call (a := 62) (as := [.ref 128, .ref 44]) (rest := []) (lv0 := [(0, .ref 128), (1, .ref 44)]) (Q1 := (fun z0 h' => z0 = none ∧ ∃ s : Sx, RXs s g ∧ h' = HN (ROs g 128 s) hl (RF rt))) rfl rfl (K_rcopyS _ g hl rt hV _ (fun s h1 h2 => ⟨rfl, s, h1, rfl⟩)) (fun r h' hr => ?_)
  obtain ⟨rfl, s, hrx, rfl⟩ := hr
  obtain ⟨T2, hTe⟩ : ∃ T, T = itX g (lwS g 1) n s := ⟨_, rfl⟩
  have hmv := hm2 s hrx
  rw [← hTe] at hmv
  have hlv := (CPX.it (hcp s hrx) n).b.1
  rw [← hTe] at hlv
  refine Ev.run 4 (pc' := 127) (lv' := [(7, .int (nI k)), (6, .int (nI kn)), (5, .int (nI b)), (4, .int (nI m)), (3, .ref 128), (0, .ref 0), (1, .int (nI p)), (2, .int (nI n))]) (st' := [.int (nI n), .ref 128, .ref 12]) (h' := HN (RO g 128 s.1 s.2.1 s.2.2.1 s.2.2.2) hl (RF rt)) rfl ?_
  refine Ev.call (a := 35) (as := [.ref 12, .ref 128, .int (nI n)]) (rest := []) (lv0 := [(0, .ref 12), (1, .ref 128), (2, .int (nI n))]) (Q1 := (fun z0 h' => z0 = none ∧ h' = HN (RO g 128 T2.1 T2.2.1 T2.2.2.1 T2.2.2.2) hl (RF rt))) rfl rfl (K128_goS _ _ _ hV.gok (by omega) (hcp s hrx) ⟨rfl, congrArg (fun z => HN (ROs g 128 z) hl (RF rt)) hTe.symm⟩) (fun r h' hr => ?_)
  obtain ⟨rfl, rfl⟩ := hr
  refine Ev.run 3 (pc' := 135) (lv' := [(7, .int (nI k)), (6, .int (nI kn)), (5, .int (nI b)), (4, .int (nI m)), (3, .ref 128), (0, .ref 0), (1, .int (nI p)), (2, .int (nI n))]) (st' := [.int (nI p), .ref 131]) (h' := HN (RO g 128 T2.1 T2.2.1 T2.2.2.1 T2.2.2.2) hl (RF rt)) rfl ?_
  have hlp := hlv p hp
  refine Ev_iald rfl rfl (show p < 5 by omega) (Nat.le_of_ble_eq_true rfl) ?_
  refine Ev.run 2 (pc' := (if nI (T2.2.2.2 p) ≤ nI m then 153 else 141)) (lv' := [(7, .int (nI k)), (6, .int (nI kn)), (5, .int (nI b)), (4, .int (nI m)), (3, .ref 128), (0, .ref 0), (1, .int (nI p)), (2, .int (nI n))]) (st' := []) (h' := HN (RO g 128 T2.1 T2.2.1 T2.2.2.1 T2.2.2.2) hl (RF rt)) rfl ?_
  refine Ev.ite (fun hc138 => ?_) (fun hc138 => ?_)
  · have hc138 : (T2.2.2.2 p) ≤ m := (nI_leI (by omega) (by omega)).mp hc138
    refine Ev.run 1 (pc' := 156) (lv' := [(7, .int (nI k + 1)), (6, .int (nI kn)), (5, .int (nI b)), (4, .int (nI m)), (3, .ref 128), (0, .ref 0), (1, .int (nI p)), (2, .int (nI n))]) (st' := []) (h' := HN (RO g 128 T2.1 T2.2.1 T2.2.2.1 T2.2.2.2) hl (RF rt)) rfl ?_
    refine Ev.lvE (congrArg (fun z => (7, Value.int z) :: [(6, .int (nI kn)), (5, .int (nI b)), (4, .int (nI m)), (3, .ref 128), (0, .ref 0), (1, .int (nI p)), (2, .int (nI n))]) (nI_1 _)) ?_
    refine Ev.run 1 (pc' := 66) (lv' := [(7, .int (nI (k + 1))), (6, .int (nI kn)), (5, .int (nI b)), (4, .int (nI m)), (3, .ref 128), (0, .ref 0), (1, .int (nI p)), (2, .int (nI n))]) (st' := []) (h' := HN (RO g 128 T2.1 T2.2.1 T2.2.2.1 T2.2.2.2) hl (RF rt)) rfl ?_
    exact Ev.wk (Ext.cons rfl rfl (Ext.cons rfl rfl (Ext.cons rfl rfl (Ext.cons rfl rfl (Ext.cons rfl rfl (Ext.cons rfl rfl (Ext.cons rfl rfl (Ext.cons rfl rfl (Ext.nil rfl))))))))) (k2 (by omega) T2)
  · have hc138 : ¬ ((T2.2.2.2 p) ≤ m) := fun z => hc138 ((nI_leI (by omega) (by omega)).mpr z)
    refine Ev.run 3 (pc' := 146) (lv' := [(7, .int (nI k)), (6, .int (nI kn)), (5, .int (nI b)), (4, .int (nI m)), (3, .ref 128), (0, .ref 0), (1, .int (nI p)), (2, .int (nI n))]) (st' := [.int (nI p), .ref 131]) (h' := HN (RO g 128 T2.1 T2.2.1 T2.2.2.1 T2.2.2.2) hl (RF rt)) rfl ?_
    refine Ev_iald rfl rfl (show p < 5 by omega) (Nat.le_of_ble_eq_true rfl) ?_
    refine Ev.run 4 (pc' := 156) (lv' := [(7, .int (nI k + 1)), (5, .int (nI k)), (4, .int (nI (T2.2.2.2 p))), (6, .int (nI kn)), (3, .ref 128), (0, .ref 0), (1, .int (nI p)), (2, .int (nI n))]) (st' := []) (h' := HN (RO g 128 T2.1 T2.2.1 T2.2.2.1 T2.2.2.2) hl (RF rt)) rfl ?_
    refine Ev.lvE (congrArg (fun z => (7, Value.int z) :: [(5, .int (nI k)), (4, .int (nI (T2.2.2.2 p))), (6, .int (nI kn)), (3, .ref 128), (0, .ref 0), (1, .int (nI p)), (2, .int (nI n))]) (nI_1 _)) ?_
    refine Ev.run 1 (pc' := 66) (lv' := [(7, .int (nI (k + 1))), (5, .int (nI k)), (4, .int (nI (T2.2.2.2 p))), (6, .int (nI kn)), (3, .ref 128), (0, .ref 0), (1, .int (nI p)), (2, .int (nI n))]) (st' := []) (h' := HN (RO g 128 T2.1 T2.2.1 T2.2.2.1 T2.2.2.2) hl (RF rt)) rfl ?_
    rw [← hmv] at k1
    exact Ev.wk (Ext.cons rfl rfl (Ext.cons rfl rfl (Ext.cons rfl rfl (Ext.cons rfl rfl (Ext.cons rfl rfl (Ext.cons rfl rfl (Ext.cons rfl rfl (Ext.cons rfl rfl (Ext.nil rfl))))))))) (k1 (by omega) T2)
theorem RXs.u59 {g : Nat → Nat → Nat} {s : Sx} {p X : Nat} : RXs s (u2 g 59 p X) ↔ RXs s g := Iff.rfl
theorem ro59 (g : Nat → Nat → Nat) (T : Sx) (p X Y : Nat) : u2 (ROs (u2 g 59 p X) 128 T) 59 p Y = ROs (u2 g 59 p Y) 128 T := by
  funext a j
  by_cases h : a < 128 ∨ 131 < a
  · rw [ROs_ne _ _ h]
    unfold u2
    by_cases h1 : a = 59
    · rw [if_pos h1, if_pos h1]
      by_cases h2 : j = p
      · rw [if_pos h2, if_pos h2]
      · rw [if_neg h2, if_neg h2, ROs_ne _ _ h, if_pos h1, if_neg h2]
    · rw [if_neg h1, if_neg h1, ROs_ne _ _ h, if_neg h1]
  · rw [u2_ne _ (Or.inl (by omega))]
    rcases (show a = 128 ∨ a = 129 ∨ a = 130 ∨ a = 131 by omega) with rfl | rfl | rfl | rfl <;> rfl
theorem K_lrl {L : Nat} {xs : Nat → Int32} (d : Nat) (g : Nat → Nat → Nat) (hl : Nat → Nat → Int64) (rt : Nat × Nat × Nat × Nat) (hV : Inv g hl rt) (hr : RDY g) (p n m0 : Nat) (hp : p < g 166 6) (hn : n ≤ 60) (hm0 : m0 ≤ 99) {Q : Po} (hq : ∀ T, Q (some (.int (nI (lrF (knS g p) m0 (lrV g p n) (g 166 0)).1))) (HN (ROs g 128 T) hl (RF rt))) : ∀ (f k X : Nat) (T : Sx), f + k = g 166 0 → X < 4096 → Ev L xs (d + 9) 93 66 [(7, .int (nI k)), (6, .int (nI (knS g p))), (5, .int (nI ((lrF (knS g p) m0 (lrV g p n) k).1))), (4, .int (nI ((lrF (knS g p) m0 (lrV g p n) k).2))), (3, .ref 128), (0, .ref 0), (1, .int (nI p)), (2, .int (nI n))] [] (HN (ROs (u2 g 59 p X) 128 T) hl (RF rt)) Q := by
  have h6 := hV.mi.hPl
  have hW := hV.mi.hW
  have hkn4 := knS_lt hV.mi p
  intro f
  induction f with
  | zero =>
    intro k X T hf hX
    refine KLn_end d (u2 g 59 p X) hl rt (hV.u59 p hX) T k (knS g p) _ _ p n hkn4 (by omega) (by omega) (by show g 166 0 ≤ k; omega) ?_
    have e := hq T
    rw [ro59]
    have e2 : u2 g 59 p (knS g p) = g := by
      have z := hr.1 p hp
      rw [← z]
      exact u2_sm g 59 p
    rw [e2, show k = g 166 0 by omega]
    exact e
  | succ f ih =>
    intro k X T hf hX
    have hki : k < g 166 0 := by omega
    have hb2 := lrF_le2 (K := knS g p) (f := lrV g p n) hm0 k (fun i hi _ => lrV_le hV hr hp (by omega) n)
    refine KLn_a d (u2 g 59 p X) hl rt (hV.u59 p hX) T k (knS g p) _ _ p n hkn4 (by omega) hki (fun h0 => ?_) (fun h1 => ?_)
    · rw [ro59]
      have hX4 : (knS g p ||| nSh 1 k) < 4096 := by
        rw [nSh_1]
        exact Nat.or_lt_two_pow (n := 12) hkn4 (Nat.pow_lt_pow_right (by decide) (by omega))
      have hV' := hV.u59 p hX4
      have em : Em g (u2 g 59 p (knS g p ||| nSh 1 k)) := Em.own g (by decide) _ _
      have elw : lwS (u2 g 59 p (knS g p ||| nSh 1 k)) 1 = lwS g 1 := congrFun em.xlwS 1
      obtain ⟨a, b, c⟩ := lr_gx hV hr (Cz.refl g) hV.mi hp hki (g 175)
      refine KLn_b d (u2 g 59 p (knS g p ||| nSh 1 k)) hl rt hV' T k (knS g p) _ _ p n hkn4 (by omega) (lrV g p n k) hb2 hn (fun s hs => ?_) (fun s hs => ?_) (fun h2 T2 => ?_) (fun h2 T2 => ?_)
      · rw [elw]
        exact ⟨_, a, c s hs, b⟩
      · rw [elw]
        exact lr_val hV hr (Cz.refl g) hV.mi hp hki (g 175) n hs
      · have e := ih (k + 1) _ T2 (by omega) hX4
        have e2 : lrF (knS g p) m0 (lrV g p n) (k + 1) = (k, lrV g p n k) := by
          show (if _ then _ else if _ then _ else _) = _
          rw [h0, if_neg (by decide), if_neg (by omega)]
        rw [e2] at e
        exact e
      · have e := ih (k + 1) _ T2 (by omega) hX4
        have e2 : lrF (knS g p) m0 (lrV g p n) (k + 1) = lrF (knS g p) m0 (lrV g p n) k := by
          show (if _ then _ else if _ then _ else _) = _
          rw [h0, if_neg (by decide), if_pos (by omega)]
        rw [e2] at e
        exact e
    · have e := ih (k + 1) X T (by omega) hX
      rw [lrF_k h1] at e
      exact e
theorem K_learn2 {L : Nat} {xs : Nat → Int32} (d : Nat) (g : Nat → Nat → Nat) (hl : Nat → Nat → Int64) (rt : Nat × Nat × Nat × Nat) (hV : Inv g hl rt) (hrd : RDY g) (s : Sx) (hrx : RXs s g) (p n : Nat) (hp : p < g 166 6) (hn : n ≤ 60)  {Q : Po} (hq : ∀ T, Q (some (.int (nI (rs_learn g (g 175) (lrV g p n) p n)))) (HN (ROs g 128 T) hl (RF rt))) : Ev L xs (d + 9) 93 31 [(3, .ref 128), (0, .ref 0), (1, .int (nI p)), (2, .int (nI n))] [] (HN (RO g 128 s.1 s.2.1 s.2.2.1 s.2.2.2) hl (RF rt)) Q := by
  have hI := hV.mi
  have hW := hI.hW
  have hS := hI.hS
  have hPl := hI.hPl
  have hNx := hI.hNx
  have hLa := hI.hLa
  have hLo := hI.hLo
  have hTb := hI.hTb
  have hTh := hI.hTh
  have hFd := hI.hFd
  have hSn := hI.hSn
  have hSh := hI.hSh
  have hRan := hI.hRan
  have hLr := hI.hLr
  have hLt := hI.hLt
  have hgl := hI.hgl
  have hsz := hI.hsz
  have hcm := hI.hcm
  have hsl := hI.hsl
  have hkd := hI.hkd
  have hvv := hI.hvv
  have hli := hI.hli
  have hro := hI.hro
  have hrw := hI.hrw
  have htx := hI.htx
  have hsw := hI.hsw
  have hsx := hI.hsx
  have hsy := hI.hsy
  have hsh := hI.hsh
  have hle := hI.hle
  have hcl := hI.hcl
  have hwd := hI.hwd
  have hnu := hI.hnu
  have hwn := hI.hwn
  have hs1 := hI.hs1
  have hso := hI.hso
  have hB := hV.gm.cb
  have hB0 := hB.1
  have hPs := hV.gm.cs
  have hsp1 := hV.sp.1
  have htx1 := hV.tx.1
  have h451 := hV.gm.rx.1
  have h442 := hV.gm.rx.2.2.2.1
  have h443 := hV.gm.rx.2.2.2.2
  have h481 := hV.gm.l48.1
  have h501 := hV.gm.l50.1
  have h521 := hV.gm.l52.1
  have h541 := hV.gm.l54.1
  have h04 := hV.tb.1
  have hac1 := hV.ac.1
  have hac2 := hV.ac.2.1
  have hPl0 := hV.gm.cp
  obtain ⟨T, hTe⟩ : ∃ T, T = itX g (lwS g 1) n s := ⟨_, rfl⟩
  obtain ⟨hT1, hT2⟩ := it_eq n (kpU g (g 175)) s (GX.kp hV hrd _) (hrx.kp _) (hV.gm.ry.kp _)
  rw [← hTe] at hT1
  have hxl := (CPX.mk (GX.it (GX.kp hV hrd (g 175)) n) hT1 hT2).1
  refine Ev.run 4 (pc' := 37) (lv' := [(3, .ref 128), (0, .ref 0), (1, .int (nI p)), (2, .int (nI n))]) (st' := [.int (nI n), .ref 128, .ref 12]) (h' := HN (RO g 128 s.1 s.2.1 s.2.2.1 s.2.2.2) hl (RF rt)) rfl ?_
  refine Ev.call (a := 35) (as := [.ref 12, .ref 128, .int (nI n)]) (rest := []) (lv0 := [(0, .ref 12), (1, .ref 128), (2, .int (nI n))]) (Q1 := (fun z0 h' => z0 = none ∧ h' = HN (RO g 128 T.1 T.2.1 T.2.2.1 T.2.2.2) hl (RF rt))) rfl rfl (K128_goS _ _ _ hV.gok (by omega) (CPX.of hV hrd hrx) ⟨rfl, congrArg (fun z => HN (ROs g 128 z) hl (RF rt)) hTe.symm⟩) (fun r h' hr => ?_)
  obtain ⟨rfl, rfl⟩ := hr
  refine Ev.run 3 (pc' := 45) (lv' := [(3, .ref 128), (0, .ref 0), (1, .int (nI p)), (2, .int (nI n))]) (st' := [.int (nI p), .ref 131]) (h' := HN (RO g 128 T.1 T.2.1 T.2.2.1 T.2.2.2) hl (RF rt)) rfl ?_
  refine Ev_iald rfl rfl (show p < 5 by omega) (Nat.le_of_ble_eq_true rfl) ?_
  refine Ev.run 7 (pc' := 60) (lv' := [(5, .int (nI 4294967291)), (4, .int (nI (T.2.2.2 p))), (3, .ref 128), (0, .ref 0), (1, .int (nI p)), (2, .int (nI n))]) (st' := [.int (nI p), .ref 59]) (h' := HN (RO g 128 T.1 T.2.1 T.2.2.1 T.2.2.2) hl (RF rt)) rfl ?_
  refine Ev_iald rfl rfl (show p < 5 by omega) (Nat.le_of_ble_eq_true rfl) ?_
  refine Ev.run 3 (pc' := 66) (lv' := [(7, .int (nI 0)), (6, .int (nI (g 59 p))), (5, .int (nI 4294967291)), (4, .int (nI (T.2.2.2 p))), (3, .ref 128), (0, .ref 0), (1, .int (nI p)), (2, .int (nI n))]) (st' := []) (h' := HN (RO g 128 T.1 T.2.1 T.2.2.1 T.2.2.2) hl (RF rt)) rfl ?_
  have hlp := hxl p (by omega)
  have e1 : T.2.2.2 p = itG n (kpU g (g 175)) 173 p := hT1.2.2.1 p (by omega)
  have e2 : g 59 p = knS g p := hrd.1 p hp
  rw [e1] at hlp ⊢
  rw [e2]
  refine Ev.hp (congrArg (fun z => HN z hl (RF rt)) (show ROs g 128 T = ROs (u2 g 59 p (g 59 p)) 128 T by rw [u2_sm])) ?_
  refine Ev.wk (Ext.cons rfl rfl (Ext.cons rfl rfl (Ext.cons rfl rfl (Ext.cons rfl rfl (Ext.cons rfl rfl (Ext.cons rfl rfl (Ext.cons rfl rfl (Ext.cons rfl rfl (Ext.nil rfl))))))))) (K_lrl d g hl rt hV hrd p n _ hp hn hlp (fun T2 => ?_) (g 166 0) 0 (g 59 p) T (by omega) (hV.k59 p (by omega)))
  have e := hq T2
  unfold rs_learn at e
  rw [if_pos hp, if_pos hn] at e
  exact e
theorem K_learn {L : Nat} {xs : Nat → Int32} (d : Nat) (g : Nat → Nat → Nat) (hl : Nat → Nat → Int64) (rt : Nat × Nat × Nat × Nat) (hV : Inv g hl rt) (p : Nat) (n : Nat) (hp : p < 2 ^ 32) (hn : n < 2 ^ 32) {Q : Po} (hq : ∀ g2, Inv g2 hl rt → (p < g2 166 6 → n ≤ 60 → RDY g2) → Q (some (.int (nI (rs_learn g2 (g2 175) (lrV g2 p n) p n)))) (HN g2 hl (RF rt))) : Ev L xs (d + 10) 93 0 [(0, .ref 0), (1, .int (nI p)), (2, .int (nI n))] [] (HN g hl (RF rt)) Q := by
  have hI := hV.mi
  have hW := hI.hW
  have hS := hI.hS
  have hPl := hI.hPl
  have hNx := hI.hNx
  have hLa := hI.hLa
  have hLo := hI.hLo
  have hTb := hI.hTb
  have hTh := hI.hTh
  have hFd := hI.hFd
  have hSn := hI.hSn
  have hSh := hI.hSh
  have hRan := hI.hRan
  have hLr := hI.hLr
  have hLt := hI.hLt
  have hgl := hI.hgl
  have hsz := hI.hsz
  have hcm := hI.hcm
  have hsl := hI.hsl
  have hkd := hI.hkd
  have hvv := hI.hvv
  have hli := hI.hli
  have hro := hI.hro
  have hrw := hI.hrw
  have htx := hI.htx
  have hsw := hI.hsw
  have hsx := hI.hsx
  have hsy := hI.hsy
  have hsh := hI.hsh
  have hle := hI.hle
  have hcl := hI.hcl
  have hwd := hI.hwd
  have hnu := hI.hnu
  have hwn := hI.hwn
  have hs1 := hI.hs1
  have hso := hI.hso
  have hB := hV.gm.cb
  have hB0 := hB.1
  have hPs := hV.gm.cs
  have hsp1 := hV.sp.1
  have htx1 := hV.tx.1
  have h451 := hV.gm.rx.1
  have h442 := hV.gm.rx.2.2.2.1
  have h443 := hV.gm.rx.2.2.2.2
  have h481 := hV.gm.l48.1
  have h501 := hV.gm.l50.1
  have h521 := hV.gm.l52.1
  have h541 := hV.gm.l54.1
  have h04 := hV.tb.1
  have hac1 := hV.ac.1
  have hac2 := hV.ac.2.1
  have hPl0 := hV.gm.cp
  refine Ev.run 3 (pc' := 5) (lv' := [(0, .ref 0), (1, .int (nI p)), (2, .int (nI n))]) (st' := [.int (nI p), .ref 12]) (h' := HN g hl (RF rt)) rfl ?_
  refine Ev.call (a := 22) (as := [.ref 12, .int (nI p)]) (rest := []) (lv0 := [(0, .ref 12), (1, .int (nI p))]) (Q1 := (fun z0 h' => z0 = some (.int (nI (bn (decide (p < g 166 6))))) ∧ h' = HN g hl (RF rt))) rfl rfl (K_hasPlayer _ _ _ _ hI hPs p (by omega) ⟨rfl, rfl⟩) (fun r h' hr => ?_)
  obtain ⟨rfl, rfl⟩ := hr
  refine Ev_bn (fun hb8 => ?_) (fun hb8 => ?_)
  · have hhb8 : p < g 166 6 := of_decide_eq_true hb8
    refine Ev.run 4 (pc' := 17) (lv' := [(0, .ref 0), (1, .int (nI p)), (2, .int (nI n))]) (st' := [.int (nI 60), .int (nI 0), .int (nI n)]) (h' := HN g hl (RF rt)) rfl ?_
    refine Ev.call (a := 118) (as := [.int (nI n), .int (nI 0), .int (nI 60)]) (rest := []) (lv0 := [(0, .int (nI n)), (1, .int (nI 0)), (2, .int (nI 60))]) (Q1 := (fun z0 h' => z0 = some (.int (nI (bn (decide (n ≤ 60))))) ∧ h' = HN g hl (RF rt))) rfl rfl (K_within _ _ _ _ (nI n) (nI 0) (nI 60) (by rw [in0 (by omega) (by omega)]; exact ⟨rfl, rfl⟩)) (fun r h' hr => ?_)
    obtain ⟨rfl, rfl⟩ := hr
    refine Ev_bn (fun hb20 => ?_) (fun hb20 => ?_)
    · have hhb20 : n ≤ 60 := of_decide_eq_true hb20
      refine Ev.run 2 (pc' := 27) (lv' := [(0, .ref 0), (1, .int (nI p)), (2, .int (nI n))]) (st' := [.ref 0]) (h' := HN g hl (RF rt)) rfl ?_
      refine Ev.call (a := 115) (as := [.ref 0]) (rest := []) (lv0 := [(0, .ref 0)]) (Q1 := (fun z0 h' => z0 = some (.ref 128) ∧ ∃ (g1 : Nat → Nat → Nat) (s : Sx), h' = HN (ROs g1 128 s) hl (RF rt) ∧ Inv g1 hl rt ∧ RDY g1 ∧ Em g g1 ∧ RXs s g1 ∧ s.1 4 = 4294967295)) rfl rfl (K_look _ g hl rt hV (fun g1 h1 h2 h3 s h4 h5 => ⟨rfl, g1, s, rfl, h1, h2, h3, h4, h5⟩)) (fun r h' hr => ?_)
      obtain ⟨rfl, g1, s, rfl, hV1, hrd, hem, hrx, hlo⟩ := hr
      refine Ev.run 1 (pc' := 31) (lv' := [(3, .ref 128), (0, .ref 0), (1, .int (nI p)), (2, .int (nI n))]) (st' := []) (h' := HN (ROs g1 128 s) hl (RF rt)) rfl ?_
      have hp1 : p < g1 166 6 := by rw [hem.f6]; omega
      refine K_learn2 _ g1 hl rt hV1 hrd s hrx p n hp1 (by omega) (fun T => ?_)
      have e := hq (ROs g1 128 T) (hV1.ro T) (fun _ _ => hrd.ro hV1.mi T)
      have em := Em.ro g1 T
      have ev : lrV (ROs g1 128 T) p n = lrV g1 p n := by
        funext i
        unfold lrV
        rw [kp175, (Em.mitG n (((em.u 166 33 p).u 166 34 i).mkp (g1 175))).r173]
      unfold rs_learn at e
      rw [em.f6, em.xknS, ev, kp175, (Em.mitG n (em.mkp (g1 175))).r173, em.f0] at e
      exact e
    · have hhb20 : ¬ (n ≤ 60) := of_decide_eq_false hb20
      refine Ev.run 2 (pc' := 25) (lv' := [(0, .ref 0), (1, .int (nI p)), (2, .int (nI n))]) (st' := [.int (nI 4294967294)]) (h' := HN g hl (RF rt)) rfl ?_
      refine Ev.ret (v := some (.int (nI 4294967294))) rfl ?_
      have e := hq g hV (fun h1 h2 => by omega)
      unfold rs_learn at e
      (repeat (first | rw [if_pos (by omega)] at e | rw [if_neg (by omega)] at e))
      exact e
  · have hhb8 : ¬ (p < g 166 6) := of_decide_eq_false hb8
    refine Ev.run 2 (pc' := 12) (lv' := [(0, .ref 0), (1, .int (nI p)), (2, .int (nI n))]) (st' := [.int (nI 4294967295)]) (h' := HN g hl (RF rt)) rfl ?_
    refine Ev.ret (v := some (.int (nI 4294967295))) rfl ?_
    have e := hq g hV (fun h1 h2 => by omega)
    unfold rs_learn at e
    (repeat (first | rw [if_pos (by omega)] at e | rw [if_neg (by omega)] at e))
    exact e
section ST
variable {L : Nat} {xs : Nat → Int32} {g g1 : Nat → Nat → Nat} {hl : Nat → Nat → Int64} {rt : Nat × Nat × Nat × Nat}
theorem Inv.cz (h : Inv g hl rt) (k : Cz g g1) (h34 : MI g1) : Inv g1 hl rt :=
  h.fr ⟨fun c hc => k.1 c (by unfold okC at hc; omega) (by unfold okC at hc; omega) (by unfold okC at hc; omega) (by unfold okC at hc; omega), fun j h1 h2 h3 h4 h5 h6 h7 => k.2.1 j h1 h2 h3 h4 h5 h6 h7, k.2.2, fun j hj => by rw [k.1 175 (by decide) (by decide) (by decide) (by decide)]⟩ h34 (by rw [k.1 59 (by decide) (by decide) (by decide) (by decide)]; exact h.k59) (by rw [k.1 18 (by decide) (by decide) (by decide) (by decide)]; exact h.k18)
theorem SmH.sczm {r v : Nat → Nat} (h : SmH g r v) (k : Cz g g1) : SmH g1 r v := ⟨h.1, fun j hj => by
  rw [k.2.1 9 (by decide) (by decide) (by decide) (by decide) (by decide) (by decide) (by decide)] at hj
  rw [k.1 175 (by decide) (by decide) (by decide) (by decide)]
  exact h.2.1 j hj, h.2.2⟩
theorem S_learn (d : Nat) (p n : Nat) (hp : p < 2 ^ 32) (hn : n < 2 ^ 32) : StepC L xs (d + 20) 93 206 [(1, .int (nI p)), (2, .int (nI n))] := by
  intro g hl rt hV
  refine K_learn (d + 10) g hl rt hV p n hp hn (fun g1 hV1 hrd => ?_)
  refine ⟨_, _, _, _, rfl, rfl, ?_⟩
  refine Ev.hp (congrArg (fun z => HN z hl (RF rt)) (U_self g1).symm) ?_
  refine C_learn (d + 8) g1 hl rt hV1.mi hV1.kw hV1.lr p n hp hn _ _ _ (SmH.self hV1.mi) (fun f g2 r w v hc hm hs hf => ?_)
  refine ⟨?_, _, _, _, rfl, (hV1.cz hc hm).u (hs.sczm hc)⟩
  have e : rs_learn g1 (g1 175) f p n = rs_learn g1 (g1 175) (lrV g1 p n) p n := by
    unfold rs_learn
    by_cases h1 : p < g1 166 6
    · rw [if_pos h1, if_pos h1]
      by_cases h2 : n ≤ 60
      · rw [if_pos h2, if_pos h2]
        rw [lrF_cg (g1 166 0) (fun i hi hb => ?_)]
        obtain ⟨G, r2, v2, a1, a2, a3, a4⟩ := hf h1 h2 i hi hb
        rw [a4]
        exact lr_like hV1 (hrd h1 h2) a1 a2 h1 hi r2 n
      · rw [if_neg h2, if_neg h2]
    · rw [if_neg h1, if_neg h1]
  rw [e]
end ST
