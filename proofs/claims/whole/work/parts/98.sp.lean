/-! the class: by, odds -/
section RD
variable {g G : Nat → Nat → Nat} {hl : Nat → Nat → Int64} {rt : Nat × Nat × Nat × Nat}
theorem lsW_ro (hI : MI g) (s : Sx) (m y : Nat) : ∀ f, lsW (ROs g 128 s) m y f = lsW g m y f := by
  intro f
  induction f with
  | zero => rfl
  | succ f ih =>
    unfold lsW
    rw [ih]
    refine bset_cg (p := _) (q := _) (n := g 166 0) (fun o ho => ?_)
    have h0 := hI.hW
    have e : ftL (ROs g 128 s) o (6 - f) = ftL g o (6 - f) := by
      unfold ftL ftB
      have e2 : atLn (ROs g 128 s) (19 + 2 * o) = atLn g (19 + 2 * o) := by
        funext k
        unfold atLn
        rw [ROs_ne g s (by omega), ROs_ne g s (by omega)]
      rw [e2]
      rfl
    rw [e]
    rfl
theorem RDY.ro (h : RDY g) (hI : MI g) (s : Sx) : RDY (ROs g 128 s) := by
  have em := Em.ro g s
  refine ⟨fun p hp => ?_, fun j hj => ?_⟩
  · rw [em.xknS, ROs_ne g s (by decide)]
    exact h.1 p (by rw [← em.f6]; exact hp)
  · rw [em.xallS, em.xlwS, lsW_ro hI, ROs_ne g s (by decide)]
    exact h.2 j hj
theorem alS_fl (hI : MI g) (hc : Cy g G) (r : Nat → Nat) : alS (flK G r) = alS g := by
  have h6 := hI.hPl
  unfold alS
  rw [flK_f G r (by decide), hc.2.1 6 (by decide) (by decide) (by decide) (by decide) (by decide) (by decide), flK_ne G r (by decide) (by decide) (by decide)]
  exact bset_cg (fun p hp => by rw [hc.2.2 p (by omega)])
theorem flS_lb (hV : Inv g hl rt) (hr : RDY g) (hc : Cy g G) (hm : MI G) (r : Nat → Nat) (hal : alS g ≠ 0) (h12 : g 166 9 ≠ 12) {l : Nat} (hl3 : l ≤ 3) {s : Sx} (hx : RXs s g) (h4 : s.1 4 = 4294967295) : lbR g (lwS g 1) 59 (lbS g (lwS g 1) s l) = lbO (flS G r l).1 ∧ acC s.1 s.2.2.2 (g 12 2) < g 166 6 ∧ SxB (lbS g (lwS g 1) s l) := by
  have hlo := hV.mi.hLo
  have e9 : flK G r 166 9 = g 166 9 := (flK_f G r (by decide)).trans (hc.2.1 9 (by decide) (by decide) (by decide) (by decide) (by decide) (by decide))
  obtain ⟨a, b, c, d⟩ := lb_eq hl3 (GX.flC hV hr hc hm r) (hx.flC hc r) (hV.gm.ry.flC hc r) h4 (by rw [alS_fl hV.mi hc]; exact hal) (by omega)
  exact ⟨a, by omega, d⟩
theorem lbO_inj {a b : Nat} (ha : a ≤ 4 ∨ a = 4294967291) (hb : b ≤ 4 ∨ b = 4294967291) (h : lbO a = lbO b) : a = b := by
  unfold lbO at h
  by_cases h1 : a = 4294967291
  · by_cases h2 : b = 4294967291
    · omega
    · rw [if_pos h1, if_neg h2] at h; omega
  · by_cases h2 : b = 4294967291
    · rw [if_neg h1, if_pos h2] at h; omega
    · rw [if_neg h1, if_neg h2] at h; exact h
theorem flS_le (hc : MI G) (r : Nat → Nat) {l : Nat} (hl3 : l ≤ 3) (h12 : G 166 9 < 12) : (flS G r l).1 ≤ 4 ∨ (flS G r l).1 = 4294967291 := by
  refine flF_le 60 0 (flK G r) (MI.f43 (MI.f42 (hc.mkpU r))) ?_ (Or.inr hl3)
  rw [show tj l 0 = l from if_pos rfl]
  exact Or.inr ⟨hl3, by rw [flK_f G r (by decide)]; exact h12⟩
theorem flS_like (hV : Inv g hl rt) (hr : RDY g) (hc : Cy g G) (hm : MI G) (r : Nat → Nat) (hal : alS g ≠ 0) (h12 : g 166 9 ≠ 12) {l : Nat} (hl3 : l ≤ 3) : (flS G r l).1 = (flS g (g 175) l).1 := by
  have hlo := hV.mi.hLo
  have hx : RXs (up (g 44) 4 4294967295, g 45, g 46, g 47) g := hV.gm.rx
  have h4 : up (g 44) 4 4294967295 4 = 4294967295 := if_pos rfl
  have e9 : G 166 9 = g 166 9 := hc.2.1 9 (by decide) (by decide) (by decide) (by decide) (by decide) (by decide)
  have a := (flS_lb hV hr hc hm r hal h12 hl3 hx h4).1
  have b := (flS_lb hV hr (Cy.refl g) hV.mi (g 175) hal h12 hl3 hx h4).1
  exact lbO_inj (flS_le hm r hl3 (by omega)) (flS_le hV.mi _ hl3 (by omega)) (a.symm.trans b)
end RD
theorem K_lb2 {L : Nat} {xs : Nat → Int32} (d : Nat) (g : Nat → Nat → Nat) (hl : Nat → Nat → Int64) (rt : Nat × Nat × Nat × Nat) (hV : Inv g hl rt) (s T1 : Sx) (hB1 : SxB s) (l p v1 : Nat) (hp : p < g 166 6) (hac : acC s.1 s.2.2.2 (g 12 2) = p) (hl3 : l ≤ 3) (hlt : s.2.1 1 < 12) (hpa : plXa g (lwS g 1) (up s.1 2 p) s.2.1 s.2.2.1 s.2.2.2 l = (v1, T1))  {Q : Po} (hq : True) (kk : Ev L xs (d + 7) 117 40 [(3, .int (nI 2)), (2, .ref 128), (0, .ref 0), (1, .int (nI l))] [] (HN (ROs g 128 T1) hl (RF rt)) Q) : Ev L xs (d + 7) 117 16 [(2, .ref 128), (0, .ref 0), (1, .int (nI l))] [] (HN (RO g 128 s.1 s.2.1 s.2.2.1 s.2.2.2) hl (RF rt)) Q := by
  have hI := hV.mi
  have hW := hI.hW
  have hS := hI.hS
  have hPl := hI.hPl
  have hNx := hI.hNx
  have hLa := hI.hLa
  have hLo := hI.hLo
  have hTb := hI.hTb
  have hTh := hI.hTh
  have hFd := hI.hFd
  have hSn := hI.hSn
  have hSh := hI.hSh
  have hRan := hI.hRan
  have hLr := hI.hLr
  have hLt := hI.hLt
  have hgl := hI.hgl
  have hsz := hI.hsz
  have hcm := hI.hcm
  have hsl := hI.hsl
  have hkd := hI.hkd
  have hvv := hI.hvv
  have hli := hI.hli
  have hro := hI.hro
  have hrw := hI.hrw
  have htx := hI.htx
  have hsw := hI.hsw
  have hsx := hI.hsx
  have hsy := hI.hsy
  have hsh := hI.hsh
  have hle := hI.hle
  have hcl := hI.hcl
  have hwd := hI.hwd
  have hnu := hI.hnu
  have hwn := hI.hwn
  have hs1 := hI.hs1
  have hso := hI.hso
  have hB := hV.gm.cb
  have hB0 := hB.1
  have hPs := hV.gm.cs
  have hsp1 := hV.sp.1
  have htx1 := hV.tx.1
  have h451 := hV.gm.rx.1
  have h442 := hV.gm.rx.2.2.2.1
  have h443 := hV.gm.rx.2.2.2.2
  have h481 := hV.gm.l48.1
  have h501 := hV.gm.l50.1
  have h521 := hV.gm.l52.1
  have h541 := hV.gm.l54.1
  have h04 := hV.tb.1
  have hac1 := hV.ac.1
  have hac2 := hV.ac.2.1
  have hPl0 := hV.gm.cp
  refine Ev.run 4 (pc' := 22) (lv' := [(2, .ref 128), (0, .ref 0), (1, .int (nI l))]) (st' := [.ref 128, .ref 12, .ref 128]) (h' := HN (RO g 128 s.1 s.2.1 s.2.2.1 s.2.2.2) hl (RF rt)) rfl ?_
  refine Ev.call (a := 34) (as := [.ref 12, .ref 128]) (rest := [.ref 128]) (lv0 := [(0, .ref 12), (1, .ref 128)]) (Q1 := (fun z0 h' => z0 = some (.int (nI p)) ∧ h' = HN (RO g 128 s.1 s.2.1 s.2.2.1 s.2.2.2) hl (RF rt))) rfl rfl (K128_acting _ g _ _ (by omega) s.1 s.2.1 s.2.2.1 s.2.2.2 hB1.1 hB1.2.2.2.1 ⟨congrArg (fun z => some (Value.int (nI z))) hac, rfl⟩) (fun r h' hr => ?_)
  obtain ⟨rfl, rfl⟩ := hr
  refine Ev.run 1 (pc' := 28) (lv' := [(2, .ref 128), (0, .ref 0), (1, .int (nI l))]) (st' := []) (h' := setI (HN (RO g 128 s.1 s.2.1 s.2.2.1 s.2.2.2) hl (RF rt)) 128 2 (nI p)) rfl ?_
  refine Ev.hp (HN_set _ _ _ _ _ _) ?_
  refine Ev.hp (congrArg (fun z => HN z hl (RF rt)) (RO_0 _ _ _ _ _ _ _ _)) ?_
  refine Ev.run 4 (pc' := 34) (lv' := [(2, .ref 128), (0, .ref 0), (1, .int (nI l))]) (st' := [.int (nI l), .ref 128, .ref 12]) (h' := HN (RO g 128 (up s.1 2 p) s.2.1 s.2.2.1 s.2.2.2) hl (RF rt)) rfl ?_
  refine Ev.call (a := 37) (as := [.ref 12, .ref 128, .int (nI l)]) (rest := []) (lv0 := [(0, .ref 12), (1, .ref 128), (2, .int (nI l))]) (Q1 := (fun z0 h' => z0 = some (.int (nI v1)) ∧ h' = HN (RO g 128 T1.1 T1.2.1 T1.2.2.1 T1.2.2.2) hl (RF rt))) rfl rfl (K128_add _ g _ _ hI hB (by omega) (lwS g 1) hV.gok.2.2.2.1 (up s.1 2 p) s.2.1 s.2.2.1 s.2.2.2 hB1.1 hB1.2.1 hB1.2.2.1 (show (if 2 = 2 then p else s.1 2) ≤ 4 by rw [if_pos rfl]; omega) l hl3 hlt ⟨fun h => (by unfold plXa at hpa; rw [h, cond_true] at hpa; cases hpa; exact ⟨rfl, rfl⟩), fun h => (by unfold plXa at hpa; rw [h, cond_false] at hpa; cases hpa; exact ⟨rfl, rfl⟩)⟩) (fun r h' hr => ?_)
  obtain ⟨rfl, rfl⟩ := hr
  refine Ev.run 3 (pc' := 40) (lv' := [(3, .int (nI 2)), (2, .ref 128), (0, .ref 0), (1, .int (nI l))]) (st' := []) (h' := HN (RO g 128 T1.1 T1.2.1 T1.2.2.1 T1.2.2.2) hl (RF rt)) rfl ?_
  exact Ev.wk (Ext.cons rfl rfl (Ext.cons rfl rfl (Ext.cons rfl rfl (Ext.cons rfl rfl (Ext.nil rfl))))) kk
section LW
variable {g G : Nat → Nat → Nat}
theorem lb_w {y : Nat} {s : Sx} {l : Nat} (hl3 : l ≤ 3) (hg : GX g G y) (hx : RXs s G) (hz : RY G) (h4 : s.1 4 = 4294967295) (hal : alS G ≠ 0) (h12 : G 166 9 < 12) : ∃ G1, GX g G1 y ∧ RXs (lbS g y s l) G1 ∧ RY G1 ∧ ((lbS g y s l).1 4 ≤ 4 ∨ (lbS g y s l).1 4 = 4294967295) := by
  have ha := alS_al.mp hal
  have h6 := hg.2.2.2.1.z6
  have hcs := hg.2.2.2.2.2.1
  have hp6 := hg.1.hPl
  have hz' := hz.no ha
  have hac := ac_eq (P := g 166 6) (x0 := s.1) (x3 := s.2.2.2) (by omega) hx.2.2.1 h6 hx.2.2.2.1 (by rw [← h6]; exact hz'.1)
  rw [h6] at ha
  obtain ⟨-, e1, e2, e3⟩ | ⟨e1, -⟩ := hac
  · have hgx : GX g (u2 G 166 36 4294967295) y := hg.t (Ct.f (by omega)) (MI.f36 hg.2.1)
    have hxx : RX s.1 s.2.1 s.2.2.1 s.2.2.2 (u2 G 166 36 4294967295) := hx
    have had := ad_eq (xa := s.1) (x0 := up s.1 2 (tnS G)) (c := l) hgx hxx ha (show tnS G < g 166 6 from e2) (show s.1 4 = 4294967295 from h4)
    have e0 : up s.1 2 (tnS G) 2 = tnS G := if_pos rfl
    rw [e0] at had
    have etn : tnS (u2 G 166 36 4294967295) = tnS G := rfl
    have etu : tuD (u2 G 166 36 4294967295) l = l := if_pos (by omega)
    have epl : plG G l = adG (u2 G 166 36 4294967295) (tnS G) l := by
      show plG0 (u2 G 166 36 4294967295) l = _
      unfold plG0
      rw [etu, etn, if_neg (by omega)]
    have eS : lbS g y s l = (plXa g y (up s.1 2 (tnS G)) s.2.1 s.2.2.1 s.2.2.2 l).2 := by
      unfold lbS
      rw [hcs, e1]
    have hok : tOK G l := Or.inr ⟨hl3, h12⟩
    have hg2 : GX g (plG G l) y := hg.t (Ct.tplG G l) (hg.2.1.mplG hok)
    have hx2 : RXs (lbS g y s l) (plG G l) := by
      rw [eS, epl]
      exact had.2.1
    have h42 : (lbS g y s l).1 4 = plG G l 166 36 := by
      rw [eS, epl]
      exact had.2.2.1
    have hz2 : RY (plG G l) := by
      rw [epl]
      exact Or.inl had.2.2.2
    have h36 := plG_36 hg.2.1 l
    exact ⟨plG G l, hg2, hx2, hz2, by rw [h42]; exact h36⟩
  · exact absurd ha e1
end LW
theorem K_lby {L : Nat} {xs : Nat → Int32} (d : Nat) (g : Nat → Nat → Nat) (hl : Nat → Nat → Int64) (rt : Nat × Nat × Nat × Nat) (hV : Inv g hl rt) (hr : RDY g) (s0 : Sx) (l : Nat) (hl3 : l ≤ 3) (hal : alS g ≠ 0) (h12 : g 166 9 ≠ 12) {Q : Po} (hq : ∀ T, Q (some (.int (nI (lbO (flS g (g 175) l).1)))) (HN (ROs g 128 T) hl (RF rt))) : Ev L xs (d + 7) 117 0 [(0, .ref 0), (1, .int (nI l))] [] (HN (ROs g 128 s0) hl (RF rt)) Q := by
  have hlo := hV.mi.hLo
  refine Ev.run 7 (pc' := 13) (lv' := [(2, .ref 128), (0, .ref 0), (1, .int (nI l))]) (st' := [.ref 44, .ref 128]) (h' := HN (ROs g 128 s0) hl (RF rt)) rfl ?_
  refine Ev.call (a := 62) (as := [.ref 128, .ref 44]) (rest := []) (lv0 := [(0, .ref 128), (1, .ref 44)]) (Q1 := (fun z0 h' => z0 = none ∧ ∃ s : Sx, RXs s g ∧ s.1 4 = 4294967295 ∧ h' = HN (ROs g 128 s) hl (RF rt))) rfl rfl (K_rcopyS _ g hl rt hV _ (fun s h1 h2 => ⟨rfl, s, h1, h2, rfl⟩)) (fun r h' hr => ?_)
  obtain ⟨rfl, s, h1, h2, rfl⟩ := hr
  obtain ⟨e1, e2, e3⟩ := flS_lb hV hr (Cy.refl g) hV.mi (g 175) hal h12 hl3 h1 h2
  have hb := (CPX.of hV hr h1).b
  have h9 : s.2.1 1 = g 166 9 := h1.1
  obtain ⟨T1, hT1⟩ : ∃ T, T = lbS g (lwS g 1) s l := ⟨_, rfl⟩
  refine K_lb2 d g hl rt hV s T1 hb l _ (plXa g (lwS g 1) (up s.1 2 (acC s.1 s.2.2.2 (g 12 2))) s.2.1 s.2.2.1 s.2.2.2 l).1 e2 rfl hl3 (by omega) (by rw [hT1]; rfl) trivial ?_
  have hc := lb_eq hl3 (GX.flC hV hr (Cy.refl g) hV.mi (g 175)) (h1.flC (Cy.refl g) (g 175)) (hV.gm.ry.flC (Cy.refl g) (g 175)) h2 (by rw [alS_fl hV.mi (Cy.refl g)]; exact hal) (by rw [flK_f g (g 175) (by decide)]; omega)
  obtain ⟨G1, hg1, hx1, hz1, hb1⟩ := lb_w hl3 (GX.flC hV hr (Cy.refl g) hV.mi (g 175)) (h1.flC (Cy.refl g) (g 175)) (hV.gm.ry.flC (Cy.refl g) (g 175)) h2 (by rw [alS_fl hV.mi (Cy.refl g)]; exact hal) (by rw [flK_f g (g 175) (by decide)]; omega)
  rw [← hT1] at hx1 hb1 e1
  refine K_lbl d g hl rt hV l 59 1 T1 G1 (by omega) hg1 hx1 hz1 hb1 (fun T => ?_)
  rw [e1]
  exact hq T
