/-! the class: with whom it ends by a letter -/
theorem flK_ne (g : Nat → Nat → Nat) (r : Nat → Nat) {c : Nat} (h1 : c ≠ 166) (h2 : c ≠ 187) (h3 : c ≠ 188) : flK g r c = g c := by
  unfold flK kpU cpR u2
  funext j
  simp only [if_neg h1, if_neg h2, if_neg h3]
theorem flK_f (g : Nat → Nat → Nat) (r : Nat → Nat) {j : Nat} (h : j ≠ 37 ∧ j ≠ 38 ∧ j ≠ 39 ∧ j ≠ 42 ∧ j ≠ 43) : flK g r 166 j = g 166 j := by
  unfold flK kpU
  rw [u2_ne _ (Or.inr h.2.2.2.2), u2_ne _ (Or.inr h.2.2.2.1)]
  unfold cpR
  rw [if_neg (by decide), if_neg (by decide), u2_ne _ (Or.inr h.2.2.1), u2_ne _ (Or.inr h.2.1), u2_ne _ (Or.inr h.1)]
theorem Cx.flK (g : Nat → Nat → Nat) (r : Nat → Nat) : Cx g (flK g r) := ⟨fun c h1 _ _ _ _ h6 h7 => flK_ne g r h1 h6 h7, fun j _ _ _ _ h5 h6 h7 h8 h9 => flK_f g r ⟨h5, h6, h7, h8, h9⟩⟩
theorem Cw.t2 {g G G2 : Nat → Nat → Nat} (h : Cw g G) (k : Cx G G2) (h7 : G2 166 7 = G 166 7) : Cw g G2 := ⟨fun c h1 h2 h3 h4 h5 h6 h7 => (k.1 c h1 h2 h3 h4 h5 h6 h7).trans (h.1 c h1 h2 h3 h4 h5 h6 h7), fun j h1 h2 h3 h4 h5 h6 h7 h8 h9 h10 h11 => (k.2 j h1 h2 h3 h6 h7 h8 h9 h10 h11).trans (h.2 j h1 h2 h3 h4 h5 h6 h7 h8 h9 h10 h11)⟩
section LB
variable {g G : Nat → Nat → Nat} {hl : Nat → Nat → Int64} {rt : Nat × Nat × Nat × Nat}
theorem GX.flC (hV : Inv g hl rt) (hr : RDY g) (hc : Cy g G) (hm : MI G) (r : Nat → Nat) : GX g (flK G r) (lwS g 1) := by
  have k : Cx g (flK G r) := hc.cx.trans (Cx.flK G r)
  refine ⟨hV.mi, MI.f43 (MI.f42 (hm.mkpU r)), hV.gm.cb, ⟨k.1, fun j h1 h2 h3 _ _ h6 h7 h8 h9 h10 h11 => k.2 j h1 h2 h3 h6 h7 h8 h9 h10 h11⟩, rfl, hV.gm.cs, fun p hp => (hr.1 p hp).trans (congrFun k.xknS p).symm, hr.2⟩
theorem RXs.flC {s : Sx} (h : RXs s g) (hc : Cy g G) (r : Nat → Nat) : RXs s (flK G r) := by
  unfold RXs RX at *
  rw [flK_f G r (by decide), flK_f G r (by decide), flK_f G r (by decide), flK_ne G r (by decide) (by decide) (by decide), flK_ne G r (by decide) (by decide) (by decide), hc.2.1 9 (by decide) (by decide) (by decide) (by decide) (by decide) (by decide), hc.2.1 7 (by decide) (by decide) (by decide) (by decide) (by decide) (by decide), hc.2.1 8 (by decide) (by decide) (by decide) (by decide) (by decide) (by decide), hc.1 175 (by decide) (by decide) (by decide) (by decide)]
  exact ⟨h.1, h.2.1, fun j hj => (h.2.2.1 j hj).trans (hc.2.2 j hj).symm, h.2.2.2⟩
theorem RY.flC (h : RY g) (hc : Cy g G) (r : Nat → Nat) : RY (flK G r) := h.cg ((flK_f G r (by decide)).trans (hc.2.1 6 (by decide) (by decide) (by decide) (by decide) (by decide) (by decide))) ((flK_f G r (by decide)).trans (hc.2.1 7 (by decide) (by decide) (by decide) (by decide) (by decide) (by decide))) ((flK_f G r (by decide)).trans (hc.2.1 8 (by decide) (by decide) (by decide) (by decide) (by decide) (by decide)))
def lbO (m : Nat) : Nat := if m = 4294967291 then 4294967295 else m
/-- who loses in f turns more, as the class's round tells it -/
noncomputable def lbR (g : Nat → Nat → Nat) (y : Nat) : Nat → Sx → Nat
  | 0, T => T.1 4
  | f + 1, T => if T.1 4 < 2147483648 then T.1 4 else lbR g y f (stX g y T)
noncomputable def lbS (g : Nat → Nat → Nat) (y : Nat) (s : Sx) (l : Nat) : Sx := (plXa g y (up s.1 2 (acC s.1 s.2.2.2 (g 12 2))) s.2.1 s.2.2.1 s.2.2.2 l).2
theorem lbR_eq {y : Nat} {l : Nat} : ∀ (f j : Nat) (T : Sx) (G : Nat → Nat → Nat), 1 ≤ j → GX g G y → RXs T G → RY G → T.1 4 = 4294967295 → lbR g y f T = lbO (flF l f j G).1 := by
  intro f
  induction f with
  | zero => intro j T G hj hg hx hz h4; unfold lbR flF; rw [h4]; rfl
  | succ f ih =>
    intro j T G hj hg hx hz h4
    obtain ⟨v, T', h1, h2, h3, h4', h5, h6⟩ := pl_both hg hx hz
    have eT : stX g y T = T' := congrArg Prod.snd h1
    unfold lbR
    rw [if_neg (by rw [h4]; decide), eT]
    rcases h5 with ⟨a1, a2, a3, a4⟩ | ⟨a1, a2, a3, a4, a5, a6⟩
    · rw [ih (j + 1) T' G (by omega) hg a3 hz a4, flF_0 a1, flF_0 a1]
    · unfold flF
      have etj : tj l j = 4294967295 := if_neg (by omega)
      rw [if_neg a1, etj, ← a4]
      by_cases h7 : T'.1 4 < 2147483648
      · rw [if_pos h7]
        have e : lbR g y f T' = T'.1 4 := by
          cases f with
          | zero => rfl
          | succ f => unfold lbR; rw [if_pos h7]
        rw [e]
        unfold lbO
        rw [if_neg (show ¬ T'.1 4 = 4294967291 by omega)]
      · rw [if_neg h7]
        exact ih (j + 1) T' _ (by omega) a6 a3 a5 (by omega)
/-- by a letter: the class's loser is the reference's, in every world like it -/
theorem lb_eq {y : Nat} {s : Sx} {l : Nat} (hl3 : l ≤ 3) (hg : GX g G y) (hx : RXs s G) (hz : RY G) (h4 : s.1 4 = 4294967295) (hal : alS G ≠ 0) (h12 : G 166 9 < 12) : lbR g y 59 (lbS g y s l) = lbO (flF l 60 0 G).1 ∧ acC s.1 s.2.2.2 (g 12 2) = tnS G ∧ tnS G < g 166 6 ∧ SxB (lbS g y s l) := by
  have ha := alS_al.mp hal
  have h6 := hg.2.2.2.1.z6
  have hcs := hg.2.2.2.2.2.1
  have hp6 := hg.1.hPl
  have hz' := hz.no ha
  have hac := ac_eq (P := g 166 6) (x0 := s.1) (x3 := s.2.2.2) (by omega) hx.2.2.1 h6 hx.2.2.2.1 (by rw [← h6]; exact hz'.1)
  rw [h6] at ha
  obtain ⟨-, e1, e2, e3⟩ | ⟨e1, -⟩ := hac
  · have hgx : GX g (u2 G 166 36 4294967295) y := hg.t (Ct.f (by omega)) (MI.f36 hg.2.1)
    have hxx : RX s.1 s.2.1 s.2.2.1 s.2.2.2 (u2 G 166 36 4294967295) := hx
    have had := ad_eq (xa := s.1) (x0 := up s.1 2 (tnS G)) (c := l) hgx hxx ha (show tnS G < g 166 6 from e2) (show s.1 4 = 4294967295 from h4)
    have e0 : up s.1 2 (tnS G) 2 = tnS G := if_pos rfl
    rw [e0] at had
    have etn : tnS (u2 G 166 36 4294967295) = tnS G := rfl
    have etu : tuD (u2 G 166 36 4294967295) l = l := if_pos (by omega)
    have epl : plG G l = adG (u2 G 166 36 4294967295) (tnS G) l := by
      show plG0 (u2 G 166 36 4294967295) l = _
      unfold plG0
      rw [etu, etn, if_neg (by omega)]
    have eS : lbS g y s l = (plXa g y (up s.1 2 (tnS G)) s.2.1 s.2.2.1 s.2.2.2 l).2 := by
      unfold lbS
      rw [hcs, e1]
    have hok : tOK G l := Or.inr ⟨hl3, h12⟩
    have hg2 : GX g (plG G l) y := hg.t (Ct.tplG G l) (hg.2.1.mplG hok)
    have hx2 : RXs (lbS g y s l) (plG G l) := by
      rw [eS, epl]
      exact had.2.1
    have h42 : (lbS g y s l).1 4 = plG G l 166 36 := by
      rw [eS, epl]
      exact had.2.2.1
    have hz2 : RY (plG G l) := by
      rw [epl]
      exact Or.inl had.2.2.2
    have h36 := plG_36 hg.2.1 l
    refine ⟨?_, by rw [hcs]; exact e1, e2, CPX.mk hg2 hx2 hz2⟩
    have etj : tj l 0 = l := if_pos rfl
    unfold flF
    rw [if_neg hal, etj]
    by_cases h7 : plG G l 166 36 < 2147483648
    · rw [if_pos h7]
      unfold lbR
      rw [if_pos (by rw [h42]; exact h7), h42]
      unfold lbO
      rw [if_neg (show ¬ plG G l 166 36 = 4294967291 by omega)]
    · rw [if_neg h7]
      exact lbR_eq 59 1 _ _ (Nat.le_refl _) hg2 hx2 hz2 (by rw [h42]; omega)
  · exact absurd ha e1
end LB
theorem acw {g : Nat → Nat → Nat} {hl : Nat → Nat → Int64} {rt : Nat × Nat × Nat × Nat} (hV : Inv g hl rt) : (alS g ≠ 0 ∧ acC (g 44) (g 47) (g 12 2) < 5) ∨ (alS g = 0 ∧ acC (g 44) (g 47) (g 12 2) = 4294967295) := by
  have hp6 := hV.mi.hPl
  have r := hV.gm.rx
  rw [hV.gm.cs]
  rcases hV.gm.ry with z | z
  · rcases ac_eq (P := g 166 6) (by omega) r.2.2.1 rfl r.2.2.2.1 z.1 with ⟨h1, h2, h3, h4⟩ | ⟨h1, h2⟩
    · exact Or.inl ⟨alS_al.mpr h1, by omega⟩
    · refine Or.inr ⟨?_, h2⟩
      by_cases e : alS g = 0
      · exact e
      · exact absurd (alS_al.mp e) h1
  · refine Or.inr ⟨?_, ?_⟩
    · unfold alS
      rw [z.1]
      rfl
    · rw [z.1]
      unfold acC
      rw [if_neg (Nat.not_lt_zero _)]
      rfl
theorem K_canAdd0 {L : Nat} {xs : Nat → Int32} (d : Nat) (g : Nat → Nat → Nat) (hl : Nat → Nat → Int64) (rt : Nat × Nat × Nat × Nat) (hV : Inv g hl rt)  {Q : Po} (hq : Q (some (.int (nI (bn (decide (alS g ≠ 0 ∧ g 166 9 ≠ 12)))))) (HN (RO g 44 (g 44) (g 45) (g 46) (g 47)) hl (RF rt))) : Ev L xs (d + 3) 116 0 [(0, .ref 0)] [] (HN (RO g 44 (g 44) (g 45) (g 46) (g 47)) hl (RF rt)) Q := by
  have hI := hV.mi
  have hW := hI.hW
  have hS := hI.hS
  have hPl := hI.hPl
  have hNx := hI.hNx
  have hLa := hI.hLa
  have hLo := hI.hLo
  have hTb := hI.hTb
  have hTh := hI.hTh
  have hFd := hI.hFd
  have hSn := hI.hSn
  have hSh := hI.hSh
  have hRan := hI.hRan
  have hLr := hI.hLr
  have hLt := hI.hLt
  have hgl := hI.hgl
  have hsz := hI.hsz
  have hcm := hI.hcm
  have hsl := hI.hsl
  have hkd := hI.hkd
  have hvv := hI.hvv
  have hli := hI.hli
  have hro := hI.hro
  have hrw := hI.hrw
  have htx := hI.htx
  have hsw := hI.hsw
  have hsx := hI.hsx
  have hsy := hI.hsy
  have hsh := hI.hsh
  have hle := hI.hle
  have hcl := hI.hcl
  have hwd := hI.hwd
  have hnu := hI.hnu
  have hwn := hI.hwn
  have hs1 := hI.hs1
  have hso := hI.hso
  have hB := hV.gm.cb
  have hB0 := hB.1
  have hPs := hV.gm.cs
  have hsp1 := hV.sp.1
  have htx1 := hV.tx.1
  have h451 := hV.gm.rx.1
  have h442 := hV.gm.rx.2.2.2.1
  have h443 := hV.gm.rx.2.2.2.2
  have h481 := hV.gm.l48.1
  have h501 := hV.gm.l50.1
  have h521 := hV.gm.l52.1
  have h541 := hV.gm.l54.1
  have h04 := hV.tb.1
  have hac1 := hV.ac.1
  have hac2 := hV.ac.2.1
  have hPl0 := hV.gm.cp
  have hacw := acw hV
  have hx3 : ∀ j, j < 5 → g 47 j ≤ 99 := fun j hj => by rw [hV.gm.rx.2.2.1 j hj]; exact hli j hj
  refine Ev.run 5 (pc' := 11) (lv' := [(0, .ref 0)]) (st' := [.ref 44, .ref 12]) (h' := HN (RO g 44 (g 44) (g 45) (g 46) (g 47)) hl (RF rt)) rfl ?_
  refine Ev.call (a := 34) (as := [.ref 12, .ref 44]) (rest := []) (lv0 := [(0, .ref 12), (1, .ref 44)]) (Q1 := (fun z0 h' => z0 = some (.int (nI (acC (g 44) (g 47) (g 12 2)))) ∧ h' = HN (RO g 44 (g 44) (g 45) (g 46) (g 47)) hl (RF rt))) rfl rfl (K44_acting _ g _ _ (by omega) (g 44) (g 45) (g 46) (g 47) hx3 (by omega) ⟨rfl, rfl⟩) (fun r h' hr => ?_)
  obtain ⟨rfl, rfl⟩ := hr
  refine Ev.run 1 (pc' := (if nI (acC (g 44) (g 47) (g 12 2)) < 0 then 37 else 17)) (lv' := [(0, .ref 0)]) (st' := []) (h' := HN (RO g 44 (g 44) (g 45) (g 46) (g 47)) hl (RF rt)) rfl ?_
  refine Ev.ite (fun hc14 => ?_) (fun hc14 => ?_)
  · have hc14 : 2147483648 ≤ (acC (g 44) (g 47) (g 12 2)) := (nI_ltU0 (by omega)).mp hc14
    refine Ev.run 1 (pc' := 38) (lv' := [(0, .ref 0)]) (st' := [.int (nI 0)]) (h' := HN (RO g 44 (g 44) (g 45) (g 46) (g 47)) hl (RF rt)) rfl ?_
    refine Ev.ret (v := some (.int (nI 0))) rfl ?_
    have e : decide (alS g ≠ 0 ∧ g 166 9 ≠ 12) = false := by
      rcases hacw with z | z
      · first | exact decide_eq_true ⟨z.1, by omega⟩ | exact decide_eq_false (fun q => by omega) | (exfalso; omega)
      · first | exact decide_eq_false (fun q => q.1 z.1) | (exfalso; omega)
    rw [e] at hq
    exact hq
  · have hc14 : ¬ (2147483648 ≤ (acC (g 44) (g 47) (g 12 2))) := fun z => hc14 ((nI_ltU0 (by omega)).mpr z)
    refine Ev.run 4 (pc' := 27) (lv' := [(0, .ref 0)]) (st' := [.ref 45]) (h' := HN (RO g 44 (g 44) (g 45) (g 46) (g 47)) hl (RF rt)) rfl ?_
    refine Ev.call (a := 42) (as := [.ref 45]) (rest := []) (lv0 := [(0, .ref 45)]) (Q1 := (fun z0 h' => z0 = some (.int (nI (bn (decide (12 ≤ g 45 1))))) ∧ h' = HN (RO g 44 (g 44) (g 45) (g 46) (g 47)) hl (RF rt))) rfl rfl (K_isFull _ (RO g 44 (g 44) (g 45) (g 46) (g 47)) _ _ 45 12 (ln45 rt) (show g 45 1 < 2 ^ 31 by omega) ⟨rfl, rfl⟩) (fun r h' hr => ?_)
    obtain ⟨rfl, rfl⟩ := hr
    refine Ev_bn (fun hb30 => ?_) (fun hb30 => ?_)
    · have hhb30 : 12 ≤ g 45 1 := of_decide_eq_true hb30
      refine Ev.run 2 (pc' := 38) (lv' := [(0, .ref 0)]) (st' := [.int (nI 0)]) (h' := HN (RO g 44 (g 44) (g 45) (g 46) (g 47)) hl (RF rt)) rfl ?_
      refine Ev.ret (v := some (.int (nI 0))) rfl ?_
      have e : decide (alS g ≠ 0 ∧ g 166 9 ≠ 12) = false := by
        rcases hacw with z | z
        · first | exact decide_eq_true ⟨z.1, by omega⟩ | exact decide_eq_false (fun q => by omega) | (exfalso; omega)
        · first | exact decide_eq_false (fun q => q.1 z.1) | (exfalso; omega)
      rw [e] at hq
      exact hq
    · have hhb30 : ¬ (12 ≤ g 45 1) := of_decide_eq_false hb30
      refine Ev.run 3 (pc' := 38) (lv' := [(0, .ref 0)]) (st' := [.int (nI 1)]) (h' := HN (RO g 44 (g 44) (g 45) (g 46) (g 47)) hl (RF rt)) rfl ?_
      refine Ev.ret (v := some (.int (nI 1))) rfl ?_
      have e : decide (alS g ≠ 0 ∧ g 166 9 ≠ 12) = true := by
        rcases hacw with z | z
        · first | exact decide_eq_true ⟨z.1, by omega⟩ | exact decide_eq_false (fun q => by omega) | (exfalso; omega)
        · first | exact decide_eq_false (fun q => q.1 z.1) | (exfalso; omega)
      rw [e] at hq
      exact hq
theorem K_canAdd {L : Nat} {xs : Nat → Int32} (d : Nat) (g : Nat → Nat → Nat) (hl : Nat → Nat → Int64) (rt : Nat × Nat × Nat × Nat) (hV : Inv g hl rt) {Q : Po} (hq : Q (some (.int (nI (bn (decide (alS g ≠ 0 ∧ g 166 9 ≠ 12)))))) (HN g hl (RF rt))) : Ev L xs (d + 3) 116 0 [(0, .ref 0)] [] (HN g hl (RF rt)) Q := by
  have e : RO g 44 (g 44) (g 45) (g 46) (g 47) = g := ROs44_self g
  refine Ev.hp (congrArg (fun z => HN z hl (RF rt)) e.symm) ?_
  refine K_canAdd0 d g hl rt hV ?_
  rw [e]
  exact hq
theorem KB_step {L : Nat} {xs : Nat → Int32} (d : Nat) (g : Nat → Nat → Nat) (hl : Nat → Nat → Int64) (rt : Nat × Nat × Nat × Nat) (hV : Inv g hl rt) (T T' : Sx) (v : Nat) (hT : plXs g (lwS g 1) T = (v, T')) (hB2 : SxB T) (hB3 : SxB T') (hv : v < 4294967296) (hT4 : T'.1 4 ≤ 4 ∨ T'.1 4 = 4294967295) (l k : Nat) (hk : k ≤ 60) (hno : T.1 4 = 4294967295) {Q : Po} (kk : Ev L xs (d + 7) 117 40 [(3, .int (nI (k + 1))), (2, .ref 128), (0, .ref 0), (1, .int (nI l))] [] (HN (ROs g 128 T') hl (RF rt)) Q) : Ev L xs (d + 7) 117 40 [(3, .int (nI k)), (2, .ref 128), (0, .ref 0), (1, .int (nI l))] [] (HN (ROs g 128 T) hl (RF rt)) Q := by
  have hI := hV.mi
  have hW := hI.hW
  have hS := hI.hS
  have hPl := hI.hPl
  have hNx := hI.hNx
  have hLa := hI.hLa
  have hLo := hI.hLo
  have hTb := hI.hTb
  have hTh := hI.hTh
  have hFd := hI.hFd
  have hSn := hI.hSn
  have hSh := hI.hSh
  have hRan := hI.hRan
  have hLr := hI.hLr
  have hLt := hI.hLt
  have hgl := hI.hgl
  have hsz := hI.hsz
  have hcm := hI.hcm
  have hsl := hI.hsl
  have hkd := hI.hkd
  have hvv := hI.hvv
  have hli := hI.hli
  have hro := hI.hro
  have hrw := hI.hrw
  have htx := hI.htx
  have hsw := hI.hsw
  have hsx := hI.hsx
  have hsy := hI.hsy
  have hsh := hI.hsh
  have hle := hI.hle
  have hcl := hI.hcl
  have hwd := hI.hwd
  have hnu := hI.hnu
  have hwn := hI.hwn
  have hs1 := hI.hs1
  have hso := hI.hso
  have hB := hV.gm.cb
  have hB0 := hB.1
  have hPs := hV.gm.cs
  have hsp1 := hV.sp.1
  have htx1 := hV.tx.1
  have h451 := hV.gm.rx.1
  have h442 := hV.gm.rx.2.2.2.1
  have h443 := hV.gm.rx.2.2.2.2
  have h481 := hV.gm.l48.1
  have h501 := hV.gm.l50.1
  have h521 := hV.gm.l52.1
  have h541 := hV.gm.l54.1
  have h04 := hV.tb.1
  have hac1 := hV.ac.1
  have hac2 := hV.ac.2.1
  have hPl0 := hV.gm.cp
  have hx4 := hB3.2.2.2.2
  have hx2 := hB3.2.2.2.1
  have hx1 := hB3.2.1
  have hxl := hB3.1
  refine Ev.run 3 (pc' := (if nI 60 < nI k then 68 else 46)) (lv' := [(3, .int (nI k)), (2, .ref 128), (0, .ref 0), (1, .int (nI l))]) (st' := []) (h' := HN (RO g 128 T.1 T.2.1 T.2.2.1 T.2.2.2) hl (RF rt)) rfl ?_
  refine Ev.ite (fun hc43 => ?_) (fun hc43 => ?_)
  · have hc43 : 60 < k := (nI_ltI (by omega) (by omega)).mp hc43
    exfalso
    omega
  · have hc43 : ¬ (60 < k) := fun z => hc43 ((nI_ltI (by omega) (by omega)).mpr z)
    refine Ev.run 3 (pc' := (if 0 ≤ nI (T.1 4) then 68 else 53)) (lv' := [(3, .int (nI k)), (2, .ref 128), (0, .ref 0), (1, .int (nI l))]) (st' := []) (h' := HN (RO g 128 T.1 T.2.1 T.2.2.1 T.2.2.2) hl (RF rt)) rfl ?_
    refine Ev.ite (fun hc50 => ?_) (fun hc50 => ?_)
    · have hc50 : (T.1 4) < 2147483648 := (nI_geU0 (by omega)).mp hc50
      exfalso
      omega
    · have hc50 : ¬ ((T.1 4) < 2147483648) := fun z => hc50 ((nI_geU0 (by omega)).mpr z)
      refine Ev.run 3 (pc' := 58) (lv' := [(3, .int (nI k)), (2, .ref 128), (0, .ref 0), (1, .int (nI l))]) (st' := [.ref 128, .ref 12]) (h' := HN (RO g 128 T.1 T.2.1 T.2.2.1 T.2.2.2) hl (RF rt)) rfl ?_
      refine Ev.call (a := 36) (as := [.ref 12, .ref 128]) (rest := []) (lv0 := [(0, .ref 12), (1, .ref 128)]) (Q1 := (fun z0 h' => z0 = some (.int (nI v)) ∧ h' = HN (RO g 128 T'.1 T'.2.1 T'.2.2.1 T'.2.2.2) hl (RF rt))) rfl rfl (K128_playS _ _ _ hV.gok hB2 ⟨congrArg (fun z => some (Value.int (nI z.1))) hT, congrArg (fun z => HN (ROs g 128 z.2) hl (RF rt)) hT⟩) (fun r h' hr => ?_)
      obtain ⟨rfl, rfl⟩ := hr
      refine Ev.run 2 (pc' := 65) (lv' := [(3, .int (nI k + 1)), (2, .ref 128), (0, .ref 0), (1, .int (nI l))]) (st' := []) (h' := HN (RO g 128 T'.1 T'.2.1 T'.2.2.1 T'.2.2.2) hl (RF rt)) rfl ?_
      refine Ev.lvE (congrArg (fun z => (3, Value.int z) :: [(2, .ref 128), (0, .ref 0), (1, .int (nI l))]) (nI_1 _)) ?_
      refine Ev.run 1 (pc' := 40) (lv' := [(3, .int (nI (k + 1))), (2, .ref 128), (0, .ref 0), (1, .int (nI l))]) (st' := []) (h' := HN (RO g 128 T'.1 T'.2.1 T'.2.2.1 T'.2.2.2) hl (RF rt)) rfl ?_
      exact Ev.wk (Ext.cons rfl rfl (Ext.cons rfl rfl (Ext.cons rfl rfl (Ext.cons rfl rfl (Ext.nil rfl))))) kk
theorem KB_end {L : Nat} {xs : Nat → Int32} (d : Nat) (g : Nat → Nat → Nat) (hl : Nat → Nat → Int64) (rt : Nat × Nat × Nat × Nat) (hV : Inv g hl rt) (T : Sx) (l k : Nat) (hk : k ≤ 61) (hb : T.1 4 ≤ 4 ∨ T.1 4 = 4294967295) (he : k = 61 ∨ T.1 4 < 2147483648) {Q : Po} (hq : Q (some (.int (nI (T.1 4)))) (HN (ROs g 128 T) hl (RF rt))) : Ev L xs (d + 7) 117 40 [(3, .int (nI k)), (2, .ref 128), (0, .ref 0), (1, .int (nI l))] [] (HN (ROs g 128 T) hl (RF rt)) Q := by
  have hI := hV.mi
  have hW := hI.hW
  have hS := hI.hS
  have hPl := hI.hPl
  have hNx := hI.hNx
  have hLa := hI.hLa
  have hLo := hI.hLo
  have hTb := hI.hTb
  have hTh := hI.hTh
  have hFd := hI.hFd
  have hSn := hI.hSn
  have hSh := hI.hSh
  have hRan := hI.hRan
  have hLr := hI.hLr
  have hLt := hI.hLt
  have hgl := hI.hgl
  have hsz := hI.hsz
  have hcm := hI.hcm
  have hsl := hI.hsl
  have hkd := hI.hkd
  have hvv := hI.hvv
  have hli := hI.hli
  have hro := hI.hro
  have hrw := hI.hrw
  have htx := hI.htx
  have hsw := hI.hsw
  have hsx := hI.hsx
  have hsy := hI.hsy
  have hsh := hI.hsh
  have hle := hI.hle
  have hcl := hI.hcl
  have hwd := hI.hwd
  have hnu := hI.hnu
  have hwn := hI.hwn
  have hs1 := hI.hs1
  have hso := hI.hso
  have hB := hV.gm.cb
  have hB0 := hB.1
  have hPs := hV.gm.cs
  have hsp1 := hV.sp.1
  have htx1 := hV.tx.1
  have h451 := hV.gm.rx.1
  have h442 := hV.gm.rx.2.2.2.1
  have h443 := hV.gm.rx.2.2.2.2
  have h481 := hV.gm.l48.1
  have h501 := hV.gm.l50.1
  have h521 := hV.gm.l52.1
  have h541 := hV.gm.l54.1
  have h04 := hV.tb.1
  have hac1 := hV.ac.1
  have hac2 := hV.ac.2.1
  have hPl0 := hV.gm.cp
  refine Ev.run 3 (pc' := (if nI 60 < nI k then 68 else 46)) (lv' := [(3, .int (nI k)), (2, .ref 128), (0, .ref 0), (1, .int (nI l))]) (st' := []) (h' := HN (RO g 128 T.1 T.2.1 T.2.2.1 T.2.2.2) hl (RF rt)) rfl ?_
  refine Ev.ite (fun hc43 => ?_) (fun hc43 => ?_)
  · have hc43 : 60 < k := (nI_ltI (by omega) (by omega)).mp hc43
    refine Ev.run 2 (pc' := 72) (lv' := [(3, .int (nI k)), (2, .ref 128), (0, .ref 0), (1, .int (nI l))]) (st' := [.int (nI (T.1 4))]) (h' := HN (RO g 128 T.1 T.2.1 T.2.2.1 T.2.2.2) hl (RF rt)) rfl ?_
    refine Ev.ret (v := some (.int (nI (T.1 4)))) rfl ?_
    exact hq
  · have hc43 : ¬ (60 < k) := fun z => hc43 ((nI_ltI (by omega) (by omega)).mpr z)
    refine Ev.run 3 (pc' := (if 0 ≤ nI (T.1 4) then 68 else 53)) (lv' := [(3, .int (nI k)), (2, .ref 128), (0, .ref 0), (1, .int (nI l))]) (st' := []) (h' := HN (RO g 128 T.1 T.2.1 T.2.2.1 T.2.2.2) hl (RF rt)) rfl ?_
    refine Ev.ite (fun hc50 => ?_) (fun hc50 => ?_)
    · have hc50 : (T.1 4) < 2147483648 := (nI_geU0 (by omega)).mp hc50
      refine Ev.run 2 (pc' := 72) (lv' := [(3, .int (nI k)), (2, .ref 128), (0, .ref 0), (1, .int (nI l))]) (st' := [.int (nI (T.1 4))]) (h' := HN (RO g 128 T.1 T.2.1 T.2.2.1 T.2.2.2) hl (RF rt)) rfl ?_
      refine Ev.ret (v := some (.int (nI (T.1 4)))) rfl ?_
      exact hq
    · have hc50 : ¬ ((T.1 4) < 2147483648) := fun z => hc50 ((nI_geU0 (by omega)).mpr z)
      exfalso
      omega
theorem K_lbl {L : Nat} {xs : Nat → Int32} (d : Nat) (g : Nat → Nat → Nat) (hl : Nat → Nat → Int64) (rt : Nat × Nat × Nat × Nat) (hV : Inv g hl rt) (l : Nat) {Q : Po} : ∀ (f j : Nat) (T : Sx) (G : Nat → Nat → Nat), f + j = 60 → GX g G (lwS g 1) → RXs T G → RY G → (T.1 4 ≤ 4 ∨ T.1 4 = 4294967295) → (∀ T', Q (some (.int (nI (lbR g (lwS g 1) f T)))) (HN (ROs g 128 T') hl (RF rt))) → Ev L xs (d + 7) 117 40 [(3, .int (nI (j + 1))), (2, .ref 128), (0, .ref 0), (1, .int (nI l))] [] (HN (ROs g 128 T) hl (RF rt)) Q := by
  intro f
  induction f with
  | zero =>
    intro j T G hf hg hx hz hb hq
    exact KB_end d g hl rt hV T l (j + 1) (by omega) hb (Or.inl (by omega)) (hq T)
  | succ f ih =>
    intro j T G hf hg hx hz hb hq
    by_cases h7 : T.1 4 < 2147483648
    · refine KB_end d g hl rt hV T l (j + 1) (by omega) hb (Or.inr h7) ?_
      have e := hq T
      unfold lbR at e
      rw [if_pos h7] at e
      exact e
    · obtain ⟨v, T', h1, h2, h3, h4, h5, h6⟩ := pl_both hg hx hz
      have eT : stX g (lwS g 1) T = T' := congrArg Prod.snd h1
      refine KB_step d g hl rt hV T T' v h1 h2 h3 h4 h6 l (j + 1) (by omega) (by omega) ?_
      have hq2 : ∀ T2, Q (some (.int (nI (lbR g (lwS g 1) f T')))) (HN (ROs g 128 T2) hl (RF rt)) := fun T2 => by
        have e := hq T2
        unfold lbR at e
        rw [if_neg h7, eT] at e
        exact e
      rcases h5 with ⟨a1, a2, a3, a4⟩ | ⟨a1, a2, a3, a4, a5, a6⟩
      · exact ih (j + 1) T' G (by omega) hg a3 hz h6 hq2
      · exact ih (j + 1) T' _ (by omega) a6 a3 a5 h6 hq2
