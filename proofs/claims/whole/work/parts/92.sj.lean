/-! the class: turns looked at ahead -/
section RC
variable {g g1 : Nat → Nat → Nat} {hl : Nat → Nat → Int64} {rt : Nat × Nat × Nat × Nat}
theorem ROs_ne (g : Nat → Nat → Nat) (s : Sx) {a : Nat} (h : a < 128 ∨ 131 < a) (j : Nat) : ROs g 128 s a j = g a j := RO_ne g 128 _ _ _ _ (fun k hk => by omega) j
theorem Fr.ro (g : Nat → Nat → Nat) (s : Sx) : Fr g (ROs g 128 s) := by
  have hx : ∀ a, a < 128 ∨ 131 < a → ROs g 128 s a = g a := fun a ha => funext (fun j => ROs_ne g s ha j)
  exact ⟨fun a ha => hx a (by unfold okC at ha; omega), fun j _ _ _ _ _ _ _ => by rw [hx 166 (by decide)], fun b _ => by rw [hx 173 (by decide)], fun k _ => by rw [hx 175 (by decide)]⟩
theorem Em.ro (g : Nat → Nat → Nat) (s : Sx) : Em g (ROs g 128 s) := fun a ha => funext (fun j => ROs_ne g s (by omega) j)
theorem Inv.ro (h : Inv g hl rt) (s : Sx) : Inv (ROs g 128 s) hl rt :=
  h.fr (Fr.ro g s) ((Em.ro g s).mI h.mi) (fun j hj => by rw [ROs_ne g s (by decide)]; exact h.k59 j hj) (fun j hj => by rw [ROs_ne g s (by decide)]; exact h.k18 j hj)
theorem RO_own {W : Nat → Nat → Nat} (h : ∀ a, a < 128 ∨ 131 < a → W a = g a) : W = ROs g 128 (W 128, W 129, W 130, W 131) := by
  funext a
  unfold ROs RO ur
  funext j
  by_cases h1 : a = 131
  · subst h1; rfl
  · by_cases h2 : a = 130
    · subst h2; rfl
    · by_cases h3 : a = 129
      · subst h3; rfl
      · by_cases h4 : a = 128
        · subst h4; rfl
        · rw [if_neg (by omega), if_neg (by omega), if_neg (by omega), if_neg (by omega), h a (by omega)]
theorem RO_RO (g : Nat → Nat → Nat) (s t : Sx) : ROs (ROs g 128 s) 128 t = ROs g 128 t := by
  funext a j
  by_cases h : a < 128 ∨ 131 < a
  · rw [ROs_ne _ _ h, ROs_ne _ _ h, ROs_ne _ _ h]
  · rcases (show a = 128 ∨ a = 129 ∨ a = 130 ∨ a = 131 by omega) with rfl | rfl | rfl | rfl <;> rfl
theorem RXs.em {s : Sx} (h : RXs s g) (k : Em g g1) : RXs s g1 := by
  unfold RXs RX at *
  rw [k.f9, k.f7, k.f8, k.r175, k.r173]
  exact h
theorem RXs.kp {s : Sx} (h : RXs s g) (r : Nat → Nat) : RXs s (kpU g r) := h
theorem Cw.kp (g : Nat → Nat → Nat) (r : Nat → Nat) : Cw g (kpU g r) := by
  have k := Cx.ckp g r
  exact ⟨k.1, fun j h1 h2 h3 _ _ h6 h7 h8 h9 h10 h11 => k.2 j h1 h2 h3 h6 h7 h8 h9 h10 h11⟩
theorem GX.kp (hV : Inv g hl rt) (hr : RDY g) (r : Nat → Nat) : GX g (kpU g r) (lwS g 1) :=
  ⟨hV.mi, hV.mi.mkpU r, hV.gm.cb, Cw.kp g r, rfl, hV.gm.cs, fun p hp => (hr.1 p hp).trans (congrFun (Cx.ckp g r).xknS p).symm, hr.2⟩
theorem RY.kp (h : RY g) (r : Nat → Nat) : RY (kpU g r) := h
theorem CPX.of (hV : Inv g hl rt) (hr : RDY g) {s : Sx} (h : RXs s g) : CPX g (lwS g 1) s := ⟨kpU g (g 175), GX.kp hV hr _, h.kp _, hV.gm.ry.kp _⟩
theorem CPX.mk {y : Nat} {s : Sx} {G : Nat → Nat → Nat} (a : GX g G y) (b : RXs s G) (c : RY G) : SxB s := CPX.b ⟨G, a, b, c⟩
end RC
theorem K_rcopy {L : Nat} {xs : Nat → Int32} (d : Nat) (g : Nat → Nat → Nat) (hl : Nat → Nat → Int64) (rt : Nat × Nat × Nat × Nat) (hV : Inv g hl rt)  {Q : Po} (hq : Q none (HN (u2 (u2 (u2 (cpR (cpLn g 45 129) 131 0 5 (g 47)) 128 2 (g 44 2)) 128 3 (g 44 3)) 128 4 4294967295) hl (RF rt))) : Ev L xs (d + 3) 62 0 [(0, .ref 128), (1, .ref 44)] [] (HN g hl (RF rt)) Q := by
  have hI := hV.mi
  have hW := hI.hW
  have hS := hI.hS
  have hPl := hI.hPl
  have hNx := hI.hNx
  have hLa := hI.hLa
  have hLo := hI.hLo
  have hTb := hI.hTb
  have hTh := hI.hTh
  have hFd := hI.hFd
  have hSn := hI.hSn
  have hSh := hI.hSh
  have hRan := hI.hRan
  have hLr := hI.hLr
  have hLt := hI.hLt
  have hgl := hI.hgl
  have hsz := hI.hsz
  have hcm := hI.hcm
  have hsl := hI.hsl
  have hkd := hI.hkd
  have hvv := hI.hvv
  have hli := hI.hli
  have hro := hI.hro
  have hrw := hI.hrw
  have htx := hI.htx
  have hsw := hI.hsw
  have hsx := hI.hsx
  have hsy := hI.hsy
  have hsh := hI.hsh
  have hle := hI.hle
  have hcl := hI.hcl
  have hwd := hI.hwd
  have hnu := hI.hnu
  have hwn := hI.hwn
  have hs1 := hI.hs1
  have hso := hI.hso
  have hB := hV.gm.cb
  have hB0 := hB.1
  have hPs := hV.gm.cs
  have hsp1 := hV.sp.1
  have htx1 := hV.tx.1
  have h451 := hV.gm.rx.1
  have h442 := hV.gm.rx.2.2.2.1
  have h443 := hV.gm.rx.2.2.2.2
  have h481 := hV.gm.l48.1
  have h501 := hV.gm.l50.1
  have h521 := hV.gm.l52.1
  have h541 := hV.gm.l54.1
  have h04 := hV.tb.1
  have hac1 := hV.ac.1
  have hac2 := hV.ac.2.1
  have hPl0 := hV.gm.cp
  refine Ev.run 4 (pc' := 8) (lv' := [(0, .ref 128), (1, .ref 44)]) (st' := [.ref 45, .ref 129]) (h' := HN g hl (RF rt)) rfl ?_
  refine Ev.call (a := 46) (as := [.ref 129, .ref 45]) (rest := []) (lv0 := [(0, .ref 129), (1, .ref 45)]) (Q1 := (fun z0 h' => z0 = none ∧ h' = HN (cpLn g 45 129) hl (RF rt))) rfl rfl (K_copyLine _ _ _ _ 45 129 12 12 (ln45 rt) (ln129 rt) (by omega) (by omega) (by omega) ⟨rfl, rfl⟩) (fun r h' hr => ?_)
  obtain ⟨rfl, rfl⟩ := hr
  refine Ev.run 7 (pc' := 22) (lv' := [(0, .ref 128), (1, .ref 44)]) (st' := [.int (nI 5), .int (nI 0), .ref 131, .int (nI 0), .ref 47]) (h' := HN (cpLn g 45 129) hl (RF rt)) rfl ?_
  refine Ev_acpI rfl rfl rfl (⟨by decide, rfl⟩ : KC 47 11 5) (⟨by decide, rfl⟩ : KC 131 11 5) (by omega) (by omega) (by omega) ?_
  refine Ev.run 4 (pc' := 33) (lv' := [(0, .ref 128), (1, .ref 44)]) (st' := []) (h' := setI (HN (cpR (cpLn g 45 129) 131 0 5 ((cpLn g 45 129) 47)) hl (RF rt)) 128 2 (nI ((cpLn g 45 129) 44 2))) rfl ?_
  refine Ev.hp (HN_set _ _ _ _ _ _) ?_
  refine Ev.run 4 (pc' := 41) (lv' := [(0, .ref 128), (1, .ref 44)]) (st' := []) (h' := setI (HN (u2 (cpR (cpLn g 45 129) 131 0 5 ((cpLn g 45 129) 47)) 128 2 ((cpLn g 45 129) 44 2)) hl (RF rt)) 128 3 (nI ((cpLn g 45 129) 44 3))) rfl ?_
  refine Ev.hp (HN_set _ _ _ _ _ _) ?_
  refine Ev.run 3 (pc' := 46) (lv' := [(0, .ref 128), (1, .ref 44)]) (st' := []) (h' := setI (HN (u2 (u2 (cpR (cpLn g 45 129) 131 0 5 ((cpLn g 45 129) 47)) 128 2 ((cpLn g 45 129) 44 2)) 128 3 ((cpLn g 45 129) 44 3)) hl (RF rt)) 128 4 (nI 4294967295)) rfl ?_
  refine Ev.hp (HN_set _ _ _ _ _ _) ?_
  refine Ev.ret (v := none) rfl ?_
  exact hq
theorem K_rcopyS {L : Nat} {xs : Nat → Int32} (d : Nat) (g : Nat → Nat → Nat) (hl : Nat → Nat → Int64) (rt : Nat × Nat × Nat × Nat) (hV : Inv g hl rt) (s0 : Sx) {Q : Po} (hq : ∀ s : Sx, RXs s g → s.1 4 = 4294967295 → Q none (HN (ROs g 128 s) hl (RF rt))) : Ev L xs (d + 3) 62 0 [(0, .ref 128), (1, .ref 44)] [] (HN (ROs g 128 s0) hl (RF rt)) Q := by
  refine K_rcopy d (ROs g 128 s0) hl rt (hV.ro s0) ?_
  obtain ⟨W, hW⟩ : ∃ W, W = (u2 (u2 (u2 (cpR (cpLn (ROs g 128 s0) 45 129) 131 0 5 (ROs g 128 s0 47)) 128 2 (ROs g 128 s0 44 2)) 128 3 (ROs g 128 s0 44 3)) 128 4 4294967295) := ⟨_, rfl⟩
  have h1 : ∀ a, a < 128 ∨ 131 < a → W a = g a := fun a ha => by
    funext j
    rw [hW, u2_ne _ (Or.inl (by omega)), u2_ne _ (Or.inl (by omega)), u2_ne _ (Or.inl (by omega))]
    unfold cpR cpLn
    rw [if_neg (by omega)]
    unfold cpR
    rw [if_neg (by omega), u2_ne _ (Or.inl (by omega)), ROs_ne g s0 ha]
  have r := hV.gm.rx
  have e := hq (W 128, W 129, W 130, W 131) ⟨?_, fun q hq => ?_, fun j hj => ?_, ?_, ?_⟩ ?_
  · rw [← RO_own h1, hW] at e
    exact e
  · show W 129 1 = _
    rw [hW]
    exact r.1
  · show W 130 q = _
    rw [hW]
    have e2 : (if 0 ≤ q ∧ q < 0 + ROs g 128 s0 45 1 then ROs g 128 s0 46 (q - 0) else ROs g 128 s0 130 q) = g 175 q := by
      have e3 : ROs g 128 s0 45 1 = g 166 9 := r.1
      rw [if_pos ⟨Nat.zero_le _, by omega⟩, Nat.sub_zero]
      exact r.2.1 q hq
    exact e2
  · show W 131 j = _
    rw [hW]
    have e2 : (if 0 ≤ j ∧ j < 0 + 5 then ROs g 128 s0 47 (j - 0) else ROs g 128 s0 131 j) = g 173 j := by
      rw [if_pos ⟨Nat.zero_le _, by omega⟩, Nat.sub_zero]
      exact r.2.2.1 j hj
    exact e2
  · show W 128 2 = _
    rw [hW]
    exact r.2.2.2.1
  · show W 128 3 = _
    rw [hW]
    exact r.2.2.2.2
  · show W 128 4 = _
    rw [hW]
    rfl
theorem K_look {L : Nat} {xs : Nat → Int32} (d : Nat) (g : Nat → Nat → Nat) (hl : Nat → Nat → Int64) (rt : Nat × Nat × Nat × Nat) (hV : Inv g hl rt) {Q : Po} (hq : ∀ g1, Inv g1 hl rt → RDY g1 → Em g g1 → ∀ s : Sx, RXs s g1 → s.1 4 = 4294967295 → Q (some (.ref 128)) (HN (ROs g1 128 s) hl (RF rt))) : Ev L xs (d + 6) 115 0 [(0, .ref 0)] [] (HN g hl (RF rt)) Q := by
  refine Ev.run 2 (pc' := 4) (lv' := [(0, .ref 0)]) (st' := [.ref 12]) (h' := HN g hl (RF rt)) rfl ?_
  refine Ev.call (a := 28) (as := [.ref 12]) (rest := []) (lv0 := [(0, .ref 12)]) (Q1 := (fun z0 h' => z0 = none ∧ ∃ g1, h' = HN g1 hl (RF rt) ∧ Inv g1 hl rt ∧ Em g g1 ∧ Fr g g1 ∧ RDY g1)) rfl rfl (K_prepare _ g hl rt hV (fun g1 h1 h2 h3 h4 => ⟨rfl, g1, rfl, h1, h2, h3, h4⟩)) (fun r h' hr => ?_)
  obtain ⟨rfl, g1, rfl, hV1, hem, hfr, hrd⟩ := hr
  refine Ev.run 5 (pc' := 18) (lv' := [(0, .ref 0)]) (st' := [.ref 44, .ref 128]) (h' := HN g1 hl (RF rt)) rfl ?_
  refine Ev.hp (congrArg (fun z => HN z hl (RF rt)) (RO_own (g := g1) (W := g1) (fun _ _ => rfl))) ?_
  refine Ev.call (a := 62) (as := [.ref 128, .ref 44]) (rest := []) (lv0 := [(0, .ref 128), (1, .ref 44)]) (Q1 := (fun z0 h' => z0 = none ∧ ∃ s : Sx, RXs s g1 ∧ s.1 4 = 4294967295 ∧ h' = HN (ROs g1 128 s) hl (RF rt))) rfl rfl (K_rcopyS _ g1 hl rt hV1 _ (fun s h1 h2 => ⟨rfl, s, h1, h2, rfl⟩)) (fun r h' hr => ?_)
  obtain ⟨rfl, s, h1, h2, rfl⟩ := hr
  refine Ev.run 2 (pc' := 25) (lv' := [(0, .ref 0)]) (st' := [.ref 128]) (h' := HN (ROs g1 128 s) hl (RF rt)) rfl ?_
  refine Ev.ret (v := some (.ref 128)) rfl ?_
  exact hq g1 hV1 hrd hem s h1 h2
