/-! the class: who ends it, who is out first, means, sheets looked at -/
/-- a turn of the class beside the reference's: nobody alive, or a turn of both -/
theorem pl_both {g G : Nat → Nat → Nat} {y : Nat} {T : Sx} (hg : GX g G y) (hx : RXs T G) (hz : RY G) : ∃ (v : Nat) (T' : Sx), plXs g y T = (v, T') ∧ SxB T ∧ SxB T' ∧ v < 4294967296 ∧ ((alS G = 0 ∧ v = 4294967293 ∧ RXs T' G ∧ T'.1 4 = 4294967295) ∨ (alS G ≠ 0 ∧ v = plV G 4294967295 ∧ RXs T' (plG G 4294967295) ∧ T'.1 4 = plG G 4294967295 166 36 ∧ RY (plG G 4294967295) ∧ GX g (plG G 4294967295) y)) ∧ (T'.1 4 ≤ 4 ∨ T'.1 4 = 4294967295) := by
  have hb := CPX.mk hg hx hz
  have hst := (CPX.st ⟨G, hg, hx, hz⟩).b
  by_cases e : alS G = 0
  · obtain ⟨h1, h2, h3⟩ := na_eq hg hx hz e
    exact ⟨(plXs g y T).1, stX g y T, rfl, hb, hst, by rw [h1]; decide, Or.inl ⟨e, h1, h2, h3⟩, Or.inr h3⟩
  · obtain ⟨h1, h2, h3, h4⟩ := al_eq hg hx hz e
    have h5 := hg.st
    have e2 : stG G = plG G 4294967295 := if_neg e
    rw [e2] at h5
    have hv := plV_lt hg.2.1 (t := 4294967295) (Or.inl rfl)
    exact ⟨(plXs g y T).1, stX g y T, rfl, hb, hst, by rw [h1]; omega, Or.inr ⟨e, h1, h2, h3, h4, h5⟩, by rw [h3]; exact plG_36 hg.2.1 _⟩
theorem KE_step {L : Nat} {xs : Nat → Int32} (d : Nat) (g : Nat → Nat → Nat) (hl : Nat → Nat → Int64) (rt : Nat × Nat × Nat × Nat) (hV : Inv g hl rt) (T T' : Sx) (v : Nat) (hT : plXs g (lwS g 1) T = (v, T')) (hB2 : SxB T) (hB3 : SxB T') (hv : v < 4294967296) (hT4 : T'.1 4 ≤ 4 ∨ T'.1 4 = 4294967295) (x k : Nat) (hx3 : x ≤ 2) (hk : k ≤ 60) {Q : Po} (hq : T'.1 4 < 2147483648 → Q (some (.int (nI (if x = 0 then T'.1 4 else if x = 1 then k else if v = 110 then 1 else 0)))) (HN (ROs g 128 T') hl (RF rt))) (kk : ¬ T'.1 4 < 2147483648 → Ev L xs (d + 7) 89 18 [(3, .int (nI (k + 1))), (2, .ref 128), (0, .ref 0), (1, .int (nI x))] [] (HN (ROs g 128 T') hl (RF rt)) Q) : Ev L xs (d + 7) 89 18 [(3, .int (nI k)), (2, .ref 128), (0, .ref 0), (1, .int (nI x))] [] (HN (ROs g 128 T) hl (RF rt)) Q := by
  have hI := hV.mi
  have hW := hI.hW
  have hS := hI.hS
  have hPl := hI.hPl
  have hNx := hI.hNx
  have hLa := hI.hLa
  have hLo := hI.hLo
  have hTb := hI.hTb
  have hTh := hI.hTh
  have hFd := hI.hFd
  have hSn := hI.hSn
  have hSh := hI.hSh
  have hRan := hI.hRan
  have hLr := hI.hLr
  have hLt := hI.hLt
  have hgl := hI.hgl
  have hsz := hI.hsz
  have hcm := hI.hcm
  have hsl := hI.hsl
  have hkd := hI.hkd
  have hvv := hI.hvv
  have hli := hI.hli
  have hro := hI.hro
  have hrw := hI.hrw
  have htx := hI.htx
  have hsw := hI.hsw
  have hsx := hI.hsx
  have hsy := hI.hsy
  have hsh := hI.hsh
  have hle := hI.hle
  have hcl := hI.hcl
  have hwd := hI.hwd
  have hnu := hI.hnu
  have hwn := hI.hwn
  have hs1 := hI.hs1
  have hso := hI.hso
  have hB := hV.gm.cb
  have hB0 := hB.1
  have hPs := hV.gm.cs
  have hsp1 := hV.sp.1
  have htx1 := hV.tx.1
  have h451 := hV.gm.rx.1
  have h442 := hV.gm.rx.2.2.2.1
  have h443 := hV.gm.rx.2.2.2.2
  have h481 := hV.gm.l48.1
  have h501 := hV.gm.l50.1
  have h521 := hV.gm.l52.1
  have h541 := hV.gm.l54.1
  have h04 := hV.tb.1
  have hac1 := hV.ac.1
  have hac2 := hV.ac.2.1
  have hPl0 := hV.gm.cp
  have hx4 := hB3.2.2.2.2
  have hx2 := hB3.2.2.2.1
  have hx1 := hB3.2.1
  have hxl := hB3.1
  refine Ev.run 3 (pc' := (if nI 60 < nI k then 84 else 24)) (lv' := [(3, .int (nI k)), (2, .ref 128), (0, .ref 0), (1, .int (nI x))]) (st' := []) (h' := HN (RO g 128 T.1 T.2.1 T.2.2.1 T.2.2.2) hl (RF rt)) rfl ?_
  refine Ev.ite (fun hc21 => ?_) (fun hc21 => ?_)
  · have hc21 : 60 < k := (nI_ltI (by omega) (by omega)).mp hc21
    refine Ev.run 1 (pc' := 86) (lv' := [(3, .int (nI k)), (2, .ref 128), (0, .ref 0), (1, .int (nI x))]) (st' := [.int (nI 4294967291)]) (h' := HN (RO g 128 T.1 T.2.1 T.2.2.1 T.2.2.2) hl (RF rt)) rfl ?_
    refine Ev.ret (v := some (.int (nI 4294967291))) rfl ?_
    exfalso
    omega
  · have hc21 : ¬ (60 < k) := fun z => hc21 ((nI_ltI (by omega) (by omega)).mpr z)
    refine Ev.run 3 (pc' := 29) (lv' := [(3, .int (nI k)), (2, .ref 128), (0, .ref 0), (1, .int (nI x))]) (st' := [.ref 128, .ref 12]) (h' := HN (RO g 128 T.1 T.2.1 T.2.2.1 T.2.2.2) hl (RF rt)) rfl ?_
    refine Ev.call (a := 36) (as := [.ref 12, .ref 128]) (rest := []) (lv0 := [(0, .ref 12), (1, .ref 128)]) (Q1 := (fun z0 h' => z0 = some (.int (nI v)) ∧ h' = HN (RO g 128 T'.1 T'.2.1 T'.2.2.1 T'.2.2.2) hl (RF rt))) rfl rfl (K128_playS _ _ _ hV.gok hB2 ⟨congrArg (fun z => some (Value.int (nI z.1))) hT, congrArg (fun z => HN (ROs g 128 z.2) hl (RF rt)) hT⟩) (fun r h' hr => ?_)
    obtain ⟨rfl, rfl⟩ := hr
    refine Ev.run 4 (pc' := (if nI (T'.1 4) < 0 then 78 else 41)) (lv' := [(4, .int (nI v)), (3, .int (nI k)), (2, .ref 128), (0, .ref 0), (1, .int (nI x))]) (st' := []) (h' := HN (RO g 128 T'.1 T'.2.1 T'.2.2.1 T'.2.2.2) hl (RF rt)) rfl ?_
    refine Ev.ite (fun hc38 => ?_) (fun hc38 => ?_)
    · have hc38 : 2147483648 ≤ (T'.1 4) := (nI_ltU0 (by omega)).mp hc38
      refine Ev.run 1 (pc' := 81) (lv' := [(3, .int (nI k + 1)), (4, .int (nI v)), (2, .ref 128), (0, .ref 0), (1, .int (nI x))]) (st' := []) (h' := HN (RO g 128 T'.1 T'.2.1 T'.2.2.1 T'.2.2.2) hl (RF rt)) rfl ?_
      refine Ev.lvE (congrArg (fun z => (3, Value.int z) :: [(4, .int (nI v)), (2, .ref 128), (0, .ref 0), (1, .int (nI x))]) (nI_1 _)) ?_
      refine Ev.run 1 (pc' := 18) (lv' := [(3, .int (nI (k + 1))), (4, .int (nI v)), (2, .ref 128), (0, .ref 0), (1, .int (nI x))]) (st' := []) (h' := HN (RO g 128 T'.1 T'.2.1 T'.2.2.1 T'.2.2.2) hl (RF rt)) rfl ?_
      exact Ev.wk (Ext.cons rfl rfl (Ext.cons rfl rfl (Ext.cons rfl rfl (Ext.cons rfl rfl (Ext.nil rfl))))) (kk (by omega))
    · have hc38 : ¬ (2147483648 ≤ (T'.1 4)) := fun z => hc38 ((nI_ltU0 (by omega)).mpr z)
      refine Ev.run 3 (pc' := (if nI v = nI 110 then 48 else 52)) (lv' := [(4, .int (nI v)), (3, .int (nI k)), (2, .ref 128), (0, .ref 0), (1, .int (nI x))]) (st' := []) (h' := HN (RO g 128 T'.1 T'.2.1 T'.2.2.1 T'.2.2.2) hl (RF rt)) rfl ?_
      refine Ev.ite (fun hc45 => ?_) (fun hc45 => ?_)
      · have hc45 : v = 110 := (nI_eqU (by omega) (by omega)).mp hc45
        refine Ev.run 5 (pc' := (if nI x = 0 then 59 else 66)) (lv' := [(5, .int (nI 1)), (4, .int (nI v)), (3, .int (nI k)), (2, .ref 128), (0, .ref 0), (1, .int (nI x))]) (st' := []) (h' := HN (RO g 128 T'.1 T'.2.1 T'.2.2.1 T'.2.2.2) hl (RF rt)) rfl ?_
        refine Ev.ite (fun hc56 => ?_) (fun hc56 => ?_)
        · have hc56 : x = 0 := (nI_eqU0 (by omega)).mp hc56
          refine Ev.run 3 (pc' := 77) (lv' := [(5, .int (nI 1)), (4, .int (nI v)), (3, .int (nI k)), (2, .ref 128), (0, .ref 0), (1, .int (nI x))]) (st' := [.int (nI (T'.1 4))]) (h' := HN (RO g 128 T'.1 T'.2.1 T'.2.2.1 T'.2.2.2) hl (RF rt)) rfl ?_
          refine Ev.ret (v := some (.int (nI (T'.1 4)))) rfl ?_
          have hq := hq (by omega)
          (repeat (first | rw [if_pos (by omega)] at hq | rw [if_neg (by omega)] at hq))
          exact hq
        · have hc56 : ¬ (x = 0) := fun z => hc56 ((nI_eqU0 (by omega)).mpr z)
          refine Ev.run 3 (pc' := (if nI x = nI 1 then 71 else 75)) (lv' := [(5, .int (nI 1)), (4, .int (nI v)), (3, .int (nI k)), (2, .ref 128), (0, .ref 0), (1, .int (nI x))]) (st' := []) (h' := HN (RO g 128 T'.1 T'.2.1 T'.2.2.1 T'.2.2.2) hl (RF rt)) rfl ?_
          refine Ev.ite (fun hc68 => ?_) (fun hc68 => ?_)
          · have hc68 : x = 1 := (nI_eqU (by omega) (by omega)).mp hc68
            refine Ev.run 2 (pc' := 77) (lv' := [(5, .int (nI 1)), (4, .int (nI v)), (3, .int (nI k)), (2, .ref 128), (0, .ref 0), (1, .int (nI x))]) (st' := [.int (nI k)]) (h' := HN (RO g 128 T'.1 T'.2.1 T'.2.2.1 T'.2.2.2) hl (RF rt)) rfl ?_
            refine Ev.ret (v := some (.int (nI k))) rfl ?_
            have hq := hq (by omega)
            (repeat (first | rw [if_pos (by omega)] at hq | rw [if_neg (by omega)] at hq))
            exact hq
          · have hc68 : ¬ (x = 1) := fun z => hc68 ((nI_eqU (by omega) (by omega)).mpr z)
            refine Ev.run 1 (pc' := 77) (lv' := [(5, .int (nI 1)), (4, .int (nI v)), (3, .int (nI k)), (2, .ref 128), (0, .ref 0), (1, .int (nI x))]) (st' := [.int (nI 1)]) (h' := HN (RO g 128 T'.1 T'.2.1 T'.2.2.1 T'.2.2.2) hl (RF rt)) rfl ?_
            refine Ev.ret (v := some (.int (nI 1))) rfl ?_
            have hq := hq (by omega)
            (repeat (first | rw [if_pos (by omega)] at hq | rw [if_neg (by omega)] at hq))
            exact hq
      · have hc45 : ¬ (v = 110) := fun z => hc45 ((nI_eqU (by omega) (by omega)).mpr z)
        refine Ev.run 4 (pc' := (if nI x = 0 then 59 else 66)) (lv' := [(5, .int (nI 0)), (4, .int (nI v)), (3, .int (nI k)), (2, .ref 128), (0, .ref 0), (1, .int (nI x))]) (st' := []) (h' := HN (RO g 128 T'.1 T'.2.1 T'.2.2.1 T'.2.2.2) hl (RF rt)) rfl ?_
        refine Ev.ite (fun hc56 => ?_) (fun hc56 => ?_)
        · have hc56 : x = 0 := (nI_eqU0 (by omega)).mp hc56
          refine Ev.run 3 (pc' := 77) (lv' := [(5, .int (nI 0)), (4, .int (nI v)), (3, .int (nI k)), (2, .ref 128), (0, .ref 0), (1, .int (nI x))]) (st' := [.int (nI (T'.1 4))]) (h' := HN (RO g 128 T'.1 T'.2.1 T'.2.2.1 T'.2.2.2) hl (RF rt)) rfl ?_
          refine Ev.ret (v := some (.int (nI (T'.1 4)))) rfl ?_
          have hq := hq (by omega)
          (repeat (first | rw [if_pos (by omega)] at hq | rw [if_neg (by omega)] at hq))
          exact hq
        · have hc56 : ¬ (x = 0) := fun z => hc56 ((nI_eqU0 (by omega)).mpr z)
          refine Ev.run 3 (pc' := (if nI x = nI 1 then 71 else 75)) (lv' := [(5, .int (nI 0)), (4, .int (nI v)), (3, .int (nI k)), (2, .ref 128), (0, .ref 0), (1, .int (nI x))]) (st' := []) (h' := HN (RO g 128 T'.1 T'.2.1 T'.2.2.1 T'.2.2.2) hl (RF rt)) rfl ?_
          refine Ev.ite (fun hc68 => ?_) (fun hc68 => ?_)
          · have hc68 : x = 1 := (nI_eqU (by omega) (by omega)).mp hc68
            refine Ev.run 2 (pc' := 77) (lv' := [(5, .int (nI 0)), (4, .int (nI v)), (3, .int (nI k)), (2, .ref 128), (0, .ref 0), (1, .int (nI x))]) (st' := [.int (nI k)]) (h' := HN (RO g 128 T'.1 T'.2.1 T'.2.2.1 T'.2.2.2) hl (RF rt)) rfl ?_
            refine Ev.ret (v := some (.int (nI k))) rfl ?_
            have hq := hq (by omega)
            (repeat (first | rw [if_pos (by omega)] at hq | rw [if_neg (by omega)] at hq))
            exact hq
          · have hc68 : ¬ (x = 1) := fun z => hc68 ((nI_eqU (by omega) (by omega)).mpr z)
            refine Ev.run 1 (pc' := 77) (lv' := [(5, .int (nI 0)), (4, .int (nI v)), (3, .int (nI k)), (2, .ref 128), (0, .ref 0), (1, .int (nI x))]) (st' := [.int (nI 0)]) (h' := HN (RO g 128 T'.1 T'.2.1 T'.2.2.1 T'.2.2.2) hl (RF rt)) rfl ?_
            refine Ev.ret (v := some (.int (nI 0))) rfl ?_
            have hq := hq (by omega)
            (repeat (first | rw [if_pos (by omega)] at hq | rw [if_neg (by omega)] at hq))
            exact hq
theorem KE_end {L : Nat} {xs : Nat → Int32} (d : Nat) (g : Nat → Nat → Nat) (hl : Nat → Nat → Int64) (rt : Nat × Nat × Nat × Nat) (hV : Inv g hl rt) (T : Sx) (x : Nat) {Q : Po} (hq : Q (some (.int (nI 4294967291))) (HN (ROs g 128 T) hl (RF rt))) : Ev L xs (d + 7) 89 18 [(3, .int (nI 61)), (2, .ref 128), (0, .ref 0), (1, .int (nI x))] [] (HN (ROs g 128 T) hl (RF rt)) Q := by
  have hI := hV.mi
  have hW := hI.hW
  have hS := hI.hS
  have hPl := hI.hPl
  have hNx := hI.hNx
  have hLa := hI.hLa
  have hLo := hI.hLo
  have hTb := hI.hTb
  have hTh := hI.hTh
  have hFd := hI.hFd
  have hSn := hI.hSn
  have hSh := hI.hSh
  have hRan := hI.hRan
  have hLr := hI.hLr
  have hLt := hI.hLt
  have hgl := hI.hgl
  have hsz := hI.hsz
  have hcm := hI.hcm
  have hsl := hI.hsl
  have hkd := hI.hkd
  have hvv := hI.hvv
  have hli := hI.hli
  have hro := hI.hro
  have hrw := hI.hrw
  have htx := hI.htx
  have hsw := hI.hsw
  have hsx := hI.hsx
  have hsy := hI.hsy
  have hsh := hI.hsh
  have hle := hI.hle
  have hcl := hI.hcl
  have hwd := hI.hwd
  have hnu := hI.hnu
  have hwn := hI.hwn
  have hs1 := hI.hs1
  have hso := hI.hso
  have hB := hV.gm.cb
  have hB0 := hB.1
  have hPs := hV.gm.cs
  have hsp1 := hV.sp.1
  have htx1 := hV.tx.1
  have h451 := hV.gm.rx.1
  have h442 := hV.gm.rx.2.2.2.1
  have h443 := hV.gm.rx.2.2.2.2
  have h481 := hV.gm.l48.1
  have h501 := hV.gm.l50.1
  have h521 := hV.gm.l52.1
  have h541 := hV.gm.l54.1
  have h04 := hV.tb.1
  have hac1 := hV.ac.1
  have hac2 := hV.ac.2.1
  have hPl0 := hV.gm.cp
  refine Ev.run 4 (pc' := 86) (lv' := [(3, .int (nI 61)), (2, .ref 128), (0, .ref 0), (1, .int (nI x))]) (st' := [.int (nI 4294967291)]) (h' := HN (RO g 128 T.1 T.2.1 T.2.2.1 T.2.2.2) hl (RF rt)) rfl ?_
  refine Ev.ret (v := some (.int (nI 4294967291))) rfl ?_
  exact hq
def pk3 (x : Nat) (r : Nat × Nat × Nat) : Nat := if x = 0 then r.1 else if x = 1 then r.2.1 else r.2.2
theorem pk3_n (x : Nat) : pk3 x (4294967291, 4294967291, 4294967291) = 4294967291 := by
  unfold pk3
  split
  · rfl
  · split <;> rfl
theorem K_endsl {L : Nat} {xs : Nat → Int32} (d : Nat) (g : Nat → Nat → Nat) (hl : Nat → Nat → Int64) (rt : Nat × Nat × Nat × Nat) (hV : Inv g hl rt) (x : Nat) (hx3 : x ≤ 2) {Q : Po} : ∀ (f j : Nat) (T : Sx) (G : Nat → Nat → Nat), f + j = 60 → GX g G (lwS g 1) → RXs T G → RY G → (∀ T', Q (some (.int (nI (pk3 x (flF 4294967295 f j G))))) (HN (ROs g 128 T') hl (RF rt))) → Ev L xs (d + 7) 89 18 [(3, .int (nI (j + 1))), (2, .ref 128), (0, .ref 0), (1, .int (nI x))] [] (HN (ROs g 128 T) hl (RF rt)) Q := by
  intro f
  induction f with
  | zero =>
    intro j T G hf hg hx hz hq
    rw [show j = 60 by omega]
    refine KE_end d g hl rt hV T x ?_
    have e := hq T
    unfold flF at e
    rw [pk3_n] at e
    exact e
  | succ f ih =>
    intro j T G hf hg hx hz hq
    obtain ⟨v, T', h1, h2, h3, h4, h5, h6⟩ := pl_both hg hx hz
    refine KE_step d g hl rt hV T T' v h1 h2 h3 h4 h6 x (j + 1) hx3 (by omega) (fun h7 => ?_) (fun h7 => ?_)
    · rcases h5 with ⟨a1, a2, a3, a4⟩ | ⟨a1, a2, a3, a4, a5, a6⟩
      · omega
      · have e := hq T'
        unfold flF tj at e
        rw [if_neg a1] at e
        simp only [ite_self] at e
        rw [← a4, if_pos h7, ← a2] at e
        exact e
    · rcases h5 with ⟨a1, a2, a3, a4⟩ | ⟨a1, a2, a3, a4, a5, a6⟩
      · refine ih (j + 1) T' G (by omega) hg a3 hz (fun T2 => ?_)
        have e := hq T2
        rw [flF_0 a1] at e
        rw [flF_0 a1]
        exact e
      · refine ih (j + 1) T' _ (by omega) a6 a3 a5 (fun T2 => ?_)
        have e := hq T2
        unfold flF tj at e
        rw [if_neg a1] at e
        simp only [ite_self] at e
        rw [if_neg (by rw [← a4]; exact h7)] at e
        exact e
theorem GX.fl {g : Nat → Nat → Nat} {hl : Nat → Nat → Int64} {rt : Nat × Nat × Nat × Nat} (hV : Inv g hl rt) (hr : RDY g) (r : Nat → Nat) : GX g (flK g r) (lwS g 1) := by
  have k := Cw.kp g r
  have e : ∀ c, c ≠ 166 → flK g r c = kpU g r c := fun c hc => by
    unfold flK
    funext j
    rw [u2_ne _ (Or.inl hc), u2_ne _ (Or.inl hc)]
  have e2 : ∀ j, j ≠ 42 → j ≠ 43 → flK g r 166 j = kpU g r 166 j := fun j h1 h2 => by
    unfold flK
    rw [u2_ne _ (Or.inr h2), u2_ne _ (Or.inr h1)]
  have kn : knS (flK g r) = knS (kpU g r) := (Cx.xknS (⟨fun c h1 _ _ _ _ _ _ => e c h1, fun j _ _ _ _ _ _ _ h8 h9 => e2 j h8 h9⟩ : Cx (kpU g r) (flK g r)))
  exact ⟨hV.mi, MI.f43 (MI.f42 (hV.mi.mkpU r)), hV.gm.cb, ⟨fun c h1 h2 h3 h4 h5 h6 h7 => (e c h1).trans (k.1 c h1 h2 h3 h4 h5 h6 h7), fun j h1 h2 h3 h4 h5 h6 h7 h8 h9 h10 h11 => (e2 j h10 h11).trans (k.2 j h1 h2 h3 h4 h5 h6 h7 h8 h9 h10 h11)⟩, rfl, hV.gm.cs, fun p hp => (hr.1 p hp).trans ((congrFun (Cx.ckp g r).xknS p).symm.trans (congrFun kn p).symm), hr.2⟩
theorem K_endsQ {L : Nat} {xs : Nat → Int32} (d : Nat) (g : Nat → Nat → Nat) (hl : Nat → Nat → Int64) (rt : Nat × Nat × Nat × Nat) (hV : Inv g hl rt) (x : Nat) (hx : x < 2 ^ 32) {Q : Po} (hq : ∀ g2, Inv g2 hl rt → Q (some (.int (nI (rs_ends g2 (g2 175) x)))) (HN g2 hl (RF rt))) : Ev L xs (d + 8) 89 0 [(0, .ref 0), (1, .int (nI x))] [] (HN g hl (RF rt)) Q := by
  have hI := hV.mi
  have hW := hI.hW
  have hS := hI.hS
  have hPl := hI.hPl
  have hNx := hI.hNx
  have hLa := hI.hLa
  have hLo := hI.hLo
  have hTb := hI.hTb
  have hTh := hI.hTh
  have hFd := hI.hFd
  have hSn := hI.hSn
  have hSh := hI.hSh
  have hRan := hI.hRan
  have hLr := hI.hLr
  have hLt := hI.hLt
  have hgl := hI.hgl
  have hsz := hI.hsz
  have hcm := hI.hcm
  have hsl := hI.hsl
  have hkd := hI.hkd
  have hvv := hI.hvv
  have hli := hI.hli
  have hro := hI.hro
  have hrw := hI.hrw
  have htx := hI.htx
  have hsw := hI.hsw
  have hsx := hI.hsx
  have hsy := hI.hsy
  have hsh := hI.hsh
  have hle := hI.hle
  have hcl := hI.hcl
  have hwd := hI.hwd
  have hnu := hI.hnu
  have hwn := hI.hwn
  have hs1 := hI.hs1
  have hso := hI.hso
  have hB := hV.gm.cb
  have hB0 := hB.1
  have hPs := hV.gm.cs
  have hsp1 := hV.sp.1
  have htx1 := hV.tx.1
  have h451 := hV.gm.rx.1
  have h442 := hV.gm.rx.2.2.2.1
  have h443 := hV.gm.rx.2.2.2.2
  have h481 := hV.gm.l48.1
  have h501 := hV.gm.l50.1
  have h521 := hV.gm.l52.1
  have h541 := hV.gm.l54.1
  have h04 := hV.tb.1
  have hac1 := hV.ac.1
  have hac2 := hV.ac.2.1
  have hPl0 := hV.gm.cp
  refine Ev.run 3 (pc' := 3) (lv' := [(0, .ref 0), (1, .int (nI x))]) (st' := [.int (nI 2), .int (nI 0), .int (nI x)]) (h' := HN g hl (RF rt)) rfl ?_
  refine Ev.call (a := 118) (as := [.int (nI x), .int (nI 0), .int (nI 2)]) (rest := []) (lv0 := [(0, .int (nI x)), (1, .int (nI 0)), (2, .int (nI 2))]) (Q1 := (fun z0 h' => z0 = some (.int (nI (bn (decide (x ≤ 2))))) ∧ h' = HN g hl (RF rt))) rfl rfl (K_within _ _ _ _ (nI x) (nI 0) (nI 2) (by rw [in0 (by omega) (by omega)]; exact ⟨rfl, rfl⟩)) (fun r h' hr => ?_)
  obtain ⟨rfl, rfl⟩ := hr
  refine Ev_bn (fun hb6 => ?_) (fun hb6 => ?_)
  · have hhb6 : x ≤ 2 := of_decide_eq_true hb6
    refine Ev.run 2 (pc' := 12) (lv' := [(0, .ref 0), (1, .int (nI x))]) (st' := [.ref 0]) (h' := HN g hl (RF rt)) rfl ?_
    refine Ev.call (a := 115) (as := [.ref 0]) (rest := []) (lv0 := [(0, .ref 0)]) (Q1 := (fun z0 h' => z0 = some (.ref 128) ∧ ∃ (g1 : Nat → Nat → Nat) (s : Sx), h' = HN (ROs g1 128 s) hl (RF rt) ∧ Inv g1 hl rt ∧ RDY g1 ∧ Em g g1 ∧ RXs s g1 ∧ s.1 4 = 4294967295)) rfl rfl (K_look _ g hl rt hV (fun g1 h1 h2 h3 s h4 h5 => ⟨rfl, g1, s, rfl, h1, h2, h3, h4, h5⟩)) (fun r h' hr => ?_)
    obtain ⟨rfl, g1, s, rfl, hV1, hrd, hem, hrx, hlo⟩ := hr
    refine Ev.run 3 (pc' := 18) (lv' := [(3, .int (nI 1)), (2, .ref 128), (0, .ref 0), (1, .int (nI x))]) (st' := []) (h' := HN (ROs g1 128 s) hl (RF rt)) rfl ?_
    refine K_endsl _ g1 hl rt hV1 x (by omega) 60 0 s (flK g1 (g1 175)) (by omega) (GX.fl hV1 hrd _) hrx hV1.gm.ry (fun T => ?_)
    have e := hq (ROs g1 128 T) (hV1.ro T)
    rw [kp175, (Em.ro g1 T).zends] at e
    unfold rs_ends at e
    rw [if_pos (by omega)] at e
    exact e
  · have hhb6 : ¬ (x ≤ 2) := of_decide_eq_false hb6
    refine Ev.run 2 (pc' := 10) (lv' := [(0, .ref 0), (1, .int (nI x))]) (st' := [.int (nI 4294967295)]) (h' := HN g hl (RF rt)) rfl ?_
    refine Ev.ret (v := some (.int (nI 4294967295))) rfl ?_
    have e := hq g hV
    unfold rs_ends at e
    (repeat (first | rw [if_pos (by omega)] at e | rw [if_neg (by omega)] at e))
    exact e
theorem KO_step {L : Nat} {xs : Nat → Int32} (d : Nat) (g : Nat → Nat → Nat) (hl : Nat → Nat → Int64) (rt : Nat × Nat × Nat × Nat) (hV : Inv g hl rt) (T T' : Sx) (v : Nat) (hT : plXs g (lwS g 1) T = (v, T')) (hB2 : SxB T) (hB3 : SxB T') (hv : v < 4294967296) (hT4 : T'.1 4 ≤ 4 ∨ T'.1 4 = 4294967295) (x k : Nat) (hx1 : x ≤ 1) (hk : k ≤ 60) {Q : Po} (hq : foC T.2.2.2 (g 12 2) 0 < 2147483648 → Q (some (.int (nI (if x = 0 then foC T.2.2.2 (g 12 2) 0 else k)))) (HN (ROs g 128 T) hl (RF rt))) (kk : ¬ foC T.2.2.2 (g 12 2) 0 < 2147483648 → Ev L xs (d + 7) 94 18 [(3, .int (nI (k + 1))), (2, .ref 128), (0, .ref 0), (1, .int (nI x))] [] (HN (ROs g 128 T') hl (RF rt)) Q) : Ev L xs (d + 7) 94 18 [(3, .int (nI k)), (2, .ref 128), (0, .ref 0), (1, .int (nI x))] [] (HN (ROs g 128 T) hl (RF rt)) Q := by
  have hI := hV.mi
  have hW := hI.hW
  have hS := hI.hS
  have hPl := hI.hPl
  have hNx := hI.hNx
  have hLa := hI.hLa
  have hLo := hI.hLo
  have hTb := hI.hTb
  have hTh := hI.hTh
  have hFd := hI.hFd
  have hSn := hI.hSn
  have hSh := hI.hSh
  have hRan := hI.hRan
  have hLr := hI.hLr
  have hLt := hI.hLt
  have hgl := hI.hgl
  have hsz := hI.hsz
  have hcm := hI.hcm
  have hsl := hI.hsl
  have hkd := hI.hkd
  have hvv := hI.hvv
  have hli := hI.hli
  have hro := hI.hro
  have hrw := hI.hrw
  have htx := hI.htx
  have hsw := hI.hsw
  have hsx := hI.hsx
  have hsy := hI.hsy
  have hsh := hI.hsh
  have hle := hI.hle
  have hcl := hI.hcl
  have hwd := hI.hwd
  have hnu := hI.hnu
  have hwn := hI.hwn
  have hs1 := hI.hs1
  have hso := hI.hso
  have hB := hV.gm.cb
  have hB0 := hB.1
  have hPs := hV.gm.cs
  have hsp1 := hV.sp.1
  have htx1 := hV.tx.1
  have h451 := hV.gm.rx.1
  have h442 := hV.gm.rx.2.2.2.1
  have h443 := hV.gm.rx.2.2.2.2
  have h481 := hV.gm.l48.1
  have h501 := hV.gm.l50.1
  have h521 := hV.gm.l52.1
  have h541 := hV.gm.l54.1
  have h04 := hV.tb.1
  have hac1 := hV.ac.1
  have hac2 := hV.ac.2.1
  have hPl0 := hV.gm.cp
  have hx4 := hB3.2.2.2.2
  have hx2 := hB3.2.2.2.1
  have hx1 := hB3.2.1
  have hxl := hB3.1
  refine Ev.run 3 (pc' := (if nI 60 < nI k then 65 else 24)) (lv' := [(3, .int (nI k)), (2, .ref 128), (0, .ref 0), (1, .int (nI x))]) (st' := []) (h' := HN (RO g 128 T.1 T.2.1 T.2.2.1 T.2.2.2) hl (RF rt)) rfl ?_
  refine Ev.ite (fun hc21 => ?_) (fun hc21 => ?_)
  · have hc21 : 60 < k := (nI_ltI (by omega) (by omega)).mp hc21
    refine Ev.run 1 (pc' := 67) (lv' := [(3, .int (nI k)), (2, .ref 128), (0, .ref 0), (1, .int (nI x))]) (st' := [.int (nI 4294967291)]) (h' := HN (RO g 128 T.1 T.2.1 T.2.2.1 T.2.2.2) hl (RF rt)) rfl ?_
    refine Ev.ret (v := some (.int (nI 4294967291))) rfl ?_
    exfalso
    omega
  · have hc21 : ¬ (60 < k) := fun z => hc21 ((nI_ltI (by omega) (by omega)).mpr z)
    refine Ev.run 3 (pc' := 29) (lv' := [(3, .int (nI k)), (2, .ref 128), (0, .ref 0), (1, .int (nI x))]) (st' := [.ref 128, .ref 12]) (h' := HN (RO g 128 T.1 T.2.1 T.2.2.1 T.2.2.2) hl (RF rt)) rfl ?_
    refine Ev.call (a := 32) (as := [.ref 12, .ref 128]) (rest := []) (lv0 := [(0, .ref 12), (1, .ref 128)]) (Q1 := (fun z0 h' => z0 = some (.int (nI (foC T.2.2.2 (g 12 2) 0))) ∧ h' = HN (RO g 128 T.1 T.2.1 T.2.2.1 T.2.2.2) hl (RF rt))) rfl rfl (K128_firstOut _ _ _ (by omega) hB2.1 ⟨rfl, rfl⟩) (fun r h' hr => ?_)
    obtain ⟨rfl, rfl⟩ := hr
    have hfo := foC_l5 T.2.2.2 (g 12 2) 0 (by omega)
    refine Ev.run 3 (pc' := (if nI (foC T.2.2.2 (g 12 2) 0) < 0 then 50 else 39)) (lv' := [(4, .int (nI (foC T.2.2.2 (g 12 2) 0))), (3, .int (nI k)), (2, .ref 128), (0, .ref 0), (1, .int (nI x))]) (st' := []) (h' := HN (RO g 128 T.1 T.2.1 T.2.2.1 T.2.2.2) hl (RF rt)) rfl ?_
    refine Ev.ite (fun hc36 => ?_) (fun hc36 => ?_)
    · have hc36 : 2147483648 ≤ (foC T.2.2.2 (g 12 2) 0) := (nI_ltU0 (by omega)).mp hc36
      refine Ev.run 3 (pc' := 55) (lv' := [(4, .int (nI (foC T.2.2.2 (g 12 2) 0))), (3, .int (nI k)), (2, .ref 128), (0, .ref 0), (1, .int (nI x))]) (st' := [.ref 128, .ref 12]) (h' := HN (RO g 128 T.1 T.2.1 T.2.2.1 T.2.2.2) hl (RF rt)) rfl ?_
      refine Ev.call (a := 36) (as := [.ref 12, .ref 128]) (rest := []) (lv0 := [(0, .ref 12), (1, .ref 128)]) (Q1 := (fun z0 h' => z0 = some (.int (nI v)) ∧ h' = HN (RO g 128 T'.1 T'.2.1 T'.2.2.1 T'.2.2.2) hl (RF rt))) rfl rfl (K128_playS _ _ _ hV.gok hB2 ⟨congrArg (fun z => some (Value.int (nI z.1))) hT, congrArg (fun z => HN (ROs g 128 z.2) hl (RF rt)) hT⟩) (fun r h' hr => ?_)
      obtain ⟨rfl, rfl⟩ := hr
      refine Ev.run 2 (pc' := 62) (lv' := [(3, .int (nI k + 1)), (4, .int (nI (foC T.2.2.2 (g 12 2) 0))), (2, .ref 128), (0, .ref 0), (1, .int (nI x))]) (st' := []) (h' := HN (RO g 128 T'.1 T'.2.1 T'.2.2.1 T'.2.2.2) hl (RF rt)) rfl ?_
      refine Ev.lvE (congrArg (fun z => (3, Value.int z) :: [(4, .int (nI (foC T.2.2.2 (g 12 2) 0))), (2, .ref 128), (0, .ref 0), (1, .int (nI x))]) (nI_1 _)) ?_
      refine Ev.run 1 (pc' := 18) (lv' := [(3, .int (nI (k + 1))), (4, .int (nI (foC T.2.2.2 (g 12 2) 0))), (2, .ref 128), (0, .ref 0), (1, .int (nI x))]) (st' := []) (h' := HN (RO g 128 T'.1 T'.2.1 T'.2.2.1 T'.2.2.2) hl (RF rt)) rfl ?_
      exact Ev.wk (Ext.cons rfl rfl (Ext.cons rfl rfl (Ext.cons rfl rfl (Ext.cons rfl rfl (Ext.nil rfl))))) (kk (by omega))
    · have hc36 : ¬ (2147483648 ≤ (foC T.2.2.2 (g 12 2) 0)) := fun z => hc36 ((nI_ltU0 (by omega)).mpr z)
      refine Ev.run 2 (pc' := (if nI x = 0 then 43 else 48)) (lv' := [(4, .int (nI (foC T.2.2.2 (g 12 2) 0))), (3, .int (nI k)), (2, .ref 128), (0, .ref 0), (1, .int (nI x))]) (st' := []) (h' := HN (RO g 128 T.1 T.2.1 T.2.2.1 T.2.2.2) hl (RF rt)) rfl ?_
      refine Ev.ite (fun hc40 => ?_) (fun hc40 => ?_)
      · have hc40 : x = 0 := (nI_eqU0 (by omega)).mp hc40
        refine Ev.run 2 (pc' := 49) (lv' := [(4, .int (nI (foC T.2.2.2 (g 12 2) 0))), (3, .int (nI k)), (2, .ref 128), (0, .ref 0), (1, .int (nI x))]) (st' := [.int (nI (foC T.2.2.2 (g 12 2) 0))]) (h' := HN (RO g 128 T.1 T.2.1 T.2.2.1 T.2.2.2) hl (RF rt)) rfl ?_
        refine Ev.ret (v := some (.int (nI (foC T.2.2.2 (g 12 2) 0)))) rfl ?_
        have hq := hq (by omega)
        (repeat (first | rw [if_pos (by omega)] at hq | rw [if_neg (by omega)] at hq))
        exact hq
      · have hc40 : ¬ (x = 0) := fun z => hc40 ((nI_eqU0 (by omega)).mpr z)
        refine Ev.run 1 (pc' := 49) (lv' := [(4, .int (nI (foC T.2.2.2 (g 12 2) 0))), (3, .int (nI k)), (2, .ref 128), (0, .ref 0), (1, .int (nI x))]) (st' := [.int (nI k)]) (h' := HN (RO g 128 T.1 T.2.1 T.2.2.1 T.2.2.2) hl (RF rt)) rfl ?_
        refine Ev.ret (v := some (.int (nI k))) rfl ?_
        have hq := hq (by omega)
        (repeat (first | rw [if_pos (by omega)] at hq | rw [if_neg (by omega)] at hq))
        exact hq
theorem KO_end {L : Nat} {xs : Nat → Int32} (d : Nat) (g : Nat → Nat → Nat) (hl : Nat → Nat → Int64) (rt : Nat × Nat × Nat × Nat) (hV : Inv g hl rt) (T : Sx) (x : Nat) {Q : Po} (hq : Q (some (.int (nI 4294967291))) (HN (ROs g 128 T) hl (RF rt))) : Ev L xs (d + 7) 94 18 [(3, .int (nI 61)), (2, .ref 128), (0, .ref 0), (1, .int (nI x))] [] (HN (ROs g 128 T) hl (RF rt)) Q := by
  have hI := hV.mi
  have hW := hI.hW
  have hS := hI.hS
  have hPl := hI.hPl
  have hNx := hI.hNx
  have hLa := hI.hLa
  have hLo := hI.hLo
  have hTb := hI.hTb
  have hTh := hI.hTh
  have hFd := hI.hFd
  have hSn := hI.hSn
  have hSh := hI.hSh
  have hRan := hI.hRan
  have hLr := hI.hLr
  have hLt := hI.hLt
  have hgl := hI.hgl
  have hsz := hI.hsz
  have hcm := hI.hcm
  have hsl := hI.hsl
  have hkd := hI.hkd
  have hvv := hI.hvv
  have hli := hI.hli
  have hro := hI.hro
  have hrw := hI.hrw
  have htx := hI.htx
  have hsw := hI.hsw
  have hsx := hI.hsx
  have hsy := hI.hsy
  have hsh := hI.hsh
  have hle := hI.hle
  have hcl := hI.hcl
  have hwd := hI.hwd
  have hnu := hI.hnu
  have hwn := hI.hwn
  have hs1 := hI.hs1
  have hso := hI.hso
  have hB := hV.gm.cb
  have hB0 := hB.1
  have hPs := hV.gm.cs
  have hsp1 := hV.sp.1
  have htx1 := hV.tx.1
  have h451 := hV.gm.rx.1
  have h442 := hV.gm.rx.2.2.2.1
  have h443 := hV.gm.rx.2.2.2.2
  have h481 := hV.gm.l48.1
  have h501 := hV.gm.l50.1
  have h521 := hV.gm.l52.1
  have h541 := hV.gm.l54.1
  have h04 := hV.tb.1
  have hac1 := hV.ac.1
  have hac2 := hV.ac.2.1
  have hPl0 := hV.gm.cp
  refine Ev.run 4 (pc' := 67) (lv' := [(3, .int (nI 61)), (2, .ref 128), (0, .ref 0), (1, .int (nI x))]) (st' := [.int (nI 4294967291)]) (h' := HN (RO g 128 T.1 T.2.1 T.2.2.1 T.2.2.2) hl (RF rt)) rfl ?_
  refine Ev.ret (v := some (.int (nI 4294967291))) rfl ?_
  exact hq
theorem fo_eq {a b : Nat → Nat} {e : Nat} : ∀ f k, (∀ j, k ≤ j → j < k + f → a j = b j) → (foC a f k = foF b e f k ∧ foC a f k < k + f) ∨ (foC a f k = 4294967295 ∧ foF b e f k = e) := by
  intro f
  induction f with
  | zero => intro k _; exact Or.inr ⟨rfl, rfl⟩
  | succ f ih =>
    intro k h
    unfold foC foF
    rw [h k (Nat.le_refl _) (by omega)]
    by_cases z : b k = 0
    · rw [if_pos z, if_pos z]; exact Or.inl ⟨rfl, by omega⟩
    · rw [if_neg z, if_neg z]
      rcases ih (k + 1) (fun j h1 h2 => h j (by omega) (by omega)) with r | r
      · exact Or.inl ⟨r.1, by omega⟩
      · exact Or.inr r
theorem itG_n (k : Nat) (K : Nat → Nat → Nat) : stG (itG k K) = itG (k + 1) K := itG_c (g := K) k
noncomputable def ouT (K : Nat → Nat → Nat) (P x m : Nat) : Nat := if foS (itG m K 173) 4294967291 P < 2147483648 then (if x = 0 then foS (itG m K 173) 4294967291 P else m) else foS (itG m K 173) 4294967291 P
theorem K_outl {L : Nat} {xs : Nat → Int32} (d : Nat) (g : Nat → Nat → Nat) (hl : Nat → Nat → Int64) (rt : Nat × Nat × Nat × Nat) (hV : Inv g hl rt) (K : Nat → Nat → Nat) (hK : GX g K (lwS g 1)) (x : Nat) (hx1 : x ≤ 1) {Q : Po} : ∀ (f j : Nat) (T : Sx), f + j = 60 → RXs T (itG j K) → RY (itG j K) → (∀ T', Q (some (.int (nI (ouT K (g 166 6) x (ouF K (g 166 6) f j))))) (HN (ROs g 128 T') hl (RF rt))) → Ev L xs (d + 7) 94 18 [(3, .int (nI j)), (2, .ref 128), (0, .ref 0), (1, .int (nI x))] [] (HN (ROs g 128 T) hl (RF rt)) Q := by
  have hcs := hV.gm.cs
  have h6 := hV.mi.hPl
  intro f
  induction f with
  | zero =>
    intro j T hf hx hz hq
    have hg := GX.it hK j
    obtain ⟨v, T', h1, h2, h3, h4, h5, h6'⟩ := pl_both hg hx hz
    have fe := fo_eq (a := T.2.2.2) (b := itG j K 173) (e := 4294967291) (g 12 2) 0 (fun i _ hi => hx.2.2.1 i (by omega))
    unfold ouF ouT foS at hq
    refine KO_step d g hl rt hV T T' v h1 h2 h3 h4 h6' x j hx1 (by omega) (fun h7 => ?_) (fun h7 => ?_)
    · rcases fe with z | z
      · have e := hq T
        rw [← hcs, ← z.1, if_pos h7] at e
        exact e
      · omega
    · rcases fe with z | z
      · omega
      · rw [show j + 1 = 61 by omega]
        refine KO_end d g hl rt hV T' x ?_
        have e := hq T'
        rw [← hcs, z.2, if_neg (by omega)] at e
        exact e
  | succ f ih =>
    intro j T hf hx hz hq
    have hg := GX.it hK j
    obtain ⟨v, T', h1, h2, h3, h4, h5, h6'⟩ := pl_both hg hx hz
    have hst := st_eq hg hx hz
    have eT : stX g (lwS g 1) T = T' := congrArg Prod.snd h1
    rw [eT, itG_n] at hst
    have fe := fo_eq (a := T.2.2.2) (b := itG j K 173) (e := 4294967291) (g 12 2) 0 (fun i _ hi => hx.2.2.1 i (by omega))
    rw [hcs] at fe
    refine KO_step d g hl rt hV T T' v h1 h2 h3 h4 h6' x j hx1 (by omega) (fun h7 => ?_) (fun h7 => ?_)
    · rw [hcs] at h7 ⊢
      rcases fe with z | z
      · have e := hq T
        have e2 : ouF K (g 166 6) (f + 1) j = j := by
          unfold ouF
          exact if_pos (by unfold foS; rw [← z.1]; exact h7)
        rw [e2] at e
        unfold ouT foS at e
        rw [← z.1, if_pos h7] at e
        exact e
      · omega
    · rw [hcs] at h7
      rcases fe with z | z
      · omega
      · refine ih (j + 1) T' (by omega) hst.1 hst.2 (fun T2 => ?_)
        have e := hq T2
        have h8 : ¬ foS (itG j K 173) 4294967291 (g 166 6) < 2147483648 := by
          unfold foS
          rw [z.2]
          decide
        by_cases hP : g 166 6 = 0
        · have e2 : ouF K (g 166 6) (f + 1) j = j := by
            unfold ouF
            rw [if_neg h8, if_pos hP]
          have e3 : ∀ m, ouT K (g 166 6) x m = 4294967291 := fun m => by
            unfold ouT
            have e4 : foS (itG m K 173) 4294967291 (g 166 6) = 4294967291 := by rw [hP]; rfl
            rw [e4]
            rfl
          rw [e3] at e ⊢
          exact e
        · have e2 : ouF K (g 166 6) (f + 1) j = ouF K (g 166 6) f (j + 1) := by
            show (if _ then _ else _) = _
            rw [if_neg h8, if_neg hP]
          rw [e2] at e
          exact e
theorem K_out {L : Nat} {xs : Nat → Int32} (d : Nat) (g : Nat → Nat → Nat) (hl : Nat → Nat → Int64) (rt : Nat × Nat × Nat × Nat) (hV : Inv g hl rt) (x : Nat) (hx : x < 2 ^ 32) {Q : Po} (hq : ∀ g2, Inv g2 hl rt → Q (some (.int (nI (rs_out g2 (kpU g2 (g2 175)) x)))) (HN g2 hl (RF rt))) : Ev L xs (d + 8) 94 0 [(0, .ref 0), (1, .int (nI x))] [] (HN g hl (RF rt)) Q := by
  have hI := hV.mi
  have hW := hI.hW
  have hS := hI.hS
  have hPl := hI.hPl
  have hNx := hI.hNx
  have hLa := hI.hLa
  have hLo := hI.hLo
  have hTb := hI.hTb
  have hTh := hI.hTh
  have hFd := hI.hFd
  have hSn := hI.hSn
  have hSh := hI.hSh
  have hRan := hI.hRan
  have hLr := hI.hLr
  have hLt := hI.hLt
  have hgl := hI.hgl
  have hsz := hI.hsz
  have hcm := hI.hcm
  have hsl := hI.hsl
  have hkd := hI.hkd
  have hvv := hI.hvv
  have hli := hI.hli
  have hro := hI.hro
  have hrw := hI.hrw
  have htx := hI.htx
  have hsw := hI.hsw
  have hsx := hI.hsx
  have hsy := hI.hsy
  have hsh := hI.hsh
  have hle := hI.hle
  have hcl := hI.hcl
  have hwd := hI.hwd
  have hnu := hI.hnu
  have hwn := hI.hwn
  have hs1 := hI.hs1
  have hso := hI.hso
  have hB := hV.gm.cb
  have hB0 := hB.1
  have hPs := hV.gm.cs
  have hsp1 := hV.sp.1
  have htx1 := hV.tx.1
  have h451 := hV.gm.rx.1
  have h442 := hV.gm.rx.2.2.2.1
  have h443 := hV.gm.rx.2.2.2.2
  have h481 := hV.gm.l48.1
  have h501 := hV.gm.l50.1
  have h521 := hV.gm.l52.1
  have h541 := hV.gm.l54.1
  have h04 := hV.tb.1
  have hac1 := hV.ac.1
  have hac2 := hV.ac.2.1
  have hPl0 := hV.gm.cp
  refine Ev.run 3 (pc' := 3) (lv' := [(0, .ref 0), (1, .int (nI x))]) (st' := [.int (nI 1), .int (nI 0), .int (nI x)]) (h' := HN g hl (RF rt)) rfl ?_
  refine Ev.call (a := 118) (as := [.int (nI x), .int (nI 0), .int (nI 1)]) (rest := []) (lv0 := [(0, .int (nI x)), (1, .int (nI 0)), (2, .int (nI 1))]) (Q1 := (fun z0 h' => z0 = some (.int (nI (bn (decide (x ≤ 1))))) ∧ h' = HN g hl (RF rt))) rfl rfl (K_within _ _ _ _ (nI x) (nI 0) (nI 1) (by rw [in0 (by omega) (by omega)]; exact ⟨rfl, rfl⟩)) (fun r h' hr => ?_)
  obtain ⟨rfl, rfl⟩ := hr
  refine Ev_bn (fun hb6 => ?_) (fun hb6 => ?_)
  · have hhb6 : x ≤ 1 := of_decide_eq_true hb6
    refine Ev.run 2 (pc' := 12) (lv' := [(0, .ref 0), (1, .int (nI x))]) (st' := [.ref 0]) (h' := HN g hl (RF rt)) rfl ?_
    refine Ev.call (a := 115) (as := [.ref 0]) (rest := []) (lv0 := [(0, .ref 0)]) (Q1 := (fun z0 h' => z0 = some (.ref 128) ∧ ∃ (g1 : Nat → Nat → Nat) (s : Sx), h' = HN (ROs g1 128 s) hl (RF rt) ∧ Inv g1 hl rt ∧ RDY g1 ∧ Em g g1 ∧ RXs s g1 ∧ s.1 4 = 4294967295)) rfl rfl (K_look _ g hl rt hV (fun g1 h1 h2 h3 s h4 h5 => ⟨rfl, g1, s, rfl, h1, h2, h3, h4, h5⟩)) (fun r h' hr => ?_)
    obtain ⟨rfl, g1, s, rfl, hV1, hrd, hem, hrx, hlo⟩ := hr
    refine Ev.run 3 (pc' := 18) (lv' := [(3, .int (nI 0)), (2, .ref 128), (0, .ref 0), (1, .int (nI x))]) (st' := []) (h' := HN (ROs g1 128 s) hl (RF rt)) rfl ?_
    refine K_outl _ g1 hl rt hV1 (kpU g1 (g1 175)) (GX.kp hV1 hrd _) x (by omega) 60 0 s (by omega) (hrx.kp _) (hV1.gm.ry.kp _) (fun T => ?_)
    have e := hq (ROs g1 128 T) (hV1.ro T)
    rw [kp175, (Em.ro g1 T).zout (g1 175) x] at e
    unfold rs_out at e
    rw [if_pos (by omega)] at e
    exact e
  · have hhb6 : ¬ (x ≤ 1) := of_decide_eq_false hb6
    refine Ev.run 2 (pc' := 10) (lv' := [(0, .ref 0), (1, .int (nI x))]) (st' := [.int (nI 4294967295)]) (h' := HN g hl (RF rt)) rfl ?_
    refine Ev.ret (v := some (.int (nI 4294967295))) rfl ?_
    have e := hq g hV
    unfold rs_out at e
    (repeat (first | rw [if_pos (by omega)] at e | rw [if_neg (by omega)] at e))
    exact e
