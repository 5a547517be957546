/-! by and odds on both sides -/
theorem K_by2 {L : Nat} {xs : Nat → Int32} (d : Nat) (g : Nat → Nat → Nat) (hl : Nat → Nat → Int64) (rt : Nat × Nat × Nat × Nat) (hV : Inv g hl rt) (T : Sx) (hrd : RDY g) (hal : alS g ≠ 0) (h12 : g 166 9 ≠ 12) (x : Nat) (hx3 : x ≤ 3) {Q : Po} (hq : ∀ T2, Q (some (.int (nI (flS g (g 175) x).1))) (HN (ROs g 128 T2) hl (RF rt))) : Ev L xs (d + 8) 91 28 [(0, .ref 0), (1, .int (nI x))] [] (HN (ROs g 128 T) hl (RF rt)) Q := by
  have hI := hV.mi
  have hW := hI.hW
  have hS := hI.hS
  have hPl := hI.hPl
  have hNx := hI.hNx
  have hLa := hI.hLa
  have hLo := hI.hLo
  have hTb := hI.hTb
  have hTh := hI.hTh
  have hFd := hI.hFd
  have hSn := hI.hSn
  have hSh := hI.hSh
  have hRan := hI.hRan
  have hLr := hI.hLr
  have hLt := hI.hLt
  have hgl := hI.hgl
  have hsz := hI.hsz
  have hcm := hI.hcm
  have hsl := hI.hsl
  have hkd := hI.hkd
  have hvv := hI.hvv
  have hli := hI.hli
  have hro := hI.hro
  have hrw := hI.hrw
  have htx := hI.htx
  have hsw := hI.hsw
  have hsx := hI.hsx
  have hsy := hI.hsy
  have hsh := hI.hsh
  have hle := hI.hle
  have hcl := hI.hcl
  have hwd := hI.hwd
  have hnu := hI.hnu
  have hwn := hI.hwn
  have hs1 := hI.hs1
  have hso := hI.hso
  have hB := hV.gm.cb
  have hB0 := hB.1
  have hPs := hV.gm.cs
  have hsp1 := hV.sp.1
  have htx1 := hV.tx.1
  have h451 := hV.gm.rx.1
  have h442 := hV.gm.rx.2.2.2.1
  have h443 := hV.gm.rx.2.2.2.2
  have h481 := hV.gm.l48.1
  have h501 := hV.gm.l50.1
  have h521 := hV.gm.l52.1
  have h541 := hV.gm.l54.1
  have h04 := hV.tb.1
  have hac1 := hV.ac.1
  have hac2 := hV.ac.2.1
  have hPl0 := hV.gm.cp
  refine Ev.run 2 (pc' := 30) (lv' := [(0, .ref 0), (1, .int (nI x))]) (st' := [.int (nI x), .ref 0]) (h' := HN (RO g 128 T.1 T.2.1 T.2.2.1 T.2.2.2) hl (RF rt)) rfl ?_
  refine Ev.call (a := 117) (as := [.ref 0, .int (nI x)]) (rest := []) (lv0 := [(0, .ref 0), (1, .int (nI x))]) (Q1 := (fun z0 h' => z0 = some (.int (nI (lbO (flS g (g 175) x).1))) ∧ ∃ T2, h' = HN (ROs g 128 T2) hl (RF rt))) rfl rfl (K_lby _ g hl rt hV hrd T x (by omega) hal h12 (fun T2 => ⟨rfl, T2, rfl⟩)) (fun r h' hr => ?_)
  obtain ⟨rfl, T2, rfl⟩ := hr
  have hfl := flS_le hI (g 175) (l := x) (by omega) (by omega)
  have hlb : (lbO (flS g (g 175) x).1 = (flS g (g 175) x).1 ∧ (flS g (g 175) x).1 ≤ 4) ∨ (lbO (flS g (g 175) x).1 = 4294967295 ∧ (flS g (g 175) x).1 = 4294967291) := by
    rcases hfl with z | z
    · left
      unfold lbO
      rw [if_neg (by omega)]
      exact ⟨rfl, z⟩
    · right
      unfold lbO
      rw [if_pos z]
      exact ⟨rfl, z⟩
  refine Ev.run 3 (pc' := (if 0 ≤ nI (lbO (flS g (g 175) x).1) then 43 else 38)) (lv' := [(2, .int (nI (lbO (flS g (g 175) x).1))), (0, .ref 0), (1, .int (nI x))]) (st' := []) (h' := HN (RO g 128 T2.1 T2.2.1 T2.2.2.1 T2.2.2.2) hl (RF rt)) rfl ?_
  refine Ev.ite (fun hc35 => ?_) (fun hc35 => ?_)
  · have hc35 : (lbO (flS g (g 175) x).1) < 2147483648 := (nI_geU0 (by omega)).mp hc35
    refine Ev.run 1 (pc' := 44) (lv' := [(2, .int (nI (lbO (flS g (g 175) x).1))), (0, .ref 0), (1, .int (nI x))]) (st' := [.int (nI (lbO (flS g (g 175) x).1))]) (h' := HN (RO g 128 T2.1 T2.2.1 T2.2.2.1 T2.2.2.2) hl (RF rt)) rfl ?_
    refine Ev.ret (v := some (.int (nI (lbO (flS g (g 175) x).1)))) rfl ?_
    have hq := hq T2
    first | (rw [show (flS g (g 175) x).1 = 4294967291 by omega] at hq; exact hq) | (rw [show lbO (flS g (g 175) x).1 = (flS g (g 175) x).1 by omega]; exact hq) | (exfalso; omega)
  · have hc35 : ¬ ((lbO (flS g (g 175) x).1) < 2147483648) := fun z => hc35 ((nI_geU0 (by omega)).mpr z)
    refine Ev.run 2 (pc' := 44) (lv' := [(2, .int (nI (lbO (flS g (g 175) x).1))), (0, .ref 0), (1, .int (nI x))]) (st' := [.int (nI 4294967291)]) (h' := HN (RO g 128 T2.1 T2.2.1 T2.2.2.1 T2.2.2.2) hl (RF rt)) rfl ?_
    refine Ev.ret (v := some (.int (nI 4294967291))) rfl ?_
    have hq := hq T2
    rw [show (flS g (g 175) x).1 = 4294967291 by omega] at hq
    exact hq
theorem K_by {L : Nat} {xs : Nat → Int32} (d : Nat) (g : Nat → Nat → Nat) (hl : Nat → Nat → Int64) (rt : Nat × Nat × Nat × Nat) (hV : Inv g hl rt) (x : Nat) (hx : x < 2 ^ 32) {Q : Po} (hq : ∀ g2, Inv g2 hl rt → Q (some (.int (nI (rs_by g2 (g2 175) x)))) (HN g2 hl (RF rt))) : Ev L xs (d + 9) 91 0 [(0, .ref 0), (1, .int (nI x))] [] (HN g hl (RF rt)) Q := by
  have hI := hV.mi
  have hW := hI.hW
  have hS := hI.hS
  have hPl := hI.hPl
  have hNx := hI.hNx
  have hLa := hI.hLa
  have hLo := hI.hLo
  have hTb := hI.hTb
  have hTh := hI.hTh
  have hFd := hI.hFd
  have hSn := hI.hSn
  have hSh := hI.hSh
  have hRan := hI.hRan
  have hLr := hI.hLr
  have hLt := hI.hLt
  have hgl := hI.hgl
  have hsz := hI.hsz
  have hcm := hI.hcm
  have hsl := hI.hsl
  have hkd := hI.hkd
  have hvv := hI.hvv
  have hli := hI.hli
  have hro := hI.hro
  have hrw := hI.hrw
  have htx := hI.htx
  have hsw := hI.hsw
  have hsx := hI.hsx
  have hsy := hI.hsy
  have hsh := hI.hsh
  have hle := hI.hle
  have hcl := hI.hcl
  have hwd := hI.hwd
  have hnu := hI.hnu
  have hwn := hI.hwn
  have hs1 := hI.hs1
  have hso := hI.hso
  have hB := hV.gm.cb
  have hB0 := hB.1
  have hPs := hV.gm.cs
  have hsp1 := hV.sp.1
  have htx1 := hV.tx.1
  have h451 := hV.gm.rx.1
  have h442 := hV.gm.rx.2.2.2.1
  have h443 := hV.gm.rx.2.2.2.2
  have h481 := hV.gm.l48.1
  have h501 := hV.gm.l50.1
  have h521 := hV.gm.l52.1
  have h541 := hV.gm.l54.1
  have h04 := hV.tb.1
  have hac1 := hV.ac.1
  have hac2 := hV.ac.2.1
  have hPl0 := hV.gm.cp
  refine Ev.run 3 (pc' := 3) (lv' := [(0, .ref 0), (1, .int (nI x))]) (st' := [.int (nI 3), .int (nI 0), .int (nI x)]) (h' := HN g hl (RF rt)) rfl ?_
  refine Ev.call (a := 118) (as := [.int (nI x), .int (nI 0), .int (nI 3)]) (rest := []) (lv0 := [(0, .int (nI x)), (1, .int (nI 0)), (2, .int (nI 3))]) (Q1 := (fun z0 h' => z0 = some (.int (nI (bn (decide (x ≤ 3))))) ∧ h' = HN g hl (RF rt))) rfl rfl (K_within _ _ _ _ (nI x) (nI 0) (nI 3) (by rw [in0 (by omega) (by omega)]; exact ⟨rfl, rfl⟩)) (fun r h' hr => ?_)
  obtain ⟨rfl, rfl⟩ := hr
  refine Ev_bn (fun hb6 => ?_) (fun hb6 => ?_)
  · have hhb6 : x ≤ 3 := of_decide_eq_true hb6
    refine Ev.run 2 (pc' := 12) (lv' := [(0, .ref 0), (1, .int (nI x))]) (st' := [.ref 0]) (h' := HN g hl (RF rt)) rfl ?_
    refine Ev.call (a := 116) (as := [.ref 0]) (rest := []) (lv0 := [(0, .ref 0)]) (Q1 := (fun z0 h' => z0 = some (.int (nI (bn (decide (alS g ≠ 0 ∧ g 166 9 ≠ 12))))) ∧ h' = HN g hl (RF rt))) rfl rfl (K_canAdd _ _ _ _ hV ⟨rfl, rfl⟩) (fun r h' hr => ?_)
    obtain ⟨rfl, rfl⟩ := hr
    refine Ev_bn (fun hb15 => ?_) (fun hb15 => ?_)
    · have hhb15 : alS g ≠ 0 ∧ g 166 9 ≠ 12 := of_decide_eq_true hb15
      refine Ev.run 3 (pc' := 25) (lv' := [(0, .ref 0), (1, .int (nI x))]) (st' := [.ref 12]) (h' := HN g hl (RF rt)) rfl ?_
      refine Ev.call (a := 28) (as := [.ref 12]) (rest := []) (lv0 := [(0, .ref 12)]) (Q1 := (fun z0 h' => z0 = none ∧ ∃ g1, h' = HN g1 hl (RF rt) ∧ Inv g1 hl rt ∧ Em g g1 ∧ Fr g g1 ∧ RDY g1)) rfl rfl (K_prepare _ g hl rt hV (fun g1 h1 h2 h3 h4 => ⟨rfl, g1, rfl, h1, h2, h3, h4⟩)) (fun r h' hr => ?_)
      obtain ⟨rfl, g1, rfl, hV1, hem, hfr, hrd⟩ := hr
      refine Ev.hp (congrArg (fun z => HN z hl (RF rt)) (RO_own (g := g1) (W := g1) (fun _ _ => rfl))) ?_
      have ha : alS g1 ≠ 0 ∧ g1 166 9 ≠ 12 := by
        rw [hem.f9, show alS g1 = alS g from by unfold alS; rw [hem.r173, hem.f6]]
        exact hhb15
      refine K_by2 _ g1 hl rt hV1 _ hrd ha.1 ha.2 x (by omega) (fun T => ?_)
      have e := hq (ROs g1 128 T) (hV1.ro T)
      rw [kp175, (Em.ro g1 T).zby] at e
      unfold rs_by at e
      rw [if_pos (by omega), if_neg ha.1, if_neg ha.2] at e
      exact e
    · have hhb15 : ¬ (alS g ≠ 0 ∧ g 166 9 ≠ 12) := of_decide_eq_false hb15
      refine Ev.run 2 (pc' := 20) (lv' := [(0, .ref 0), (1, .int (nI x))]) (st' := [.int (nI 4294967293)]) (h' := HN g hl (RF rt)) rfl ?_
      refine Ev.ret (v := some (.int (nI 4294967293))) rfl ?_
      have e := hq g hV
      unfold rs_by at e
      rw [if_pos (by omega)] at e
      by_cases q : alS g = 0
      · rw [if_pos q] at e
        exact e
      · by_cases q2 : g 166 9 = 12
        · rw [if_neg q, if_pos q2] at e
          exact e
        · exact absurd ⟨q, q2⟩ hhb15
  · have hhb6 : ¬ (x ≤ 3) := of_decide_eq_false hb6
    refine Ev.run 2 (pc' := 10) (lv' := [(0, .ref 0), (1, .int (nI x))]) (st' := [.int (nI 4294967295)]) (h' := HN g hl (RF rt)) rfl ?_
    refine Ev.ret (v := some (.int (nI 4294967295))) rfl ?_
    have e := hq g hV
    unfold rs_by at e
    rw [if_neg (by omega)] at e
    exact e
theorem K_odds2 {L : Nat} {xs : Nat → Int32} (d : Nat) (g : Nat → Nat → Nat) (hl : Nat → Nat → Int64) (rt : Nat × Nat × Nat × Nat) (hV : Inv g hl rt) (T : Sx) (hrd : RDY g) (hal : alS g ≠ 0) (h12 : g 166 9 ≠ 12) (p part : Nat) (hp : p < g 166 6) (hpart : part < 2 ^ 32) {Q : Po} (hq : ∀ T2, Q (some (.long (Int64.ofNat (lwS1 (odC (fun x => (flS g (g 175) x).1) p 4) 4 part)))) (HN (ROs g 128 T2) hl (RF rt))) : Ev L xs (d + 8) 100 38 [(0, .ref 0), (1, .int (nI p)), (2, .int (nI part))] [] (HN (ROs g 128 T) hl (RF rt)) Q := by
  have hI := hV.mi
  have hW := hI.hW
  have hS := hI.hS
  have hPl := hI.hPl
  have hNx := hI.hNx
  have hLa := hI.hLa
  have hLo := hI.hLo
  have hTb := hI.hTb
  have hTh := hI.hTh
  have hFd := hI.hFd
  have hSn := hI.hSn
  have hSh := hI.hSh
  have hRan := hI.hRan
  have hLr := hI.hLr
  have hLt := hI.hLt
  have hgl := hI.hgl
  have hsz := hI.hsz
  have hcm := hI.hcm
  have hsl := hI.hsl
  have hkd := hI.hkd
  have hvv := hI.hvv
  have hli := hI.hli
  have hro := hI.hro
  have hrw := hI.hrw
  have htx := hI.htx
  have hsw := hI.hsw
  have hsx := hI.hsx
  have hsy := hI.hsy
  have hsh := hI.hsh
  have hle := hI.hle
  have hcl := hI.hcl
  have hwd := hI.hwd
  have hnu := hI.hnu
  have hwn := hI.hwn
  have hs1 := hI.hs1
  have hso := hI.hso
  have hB := hV.gm.cb
  have hB0 := hB.1
  have hPs := hV.gm.cs
  have hsp1 := hV.sp.1
  have htx1 := hV.tx.1
  have h451 := hV.gm.rx.1
  have h442 := hV.gm.rx.2.2.2.1
  have h443 := hV.gm.rx.2.2.2.2
  have h481 := hV.gm.l48.1
  have h501 := hV.gm.l50.1
  have h521 := hV.gm.l52.1
  have h541 := hV.gm.l54.1
  have h04 := hV.tb.1
  have hac1 := hV.ac.1
  have hac2 := hV.ac.2.1
  have hPl0 := hV.gm.cp
  refine Ev.run 4 (pc' := 43) (lv' := [(4, .int (nI 0)), (3, .int (nI 0)), (0, .ref 0), (1, .int (nI p)), (2, .int (nI part))]) (st' := []) (h' := HN (RO g 128 T.1 T.2.1 T.2.2.1 T.2.2.2) hl (RF rt)) rfl ?_
  refine for_ind 4 (fun k => ∀ T : Sx, Ev L xs (d + 8) 100 43 [(4, .int (nI k)), (3, .int (nI (odC (fun x => (flS g (g 175) x).1) p k))), (0, .ref 0), (1, .int (nI p)), (2, .int (nI part))] [] (HN (RO g 128 T.1 T.2.1 T.2.2.1 T.2.2.2) hl (RF rt)) Q) (fun k hk hnext => ?_) 0 (Nat.zero_le _) T
  clear T
  intro T
  have hodc := odC_le (fun x => (flS g (g 175) x).1) p k
  refine Ev.run 3 (pc' := (if nI 4 ≤ nI k then 68 else 49)) (lv' := [(4, .int (nI k)), (3, .int (nI (odC (fun x => (flS g (g 175) x).1) p k))), (0, .ref 0), (1, .int (nI p)), (2, .int (nI part))]) (st' := []) (h' := HN (RO g 128 T.1 T.2.1 T.2.2.1 T.2.2.2) hl (RF rt)) rfl ?_
  refine Ev.ite (fun hc46 => ?_) (fun hc46 => ?_)
  · have hc46 : 4 ≤ k := (nI_leI (by omega) (by omega)).mp hc46
    refine Ev.run 3 (pc' := 71) (lv' := [(4, .int (nI k)), (3, .int (nI (odC (fun x => (flS g (g 175) x).1) p k))), (0, .ref 0), (1, .int (nI p)), (2, .int (nI part))]) (st' := [.int (nI part), .int (nI 4), .int (nI (odC (fun x => (flS g (g 175) x).1) p k))]) (h' := HN (RO g 128 T.1 T.2.1 T.2.2.1 T.2.2.2) hl (RF rt)) rfl ?_
    refine Ev.call (a := 124) (as := [.int (nI (odC (fun x => (flS g (g 175) x).1) p k)), .int (nI 4), .int (nI part)]) (rest := []) (lv0 := [(0, .int (nI (odC (fun x => (flS g (g 175) x).1) p k))), (1, .int (nI 4)), (2, .int (nI part))]) (Q1 := (fun z0 h' => z0 = some (.long (Int64.ofNat (lwS1 (odC (fun x => (flS g (g 175) x).1) p k) 4 part))) ∧ h' = HN (RO g 128 T.1 T.2.1 T.2.2.1 T.2.2.2) hl (RF rt))) rfl rfl (K_lowestC _ (ROs g 128 T) _ _ (odC (fun x => (flS g (g 175) x).1) p k) 4 part (by omega) (by omega) (by omega) (by omega) ⟨rfl, rfl⟩) (fun r h' hr => ?_)
    obtain ⟨rfl, rfl⟩ := hr
    refine Ev.ret (v := some (.long (Int64.ofNat (lwS1 (odC (fun x => (flS g (g 175) x).1) p k) 4 part)))) rfl ?_
    have hk4 : k = 4 := by omega
    subst hk4
    exact hq T
  · have hc46 : ¬ (4 ≤ k) := fun z => hc46 ((nI_leI (by omega) (by omega)).mpr z)
    refine Ev.run 2 (pc' := 52) (lv' := [(4, .int (nI k)), (3, .int (nI (odC (fun x => (flS g (g 175) x).1) p k))), (0, .ref 0), (1, .int (nI p)), (2, .int (nI part))]) (st' := [.int (nI k), .ref 0]) (h' := HN (RO g 128 T.1 T.2.1 T.2.2.1 T.2.2.2) hl (RF rt)) rfl ?_
    refine Ev.call (a := 117) (as := [.ref 0, .int (nI k)]) (rest := []) (lv0 := [(0, .ref 0), (1, .int (nI k))]) (Q1 := (fun z0 h' => z0 = some (.int (nI (lbO (flS g (g 175) k).1))) ∧ ∃ T2, h' = HN (ROs g 128 T2) hl (RF rt))) rfl rfl (K_lby _ g hl rt hV hrd T k (by omega) hal h12 (fun T2 => ⟨rfl, T2, rfl⟩)) (fun r h' hr => ?_)
    obtain ⟨rfl, T2, rfl⟩ := hr
    have hfl := flS_le hI (g 175) (l := k) (by omega) (by omega)
    have hlb : (lbO (flS g (g 175) k).1 = (flS g (g 175) k).1 ∧ (flS g (g 175) k).1 ≤ 4) ∨ (lbO (flS g (g 175) k).1 = 4294967295 ∧ (flS g (g 175) k).1 = 4294967291) := by
      rcases hfl with z | z
      · left
        unfold lbO
        rw [if_neg (by omega)]
        exact ⟨rfl, z⟩
      · right
        unfold lbO
        rw [if_pos z]
        exact ⟨rfl, z⟩
    refine Ev.run 2 (pc' := (if nI (lbO (flS g (g 175) k).1) = nI p then 59 else 62)) (lv' := [(4, .int (nI k)), (3, .int (nI (odC (fun x => (flS g (g 175) x).1) p k))), (0, .ref 0), (1, .int (nI p)), (2, .int (nI part))]) (st' := []) (h' := HN (RO g 128 T2.1 T2.2.1 T2.2.2.1 T2.2.2.2) hl (RF rt)) rfl ?_
    refine Ev.ite (fun hc56 => ?_) (fun hc56 => ?_)
    · have hc56 : (lbO (flS g (g 175) k).1) = p := (nI_eqU (by omega) (by omega)).mp hc56
      refine Ev.run 1 (pc' := 62) (lv' := [(3, .int (nI (odC (fun x => (flS g (g 175) x).1) p k) + 1)), (4, .int (nI k)), (0, .ref 0), (1, .int (nI p)), (2, .int (nI part))]) (st' := []) (h' := HN (RO g 128 T2.1 T2.2.1 T2.2.2.1 T2.2.2.2) hl (RF rt)) rfl ?_
      refine Ev.lvE (congrArg (fun z => (3, Value.int z) :: [(4, .int (nI k)), (0, .ref 0), (1, .int (nI p)), (2, .int (nI part))]) (nI_1 _)) ?_
      refine Ev.run 1 (pc' := 65) (lv' := [(4, .int (nI k + 1)), (3, .int (nI (odC (fun x => (flS g (g 175) x).1) p k + 1))), (0, .ref 0), (1, .int (nI p)), (2, .int (nI part))]) (st' := []) (h' := HN (RO g 128 T2.1 T2.2.1 T2.2.2.1 T2.2.2.2) hl (RF rt)) rfl ?_
      refine Ev.lvE (congrArg (fun z => (4, Value.int z) :: [(3, .int (nI (odC (fun x => (flS g (g 175) x).1) p k + 1))), (0, .ref 0), (1, .int (nI p)), (2, .int (nI part))]) (nI_1 _)) ?_
      refine Ev.run 1 (pc' := 43) (lv' := [(4, .int (nI (k + 1))), (3, .int (nI (odC (fun x => (flS g (g 175) x).1) p k + 1))), (0, .ref 0), (1, .int (nI p)), (2, .int (nI part))]) (st' := []) (h' := HN (RO g 128 T2.1 T2.2.1 T2.2.2.1 T2.2.2.2) hl (RF rt)) rfl ?_
      have hx := hnext (by omega) T2
      rw [show odC (fun x => (flS g (g 175) x).1) p (k + 1) = odC (fun x => (flS g (g 175) x).1) p k + 1 from congrArg (fun z => odC (fun x => (flS g (g 175) x).1) p k + z) (if_pos (show (flS g (g 175) k).1 = p by omega))] at hx
      exact Ev.wk (Ext.cons rfl rfl (Ext.cons rfl rfl (Ext.cons rfl rfl (Ext.cons rfl rfl (Ext.cons rfl rfl (Ext.nil rfl)))))) hx
    · have hc56 : ¬ ((lbO (flS g (g 175) k).1) = p) := fun z => hc56 ((nI_eqU (by omega) (by omega)).mpr z)
      refine Ev.run 1 (pc' := 65) (lv' := [(4, .int (nI k + 1)), (3, .int (nI (odC (fun x => (flS g (g 175) x).1) p k))), (0, .ref 0), (1, .int (nI p)), (2, .int (nI part))]) (st' := []) (h' := HN (RO g 128 T2.1 T2.2.1 T2.2.2.1 T2.2.2.2) hl (RF rt)) rfl ?_
      refine Ev.lvE (congrArg (fun z => (4, Value.int z) :: [(3, .int (nI (odC (fun x => (flS g (g 175) x).1) p k))), (0, .ref 0), (1, .int (nI p)), (2, .int (nI part))]) (nI_1 _)) ?_
      refine Ev.run 1 (pc' := 43) (lv' := [(4, .int (nI (k + 1))), (3, .int (nI (odC (fun x => (flS g (g 175) x).1) p k))), (0, .ref 0), (1, .int (nI p)), (2, .int (nI part))]) (st' := []) (h' := HN (RO g 128 T2.1 T2.2.1 T2.2.2.1 T2.2.2.2) hl (RF rt)) rfl ?_
      have hx := hnext (by omega) T2
      rw [show odC (fun x => (flS g (g 175) x).1) p (k + 1) = odC (fun x => (flS g (g 175) x).1) p k + 0 from congrArg (fun z => odC (fun x => (flS g (g 175) x).1) p k + z) (if_neg (show ¬ (flS g (g 175) k).1 = p by omega))] at hx
      exact Ev.wk (Ext.cons rfl rfl (Ext.cons rfl rfl (Ext.cons rfl rfl (Ext.cons rfl rfl (Ext.cons rfl rfl (Ext.nil rfl)))))) hx
theorem K_odds {L : Nat} {xs : Nat → Int32} (d : Nat) (g : Nat → Nat → Nat) (hl : Nat → Nat → Int64) (rt : Nat × Nat × Nat × Nat) (hV : Inv g hl rt) (p : Nat) (part : Nat) (hp : p < 2 ^ 32) (hpart : part < 2 ^ 32) {Q : Po} (hq : ∀ g2, Inv g2 hl rt → (p < g2 166 6 → part ≤ 1 → alS g2 ≠ 0 → g2 166 9 ≠ 12 → RDY g2) → Q (some (.long (Int64.ofNat (rs_odds g2 (fun x => (flS g2 (g2 175) x).1) p part)))) (HN g2 hl (RF rt))) : Ev L xs (d + 9) 100 0 [(0, .ref 0), (1, .int (nI p)), (2, .int (nI part))] [] (HN g hl (RF rt)) Q := by
  have hI := hV.mi
  have hW := hI.hW
  have hS := hI.hS
  have hPl := hI.hPl
  have hNx := hI.hNx
  have hLa := hI.hLa
  have hLo := hI.hLo
  have hTb := hI.hTb
  have hTh := hI.hTh
  have hFd := hI.hFd
  have hSn := hI.hSn
  have hSh := hI.hSh
  have hRan := hI.hRan
  have hLr := hI.hLr
  have hLt := hI.hLt
  have hgl := hI.hgl
  have hsz := hI.hsz
  have hcm := hI.hcm
  have hsl := hI.hsl
  have hkd := hI.hkd
  have hvv := hI.hvv
  have hli := hI.hli
  have hro := hI.hro
  have hrw := hI.hrw
  have htx := hI.htx
  have hsw := hI.hsw
  have hsx := hI.hsx
  have hsy := hI.hsy
  have hsh := hI.hsh
  have hle := hI.hle
  have hcl := hI.hcl
  have hwd := hI.hwd
  have hnu := hI.hnu
  have hwn := hI.hwn
  have hs1 := hI.hs1
  have hso := hI.hso
  have hB := hV.gm.cb
  have hB0 := hB.1
  have hPs := hV.gm.cs
  have hsp1 := hV.sp.1
  have htx1 := hV.tx.1
  have h451 := hV.gm.rx.1
  have h442 := hV.gm.rx.2.2.2.1
  have h443 := hV.gm.rx.2.2.2.2
  have h481 := hV.gm.l48.1
  have h501 := hV.gm.l50.1
  have h521 := hV.gm.l52.1
  have h541 := hV.gm.l54.1
  have h04 := hV.tb.1
  have hac1 := hV.ac.1
  have hac2 := hV.ac.2.1
  have hPl0 := hV.gm.cp
  refine Ev.run 3 (pc' := 5) (lv' := [(0, .ref 0), (1, .int (nI p)), (2, .int (nI part))]) (st' := [.int (nI p), .ref 12]) (h' := HN g hl (RF rt)) rfl ?_
  refine Ev.call (a := 22) (as := [.ref 12, .int (nI p)]) (rest := []) (lv0 := [(0, .ref 12), (1, .int (nI p))]) (Q1 := (fun z0 h' => z0 = some (.int (nI (bn (decide (p < g 166 6))))) ∧ h' = HN g hl (RF rt))) rfl rfl (K_hasPlayer _ _ _ _ hI hPs p (by omega) ⟨rfl, rfl⟩) (fun r h' hr => ?_)
  obtain ⟨rfl, rfl⟩ := hr
  refine Ev_bn (fun hb8 => ?_) (fun hb8 => ?_)
  · have hhb8 : p < g 166 6 := of_decide_eq_true hb8
    refine Ev.run 4 (pc' := 14) (lv' := [(0, .ref 0), (1, .int (nI p)), (2, .int (nI part))]) (st' := [.int (nI 1), .int (nI 0), .int (nI part)]) (h' := HN g hl (RF rt)) rfl ?_
    refine Ev.call (a := 118) (as := [.int (nI part), .int (nI 0), .int (nI 1)]) (rest := []) (lv0 := [(0, .int (nI part)), (1, .int (nI 0)), (2, .int (nI 1))]) (Q1 := (fun z0 h' => z0 = some (.int (nI (bn (decide (part ≤ 1))))) ∧ h' = HN g hl (RF rt))) rfl rfl (K_within _ _ _ _ (nI part) (nI 0) (nI 1) (by rw [in0 (by omega) (by omega)]; exact ⟨rfl, rfl⟩)) (fun r h' hr => ?_)
    obtain ⟨rfl, rfl⟩ := hr
    refine Ev_bn (fun hb17 => ?_) (fun hb17 => ?_)
    · have hhb17 : part ≤ 1 := of_decide_eq_true hb17
      refine Ev.run 2 (pc' := 21) (lv' := [(0, .ref 0), (1, .int (nI p)), (2, .int (nI part))]) (st' := [.ref 0]) (h' := HN g hl (RF rt)) rfl ?_
      refine Ev.call (a := 116) (as := [.ref 0]) (rest := []) (lv0 := [(0, .ref 0)]) (Q1 := (fun z0 h' => z0 = some (.int (nI (bn (decide (alS g ≠ 0 ∧ g 166 9 ≠ 12))))) ∧ h' = HN g hl (RF rt))) rfl rfl (K_canAdd _ _ _ _ hV ⟨rfl, rfl⟩) (fun r h' hr => ?_)
      obtain ⟨rfl, rfl⟩ := hr
      refine Ev_bn (fun hb24 => ?_) (fun hb24 => ?_)
      · have hhb24 : alS g ≠ 0 ∧ g 166 9 ≠ 12 := of_decide_eq_true hb24
        refine Ev.run 3 (pc' := 35) (lv' := [(0, .ref 0), (1, .int (nI p)), (2, .int (nI part))]) (st' := [.ref 12]) (h' := HN g hl (RF rt)) rfl ?_
        refine Ev.call (a := 28) (as := [.ref 12]) (rest := []) (lv0 := [(0, .ref 12)]) (Q1 := (fun z0 h' => z0 = none ∧ ∃ g1, h' = HN g1 hl (RF rt) ∧ Inv g1 hl rt ∧ Em g g1 ∧ Fr g g1 ∧ RDY g1)) rfl rfl (K_prepare _ g hl rt hV (fun g1 h1 h2 h3 h4 => ⟨rfl, g1, rfl, h1, h2, h3, h4⟩)) (fun r h' hr => ?_)
        obtain ⟨rfl, g1, rfl, hV1, hem, hfr, hrd⟩ := hr
        refine Ev.hp (congrArg (fun z => HN z hl (RF rt)) (RO_own (g := g1) (W := g1) (fun _ _ => rfl))) ?_
        have ha : alS g1 ≠ 0 ∧ g1 166 9 ≠ 12 := by
          rw [hem.f9, show alS g1 = alS g from by unfold alS; rw [hem.r173, hem.f6]]
          exact hhb24
        have hp1 : p < g1 166 6 := by rw [hem.f6]; omega
        refine K_odds2 _ g1 hl rt hV1 _ hrd ha.1 ha.2 p part hp1 hpart (fun T => ?_)
        have e := hq (ROs g1 128 T) (hV1.ro T) (fun _ _ _ _ => hrd.ro hV1.mi T)
        have em := Em.ro g1 T
        unfold rs_odds at e
        rw [em.f6, em.f9, show alS (ROs g1 128 T) = alS g1 from by unfold alS; rw [em.r173, em.f6], if_pos hp1, if_pos (by omega), if_neg ha.1, if_neg ha.2, kp175, em.xflS] at e
        exact e
      · have hhb24 : ¬ (alS g ≠ 0 ∧ g 166 9 ≠ 12) := of_decide_eq_false hb24
        refine Ev.run 2 (pc' := 30) (lv' := [(0, .ref 0), (1, .int (nI p)), (2, .int (nI part))]) (st' := [.long (Int64.ofNat 9223372036854775808)]) (h' := HN g hl (RF rt)) rfl ?_
        refine Ev.ret (v := some (.long (Int64.ofNat 9223372036854775808))) rfl ?_
        have e := hq g hV (fun h1 h2 h3 h4 => by first | omega | exact absurd ⟨h3, h4⟩ (by assumption))
        unfold rs_odds at e
        rw [if_pos (by omega), if_pos (by omega)] at e
        by_cases q : alS g = 0
        · rw [if_pos q] at e
          exact e
        · by_cases q2 : g 166 9 = 12
          · rw [if_neg q, if_pos q2] at e
            exact e
          · exact absurd ⟨q, q2⟩ hhb24
    · have hhb17 : ¬ (part ≤ 1) := of_decide_eq_false hb17
      refine Ev.run 2 (pc' := 30) (lv' := [(0, .ref 0), (1, .int (nI p)), (2, .int (nI part))]) (st' := [.long (Int64.ofNat 9223372036854775808)]) (h' := HN g hl (RF rt)) rfl ?_
      refine Ev.ret (v := some (.long (Int64.ofNat 9223372036854775808))) rfl ?_
      have e := hq g hV (fun h1 h2 h3 h4 => by first | omega | exact absurd ⟨h3, h4⟩ (by assumption))
      unfold rs_odds at e
      rw [if_pos (by omega), if_neg (by omega)] at e
      exact e
  · have hhb8 : ¬ (p < g 166 6) := of_decide_eq_false hb8
    refine Ev.run 2 (pc' := 30) (lv' := [(0, .ref 0), (1, .int (nI p)), (2, .int (nI part))]) (st' := [.long (Int64.ofNat 9223372036854775808)]) (h' := HN g hl (RF rt)) rfl ?_
    refine Ev.ret (v := some (.long (Int64.ofNat 9223372036854775808))) rfl ?_
    have e := hq g hV (fun h1 h2 h3 h4 => by first | omega | exact absurd ⟨h3, h4⟩ (by assumption))
    unfold rs_odds at e
    rw [if_neg (by omega)] at e
    exact e
section ST
variable {L : Nat} {xs : Nat → Int32} {g g1 : Nat → Nat → Nat} {hl : Nat → Nat → Int64} {rt : Nat × Nat × Nat × Nat}
theorem S_by (d : Nat) (x : Nat) (hx : x < 2 ^ 32) : StepC L xs (d + 20) 91 203 [(1, .int (nI x))] := by
  intro g hl rt hV
  refine K_by (d + 11) g hl rt hV x hx (fun g1 hV1 => ?_)
  refine ⟨_, _, _, _, rfl, rfl, ?_⟩
  refine Ev.hp (congrArg (fun z => HN z hl (RF rt)) (U_self g1).symm) ?_
  refine C_by (d + 8) g1 hl rt hV1.mi hV1.kw x hx _ _ _ (SmH.self hV1.mi) (fun g2 r w v hc hs => ?_)
  exact ⟨rfl, _, _, _, rfl, (hV1.cy hc).u (hs.scy hc)⟩
theorem odC_cgl {a b : Nat → Nat} (p : Nat) : ∀ n, (∀ l, l < n → a l = b l) → odC a p n = odC b p n := by
  intro n
  induction n with
  | zero => intro _; rfl
  | succ n ih =>
    intro h
    unfold odC
    rw [ih (fun l hl => h l (by omega)), h n (by omega)]
theorem S_odds (d : Nat) (p part : Nat) (hp : p < 2 ^ 32) (hpart : part < 2 ^ 32) : StepC L xs (d + 20) 100 216 [(1, .int (nI p)), (2, .int (nI part))] := by
  intro g hl rt hV
  refine K_odds (d + 11) g hl rt hV p part hp hpart (fun g1 hV1 hrd => ?_)
  refine ⟨_, _, _, _, rfl, rfl, ?_⟩
  refine Ev.hp (congrArg (fun z => HN z hl (RF rt)) (U_self g1).symm) ?_
  refine C_odds (d + 8) g1 hl rt hV1.mi hV1.kw p part hp hpart _ _ _ (SmH.self hV1.mi) (fun f g2 r w v hc hs hf => ?_)
  refine ⟨?_, _, _, _, rfl, (hV1.cy hc).u (hs.scy hc)⟩
  have e : rs_odds g1 f p part = rs_odds g1 (fun x => (flS g1 (g1 175) x).1) p part := by
    unfold rs_odds
    by_cases h1 : p < g1 166 6
    · rw [if_pos h1, if_pos h1]
      by_cases h2 : part ≤ 1
      · rw [if_pos h2, if_pos h2]
        by_cases h3 : alS g1 = 0
        · rw [if_pos h3, if_pos h3]
        · rw [if_neg h3, if_neg h3]
          by_cases h4 : g1 166 9 = 12
          · rw [if_pos h4, if_pos h4]
          · rw [if_neg h4, if_neg h4]
            rw [odC_cgl p 4 (fun l hl4 => ?_)]
            obtain ⟨G, r2, v2, a1, a2, a3, a4⟩ := hf h1 h2 h3 h4 l hl4
            rw [a4]
            exact flS_like hV1 (hrd h1 h2 h3 h4) a1 a2 r2 h3 h4 (by omega)
      · rw [if_neg h2, if_neg h2]
    · rw [if_neg h1, if_neg h1]
  rw [e]
end ST
