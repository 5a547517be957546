/-! the class: who is where after turns -/
theorem kp175 (g : Nat → Nat → Nat) (T : Sx) : ROs g 128 T 175 = g 175 := rfl
theorem K_on2 {L : Nat} {xs : Nat → Int32} (d : Nat) (g : Nat → Nat → Nat) (hl : Nat → Nat → Int64) (rt : Nat × Nat × Nat × Nat) (hV : Inv g hl rt) (hrd : RDY g) (s : Sx) (hrx : RXs s g) (n x : Nat) (hn : n ≤ 60) (hok : x ≤ 1 ∨ (10 ≤ x ∧ x < 10 + g 166 6))  {Q : Po} (hq : ∀ T, Q (some (.int (nI (rs_on g (kpU g (g 175)) n x)))) (HN (ROs g 128 T) hl (RF rt))) : Ev L xs (d + 8) 88 46 [(4, .ref 128), (3, .int (nI x - nI 10)), (0, .ref 0), (1, .int (nI n)), (2, .int (nI x))] [] (HN (RO g 128 s.1 s.2.1 s.2.2.1 s.2.2.2) hl (RF rt)) Q := by
  have hI := hV.mi
  have hW := hI.hW
  have hS := hI.hS
  have hPl := hI.hPl
  have hNx := hI.hNx
  have hLa := hI.hLa
  have hLo := hI.hLo
  have hTb := hI.hTb
  have hTh := hI.hTh
  have hFd := hI.hFd
  have hSn := hI.hSn
  have hSh := hI.hSh
  have hRan := hI.hRan
  have hLr := hI.hLr
  have hLt := hI.hLt
  have hgl := hI.hgl
  have hsz := hI.hsz
  have hcm := hI.hcm
  have hsl := hI.hsl
  have hkd := hI.hkd
  have hvv := hI.hvv
  have hli := hI.hli
  have hro := hI.hro
  have hrw := hI.hrw
  have htx := hI.htx
  have hsw := hI.hsw
  have hsx := hI.hsx
  have hsy := hI.hsy
  have hsh := hI.hsh
  have hle := hI.hle
  have hcl := hI.hcl
  have hwd := hI.hwd
  have hnu := hI.hnu
  have hwn := hI.hwn
  have hs1 := hI.hs1
  have hso := hI.hso
  have hB := hV.gm.cb
  have hB0 := hB.1
  have hPs := hV.gm.cs
  have hsp1 := hV.sp.1
  have htx1 := hV.tx.1
  have h451 := hV.gm.rx.1
  have h442 := hV.gm.rx.2.2.2.1
  have h443 := hV.gm.rx.2.2.2.2
  have h481 := hV.gm.l48.1
  have h501 := hV.gm.l50.1
  have h521 := hV.gm.l52.1
  have h541 := hV.gm.l54.1
  have h04 := hV.tb.1
  have hac1 := hV.ac.1
  have hac2 := hV.ac.2.1
  have hPl0 := hV.gm.cp
  obtain ⟨T, hTe⟩ : ∃ T, T = itX g (lwS g 1) n s := ⟨_, rfl⟩
  obtain ⟨hT1, hT2⟩ := it_eq n (kpU g (g 175)) s (GX.kp hV hrd _) (hrx.kp _) (hV.gm.ry.kp _)
  rw [← hTe] at hT1
  refine Ev.run 4 (pc' := 53) (lv' := [(4, .ref 128), (3, .int (nI x - nI 10)), (0, .ref 0), (1, .int (nI n)), (2, .int (nI x))]) (st' := [.int (nI n), .ref 128, .ref 12]) (h' := HN (RO g 128 s.1 s.2.1 s.2.2.1 s.2.2.2) hl (RF rt)) rfl ?_
  refine Ev.call (a := 35) (as := [.ref 12, .ref 128, .int (nI n)]) (rest := []) (lv0 := [(0, .ref 12), (1, .ref 128), (2, .int (nI n))]) (Q1 := (fun z0 h' => z0 = none ∧ h' = HN (RO g 128 T.1 T.2.1 T.2.2.1 T.2.2.2) hl (RF rt))) rfl rfl (K128_goS _ _ _ hV.gok (by omega) (CPX.of hV hrd hrx) ⟨rfl, congrArg (fun z => HN (ROs g 128 z) hl (RF rt)) hTe.symm⟩) (fun r h' hr => ?_)
  obtain ⟨rfl, rfl⟩ := hr
  refine Ev.run 2 (pc' := (if nI x = 0 then 60 else 81)) (lv' := [(4, .ref 128), (3, .int (nI x - nI 10)), (0, .ref 0), (1, .int (nI n)), (2, .int (nI x))]) (st' := []) (h' := HN (RO g 128 T.1 T.2.1 T.2.2.1 T.2.2.2) hl (RF rt)) rfl ?_
  refine Ev.ite (fun hc57 => ?_) (fun hc57 => ?_)
  · have hc57 : x = 0 := (nI_eqU0 (by omega)).mp hc57
    refine Ev.run 4 (pc' := (if nI (g 12 2) = 0 then 70 else 75)) (lv' := [(4, .ref 128), (3, .int (nI x - nI 10)), (0, .ref 0), (1, .int (nI n)), (2, .int (nI x))]) (st' := []) (h' := HN (RO g 128 T.1 T.2.1 T.2.2.1 T.2.2.2) hl (RF rt)) rfl ?_
    refine Ev.ite (fun hc67 => ?_) (fun hc67 => ?_)
    · have hc67 : (g 12 2) = 0 := (nI_eqU0 (by omega)).mp hc67
      refine Ev.run 2 (pc' := 80) (lv' := [(4, .ref 128), (3, .int (nI x - nI 10)), (0, .ref 0), (1, .int (nI n)), (2, .int (nI x))]) (st' := [.int (nI 4294967291)]) (h' := HN (RO g 128 T.1 T.2.1 T.2.2.1 T.2.2.2) hl (RF rt)) rfl ?_
      refine Ev.ret (v := some (.int (nI 4294967291))) rfl ?_
      have e := hq T
      unfold rs_on at e
      rw [if_pos hok, if_pos hn] at e
      (repeat (first | rw [if_pos (by omega)] at e | rw [if_neg (by omega)] at e))
      first | exact e | (rw [hT1.2.2.2.1]; exact e) | (rw [hT1.1]; exact e) | (rw [hT1.2.2.1 (x - 10) (by omega)]; exact e)
    · have hc67 : ¬ ((g 12 2) = 0) := fun z => hc67 ((nI_eqU0 (by omega)).mpr z)
      refine Ev.run 2 (pc' := 80) (lv' := [(4, .ref 128), (3, .int (nI x - nI 10)), (0, .ref 0), (1, .int (nI n)), (2, .int (nI x))]) (st' := [.int (nI (T.1 2))]) (h' := HN (RO g 128 T.1 T.2.1 T.2.2.1 T.2.2.2) hl (RF rt)) rfl ?_
      refine Ev.ret (v := some (.int (nI (T.1 2)))) rfl ?_
      have e := hq T
      unfold rs_on at e
      rw [if_pos hok, if_pos hn] at e
      (repeat (first | rw [if_pos (by omega)] at e | rw [if_neg (by omega)] at e))
      first | exact e | (rw [hT1.2.2.2.1]; exact e) | (rw [hT1.1]; exact e) | (rw [hT1.2.2.1 (x - 10) (by omega)]; exact e)
  · have hc57 : ¬ (x = 0) := fun z => hc57 ((nI_eqU0 (by omega)).mpr z)
    refine Ev.run 3 (pc' := (if nI x = nI 1 then 86 else 97)) (lv' := [(4, .ref 128), (3, .int (nI x - nI 10)), (0, .ref 0), (1, .int (nI n)), (2, .int (nI x))]) (st' := []) (h' := HN (RO g 128 T.1 T.2.1 T.2.2.1 T.2.2.2) hl (RF rt)) rfl ?_
    refine Ev.ite (fun hc83 => ?_) (fun hc83 => ?_)
    · have hc83 : x = 1 := (nI_eqU (by omega) (by omega)).mp hc83
      refine Ev.run 4 (pc' := 104) (lv' := [(4, .ref 128), (3, .int (nI x - nI 10)), (0, .ref 0), (1, .int (nI n)), (2, .int (nI x))]) (st' := [.int (nI (T.2.1 1))]) (h' := HN (RO g 128 T.1 T.2.1 T.2.2.1 T.2.2.2) hl (RF rt)) rfl ?_
      refine Ev.ret (v := some (.int (nI (T.2.1 1)))) rfl ?_
      have e := hq T
      unfold rs_on at e
      rw [if_pos hok, if_pos hn] at e
      (repeat (first | rw [if_pos (by omega)] at e | rw [if_neg (by omega)] at e))
      first | exact e | (rw [hT1.2.2.2.1]; exact e) | (rw [hT1.1]; exact e) | (rw [hT1.2.2.1 (x - 10) (by omega)]; exact e)
    · have hc83 : ¬ (x = 1) := fun z => hc83 ((nI_eqU (by omega) (by omega)).mpr z)
      have h10 : 10 ≤ x ∧ x < 10 + g 166 6 := by omega
      refine Ev.lvE (show _ = [(4, .ref 128), (3, .int (nI (x - 10))), (0, .ref 0), (1, .int (nI n)), (2, .int (nI x))] by rw [show nI x - nI 10 = nI (x - 10) from pk_sub (a := x) (b := 10) (by omega)]) ?_
      refine Ev.run 3 (pc' := 103) (lv' := [(4, .ref 128), (3, .int (nI (x - 10))), (0, .ref 0), (1, .int (nI n)), (2, .int (nI x))]) (st' := [.int (nI (x - 10)), .ref 131]) (h' := HN (RO g 128 T.1 T.2.1 T.2.2.1 T.2.2.2) hl (RF rt)) rfl ?_
      refine Ev_iald rfl rfl (show x - 10 < 5 by omega) (Nat.le_of_ble_eq_true rfl) ?_
      refine Ev.ret (v := some (.int (nI (T.2.2.2 (x - 10))))) rfl ?_
      have e := hq T
      unfold rs_on at e
      rw [if_pos hok, if_pos hn] at e
      (repeat (first | rw [if_pos (by omega)] at e | rw [if_neg (by omega)] at e))
      first | exact e | (rw [hT1.2.2.2.1]; exact e) | (rw [hT1.1]; exact e) | (rw [hT1.2.2.1 (x - 10) (by omega)]; exact e)
theorem K_on {L : Nat} {xs : Nat → Int32} (d : Nat) (g : Nat → Nat → Nat) (hl : Nat → Nat → Int64) (rt : Nat × Nat × Nat × Nat) (hV : Inv g hl rt) (n : Nat) (x : Nat) (hn : n < 2 ^ 32) (hx : x < 2 ^ 32) {Q : Po} (hq : ∀ g2, Inv g2 hl rt → Q (some (.int (nI (rs_on g2 (kpU g2 (g2 175)) n x)))) (HN g2 hl (RF rt))) : Ev L xs (d + 9) 88 0 [(0, .ref 0), (1, .int (nI n)), (2, .int (nI x))] [] (HN g hl (RF rt)) Q := by
  have hI := hV.mi
  have hW := hI.hW
  have hS := hI.hS
  have hPl := hI.hPl
  have hNx := hI.hNx
  have hLa := hI.hLa
  have hLo := hI.hLo
  have hTb := hI.hTb
  have hTh := hI.hTh
  have hFd := hI.hFd
  have hSn := hI.hSn
  have hSh := hI.hSh
  have hRan := hI.hRan
  have hLr := hI.hLr
  have hLt := hI.hLt
  have hgl := hI.hgl
  have hsz := hI.hsz
  have hcm := hI.hcm
  have hsl := hI.hsl
  have hkd := hI.hkd
  have hvv := hI.hvv
  have hli := hI.hli
  have hro := hI.hro
  have hrw := hI.hrw
  have htx := hI.htx
  have hsw := hI.hsw
  have hsx := hI.hsx
  have hsy := hI.hsy
  have hsh := hI.hsh
  have hle := hI.hle
  have hcl := hI.hcl
  have hwd := hI.hwd
  have hnu := hI.hnu
  have hwn := hI.hwn
  have hs1 := hI.hs1
  have hso := hI.hso
  have hB := hV.gm.cb
  have hB0 := hB.1
  have hPs := hV.gm.cs
  have hsp1 := hV.sp.1
  have htx1 := hV.tx.1
  have h451 := hV.gm.rx.1
  have h442 := hV.gm.rx.2.2.2.1
  have h443 := hV.gm.rx.2.2.2.2
  have h481 := hV.gm.l48.1
  have h501 := hV.gm.l50.1
  have h521 := hV.gm.l52.1
  have h541 := hV.gm.l54.1
  have h04 := hV.tb.1
  have hac1 := hV.ac.1
  have hac2 := hV.ac.2.1
  have hPl0 := hV.gm.cp
  refine Ev.run 7 (pc' := 8) (lv' := [(3, .int (nI x - nI 10)), (0, .ref 0), (1, .int (nI n)), (2, .int (nI x))]) (st' := [.int (nI 1), .int (nI 0), .int (nI x)]) (h' := HN g hl (RF rt)) rfl ?_
  refine Ev.call (a := 118) (as := [.int (nI x), .int (nI 0), .int (nI 1)]) (rest := []) (lv0 := [(0, .int (nI x)), (1, .int (nI 0)), (2, .int (nI 1))]) (Q1 := (fun z0 h' => z0 = some (.int (nI (bn (decide (x ≤ 1))))) ∧ h' = HN g hl (RF rt))) rfl rfl (K_within _ _ _ _ (nI x) (nI 0) (nI 1) (by rw [in0 (by omega) (by omega)]; exact ⟨rfl, rfl⟩)) (fun r h' hr => ?_)
  obtain ⟨rfl, rfl⟩ := hr
  refine Ev_bn (fun hb11 => ?_) (fun hb11 => ?_)
  · have hhb11 : x ≤ 1 := of_decide_eq_true hb11
    refine Ev.run 4 (pc' := 31) (lv' := [(3, .int (nI x - nI 10)), (0, .ref 0), (1, .int (nI n)), (2, .int (nI x))]) (st' := [.int (nI 60), .int (nI 0), .int (nI n)]) (h' := HN g hl (RF rt)) rfl ?_
    refine Ev.call (a := 118) (as := [.int (nI n), .int (nI 0), .int (nI 60)]) (rest := []) (lv0 := [(0, .int (nI n)), (1, .int (nI 0)), (2, .int (nI 60))]) (Q1 := (fun z0 h' => z0 = some (.int (nI (bn (decide (n ≤ 60))))) ∧ h' = HN g hl (RF rt))) rfl rfl (K_within _ _ _ _ (nI n) (nI 0) (nI 60) (by rw [in0 (by omega) (by omega)]; exact ⟨rfl, rfl⟩)) (fun r h' hr => ?_)
    obtain ⟨rfl, rfl⟩ := hr
    refine Ev_bn (fun hb34 => ?_) (fun hb34 => ?_)
    · have hhb34 : n ≤ 60 := of_decide_eq_true hb34
      refine Ev.run 2 (pc' := 41) (lv' := [(3, .int (nI x - nI 10)), (0, .ref 0), (1, .int (nI n)), (2, .int (nI x))]) (st' := [.ref 0]) (h' := HN g hl (RF rt)) rfl ?_
      refine Ev.call (a := 115) (as := [.ref 0]) (rest := []) (lv0 := [(0, .ref 0)]) (Q1 := (fun z0 h' => z0 = some (.ref 128) ∧ ∃ (g1 : Nat → Nat → Nat) (s : Sx), h' = HN (ROs g1 128 s) hl (RF rt) ∧ Inv g1 hl rt ∧ RDY g1 ∧ Em g g1 ∧ RXs s g1 ∧ s.1 4 = 4294967295)) rfl rfl (K_look _ g hl rt hV (fun g1 h1 h2 h3 s h4 h5 => ⟨rfl, g1, s, rfl, h1, h2, h3, h4, h5⟩)) (fun r h' hr => ?_)
      obtain ⟨rfl, g1, s, rfl, hV1, hrd, hem, hrx, hlo⟩ := hr
      refine Ev.run 1 (pc' := 46) (lv' := [(4, .ref 128), (3, .int (nI x - nI 10)), (0, .ref 0), (1, .int (nI n)), (2, .int (nI x))]) (st' := []) (h' := HN (ROs g1 128 s) hl (RF rt)) rfl ?_
      refine K_on2 _ g1 hl rt hV1 hrd s hrx n x (by omega) (by rw [hem.f6]; omega) (fun T => ?_)
      have e := hq (ROs g1 128 T) (hV1.ro T)
      rw [kp175, (Em.ro g1 T).zon (g1 175) n x] at e
      exact e
    · have hhb34 : ¬ (n ≤ 60) := of_decide_eq_false hb34
      refine Ev.run 2 (pc' := 39) (lv' := [(3, .int (nI x - nI 10)), (0, .ref 0), (1, .int (nI n)), (2, .int (nI x))]) (st' := [.int (nI 4294967294)]) (h' := HN g hl (RF rt)) rfl ?_
      refine Ev.ret (v := some (.int (nI 4294967294))) rfl ?_
      have e := hq g hV
      unfold rs_on at e
      (repeat (first | rw [if_pos (by omega)] at e | rw [if_neg (by omega)] at e))
      exact e
  · have hhb11 : ¬ (x ≤ 1) := of_decide_eq_false hb11
    refine Ev.run 4 (pc' := 19) (lv' := [(3, .int (nI x - nI 10)), (0, .ref 0), (1, .int (nI n)), (2, .int (nI x))]) (st' := [.int (nI x - nI 10), .ref 12]) (h' := HN g hl (RF rt)) rfl ?_
    refine Ev.call (a := 22) (as := [.ref 12, .int (nI x - nI 10)]) (rest := []) (lv0 := [(0, .ref 12), (1, .int (nI x - nI 10))]) (Q1 := (fun z0 h' => z0 = some (.int (nI (bn (decide ((x + 4294967286) % 4294967296 < g 166 6))))) ∧ h' = HN g hl (RF rt))) rfl rfl ((by rw [nI_s10, nI_m]; exact K_hasPlayer _ _ _ _ hI hPs ((x + 4294967286) % 4294967296) (by omega) ⟨rfl, rfl⟩)) (fun r h' hr => ?_)
    obtain ⟨rfl, rfl⟩ := hr
    refine Ev_bn (fun hb22 => ?_) (fun hb22 => ?_)
    · have hhb22 : (x + 4294967286) % 4294967296 < g 166 6 := of_decide_eq_true hb22
      refine Ev.run 4 (pc' := 31) (lv' := [(3, .int (nI x - nI 10)), (0, .ref 0), (1, .int (nI n)), (2, .int (nI x))]) (st' := [.int (nI 60), .int (nI 0), .int (nI n)]) (h' := HN g hl (RF rt)) rfl ?_
      refine Ev.call (a := 118) (as := [.int (nI n), .int (nI 0), .int (nI 60)]) (rest := []) (lv0 := [(0, .int (nI n)), (1, .int (nI 0)), (2, .int (nI 60))]) (Q1 := (fun z0 h' => z0 = some (.int (nI (bn (decide (n ≤ 60))))) ∧ h' = HN g hl (RF rt))) rfl rfl (K_within _ _ _ _ (nI n) (nI 0) (nI 60) (by rw [in0 (by omega) (by omega)]; exact ⟨rfl, rfl⟩)) (fun r h' hr => ?_)
      obtain ⟨rfl, rfl⟩ := hr
      refine Ev_bn (fun hb34 => ?_) (fun hb34 => ?_)
      · have hhb34 : n ≤ 60 := of_decide_eq_true hb34
        refine Ev.run 2 (pc' := 41) (lv' := [(3, .int (nI x - nI 10)), (0, .ref 0), (1, .int (nI n)), (2, .int (nI x))]) (st' := [.ref 0]) (h' := HN g hl (RF rt)) rfl ?_
        refine Ev.call (a := 115) (as := [.ref 0]) (rest := []) (lv0 := [(0, .ref 0)]) (Q1 := (fun z0 h' => z0 = some (.ref 128) ∧ ∃ (g1 : Nat → Nat → Nat) (s : Sx), h' = HN (ROs g1 128 s) hl (RF rt) ∧ Inv g1 hl rt ∧ RDY g1 ∧ Em g g1 ∧ RXs s g1 ∧ s.1 4 = 4294967295)) rfl rfl (K_look _ g hl rt hV (fun g1 h1 h2 h3 s h4 h5 => ⟨rfl, g1, s, rfl, h1, h2, h3, h4, h5⟩)) (fun r h' hr => ?_)
        obtain ⟨rfl, g1, s, rfl, hV1, hrd, hem, hrx, hlo⟩ := hr
        refine Ev.run 1 (pc' := 46) (lv' := [(4, .ref 128), (3, .int (nI x - nI 10)), (0, .ref 0), (1, .int (nI n)), (2, .int (nI x))]) (st' := []) (h' := HN (ROs g1 128 s) hl (RF rt)) rfl ?_
        refine K_on2 _ g1 hl rt hV1 hrd s hrx n x (by omega) (by rw [hem.f6]; omega) (fun T => ?_)
        have e := hq (ROs g1 128 T) (hV1.ro T)
        rw [kp175, (Em.ro g1 T).zon (g1 175) n x] at e
        exact e
      · have hhb34 : ¬ (n ≤ 60) := of_decide_eq_false hb34
        refine Ev.run 2 (pc' := 39) (lv' := [(3, .int (nI x - nI 10)), (0, .ref 0), (1, .int (nI n)), (2, .int (nI x))]) (st' := [.int (nI 4294967294)]) (h' := HN g hl (RF rt)) rfl ?_
        refine Ev.ret (v := some (.int (nI 4294967294))) rfl ?_
        have e := hq g hV
        unfold rs_on at e
        (repeat (first | rw [if_pos (by omega)] at e | rw [if_neg (by omega)] at e))
        exact e
    · have hhb22 : ¬ ((x + 4294967286) % 4294967296 < g 166 6) := of_decide_eq_false hb22
      refine Ev.run 2 (pc' := 26) (lv' := [(3, .int (nI x - nI 10)), (0, .ref 0), (1, .int (nI n)), (2, .int (nI x))]) (st' := [.int (nI 4294967295)]) (h' := HN g hl (RF rt)) rfl ?_
      refine Ev.ret (v := some (.int (nI 4294967295))) rfl ?_
      have e := hq g hV
      unfold rs_on at e
      (repeat (first | rw [if_pos (by omega)] at e | rw [if_neg (by omega)] at e))
      exact e
theorem rkF_cg {a b : Nat → Nat} : ∀ n, (∀ j, j < n → a j = b j) → rkF a n = rkF b n := by
  intro n
  induction n with
  | zero => intro _; rfl
  | succ n ih =>
    intro h
    have e := ih (fun j hj => h j (by omega))
    unfold rkF
    rw [e, h n (by omega)]
    rcases rkF_le b n with z | z
    · rw [h _ (by omega)]
    · rw [z]; rfl
theorem K_rank2 {L : Nat} {xs : Nat → Int32} (d : Nat) (g : Nat → Nat → Nat) (hl : Nat → Nat → Int64) (rt : Nat × Nat × Nat × Nat) (hV : Inv g hl rt) (hrd : RDY g) (s : Sx) (hrx : RXs s g) (n : Nat) (hn : n ≤ 60)  {Q : Po} (hq : ∀ T, Q (some (.int (nI (rs_rank g (kpU g (g 175)) n)))) (HN (ROs g 128 T) hl (RF rt))) : Ev L xs (d + 8) 95 18 [(2, .ref 128), (0, .ref 0), (1, .int (nI n))] [] (HN (RO g 128 s.1 s.2.1 s.2.2.1 s.2.2.2) hl (RF rt)) Q := by
  have hI := hV.mi
  have hW := hI.hW
  have hS := hI.hS
  have hPl := hI.hPl
  have hNx := hI.hNx
  have hLa := hI.hLa
  have hLo := hI.hLo
  have hTb := hI.hTb
  have hTh := hI.hTh
  have hFd := hI.hFd
  have hSn := hI.hSn
  have hSh := hI.hSh
  have hRan := hI.hRan
  have hLr := hI.hLr
  have hLt := hI.hLt
  have hgl := hI.hgl
  have hsz := hI.hsz
  have hcm := hI.hcm
  have hsl := hI.hsl
  have hkd := hI.hkd
  have hvv := hI.hvv
  have hli := hI.hli
  have hro := hI.hro
  have hrw := hI.hrw
  have htx := hI.htx
  have hsw := hI.hsw
  have hsx := hI.hsx
  have hsy := hI.hsy
  have hsh := hI.hsh
  have hle := hI.hle
  have hcl := hI.hcl
  have hwd := hI.hwd
  have hnu := hI.hnu
  have hwn := hI.hwn
  have hs1 := hI.hs1
  have hso := hI.hso
  have hB := hV.gm.cb
  have hB0 := hB.1
  have hPs := hV.gm.cs
  have hsp1 := hV.sp.1
  have htx1 := hV.tx.1
  have h451 := hV.gm.rx.1
  have h442 := hV.gm.rx.2.2.2.1
  have h443 := hV.gm.rx.2.2.2.2
  have h481 := hV.gm.l48.1
  have h501 := hV.gm.l50.1
  have h521 := hV.gm.l52.1
  have h541 := hV.gm.l54.1
  have h04 := hV.tb.1
  have hac1 := hV.ac.1
  have hac2 := hV.ac.2.1
  have hPl0 := hV.gm.cp
  obtain ⟨T, hTe⟩ : ∃ T, T = itX g (lwS g 1) n s := ⟨_, rfl⟩
  obtain ⟨hT1, hT2⟩ := it_eq n (kpU g (g 175)) s (GX.kp hV hrd _) (hrx.kp _) (hV.gm.ry.kp _)
  rw [← hTe] at hT1
  have hxl := (CPX.mk (GX.it (GX.kp hV hrd (g 175)) n) hT1 hT2).1
  refine Ev.run 4 (pc' := 24) (lv' := [(2, .ref 128), (0, .ref 0), (1, .int (nI n))]) (st' := [.int (nI n), .ref 128, .ref 12]) (h' := HN (RO g 128 s.1 s.2.1 s.2.2.1 s.2.2.2) hl (RF rt)) rfl ?_
  refine Ev.call (a := 35) (as := [.ref 12, .ref 128, .int (nI n)]) (rest := []) (lv0 := [(0, .ref 12), (1, .ref 128), (2, .int (nI n))]) (Q1 := (fun z0 h' => z0 = none ∧ h' = HN (RO g 128 T.1 T.2.1 T.2.2.1 T.2.2.2) hl (RF rt))) rfl rfl (K128_goS _ _ _ hV.gok (by omega) (CPX.of hV hrd hrx) ⟨rfl, congrArg (fun z => HN (ROs g 128 z) hl (RF rt)) hTe.symm⟩) (fun r h' hr => ?_)
  obtain ⟨rfl, rfl⟩ := hr
  refine Ev.run 6 (pc' := 36) (lv' := [(5, .int (nI 0)), (4, .int (nI 4294967295)), (3, .int (nI 4294967291)), (2, .ref 128), (0, .ref 0), (1, .int (nI n))]) (st' := []) (h' := HN (RO g 128 T.1 T.2.1 T.2.2.1 T.2.2.2) hl (RF rt)) rfl ?_
  refine for_ind (g 166 6) (fun k => ∀ b m : Nat, b = rkF T.2.2.2 k → ((b = 4294967291 ∧ m = 4294967295) ∨ (b < k ∧ m = T.2.2.2 b)) → Ev L xs (d + 8) 95 36 [(5, .int (nI k)), (4, .int (nI m)), (3, .int (nI b)), (2, .ref 128), (0, .ref 0), (1, .int (nI n))] [] (HN (RO g 128 T.1 T.2.1 T.2.2.1 T.2.2.2) hl (RF rt)) Q) (fun k hk hnext => ?_) 0 (Nat.zero_le _) _ _ rfl (Or.inl ⟨rfl, rfl⟩)
  intro b m hb0 hbm0
  have hbm : (b = 4294967291 ∧ m = 4294967295 ∧ rkF T.2.2.2 k = 4294967291) ∨ (b = rkF T.2.2.2 k ∧ b < k ∧ m = T.2.2.2 b) := by
    rcases hbm0 with z | z
    · exact Or.inl ⟨z.1, z.2, by rw [← hb0]; exact z.1⟩
    · exact Or.inr ⟨hb0, z.1, z.2⟩
  have hlk := hxl k
  have hlb := hxl b
  refine Ev.run 5 (pc' := (if nI (g 12 2) ≤ nI k then 78 else 48)) (lv' := [(5, .int (nI k)), (4, .int (nI m)), (3, .int (nI b)), (2, .ref 128), (0, .ref 0), (1, .int (nI n))]) (st' := []) (h' := HN (RO g 128 T.1 T.2.1 T.2.2.1 T.2.2.2) hl (RF rt)) rfl ?_
  refine Ev.ite (fun hc45 => ?_) (fun hc45 => ?_)
  · have hc45 : (g 12 2) ≤ k := (nI_leI (by omega) (by omega)).mp hc45
    refine Ev.run 1 (pc' := 79) (lv' := [(5, .int (nI k)), (4, .int (nI m)), (3, .int (nI b)), (2, .ref 128), (0, .ref 0), (1, .int (nI n))]) (st' := [.int (nI b)]) (h' := HN (RO g 128 T.1 T.2.1 T.2.2.1 T.2.2.2) hl (RF rt)) rfl ?_
    refine Ev.ret (v := some (.int (nI b))) rfl ?_
    have hkn : k = g 166 6 := by omega
    have e := hq T
    unfold rs_rank at e
    rw [if_pos hn, ← rkF_cg (a := T.2.2.2) (g 166 6) (fun j hj => hT1.2.2.1 j (by omega)), ← hkn, ← hb0] at e
    exact e
  · have hc45 : ¬ ((g 12 2) ≤ k) := fun z => hc45 ((nI_leI (by omega) (by omega)).mpr z)
    refine Ev.run 3 (pc' := 54) (lv' := [(5, .int (nI k)), (4, .int (nI m)), (3, .int (nI b)), (2, .ref 128), (0, .ref 0), (1, .int (nI n))]) (st' := [.int (nI k), .ref 131]) (h' := HN (RO g 128 T.1 T.2.1 T.2.2.1 T.2.2.2) hl (RF rt)) rfl ?_
    refine Ev_iald rfl rfl (show k < 5 by omega) (Nat.le_of_ble_eq_true rfl) ?_
    refine Ev.run 2 (pc' := (if nI (T.2.2.2 k) ≤ nI m then 72 else 60)) (lv' := [(5, .int (nI k)), (4, .int (nI m)), (3, .int (nI b)), (2, .ref 128), (0, .ref 0), (1, .int (nI n))]) (st' := []) (h' := HN (RO g 128 T.1 T.2.1 T.2.2.1 T.2.2.2) hl (RF rt)) rfl ?_
    refine Ev.ite (fun hc57 => ?_) (fun hc57 => ?_)
    · have hc57 : (T.2.2.2 k) ≤ m ∧ m < 2147483648 := (nI_geK (by omega) (by omega)).mp hc57
      refine Ev.run 1 (pc' := 75) (lv' := [(5, .int (nI k + 1)), (4, .int (nI m)), (3, .int (nI b)), (2, .ref 128), (0, .ref 0), (1, .int (nI n))]) (st' := []) (h' := HN (RO g 128 T.1 T.2.1 T.2.2.1 T.2.2.2) hl (RF rt)) rfl ?_
      refine Ev.lvE (congrArg (fun z => (5, Value.int z) :: [(4, .int (nI m)), (3, .int (nI b)), (2, .ref 128), (0, .ref 0), (1, .int (nI n))]) (nI_1 _)) ?_
      refine Ev.run 1 (pc' := 36) (lv' := [(5, .int (nI (k + 1))), (4, .int (nI m)), (3, .int (nI b)), (2, .ref 128), (0, .ref 0), (1, .int (nI n))]) (st' := []) (h' := HN (RO g 128 T.1 T.2.1 T.2.2.1 T.2.2.2) hl (RF rt)) rfl ?_
      have hx := hnext (by omega) b m (by unfold rkF; rcases hbm with z | z; exfalso; omega; rw [← z.1, if_neg (by omega), if_pos (by omega)]) (by rcases hbm with z | z; exfalso; omega; exact Or.inr ⟨by omega, z.2.2⟩)
      exact Ev.wk (Ext.cons rfl rfl (Ext.cons rfl rfl (Ext.cons rfl rfl (Ext.cons rfl rfl (Ext.cons rfl rfl (Ext.cons rfl rfl (Ext.nil rfl))))))) hx
    · have hc57 : ¬ ((T.2.2.2 k) ≤ m ∧ m < 2147483648) := fun z => hc57 ((nI_geK (by omega) (by omega)).mpr z)
      refine Ev.run 3 (pc' := 66) (lv' := [(5, .int (nI k)), (4, .int (nI m)), (3, .int (nI b)), (2, .ref 128), (0, .ref 0), (1, .int (nI n))]) (st' := [.int (nI k), .ref 131]) (h' := HN (RO g 128 T.1 T.2.1 T.2.2.1 T.2.2.2) hl (RF rt)) rfl ?_
      refine Ev_iald rfl rfl (show k < 5 by omega) (Nat.le_of_ble_eq_true rfl) ?_
      refine Ev.run 4 (pc' := 75) (lv' := [(5, .int (nI k + 1)), (3, .int (nI k)), (4, .int (nI (T.2.2.2 k))), (2, .ref 128), (0, .ref 0), (1, .int (nI n))]) (st' := []) (h' := HN (RO g 128 T.1 T.2.1 T.2.2.1 T.2.2.2) hl (RF rt)) rfl ?_
      refine Ev.lvE (congrArg (fun z => (5, Value.int z) :: [(3, .int (nI k)), (4, .int (nI (T.2.2.2 k))), (2, .ref 128), (0, .ref 0), (1, .int (nI n))]) (nI_1 _)) ?_
      refine Ev.run 1 (pc' := 36) (lv' := [(5, .int (nI (k + 1))), (3, .int (nI k)), (4, .int (nI (T.2.2.2 k))), (2, .ref 128), (0, .ref 0), (1, .int (nI n))]) (st' := []) (h' := HN (RO g 128 T.1 T.2.1 T.2.2.1 T.2.2.2) hl (RF rt)) rfl ?_
      have hx := hnext (by omega) k (T.2.2.2 k) (by unfold rkF; rcases hbm with z | z; rw [if_pos (by omega)]; rw [← z.1, if_neg (by omega), if_neg (by omega)]) (Or.inr ⟨by omega, rfl⟩)
      exact Ev.wk (Ext.cons rfl rfl (Ext.cons rfl rfl (Ext.cons rfl rfl (Ext.cons rfl rfl (Ext.cons rfl rfl (Ext.cons rfl rfl (Ext.nil rfl))))))) hx
theorem K_rank {L : Nat} {xs : Nat → Int32} (d : Nat) (g : Nat → Nat → Nat) (hl : Nat → Nat → Int64) (rt : Nat × Nat × Nat × Nat) (hV : Inv g hl rt) (n : Nat) (hn : n < 2 ^ 32) {Q : Po} (hq : ∀ g2, Inv g2 hl rt → Q (some (.int (nI (rs_rank g2 (kpU g2 (g2 175)) n)))) (HN g2 hl (RF rt))) : Ev L xs (d + 9) 95 0 [(0, .ref 0), (1, .int (nI n))] [] (HN g hl (RF rt)) Q := by
  have hI := hV.mi
  have hW := hI.hW
  have hS := hI.hS
  have hPl := hI.hPl
  have hNx := hI.hNx
  have hLa := hI.hLa
  have hLo := hI.hLo
  have hTb := hI.hTb
  have hTh := hI.hTh
  have hFd := hI.hFd
  have hSn := hI.hSn
  have hSh := hI.hSh
  have hRan := hI.hRan
  have hLr := hI.hLr
  have hLt := hI.hLt
  have hgl := hI.hgl
  have hsz := hI.hsz
  have hcm := hI.hcm
  have hsl := hI.hsl
  have hkd := hI.hkd
  have hvv := hI.hvv
  have hli := hI.hli
  have hro := hI.hro
  have hrw := hI.hrw
  have htx := hI.htx
  have hsw := hI.hsw
  have hsx := hI.hsx
  have hsy := hI.hsy
  have hsh := hI.hsh
  have hle := hI.hle
  have hcl := hI.hcl
  have hwd := hI.hwd
  have hnu := hI.hnu
  have hwn := hI.hwn
  have hs1 := hI.hs1
  have hso := hI.hso
  have hB := hV.gm.cb
  have hB0 := hB.1
  have hPs := hV.gm.cs
  have hsp1 := hV.sp.1
  have htx1 := hV.tx.1
  have h451 := hV.gm.rx.1
  have h442 := hV.gm.rx.2.2.2.1
  have h443 := hV.gm.rx.2.2.2.2
  have h481 := hV.gm.l48.1
  have h501 := hV.gm.l50.1
  have h521 := hV.gm.l52.1
  have h541 := hV.gm.l54.1
  have h04 := hV.tb.1
  have hac1 := hV.ac.1
  have hac2 := hV.ac.2.1
  have hPl0 := hV.gm.cp
  refine Ev.run 3 (pc' := 4) (lv' := [(0, .ref 0), (1, .int (nI n))]) (st' := [.int (nI 60), .int (nI 0), .int (nI n)]) (h' := HN g hl (RF rt)) rfl ?_
  refine Ev.call (a := 118) (as := [.int (nI n), .int (nI 0), .int (nI 60)]) (rest := []) (lv0 := [(0, .int (nI n)), (1, .int (nI 0)), (2, .int (nI 60))]) (Q1 := (fun z0 h' => z0 = some (.int (nI (bn (decide (n ≤ 60))))) ∧ h' = HN g hl (RF rt))) rfl rfl (K_within _ _ _ _ (nI n) (nI 0) (nI 60) (by rw [in0 (by omega) (by omega)]; exact ⟨rfl, rfl⟩)) (fun r h' hr => ?_)
  obtain ⟨rfl, rfl⟩ := hr
  refine Ev_bn (fun hb7 => ?_) (fun hb7 => ?_)
  · have hhb7 : n ≤ 60 := of_decide_eq_true hb7
    refine Ev.run 2 (pc' := 14) (lv' := [(0, .ref 0), (1, .int (nI n))]) (st' := [.ref 0]) (h' := HN g hl (RF rt)) rfl ?_
    refine Ev.call (a := 115) (as := [.ref 0]) (rest := []) (lv0 := [(0, .ref 0)]) (Q1 := (fun z0 h' => z0 = some (.ref 128) ∧ ∃ (g1 : Nat → Nat → Nat) (s : Sx), h' = HN (ROs g1 128 s) hl (RF rt) ∧ Inv g1 hl rt ∧ RDY g1 ∧ Em g g1 ∧ RXs s g1 ∧ s.1 4 = 4294967295)) rfl rfl (K_look _ g hl rt hV (fun g1 h1 h2 h3 s h4 h5 => ⟨rfl, g1, s, rfl, h1, h2, h3, h4, h5⟩)) (fun r h' hr => ?_)
    obtain ⟨rfl, g1, s, rfl, hV1, hrd, hem, hrx, hlo⟩ := hr
    refine Ev.run 1 (pc' := 18) (lv' := [(2, .ref 128), (0, .ref 0), (1, .int (nI n))]) (st' := []) (h' := HN (ROs g1 128 s) hl (RF rt)) rfl ?_
    refine K_rank2 _ g1 hl rt hV1 hrd s hrx n (by omega) (fun T => ?_)
    have e := hq (ROs g1 128 T) (hV1.ro T)
    rw [kp175, (Em.ro g1 T).zrank (g1 175) n] at e
    exact e
  · have hhb7 : ¬ (n ≤ 60) := of_decide_eq_false hb7
    refine Ev.run 2 (pc' := 12) (lv' := [(0, .ref 0), (1, .int (nI n))]) (st' := [.int (nI 4294967294)]) (h' := HN g hl (RF rt)) rfl ?_
    refine Ev.ret (v := some (.int (nI 4294967294))) rfl ?_
    have e := hq g hV
    unfold rs_rank at e
    (repeat (first | rw [if_pos (by omega)] at e | rw [if_neg (by omega)] at e))
    exact e
