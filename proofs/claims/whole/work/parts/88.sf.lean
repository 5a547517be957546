/-! the class: who knows what -/
theorem Em.xfactS {g g1 : Nat → Nat → Nat} (h : Em g g1) : factS g1 = factS g := by
  funext f p i
  unfold factS
  rw [h.r171, h.r172, h.r169, h.r168, h.r167]
theorem Em.xtsS {g g1 : Nat → Nat → Nat} (h : Em g g1) : tsS g1 = tsS g := by
  funext p t
  unfold tsS
  rw [h.xfactS, h.f0]
theorem tstS_c {x t f r n : Nat} (hr : r ≤ 2) (hn : n ≤ 99) (ht : t = 1000 * f + 100 * r + n) : tstS x t = if r = 0 then !decide (n ≤ x) else if r = 1 then decide (x = n) else !decide (x ≤ n) := by
  unfold tstS
  rw [show t / 100 % 10 = r by omega, show t % 100 = n by omega]
theorem K_subject {L : Nat} {xs : Nat → Int32} (d : Nat) (g : Nat → Nat → Nat) (hl : Nat → Nat → Int64) (rt : Nat × Nat × Nat × Nat) (hV : Inv g hl rt) (f i : Nat) (p : Nat) (hp : p < g 166 6) (hf : f ≤ 9) (hi : i < g 166 0)  {Q : Po} (hq : Q (some (.int (nI (factS g f p i)))) (HN g hl (RF rt))) : Ev L xs (d + 1) 69 0 [(0, .int (nI f)), (1, .ref (60 + 2 * p)), (2, .ref 13), (3, .int (nI i))] [] (HN g hl (RF rt)) Q := by
  have hI := hV.mi
  have hW := hI.hW
  have hS := hI.hS
  have hPl := hI.hPl
  have hNx := hI.hNx
  have hLa := hI.hLa
  have hLo := hI.hLo
  have hTb := hI.hTb
  have hTh := hI.hTh
  have hFd := hI.hFd
  have hSn := hI.hSn
  have hSh := hI.hSh
  have hRan := hI.hRan
  have hLr := hI.hLr
  have hLt := hI.hLt
  have hgl := hI.hgl
  have hsz := hI.hsz
  have hcm := hI.hcm
  have hsl := hI.hsl
  have hkd := hI.hkd
  have hvv := hI.hvv
  have hli := hI.hli
  have hro := hI.hro
  have hrw := hI.hrw
  have htx := hI.htx
  have hsw := hI.hsw
  have hsx := hI.hsx
  have hsy := hI.hsy
  have hsh := hI.hsh
  have hle := hI.hle
  have hcl := hI.hcl
  have hwd := hI.hwd
  have hnu := hI.hnu
  have hwn := hI.hwn
  have hs1 := hI.hs1
  have hso := hI.hso
  have hB := hV.gm.cb
  have hB0 := hB.1
  have hPs := hV.gm.cs
  have hsp1 := hV.sp.1
  have htx1 := hV.tx.1
  have h451 := hV.gm.rx.1
  have h442 := hV.gm.rx.2.2.2.1
  have h443 := hV.gm.rx.2.2.2.2
  have h481 := hV.gm.l48.1
  have h501 := hV.gm.l50.1
  have h521 := hV.gm.l52.1
  have h541 := hV.gm.l54.1
  have h04 := hV.tb.1
  have hac1 := hV.ac.1
  have hac2 := hV.ac.2.1
  have hPl0 := hV.gm.cp
  refine Ev.run 1 (pc' := 1) (lv' := [(0, .int (nI f)), (1, .ref (60 + 2 * p)), (2, .ref 13), (3, .int (nI i))]) (st' := [.int (nI f)]) (h' := HN g hl (RF rt)) rfl ?_
  by_cases hs1_0 : f = 0
  · refine Ev.topI (congrArg nI hs1_0) ?_
    refine Ev.run 2 (pc' := 37) (lv' := [(0, .int (nI f)), (1, .ref (60 + 2 * p)), (2, .ref 13), (3, .int (nI i))]) (st' := [.ref (60 + 2 * p)]) (h' := HN g hl (RF rt)) rfl ?_
    refine Ev_gfI rfl rfl rfl (kcP (show p < 5 by omega)) ?_
    refine Ev.topI (congrArg nI (hPl0.2.2 p hp)) ?_
    refine Ev.ret (v := some (.int (nI p))) rfl ?_
    unfold factS at hq
    (repeat (first | rw [if_pos (by omega)] at hq | rw [if_neg (by omega)] at hq))
    first | exact hq | (rw [hB.2.2.2.1 i (by omega)]; exact hq) | (rw [hB.2.1 i (by omega)]; exact hq) | (have h1 := hs1 i hi; unfold atLn; rw [hB.2.1 i (by omega), if_pos (by omega), hB.2.2.1 i 0 (by omega) (by omega)]; exact hq)
  by_cases hs1_1 : f = 1
  · refine Ev.topI (congrArg nI hs1_1) ?_
    refine Ev.run 2 (pc' := 42) (lv' := [(0, .int (nI f)), (1, .ref (60 + 2 * p)), (2, .ref 13), (3, .int (nI i))]) (st' := [.ref (60 + 2 * p)]) (h' := HN g hl (RF rt)) rfl ?_
    refine Ev_gfI rfl rfl rfl (kcP (show p < 5 by omega)) ?_
    refine Ev.topI (congrArg nI ((hPl0.1 p (by omega)).1)) ?_
    refine Ev.ret (v := some (.int (nI (g 171 p)))) rfl ?_
    unfold factS at hq
    (repeat (first | rw [if_pos (by omega)] at hq | rw [if_neg (by omega)] at hq))
    first | exact hq | (rw [hB.2.2.2.1 i (by omega)]; exact hq) | (rw [hB.2.1 i (by omega)]; exact hq) | (have h1 := hs1 i hi; unfold atLn; rw [hB.2.1 i (by omega), if_pos (by omega), hB.2.2.1 i 0 (by omega) (by omega)]; exact hq)
  by_cases hs1_2 : f = 2
  · refine Ev.topI (congrArg nI hs1_2) ?_
    refine Ev.run 2 (pc' := 47) (lv' := [(0, .int (nI f)), (1, .ref (60 + 2 * p)), (2, .ref 13), (3, .int (nI i))]) (st' := [.ref (60 + 2 * p)]) (h' := HN g hl (RF rt)) rfl ?_
    refine Ev_gfI rfl rfl rfl (kcP (show p < 5 by omega)) ?_
    refine Ev.topI (congrArg nI ((hPl0.1 p (by omega)).2)) ?_
    refine Ev.ret (v := some (.int (nI (g 172 p)))) rfl ?_
    unfold factS at hq
    (repeat (first | rw [if_pos (by omega)] at hq | rw [if_neg (by omega)] at hq))
    first | exact hq | (rw [hB.2.2.2.1 i (by omega)]; exact hq) | (rw [hB.2.1 i (by omega)]; exact hq) | (have h1 := hs1 i hi; unfold atLn; rw [hB.2.1 i (by omega), if_pos (by omega), hB.2.2.1 i 0 (by omega) (by omega)]; exact hq)
  by_cases hs1_3 : f = 3
  · refine Ev.topI (congrArg nI hs1_3) ?_
    refine Ev.run 4 (pc' := 56) (lv' := [(0, .int (nI f)), (1, .ref (60 + 2 * p)), (2, .ref 13), (3, .int (nI i))]) (st' := [.int (nI i), .ref 15]) (h' := HN g hl (RF rt)) rfl ?_
    refine Ev_iald rfl rfl (show i < 12 by omega) (Nat.le_of_ble_eq_true rfl) ?_
    refine Ev.ret (v := some (.int (nI (g 15 i)))) rfl ?_
    unfold factS at hq
    (repeat (first | rw [if_pos (by omega)] at hq | rw [if_neg (by omega)] at hq))
    first | exact hq | (rw [hB.2.2.2.1 i (by omega)]; exact hq) | (rw [hB.2.1 i (by omega)]; exact hq) | (have h1 := hs1 i hi; unfold atLn; rw [hB.2.1 i (by omega), if_pos (by omega), hB.2.2.1 i 0 (by omega) (by omega)]; exact hq)
  by_cases hs1_4 : f = 4
  · refine Ev.topI (congrArg nI hs1_4) ?_
    refine Ev.run 4 (pc' := 63) (lv' := [(0, .int (nI f)), (1, .ref (60 + 2 * p)), (2, .ref 13), (3, .int (nI i))]) (st' := [.int (nI i), .ref 14]) (h' := HN g hl (RF rt)) rfl ?_
    refine Ev_aald (c := (19 + 2 * i)) rfl (by decide) rfl (show i < 12 by omega) (Nat.le_of_ble_eq_true rfl) (rf_line rt i (by omega)).2 ?_
    refine Ev_gfI rfl rfl rfl (LnW rt (show i < 12 by omega)).1 ?_
    refine Ev.ret (v := some (.int (nI (g (19 + 2 * i) 1)))) rfl ?_
    unfold factS at hq
    (repeat (first | rw [if_pos (by omega)] at hq | rw [if_neg (by omega)] at hq))
    first | exact hq | (rw [hB.2.2.2.1 i (by omega)]; exact hq) | (rw [hB.2.1 i (by omega)]; exact hq) | (have h1 := hs1 i hi; unfold atLn; rw [hB.2.1 i (by omega), if_pos (by omega), hB.2.2.1 i 0 (by omega) (by omega)]; exact hq)
  refine Ev_tsOut (tgt := 68) rfl (sw_out (x := f) (hi := 4) (by omega) (by omega) (by omega)) rfl ?_
  refine Ev.run 3 (pc' := 73) (lv' := [(0, .int (nI f)), (1, .ref (60 + 2 * p)), (2, .ref 13), (3, .int (nI i))]) (st' := [.int (nI i), .ref 14]) (h' := HN g hl (RF rt)) rfl ?_
  refine Ev_aald (c := (19 + 2 * i)) rfl (by decide) rfl (show i < 12 by omega) (Nat.le_of_ble_eq_true rfl) (rf_line rt i (by omega)).2 ?_
  refine Ev.run 1 (pc' := 75) (lv' := [(0, .int (nI f)), (1, .ref (60 + 2 * p)), (2, .ref 13), (3, .int (nI i))]) (st' := [.int (nI 0), .ref (19 + 2 * i)]) (h' := HN g hl (RF rt)) rfl ?_
  refine Ev_callV (a := 44) (as := [.ref (19 + 2 * i), .int (nI 0)]) (rest := []) (lv0 := [(0, .ref (19 + 2 * i)), (1, .int (nI 0))]) (Q1 := (fun z0 h' => z0 = some (.int (nI (atLn g (19 + 2 * i) 0))) ∧ h' = HN g hl (RF rt))) rfl rfl rfl rfl rfl (LnW rt (show i < 12 by omega)).1.k rfl rfl rfl (K_at _ _ _ _ (19 + 2 * i) 6 (LnW rt (by omega)) 0 (by omega) (by rw [hB.2.1 i (by omega)]; exact hsz i (by omega)) ⟨rfl, rfl⟩) (fun r h' hr => ?_)
  obtain ⟨rfl, rfl⟩ := hr
  refine Ev.ret (v := some (.int (nI (atLn g (19 + 2 * i) 0)))) rfl ?_
  unfold factS at hq
  (repeat (first | rw [if_pos (by omega)] at hq | rw [if_neg (by omega)] at hq))
  first | exact hq | (rw [hB.2.2.2.1 i (by omega)]; exact hq) | (rw [hB.2.1 i (by omega)]; exact hq) | (have h1 := hs1 i hi; unfold atLn; rw [hB.2.1 i (by omega), if_pos (by omega), hB.2.2.1 i 0 (by omega) (by omega)]; exact hq)
theorem K_passing {L : Nat} {xs : Nat → Int32} (d : Nat) (g : Nat → Nat → Nat) (hl : Nat → Nat → Int64) (rt : Nat × Nat × Nat × Nat) (hV : Inv g hl rt) (f rr n t : Nat) (p : Nat) (hp : p < g 166 6) (hf : f ≤ 9) (hrr : rr ≤ 2) (hn : n ≤ 99) (ht : t = 1000 * f + 100 * rr + n)  {Q : Po} (hq : Q (some (.int (nI (tsS g p t)))) (HN g hl (RF rt))) : Ev L xs (d + 2) 68 0 [(0, .int (nI ((f * 3 + rr) * 100 + n))), (1, .ref (60 + 2 * p)), (2, .ref 13)] [] (HN g hl (RF rt)) Q := by
  have hI := hV.mi
  have hW := hI.hW
  have hS := hI.hS
  have hPl := hI.hPl
  have hNx := hI.hNx
  have hLa := hI.hLa
  have hLo := hI.hLo
  have hTb := hI.hTb
  have hTh := hI.hTh
  have hFd := hI.hFd
  have hSn := hI.hSn
  have hSh := hI.hSh
  have hRan := hI.hRan
  have hLr := hI.hLr
  have hLt := hI.hLt
  have hgl := hI.hgl
  have hsz := hI.hsz
  have hcm := hI.hcm
  have hsl := hI.hsl
  have hkd := hI.hkd
  have hvv := hI.hvv
  have hli := hI.hli
  have hro := hI.hro
  have hrw := hI.hrw
  have htx := hI.htx
  have hsw := hI.hsw
  have hsx := hI.hsx
  have hsy := hI.hsy
  have hsh := hI.hsh
  have hle := hI.hle
  have hcl := hI.hcl
  have hwd := hI.hwd
  have hnu := hI.hnu
  have hwn := hI.hwn
  have hs1 := hI.hs1
  have hso := hI.hso
  have hB := hV.gm.cb
  have hB0 := hB.1
  have hPs := hV.gm.cs
  have hsp1 := hV.sp.1
  have htx1 := hV.tx.1
  have h451 := hV.gm.rx.1
  have h442 := hV.gm.rx.2.2.2.1
  have h443 := hV.gm.rx.2.2.2.2
  have h481 := hV.gm.l48.1
  have h501 := hV.gm.l50.1
  have h521 := hV.gm.l52.1
  have h541 := hV.gm.l54.1
  have h04 := hV.tb.1
  have hac1 := hV.ac.1
  have hac2 := hV.ac.2.1
  have hPl0 := hV.gm.cp
  refine Ev.run 2 (pc' := 3) (lv' := [(0, .int (nI ((f * 3 + rr) * 100 + n))), (1, .ref (60 + 2 * p)), (2, .ref 13)]) (st' := [.int (nI 100), .int (nI ((f * 3 + rr) * 100 + n))]) (h' := HN g hl (RF rt)) rfl ?_
  refine Ev_idiv rfl (by omega) (by omega) (by omega) ?_
  refine Ev.run 1 (pc' := 5) (lv' := [(0, .int (nI ((f * 3 + rr) * 100 + n))), (1, .ref (60 + 2 * p)), (2, .ref 13)]) (st' := [.int (nI 3), .int (nI (((f * 3 + rr) * 100 + n) / 100))]) (h' := HN g hl (RF rt)) rfl ?_
  refine Ev_irem rfl (by omega) (by omega) (by omega) ?_
  refine Ev.run 3 (pc' := 10) (lv' := [(3, .int (nI ((((f * 3 + rr) * 100 + n) / 100) % 3))), (0, .int (nI ((f * 3 + rr) * 100 + n))), (1, .ref (60 + 2 * p)), (2, .ref 13)]) (st' := [.int (nI 100), .int (nI ((f * 3 + rr) * 100 + n))]) (h' := HN g hl (RF rt)) rfl ?_
  refine Ev_irem rfl (by omega) (by omega) (by omega) ?_
  refine Ev.run 5 (pc' := 19) (lv' := [(6, .int (nI 0)), (5, .int (nI 0)), (4, .int (nI (((f * 3 + rr) * 100 + n) % 100))), (3, .int (nI ((((f * 3 + rr) * 100 + n) / 100) % 3))), (0, .int (nI ((f * 3 + rr) * 100 + n))), (1, .ref (60 + 2 * p)), (2, .ref 13)]) (st' := []) (h' := HN g hl (RF rt)) rfl ?_
  refine Ev.lvE (show _ = [(6, .int (nI 0)), (5, .int (nI (bset (fun i => tstS (factS g f p i) t) 0))), (4, .int (nI n)), (3, .int (nI rr)), (0, .int (nI ((f * 3 + rr) * 100 + n))), (1, .ref (60 + 2 * p)), (2, .ref 13)] by rw [show ((f * 3 + rr) * 100 + n) / 100 % 3 = rr by omega, show ((f * 3 + rr) * 100 + n) % 100 = n by omega]; rfl) ?_
  refine for_ind (g 166 0) (fun k => Ev L xs (d + 2) 68 19 [(6, .int (nI k)), (5, .int (nI (bset (fun i => tstS (factS g f p i) t) k))), (4, .int (nI n)), (3, .int (nI rr)), (0, .int (nI ((f * 3 + rr) * 100 + n))), (1, .ref (60 + 2 * p)), (2, .ref 13)] [] (HN g hl (RF rt)) Q) (fun k hk hnext => ?_) 0 (Nat.zero_le _)
  refine Ev.run 4 (pc' := (if nI (g 13 5) ≤ nI k then 115 else 28)) (lv' := [(6, .int (nI k)), (5, .int (nI (bset (fun i => tstS (factS g f p i) t) k))), (4, .int (nI n)), (3, .int (nI rr)), (0, .int (nI ((f * 3 + rr) * 100 + n))), (1, .ref (60 + 2 * p)), (2, .ref 13)]) (st' := []) (h' := HN g hl (RF rt)) rfl ?_
  refine Ev.ite (fun hc25 => ?_) (fun hc25 => ?_)
  · have hc25 : (g 13 5) ≤ k := (nI_leI (by omega) (by omega)).mp hc25
    refine Ev.run 1 (pc' := 117) (lv' := [(6, .int (nI k)), (5, .int (nI (bset (fun i => tstS (factS g f p i) t) k))), (4, .int (nI n)), (3, .int (nI rr)), (0, .int (nI ((f * 3 + rr) * 100 + n))), (1, .ref (60 + 2 * p)), (2, .ref 13)]) (st' := [.int (nI (bset (fun i => tstS (factS g f p i) t) k))]) (h' := HN g hl (RF rt)) rfl ?_
    refine Ev.ret (v := some (.int (nI (bset (fun i => tstS (factS g f p i) t) k)))) rfl ?_
    have hkn : k = g 166 0 := by omega
    rw [hkn]
    unfold tsS at hq
    rw [show t / 1000 = f by omega] at hq
    exact hq
  · have hc25 : ¬ ((g 13 5) ≤ k) := fun z => hc25 ((nI_leI (by omega) (by omega)).mpr z)
    refine Ev.run 2 (pc' := 32) (lv' := [(6, .int (nI k)), (5, .int (nI (bset (fun i => tstS (factS g f p i) t) k))), (4, .int (nI n)), (3, .int (nI rr)), (0, .int (nI ((f * 3 + rr) * 100 + n))), (1, .ref (60 + 2 * p)), (2, .ref 13)]) (st' := [.int (nI 300), .int (nI ((f * 3 + rr) * 100 + n))]) (h' := HN g hl (RF rt)) rfl ?_
    refine Ev_idiv rfl (by omega) (by omega) (by omega) ?_
    refine Ev.run 3 (pc' := 37) (lv' := [(6, .int (nI k)), (5, .int (nI (bset (fun i => tstS (factS g f p i) t) k))), (4, .int (nI n)), (3, .int (nI rr)), (0, .int (nI ((f * 3 + rr) * 100 + n))), (1, .ref (60 + 2 * p)), (2, .ref 13)]) (st' := [.int (nI k), .ref 13, .ref (60 + 2 * p), .int (nI (((f * 3 + rr) * 100 + n) / 300))]) (h' := HN g hl (RF rt)) rfl ?_
    refine Ev.call (a := 69) (as := [.int (nI (((f * 3 + rr) * 100 + n) / 300)), .ref (60 + 2 * p), .ref 13, .int (nI k)]) (rest := []) (lv0 := [(0, .int (nI (((f * 3 + rr) * 100 + n) / 300))), (1, .ref (60 + 2 * p)), (2, .ref 13), (3, .int (nI k))]) (Q1 := (fun z0 h' => z0 = some (.int (nI (factS g f p k))) ∧ h' = HN g hl (RF rt))) rfl rfl (by rw [show ((f * 3 + rr) * 100 + n) / 300 = f by omega]; exact K_subject _ _ _ _ hV f k p hp hf (by omega) ⟨rfl, rfl⟩) (fun r h' hr => ?_)
    obtain ⟨rfl, rfl⟩ := hr
    have hfa := factS_le hI (f := f) (p := p) (i := k) (by omega) (by omega)
    refine Ev.run 3 (pc' := (if nI rr = 0 then 46 else 61)) (lv' := [(7, .int (nI (factS g f p k))), (6, .int (nI k)), (5, .int (nI (bset (fun i => tstS (factS g f p i) t) k))), (4, .int (nI n)), (3, .int (nI rr)), (0, .int (nI ((f * 3 + rr) * 100 + n))), (1, .ref (60 + 2 * p)), (2, .ref 13)]) (st' := []) (h' := HN g hl (RF rt)) rfl ?_
    refine Ev.ite (fun hc43 => ?_) (fun hc43 => ?_)
    · have hc43 : rr = 0 := (nI_eqU0 (by omega)).mp hc43
      refine Ev.run 3 (pc' := (if nI n ≤ nI (factS g f p k) then 57 else 53)) (lv' := [(7, .int (nI (factS g f p k))), (6, .int (nI k)), (5, .int (nI (bset (fun i => tstS (factS g f p i) t) k))), (4, .int (nI n)), (3, .int (nI rr)), (0, .int (nI ((f * 3 + rr) * 100 + n))), (1, .ref (60 + 2 * p)), (2, .ref 13)]) (st' := []) (h' := HN g hl (RF rt)) rfl ?_
      refine Ev.ite (fun hc50 => ?_) (fun hc50 => ?_)
      · have hc50 : n ≤ (factS g f p k) := (nI_leI (by omega) (by omega)).mp hc50
        refine Ev.run 6 (pc' := 112) (lv' := [(6, .int (nI k + 1)), (8, .int (nI 0)), (7, .int (nI (factS g f p k))), (5, .int (nI (bset (fun i => tstS (factS g f p i) t) k))), (4, .int (nI n)), (3, .int (nI rr)), (0, .int (nI ((f * 3 + rr) * 100 + n))), (1, .ref (60 + 2 * p)), (2, .ref 13)]) (st' := []) (h' := HN g hl (RF rt)) rfl ?_
        refine Ev.lvE (congrArg (fun z => (6, Value.int z) :: [(8, .int (nI 0)), (7, .int (nI (factS g f p k))), (5, .int (nI (bset (fun i => tstS (factS g f p i) t) k))), (4, .int (nI n)), (3, .int (nI rr)), (0, .int (nI ((f * 3 + rr) * 100 + n))), (1, .ref (60 + 2 * p)), (2, .ref 13)]) (nI_1 _)) ?_
        refine Ev.run 1 (pc' := 19) (lv' := [(6, .int (nI (k + 1))), (8, .int (nI 0)), (7, .int (nI (factS g f p k))), (5, .int (nI (bset (fun i => tstS (factS g f p i) t) k))), (4, .int (nI n)), (3, .int (nI rr)), (0, .int (nI ((f * 3 + rr) * 100 + n))), (1, .ref (60 + 2 * p)), (2, .ref 13)]) (st' := []) (h' := HN g hl (RF rt)) rfl ?_
        have hx := hnext (by omega)
        rw [bset_se (p := (fun i => tstS (factS g f p i) t)) (by show tstS (factS g f p k) t = false; rw [tstS_c hrr hn ht]; (repeat (first | rw [if_pos (by omega)] | rw [if_neg (by omega)])); simp <;> omega)] at hx
        exact Ev.wk (Ext.cons rfl rfl (Ext.cons rfl rfl (Ext.cons rfl rfl (Ext.cons rfl rfl (Ext.cons rfl rfl (Ext.cons rfl rfl (Ext.cons rfl rfl (Ext.nil rfl)))))))) hx
      · have hc50 : ¬ (n ≤ (factS g f p k)) := fun z => hc50 ((nI_leI (by omega) (by omega)).mpr z)
        refine Ev.run 9 (pc' := 106) (lv' := [(8, .int (nI 1)), (7, .int (nI (factS g f p k))), (6, .int (nI k)), (5, .int (nI (bset (fun i => tstS (factS g f p i) t) k))), (4, .int (nI n)), (3, .int (nI rr)), (0, .int (nI ((f * 3 + rr) * 100 + n))), (1, .ref (60 + 2 * p)), (2, .ref 13)]) (st' := [.int (nI 1 <<< (nI k &&& 31)), .int (nI (bset (fun i => tstS (factS g f p i) t) k))]) (h' := HN g hl (RF rt)) rfl ?_
        refine Ev.topI (nI_shl (by omega)) ?_
        refine Ev.run 1 (pc' := 107) (lv' := [(8, .int (nI 1)), (7, .int (nI (factS g f p k))), (6, .int (nI k)), (5, .int (nI (bset (fun i => tstS (factS g f p i) t) k))), (4, .int (nI n)), (3, .int (nI rr)), (0, .int (nI ((f * 3 + rr) * 100 + n))), (1, .ref (60 + 2 * p)), (2, .ref 13)]) (st' := [.int (nI (bset (fun i => tstS (factS g f p i) t) k) ||| nI (nSh 1 k))]) (h' := HN g hl (RF rt)) rfl ?_
        refine Ev.topI (nIo _ _) ?_
        refine Ev.run 2 (pc' := 112) (lv' := [(6, .int (nI k + 1)), (5, .int (nI ((bset (fun i => tstS (factS g f p i) t) k) ||| (nSh 1 k)))), (8, .int (nI 1)), (7, .int (nI (factS g f p k))), (4, .int (nI n)), (3, .int (nI rr)), (0, .int (nI ((f * 3 + rr) * 100 + n))), (1, .ref (60 + 2 * p)), (2, .ref 13)]) (st' := []) (h' := HN g hl (RF rt)) rfl ?_
        refine Ev.lvE (congrArg (fun z => (6, Value.int z) :: [(5, .int (nI ((bset (fun i => tstS (factS g f p i) t) k) ||| (nSh 1 k)))), (8, .int (nI 1)), (7, .int (nI (factS g f p k))), (4, .int (nI n)), (3, .int (nI rr)), (0, .int (nI ((f * 3 + rr) * 100 + n))), (1, .ref (60 + 2 * p)), (2, .ref 13)]) (nI_1 _)) ?_
        refine Ev.run 1 (pc' := 19) (lv' := [(6, .int (nI (k + 1))), (5, .int (nI ((bset (fun i => tstS (factS g f p i) t) k) ||| (nSh 1 k)))), (8, .int (nI 1)), (7, .int (nI (factS g f p k))), (4, .int (nI n)), (3, .int (nI rr)), (0, .int (nI ((f * 3 + rr) * 100 + n))), (1, .ref (60 + 2 * p)), (2, .ref 13)]) (st' := []) (h' := HN g hl (RF rt)) rfl ?_
        have hx := hnext (by omega)
        rw [bset_s1 (p := (fun i => tstS (factS g f p i) t)) (by show tstS (factS g f p k) t = true; rw [tstS_c hrr hn ht]; (repeat (first | rw [if_pos (by omega)] | rw [if_neg (by omega)])); simp <;> omega)] at hx
        exact Ev.wk (Ext.cons rfl rfl (Ext.cons rfl rfl (Ext.cons rfl rfl (Ext.cons rfl rfl (Ext.cons rfl rfl (Ext.cons rfl rfl (Ext.cons rfl rfl (Ext.nil rfl)))))))) hx
    · have hc43 : ¬ (rr = 0) := fun z => hc43 ((nI_eqU0 (by omega)).mpr z)
      refine Ev.run 3 (pc' := (if nI rr = nI 1 then 66 else 81)) (lv' := [(7, .int (nI (factS g f p k))), (6, .int (nI k)), (5, .int (nI (bset (fun i => tstS (factS g f p i) t) k))), (4, .int (nI n)), (3, .int (nI rr)), (0, .int (nI ((f * 3 + rr) * 100 + n))), (1, .ref (60 + 2 * p)), (2, .ref 13)]) (st' := []) (h' := HN g hl (RF rt)) rfl ?_
      refine Ev.ite (fun hc63 => ?_) (fun hc63 => ?_)
      · have hc63 : rr = 1 := (nI_eqU (by omega) (by omega)).mp hc63
        refine Ev.run 3 (pc' := (if nI (factS g f p k) = nI n then 73 else 77)) (lv' := [(7, .int (nI (factS g f p k))), (6, .int (nI k)), (5, .int (nI (bset (fun i => tstS (factS g f p i) t) k))), (4, .int (nI n)), (3, .int (nI rr)), (0, .int (nI ((f * 3 + rr) * 100 + n))), (1, .ref (60 + 2 * p)), (2, .ref 13)]) (st' := []) (h' := HN g hl (RF rt)) rfl ?_
        refine Ev.ite (fun hc70 => ?_) (fun hc70 => ?_)
        · have hc70 : (factS g f p k) = n := (nI_eqU (by omega) (by omega)).mp hc70
          refine Ev.run 9 (pc' := 106) (lv' := [(8, .int (nI 1)), (7, .int (nI (factS g f p k))), (6, .int (nI k)), (5, .int (nI (bset (fun i => tstS (factS g f p i) t) k))), (4, .int (nI n)), (3, .int (nI rr)), (0, .int (nI ((f * 3 + rr) * 100 + n))), (1, .ref (60 + 2 * p)), (2, .ref 13)]) (st' := [.int (nI 1 <<< (nI k &&& 31)), .int (nI (bset (fun i => tstS (factS g f p i) t) k))]) (h' := HN g hl (RF rt)) rfl ?_
          refine Ev.topI (nI_shl (by omega)) ?_
          refine Ev.run 1 (pc' := 107) (lv' := [(8, .int (nI 1)), (7, .int (nI (factS g f p k))), (6, .int (nI k)), (5, .int (nI (bset (fun i => tstS (factS g f p i) t) k))), (4, .int (nI n)), (3, .int (nI rr)), (0, .int (nI ((f * 3 + rr) * 100 + n))), (1, .ref (60 + 2 * p)), (2, .ref 13)]) (st' := [.int (nI (bset (fun i => tstS (factS g f p i) t) k) ||| nI (nSh 1 k))]) (h' := HN g hl (RF rt)) rfl ?_
          refine Ev.topI (nIo _ _) ?_
          refine Ev.run 2 (pc' := 112) (lv' := [(6, .int (nI k + 1)), (5, .int (nI ((bset (fun i => tstS (factS g f p i) t) k) ||| (nSh 1 k)))), (8, .int (nI 1)), (7, .int (nI (factS g f p k))), (4, .int (nI n)), (3, .int (nI rr)), (0, .int (nI ((f * 3 + rr) * 100 + n))), (1, .ref (60 + 2 * p)), (2, .ref 13)]) (st' := []) (h' := HN g hl (RF rt)) rfl ?_
          refine Ev.lvE (congrArg (fun z => (6, Value.int z) :: [(5, .int (nI ((bset (fun i => tstS (factS g f p i) t) k) ||| (nSh 1 k)))), (8, .int (nI 1)), (7, .int (nI (factS g f p k))), (4, .int (nI n)), (3, .int (nI rr)), (0, .int (nI ((f * 3 + rr) * 100 + n))), (1, .ref (60 + 2 * p)), (2, .ref 13)]) (nI_1 _)) ?_
          refine Ev.run 1 (pc' := 19) (lv' := [(6, .int (nI (k + 1))), (5, .int (nI ((bset (fun i => tstS (factS g f p i) t) k) ||| (nSh 1 k)))), (8, .int (nI 1)), (7, .int (nI (factS g f p k))), (4, .int (nI n)), (3, .int (nI rr)), (0, .int (nI ((f * 3 + rr) * 100 + n))), (1, .ref (60 + 2 * p)), (2, .ref 13)]) (st' := []) (h' := HN g hl (RF rt)) rfl ?_
          have hx := hnext (by omega)
          rw [bset_s1 (p := (fun i => tstS (factS g f p i) t)) (by show tstS (factS g f p k) t = true; rw [tstS_c hrr hn ht]; (repeat (first | rw [if_pos (by omega)] | rw [if_neg (by omega)])); simp <;> omega)] at hx
          exact Ev.wk (Ext.cons rfl rfl (Ext.cons rfl rfl (Ext.cons rfl rfl (Ext.cons rfl rfl (Ext.cons rfl rfl (Ext.cons rfl rfl (Ext.cons rfl rfl (Ext.nil rfl)))))))) hx
        · have hc70 : ¬ ((factS g f p k) = n) := fun z => hc70 ((nI_eqU (by omega) (by omega)).mpr z)
          refine Ev.run 6 (pc' := 112) (lv' := [(6, .int (nI k + 1)), (8, .int (nI 0)), (7, .int (nI (factS g f p k))), (5, .int (nI (bset (fun i => tstS (factS g f p i) t) k))), (4, .int (nI n)), (3, .int (nI rr)), (0, .int (nI ((f * 3 + rr) * 100 + n))), (1, .ref (60 + 2 * p)), (2, .ref 13)]) (st' := []) (h' := HN g hl (RF rt)) rfl ?_
          refine Ev.lvE (congrArg (fun z => (6, Value.int z) :: [(8, .int (nI 0)), (7, .int (nI (factS g f p k))), (5, .int (nI (bset (fun i => tstS (factS g f p i) t) k))), (4, .int (nI n)), (3, .int (nI rr)), (0, .int (nI ((f * 3 + rr) * 100 + n))), (1, .ref (60 + 2 * p)), (2, .ref 13)]) (nI_1 _)) ?_
          refine Ev.run 1 (pc' := 19) (lv' := [(6, .int (nI (k + 1))), (8, .int (nI 0)), (7, .int (nI (factS g f p k))), (5, .int (nI (bset (fun i => tstS (factS g f p i) t) k))), (4, .int (nI n)), (3, .int (nI rr)), (0, .int (nI ((f * 3 + rr) * 100 + n))), (1, .ref (60 + 2 * p)), (2, .ref 13)]) (st' := []) (h' := HN g hl (RF rt)) rfl ?_
          have hx := hnext (by omega)
          rw [bset_se (p := (fun i => tstS (factS g f p i) t)) (by show tstS (factS g f p k) t = false; rw [tstS_c hrr hn ht]; (repeat (first | rw [if_pos (by omega)] | rw [if_neg (by omega)])); simp <;> omega)] at hx
          exact Ev.wk (Ext.cons rfl rfl (Ext.cons rfl rfl (Ext.cons rfl rfl (Ext.cons rfl rfl (Ext.cons rfl rfl (Ext.cons rfl rfl (Ext.cons rfl rfl (Ext.nil rfl)))))))) hx
      · have hc63 : ¬ (rr = 1) := fun z => hc63 ((nI_eqU (by omega) (by omega)).mpr z)
        refine Ev.run 3 (pc' := (if nI (factS g f p k) ≤ nI n then 92 else 88)) (lv' := [(7, .int (nI (factS g f p k))), (6, .int (nI k)), (5, .int (nI (bset (fun i => tstS (factS g f p i) t) k))), (4, .int (nI n)), (3, .int (nI rr)), (0, .int (nI ((f * 3 + rr) * 100 + n))), (1, .ref (60 + 2 * p)), (2, .ref 13)]) (st' := []) (h' := HN g hl (RF rt)) rfl ?_
        refine Ev.ite (fun hc85 => ?_) (fun hc85 => ?_)
        · have hc85 : (factS g f p k) ≤ n := (nI_leI (by omega) (by omega)).mp hc85
          refine Ev.run 5 (pc' := 112) (lv' := [(6, .int (nI k + 1)), (8, .int (nI 0)), (7, .int (nI (factS g f p k))), (5, .int (nI (bset (fun i => tstS (factS g f p i) t) k))), (4, .int (nI n)), (3, .int (nI rr)), (0, .int (nI ((f * 3 + rr) * 100 + n))), (1, .ref (60 + 2 * p)), (2, .ref 13)]) (st' := []) (h' := HN g hl (RF rt)) rfl ?_
          refine Ev.lvE (congrArg (fun z => (6, Value.int z) :: [(8, .int (nI 0)), (7, .int (nI (factS g f p k))), (5, .int (nI (bset (fun i => tstS (factS g f p i) t) k))), (4, .int (nI n)), (3, .int (nI rr)), (0, .int (nI ((f * 3 + rr) * 100 + n))), (1, .ref (60 + 2 * p)), (2, .ref 13)]) (nI_1 _)) ?_
          refine Ev.run 1 (pc' := 19) (lv' := [(6, .int (nI (k + 1))), (8, .int (nI 0)), (7, .int (nI (factS g f p k))), (5, .int (nI (bset (fun i => tstS (factS g f p i) t) k))), (4, .int (nI n)), (3, .int (nI rr)), (0, .int (nI ((f * 3 + rr) * 100 + n))), (1, .ref (60 + 2 * p)), (2, .ref 13)]) (st' := []) (h' := HN g hl (RF rt)) rfl ?_
          have hx := hnext (by omega)
          rw [bset_se (p := (fun i => tstS (factS g f p i) t)) (by show tstS (factS g f p k) t = false; rw [tstS_c hrr hn ht]; (repeat (first | rw [if_pos (by omega)] | rw [if_neg (by omega)])); simp <;> omega)] at hx
          exact Ev.wk (Ext.cons rfl rfl (Ext.cons rfl rfl (Ext.cons rfl rfl (Ext.cons rfl rfl (Ext.cons rfl rfl (Ext.cons rfl rfl (Ext.cons rfl rfl (Ext.nil rfl)))))))) hx
        · have hc85 : ¬ ((factS g f p k) ≤ n) := fun z => hc85 ((nI_leI (by omega) (by omega)).mpr z)
          refine Ev.run 9 (pc' := 106) (lv' := [(8, .int (nI 1)), (7, .int (nI (factS g f p k))), (6, .int (nI k)), (5, .int (nI (bset (fun i => tstS (factS g f p i) t) k))), (4, .int (nI n)), (3, .int (nI rr)), (0, .int (nI ((f * 3 + rr) * 100 + n))), (1, .ref (60 + 2 * p)), (2, .ref 13)]) (st' := [.int (nI 1 <<< (nI k &&& 31)), .int (nI (bset (fun i => tstS (factS g f p i) t) k))]) (h' := HN g hl (RF rt)) rfl ?_
          refine Ev.topI (nI_shl (by omega)) ?_
          refine Ev.run 1 (pc' := 107) (lv' := [(8, .int (nI 1)), (7, .int (nI (factS g f p k))), (6, .int (nI k)), (5, .int (nI (bset (fun i => tstS (factS g f p i) t) k))), (4, .int (nI n)), (3, .int (nI rr)), (0, .int (nI ((f * 3 + rr) * 100 + n))), (1, .ref (60 + 2 * p)), (2, .ref 13)]) (st' := [.int (nI (bset (fun i => tstS (factS g f p i) t) k) ||| nI (nSh 1 k))]) (h' := HN g hl (RF rt)) rfl ?_
          refine Ev.topI (nIo _ _) ?_
          refine Ev.run 2 (pc' := 112) (lv' := [(6, .int (nI k + 1)), (5, .int (nI ((bset (fun i => tstS (factS g f p i) t) k) ||| (nSh 1 k)))), (8, .int (nI 1)), (7, .int (nI (factS g f p k))), (4, .int (nI n)), (3, .int (nI rr)), (0, .int (nI ((f * 3 + rr) * 100 + n))), (1, .ref (60 + 2 * p)), (2, .ref 13)]) (st' := []) (h' := HN g hl (RF rt)) rfl ?_
          refine Ev.lvE (congrArg (fun z => (6, Value.int z) :: [(5, .int (nI ((bset (fun i => tstS (factS g f p i) t) k) ||| (nSh 1 k)))), (8, .int (nI 1)), (7, .int (nI (factS g f p k))), (4, .int (nI n)), (3, .int (nI rr)), (0, .int (nI ((f * 3 + rr) * 100 + n))), (1, .ref (60 + 2 * p)), (2, .ref 13)]) (nI_1 _)) ?_
          refine Ev.run 1 (pc' := 19) (lv' := [(6, .int (nI (k + 1))), (5, .int (nI ((bset (fun i => tstS (factS g f p i) t) k) ||| (nSh 1 k)))), (8, .int (nI 1)), (7, .int (nI (factS g f p k))), (4, .int (nI n)), (3, .int (nI rr)), (0, .int (nI ((f * 3 + rr) * 100 + n))), (1, .ref (60 + 2 * p)), (2, .ref 13)]) (st' := []) (h' := HN g hl (RF rt)) rfl ?_
          have hx := hnext (by omega)
          rw [bset_s1 (p := (fun i => tstS (factS g f p i) t)) (by show tstS (factS g f p k) t = true; rw [tstS_c hrr hn ht]; (repeat (first | rw [if_pos (by omega)] | rw [if_neg (by omega)])); simp <;> omega)] at hx
          exact Ev.wk (Ext.cons rfl rfl (Ext.cons rfl rfl (Ext.cons rfl rfl (Ext.cons rfl rfl (Ext.cons rfl rfl (Ext.cons rfl rfl (Ext.cons rfl rfl (Ext.nil rfl)))))))) hx
/-- a stack of sets, its bottom at place 0 -/
def plN (w : Nat → Nat) (S : List Nat) : Prop := ∀ j, j < S.length → w j = S.getD (S.length - 1 - j) 0
theorem plN.push {w : Nat → Nat} {S : List Nat} (h : plN w S) (x : Nat) : plN (up w S.length x) (x :: S) := fun j hj => by
  have hj : j < S.length + 1 := hj
  show up w S.length x j = (x :: S).getD (S.length + 1 - 1 - j) 0
  unfold up
  by_cases e : j = S.length
  · rw [if_pos e, e, show S.length + 1 - 1 - S.length = 0 by omega]; rfl
  · rw [if_neg e, h j (by omega), show S.length + 1 - 1 - j = (S.length - 1 - j) + 1 by omega]
    rfl
theorem plN.tail {w : Nat → Nat} {b : Nat} {S : List Nat} (h : plN w (b :: S)) : plN w S := fun j hj => by
  have h1 := h j (by show j < S.length + 1; omega)
  rw [h1, show (b :: S).length - 1 - j = (S.length - 1 - j) + 1 by show S.length + 1 - 1 - j = _; omega]
  rfl
theorem plN.top {w : Nat → Nat} {b : Nat} {S : List Nat} (h : plN w (b :: S)) : w S.length = b := by
  have h1 := h S.length (Nat.lt_succ_self _)
  rw [h1, show (b :: S).length - 1 - S.length = 0 by show S.length + 1 - 1 - S.length = 0; omega]
  rfl
theorem Fr.opw (g : Nat → Nat → Nat) {c n t : Nat} (h : THo n t c) (hn : n ≤ 6) (w : Nat → Nat) : Fr g (ur g (c + 2) w) := by
  have hc : c = 56 ∨ ∃ i, i < 6 ∧ c = 136 + 3 * i := by
    rcases h with ⟨_, h⟩ | ⟨h1, h2⟩
    · exact Or.inl h
    · exact Or.inr ⟨t, by omega, h2⟩
  have hx : ∀ a, okC a ∨ a = 166 ∨ a = 173 ∨ a = 175 → ur g (c + 2) w a = g a := fun a ha => by
    unfold ur
    funext b
    rw [if_neg]
    intro z
    unfold okC at ha
    rcases hc with hc | ⟨i, h1, h2⟩
    · omega
    · omega
  exact ⟨fun a ha => hx a (Or.inl ha), fun j _ _ _ _ _ _ _ => by rw [hx 166 (by omega)], fun b _ => by rw [hx 173 (by omega)], fun k _ => by rw [hx 175 (by omega)]⟩
theorem Inv.opw {g : Nat → Nat → Nat} {hl : Nat → Nat → Int64} {rt : Nat × Nat × Nat × Nat} (h : Inv g hl rt) (w : Nat → Nat) : Inv (ur g (rt.2.2.1 + 2) w) hl rt := by
  have hc := (h.th.kc h.mi.hTb).2
  refine h.fr (Fr.opw g h.th h.mi.hTb w) ((Em.ownr g (by omega) w).mI h.mi) (fun j hj => ?_) (fun j hj => ?_)
  · unfold ur
    rw [if_neg (by omega)]
    exact h.k59 j hj
  · unfold ur
    rw [if_neg (by omega)]
    exact h.k18 j hj
theorem THo.rf {n t c : Nat} (rt : Nat × Nat × Nat × Nat) (h : THo n t c) (hn : n ≤ 6) : RF rt c 0 = some (c + 1) ∧ RF rt c 1 = some (c + 2) ∧ KC (c + 1) 11 100 ∧ KC (c + 2) 11 20 := by
  rcases h with ⟨_, rfl⟩ | ⟨h1, rfl⟩
  · exact ⟨rfl, rfl, ⟨by decide, rfl⟩, ⟨by decide, rfl⟩⟩
  · rcases (show t = 0 ∨ t = 1 ∨ t = 2 ∨ t = 3 ∨ t = 4 ∨ t = 5 by omega) with rfl | rfl | rfl | rfl | rfl | rfl <;> exact ⟨rfl, rfl, ⟨by decide, rfl⟩, ⟨by decide, rfl⟩⟩
/-- the steps of the table that holds -/
theorem TbE.st {g : Nat → Nat → Nat} (h : TbE g) {c : Nat} (ht : THo (g 166 15) (g 166 16) c) (hm : MI g) : g c 2 = (kcL g (fC g) (nC g)).length ∧ (kcL g (fC g) (nC g)).length ≤ 100 ∧ (∀ k, k < (kcL g (fC g) (nC g)).length → g (c + 1) k = trS ((kcL g (fC g) (nC g)).getD k 0)) ∧ ∀ t ∈ kcL g (fC g) (nC g), t < 6000 → t / 100 % 10 ≤ 2 := by
  have h15 := hm.hTb
  unfold fC nC
  rcases ht with ⟨a, rfl⟩ | ⟨a, rfl⟩
  · rw [if_neg (by omega), if_neg (by omega)]
    exact ⟨h.2.1.1, Nat.zero_le _, fun k hk => absurd hk (Nat.not_lt_zero _), fun t ht => by cases ht⟩
  · rw [if_pos (by omega), if_pos (by omega)]
    exact (h.2.2 _ a).2.2
theorem ur_at (g : Nat → Nat → Nat) (k : Nat) (w : Nat → Nat) (j : Nat) : ur g k w k j = w j := by unfold ur; rw [if_pos rfl]
theorem KN_test {L : Nat} {xs : Nat → Int32} (d : Nat) (g : Nat → Nat → Nat) (hl : Nat → Nat → Int64) (rt : Nat × Nat × Nat × Nat) (w : Nat → Nat) (p : Nat) (hp : p < g 166 6) (c c1 c2 : Nat) (hkc : KC c 7 5) (hk1 : KC c1 11 100) (hk2 : KC c2 11 20) (hr0 : RF rt c 0 = some c1) (hr1 : RF rt c 1 = some c2) (hc2 : c2 < 166) (hVu : Inv (ur g c2 w) hl rt) (len k : Nat) (hlen : ur g c2 w c 2 = len) (hl100 : len ≤ 100) (hk : k < len) (m : Nat) (hm : m ≤ 19) (f rr n t : Nat) (hf : f ≤ 9) (hrr : rr ≤ 2) (hn : n ≤ 99) (ht : t = 1000 * f + 100 * rr + n) (hst : ur g c2 w c1 k = (f * 3 + rr) * 100 + n) {Q : Po} (kk : Ev L xs (d + 3) 67 25 [(4, .int (nI (k + 1))), (3, .int (nI (m + 1))), (0, .ref c), (1, .ref (60 + 2 * p)), (2, .ref 13)] [] (HN (ur g c2 (up w m (tsS g p t))) hl (RF rt)) Q) : Ev L xs (d + 3) 67 25 [(4, .int (nI k)), (3, .int (nI m)), (0, .ref c), (1, .ref (60 + 2 * p)), (2, .ref 13)] [] (HN (ur g c2 w) hl (RF rt)) Q := by
  refine Ev.run 2 (pc' := 28) (lv' := [(4, .int (nI k)), (3, .int (nI m)), (0, .ref c), (1, .ref (60 + 2 * p)), (2, .ref 13)]) (st' := [.ref c, .int (nI k)]) (h' := HN (ur g c2 w) hl (RF rt)) rfl ?_
  refine Ev_gfI rfl rfl rfl hkc ?_
  refine Ev.topI (congrArg nI (hlen)) ?_
  refine Ev.run 1 (pc' := (if nI len ≤ nI k then 182 else 34)) (lv' := [(4, .int (nI k)), (3, .int (nI m)), (0, .ref c), (1, .ref (60 + 2 * p)), (2, .ref 13)]) (st' := []) (h' := HN (ur g c2 w) hl (RF rt)) rfl ?_
  refine Ev.ite (fun hc31 => ?_) (fun hc31 => ?_)
  · have hc31 : len ≤ k := (nI_leI (by omega) (by omega)).mp hc31
    exfalso
    omega
  · have hc31 : ¬ (len ≤ k) := fun z => hc31 ((nI_leI (by omega) (by omega)).mpr z)
    refine Ev.run 1 (pc' := 35) (lv' := [(4, .int (nI k)), (3, .int (nI m)), (0, .ref c), (1, .ref (60 + 2 * p)), (2, .ref 13)]) (st' := [.ref c]) (h' := HN (ur g c2 w) hl (RF rt)) rfl ?_
    refine Ev_gfR rfl rfl rfl hkc hr0 ?_
    refine Ev.run 1 (pc' := 40) (lv' := [(4, .int (nI k)), (3, .int (nI m)), (0, .ref c), (1, .ref (60 + 2 * p)), (2, .ref 13)]) (st' := [.int (nI k), .ref c1]) (h' := HN (ur g c2 w) hl (RF rt)) rfl ?_
    refine Ev_iald rfl hk1.k (show _ < _ by rw [hk1.n]; omega) (by rw [hk1.n]; omega) ?_
    refine Ev.topI (congrArg nI (hst)) ?_
    refine Ev.run 3 (pc' := (if nI ((f * 3 + rr) * 100 + n) < 0 then 73 else 48)) (lv' := [(5, .int (nI ((f * 3 + rr) * 100 + n))), (4, .int (nI k)), (3, .int (nI m)), (0, .ref c), (1, .ref (60 + 2 * p)), (2, .ref 13)]) (st' := []) (h' := HN (ur g c2 w) hl (RF rt)) rfl ?_
    refine Ev.ite (fun hc45 => ?_) (fun hc45 => ?_)
    · have hc45 : 2147483648 ≤ ((f * 3 + rr) * 100 + n) := (nI_ltU0 (by omega)).mp hc45
      exfalso
      omega
    · have hc45 : ¬ (2147483648 ≤ ((f * 3 + rr) * 100 + n)) := fun z => hc45 ((nI_ltU0 (by omega)).mpr z)
      refine Ev.run 3 (pc' := (if nI 20 ≤ nI m then 73 else 54)) (lv' := [(5, .int (nI ((f * 3 + rr) * 100 + n))), (4, .int (nI k)), (3, .int (nI m)), (0, .ref c), (1, .ref (60 + 2 * p)), (2, .ref 13)]) (st' := []) (h' := HN (ur g c2 w) hl (RF rt)) rfl ?_
      refine Ev.ite (fun hc51 => ?_) (fun hc51 => ?_)
      · have hc51 : 20 ≤ m := (nI_leI (by omega) (by omega)).mp hc51
        exfalso
        omega
      · have hc51 : ¬ (20 ≤ m) := fun z => hc51 ((nI_leI (by omega) (by omega)).mpr z)
        refine Ev.run 1 (pc' := 55) (lv' := [(5, .int (nI ((f * 3 + rr) * 100 + n))), (4, .int (nI k)), (3, .int (nI m)), (0, .ref c), (1, .ref (60 + 2 * p)), (2, .ref 13)]) (st' := [.ref c]) (h' := HN (ur g c2 w) hl (RF rt)) rfl ?_
        refine Ev_gfR rfl rfl rfl hkc hr1 ?_
        refine Ev.run 4 (pc' := 63) (lv' := [(5, .int (nI ((f * 3 + rr) * 100 + n))), (4, .int (nI k)), (3, .int (nI m)), (0, .ref c), (1, .ref (60 + 2 * p)), (2, .ref 13)]) (st' := [.ref 13, .ref (60 + 2 * p), .int (nI ((f * 3 + rr) * 100 + n)), .int (nI m), .ref c2]) (h' := HN (ur g c2 w) hl (RF rt)) rfl ?_
        refine Ev.call (a := 68) (as := [.int (nI ((f * 3 + rr) * 100 + n)), .ref (60 + 2 * p), .ref 13]) (rest := [.int (nI m), .ref c2]) (lv0 := [(0, .int (nI ((f * 3 + rr) * 100 + n))), (1, .ref (60 + 2 * p)), (2, .ref 13)]) (Q1 := (fun z0 h' => z0 = some (.int (nI (tsS g p t))) ∧ h' = HN (ur g c2 w) hl (RF rt))) rfl rfl (K_passing _ (ur g c2 w) _ _ hVu f rr n t p (by rw [(Em.ownr g hc2 w).f6]; exact hp) hf hrr hn ht ⟨congrArg (fun z => some (Value.int (nI z))) (congrFun (congrFun (Em.ownr g hc2 w).xtsS p) t), rfl⟩) (fun r h' hr => ?_)
        obtain ⟨rfl, rfl⟩ := hr
        refine Ev_iast rfl hk2.k (show _ < _ by rw [hk2.n]; omega) (by rw [hk2.n]; omega) ?_
        refine Ev.run 1 (pc' := 70) (lv' := [(3, .int (nI m + 1)), (5, .int (nI ((f * 3 + rr) * 100 + n))), (4, .int (nI k)), (0, .ref c), (1, .ref (60 + 2 * p)), (2, .ref 13)]) (st' := []) (h' := HN (u2 (ur g c2 w) c2 m (tsS g p t)) hl (RF rt)) rfl ?_
        refine Ev.lvE (congrArg (fun z => (3, Value.int z) :: [(5, .int (nI ((f * 3 + rr) * 100 + n))), (4, .int (nI k)), (0, .ref c), (1, .ref (60 + 2 * p)), (2, .ref 13)]) (nI_1 _)) ?_
        refine Ev.run 1 (pc' := 176) (lv' := [(3, .int (nI (m + 1))), (5, .int (nI ((f * 3 + rr) * 100 + n))), (4, .int (nI k)), (0, .ref c), (1, .ref (60 + 2 * p)), (2, .ref 13)]) (st' := []) (h' := HN (u2 (ur g c2 w) c2 m (tsS g p t)) hl (RF rt)) rfl ?_
        refine Ev.run 1 (pc' := 179) (lv' := [(4, .int (nI k + 1)), (3, .int (nI (m + 1))), (5, .int (nI ((f * 3 + rr) * 100 + n))), (0, .ref c), (1, .ref (60 + 2 * p)), (2, .ref 13)]) (st' := []) (h' := HN (u2 (ur g c2 w) c2 m (tsS g p t)) hl (RF rt)) rfl ?_
        refine Ev.lvE (congrArg (fun z => (4, Value.int z) :: [(3, .int (nI (m + 1))), (5, .int (nI ((f * 3 + rr) * 100 + n))), (0, .ref c), (1, .ref (60 + 2 * p)), (2, .ref 13)]) (nI_1 _)) ?_
        refine Ev.run 1 (pc' := 25) (lv' := [(4, .int (nI (k + 1))), (3, .int (nI (m + 1))), (5, .int (nI ((f * 3 + rr) * 100 + n))), (0, .ref c), (1, .ref (60 + 2 * p)), (2, .ref 13)]) (st' := []) (h' := HN (u2 (ur g c2 w) c2 m (tsS g p t)) hl (RF rt)) rfl ?_
        rw [ur_up]
        exact Ev.wk (Ext.cons rfl rfl (Ext.cons rfl rfl (Ext.cons rfl rfl (Ext.cons rfl rfl (Ext.cons rfl rfl (Ext.nil rfl)))))) kk
theorem KN_not {L : Nat} {xs : Nat → Int32} (d : Nat) (g : Nat → Nat → Nat) (hl : Nat → Nat → Int64) (rt : Nat × Nat × Nat × Nat) (w : Nat → Nat) (p : Nat) (hp : p < g 166 6) (c c1 c2 : Nat) (hkc : KC c 7 5) (hk1 : KC c1 11 100) (hk2 : KC c2 11 20) (hr0 : RF rt c 0 = some c1) (hr1 : RF rt c 1 = some c2) (hc2 : c2 < 166) (hVu : Inv (ur g c2 w) hl rt) (len k : Nat) (hlen : ur g c2 w c 2 = len) (hl100 : len ≤ 100) (hk : k < len) (m b : Nat) (hm : m ≤ 19) (hb : w m = b) (hst : ur g c2 w c1 k = 4294967293) {Q : Po} (kk : Ev L xs (d + 3) 67 25 [(4, .int (nI (k + 1))), (3, .int (nI (m + 1))), (0, .ref c), (1, .ref (60 + 2 * p)), (2, .ref 13)] [] (HN (ur g c2 (up w m (allS g &&& (b ^^^ 4294967295)))) hl (RF rt)) Q) : Ev L xs (d + 3) 67 25 [(4, .int (nI k)), (3, .int (nI (m + 1))), (0, .ref c), (1, .ref (60 + 2 * p)), (2, .ref 13)] [] (HN (ur g c2 w) hl (RF rt)) Q := by
  refine Ev.run 2 (pc' := 28) (lv' := [(4, .int (nI k)), (3, .int (nI (m + 1))), (0, .ref c), (1, .ref (60 + 2 * p)), (2, .ref 13)]) (st' := [.ref c, .int (nI k)]) (h' := HN (ur g c2 w) hl (RF rt)) rfl ?_
  refine Ev_gfI rfl rfl rfl hkc ?_
  refine Ev.topI (congrArg nI (hlen)) ?_
  refine Ev.run 1 (pc' := (if nI len ≤ nI k then 182 else 34)) (lv' := [(4, .int (nI k)), (3, .int (nI (m + 1))), (0, .ref c), (1, .ref (60 + 2 * p)), (2, .ref 13)]) (st' := []) (h' := HN (ur g c2 w) hl (RF rt)) rfl ?_
  refine Ev.ite (fun hc31 => ?_) (fun hc31 => ?_)
  · have hc31 : len ≤ k := (nI_leI (by omega) (by omega)).mp hc31
    exfalso
    omega
  · have hc31 : ¬ (len ≤ k) := fun z => hc31 ((nI_leI (by omega) (by omega)).mpr z)
    refine Ev.run 1 (pc' := 35) (lv' := [(4, .int (nI k)), (3, .int (nI (m + 1))), (0, .ref c), (1, .ref (60 + 2 * p)), (2, .ref 13)]) (st' := [.ref c]) (h' := HN (ur g c2 w) hl (RF rt)) rfl ?_
    refine Ev_gfR rfl rfl rfl hkc hr0 ?_
    refine Ev.run 1 (pc' := 40) (lv' := [(4, .int (nI k)), (3, .int (nI (m + 1))), (0, .ref c), (1, .ref (60 + 2 * p)), (2, .ref 13)]) (st' := [.int (nI k), .ref c1]) (h' := HN (ur g c2 w) hl (RF rt)) rfl ?_
    refine Ev_iald rfl hk1.k (show _ < _ by rw [hk1.n]; omega) (by rw [hk1.n]; omega) ?_
    refine Ev.topI (congrArg nI (hst)) ?_
    refine Ev.run 8 (pc' := (if nI (m + 1) ≤ 0 then 110 else 84)) (lv' := [(5, .int (nI 4294967293)), (4, .int (nI k)), (3, .int (nI (m + 1))), (0, .ref c), (1, .ref (60 + 2 * p)), (2, .ref 13)]) (st' := []) (h' := HN (ur g c2 w) hl (RF rt)) rfl ?_
    refine Ev.ite (fun hc81 => ?_) (fun hc81 => ?_)
    · have hc81 : (m + 1) ≤ 0 := (nI_leI0 (by omega)).mp hc81
      exfalso
      omega
    · have hc81 : ¬ ((m + 1) ≤ 0) := fun z => hc81 ((nI_leI0 (by omega)).mpr z)
      refine Ev.run 1 (pc' := 85) (lv' := [(5, .int (nI 4294967293)), (4, .int (nI k)), (3, .int (nI (m + 1))), (0, .ref c), (1, .ref (60 + 2 * p)), (2, .ref 13)]) (st' := [.ref c]) (h' := HN (ur g c2 w) hl (RF rt)) rfl ?_
      refine Ev_gfR rfl rfl rfl hkc hr1 ?_
      refine Ev.run 3 (pc' := 91) (lv' := [(5, .int (nI 4294967293)), (4, .int (nI k)), (3, .int (nI (m + 1))), (0, .ref c), (1, .ref (60 + 2 * p)), (2, .ref 13)]) (st' := [.int (nI (m + 1) - nI 1), .ref c2]) (h' := HN (ur g c2 w) hl (RF rt)) rfl ?_
      refine Ev.topI (pk_sub (a := (m + 1)) (b := 1) (by omega)) ?_
      refine Ev.run 1 (pc' := 92) (lv' := [(5, .int (nI 4294967293)), (4, .int (nI k)), (3, .int (nI (m + 1))), (0, .ref c), (1, .ref (60 + 2 * p)), (2, .ref 13)]) (st' := [.ref 13, .int (nI ((m + 1) - 1)), .ref c2]) (h' := HN (ur g c2 w) hl (RF rt)) rfl ?_
      refine Ev.call (a := 10) (as := [.ref 13]) (rest := [.int (nI ((m + 1) - 1)), .ref c2]) (lv0 := [(0, .ref 13)]) (Q1 := (fun z0 h' => z0 = some (.int (nI (allS g))) ∧ h' = HN (ur g c2 w) hl (RF rt))) rfl rfl (K_all _ (ur g c2 w) _ _ hVu.mi hVu.gm.cb ⟨congrArg (fun z => some (Value.int (nI z))) (Em.ownr g hc2 w).xallS, rfl⟩) (fun r h' hr => ?_)
      obtain ⟨rfl, rfl⟩ := hr
      refine Ev.run 1 (pc' := 96) (lv' := [(5, .int (nI 4294967293)), (4, .int (nI k)), (3, .int (nI (m + 1))), (0, .ref c), (1, .ref (60 + 2 * p)), (2, .ref 13)]) (st' := [.ref c, .int (nI (allS g)), .int (nI ((m + 1) - 1)), .ref c2]) (h' := HN (ur g c2 w) hl (RF rt)) rfl ?_
      refine Ev_gfR rfl rfl rfl hkc hr1 ?_
      refine Ev.run 3 (pc' := 102) (lv' := [(5, .int (nI 4294967293)), (4, .int (nI k)), (3, .int (nI (m + 1))), (0, .ref c), (1, .ref (60 + 2 * p)), (2, .ref 13)]) (st' := [.int (nI (m + 1) - nI 1), .ref c2, .int (nI (allS g)), .int (nI ((m + 1) - 1)), .ref c2]) (h' := HN (ur g c2 w) hl (RF rt)) rfl ?_
      refine Ev.topI (pk_sub (a := (m + 1)) (b := 1) (by omega)) ?_
      refine Ev_iald rfl hk2.k (show _ < _ by rw [hk2.n]; omega) (by rw [hk2.n]; omega) ?_
      refine Ev.topI (congrArg nI (ur_at _ _ _ _)) ?_
      refine Ev.run 2 (pc' := 105) (lv' := [(5, .int (nI 4294967293)), (4, .int (nI k)), (3, .int (nI (m + 1))), (0, .ref c), (1, .ref (60 + 2 * p)), (2, .ref 13)]) (st' := [.int (nI (w ((m + 1) - 1)) ^^^ nI 4294967295), .int (nI (allS g)), .int (nI ((m + 1) - 1)), .ref c2]) (h' := HN (ur g c2 w) hl (RF rt)) rfl ?_
      refine Ev.topI (nIx _ _) ?_
      refine Ev.run 1 (pc' := 106) (lv' := [(5, .int (nI 4294967293)), (4, .int (nI k)), (3, .int (nI (m + 1))), (0, .ref c), (1, .ref (60 + 2 * p)), (2, .ref 13)]) (st' := [.int (nI (allS g) &&& nI ((w ((m + 1) - 1)) ^^^ 4294967295)), .int (nI ((m + 1) - 1)), .ref c2]) (h' := HN (ur g c2 w) hl (RF rt)) rfl ?_
      refine Ev.topI (nIa _ _) ?_
      refine Ev_iast rfl hk2.k (show _ < _ by rw [hk2.n]; omega) (by rw [hk2.n]; omega) ?_
      refine Ev.run 1 (pc' := 176) (lv' := [(5, .int (nI 4294967293)), (4, .int (nI k)), (3, .int (nI (m + 1))), (0, .ref c), (1, .ref (60 + 2 * p)), (2, .ref 13)]) (st' := []) (h' := HN (u2 (ur g c2 w) c2 ((m + 1) - 1) ((allS g) &&& ((w ((m + 1) - 1)) ^^^ 4294967295))) hl (RF rt)) rfl ?_
      refine Ev.run 1 (pc' := 179) (lv' := [(4, .int (nI k + 1)), (5, .int (nI 4294967293)), (3, .int (nI (m + 1))), (0, .ref c), (1, .ref (60 + 2 * p)), (2, .ref 13)]) (st' := []) (h' := HN (u2 (ur g c2 w) c2 ((m + 1) - 1) ((allS g) &&& ((w ((m + 1) - 1)) ^^^ 4294967295))) hl (RF rt)) rfl ?_
      refine Ev.lvE (congrArg (fun z => (4, Value.int z) :: [(5, .int (nI 4294967293)), (3, .int (nI (m + 1))), (0, .ref c), (1, .ref (60 + 2 * p)), (2, .ref 13)]) (nI_1 _)) ?_
      refine Ev.run 1 (pc' := 25) (lv' := [(4, .int (nI (k + 1))), (5, .int (nI 4294967293)), (3, .int (nI (m + 1))), (0, .ref c), (1, .ref (60 + 2 * p)), (2, .ref 13)]) (st' := []) (h' := HN (u2 (ur g c2 w) c2 ((m + 1) - 1) ((allS g) &&& ((w ((m + 1) - 1)) ^^^ 4294967295))) hl (RF rt)) rfl ?_
      rw [ur_up]
      have ej : (m + 1) - 1 = m := by omega
      rw [ej]
      rw [hb]
      exact Ev.wk (Ext.cons rfl rfl (Ext.cons rfl rfl (Ext.cons rfl rfl (Ext.cons rfl rfl (Ext.cons rfl rfl (Ext.nil rfl)))))) kk
theorem KN_and {L : Nat} {xs : Nat → Int32} (d : Nat) (g : Nat → Nat → Nat) (hl : Nat → Nat → Int64) (rt : Nat × Nat × Nat × Nat) (w : Nat → Nat) (p : Nat) (hp : p < g 166 6) (c c1 c2 : Nat) (hkc : KC c 7 5) (hk1 : KC c1 11 100) (hk2 : KC c2 11 20) (hr0 : RF rt c 0 = some c1) (hr1 : RF rt c 1 = some c2) (hc2 : c2 < 166) (hVu : Inv (ur g c2 w) hl rt) (len k : Nat) (hlen : ur g c2 w c 2 = len) (hl100 : len ≤ 100) (hk : k < len) (m a b : Nat) (hm : m ≤ 18) (ha : w m = a) (hb : w (m + 1) = b) (hst : ur g c2 w c1 k = 4294967295) {Q : Po} (kk : Ev L xs (d + 3) 67 25 [(4, .int (nI (k + 1))), (3, .int (nI (m + 1))), (0, .ref c), (1, .ref (60 + 2 * p)), (2, .ref 13)] [] (HN (ur g c2 (up w m (a &&& b))) hl (RF rt)) Q) : Ev L xs (d + 3) 67 25 [(4, .int (nI k)), (3, .int (nI (m + 2))), (0, .ref c), (1, .ref (60 + 2 * p)), (2, .ref 13)] [] (HN (ur g c2 w) hl (RF rt)) Q := by
  refine Ev.run 2 (pc' := 28) (lv' := [(4, .int (nI k)), (3, .int (nI (m + 2))), (0, .ref c), (1, .ref (60 + 2 * p)), (2, .ref 13)]) (st' := [.ref c, .int (nI k)]) (h' := HN (ur g c2 w) hl (RF rt)) rfl ?_
  refine Ev_gfI rfl rfl rfl hkc ?_
  refine Ev.topI (congrArg nI (hlen)) ?_
  refine Ev.run 1 (pc' := (if nI len ≤ nI k then 182 else 34)) (lv' := [(4, .int (nI k)), (3, .int (nI (m + 2))), (0, .ref c), (1, .ref (60 + 2 * p)), (2, .ref 13)]) (st' := []) (h' := HN (ur g c2 w) hl (RF rt)) rfl ?_
  refine Ev.ite (fun hc31 => ?_) (fun hc31 => ?_)
  · have hc31 : len ≤ k := (nI_leI (by omega) (by omega)).mp hc31
    exfalso
    omega
  · have hc31 : ¬ (len ≤ k) := fun z => hc31 ((nI_leI (by omega) (by omega)).mpr z)
    refine Ev.run 1 (pc' := 35) (lv' := [(4, .int (nI k)), (3, .int (nI (m + 2))), (0, .ref c), (1, .ref (60 + 2 * p)), (2, .ref 13)]) (st' := [.ref c]) (h' := HN (ur g c2 w) hl (RF rt)) rfl ?_
    refine Ev_gfR rfl rfl rfl hkc hr0 ?_
    refine Ev.run 1 (pc' := 40) (lv' := [(4, .int (nI k)), (3, .int (nI (m + 2))), (0, .ref c), (1, .ref (60 + 2 * p)), (2, .ref 13)]) (st' := [.int (nI k), .ref c1]) (h' := HN (ur g c2 w) hl (RF rt)) rfl ?_
    refine Ev_iald rfl hk1.k (show _ < _ by rw [hk1.n]; omega) (by rw [hk1.n]; omega) ?_
    refine Ev.topI (congrArg nI (hst)) ?_
    refine Ev.run 12 (pc' := (if nI (m + 2) ≤ nI 1 then 144 else 121)) (lv' := [(5, .int (nI 4294967295)), (4, .int (nI k)), (3, .int (nI (m + 2))), (0, .ref c), (1, .ref (60 + 2 * p)), (2, .ref 13)]) (st' := []) (h' := HN (ur g c2 w) hl (RF rt)) rfl ?_
    refine Ev.ite (fun hc118 => ?_) (fun hc118 => ?_)
    · have hc118 : (m + 2) ≤ 1 := (nI_leI (by omega) (by omega)).mp hc118
      exfalso
      omega
    · have hc118 : ¬ ((m + 2) ≤ 1) := fun z => hc118 ((nI_leI (by omega) (by omega)).mpr z)
      refine Ev.run 1 (pc' := 124) (lv' := [(3, .int (nI (m + 2) + nI 4294967295)), (5, .int (nI 4294967295)), (4, .int (nI k)), (0, .ref c), (1, .ref (60 + 2 * p)), (2, .ref 13)]) (st' := []) (h' := HN (ur g c2 w) hl (RF rt)) rfl ?_
      refine Ev.lvE (congrArg (fun z => (3, Value.int z) :: [(5, .int (nI 4294967295)), (4, .int (nI k)), (0, .ref c), (1, .ref (60 + 2 * p)), (2, .ref 13)]) (nI_dec (n := (m + 2)) 1 (by omega))) ?_
      refine Ev.run 1 (pc' := 125) (lv' := [(3, .int (nI (m + 2 - 1))), (5, .int (nI 4294967295)), (4, .int (nI k)), (0, .ref c), (1, .ref (60 + 2 * p)), (2, .ref 13)]) (st' := [.ref c]) (h' := HN (ur g c2 w) hl (RF rt)) rfl ?_
      refine Ev_gfR rfl rfl rfl hkc hr1 ?_
      refine Ev.run 3 (pc' := 131) (lv' := [(3, .int (nI (m + 2 - 1))), (5, .int (nI 4294967295)), (4, .int (nI k)), (0, .ref c), (1, .ref (60 + 2 * p)), (2, .ref 13)]) (st' := [.int (nI (m + 2 - 1) - nI 1), .ref c2]) (h' := HN (ur g c2 w) hl (RF rt)) rfl ?_
      refine Ev.topI (pk_sub (a := (m + 2 - 1)) (b := 1) (by omega)) ?_
      refine Ev.run 1 (pc' := 132) (lv' := [(3, .int (nI (m + 2 - 1))), (5, .int (nI 4294967295)), (4, .int (nI k)), (0, .ref c), (1, .ref (60 + 2 * p)), (2, .ref 13)]) (st' := [.int (nI ((m + 2 - 1) - 1)), .ref c2, .int (nI ((m + 2 - 1) - 1)), .ref c2]) (h' := HN (ur g c2 w) hl (RF rt)) rfl ?_
      refine Ev_iald rfl hk2.k (show _ < _ by rw [hk2.n]; omega) (by rw [hk2.n]; omega) ?_
      refine Ev.topI (congrArg nI (ur_at _ _ _ _)) ?_
      refine Ev.run 1 (pc' := 134) (lv' := [(3, .int (nI (m + 2 - 1))), (5, .int (nI 4294967295)), (4, .int (nI k)), (0, .ref c), (1, .ref (60 + 2 * p)), (2, .ref 13)]) (st' := [.ref c, .int (nI (w ((m + 2 - 1) - 1))), .int (nI ((m + 2 - 1) - 1)), .ref c2]) (h' := HN (ur g c2 w) hl (RF rt)) rfl ?_
      refine Ev_gfR rfl rfl rfl hkc hr1 ?_
      refine Ev.run 1 (pc' := 138) (lv' := [(3, .int (nI (m + 2 - 1))), (5, .int (nI 4294967295)), (4, .int (nI k)), (0, .ref c), (1, .ref (60 + 2 * p)), (2, .ref 13)]) (st' := [.int (nI (m + 2 - 1)), .ref c2, .int (nI (w ((m + 2 - 1) - 1))), .int (nI ((m + 2 - 1) - 1)), .ref c2]) (h' := HN (ur g c2 w) hl (RF rt)) rfl ?_
      refine Ev_iald rfl hk2.k (show _ < _ by rw [hk2.n]; omega) (by rw [hk2.n]; omega) ?_
      refine Ev.topI (congrArg nI (ur_at _ _ _ _)) ?_
      refine Ev.run 1 (pc' := 140) (lv' := [(3, .int (nI (m + 2 - 1))), (5, .int (nI 4294967295)), (4, .int (nI k)), (0, .ref c), (1, .ref (60 + 2 * p)), (2, .ref 13)]) (st' := [.int (nI (w ((m + 2 - 1) - 1)) &&& nI (w (m + 2 - 1))), .int (nI ((m + 2 - 1) - 1)), .ref c2]) (h' := HN (ur g c2 w) hl (RF rt)) rfl ?_
      refine Ev.topI (nIa _ _) ?_
      refine Ev_iast rfl hk2.k (show _ < _ by rw [hk2.n]; omega) (by rw [hk2.n]; omega) ?_
      refine Ev.run 1 (pc' := 176) (lv' := [(3, .int (nI (m + 2 - 1))), (5, .int (nI 4294967295)), (4, .int (nI k)), (0, .ref c), (1, .ref (60 + 2 * p)), (2, .ref 13)]) (st' := []) (h' := HN (u2 (ur g c2 w) c2 ((m + 2 - 1) - 1) ((w ((m + 2 - 1) - 1)) &&& (w (m + 2 - 1)))) hl (RF rt)) rfl ?_
      refine Ev.run 1 (pc' := 179) (lv' := [(4, .int (nI k + 1)), (3, .int (nI (m + 2 - 1))), (5, .int (nI 4294967295)), (0, .ref c), (1, .ref (60 + 2 * p)), (2, .ref 13)]) (st' := []) (h' := HN (u2 (ur g c2 w) c2 ((m + 2 - 1) - 1) ((w ((m + 2 - 1) - 1)) &&& (w (m + 2 - 1)))) hl (RF rt)) rfl ?_
      refine Ev.lvE (congrArg (fun z => (4, Value.int z) :: [(3, .int (nI (m + 2 - 1))), (5, .int (nI 4294967295)), (0, .ref c), (1, .ref (60 + 2 * p)), (2, .ref 13)]) (nI_1 _)) ?_
      refine Ev.run 1 (pc' := 25) (lv' := [(4, .int (nI (k + 1))), (3, .int (nI (m + 2 - 1))), (5, .int (nI 4294967295)), (0, .ref c), (1, .ref (60 + 2 * p)), (2, .ref 13)]) (st' := []) (h' := HN (u2 (ur g c2 w) c2 ((m + 2 - 1) - 1) ((w ((m + 2 - 1) - 1)) &&& (w (m + 2 - 1)))) hl (RF rt)) rfl ?_
      rw [ur_up]
      have ej : (m + 2 - 1) - 1 = m := by omega
      rw [ej]
      have en : m + 2 - 1 = m + 1 := by omega
      rw [en]
      rw [ha, hb]
      exact Ev.wk (Ext.cons rfl rfl (Ext.cons rfl rfl (Ext.cons rfl rfl (Ext.cons rfl rfl (Ext.cons rfl rfl (Ext.nil rfl)))))) kk
theorem KN_or {L : Nat} {xs : Nat → Int32} (d : Nat) (g : Nat → Nat → Nat) (hl : Nat → Nat → Int64) (rt : Nat × Nat × Nat × Nat) (w : Nat → Nat) (p : Nat) (hp : p < g 166 6) (c c1 c2 : Nat) (hkc : KC c 7 5) (hk1 : KC c1 11 100) (hk2 : KC c2 11 20) (hr0 : RF rt c 0 = some c1) (hr1 : RF rt c 1 = some c2) (hc2 : c2 < 166) (hVu : Inv (ur g c2 w) hl rt) (len k : Nat) (hlen : ur g c2 w c 2 = len) (hl100 : len ≤ 100) (hk : k < len) (m a b : Nat) (hm : m ≤ 18) (ha : w m = a) (hb : w (m + 1) = b) (hst : ur g c2 w c1 k = 4294967294) {Q : Po} (kk : Ev L xs (d + 3) 67 25 [(4, .int (nI (k + 1))), (3, .int (nI (m + 1))), (0, .ref c), (1, .ref (60 + 2 * p)), (2, .ref 13)] [] (HN (ur g c2 (up w m (a ||| b))) hl (RF rt)) Q) : Ev L xs (d + 3) 67 25 [(4, .int (nI k)), (3, .int (nI (m + 2))), (0, .ref c), (1, .ref (60 + 2 * p)), (2, .ref 13)] [] (HN (ur g c2 w) hl (RF rt)) Q := by
  refine Ev.run 2 (pc' := 28) (lv' := [(4, .int (nI k)), (3, .int (nI (m + 2))), (0, .ref c), (1, .ref (60 + 2 * p)), (2, .ref 13)]) (st' := [.ref c, .int (nI k)]) (h' := HN (ur g c2 w) hl (RF rt)) rfl ?_
  refine Ev_gfI rfl rfl rfl hkc ?_
  refine Ev.topI (congrArg nI (hlen)) ?_
  refine Ev.run 1 (pc' := (if nI len ≤ nI k then 182 else 34)) (lv' := [(4, .int (nI k)), (3, .int (nI (m + 2))), (0, .ref c), (1, .ref (60 + 2 * p)), (2, .ref 13)]) (st' := []) (h' := HN (ur g c2 w) hl (RF rt)) rfl ?_
  refine Ev.ite (fun hc31 => ?_) (fun hc31 => ?_)
  · have hc31 : len ≤ k := (nI_leI (by omega) (by omega)).mp hc31
    exfalso
    omega
  · have hc31 : ¬ (len ≤ k) := fun z => hc31 ((nI_leI (by omega) (by omega)).mpr z)
    refine Ev.run 1 (pc' := 35) (lv' := [(4, .int (nI k)), (3, .int (nI (m + 2))), (0, .ref c), (1, .ref (60 + 2 * p)), (2, .ref 13)]) (st' := [.ref c]) (h' := HN (ur g c2 w) hl (RF rt)) rfl ?_
    refine Ev_gfR rfl rfl rfl hkc hr0 ?_
    refine Ev.run 1 (pc' := 40) (lv' := [(4, .int (nI k)), (3, .int (nI (m + 2))), (0, .ref c), (1, .ref (60 + 2 * p)), (2, .ref 13)]) (st' := [.int (nI k), .ref c1]) (h' := HN (ur g c2 w) hl (RF rt)) rfl ?_
    refine Ev_iald rfl hk1.k (show _ < _ by rw [hk1.n]; omega) (by rw [hk1.n]; omega) ?_
    refine Ev.topI (congrArg nI (hst)) ?_
    refine Ev.run 15 (pc' := (if nI (m + 2) ≤ nI 1 then 176 else 156)) (lv' := [(5, .int (nI 4294967294)), (4, .int (nI k)), (3, .int (nI (m + 2))), (0, .ref c), (1, .ref (60 + 2 * p)), (2, .ref 13)]) (st' := []) (h' := HN (ur g c2 w) hl (RF rt)) rfl ?_
    refine Ev.ite (fun hc153 => ?_) (fun hc153 => ?_)
    · have hc153 : (m + 2) ≤ 1 := (nI_leI (by omega) (by omega)).mp hc153
      exfalso
      omega
    · have hc153 : ¬ ((m + 2) ≤ 1) := fun z => hc153 ((nI_leI (by omega) (by omega)).mpr z)
      refine Ev.run 1 (pc' := 159) (lv' := [(3, .int (nI (m + 2) + nI 4294967295)), (5, .int (nI 4294967294)), (4, .int (nI k)), (0, .ref c), (1, .ref (60 + 2 * p)), (2, .ref 13)]) (st' := []) (h' := HN (ur g c2 w) hl (RF rt)) rfl ?_
      refine Ev.lvE (congrArg (fun z => (3, Value.int z) :: [(5, .int (nI 4294967294)), (4, .int (nI k)), (0, .ref c), (1, .ref (60 + 2 * p)), (2, .ref 13)]) (nI_dec (n := (m + 2)) 1 (by omega))) ?_
      refine Ev.run 1 (pc' := 160) (lv' := [(3, .int (nI (m + 2 - 1))), (5, .int (nI 4294967294)), (4, .int (nI k)), (0, .ref c), (1, .ref (60 + 2 * p)), (2, .ref 13)]) (st' := [.ref c]) (h' := HN (ur g c2 w) hl (RF rt)) rfl ?_
      refine Ev_gfR rfl rfl rfl hkc hr1 ?_
      refine Ev.run 3 (pc' := 166) (lv' := [(3, .int (nI (m + 2 - 1))), (5, .int (nI 4294967294)), (4, .int (nI k)), (0, .ref c), (1, .ref (60 + 2 * p)), (2, .ref 13)]) (st' := [.int (nI (m + 2 - 1) - nI 1), .ref c2]) (h' := HN (ur g c2 w) hl (RF rt)) rfl ?_
      refine Ev.topI (pk_sub (a := (m + 2 - 1)) (b := 1) (by omega)) ?_
      refine Ev.run 1 (pc' := 167) (lv' := [(3, .int (nI (m + 2 - 1))), (5, .int (nI 4294967294)), (4, .int (nI k)), (0, .ref c), (1, .ref (60 + 2 * p)), (2, .ref 13)]) (st' := [.int (nI ((m + 2 - 1) - 1)), .ref c2, .int (nI ((m + 2 - 1) - 1)), .ref c2]) (h' := HN (ur g c2 w) hl (RF rt)) rfl ?_
      refine Ev_iald rfl hk2.k (show _ < _ by rw [hk2.n]; omega) (by rw [hk2.n]; omega) ?_
      refine Ev.topI (congrArg nI (ur_at _ _ _ _)) ?_
      refine Ev.run 1 (pc' := 169) (lv' := [(3, .int (nI (m + 2 - 1))), (5, .int (nI 4294967294)), (4, .int (nI k)), (0, .ref c), (1, .ref (60 + 2 * p)), (2, .ref 13)]) (st' := [.ref c, .int (nI (w ((m + 2 - 1) - 1))), .int (nI ((m + 2 - 1) - 1)), .ref c2]) (h' := HN (ur g c2 w) hl (RF rt)) rfl ?_
      refine Ev_gfR rfl rfl rfl hkc hr1 ?_
      refine Ev.run 1 (pc' := 173) (lv' := [(3, .int (nI (m + 2 - 1))), (5, .int (nI 4294967294)), (4, .int (nI k)), (0, .ref c), (1, .ref (60 + 2 * p)), (2, .ref 13)]) (st' := [.int (nI (m + 2 - 1)), .ref c2, .int (nI (w ((m + 2 - 1) - 1))), .int (nI ((m + 2 - 1) - 1)), .ref c2]) (h' := HN (ur g c2 w) hl (RF rt)) rfl ?_
      refine Ev_iald rfl hk2.k (show _ < _ by rw [hk2.n]; omega) (by rw [hk2.n]; omega) ?_
      refine Ev.topI (congrArg nI (ur_at _ _ _ _)) ?_
      refine Ev.run 1 (pc' := 175) (lv' := [(3, .int (nI (m + 2 - 1))), (5, .int (nI 4294967294)), (4, .int (nI k)), (0, .ref c), (1, .ref (60 + 2 * p)), (2, .ref 13)]) (st' := [.int (nI (w ((m + 2 - 1) - 1)) ||| nI (w (m + 2 - 1))), .int (nI ((m + 2 - 1) - 1)), .ref c2]) (h' := HN (ur g c2 w) hl (RF rt)) rfl ?_
      refine Ev.topI (nIo _ _) ?_
      refine Ev_iast rfl hk2.k (show _ < _ by rw [hk2.n]; omega) (by rw [hk2.n]; omega) ?_
      refine Ev.run 1 (pc' := 179) (lv' := [(4, .int (nI k + 1)), (3, .int (nI (m + 2 - 1))), (5, .int (nI 4294967294)), (0, .ref c), (1, .ref (60 + 2 * p)), (2, .ref 13)]) (st' := []) (h' := HN (u2 (ur g c2 w) c2 ((m + 2 - 1) - 1) ((w ((m + 2 - 1) - 1)) ||| (w (m + 2 - 1)))) hl (RF rt)) rfl ?_
      refine Ev.lvE (congrArg (fun z => (4, Value.int z) :: [(3, .int (nI (m + 2 - 1))), (5, .int (nI 4294967294)), (0, .ref c), (1, .ref (60 + 2 * p)), (2, .ref 13)]) (nI_1 _)) ?_
      refine Ev.run 1 (pc' := 25) (lv' := [(4, .int (nI (k + 1))), (3, .int (nI (m + 2 - 1))), (5, .int (nI 4294967294)), (0, .ref c), (1, .ref (60 + 2 * p)), (2, .ref 13)]) (st' := []) (h' := HN (u2 (ur g c2 w) c2 ((m + 2 - 1) - 1) ((w ((m + 2 - 1) - 1)) ||| (w (m + 2 - 1)))) hl (RF rt)) rfl ?_
      rw [ur_up]
      have ej : (m + 2 - 1) - 1 = m := by omega
      rw [ej]
      have en : m + 2 - 1 = m + 1 := by omega
      rw [en]
      rw [ha, hb]
      exact Ev.wk (Ext.cons rfl rfl (Ext.cons rfl rfl (Ext.cons rfl rfl (Ext.cons rfl rfl (Ext.cons rfl rfl (Ext.nil rfl)))))) kk
theorem seL_ht {g : Nat → Nat → Nat} {p : Nat} : ∀ {l S : List Nat} {m : Nat}, htL l S.length = some m → ∃ S', seL g p l S = some S' ∧ S'.length = m := by
  intro l
  induction l with
  | nil => intro S m e; cases e; exact ⟨S, rfl, rfl⟩
  | cons t l ih =>
    intro S m e
    unfold htL at e
    cases e1 : htT t S.length with
    | none => rw [e1] at e; cases e
    | some h' =>
      rw [e1] at e
      obtain ⟨s, h1, h2⟩ := seT_ht (g := g) (p := p) e1
      have e : htL l h' = some m := e
      rw [← h2] at e
      obtain ⟨S', h3, h4⟩ := ih e
      refine ⟨S', ?_, h4⟩
      unfold seL
      rw [h1]
      exact h3
/-- all steps of the table that holds -/
theorem K_knl {L : Nat} {xs : Nat → Int32} (d : Nat) (g : Nat → Nat → Nat) (hl : Nat → Nat → Int64) (rt : Nat × Nat × Nat × Nat) (hV : Inv g hl rt) (p : Nat) (hp : p < g 166 6) (hk5 : g 171 p ≠ 5) (hne : kcL g (fC g) (nC g) ≠ []) {Q : Po} (hq : ∀ w, Q (some (.int (nI (knS g p)))) (HN (ur g (rt.2.2.1 + 2) w) hl (RF rt))) : ∀ (m k : Nat) (w : Nat → Nat) (S : List Nat), k + m = (kcL g (fC g) (nC g)).length → seL g p ((kcL g (fC g) (nC g)).take k) [] = some S → plN w S → Ev L xs (d + 3) 67 25 [(4, .int (nI k)), (3, .int (nI S.length)), (0, .ref rt.2.2.1), (1, .ref (60 + 2 * p)), (2, .ref 13)] [] (HN (ur g (rt.2.2.1 + 2) w) hl (RF rt)) Q := by
  have hI := hV.mi
  have hW := hI.hW
  have h6 := hI.hPl
  have hK := hV.kw
  obtain ⟨hkc, hcc⟩ := hV.th.kc hI.hTb
  obtain ⟨hr0, hr1, hk1, hk2⟩ := hV.th.rf rt hI.hTb
  obtain ⟨hT1, hT2, hT3, hT4⟩ := hV.tb.st hV.th hI
  have hhb : HB (kcL g (fC g) (nC g)) 0 1 19 := by
    rcases kcL_hb (g := g) (o := fC g) (nC g) hK with ⟨e, _⟩ | e
    · exact absurd e hne
    · exact e
  generalize hle : kcL g (fC g) (nC g) = l at hne hT1 hT2 hT3 hT4 hhb ⊢
  intro m
  induction m with
  | zero =>
    intro k w S hkm hS hpl
    have hkl : k = l.length := by omega
    rw [hkl, List.take_length] at hS
    obtain ⟨S2, e3, e4⟩ := seL_ht (g := g) (p := p) (S := []) hhb.1
    rw [hS] at e3
    cases e3
    have hs1 : ∃ s, S = [s] := by
      cases S with
      | nil => cases e4
      | cons s r =>
        cases r with
        | nil => exact ⟨s, rfl⟩
        | cons a r => exact absurd e4 (by show ¬ (r.length + 1 + 1 = 1); omega)
    obtain ⟨s, rfl⟩ := hs1
    have hw0 : w 0 = s := hpl.top
    have hse : s = knS g p := kn_eq hI hV.lr hK (by omega) hk5 (by rw [hle]; exact hne) (by rw [hle]; exact hS)
    have hlen : ur g (rt.2.2.1 + 2) w rt.2.2.1 2 = l.length := by
      unfold ur
      rw [if_neg (by omega)]
      exact hT1
    have hgo : Q (some (.int (nI (w 0)))) (HN (ur g (rt.2.2.1 + 2) w) hl (RF rt)) := by
      rw [hw0, hse]
      exact hq w
    clear hq
    refine Ev.run 2 (pc' := 28) (lv' := [(4, .int (nI k)), (3, .int (nI 1)), (0, .ref rt.2.2.1), (1, .ref (60 + 2 * p)), (2, .ref 13)]) (st' := [.ref rt.2.2.1, .int (nI k)]) (h' := HN (ur g (rt.2.2.1 + 2) w) hl (RF rt)) rfl ?_
    refine Ev_gfI rfl rfl rfl hkc ?_
    refine Ev.topI (congrArg nI (hlen)) ?_
    refine Ev.run 1 (pc' := (if nI l.length ≤ nI k then 182 else 34)) (lv' := [(4, .int (nI k)), (3, .int (nI 1)), (0, .ref rt.2.2.1), (1, .ref (60 + 2 * p)), (2, .ref 13)]) (st' := []) (h' := HN (ur g (rt.2.2.1 + 2) w) hl (RF rt)) rfl ?_
    refine Ev.ite (fun hc31 => ?_) (fun hc31 => ?_)
    · have hc31 : l.length ≤ k := (nI_leI (by omega) (by omega)).mp hc31
      refine Ev.run 1 (pc' := 183) (lv' := [(4, .int (nI k)), (3, .int (nI 1)), (0, .ref rt.2.2.1), (1, .ref (60 + 2 * p)), (2, .ref 13)]) (st' := [.ref rt.2.2.1]) (h' := HN (ur g (rt.2.2.1 + 2) w) hl (RF rt)) rfl ?_
      refine Ev_gfR rfl rfl rfl hkc hr1 ?_
      refine Ev.run 1 (pc' := 187) (lv' := [(4, .int (nI k)), (3, .int (nI 1)), (0, .ref rt.2.2.1), (1, .ref (60 + 2 * p)), (2, .ref 13)]) (st' := [.int (nI 0), .ref (rt.2.2.1 + 2)]) (h' := HN (ur g (rt.2.2.1 + 2) w) hl (RF rt)) rfl ?_
      refine Ev_iald rfl hk2.k (show _ < _ by rw [hk2.n]; omega) (by rw [hk2.n]; omega) ?_
      refine Ev.topI (congrArg nI (ur_at _ _ _ _)) ?_
      refine Ev.ret (v := some (.int (nI (w 0)))) rfl ?_
      exact hgo
    · have hc31 : ¬ (l.length ≤ k) := fun z => hc31 ((nI_leI (by omega) (by omega)).mpr z)
      exfalso
      omega
  | succ m ih =>
    intro k w S hkm hS hpl
    have hkl : k < l.length := by omega
    have hVu := hV.opw w
    have hlen : ur g (rt.2.2.1 + 2) w rt.2.2.1 2 = l.length := by
      unfold ur
      rw [if_neg (by omega)]
      exact hT1
    obtain ⟨t, hte⟩ : ∃ t, t = l.getD k 0 := ⟨_, rfl⟩
    have htl : l[k]? = some t := by
      rw [hte, List.getD_eq_getElem?_getD, List.getElem?_eq_getElem hkl]
      rfl
    have htk : l.take (k + 1) = l.take k ++ [t] := by
      rw [List.take_add_one, htl]
      rfl
    have htm : t ∈ l := List.mem_of_getElem? htl
    have hst : ur g (rt.2.2.1 + 2) w (rt.2.2.1 + 1) k = trS t := by
      unfold ur
      rw [if_neg (by omega), hT3 k hkl, hte]
    have hst1 : ∀ x, seT g p t S = some x → seL g p (l.take (k + 1)) [] = some x := fun x hx => by
      rw [htk, seL_app, hS]
      show (seT g p t S).bind (fun st => some st) = some x
      rw [hx]
      rfl
    obtain ⟨h0, e0⟩ := htL_to hhb.1 k
    have b0 := hhb.2 _ _ e0
    obtain ⟨h1, e2⟩ := htL_to hhb.1 (k + 1)
    have b1 := hhb.2 _ _ e2
    rw [htk, htL_app, e0] at e2
    have hln : S.length = h0 := by
      obtain ⟨S2, e4, e5⟩ := seL_ht (g := g) (p := p) (S := []) e0
      rw [hS] at e4
      cases e4
      exact e5
    have e2 : htT t S.length = some h1 := by
      have z : (htT t h0).bind (fun x => some x) = some h1 := e2
      rw [hln]
      cases q : htT t h0 with
      | none => rw [q] at z; cases z
      | some x => rw [q] at z; exact z
    unfold htT at e2
    by_cases ht1 : t = 4294967263
    · rw [if_pos ht1] at e2
      cases S with
      | nil => cases e2
      | cons b r =>
        have hx5 : trS t = 4294967293 := by rw [ht1]; decide
        refine KN_not d g hl rt w p hp rt.2.2.1 _ _ hkc hk1 hk2 hr0 hr1 (by omega) hVu _ k hlen hT2 hkl r.length b (by have : (b :: r).length = r.length + 1 := rfl; omega) hpl.top (hst.trans hx5) ?_
        exact ih (k + 1) _ ((allS g &&& (b ^^^ 4294967295)) :: r) (by omega) (hst1 _ (by unfold seT; rw [if_pos ht1])) (plN.push hpl.tail _)
    · rw [if_neg ht1] at e2
      by_cases ht2 : t = 4294967258 ∨ t = 4294967172
      · rw [if_pos ht2] at e2
        cases S with
        | nil => cases e2
        | cons b r0 =>
          cases r0 with
          | nil => cases e2
          | cons a r =>
            have hls : (b :: a :: r).length = r.length + 1 + 1 := rfl
            have hwa : w r.length = a := hpl.tail.top
            have hwb : w (r.length + 1) = b := hpl.top
            rcases ht2 with ht2 | ht2
            · have hx5 : trS t = 4294967295 := by rw [ht2]; decide
              refine KN_and d g hl rt w p hp rt.2.2.1 _ _ hkc hk1 hk2 hr0 hr1 (by omega) hVu _ k hlen hT2 hkl r.length a b (by omega) hwa hwb (hst.trans hx5) ?_
              exact ih (k + 1) _ ((a &&& b) :: r) (by omega) (hst1 _ (by unfold seT; rw [if_neg ht1, if_neg (by omega)]; show some ((if t = 4294967258 then a &&& b else a ||| b) :: r) = _; rw [if_pos ht2])) (plN.push hpl.tail.tail _)
            · have hx5 : trS t = 4294967294 := by rw [ht2]; decide
              refine KN_or d g hl rt w p hp rt.2.2.1 _ _ hkc hk1 hk2 hr0 hr1 (by omega) hVu _ k hlen hT2 hkl r.length a b (by omega) hwa hwb (hst.trans hx5) ?_
              exact ih (k + 1) _ ((a ||| b) :: r) (by omega) (hst1 _ (by unfold seT; rw [if_neg ht1, if_neg (by omega)]; show some ((if t = 4294967258 then a &&& b else a ||| b) :: r) = _; rw [if_neg (by omega)])) (plN.push hpl.tail.tail _)
      · rw [if_neg ht2] at e2
        by_cases ht3 : t < 6000
        · rw [if_pos ht3] at e2
          cases e2
          have hrel := hT4 t htm ht3
          have hx5 : trS t = (t / 1000 * 3 + t / 100 % 10) * 100 + t % 100 := by
            unfold trS
            rw [if_pos (by omega)]
          refine KN_test d g hl rt w p hp rt.2.2.1 _ _ hkc hk1 hk2 hr0 hr1 (by omega) hVu _ k hlen hT2 hkl S.length (by omega) (t / 1000) (t / 100 % 10) (t % 100) t (by omega) hrel (by omega) (by omega) (hst.trans hx5) ?_
          exact ih (k + 1) _ (tsS g p t :: S) (by omega) (hst1 _ (by unfold seT; rw [if_neg ht1, if_pos (by omega)])) (plN.push hpl _)
        · rw [if_neg ht3] at e2; cases e2
theorem K_known {L : Nat} {xs : Nat → Int32} (d : Nat) (g : Nat → Nat → Nat) (hl : Nat → Nat → Int64) (rt : Nat × Nat × Nat × Nat) (hV : Inv g hl rt) (p : Nat) (hp : p < g 166 6)  {Q : Po} (hq : ∀ w, Q (some (.int (nI (knS g p)))) (HN (ur g (rt.2.2.1 + 2) w) hl (RF rt))) : Ev L xs (d + 3) 67 0 [(0, .ref rt.2.2.1), (1, .ref (60 + 2 * p)), (2, .ref 13)] [] (HN g hl (RF rt)) Q := by
  have hI := hV.mi
  have hW := hI.hW
  have hS := hI.hS
  have hPl := hI.hPl
  have hNx := hI.hNx
  have hLa := hI.hLa
  have hLo := hI.hLo
  have hTb := hI.hTb
  have hTh := hI.hTh
  have hFd := hI.hFd
  have hSn := hI.hSn
  have hSh := hI.hSh
  have hRan := hI.hRan
  have hLr := hI.hLr
  have hLt := hI.hLt
  have hgl := hI.hgl
  have hsz := hI.hsz
  have hcm := hI.hcm
  have hsl := hI.hsl
  have hkd := hI.hkd
  have hvv := hI.hvv
  have hli := hI.hli
  have hro := hI.hro
  have hrw := hI.hrw
  have htx := hI.htx
  have hsw := hI.hsw
  have hsx := hI.hsx
  have hsy := hI.hsy
  have hsh := hI.hsh
  have hle := hI.hle
  have hcl := hI.hcl
  have hwd := hI.hwd
  have hnu := hI.hnu
  have hwn := hI.hwn
  have hs1 := hI.hs1
  have hso := hI.hso
  have hB := hV.gm.cb
  have hB0 := hB.1
  have hPs := hV.gm.cs
  have hsp1 := hV.sp.1
  have htx1 := hV.tx.1
  have h451 := hV.gm.rx.1
  have h442 := hV.gm.rx.2.2.2.1
  have h443 := hV.gm.rx.2.2.2.2
  have h481 := hV.gm.l48.1
  have h501 := hV.gm.l50.1
  have h521 := hV.gm.l52.1
  have h541 := hV.gm.l54.1
  have h04 := hV.tb.1
  have hac1 := hV.ac.1
  have hac2 := hV.ac.2.1
  have hPl0 := hV.gm.cp
  obtain ⟨hT1, hT2, hT3, hT4⟩ := hV.tb.st hV.th hI
  refine Ev.run 1 (pc' := 1) (lv' := [(0, .ref rt.2.2.1), (1, .ref (60 + 2 * p)), (2, .ref 13)]) (st' := [.ref rt.2.2.1]) (h' := HN g hl (RF rt)) rfl ?_
  refine Ev_gfI rfl rfl rfl (hV.th.kc hI.hTb).1 ?_
  refine Ev.topI (congrArg nI (rfl)) ?_
  refine Ev.run 1 (pc' := (if nI (g rt.2.2.1 2) = 0 then 15 else 7)) (lv' := [(0, .ref rt.2.2.1), (1, .ref (60 + 2 * p)), (2, .ref 13)]) (st' := []) (h' := HN g hl (RF rt)) rfl ?_
  refine Ev.ite (fun hc4 => ?_) (fun hc4 => ?_)
  · have hc4 : (g rt.2.2.1 2) = 0 := (nI_eqU0 (by omega)).mp hc4
    refine Ev.run 1 (pc' := 16) (lv' := [(0, .ref rt.2.2.1), (1, .ref (60 + 2 * p)), (2, .ref 13)]) (st' := [.ref 13]) (h' := HN g hl (RF rt)) rfl ?_
    refine Ev.call (a := 10) (as := [.ref 13]) (rest := []) (lv0 := [(0, .ref 13)]) (Q1 := (fun z0 h' => z0 = some (.int (nI (allS g))) ∧ h' = HN g hl (RF rt))) rfl rfl (K_all _ _ _ _ hI hB ⟨rfl, rfl⟩) (fun r h' hr => ?_)
    obtain ⟨rfl, rfl⟩ := hr
    refine Ev.ret (v := some (.int (nI (allS g)))) rfl ?_
    have e := hq (g (rt.2.2.1 + 2))
    rw [ur_self, kn_all (Or.inr ⟨List.eq_nil_of_length_eq_zero (hT1.symm.trans hc4), hV.kw⟩)] at e
    exact e
  · have hc4 : ¬ ((g rt.2.2.1 2) = 0) := fun z => hc4 ((nI_eqU0 (by omega)).mpr z)
    refine Ev.run 1 (pc' := 8) (lv' := [(0, .ref rt.2.2.1), (1, .ref (60 + 2 * p)), (2, .ref 13)]) (st' := [.ref (60 + 2 * p)]) (h' := HN g hl (RF rt)) rfl ?_
    have hkp := hkd p (by omega)
    refine Ev_gfI rfl rfl rfl (kcP (show p < 5 by omega)) ?_
    refine Ev.topI (congrArg nI ((hPl0.1 p (by omega)).1)) ?_
    refine Ev.run 2 (pc' := (if nI (g 171 p) = nI 5 then 15 else 20)) (lv' := [(0, .ref rt.2.2.1), (1, .ref (60 + 2 * p)), (2, .ref 13)]) (st' := []) (h' := HN g hl (RF rt)) rfl ?_
    refine Ev.ite (fun hc12 => ?_) (fun hc12 => ?_)
    · have hc12 : (g 171 p) = 5 := (nI_eqU (by omega) (by omega)).mp hc12
      refine Ev.run 1 (pc' := 16) (lv' := [(0, .ref rt.2.2.1), (1, .ref (60 + 2 * p)), (2, .ref 13)]) (st' := [.ref 13]) (h' := HN g hl (RF rt)) rfl ?_
      refine Ev.call (a := 10) (as := [.ref 13]) (rest := []) (lv0 := [(0, .ref 13)]) (Q1 := (fun z0 h' => z0 = some (.int (nI (allS g))) ∧ h' = HN g hl (RF rt))) rfl rfl (K_all _ _ _ _ hI hB ⟨rfl, rfl⟩) (fun r h' hr => ?_)
      obtain ⟨rfl, rfl⟩ := hr
      refine Ev.ret (v := some (.int (nI (allS g)))) rfl ?_
      have e := hq (g (rt.2.2.1 + 2))
      rw [ur_self, kn_all (Or.inl hc12)] at e
      exact e
    · have hc12 : ¬ ((g 171 p) = 5) := fun z => hc12 ((nI_eqU (by omega) (by omega)).mpr z)
      have hkp := hkd p (by omega)
      refine Ev.run 4 (pc' := 25) (lv' := [(4, .int (nI 0)), (3, .int (nI 0)), (0, .ref rt.2.2.1), (1, .ref (60 + 2 * p)), (2, .ref 13)]) (st' := []) (h' := HN g hl (RF rt)) rfl ?_
      have hnz : kcL g (fC g) (nC g) ≠ [] := fun z => by rw [z] at hT1; exact hc4 hT1
      refine Ev.hp (congrArg (fun z => HN z hl (RF rt)) (ur_self g (rt.2.2.1 + 2)).symm) ?_
      exact K_knl _ g hl rt hV p hp hc12 hnz hq _ 0 _ [] (Nat.zero_add _) rfl (fun j hj => absurd hj (Nat.not_lt_zero _))
