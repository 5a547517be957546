/-! the class: who is asked what -/
noncomputable def ftR (g : Nat → Nat → Nat) : Nat := bset (ft g (g 175) (g 166 9)) (g 166 0)
theorem ftR_lt {g : Nat → Nat → Nat} (h : MI g) : ftR g < 4096 := bset_12 _ h.hW
theorem at45 {g : Nat → Nat → Nat} (hI : MI g) (h : RX (g 44) (g 45) (g 46) (g 47) g) (k : Nat) : atLn g 45 k < 4294967296 := by
  rw [atE ⟨h.1, h.2.1⟩]
  split
  · have h1 := hI.hLo
    have h2 := hI.hrw k (by omega)
    omega
  · decide
theorem ftB_row {g : Nat → Nat → Nat} (h : RX (g 44) (g 45) (g 46) (g 47) g) : ftB g 45 (g 45 1) = ftR g := by
  unfold ftB ftR
  rw [h.1]
  refine bset_cg (fun i _ => ?_)
  rw [ft_cg (r' := g 175)]
  intro k hk
  rw [atE ⟨h.1, h.2.1⟩, if_pos hk]
theorem fit0 {g : Nat → Nat → Nat} (r : Nat → Nat) {s : Nat} (hs : s < 2 ^ g 166 0) : fitA g r 0 s = s := by
  refine nat_tb_ext fun i => ?_
  unfold fitA
  rw [bset_tb, ft_z, Bool.and_true]
  by_cases h : i < g 166 0
  · rw [decide_eq_true h, Bool.true_and]
  · rw [decide_eq_false h, Bool.false_and]
    exact (Nat.testBit_lt_two_pow (Nat.lt_of_lt_of_le hs (Nat.pow_le_pow_right (by decide) (by omega)))).symm
theorem XL_ok {g : Nat → Nat → Nat} {s n : Nat} (h : LOK g s (lwS g 1) (g 18) 6) : (n < 6 → XL g n = lsW g s (lwS g 1) (6 - n)) ∧ (6 ≤ n → XL g n = 0) := by
  unfold XL
  constructor
  · intro hn
    rw [if_pos (by omega)]
    have := h (5 - n) (by omega)
    rw [show 6 - (5 - n) = n + 1 by omega, show 5 - n + 1 = 6 - n by omega] at this
    exact this
  · intro hn
    rw [if_neg (by omega)]
theorem XL_lt {g : Nat → Nat → Nat} (h : ∀ j, j < 7 → g 18 j < 4096) (n : Nat) : XL g n < 4096 := by
  unfold XL
  split
  · exact h _ (by omega)
  · decide
theorem K_weighE {L : Nat} {xs : Nat → Int32} (d : Nat) (g : Nat → Nat → Nat) (hl : Nat → Nat → Int64) (rt : Nat × Nat × Nat × Nat) (hV : Inv g hl rt) (s : Nat) (hs : s < 4096) {Q : Po} (hq : ∀ g1, Inv g1 hl rt → Em g g1 → Fr g g1 → LOK g1 s (lwS g1 1) (g1 18) 6 → Q none (HN g1 hl (RF rt))) : Ev L xs (d + 4) 18 0 [(0, .ref 13), (1, .int (nI s)), (2, .int (nI (lwS g 1)))] [] (HN g hl (RF rt)) Q := by
  have hI := hV.mi
  have hk18 := hV.k18
  have hly := lwS_le hI 1
  refine K_weigh0 _ g hl rt hI hV.gm.cb s (lwS g 1) hs (by omega) (fun u hu hu0 => ?_)
  have hem2 : Em g (ur g 18 u) := Em.ownr g (by decide) u
  refine hq _ (hV.w18 (fun j hj => ?_)) hem2 (Fr.k18 g u) (fun j hj => ?_)
  · by_cases e : j = 0
    · rw [e, hu0]; exact hk18 0 (by decide)
    · have := hu (6 - j) (by omega)
      rw [show 6 - (6 - j) = j by omega] at this
      rw [this]
      exact lsW_lt hI _ _ _
  · rw [hem2.xlwS, lsW_u18]
    exact (ur_at g 18 u _).trans (hu j hj)
theorem K_may {L : Nat} {xs : Nat → Int32} (d : Nat) (g : Nat → Nat → Nat) (hl : Nat → Nat → Int64) (rt : Nat × Nat × Nat × Nat) (hV : Inv g hl rt) (hkn : KNW g) (p : Nat) (hp : p < g 166 6)  {Q : Po} (hq : Q (some (.int (nI (maS g p)))) (HN g hl (RF rt))) : Ev L xs (d + 3) 30 0 [(0, .ref 12), (1, .int (nI p))] [] (HN g hl (RF rt)) Q := by
  have hI := hV.mi
  have hW := hI.hW
  have hS := hI.hS
  have hPl := hI.hPl
  have hNx := hI.hNx
  have hLa := hI.hLa
  have hLo := hI.hLo
  have hTb := hI.hTb
  have hTh := hI.hTh
  have hFd := hI.hFd
  have hSn := hI.hSn
  have hSh := hI.hSh
  have hRan := hI.hRan
  have hLr := hI.hLr
  have hLt := hI.hLt
  have hgl := hI.hgl
  have hsz := hI.hsz
  have hcm := hI.hcm
  have hsl := hI.hsl
  have hkd := hI.hkd
  have hvv := hI.hvv
  have hli := hI.hli
  have hro := hI.hro
  have hrw := hI.hrw
  have htx := hI.htx
  have hsw := hI.hsw
  have hsx := hI.hsx
  have hsy := hI.hsy
  have hsh := hI.hsh
  have hle := hI.hle
  have hcl := hI.hcl
  have hwd := hI.hwd
  have hnu := hI.hnu
  have hwn := hI.hwn
  have hs1 := hI.hs1
  have hso := hI.hso
  have hB := hV.gm.cb
  have hB0 := hB.1
  have hPs := hV.gm.cs
  have hsp1 := hV.sp.1
  have htx1 := hV.tx.1
  have h451 := hV.gm.rx.1
  have h442 := hV.gm.rx.2.2.2.1
  have h443 := hV.gm.rx.2.2.2.2
  have h481 := hV.gm.l48.1
  have h501 := hV.gm.l50.1
  have h521 := hV.gm.l52.1
  have h541 := hV.gm.l54.1
  have h04 := hV.tb.1
  have hac1 := hV.ac.1
  have hac2 := hV.ac.2.1
  have hPl0 := hV.gm.cp
  refine Ev.run 11 (pc' := 25) (lv' := [(0, .ref 12), (1, .int (nI p))]) (st' := [.int (nI (g 45 1)), .ref 45, .ref 13, .ref 13]) (h' := HN g hl (RF rt)) rfl ?_
  refine Ev.call (a := 13) (as := [.ref 13, .ref 45, .int (nI (g 45 1))]) (rest := [.ref 13]) (lv0 := [(0, .ref 13), (1, .ref 45), (2, .int (nI (g 45 1)))]) (Q1 := (fun z0 h' => z0 = some (.int (nI (ftR g))) ∧ h' = HN g hl (RF rt))) rfl rfl (K_fitting _ _ _ _ hI hB 45 12 (ln45 rt) (g 45 1) (by omega) (by omega) (at45 hI hV.gm.rx) ⟨congrArg (fun z => some (Value.int (nI z))) (ftB_row hV.gm.rx), rfl⟩) (fun r h' hr => ?_)
  obtain ⟨rfl, rfl⟩ := hr
  have hfr := ftR_lt hI
  refine Ev.run 3 (pc' := 33) (lv' := [(0, .ref 12), (1, .int (nI p))]) (st' := [.int (nI p), .ref 59, .int (nI (ftR g)), .ref 13]) (h' := HN g hl (RF rt)) rfl ?_
  refine Ev_iald rfl rfl (show p < 5 by omega) (Nat.le_of_ble_eq_true rfl) ?_
  refine Ev.run 1 (pc' := 35) (lv' := [(0, .ref 12), (1, .int (nI p))]) (st' := [.int (nI (ftR g) &&& nI (g 59 p)), .ref 13]) (h' := HN g hl (RF rt)) rfl ?_
  refine Ev.topI ((nIa _ _).trans (congrArg nI (show ftR g &&& g 59 p = fitA g (g 175) (g 166 9) (knS g p) from by rw [hkn p hp]; exact fit_and g (g 175) (g 166 9) (knS g p)))) ?_
  refine Ev.run 4 (pc' := 45) (lv' := [(0, .ref 12), (1, .int (nI p))]) (st' := [.int (nI (g 45 1)), .int (nI (fitA g (g 175) (g 166 9) (knS g p))), .ref 13]) (h' := HN g hl (RF rt)) rfl ?_
  refine Ev.call (a := 16) (as := [.ref 13, .int (nI (fitA g (g 175) (g 166 9) (knS g p))), .int (nI (g 45 1))]) (rest := []) (lv0 := [(0, .ref 13), (1, .int (nI (fitA g (g 175) (g 166 9) (knS g p)))), (2, .int (nI (g 45 1)))]) (Q1 := (fun z0 h' => z0 = some (.int (nI (maS g p))) ∧ h' = HN g hl (RF rt))) rfl rfl (K_going _ _ _ _ hI hB (fitA g (g 175) (g 166 9) (knS g p)) (fitA_lt hI _ _ _) (g 45 1) (by omega) ⟨congrArg (fun z => some (Value.int (nI z))) (by rw [h451, goG_eq hI]; rfl), rfl⟩) (fun r h' hr => ?_)
  obtain ⟨rfl, rfl⟩ := hr
  refine Ev.ret (v := some (.int (nI (maS g p)))) rfl ?_
  exact hq
theorem K_safe {L : Nat} {xs : Nat → Int32} (d : Nat) (g : Nat → Nat → Nat) (hl : Nat → Nat → Int64) (rt : Nat × Nat × Nat × Nat) (hV : Inv g hl rt) (hkn : KNW g) (p : Nat) (hp : p < g 166 6)  {Q : Po} (hq : Q (some (.int (nI (saS g (maS g p))))) (HN g hl (RF rt))) : Ev L xs (d + 4) 31 0 [(0, .ref 12), (1, .int (nI p))] [] (HN g hl (RF rt)) Q := by
  have hI := hV.mi
  have hW := hI.hW
  have hS := hI.hS
  have hPl := hI.hPl
  have hNx := hI.hNx
  have hLa := hI.hLa
  have hLo := hI.hLo
  have hTb := hI.hTb
  have hTh := hI.hTh
  have hFd := hI.hFd
  have hSn := hI.hSn
  have hSh := hI.hSh
  have hRan := hI.hRan
  have hLr := hI.hLr
  have hLt := hI.hLt
  have hgl := hI.hgl
  have hsz := hI.hsz
  have hcm := hI.hcm
  have hsl := hI.hsl
  have hkd := hI.hkd
  have hvv := hI.hvv
  have hli := hI.hli
  have hro := hI.hro
  have hrw := hI.hrw
  have htx := hI.htx
  have hsw := hI.hsw
  have hsx := hI.hsx
  have hsy := hI.hsy
  have hsh := hI.hsh
  have hle := hI.hle
  have hcl := hI.hcl
  have hwd := hI.hwd
  have hnu := hI.hnu
  have hwn := hI.hwn
  have hs1 := hI.hs1
  have hso := hI.hso
  have hB := hV.gm.cb
  have hB0 := hB.1
  have hPs := hV.gm.cs
  have hsp1 := hV.sp.1
  have htx1 := hV.tx.1
  have h451 := hV.gm.rx.1
  have h442 := hV.gm.rx.2.2.2.1
  have h443 := hV.gm.rx.2.2.2.2
  have h481 := hV.gm.l48.1
  have h501 := hV.gm.l50.1
  have h521 := hV.gm.l52.1
  have h541 := hV.gm.l54.1
  have h04 := hV.tb.1
  have hac1 := hV.ac.1
  have hac2 := hV.ac.2.1
  have hPl0 := hV.gm.cp
  have hly := lwS_le hI 1
  refine Ev.run 9 (pc' := 21) (lv' := [(0, .ref 12), (1, .int (nI p))]) (st' := [.int (nI (g 45 1)), .ref 45, .ref 13]) (h' := HN g hl (RF rt)) rfl ?_
  refine Ev.call (a := 13) (as := [.ref 13, .ref 45, .int (nI (g 45 1))]) (rest := []) (lv0 := [(0, .ref 13), (1, .ref 45), (2, .int (nI (g 45 1)))]) (Q1 := (fun z0 h' => z0 = some (.int (nI (ftR g))) ∧ h' = HN g hl (RF rt))) rfl rfl (K_fitting _ _ _ _ hI hB 45 12 (ln45 rt) (g 45 1) (by omega) (by omega) (at45 hI hV.gm.rx) ⟨congrArg (fun z => some (Value.int (nI z))) (ftB_row hV.gm.rx), rfl⟩) (fun r h' hr => ?_)
  obtain ⟨rfl, rfl⟩ := hr
  have hfr := ftR_lt hI
  refine Ev.run 10 (pc' := 42) (lv' := [(2, .int (nI (ftR g))), (0, .ref 12), (1, .int (nI p))]) (st' := [.int (nI p), .ref 12, .int (nI (g 45 1)), .int (nI (ftR g)), .ref 13]) (h' := HN g hl (RF rt)) rfl ?_
  refine Ev.call (a := 30) (as := [.ref 12, .int (nI p)]) (rest := [.int (nI (g 45 1)), .int (nI (ftR g)), .ref 13]) (lv0 := [(0, .ref 12), (1, .int (nI p))]) (Q1 := (fun z0 h' => z0 = some (.int (nI (maS g p))) ∧ h' = HN g hl (RF rt))) rfl rfl (K_may _ _ _ _ hV hkn p hp ⟨rfl, rfl⟩) (fun r h' hr => ?_)
  obtain ⟨rfl, rfl⟩ := hr
  have hma := maS_lt hI p
  refine Ev.run 2 (pc' := 49) (lv' := [(2, .int (nI (ftR g))), (0, .ref 12), (1, .int (nI p))]) (st' := [.ref rt.2.2.1, .int (nI (maS g p)), .int (nI (g 45 1)), .int (nI (ftR g)), .ref 13]) (h' := HN g hl (RF rt)) rfl ?_
  refine Ev_gfI rfl rfl rfl (hV.th.kc hI.hTb).1 ?_
  refine Ev.topI (congrArg nI ((hV.tb.lw hV.th hI).1)) ?_
  refine Ev.call (a := 17) (as := [.ref 13, .int (nI (ftR g)), .int (nI (g 45 1)), .int (nI (maS g p)), .int (nI (lwS g 1))]) (rest := []) (lv0 := [(0, .ref 13), (1, .int (nI (ftR g))), (2, .int (nI (g 45 1))), (3, .int (nI (maS g p))), (4, .int (nI (lwS g 1)))]) (Q1 := (fun z0 h' => z0 = some (.int (nI (saS g (maS g p)))) ∧ h' = HN g hl (RF rt))) rfl rfl (K_notEnding _ _ _ _ hI hB (ftR g) hfr (g 45 1) (by omega) (maS g p) (lwS g 1) (by omega) (by omega) ⟨congrArg (fun z => some (Value.int (nI z))) (by rw [h451]; exact neS_eq g (g 175) (g 166 9) (maS g p) (lwS g 1)), rfl⟩) (fun r h' hr => ?_)
  obtain ⟨rfl, rfl⟩ := hr
  refine Ev.ret (v := some (.int (nI (saS g (maS g p))))) rfl ?_
  exact hq
theorem K_of2 {L : Nat} {xs : Nat → Int32} (d : Nat) (g : Nat → Nat → Nat) (hl : Nat → Nat → Int64) (rt : Nat × Nat × Nat × Nat) (hV : Inv g hl rt) (hkn : KNW g) (p : Nat) (hp : p < g 166 6) (x : Nat) (hx : x < 2 ^ 32)  {Q : Po} (hq : Q (some (.int (nI (rs_of g p x)))) (HN g hl (RF rt))) : Ev L xs (d + 5) 80 20 [(0, .ref 0), (1, .int (nI p)), (2, .int (nI x))] [] (HN g hl (RF rt)) Q := by
  have hI := hV.mi
  have hW := hI.hW
  have hS := hI.hS
  have hPl := hI.hPl
  have hNx := hI.hNx
  have hLa := hI.hLa
  have hLo := hI.hLo
  have hTb := hI.hTb
  have hTh := hI.hTh
  have hFd := hI.hFd
  have hSn := hI.hSn
  have hSh := hI.hSh
  have hRan := hI.hRan
  have hLr := hI.hLr
  have hLt := hI.hLt
  have hgl := hI.hgl
  have hsz := hI.hsz
  have hcm := hI.hcm
  have hsl := hI.hsl
  have hkd := hI.hkd
  have hvv := hI.hvv
  have hli := hI.hli
  have hro := hI.hro
  have hrw := hI.hrw
  have htx := hI.htx
  have hsw := hI.hsw
  have hsx := hI.hsx
  have hsy := hI.hsy
  have hsh := hI.hsh
  have hle := hI.hle
  have hcl := hI.hcl
  have hwd := hI.hwd
  have hnu := hI.hnu
  have hwn := hI.hwn
  have hs1 := hI.hs1
  have hso := hI.hso
  have hB := hV.gm.cb
  have hB0 := hB.1
  have hPs := hV.gm.cs
  have hsp1 := hV.sp.1
  have htx1 := hV.tx.1
  have h451 := hV.gm.rx.1
  have h442 := hV.gm.rx.2.2.2.1
  have h443 := hV.gm.rx.2.2.2.2
  have h481 := hV.gm.l48.1
  have h501 := hV.gm.l50.1
  have h521 := hV.gm.l52.1
  have h541 := hV.gm.l54.1
  have h04 := hV.tb.1
  have hac1 := hV.ac.1
  have hac2 := hV.ac.2.1
  have hPl0 := hV.gm.cp
  refine Ev.run 1 (pc' := 21) (lv' := [(0, .ref 0), (1, .int (nI p)), (2, .int (nI x))]) (st' := [.int (nI x)]) (h' := HN g hl (RF rt)) rfl ?_
  by_cases hs21_0 : x = 0
  · refine Ev.topI (congrArg nI hs21_0) ?_
    refine Ev.run 5 (pc' := 68) (lv' := [(0, .ref 0), (1, .int (nI p)), (2, .int (nI x))]) (st' := [.int (nI p), .ref 43]) (h' := HN g hl (RF rt)) rfl ?_
    refine Ev_aald (c := (60 + 2 * p)) rfl (by decide) rfl (show p < 5 by omega) (Nat.le_of_ble_eq_true rfl) (sh_pl rt p (by omega)).2.2.1 ?_
    refine Ev_gfI rfl rfl rfl (kcP (show p < 5 by omega)) ?_
    refine Ev.topI (congrArg nI ((hPl0.1 p (by omega)).1)) ?_
    refine Ev.ret (v := some (.int (nI (g 171 p)))) rfl ?_
    unfold rs_of at hq
    (repeat (first | rw [if_pos (by omega)] at hq | rw [if_neg (by omega)] at hq))
    first | exact hq | (rw [hV.gm.rx.2.2.1 p (by omega)]; exact hq) | (rw [hkn p hp]; exact hq)
  by_cases hs21_1 : x = 1
  · refine Ev.topI (congrArg nI hs21_1) ?_
    refine Ev.run 5 (pc' := 81) (lv' := [(0, .ref 0), (1, .int (nI p)), (2, .int (nI x))]) (st' := [.int (nI p), .ref 43]) (h' := HN g hl (RF rt)) rfl ?_
    refine Ev_aald (c := (60 + 2 * p)) rfl (by decide) rfl (show p < 5 by omega) (Nat.le_of_ble_eq_true rfl) (sh_pl rt p (by omega)).2.2.1 ?_
    refine Ev_gfI rfl rfl rfl (kcP (show p < 5 by omega)) ?_
    refine Ev.topI (congrArg nI ((hPl0.1 p (by omega)).2)) ?_
    refine Ev.ret (v := some (.int (nI (g 172 p)))) rfl ?_
    unfold rs_of at hq
    (repeat (first | rw [if_pos (by omega)] at hq | rw [if_neg (by omega)] at hq))
    first | exact hq | (rw [hV.gm.rx.2.2.1 p (by omega)]; exact hq) | (rw [hkn p hp]; exact hq)
  by_cases hs21_2 : x = 2
  · refine Ev.topI (congrArg nI hs21_2) ?_
    refine Ev.run 6 (pc' := 97) (lv' := [(0, .ref 0), (1, .int (nI p)), (2, .int (nI x))]) (st' := [.int (nI p), .ref 47]) (h' := HN g hl (RF rt)) rfl ?_
    refine Ev_iald rfl rfl (show p < 5 by omega) (Nat.le_of_ble_eq_true rfl) ?_
    refine Ev.ret (v := some (.int (nI (g 47 p)))) rfl ?_
    unfold rs_of at hq
    (repeat (first | rw [if_pos (by omega)] at hq | rw [if_neg (by omega)] at hq))
    first | exact hq | (rw [hV.gm.rx.2.2.1 p (by omega)]; exact hq) | (rw [hkn p hp]; exact hq)
  by_cases hs21_3 : x = 3
  · refine Ev.topI (congrArg nI hs21_3) ?_
    refine Ev.run 4 (pc' := 104) (lv' := [(0, .ref 0), (1, .int (nI p)), (2, .int (nI x))]) (st' := [.int (nI p), .ref 12]) (h' := HN g hl (RF rt)) rfl ?_
    refine Ev.call (a := 30) (as := [.ref 12, .int (nI p)]) (rest := []) (lv0 := [(0, .ref 12), (1, .int (nI p))]) (Q1 := (fun z0 h' => z0 = some (.int (nI (maS g p))) ∧ h' = HN g hl (RF rt))) rfl rfl (K_may _ _ _ _ hV hkn p hp ⟨rfl, rfl⟩) (fun r h' hr => ?_)
    obtain ⟨rfl, rfl⟩ := hr
    have hma := maS_lt hI p
    refine Ev.ret (v := some (.int (nI (maS g p)))) rfl ?_
    unfold rs_of at hq
    (repeat (first | rw [if_pos (by omega)] at hq | rw [if_neg (by omega)] at hq))
    first | exact hq | (rw [hV.gm.rx.2.2.1 p (by omega)]; exact hq) | (rw [hkn p hp]; exact hq)
  by_cases hs21_4 : x = 4
  · refine Ev.topI (congrArg nI hs21_4) ?_
    refine Ev.run 4 (pc' := 113) (lv' := [(0, .ref 0), (1, .int (nI p)), (2, .int (nI x))]) (st' := [.int (nI p), .ref 12]) (h' := HN g hl (RF rt)) rfl ?_
    refine Ev.call (a := 31) (as := [.ref 12, .int (nI p)]) (rest := []) (lv0 := [(0, .ref 12), (1, .int (nI p))]) (Q1 := (fun z0 h' => z0 = some (.int (nI (saS g (maS g p)))) ∧ h' = HN g hl (RF rt))) rfl rfl (K_safe _ _ _ _ hV hkn p hp ⟨rfl, rfl⟩) (fun r h' hr => ?_)
    obtain ⟨rfl, rfl⟩ := hr
    refine Ev.ret (v := some (.int (nI (saS g (maS g p))))) rfl ?_
    unfold rs_of at hq
    (repeat (first | rw [if_pos (by omega)] at hq | rw [if_neg (by omega)] at hq))
    first | exact hq | (rw [hV.gm.rx.2.2.1 p (by omega)]; exact hq) | (rw [hkn p hp]; exact hq)
  by_cases hs21_5 : x = 5
  · refine Ev.topI (congrArg nI hs21_5) ?_
    refine Ev.run 5 (pc' := 125) (lv' := [(0, .ref 0), (1, .int (nI p)), (2, .int (nI x))]) (st' := [.int (nI p), .ref 59]) (h' := HN g hl (RF rt)) rfl ?_
    refine Ev_iald rfl rfl (show p < 5 by omega) (Nat.le_of_ble_eq_true rfl) ?_
    refine Ev.ret (v := some (.int (nI (g 59 p)))) rfl ?_
    unfold rs_of at hq
    (repeat (first | rw [if_pos (by omega)] at hq | rw [if_neg (by omega)] at hq))
    first | exact hq | (rw [hV.gm.rx.2.2.1 p (by omega)]; exact hq) | (rw [hkn p hp]; exact hq)
  refine Ev_tsOut (tgt := 127) rfl (sw_out (x := x) (hi := 5) (by omega) (by omega) (by omega)) rfl ?_
  refine Ev.run 1 (pc' := 128) (lv' := [(0, .ref 0), (1, .int (nI p)), (2, .int (nI x))]) (st' := [.int (nI 4294967295)]) (h' := HN g hl (RF rt)) rfl ?_
  refine Ev.ret (v := some (.int (nI 4294967295))) rfl ?_
  unfold rs_of at hq
  (repeat (first | rw [if_pos (by omega)] at hq | rw [if_neg (by omega)] at hq))
  first | exact hq | (rw [hV.gm.rx.2.2.1 p (by omega)]; exact hq) | (rw [hkn p hp]; exact hq)
theorem K_of {L : Nat} {xs : Nat → Int32} (d : Nat) (g : Nat → Nat → Nat) (hl : Nat → Nat → Int64) (rt : Nat × Nat × Nat × Nat) (hV : Inv g hl rt) (p : Nat) (x : Nat) (hp : p < 2 ^ 32) (hx : x < 2 ^ 32) {Q : Po} (hq : ∀ g1, Inv g1 hl rt → Q (some (.int (nI (rs_of g1 p x)))) (HN g1 hl (RF rt))) : Ev L xs (d + 6) 80 0 [(0, .ref 0), (1, .int (nI p)), (2, .int (nI x))] [] (HN g hl (RF rt)) Q := by
  have hI := hV.mi
  have hW := hI.hW
  have hS := hI.hS
  have hPl := hI.hPl
  have hNx := hI.hNx
  have hLa := hI.hLa
  have hLo := hI.hLo
  have hTb := hI.hTb
  have hTh := hI.hTh
  have hFd := hI.hFd
  have hSn := hI.hSn
  have hSh := hI.hSh
  have hRan := hI.hRan
  have hLr := hI.hLr
  have hLt := hI.hLt
  have hgl := hI.hgl
  have hsz := hI.hsz
  have hcm := hI.hcm
  have hsl := hI.hsl
  have hkd := hI.hkd
  have hvv := hI.hvv
  have hli := hI.hli
  have hro := hI.hro
  have hrw := hI.hrw
  have htx := hI.htx
  have hsw := hI.hsw
  have hsx := hI.hsx
  have hsy := hI.hsy
  have hsh := hI.hsh
  have hle := hI.hle
  have hcl := hI.hcl
  have hwd := hI.hwd
  have hnu := hI.hnu
  have hwn := hI.hwn
  have hs1 := hI.hs1
  have hso := hI.hso
  have hB := hV.gm.cb
  have hB0 := hB.1
  have hPs := hV.gm.cs
  have hsp1 := hV.sp.1
  have htx1 := hV.tx.1
  have h451 := hV.gm.rx.1
  have h442 := hV.gm.rx.2.2.2.1
  have h443 := hV.gm.rx.2.2.2.2
  have h481 := hV.gm.l48.1
  have h501 := hV.gm.l50.1
  have h521 := hV.gm.l52.1
  have h541 := hV.gm.l54.1
  have h04 := hV.tb.1
  have hac1 := hV.ac.1
  have hac2 := hV.ac.2.1
  have hPl0 := hV.gm.cp
  refine Ev.run 3 (pc' := 5) (lv' := [(0, .ref 0), (1, .int (nI p)), (2, .int (nI x))]) (st' := [.int (nI p), .ref 12]) (h' := HN g hl (RF rt)) rfl ?_
  refine Ev.call (a := 22) (as := [.ref 12, .int (nI p)]) (rest := []) (lv0 := [(0, .ref 12), (1, .int (nI p))]) (Q1 := (fun z0 h' => z0 = some (.int (nI (bn (decide (p < g 166 6))))) ∧ h' = HN g hl (RF rt))) rfl rfl (K_hasPlayer _ _ _ _ hI hPs p (by omega) ⟨rfl, rfl⟩) (fun r h' hr => ?_)
  obtain ⟨rfl, rfl⟩ := hr
  refine Ev_bn (fun hb8 => ?_) (fun hb8 => ?_)
  · have hhb8 : p < g 166 6 := of_decide_eq_true hb8
    refine Ev.run 3 (pc' := 17) (lv' := [(0, .ref 0), (1, .int (nI p)), (2, .int (nI x))]) (st' := [.ref 12]) (h' := HN g hl (RF rt)) rfl ?_
    refine Ev.call (a := 27) (as := [.ref 12]) (rest := []) (lv0 := [(0, .ref 12)]) (Q1 := (fun z0 h' => z0 = none ∧ ∃ g1, h' = HN g1 hl (RF rt) ∧ Inv g1 hl rt ∧ Em g g1 ∧ Fr g g1 ∧ KNW g1)) rfl rfl (K_recallE _ g hl rt hV (fun g1 h1 h2 h3 h4 => ⟨rfl, g1, rfl, h1, h2, h3, h4⟩)) (fun r h' hr => ?_)
    obtain ⟨rfl, g1, rfl, hV1, hem, hfr, hkn⟩ := hr
    exact K_of2 _ g1 hl rt hV1 hkn p (by rw [hem.f6]; omega) x (by omega) (hq g1 hV1)
  · have hhb8 : ¬ (p < g 166 6) := of_decide_eq_false hb8
    refine Ev.run 2 (pc' := 12) (lv' := [(0, .ref 0), (1, .int (nI p)), (2, .int (nI x))]) (st' := [.int (nI 4294967295)]) (h' := HN g hl (RF rt)) rfl ?_
    refine Ev.ret (v := some (.int (nI 4294967295))) rfl ?_
    have e := hq g hV
    unfold rs_of at e
    (repeat (first | rw [if_pos (by omega)] at e | rw [if_neg (by omega)] at e))
    exact e
theorem K_has2 {L : Nat} {xs : Nat → Int32} (d : Nat) (g : Nat → Nat → Nat) (hl : Nat → Nat → Int64) (rt : Nat × Nat × Nat × Nat) (hV : Inv g hl rt) (hkn : KNW g) (p : Nat) (hp : p < g 166 6) (x : Nat) (hx : x < 2 ^ 32) (hx1 : x ≤ 1)  {Q : Po} (hq : Q (some (.int (nI (rs_has g p x)))) (HN g hl (RF rt))) : Ev L xs (d + 4) 92 29 [(0, .ref 0), (1, .int (nI p)), (2, .int (nI x))] [] (HN g hl (RF rt)) Q := by
  have hI := hV.mi
  have hW := hI.hW
  have hS := hI.hS
  have hPl := hI.hPl
  have hNx := hI.hNx
  have hLa := hI.hLa
  have hLo := hI.hLo
  have hTb := hI.hTb
  have hTh := hI.hTh
  have hFd := hI.hFd
  have hSn := hI.hSn
  have hSh := hI.hSh
  have hRan := hI.hRan
  have hLr := hI.hLr
  have hLt := hI.hLt
  have hgl := hI.hgl
  have hsz := hI.hsz
  have hcm := hI.hcm
  have hsl := hI.hsl
  have hkd := hI.hkd
  have hvv := hI.hvv
  have hli := hI.hli
  have hro := hI.hro
  have hrw := hI.hrw
  have htx := hI.htx
  have hsw := hI.hsw
  have hsx := hI.hsx
  have hsy := hI.hsy
  have hsh := hI.hsh
  have hle := hI.hle
  have hcl := hI.hcl
  have hwd := hI.hwd
  have hnu := hI.hnu
  have hwn := hI.hwn
  have hs1 := hI.hs1
  have hso := hI.hso
  have hB := hV.gm.cb
  have hB0 := hB.1
  have hPs := hV.gm.cs
  have hsp1 := hV.sp.1
  have htx1 := hV.tx.1
  have h451 := hV.gm.rx.1
  have h442 := hV.gm.rx.2.2.2.1
  have h443 := hV.gm.rx.2.2.2.2
  have h481 := hV.gm.l48.1
  have h501 := hV.gm.l50.1
  have h521 := hV.gm.l52.1
  have h541 := hV.gm.l54.1
  have h04 := hV.tb.1
  have hac1 := hV.ac.1
  have hac2 := hV.ac.2.1
  have hPl0 := hV.gm.cp
  refine Ev.run 12 (pc' := 59) (lv' := [(0, .ref 0), (1, .int (nI p)), (2, .int (nI x))]) (st' := [.int (nI (g 45 1)), .ref 45, .ref 13]) (h' := HN g hl (RF rt)) rfl ?_
  refine Ev.call (a := 13) (as := [.ref 13, .ref 45, .int (nI (g 45 1))]) (rest := []) (lv0 := [(0, .ref 13), (1, .ref 45), (2, .int (nI (g 45 1)))]) (Q1 := (fun z0 h' => z0 = some (.int (nI (ftR g))) ∧ h' = HN g hl (RF rt))) rfl rfl (K_fitting _ _ _ _ hI hB 45 12 (ln45 rt) (g 45 1) (by omega) (by omega) (at45 hI hV.gm.rx) ⟨congrArg (fun z => some (Value.int (nI z))) (ftB_row hV.gm.rx), rfl⟩) (fun r h' hr => ?_)
  obtain ⟨rfl, rfl⟩ := hr
  have hfr := ftR_lt hI
  refine Ev.run 4 (pc' := 70) (lv' := [(0, .ref 0), (1, .int (nI p)), (2, .int (nI x))]) (st' := [.int (nI p), .ref 59, .int (nI (ftR g))]) (h' := HN g hl (RF rt)) rfl ?_
  refine Ev_iald rfl rfl (show p < 5 by omega) (Nat.le_of_ble_eq_true rfl) ?_
  refine Ev.run 1 (pc' := 72) (lv' := [(0, .ref 0), (1, .int (nI p)), (2, .int (nI x))]) (st' := [.int (nI (ftR g) &&& nI (g 59 p))]) (h' := HN g hl (RF rt)) rfl ?_
  refine Ev.topI ((nIa _ _).trans (congrArg nI (show ftR g &&& g 59 p = fitA g (g 175) (g 166 9) (knS g p) from by rw [hkn p hp]; exact fit_and g (g 175) (g 166 9) (knS g p)))) ?_
  have hfl := fitA_lt hI (g 175) (g 166 9) (knS g p)
  refine Ev.run 3 (pc' := (if nI x = 0 then 77 else 82)) (lv' := [(3, .int (nI (fitA g (g 175) (g 166 9) (knS g p)))), (0, .ref 0), (1, .int (nI p)), (2, .int (nI x))]) (st' := []) (h' := HN g hl (RF rt)) rfl ?_
  refine Ev.ite (fun hc74 => ?_) (fun hc74 => ?_)
  · have hc74 : x = 0 := (nI_eqU0 (by omega)).mp hc74
    refine Ev.run 1 (pc' := 78) (lv' := [(3, .int (nI (fitA g (g 175) (g 166 9) (knS g p)))), (0, .ref 0), (1, .int (nI p)), (2, .int (nI x))]) (st' := [.int (nI (fitA g (g 175) (g 166 9) (knS g p)))]) (h' := HN g hl (RF rt)) rfl ?_
    refine Ev.call (a := 253) (as := [.int (nI (fitA g (g 175) (g 166 9) (knS g p)))]) (rest := []) (lv0 := [(0, .int (nI (fitA g (g 175) (g 166 9) (knS g p))))]) (Q1 := (fun z0 h' => z0 = some (.int (nI (ones12 (fitA g (g 175) (g 166 9) (knS g p))))) ∧ h' = HN g hl (RF rt))) rfl rfl (K_bitCount _ _ (fitA g (g 175) (g 166 9) (knS g p)) (fitA_lt hI _ _ _) ⟨rfl, rfl⟩) (fun r h' hr => ?_)
    obtain ⟨rfl, rfl⟩ := hr
    refine Ev.ret (v := some (.int (nI (ones12 (fitA g (g 175) (g 166 9) (knS g p)))))) rfl ?_
    unfold rs_has at hq
    (repeat (first | rw [if_pos (by omega)] at hq | rw [if_neg (by omega)] at hq))
    first | exact hq | (rw [frS_nz (by omega)]; exact hq)
  · have hc74 : ¬ (x = 0) := fun z => hc74 ((nI_eqU0 (by omega)).mpr z)
    refine Ev.run 2 (pc' := (if nI (fitA g (g 175) (g 166 9) (knS g p)) = 0 then 86 else 91)) (lv' := [(3, .int (nI (fitA g (g 175) (g 166 9) (knS g p)))), (0, .ref 0), (1, .int (nI p)), (2, .int (nI x))]) (st' := []) (h' := HN g hl (RF rt)) rfl ?_
    refine Ev.ite (fun hc83 => ?_) (fun hc83 => ?_)
    · have hc83 : (fitA g (g 175) (g 166 9) (knS g p)) = 0 := (nI_eqU0 (by omega)).mp hc83
      refine Ev.run 2 (pc' := 95) (lv' := [(3, .int (nI (fitA g (g 175) (g 166 9) (knS g p)))), (0, .ref 0), (1, .int (nI p)), (2, .int (nI x))]) (st' := [.int (nI 4294967291)]) (h' := HN g hl (RF rt)) rfl ?_
      refine Ev.ret (v := some (.int (nI 4294967291))) rfl ?_
      unfold rs_has at hq
      (repeat (first | rw [if_pos (by omega)] at hq | rw [if_neg (by omega)] at hq))
      first | exact hq | (rw [frS_nz (by omega)]; exact hq)
    · have hc83 : ¬ ((fitA g (g 175) (g 166 9) (knS g p)) = 0) := fun z => hc83 ((nI_eqU0 (by omega)).mpr z)
      refine Ev.run 1 (pc' := 92) (lv' := [(3, .int (nI (fitA g (g 175) (g 166 9) (knS g p)))), (0, .ref 0), (1, .int (nI p)), (2, .int (nI x))]) (st' := [.int (nI (fitA g (g 175) (g 166 9) (knS g p)))]) (h' := HN g hl (RF rt)) rfl ?_
      refine Ev.call (a := 123) (as := [.int (nI (fitA g (g 175) (g 166 9) (knS g p)))]) (rest := []) (lv0 := [(0, .int (nI (fitA g (g 175) (g 166 9) (knS g p))))]) (Q1 := (fun z0 h' => z0 = some (.int (nI (frS (fitA g (g 175) (g 166 9) (knS g p))))) ∧ h' = HN g hl (RF rt))) rfl rfl (K_first _ _ _ _ (fitA g (g 175) (g 166 9) (knS g p)) (fitA_lt hI _ _ _) ⟨rfl, rfl⟩) (fun r h' hr => ?_)
      obtain ⟨rfl, rfl⟩ := hr
      refine Ev.ret (v := some (.int (nI (frS (fitA g (g 175) (g 166 9) (knS g p)))))) rfl ?_
      unfold rs_has at hq
      (repeat (first | rw [if_pos (by omega)] at hq | rw [if_neg (by omega)] at hq))
      first | exact hq | (rw [frS_nz (by omega)]; exact hq)
theorem K_has {L : Nat} {xs : Nat → Int32} (d : Nat) (g : Nat → Nat → Nat) (hl : Nat → Nat → Int64) (rt : Nat × Nat × Nat × Nat) (hV : Inv g hl rt) (p : Nat) (x : Nat) (hp : p < 2 ^ 32) (hx : x < 2 ^ 32) {Q : Po} (hq : ∀ g1, Inv g1 hl rt → Q (some (.int (nI (rs_has g1 p x)))) (HN g1 hl (RF rt))) : Ev L xs (d + 6) 92 0 [(0, .ref 0), (1, .int (nI p)), (2, .int (nI x))] [] (HN g hl (RF rt)) Q := by
  have hI := hV.mi
  have hW := hI.hW
  have hS := hI.hS
  have hPl := hI.hPl
  have hNx := hI.hNx
  have hLa := hI.hLa
  have hLo := hI.hLo
  have hTb := hI.hTb
  have hTh := hI.hTh
  have hFd := hI.hFd
  have hSn := hI.hSn
  have hSh := hI.hSh
  have hRan := hI.hRan
  have hLr := hI.hLr
  have hLt := hI.hLt
  have hgl := hI.hgl
  have hsz := hI.hsz
  have hcm := hI.hcm
  have hsl := hI.hsl
  have hkd := hI.hkd
  have hvv := hI.hvv
  have hli := hI.hli
  have hro := hI.hro
  have hrw := hI.hrw
  have htx := hI.htx
  have hsw := hI.hsw
  have hsx := hI.hsx
  have hsy := hI.hsy
  have hsh := hI.hsh
  have hle := hI.hle
  have hcl := hI.hcl
  have hwd := hI.hwd
  have hnu := hI.hnu
  have hwn := hI.hwn
  have hs1 := hI.hs1
  have hso := hI.hso
  have hB := hV.gm.cb
  have hB0 := hB.1
  have hPs := hV.gm.cs
  have hsp1 := hV.sp.1
  have htx1 := hV.tx.1
  have h451 := hV.gm.rx.1
  have h442 := hV.gm.rx.2.2.2.1
  have h443 := hV.gm.rx.2.2.2.2
  have h481 := hV.gm.l48.1
  have h501 := hV.gm.l50.1
  have h521 := hV.gm.l52.1
  have h541 := hV.gm.l54.1
  have h04 := hV.tb.1
  have hac1 := hV.ac.1
  have hac2 := hV.ac.2.1
  have hPl0 := hV.gm.cp
  refine Ev.run 3 (pc' := 5) (lv' := [(0, .ref 0), (1, .int (nI p)), (2, .int (nI x))]) (st' := [.int (nI p), .ref 12]) (h' := HN g hl (RF rt)) rfl ?_
  refine Ev.call (a := 22) (as := [.ref 12, .int (nI p)]) (rest := []) (lv0 := [(0, .ref 12), (1, .int (nI p))]) (Q1 := (fun z0 h' => z0 = some (.int (nI (bn (decide (p < g 166 6))))) ∧ h' = HN g hl (RF rt))) rfl rfl (K_hasPlayer _ _ _ _ hI hPs p (by omega) ⟨rfl, rfl⟩) (fun r h' hr => ?_)
  obtain ⟨rfl, rfl⟩ := hr
  refine Ev_bn (fun hb8 => ?_) (fun hb8 => ?_)
  · have hhb8 : p < g 166 6 := of_decide_eq_true hb8
    refine Ev.run 4 (pc' := 14) (lv' := [(0, .ref 0), (1, .int (nI p)), (2, .int (nI x))]) (st' := [.int (nI 1), .int (nI 0), .int (nI x)]) (h' := HN g hl (RF rt)) rfl ?_
    refine Ev.call (a := 118) (as := [.int (nI x), .int (nI 0), .int (nI 1)]) (rest := []) (lv0 := [(0, .int (nI x)), (1, .int (nI 0)), (2, .int (nI 1))]) (Q1 := (fun z0 h' => z0 = some (.int (nI (bn (decide (x ≤ 1))))) ∧ h' = HN g hl (RF rt))) rfl rfl (K_within _ _ _ _ (nI x) (nI 0) (nI 1) (by rw [in0 (by omega) (by omega)]; exact ⟨rfl, rfl⟩)) (fun r h' hr => ?_)
    obtain ⟨rfl, rfl⟩ := hr
    refine Ev_bn (fun hb17 => ?_) (fun hb17 => ?_)
    · have hhb17 : x ≤ 1 := of_decide_eq_true hb17
      refine Ev.run 3 (pc' := 26) (lv' := [(0, .ref 0), (1, .int (nI p)), (2, .int (nI x))]) (st' := [.ref 12]) (h' := HN g hl (RF rt)) rfl ?_
      refine Ev.call (a := 27) (as := [.ref 12]) (rest := []) (lv0 := [(0, .ref 12)]) (Q1 := (fun z0 h' => z0 = none ∧ ∃ g1, h' = HN g1 hl (RF rt) ∧ Inv g1 hl rt ∧ Em g g1 ∧ Fr g g1 ∧ KNW g1)) rfl rfl (K_recallE _ g hl rt hV (fun g1 h1 h2 h3 h4 => ⟨rfl, g1, rfl, h1, h2, h3, h4⟩)) (fun r h' hr => ?_)
      obtain ⟨rfl, g1, rfl, hV1, hem, hfr, hkn⟩ := hr
      exact K_has2 _ g1 hl rt hV1 hkn p (by rw [hem.f6]; omega) x (by omega) (by omega) (hq g1 hV1)
    · have hhb17 : ¬ (x ≤ 1) := of_decide_eq_false hb17
      refine Ev.run 2 (pc' := 21) (lv' := [(0, .ref 0), (1, .int (nI p)), (2, .int (nI x))]) (st' := [.int (nI 4294967295)]) (h' := HN g hl (RF rt)) rfl ?_
      refine Ev.ret (v := some (.int (nI 4294967295))) rfl ?_
      have e := hq g hV
      unfold rs_has at e
      (repeat (first | rw [if_pos (by omega)] at e | rw [if_neg (by omega)] at e))
      exact e
  · have hhb8 : ¬ (p < g 166 6) := of_decide_eq_false hb8
    refine Ev.run 2 (pc' := 21) (lv' := [(0, .ref 0), (1, .int (nI p)), (2, .int (nI x))]) (st' := [.int (nI 4294967295)]) (h' := HN g hl (RF rt)) rfl ?_
    refine Ev.ret (v := some (.int (nI 4294967295))) rfl ?_
    have e := hq g hV
    unfold rs_has at e
    (repeat (first | rw [if_pos (by omega)] at e | rw [if_neg (by omega)] at e))
    exact e
theorem ks_eq {g : Nat → Nat → Nat} (hI : MI g) (hB : CB g) {p i n : Nat} (hi : i < 12) : decide (ftL g i n &&& knS g p = 0) = !ksS g p i n := by
  have h1 : (!decide (ftL g i n &&& knS g p = 0)) = ksS g p i n := by
    rw [dcn0]
    unfold ksS
    refine dc_c ⟨fun z => ?_, fun z => ?_⟩
    · obtain ⟨k, a, b⟩ := z
      rw [ftL_t hI hB hi] at a
      unfold knS at b
      rw [bset_tb] at b
      rw [Bool.and_eq_true] at a b
      rw [decide_eq_true_eq] at a
      exact ⟨k, a.1, a.2, b.2⟩
    · obtain ⟨k, a, b, c⟩ := z
      refine ⟨k, ?_, ?_⟩
      · rw [ftL_t hI hB hi, decide_eq_true a, b]; rfl
      · unfold knS
        rw [bset_tb, decide_eq_true a, c]; rfl
  rw [← h1, Bool.not_not]

theorem K_seen {L : Nat} {xs : Nat → Int32} (d : Nat) (g : Nat → Nat → Nat) (hl : Nat → Nat → Int64) (rt : Nat × Nat × Nat × Nat) (hV : Inv g hl rt) (hkn : KNW g) (p : Nat) (hp : p < g 166 6)  {Q : Po} (hq : Q (some (.int (nI (bn (coB g p))))) (HN g hl (RF rt))) : Ev L xs (d + 4) 29 0 [(0, .ref 12), (1, .int (nI p))] [] (HN g hl (RF rt)) Q := by
  have hI := hV.mi
  have hW := hI.hW
  have hS := hI.hS
  have hPl := hI.hPl
  have hNx := hI.hNx
  have hLa := hI.hLa
  have hLo := hI.hLo
  have hTb := hI.hTb
  have hTh := hI.hTh
  have hFd := hI.hFd
  have hSn := hI.hSn
  have hSh := hI.hSh
  have hRan := hI.hRan
  have hLr := hI.hLr
  have hLt := hI.hLt
  have hgl := hI.hgl
  have hsz := hI.hsz
  have hcm := hI.hcm
  have hsl := hI.hsl
  have hkd := hI.hkd
  have hvv := hI.hvv
  have hli := hI.hli
  have hro := hI.hro
  have hrw := hI.hrw
  have htx := hI.htx
  have hsw := hI.hsw
  have hsx := hI.hsx
  have hsy := hI.hsy
  have hsh := hI.hsh
  have hle := hI.hle
  have hcl := hI.hcl
  have hwd := hI.hwd
  have hnu := hI.hnu
  have hwn := hI.hwn
  have hs1 := hI.hs1
  have hso := hI.hso
  have hB := hV.gm.cb
  have hB0 := hB.1
  have hPs := hV.gm.cs
  have hsp1 := hV.sp.1
  have htx1 := hV.tx.1
  have h451 := hV.gm.rx.1
  have h442 := hV.gm.rx.2.2.2.1
  have h443 := hV.gm.rx.2.2.2.2
  have h481 := hV.gm.l48.1
  have h501 := hV.gm.l50.1
  have h521 := hV.gm.l52.1
  have h541 := hV.gm.l54.1
  have h04 := hV.tb.1
  have hac1 := hV.ac.1
  have hac2 := hV.ac.2.1
  have hPl0 := hV.gm.cp
  refine Ev.run 2 (pc' := 2) (lv' := [(2, .int (nI 0)), (0, .ref 12), (1, .int (nI p))]) (st' := []) (h' := HN g hl (RF rt)) rfl ?_
  refine for_ind (g 166 44) (fun k => (∀ i, i < k → g 189 i = p → ksS g p (g 190 i) (g 191 i) = true) → Ev L xs (d + 4) 29 2 [(2, .int (nI k)), (0, .ref 12), (1, .int (nI p))] [] (HN g hl (RF rt)) Q) (fun k hk hnext => ?_) 0 (Nat.zero_le _) (fun i hi => absurd hi (Nat.not_lt_zero _))
  intro hall0
  have hb189 := hsw k
  have hb190 := hsx k
  have hb191 := hsy k
  have hsw2 := hV.gm.sw k
  refine Ev.run 5 (pc' := (if nI (g 48 1) ≤ nI k then 96 else 13)) (lv' := [(2, .int (nI k)), (0, .ref 12), (1, .int (nI p))]) (st' := []) (h' := HN g hl (RF rt)) rfl ?_
  refine Ev.ite (fun hc10 => ?_) (fun hc10 => ?_)
  · have hc10 : (g 48 1) ≤ k := (nI_leI (by omega) (by omega)).mp hc10
    refine Ev.run 1 (pc' := 97) (lv' := [(2, .int (nI k)), (0, .ref 12), (1, .int (nI p))]) (st' := [.int (nI 1)]) (h' := HN g hl (RF rt)) rfl ?_
    refine Ev.ret (v := some (.int (nI 1))) rfl ?_
    rw [show coB g p = true from dc_t (fun i hi h2 => hall0 i (by omega) h2)] at hq
    exact hq
  · have hc10 : ¬ ((g 48 1) ≤ k) := fun z => hc10 ((nI_leI (by omega) (by omega)).mpr z)
    refine Ev.run 3 (pc' := 18) (lv' := [(2, .int (nI k)), (0, .ref 12), (1, .int (nI p))]) (st' := [.int (nI k), .ref 50]) (h' := HN g hl (RF rt)) rfl ?_
    refine Ev.call (a := 44) (as := [.ref 50, .int (nI k)]) (rest := []) (lv0 := [(0, .ref 50), (1, .int (nI k))]) (Q1 := (fun z0 h' => z0 = some (.int (nI (g 190 k))) ∧ h' = HN g hl (RF rt))) rfl rfl (K_at _ _ _ _ 50 6 (ln50 rt) k (by omega) (by omega) ⟨congrArg (fun z => some (Value.int (nI z))) (show atLn g 50 k = g 190 k by rw [atE hV.gm.l50, if_pos (by omega)]), rfl⟩) (fun r h' hr => ?_)
    obtain ⟨rfl, rfl⟩ := hr
    refine Ev.run 4 (pc' := 27) (lv' := [(3, .int (nI (g 190 k))), (2, .int (nI k)), (0, .ref 12), (1, .int (nI p))]) (st' := [.int (nI k), .ref 48]) (h' := HN g hl (RF rt)) rfl ?_
    refine Ev.call (a := 44) (as := [.ref 48, .int (nI k)]) (rest := []) (lv0 := [(0, .ref 48), (1, .int (nI k))]) (Q1 := (fun z0 h' => z0 = some (.int (nI (g 189 k))) ∧ h' = HN g hl (RF rt))) rfl rfl (K_at _ _ _ _ 48 6 (ln48 rt) k (by omega) (by omega) ⟨congrArg (fun z => some (Value.int (nI z))) (show atLn g 48 k = g 189 k by rw [atE hV.gm.l48, if_pos (by omega)]), rfl⟩) (fun r h' hr => ?_)
    obtain ⟨rfl, rfl⟩ := hr
    refine Ev.run 2 (pc' := (if nI (g 189 k) = nI p then 34 else 90)) (lv' := [(3, .int (nI (g 190 k))), (2, .int (nI k)), (0, .ref 12), (1, .int (nI p))]) (st' := []) (h' := HN g hl (RF rt)) rfl ?_
    refine Ev.ite (fun hc31 => ?_) (fun hc31 => ?_)
    · have hc31 : (g 189 k) = p := (nI_eqU (by omega) (by omega)).mp hc31
      refine Ev.run 7 (pc' := 45) (lv' := [(3, .int (nI (g 190 k))), (2, .int (nI k)), (0, .ref 12), (1, .int (nI p))]) (st' := [.int (nI (g 13 5) - nI 1), .int (nI 0), .int (nI (g 190 k))]) (h' := HN g hl (RF rt)) rfl ?_
      refine Ev.call (a := 118) (as := [.int (nI (g 190 k)), .int (nI 0), .int (nI (g 13 5) - nI 1)]) (rest := []) (lv0 := [(0, .int (nI (g 190 k))), (1, .int (nI 0)), (2, .int (nI (g 13 5) - nI 1))]) (Q1 := (fun z0 h' => z0 = some (.int (nI (bn (decide (g 190 k < g 13 5))))) ∧ h' = HN g hl (RF rt))) rfl rfl (K_within _ _ _ _ (nI (g 190 k)) (nI 0) (nI (g 13 5) - nI 1) (by rw [in1 (by omega) (by omega)]; exact ⟨rfl, rfl⟩)) (fun r h' hr => ?_)
      obtain ⟨rfl, rfl⟩ := hr
      refine Ev_bn (fun hb48 => ?_) (fun hb48 => ?_)
      · have hhb48 : g 190 k < g 13 5 := of_decide_eq_true hb48
        refine Ev.run 7 (pc' := 66) (lv' := [(3, .int (nI (g 190 k))), (2, .int (nI k)), (0, .ref 12), (1, .int (nI p))]) (st' := [.int (nI (g 190 k)), .ref 14, .ref 13]) (h' := HN g hl (RF rt)) rfl ?_
        refine Ev_aald (c := (19 + 2 * (g 190 k))) rfl (by decide) rfl (show g 190 k < 12 by omega) (Nat.le_of_ble_eq_true rfl) (rf_line rt (g 190 k) (by omega)).2 ?_
        refine Ev.run 3 (pc' := 72) (lv' := [(3, .int (nI (g 190 k))), (2, .int (nI k)), (0, .ref 12), (1, .int (nI p))]) (st' := [.int (nI k), .ref 52, .ref (19 + 2 * (g 190 k)), .ref 13]) (h' := HN g hl (RF rt)) rfl ?_
        refine Ev.call (a := 44) (as := [.ref 52, .int (nI k)]) (rest := [.ref (19 + 2 * (g 190 k)), .ref 13]) (lv0 := [(0, .ref 52), (1, .int (nI k))]) (Q1 := (fun z0 h' => z0 = some (.int (nI (g 191 k))) ∧ h' = HN g hl (RF rt))) rfl rfl (K_at _ _ _ _ 52 6 (ln52 rt) k (by omega) (by omega) ⟨congrArg (fun z => some (Value.int (nI z))) (show atLn g 52 k = g 191 k by rw [atE hV.gm.l52, if_pos (by omega)]), rfl⟩) (fun r h' hr => ?_)
        obtain ⟨rfl, rfl⟩ := hr
        refine Ev.call (a := 13) (as := [.ref 13, .ref (19 + 2 * (g 190 k)), .int (nI (g 191 k))]) (rest := []) (lv0 := [(0, .ref 13), (1, .ref (19 + 2 * (g 190 k))), (2, .int (nI (g 191 k)))]) (Q1 := (fun z0 h' => z0 = some (.int (nI (ftL g (g 190 k) (g 191 k)))) ∧ h' = HN g hl (RF rt))) rfl rfl (K_fitting _ _ _ _ hI hB (19 + 2 * (g 190 k)) 6 (LnW rt (by omega)) (g 191 k) (by omega) (by rw [hB.2.1 (g 190 k) (by omega)]; exact hsz (g 190 k) (by omega)) (atW hI hB (by omega)) ⟨rfl, rfl⟩) (fun r h' hr => ?_)
        obtain ⟨rfl, rfl⟩ := hr
        have hfl : ftL g (g 190 k) (g 191 k) < 4096 := bset_12 _ hW
        have hfk := Nat.and_le_left (n := ftL g (g 190 k) (g 191 k)) (m := knS g p)
        refine Ev.run 3 (pc' := 83) (lv' := [(3, .int (nI (g 190 k))), (2, .int (nI k)), (0, .ref 12), (1, .int (nI p))]) (st' := [.int (nI p), .ref 59, .int (nI (ftL g (g 190 k) (g 191 k)))]) (h' := HN g hl (RF rt)) rfl ?_
        refine Ev_iald rfl rfl (show p < 5 by omega) (Nat.le_of_ble_eq_true rfl) ?_
        refine Ev.run 1 (pc' := 85) (lv' := [(3, .int (nI (g 190 k))), (2, .int (nI k)), (0, .ref 12), (1, .int (nI p))]) (st' := [.int (nI (ftL g (g 190 k) (g 191 k)) &&& nI (g 59 p))]) (h' := HN g hl (RF rt)) rfl ?_
        refine Ev.topI ((nIa _ _).trans (congrArg nI (show ftL g (g 190 k) (g 191 k) &&& g 59 p = ftL g (g 190 k) (g 191 k) &&& knS g p from by rw [hkn p hp]))) ?_
        refine Ev.run 1 (pc' := (if nI (ftL g (g 190 k) (g 191 k) &&& knS g p) = 0 then 88 else 90)) (lv' := [(3, .int (nI (g 190 k))), (2, .int (nI k)), (0, .ref 12), (1, .int (nI p))]) (st' := []) (h' := HN g hl (RF rt)) rfl ?_
        refine Ev.ite (fun hc85 => ?_) (fun hc85 => ?_)
        · have hc85 : (ftL g (g 190 k) (g 191 k) &&& knS g p) = 0 := (nI_eqU0 (by omega)).mp hc85
          refine Ev.run 1 (pc' := 89) (lv' := [(3, .int (nI (g 190 k))), (2, .int (nI k)), (0, .ref 12), (1, .int (nI p))]) (st' := [.int (nI 0)]) (h' := HN g hl (RF rt)) rfl ?_
          refine Ev.ret (v := some (.int (nI 0))) rfl ?_
          rw [show coB g p = false from dc_f (fun z => by
            have z1 := z k (by omega) (by omega)
            have z2 := ks_eq hI hB (p := p) (i := g 190 k) (n := g 191 k) (by omega)
            rw [z1, decide_eq_true (by assumption)] at z2
            cases z2)] at hq
          exact hq
        · have hc85 : ¬ ((ftL g (g 190 k) (g 191 k) &&& knS g p) = 0) := fun z => hc85 ((nI_eqU0 (by omega)).mpr z)
          refine Ev.run 1 (pc' := 93) (lv' := [(2, .int (nI k + 1)), (3, .int (nI (g 190 k))), (0, .ref 12), (1, .int (nI p))]) (st' := []) (h' := HN g hl (RF rt)) rfl ?_
          refine Ev.lvE (congrArg (fun z => (2, Value.int z) :: [(3, .int (nI (g 190 k))), (0, .ref 12), (1, .int (nI p))]) (nI_1 _)) ?_
          refine Ev.run 1 (pc' := 2) (lv' := [(2, .int (nI (k + 1))), (3, .int (nI (g 190 k))), (0, .ref 12), (1, .int (nI p))]) (st' := []) (h' := HN g hl (RF rt)) rfl ?_
          have hx := hnext (by omega) (fun i hi hp2 => ?_)
          · exact Ev.wk (Ext.cons rfl rfl (Ext.cons rfl rfl (Ext.cons rfl rfl (Ext.nil rfl)))) hx
          · by_cases e : i = k
            · rw [e] at hp2 ⊢
              first | exact absurd hp2 (by omega) | exact (by
                have z := ks_eq hI hB (p := p) (i := g 190 k) (n := g 191 k) (by omega)
                rw [decide_eq_false (by assumption)] at z
                cases q : ksS g p (g 190 k) (g 191 k) with
                | true => rfl
                | false => rw [q] at z; cases z)
            · exact hall0 i (by omega) hp2
      · have hhb48 : ¬ (g 190 k < g 13 5) := of_decide_eq_false hb48
        refine Ev.run 3 (pc' := 93) (lv' := [(2, .int (nI k + 1)), (3, .int (nI (g 190 k))), (0, .ref 12), (1, .int (nI p))]) (st' := []) (h' := HN g hl (RF rt)) rfl ?_
        refine Ev.lvE (congrArg (fun z => (2, Value.int z) :: [(3, .int (nI (g 190 k))), (0, .ref 12), (1, .int (nI p))]) (nI_1 _)) ?_
        refine Ev.run 1 (pc' := 2) (lv' := [(2, .int (nI (k + 1))), (3, .int (nI (g 190 k))), (0, .ref 12), (1, .int (nI p))]) (st' := []) (h' := HN g hl (RF rt)) rfl ?_
        have hx := hnext (by omega) (fun i hi hp2 => ?_)
        · exact Ev.wk (Ext.cons rfl rfl (Ext.cons rfl rfl (Ext.cons rfl rfl (Ext.nil rfl)))) hx
        · by_cases e : i = k
          · rw [e] at hp2 ⊢
            first | exact absurd hp2 (by omega) | exact (by
              have z := ks_eq hI hB (p := p) (i := g 190 k) (n := g 191 k) (by omega)
              rw [decide_eq_false (by assumption)] at z
              cases q : ksS g p (g 190 k) (g 191 k) with
              | true => rfl
              | false => rw [q] at z; cases z)
          · exact hall0 i (by omega) hp2
    · have hc31 : ¬ ((g 189 k) = p) := fun z => hc31 ((nI_eqU (by omega) (by omega)).mpr z)
      refine Ev.run 1 (pc' := 93) (lv' := [(2, .int (nI k + 1)), (3, .int (nI (g 190 k))), (0, .ref 12), (1, .int (nI p))]) (st' := []) (h' := HN g hl (RF rt)) rfl ?_
      refine Ev.lvE (congrArg (fun z => (2, Value.int z) :: [(3, .int (nI (g 190 k))), (0, .ref 12), (1, .int (nI p))]) (nI_1 _)) ?_
      refine Ev.run 1 (pc' := 2) (lv' := [(2, .int (nI (k + 1))), (3, .int (nI (g 190 k))), (0, .ref 12), (1, .int (nI p))]) (st' := []) (h' := HN g hl (RF rt)) rfl ?_
      have hx := hnext (by omega) (fun i hi hp2 => ?_)
      · exact Ev.wk (Ext.cons rfl rfl (Ext.cons rfl rfl (Ext.cons rfl rfl (Ext.nil rfl)))) hx
      · by_cases e : i = k
        · rw [e] at hp2 ⊢
          first | exact absurd hp2 (by omega) | exact (by
            have z := ks_eq hI hB (p := p) (i := g 190 k) (n := g 191 k) (by omega)
            rw [decide_eq_false (by assumption)] at z
            cases q : ksS g p (g 190 k) (g 191 k) with
            | true => rfl
            | false => rw [q] at z; cases z)
        · exact hall0 i (by omega) hp2
theorem K_could2 {L : Nat} {xs : Nat → Int32} (d : Nat) (g : Nat → Nat → Nat) (hl : Nat → Nat → Int64) (rt : Nat × Nat × Nat × Nat) (hV : Inv g hl rt) (hkn : KNW g) (p : Nat) (hp : p < g 166 6)  {Q : Po} (hq : Q (some (.int (nI (rs_could g p)))) (HN g hl (RF rt))) : Ev L xs (d + 5) 97 20 [(0, .ref 0), (1, .int (nI p))] [] (HN g hl (RF rt)) Q := by
  have hI := hV.mi
  have hW := hI.hW
  have hS := hI.hS
  have hPl := hI.hPl
  have hNx := hI.hNx
  have hLa := hI.hLa
  have hLo := hI.hLo
  have hTb := hI.hTb
  have hTh := hI.hTh
  have hFd := hI.hFd
  have hSn := hI.hSn
  have hSh := hI.hSh
  have hRan := hI.hRan
  have hLr := hI.hLr
  have hLt := hI.hLt
  have hgl := hI.hgl
  have hsz := hI.hsz
  have hcm := hI.hcm
  have hsl := hI.hsl
  have hkd := hI.hkd
  have hvv := hI.hvv
  have hli := hI.hli
  have hro := hI.hro
  have hrw := hI.hrw
  have htx := hI.htx
  have hsw := hI.hsw
  have hsx := hI.hsx
  have hsy := hI.hsy
  have hsh := hI.hsh
  have hle := hI.hle
  have hcl := hI.hcl
  have hwd := hI.hwd
  have hnu := hI.hnu
  have hwn := hI.hwn
  have hs1 := hI.hs1
  have hso := hI.hso
  have hB := hV.gm.cb
  have hB0 := hB.1
  have hPs := hV.gm.cs
  have hsp1 := hV.sp.1
  have htx1 := hV.tx.1
  have h451 := hV.gm.rx.1
  have h442 := hV.gm.rx.2.2.2.1
  have h443 := hV.gm.rx.2.2.2.2
  have h481 := hV.gm.l48.1
  have h501 := hV.gm.l50.1
  have h521 := hV.gm.l52.1
  have h541 := hV.gm.l54.1
  have h04 := hV.tb.1
  have hac1 := hV.ac.1
  have hac2 := hV.ac.2.1
  have hPl0 := hV.gm.cp
  refine Ev.run 3 (pc' := 25) (lv' := [(0, .ref 0), (1, .int (nI p))]) (st' := [.int (nI p), .ref 12]) (h' := HN g hl (RF rt)) rfl ?_
  refine Ev.call (a := 29) (as := [.ref 12, .int (nI p)]) (rest := []) (lv0 := [(0, .ref 12), (1, .int (nI p))]) (Q1 := (fun z0 h' => z0 = some (.int (nI (bn (coB g p)))) ∧ h' = HN g hl (RF rt))) rfl rfl (K_seen _ _ _ _ hV hkn p hp ⟨rfl, rfl⟩) (fun r h' hr => ?_)
  obtain ⟨rfl, rfl⟩ := hr
  refine Ev_bn (fun hb28 => ?_) (fun hb28 => ?_)
  · skip
    refine Ev.run 3 (pc' := 36) (lv' := [(0, .ref 0), (1, .int (nI p))]) (st' := [.int (nI 1)]) (h' := HN g hl (RF rt)) rfl ?_
    refine Ev.ret (v := some (.int (nI 1))) rfl ?_
    unfold rs_could at hq
    rw [if_pos hp, hb28] at hq
    exact hq
  · skip
    refine Ev.run 2 (pc' := 36) (lv' := [(0, .ref 0), (1, .int (nI p))]) (st' := [.int (nI 0)]) (h' := HN g hl (RF rt)) rfl ?_
    refine Ev.ret (v := some (.int (nI 0))) rfl ?_
    unfold rs_could at hq
    rw [if_pos hp, hb28] at hq
    exact hq
theorem K_could {L : Nat} {xs : Nat → Int32} (d : Nat) (g : Nat → Nat → Nat) (hl : Nat → Nat → Int64) (rt : Nat × Nat × Nat × Nat) (hV : Inv g hl rt) (p : Nat) (hp : p < 2 ^ 32) {Q : Po} (hq : ∀ g1, Inv g1 hl rt → Q (some (.int (nI (rs_could g1 p)))) (HN g1 hl (RF rt))) : Ev L xs (d + 6) 97 0 [(0, .ref 0), (1, .int (nI p))] [] (HN g hl (RF rt)) Q := by
  have hI := hV.mi
  have hW := hI.hW
  have hS := hI.hS
  have hPl := hI.hPl
  have hNx := hI.hNx
  have hLa := hI.hLa
  have hLo := hI.hLo
  have hTb := hI.hTb
  have hTh := hI.hTh
  have hFd := hI.hFd
  have hSn := hI.hSn
  have hSh := hI.hSh
  have hRan := hI.hRan
  have hLr := hI.hLr
  have hLt := hI.hLt
  have hgl := hI.hgl
  have hsz := hI.hsz
  have hcm := hI.hcm
  have hsl := hI.hsl
  have hkd := hI.hkd
  have hvv := hI.hvv
  have hli := hI.hli
  have hro := hI.hro
  have hrw := hI.hrw
  have htx := hI.htx
  have hsw := hI.hsw
  have hsx := hI.hsx
  have hsy := hI.hsy
  have hsh := hI.hsh
  have hle := hI.hle
  have hcl := hI.hcl
  have hwd := hI.hwd
  have hnu := hI.hnu
  have hwn := hI.hwn
  have hs1 := hI.hs1
  have hso := hI.hso
  have hB := hV.gm.cb
  have hB0 := hB.1
  have hPs := hV.gm.cs
  have hsp1 := hV.sp.1
  have htx1 := hV.tx.1
  have h451 := hV.gm.rx.1
  have h442 := hV.gm.rx.2.2.2.1
  have h443 := hV.gm.rx.2.2.2.2
  have h481 := hV.gm.l48.1
  have h501 := hV.gm.l50.1
  have h521 := hV.gm.l52.1
  have h541 := hV.gm.l54.1
  have h04 := hV.tb.1
  have hac1 := hV.ac.1
  have hac2 := hV.ac.2.1
  have hPl0 := hV.gm.cp
  refine Ev.run 3 (pc' := 5) (lv' := [(0, .ref 0), (1, .int (nI p))]) (st' := [.int (nI p), .ref 12]) (h' := HN g hl (RF rt)) rfl ?_
  refine Ev.call (a := 22) (as := [.ref 12, .int (nI p)]) (rest := []) (lv0 := [(0, .ref 12), (1, .int (nI p))]) (Q1 := (fun z0 h' => z0 = some (.int (nI (bn (decide (p < g 166 6))))) ∧ h' = HN g hl (RF rt))) rfl rfl (K_hasPlayer _ _ _ _ hI hPs p (by omega) ⟨rfl, rfl⟩) (fun r h' hr => ?_)
  obtain ⟨rfl, rfl⟩ := hr
  refine Ev_bn (fun hb8 => ?_) (fun hb8 => ?_)
  · have hhb8 : p < g 166 6 := of_decide_eq_true hb8
    refine Ev.run 3 (pc' := 17) (lv' := [(0, .ref 0), (1, .int (nI p))]) (st' := [.ref 12]) (h' := HN g hl (RF rt)) rfl ?_
    refine Ev.call (a := 27) (as := [.ref 12]) (rest := []) (lv0 := [(0, .ref 12)]) (Q1 := (fun z0 h' => z0 = none ∧ ∃ g1, h' = HN g1 hl (RF rt) ∧ Inv g1 hl rt ∧ Em g g1 ∧ Fr g g1 ∧ KNW g1)) rfl rfl (K_recallE _ g hl rt hV (fun g1 h1 h2 h3 h4 => ⟨rfl, g1, rfl, h1, h2, h3, h4⟩)) (fun r h' hr => ?_)
    obtain ⟨rfl, g1, rfl, hV1, hem, hfr, hkn⟩ := hr
    exact K_could2 _ g1 hl rt hV1 hkn p (by rw [hem.f6]; omega) (hq g1 hV1)
  · have hhb8 : ¬ (p < g 166 6) := of_decide_eq_false hb8
    refine Ev.run 2 (pc' := 12) (lv' := [(0, .ref 0), (1, .int (nI p))]) (st' := [.int (nI 4294967295)]) (h' := HN g hl (RF rt)) rfl ?_
    refine Ev.ret (v := some (.int (nI 4294967295))) rfl ?_
    have e := hq g hV
    unfold rs_could at e
    (repeat (first | rw [if_pos (by omega)] at e | rw [if_neg (by omega)] at e))
    exact e
theorem K_can2 {L : Nat} {xs : Nat → Int32} (d : Nat) (g : Nat → Nat → Nat) (hl : Nat → Nat → Int64) (rt : Nat × Nat × Nat × Nat) (hV : Inv g hl rt) (hkn : KNW g) (i n : Nat) (hi : i < g 166 0) (hn1 : 1 ≤ n) (hn6 : n ≤ g 168 i)  {Q : Po} (hq : Q (some (.int (nI (rs_can g i n)))) (HN g hl (RF rt))) : Ev L xs (d + 5) 98 55 [(0, .ref 0), (1, .int (nI i)), (2, .int (nI n))] [] (HN g hl (RF rt)) Q := by
  have hI := hV.mi
  have hW := hI.hW
  have hS := hI.hS
  have hPl := hI.hPl
  have hNx := hI.hNx
  have hLa := hI.hLa
  have hLo := hI.hLo
  have hTb := hI.hTb
  have hTh := hI.hTh
  have hFd := hI.hFd
  have hSn := hI.hSn
  have hSh := hI.hSh
  have hRan := hI.hRan
  have hLr := hI.hLr
  have hLt := hI.hLt
  have hgl := hI.hgl
  have hsz := hI.hsz
  have hcm := hI.hcm
  have hsl := hI.hsl
  have hkd := hI.hkd
  have hvv := hI.hvv
  have hli := hI.hli
  have hro := hI.hro
  have hrw := hI.hrw
  have htx := hI.htx
  have hsw := hI.hsw
  have hsx := hI.hsx
  have hsy := hI.hsy
  have hsh := hI.hsh
  have hle := hI.hle
  have hcl := hI.hcl
  have hwd := hI.hwd
  have hnu := hI.hnu
  have hwn := hI.hwn
  have hs1 := hI.hs1
  have hso := hI.hso
  have hB := hV.gm.cb
  have hB0 := hB.1
  have hPs := hV.gm.cs
  have hsp1 := hV.sp.1
  have htx1 := hV.tx.1
  have h451 := hV.gm.rx.1
  have h442 := hV.gm.rx.2.2.2.1
  have h443 := hV.gm.rx.2.2.2.2
  have h481 := hV.gm.l48.1
  have h501 := hV.gm.l50.1
  have h521 := hV.gm.l52.1
  have h541 := hV.gm.l54.1
  have h04 := hV.tb.1
  have hac1 := hV.ac.1
  have hac2 := hV.ac.2.1
  have hPl0 := hV.gm.cp
  have hszi := hsz i (by omega)
  refine Ev.run 8 (pc' := 73) (lv' := [(0, .ref 0), (1, .int (nI i)), (2, .int (nI n))]) (st' := [.int (nI i), .ref 14, .ref 13]) (h' := HN g hl (RF rt)) rfl ?_
  refine Ev_aald (c := (19 + 2 * i)) rfl (by decide) rfl (show i < 12 by omega) (Nat.le_of_ble_eq_true rfl) (rf_line rt i (by omega)).2 ?_
  refine Ev.run 1 (pc' := 75) (lv' := [(0, .ref 0), (1, .int (nI i)), (2, .int (nI n))]) (st' := [.int (nI n), .ref (19 + 2 * i), .ref 13]) (h' := HN g hl (RF rt)) rfl ?_
  refine Ev.call (a := 13) (as := [.ref 13, .ref (19 + 2 * i), .int (nI n)]) (rest := []) (lv0 := [(0, .ref 13), (1, .ref (19 + 2 * i)), (2, .int (nI n))]) (Q1 := (fun z0 h' => z0 = some (.int (nI (ftL g i n))) ∧ h' = HN g hl (RF rt))) rfl rfl (K_fitting _ _ _ _ hI hB (19 + 2 * i) 6 (LnW rt (by omega)) n (by omega) (by rw [hB.2.1 i (by omega)]; exact hsz i (by omega)) (atW hI hB (by omega)) ⟨rfl, rfl⟩) (fun r h' hr => ?_)
  obtain ⟨rfl, rfl⟩ := hr
  have hfl : ftL g i n < 4096 := bset_12 _ hW
  have hfk := Nat.and_le_left (n := ftL g i n) (m := knS g 0)
  refine Ev.run 5 (pc' := 85) (lv' := [(5, .int (nI 0)), (4, .int (nI 0)), (3, .int (nI (ftL g i n))), (0, .ref 0), (1, .int (nI i)), (2, .int (nI n))]) (st' := []) (h' := HN g hl (RF rt)) rfl ?_
  refine for_ind (g 166 6) (fun k => Ev L xs (d + 5) 98 85 [(5, .int (nI k)), (4, .int (nI (bset (fun p => ksS g p i n) k))), (3, .int (nI (ftL g i n))), (0, .ref 0), (1, .int (nI i)), (2, .int (nI n))] [] (HN g hl (RF rt)) Q) (fun k hk hnext => ?_) 0 (Nat.zero_le _)
  have hfk := Nat.and_le_left (n := ftL g i n) (m := knS g k)
  refine Ev.run 5 (pc' := (if nI (g 12 2) ≤ nI k then 127 else 97)) (lv' := [(5, .int (nI k)), (4, .int (nI (bset (fun p => ksS g p i n) k))), (3, .int (nI (ftL g i n))), (0, .ref 0), (1, .int (nI i)), (2, .int (nI n))]) (st' := []) (h' := HN g hl (RF rt)) rfl ?_
  refine Ev.ite (fun hc94 => ?_) (fun hc94 => ?_)
  · have hc94 : (g 12 2) ≤ k := (nI_leI (by omega) (by omega)).mp hc94
    refine Ev.run 1 (pc' := 129) (lv' := [(5, .int (nI k)), (4, .int (nI (bset (fun p => ksS g p i n) k))), (3, .int (nI (ftL g i n))), (0, .ref 0), (1, .int (nI i)), (2, .int (nI n))]) (st' := [.int (nI (bset (fun p => ksS g p i n) k))]) (h' := HN g hl (RF rt)) rfl ?_
    refine Ev.ret (v := some (.int (nI (bset (fun p => ksS g p i n) k)))) rfl ?_
    have hkn2 : k = g 166 6 := by omega
    unfold rs_can at hq
    rw [if_pos hi, if_pos ⟨hn1, hn6⟩] at hq
    rw [hkn2]
    exact hq
  · have hc94 : ¬ ((g 12 2) ≤ k) := fun z => hc94 ((nI_leI (by omega) (by omega)).mpr z)
    refine Ev.run 5 (pc' := 107) (lv' := [(5, .int (nI k)), (4, .int (nI (bset (fun p => ksS g p i n) k))), (3, .int (nI (ftL g i n))), (0, .ref 0), (1, .int (nI i)), (2, .int (nI n))]) (st' := [.int (nI k), .ref 59, .int (nI (ftL g i n))]) (h' := HN g hl (RF rt)) rfl ?_
    refine Ev_iald rfl rfl (show k < 5 by omega) (Nat.le_of_ble_eq_true rfl) ?_
    refine Ev.run 1 (pc' := 109) (lv' := [(5, .int (nI k)), (4, .int (nI (bset (fun p => ksS g p i n) k))), (3, .int (nI (ftL g i n))), (0, .ref 0), (1, .int (nI i)), (2, .int (nI n))]) (st' := [.int (nI (ftL g i n) &&& nI (g 59 k))]) (h' := HN g hl (RF rt)) rfl ?_
    refine Ev.topI ((nIa _ _).trans (congrArg nI (show ftL g i n &&& g 59 k = ftL g i n &&& knS g k from by rw [hkn k (by omega)]))) ?_
    refine Ev.run 1 (pc' := (if nI (ftL g i n &&& knS g k) = 0 then 121 else 112)) (lv' := [(5, .int (nI k)), (4, .int (nI (bset (fun p => ksS g p i n) k))), (3, .int (nI (ftL g i n))), (0, .ref 0), (1, .int (nI i)), (2, .int (nI n))]) (st' := []) (h' := HN g hl (RF rt)) rfl ?_
    refine Ev.ite (fun hc109 => ?_) (fun hc109 => ?_)
    · have hc109 : (ftL g i n &&& knS g k) = 0 := (nI_eqU0 (by omega)).mp hc109
      refine Ev.run 1 (pc' := 124) (lv' := [(5, .int (nI k + 1)), (4, .int (nI (bset (fun p => ksS g p i n) k))), (3, .int (nI (ftL g i n))), (0, .ref 0), (1, .int (nI i)), (2, .int (nI n))]) (st' := []) (h' := HN g hl (RF rt)) rfl ?_
      refine Ev.lvE (congrArg (fun z => (5, Value.int z) :: [(4, .int (nI (bset (fun p => ksS g p i n) k))), (3, .int (nI (ftL g i n))), (0, .ref 0), (1, .int (nI i)), (2, .int (nI n))]) (nI_1 _)) ?_
      refine Ev.run 1 (pc' := 85) (lv' := [(5, .int (nI (k + 1))), (4, .int (nI (bset (fun p => ksS g p i n) k))), (3, .int (nI (ftL g i n))), (0, .ref 0), (1, .int (nI i)), (2, .int (nI n))]) (st' := []) (h' := HN g hl (RF rt)) rfl ?_
      have hx := hnext (by omega)
      rw [bset_se (p := (fun p => ksS g p i n)) (by
        have z := ks_eq hI hB (p := k) (i := i) (n := n) (by omega)
        show ksS g k i n = false
        rw [decide_eq_true (by assumption)] at z
        cases q : ksS g k i n with
        | true => first | rfl | (rw [q] at z; cases z)
        | false => first | rfl | (rw [q] at z; cases z))] at hx
      exact Ev.wk (Ext.cons rfl rfl (Ext.cons rfl rfl (Ext.cons rfl rfl (Ext.cons rfl rfl (Ext.cons rfl rfl (Ext.cons rfl rfl (Ext.nil rfl))))))) hx
    · have hc109 : ¬ ((ftL g i n &&& knS g k) = 0) := fun z => hc109 ((nI_eqU0 (by omega)).mpr z)
      refine Ev.run 4 (pc' := 118) (lv' := [(5, .int (nI k)), (4, .int (nI (bset (fun p => ksS g p i n) k))), (3, .int (nI (ftL g i n))), (0, .ref 0), (1, .int (nI i)), (2, .int (nI n))]) (st' := [.int (nI 1 <<< (nI k &&& 31)), .int (nI (bset (fun p => ksS g p i n) k))]) (h' := HN g hl (RF rt)) rfl ?_
      refine Ev.topI (nI_shl (by omega)) ?_
      refine Ev.run 1 (pc' := 119) (lv' := [(5, .int (nI k)), (4, .int (nI (bset (fun p => ksS g p i n) k))), (3, .int (nI (ftL g i n))), (0, .ref 0), (1, .int (nI i)), (2, .int (nI n))]) (st' := [.int (nI (bset (fun p => ksS g p i n) k) ||| nI (nSh 1 k))]) (h' := HN g hl (RF rt)) rfl ?_
      refine Ev.topI (nIo _ _) ?_
      refine Ev.run 2 (pc' := 124) (lv' := [(5, .int (nI k + 1)), (4, .int (nI ((bset (fun p => ksS g p i n) k) ||| (nSh 1 k)))), (3, .int (nI (ftL g i n))), (0, .ref 0), (1, .int (nI i)), (2, .int (nI n))]) (st' := []) (h' := HN g hl (RF rt)) rfl ?_
      refine Ev.lvE (congrArg (fun z => (5, Value.int z) :: [(4, .int (nI ((bset (fun p => ksS g p i n) k) ||| (nSh 1 k)))), (3, .int (nI (ftL g i n))), (0, .ref 0), (1, .int (nI i)), (2, .int (nI n))]) (nI_1 _)) ?_
      refine Ev.run 1 (pc' := 85) (lv' := [(5, .int (nI (k + 1))), (4, .int (nI ((bset (fun p => ksS g p i n) k) ||| (nSh 1 k)))), (3, .int (nI (ftL g i n))), (0, .ref 0), (1, .int (nI i)), (2, .int (nI n))]) (st' := []) (h' := HN g hl (RF rt)) rfl ?_
      have hx := hnext (by omega)
      rw [bset_s1 (p := (fun p => ksS g p i n)) (by
        have z := ks_eq hI hB (p := k) (i := i) (n := n) (by omega)
        show ksS g k i n = true
        rw [decide_eq_false (by assumption)] at z
        cases q : ksS g k i n with
        | true => first | rfl | (rw [q] at z; cases z)
        | false => first | rfl | (rw [q] at z; cases z))] at hx
      exact Ev.wk (Ext.cons rfl rfl (Ext.cons rfl rfl (Ext.cons rfl rfl (Ext.cons rfl rfl (Ext.cons rfl rfl (Ext.cons rfl rfl (Ext.nil rfl))))))) hx
theorem K_can {L : Nat} {xs : Nat → Int32} (d : Nat) (g : Nat → Nat → Nat) (hl : Nat → Nat → Int64) (rt : Nat × Nat × Nat × Nat) (hV : Inv g hl rt) (i : Nat) (n : Nat) (hi : i < 2 ^ 32) (hn : n < 2 ^ 32) {Q : Po} (hq : ∀ g1, Inv g1 hl rt → Q (some (.int (nI (rs_can g1 i n)))) (HN g1 hl (RF rt))) : Ev L xs (d + 6) 98 0 [(0, .ref 0), (1, .int (nI i)), (2, .int (nI n))] [] (HN g hl (RF rt)) Q := by
  have hI := hV.mi
  have hW := hI.hW
  have hS := hI.hS
  have hPl := hI.hPl
  have hNx := hI.hNx
  have hLa := hI.hLa
  have hLo := hI.hLo
  have hTb := hI.hTb
  have hTh := hI.hTh
  have hFd := hI.hFd
  have hSn := hI.hSn
  have hSh := hI.hSh
  have hRan := hI.hRan
  have hLr := hI.hLr
  have hLt := hI.hLt
  have hgl := hI.hgl
  have hsz := hI.hsz
  have hcm := hI.hcm
  have hsl := hI.hsl
  have hkd := hI.hkd
  have hvv := hI.hvv
  have hli := hI.hli
  have hro := hI.hro
  have hrw := hI.hrw
  have htx := hI.htx
  have hsw := hI.hsw
  have hsx := hI.hsx
  have hsy := hI.hsy
  have hsh := hI.hsh
  have hle := hI.hle
  have hcl := hI.hcl
  have hwd := hI.hwd
  have hnu := hI.hnu
  have hwn := hI.hwn
  have hs1 := hI.hs1
  have hso := hI.hso
  have hB := hV.gm.cb
  have hB0 := hB.1
  have hPs := hV.gm.cs
  have hsp1 := hV.sp.1
  have htx1 := hV.tx.1
  have h451 := hV.gm.rx.1
  have h442 := hV.gm.rx.2.2.2.1
  have h443 := hV.gm.rx.2.2.2.2
  have h481 := hV.gm.l48.1
  have h501 := hV.gm.l50.1
  have h521 := hV.gm.l52.1
  have h541 := hV.gm.l54.1
  have h04 := hV.tb.1
  have hac1 := hV.ac.1
  have hac2 := hV.ac.2.1
  have hPl0 := hV.gm.cp
  refine Ev.run 8 (pc' := 14) (lv' := [(0, .ref 0), (1, .int (nI i)), (2, .int (nI n))]) (st' := [.int (nI (g 13 5) - nI 1), .int (nI 0), .int (nI i)]) (h' := HN g hl (RF rt)) rfl ?_
  refine Ev.call (a := 118) (as := [.int (nI i), .int (nI 0), .int (nI (g 13 5) - nI 1)]) (rest := []) (lv0 := [(0, .int (nI i)), (1, .int (nI 0)), (2, .int (nI (g 13 5) - nI 1))]) (Q1 := (fun z0 h' => z0 = some (.int (nI (bn (decide (i < g 13 5))))) ∧ h' = HN g hl (RF rt))) rfl rfl (K_within _ _ _ _ (nI i) (nI 0) (nI (g 13 5) - nI 1) (by rw [in1 (by omega) (by omega)]; exact ⟨rfl, rfl⟩)) (fun r h' hr => ?_)
  obtain ⟨rfl, rfl⟩ := hr
  refine Ev_bn (fun hb17 => ?_) (fun hb17 => ?_)
  · have hhb17 : i < g 13 5 := of_decide_eq_true hb17
    refine Ev.run 8 (pc' := 35) (lv' := [(0, .ref 0), (1, .int (nI i)), (2, .int (nI n))]) (st' := [.int (nI i), .ref 14, .int (nI 1), .int (nI n)]) (h' := HN g hl (RF rt)) rfl ?_
    refine Ev_aald (c := (19 + 2 * i)) rfl (by decide) rfl (show i < 12 by omega) (Nat.le_of_ble_eq_true rfl) (rf_line rt i (by omega)).2 ?_
    have hszi := hsz i (by omega)
    refine Ev_gfI rfl rfl rfl (LnW rt (show i < 12 by omega)).1 ?_
    refine Ev.topI (congrArg nI (hB.2.1 i (by omega))) ?_
    refine Ev.call (a := 118) (as := [.int (nI n), .int (nI 1), .int (nI (g 168 i))]) (rest := []) (lv0 := [(0, .int (nI n)), (1, .int (nI 1)), (2, .int (nI (g 168 i)))]) (Q1 := (fun z0 h' => z0 = some (.int (nI (bn (decide (1 ≤ n ∧ n ≤ g 168 i))))) ∧ h' = HN g hl (RF rt))) rfl rfl (K_within _ _ _ _ (nI n) (nI 1) (nI (g 168 i)) (by rw [in1b (by omega) (by omega)]; exact ⟨rfl, rfl⟩)) (fun r h' hr => ?_)
    obtain ⟨rfl, rfl⟩ := hr
    refine Ev_bn (fun hb42 => ?_) (fun hb42 => ?_)
    · have hhb42 : 1 ≤ n ∧ n ≤ g 168 i := of_decide_eq_true hb42
      refine Ev.run 3 (pc' := 52) (lv' := [(0, .ref 0), (1, .int (nI i)), (2, .int (nI n))]) (st' := [.ref 12]) (h' := HN g hl (RF rt)) rfl ?_
      refine Ev.call (a := 27) (as := [.ref 12]) (rest := []) (lv0 := [(0, .ref 12)]) (Q1 := (fun z0 h' => z0 = none ∧ ∃ g1, h' = HN g1 hl (RF rt) ∧ Inv g1 hl rt ∧ Em g g1 ∧ Fr g g1 ∧ KNW g1)) rfl rfl (K_recallE _ g hl rt hV (fun g1 h1 h2 h3 h4 => ⟨rfl, g1, rfl, h1, h2, h3, h4⟩)) (fun r h' hr => ?_)
      obtain ⟨rfl, g1, rfl, hV1, hem, hfr, hkn⟩ := hr
      exact K_can2 _ g1 hl rt hV1 hkn i n (by rw [hem.f0]; omega) (by omega) (by rw [hem.r168]; omega) (hq g1 hV1)
    · have hhb42 : ¬ (1 ≤ n ∧ n ≤ g 168 i) := of_decide_eq_false hb42
      refine Ev.run 2 (pc' := 47) (lv' := [(0, .ref 0), (1, .int (nI i)), (2, .int (nI n))]) (st' := [.int (nI 4294967294)]) (h' := HN g hl (RF rt)) rfl ?_
      refine Ev.ret (v := some (.int (nI 4294967294))) rfl ?_
      have e := hq g hV
      unfold rs_can at e
      (repeat (first | rw [if_pos (by omega)] at e | rw [if_neg (by omega)] at e))
      exact e
  · have hhb17 : ¬ (i < g 13 5) := of_decide_eq_false hb17
    refine Ev.run 2 (pc' := 21) (lv' := [(0, .ref 0), (1, .int (nI i)), (2, .int (nI n))]) (st' := [.int (nI 4294967295)]) (h' := HN g hl (RF rt)) rfl ?_
    refine Ev.ret (v := some (.int (nI 4294967295))) rfl ?_
    have e := hq g hV
    unfold rs_can at e
    (repeat (first | rw [if_pos (by omega)] at e | rw [if_neg (by omega)] at e))
    exact e
theorem won_eq {g : Nat → Nat → Nat} (hI : MI g) (hB : CB g) (h451 : g 45 1 = g 166 9) (h : LOK g (allS g) (lwS g 1) (g 18) 6) : wiF g (ftR g) (g 45 1) (lwS g 1) (XL g (g 45 1)) = wrS g (g 175) (g 166 9) (allS g) := by
  have x := XL_ok (n := g 166 9) h
  rw [h451, ← wr_eq hI hB (g 175) (g 166 9) (allS g) (XL g (g 166 9)) x.1 x.2, fit_all]
  rfl
theorem K_won2 {L : Nat} {xs : Nat → Int32} (d : Nat) (g : Nat → Nat → Nat) (hl : Nat → Nat → Int64) (rt : Nat × Nat × Nat × Nat) (hV : Inv g hl rt) (hlok : LOK g (allS g) (lwS g 1) (g 18) 6) (x : Nat) (hx : x ≤ 1)  {Q : Po} (hq : Q (some (.int (nI (rs_won g x)))) (HN g hl (RF rt))) : Ev L xs (d + 5) 90 52 [(2, .ref 45), (0, .ref 0), (1, .int (nI x))] [] (HN g hl (RF rt)) Q := by
  have hI := hV.mi
  have hW := hI.hW
  have hS := hI.hS
  have hPl := hI.hPl
  have hNx := hI.hNx
  have hLa := hI.hLa
  have hLo := hI.hLo
  have hTb := hI.hTb
  have hTh := hI.hTh
  have hFd := hI.hFd
  have hSn := hI.hSn
  have hSh := hI.hSh
  have hRan := hI.hRan
  have hLr := hI.hLr
  have hLt := hI.hLt
  have hgl := hI.hgl
  have hsz := hI.hsz
  have hcm := hI.hcm
  have hsl := hI.hsl
  have hkd := hI.hkd
  have hvv := hI.hvv
  have hli := hI.hli
  have hro := hI.hro
  have hrw := hI.hrw
  have htx := hI.htx
  have hsw := hI.hsw
  have hsx := hI.hsx
  have hsy := hI.hsy
  have hsh := hI.hsh
  have hle := hI.hle
  have hcl := hI.hcl
  have hwd := hI.hwd
  have hnu := hI.hnu
  have hwn := hI.hwn
  have hs1 := hI.hs1
  have hso := hI.hso
  have hB := hV.gm.cb
  have hB0 := hB.1
  have hPs := hV.gm.cs
  have hsp1 := hV.sp.1
  have htx1 := hV.tx.1
  have h451 := hV.gm.rx.1
  have h442 := hV.gm.rx.2.2.2.1
  have h443 := hV.gm.rx.2.2.2.2
  have h481 := hV.gm.l48.1
  have h501 := hV.gm.l50.1
  have h521 := hV.gm.l52.1
  have h541 := hV.gm.l54.1
  have h04 := hV.tb.1
  have hac1 := hV.ac.1
  have hac2 := hV.ac.2.1
  have hPl0 := hV.gm.cp
  have hly := lwS_le hI 1
  refine Ev.run 9 (pc' := 71) (lv' := [(2, .ref 45), (0, .ref 0), (1, .int (nI x))]) (st' := [.int (nI (g 45 1)), .ref 45, .ref 13, .ref 13]) (h' := HN g hl (RF rt)) rfl ?_
  refine Ev.call (a := 13) (as := [.ref 13, .ref 45, .int (nI (g 45 1))]) (rest := [.ref 13]) (lv0 := [(0, .ref 13), (1, .ref 45), (2, .int (nI (g 45 1)))]) (Q1 := (fun z0 h' => z0 = some (.int (nI (ftR g))) ∧ h' = HN g hl (RF rt))) rfl rfl (K_fitting _ _ _ _ hI hB 45 12 (ln45 rt) (g 45 1) (by omega) (by omega) (at45 hI hV.gm.rx) ⟨congrArg (fun z => some (Value.int (nI z))) (ftB_row hV.gm.rx), rfl⟩) (fun r h' hr => ?_)
  obtain ⟨rfl, rfl⟩ := hr
  have hfr := ftR_lt hI
  refine Ev.run 5 (pc' := 85) (lv' := [(2, .ref 45), (0, .ref 0), (1, .int (nI x))]) (st' := [.ref rt.2.2.1, .int (nI (g 45 1)), .int (nI (ftR g)), .ref 13]) (h' := HN g hl (RF rt)) rfl ?_
  refine Ev_gfI rfl rfl rfl (hV.th.kc hI.hTb).1 ?_
  refine Ev.topI (congrArg nI ((hV.tb.lw hV.th hI).1)) ?_
  refine Ev.call (a := 19) (as := [.ref 13, .int (nI (ftR g)), .int (nI (g 45 1)), .int (nI (lwS g 1))]) (rest := []) (lv0 := [(0, .ref 13), (1, .int (nI (ftR g))), (2, .int (nI (g 45 1))), (3, .int (nI (lwS g 1)))]) (Q1 := (fun z0 h' => z0 = some (.int (nI (wrS g (g 175) (g 166 9) (allS g)))) ∧ h' = HN g hl (RF rt))) rfl rfl (K_winning _ _ _ _ hI hB (ftR g) hfr (g 45 1) (lwS g 1) (XL g (g 45 1)) (by omega) (by omega) (fun h => (if_pos h).symm) (fun h => if_neg (by omega)) (XL_lt hV.k18 _) ⟨congrArg (fun z => some (Value.int (nI z))) (won_eq hI hB h451 hlok), rfl⟩) (fun r h' hr => ?_)
  obtain ⟨rfl, rfl⟩ := hr
  have hwl := wrS_lt hI (g 175) (g 166 9) (allS g)
  refine Ev.run 4 (pc' := (if nI x = nI 1 then 97 else 99)) (lv' := [(3, .int (nI (wrS g (g 175) (g 166 9) (allS g)))), (2, .ref 45), (0, .ref 0), (1, .int (nI x))]) (st' := []) (h' := HN g hl (RF rt)) rfl ?_
  refine Ev.ite (fun hc94 => ?_) (fun hc94 => ?_)
  · have hc94 : x = 1 := (nI_eqU (by omega) (by omega)).mp hc94
    refine Ev.run 1 (pc' := 98) (lv' := [(3, .int (nI (wrS g (g 175) (g 166 9) (allS g)))), (2, .ref 45), (0, .ref 0), (1, .int (nI x))]) (st' := [.int (nI (wrS g (g 175) (g 166 9) (allS g)))]) (h' := HN g hl (RF rt)) rfl ?_
    refine Ev.ret (v := some (.int (nI (wrS g (g 175) (g 166 9) (allS g))))) rfl ?_
    unfold rs_won at hq
    (repeat (first | rw [if_pos (by omega)] at hq | rw [if_neg (by omega)] at hq))
    exact hq
  · have hc94 : ¬ (x = 1) := fun z => hc94 ((nI_eqU (by omega) (by omega)).mpr z)
    refine Ev.run 2 (pc' := (if nI (wrS g (g 175) (g 166 9) (allS g)) = 0 then 107 else 103)) (lv' := [(3, .int (nI (wrS g (g 175) (g 166 9) (allS g)))), (2, .ref 45), (0, .ref 0), (1, .int (nI x))]) (st' := []) (h' := HN g hl (RF rt)) rfl ?_
    refine Ev.ite (fun hc100 => ?_) (fun hc100 => ?_)
    · have hc100 : (wrS g (g 175) (g 166 9) (allS g)) = 0 := (nI_eqU0 (by omega)).mp hc100
      refine Ev.run 1 (pc' := 108) (lv' := [(3, .int (nI (wrS g (g 175) (g 166 9) (allS g)))), (2, .ref 45), (0, .ref 0), (1, .int (nI x))]) (st' := [.int (nI 0)]) (h' := HN g hl (RF rt)) rfl ?_
      refine Ev.ret (v := some (.int (nI 0))) rfl ?_
      unfold rs_won at hq
      (repeat (first | rw [if_pos (by omega)] at hq | rw [if_neg (by omega)] at hq))
      exact hq
    · have hc100 : ¬ ((wrS g (g 175) (g 166 9) (allS g)) = 0) := fun z => hc100 ((nI_eqU0 (by omega)).mpr z)
      refine Ev.run 2 (pc' := 108) (lv' := [(3, .int (nI (wrS g (g 175) (g 166 9) (allS g)))), (2, .ref 45), (0, .ref 0), (1, .int (nI x))]) (st' := [.int (nI 1)]) (h' := HN g hl (RF rt)) rfl ?_
      refine Ev.ret (v := some (.int (nI 1))) rfl ?_
      unfold rs_won at hq
      (repeat (first | rw [if_pos (by omega)] at hq | rw [if_neg (by omega)] at hq))
      exact hq
theorem K_won {L : Nat} {xs : Nat → Int32} (d : Nat) (g : Nat → Nat → Nat) (hl : Nat → Nat → Int64) (rt : Nat × Nat × Nat × Nat) (hV : Inv g hl rt) (x : Nat) (hx : x < 2 ^ 32) {Q : Po} (hq : ∀ g1, Inv g1 hl rt → Q (some (.int (nI (rs_won g1 x)))) (HN g1 hl (RF rt))) : Ev L xs (d + 6) 90 0 [(0, .ref 0), (1, .int (nI x))] [] (HN g hl (RF rt)) Q := by
  have hI := hV.mi
  have hW := hI.hW
  have hS := hI.hS
  have hPl := hI.hPl
  have hNx := hI.hNx
  have hLa := hI.hLa
  have hLo := hI.hLo
  have hTb := hI.hTb
  have hTh := hI.hTh
  have hFd := hI.hFd
  have hSn := hI.hSn
  have hSh := hI.hSh
  have hRan := hI.hRan
  have hLr := hI.hLr
  have hLt := hI.hLt
  have hgl := hI.hgl
  have hsz := hI.hsz
  have hcm := hI.hcm
  have hsl := hI.hsl
  have hkd := hI.hkd
  have hvv := hI.hvv
  have hli := hI.hli
  have hro := hI.hro
  have hrw := hI.hrw
  have htx := hI.htx
  have hsw := hI.hsw
  have hsx := hI.hsx
  have hsy := hI.hsy
  have hsh := hI.hsh
  have hle := hI.hle
  have hcl := hI.hcl
  have hwd := hI.hwd
  have hnu := hI.hnu
  have hwn := hI.hwn
  have hs1 := hI.hs1
  have hso := hI.hso
  have hB := hV.gm.cb
  have hB0 := hB.1
  have hPs := hV.gm.cs
  have hsp1 := hV.sp.1
  have htx1 := hV.tx.1
  have h451 := hV.gm.rx.1
  have h442 := hV.gm.rx.2.2.2.1
  have h443 := hV.gm.rx.2.2.2.2
  have h481 := hV.gm.l48.1
  have h501 := hV.gm.l50.1
  have h521 := hV.gm.l52.1
  have h541 := hV.gm.l54.1
  have h04 := hV.tb.1
  have hac1 := hV.ac.1
  have hac2 := hV.ac.2.1
  have hPl0 := hV.gm.cp
  refine Ev.run 3 (pc' := 3) (lv' := [(0, .ref 0), (1, .int (nI x))]) (st' := [.int (nI 1), .int (nI 0), .int (nI x)]) (h' := HN g hl (RF rt)) rfl ?_
  refine Ev.call (a := 118) (as := [.int (nI x), .int (nI 0), .int (nI 1)]) (rest := []) (lv0 := [(0, .int (nI x)), (1, .int (nI 0)), (2, .int (nI 1))]) (Q1 := (fun z0 h' => z0 = some (.int (nI (bn (decide (x ≤ 1))))) ∧ h' = HN g hl (RF rt))) rfl rfl (K_within _ _ _ _ (nI x) (nI 0) (nI 1) (by rw [in0 (by omega) (by omega)]; exact ⟨rfl, rfl⟩)) (fun r h' hr => ?_)
  obtain ⟨rfl, rfl⟩ := hr
  refine Ev_bn (fun hb6 => ?_) (fun hb6 => ?_)
  · have hhb6 : x ≤ 1 := of_decide_eq_true hb6
    refine Ev.run 12 (pc' := 36) (lv' := [(2, .ref 45), (0, .ref 0), (1, .int (nI x))]) (st' := [.ref 13, .ref 13]) (h' := HN g hl (RF rt)) rfl ?_
    refine Ev.call (a := 10) (as := [.ref 13]) (rest := [.ref 13]) (lv0 := [(0, .ref 13)]) (Q1 := (fun z0 h' => z0 = some (.int (nI (allS g))) ∧ h' = HN g hl (RF rt))) rfl rfl (K_all _ _ _ _ hI hB ⟨rfl, rfl⟩) (fun r h' hr => ?_)
    obtain ⟨rfl, rfl⟩ := hr
    have hall := allS_lt hI
    refine Ev.run 3 (pc' := 46) (lv' := [(2, .ref 45), (0, .ref 0), (1, .int (nI x))]) (st' := [.ref rt.2.2.1, .int (nI (allS g)), .ref 13]) (h' := HN g hl (RF rt)) rfl ?_
    refine Ev_gfI rfl rfl rfl (hV.th.kc hI.hTb).1 ?_
    refine Ev.topI (congrArg nI ((hV.tb.lw hV.th hI).1)) ?_
    refine Ev.call (a := 18) (as := [.ref 13, .int (nI (allS g)), .int (nI (lwS g 1))]) (rest := []) (lv0 := [(0, .ref 13), (1, .int (nI (allS g))), (2, .int (nI (lwS g 1)))]) (Q1 := (fun z0 h' => z0 = none ∧ ∃ g1, h' = HN g1 hl (RF rt) ∧ Inv g1 hl rt ∧ Em g g1 ∧ Fr g g1 ∧ LOK g1 (allS g) (lwS g1 1) (g1 18) 6)) rfl rfl (K_weighE _ g hl rt hV (allS g) (allS_lt hI) (fun g1 h1 h2 h3 h4 => ⟨rfl, g1, rfl, h1, h2, h3, h4⟩)) (fun r h' hr => ?_)
    obtain ⟨rfl, g1, rfl, hV1, hem, hfr, hlok⟩ := hr
    exact K_won2 _ g1 hl rt hV1 (by rw [hem.xallS]; exact hlok) x (by omega) (hq g1 hV1)
  · have hhb6 : ¬ (x ≤ 1) := of_decide_eq_false hb6
    refine Ev.run 2 (pc' := 10) (lv' := [(0, .ref 0), (1, .int (nI x))]) (st' := [.int (nI 4294967295)]) (h' := HN g hl (RF rt)) rfl ?_
    refine Ev.ret (v := some (.int (nI 4294967295))) rfl ?_
    have e := hq g hV
    unfold rs_won at e
    (repeat (first | rw [if_pos (by omega)] at e | rw [if_neg (by omega)] at e))
    exact e
theorem beg_eq {g : Nat → Nat → Nat} (hI : MI g) (hB : CB g) (r : Nat → Nat) {s : Nat} (hs : s < 2 ^ g 166 0) (h : LOK g s (lwS g 1) (g 18) 6) : wiF g s 0 (lwS g 1) (XL g 0) = wrS g r 0 s := by
  have x := XL_ok (n := 0) h
  rw [← wr_eq hI hB r 0 s (XL g 0) x.1 x.2, fit0 r hs]
theorem K_begins2 {L : Nat} {xs : Nat → Int32} (d : Nat) (g : Nat → Nat → Nat) (hl : Nat → Nat → Int64) (rt : Nat × Nat × Nat × Nat) (hV : Inv g hl rt) (m : Nat) (hm : m ≤ 9) (hlok : LOK g (bset (fun i => !decide (g 169 i < m)) (g 166 0)) (lwS g 1) (g 18) 6)  {Q : Po} (hq : Q (some (.int (nI (rs_begins g m)))) (HN g hl (RF rt))) : Ev L xs (d + 5) 99 46 [(2, .int (nI (bset (fun i => !decide (g 169 i < m)) (g 166 0)))), (0, .ref 0), (1, .int (nI m))] [] (HN g hl (RF rt)) Q := by
  have hI := hV.mi
  have hW := hI.hW
  have hS := hI.hS
  have hPl := hI.hPl
  have hNx := hI.hNx
  have hLa := hI.hLa
  have hLo := hI.hLo
  have hTb := hI.hTb
  have hTh := hI.hTh
  have hFd := hI.hFd
  have hSn := hI.hSn
  have hSh := hI.hSh
  have hRan := hI.hRan
  have hLr := hI.hLr
  have hLt := hI.hLt
  have hgl := hI.hgl
  have hsz := hI.hsz
  have hcm := hI.hcm
  have hsl := hI.hsl
  have hkd := hI.hkd
  have hvv := hI.hvv
  have hli := hI.hli
  have hro := hI.hro
  have hrw := hI.hrw
  have htx := hI.htx
  have hsw := hI.hsw
  have hsx := hI.hsx
  have hsy := hI.hsy
  have hsh := hI.hsh
  have hle := hI.hle
  have hcl := hI.hcl
  have hwd := hI.hwd
  have hnu := hI.hnu
  have hwn := hI.hwn
  have hs1 := hI.hs1
  have hso := hI.hso
  have hB := hV.gm.cb
  have hB0 := hB.1
  have hPs := hV.gm.cs
  have hsp1 := hV.sp.1
  have htx1 := hV.tx.1
  have h451 := hV.gm.rx.1
  have h442 := hV.gm.rx.2.2.2.1
  have h443 := hV.gm.rx.2.2.2.2
  have h481 := hV.gm.l48.1
  have h501 := hV.gm.l50.1
  have h521 := hV.gm.l52.1
  have h541 := hV.gm.l54.1
  have h04 := hV.tb.1
  have hac1 := hV.ac.1
  have hac2 := hV.ac.2.1
  have hPl0 := hV.gm.cp
  have hly := lwS_le hI 1
  refine Ev.run 8 (pc' := 62) (lv' := [(2, .int (nI (bset (fun i => !decide (g 169 i < m)) (g 166 0)))), (0, .ref 0), (1, .int (nI m))]) (st' := [.ref rt.2.2.1, .int (nI 0), .int (nI (bset (fun i => !decide (g 169 i < m)) (g 166 0))), .ref 13]) (h' := HN g hl (RF rt)) rfl ?_
  refine Ev_gfI rfl rfl rfl (hV.th.kc hI.hTb).1 ?_
  refine Ev.topI (congrArg nI ((hV.tb.lw hV.th hI).1)) ?_
  refine Ev.call (a := 19) (as := [.ref 13, .int (nI (bset (fun i => !decide (g 169 i < m)) (g 166 0))), .int (nI 0), .int (nI (lwS g 1))]) (rest := []) (lv0 := [(0, .ref 13), (1, .int (nI (bset (fun i => !decide (g 169 i < m)) (g 166 0)))), (2, .int (nI 0)), (3, .int (nI (lwS g 1)))]) (Q1 := (fun z0 h' => z0 = some (.int (nI (wrS g (g 175) 0 (bset (fun i => !decide (g 169 i < m)) (g 166 0))))) ∧ h' = HN g hl (RF rt))) rfl rfl (K_winning _ _ _ _ hI hB (bset (fun i => !decide (g 169 i < m)) (g 166 0)) (bset_12 _ hW) 0 (lwS g 1) (XL g 0) (by omega) (by omega) (fun h => (if_pos h).symm) (fun h => if_neg (by omega)) (XL_lt hV.k18 _) ⟨congrArg (fun z => some (Value.int (nI z))) (beg_eq hI hB (g 175) (bset_lt _ _) hlok), rfl⟩) (fun r h' hr => ?_)
  obtain ⟨rfl, rfl⟩ := hr
  refine Ev.ret (v := some (.int (nI (wrS g (g 175) 0 (bset (fun i => !decide (g 169 i < m)) (g 166 0)))))) rfl ?_
  unfold rs_begins at hq
  (repeat (first | rw [if_pos (by omega)] at hq | rw [if_neg (by omega)] at hq))
  exact hq
theorem K_begins {L : Nat} {xs : Nat → Int32} (d : Nat) (g : Nat → Nat → Nat) (hl : Nat → Nat → Int64) (rt : Nat × Nat × Nat × Nat) (hV : Inv g hl rt) (m : Nat) (hm : m < 2 ^ 32) {Q : Po} (hq : ∀ g1, Inv g1 hl rt → Q (some (.int (nI (rs_begins g1 m)))) (HN g1 hl (RF rt))) : Ev L xs (d + 6) 99 0 [(0, .ref 0), (1, .int (nI m))] [] (HN g hl (RF rt)) Q := by
  have hI := hV.mi
  have hW := hI.hW
  have hS := hI.hS
  have hPl := hI.hPl
  have hNx := hI.hNx
  have hLa := hI.hLa
  have hLo := hI.hLo
  have hTb := hI.hTb
  have hTh := hI.hTh
  have hFd := hI.hFd
  have hSn := hI.hSn
  have hSh := hI.hSh
  have hRan := hI.hRan
  have hLr := hI.hLr
  have hLt := hI.hLt
  have hgl := hI.hgl
  have hsz := hI.hsz
  have hcm := hI.hcm
  have hsl := hI.hsl
  have hkd := hI.hkd
  have hvv := hI.hvv
  have hli := hI.hli
  have hro := hI.hro
  have hrw := hI.hrw
  have htx := hI.htx
  have hsw := hI.hsw
  have hsx := hI.hsx
  have hsy := hI.hsy
  have hsh := hI.hsh
  have hle := hI.hle
  have hcl := hI.hcl
  have hwd := hI.hwd
  have hnu := hI.hnu
  have hwn := hI.hwn
  have hs1 := hI.hs1
  have hso := hI.hso
  have hB := hV.gm.cb
  have hB0 := hB.1
  have hPs := hV.gm.cs
  have hsp1 := hV.sp.1
  have htx1 := hV.tx.1
  have h451 := hV.gm.rx.1
  have h442 := hV.gm.rx.2.2.2.1
  have h443 := hV.gm.rx.2.2.2.2
  have h481 := hV.gm.l48.1
  have h501 := hV.gm.l50.1
  have h521 := hV.gm.l52.1
  have h541 := hV.gm.l54.1
  have h04 := hV.tb.1
  have hac1 := hV.ac.1
  have hac2 := hV.ac.2.1
  have hPl0 := hV.gm.cp
  refine Ev.run 3 (pc' := 4) (lv' := [(0, .ref 0), (1, .int (nI m))]) (st' := [.int (nI 9), .int (nI 0), .int (nI m)]) (h' := HN g hl (RF rt)) rfl ?_
  refine Ev.call (a := 118) (as := [.int (nI m), .int (nI 0), .int (nI 9)]) (rest := []) (lv0 := [(0, .int (nI m)), (1, .int (nI 0)), (2, .int (nI 9))]) (Q1 := (fun z0 h' => z0 = some (.int (nI (bn (decide (m ≤ 9))))) ∧ h' = HN g hl (RF rt))) rfl rfl (K_within _ _ _ _ (nI m) (nI 0) (nI 9) (by rw [in0 (by omega) (by omega)]; exact ⟨rfl, rfl⟩)) (fun r h' hr => ?_)
  obtain ⟨rfl, rfl⟩ := hr
  refine Ev_bn (fun hb7 => ?_) (fun hb7 => ?_)
  · have hhb7 : m ≤ 9 := of_decide_eq_true hb7
    refine Ev.run 5 (pc' := 21) (lv' := [(0, .ref 0), (1, .int (nI m))]) (st' := [.int (nI m), .ref 13]) (h' := HN g hl (RF rt)) rfl ?_
    refine Ev.call (a := 11) (as := [.ref 13, .int (nI m)]) (rest := []) (lv0 := [(0, .ref 13), (1, .int (nI m))]) (Q1 := (fun z0 h' => z0 = some (.int (nI (bset (fun i => !decide (g 169 i < m)) (g 166 0)))) ∧ h' = HN g hl (RF rt))) rfl rfl (K_asCommonAs _ _ _ _ hI hB m (by omega) ⟨rfl, rfl⟩) (fun r h' hr => ?_)
    obtain ⟨rfl, rfl⟩ := hr
    refine Ev.run 8 (pc' := 40) (lv' := [(2, .int (nI (bset (fun i => !decide (g 169 i < m)) (g 166 0)))), (0, .ref 0), (1, .int (nI m))]) (st' := [.ref rt.2.2.1, .int (nI (bset (fun i => !decide (g 169 i < m)) (g 166 0))), .ref 13]) (h' := HN g hl (RF rt)) rfl ?_
    refine Ev_gfI rfl rfl rfl (hV.th.kc hI.hTb).1 ?_
    refine Ev.topI (congrArg nI ((hV.tb.lw hV.th hI).1)) ?_
    refine Ev.call (a := 18) (as := [.ref 13, .int (nI (bset (fun i => !decide (g 169 i < m)) (g 166 0))), .int (nI (lwS g 1))]) (rest := []) (lv0 := [(0, .ref 13), (1, .int (nI (bset (fun i => !decide (g 169 i < m)) (g 166 0)))), (2, .int (nI (lwS g 1)))]) (Q1 := (fun z0 h' => z0 = none ∧ ∃ g1, h' = HN g1 hl (RF rt) ∧ Inv g1 hl rt ∧ Em g g1 ∧ Fr g g1 ∧ LOK g1 (bset (fun i => !decide (g 169 i < m)) (g 166 0)) (lwS g1 1) (g1 18) 6)) rfl rfl (K_weighE _ g hl rt hV (bset (fun i => !decide (g 169 i < m)) (g 166 0)) (bset_12 _ hW) (fun g1 h1 h2 h3 h4 => ⟨rfl, g1, rfl, h1, h2, h3, h4⟩)) (fun r h' hr => ?_)
    obtain ⟨rfl, g1, rfl, hV1, hem, hfr, hlok⟩ := hr
    have e : (bset (fun i => !decide (g 169 i < m)) (g 166 0)) = (bset (fun i => !decide (g1 169 i < m)) (g1 166 0)) := by rw [hem.r169, hem.f0]
    rw [e] at hlok ⊢
    exact K_begins2 _ g1 hl rt hV1 m (by omega) hlok (hq g1 hV1)
  · have hhb7 : ¬ (m ≤ 9) := of_decide_eq_false hb7
    refine Ev.run 2 (pc' := 12) (lv' := [(0, .ref 0), (1, .int (nI m))]) (st' := [.int (nI 4294967294)]) (h' := HN g hl (RF rt)) rfl ?_
    refine Ev.ret (v := some (.int (nI 4294967294))) rfl ?_
    have e := hq g hV
    unfold rs_begins at e
    (repeat (first | rw [if_pos (by omega)] at e | rw [if_neg (by omega)] at e))
    exact e
