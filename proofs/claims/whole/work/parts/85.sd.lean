/-! the class: a word -/
theorem sp_ft {g : Nat → Nat → Nat} (hs : LnE g 1 (g 166 1) (g 170)) (i : Nat) : (ft g (atLn g 1) (g 166 1) i && lnB g (g 166 1) i) = isSp g i := by
  unfold ft lnB isSp
  by_cases h : g 168 i = g 166 1
  · rw [decide_eq_true h, Bool.and_true]
    exact dc_c ⟨fun z => ⟨h, fun k hk => (z.2 k hk).trans (by rw [atE hs]; exact if_pos hk)⟩, fun z => ⟨by omega, fun k hk => (z.2 k hk).trans (by rw [atE hs]; exact (if_pos hk).symm)⟩⟩
  · rw [decide_eq_false h, Bool.and_false]
    exact (dc_f (fun z => h z.1)).symm
theorem isw_eq {g : Nat → Nat → Nat} (hs : LnE g 1 (g 166 1) (g 170)) : enB g (ftB g 1 (g 166 1)) (g 166 1) 0 = anySp g := by
  unfold enB ftB
  rw [decide_eq_true (Nat.zero_le _), Bool.true_and, bset_and, bset_cg (fun i _ => sp_ft hs i)]
  by_cases h : ∃ i, i < g 166 0 ∧ isSp g i = true
  · obtain ⟨i, h1, h2⟩ := h
    rw [anySp_t h1 h2]
    have z : bset (isSp g) (g 166 0) ≠ 0 := fun e => by
      have t := bset_tb (isSp g) (g 166 0) i
      rw [e, Nat.zero_testBit, decide_eq_true h1, h2] at t
      cases t
    rw [decide_eq_false z]
    rfl
  · have f : ∀ i, i < g 166 0 → isSp g i = false := fun i hi => by
      cases e : isSp g i with
      | false => rfl
      | true => exact absurd ⟨i, hi, e⟩ h
    rw [anySp_f f, bset_0 f]
    rfl
theorem atS {g : Nat → Nat → Nat} (hI : MI g) (hs : LnE g 1 (g 166 1) (g 170)) (k : Nat) : atLn g 1 k < 4294967296 := by
  rw [atE hs]
  split
  · have h1 := hI.hS
    have h2 := hI.hsl k (by omega)
    omega
  · decide
/-- the letters of a word laid among the places -/
def pwF (w r : Nat → Nat) (b n : Nat) : Nat → Nat := fun j => if j / 4 < n ∧ r (j / 4) = j % 4 then w j ||| b else w j
theorem pwF_0 (w r : Nat → Nat) (b : Nat) : pwF w r b 0 = w := by
  funext j
  unfold pwF
  rw [if_neg (by omega)]
theorem pwF_s (w r : Nat → Nat) (b k : Nat) (h : r k ≤ 3) : up (pwF w r b k) (k * 4 + r k) (pwF w r b k (k * 4 + r k) ||| b) = pwF w r b (k + 1) := by
  funext j
  unfold up pwF
  by_cases e : j = k * 4 + r k
  · have e1 : j / 4 = k := by omega
    have e2 : j % 4 = r k := by omega
    rw [if_pos e, ← e, e1, e2, if_neg (by omega), if_pos ⟨by omega, rfl⟩]
  · rw [if_neg e]
    by_cases h1 : j / 4 = k
    · rw [h1, if_neg (by omega), if_neg (by omega)]
    · by_cases h2 : j / 4 < k ∧ r (j / 4) = j % 4
      · rw [if_pos h2, if_pos ⟨by omega, h2.2⟩]
      · rw [if_neg h2, if_neg (fun z => h2 ⟨by omega, z.2⟩)]
noncomputable def bkP (g : Nat → Nat → Nat) (c : Nat) : Nat → Nat → Nat := u2 (ur (u2 (u2 (cpLn g 1 (19 + 2 * g 166 0)) 15 (g 166 0) c) 17 (g 166 1) (g 17 (g 166 1) ||| nSh 1 (g 166 0))) 16 (pwF (g 16) (g 170) (nSh 1 (g 166 0)) (g 166 1))) 13 5 (g 166 0 + 1)
noncomputable def cs_word (g : Nat → Nat → Nat) (c : Nat) : Nat → Nat → Nat := if c ≤ 9 then (if g 166 1 = 0 then g else bif anySp g then g else if g 166 0 = 12 then g else u2 (bkP g c) 1 1 0) else g
theorem K_isWord {L : Nat} {xs : Nat → Int32} (d : Nat) (g : Nat → Nat → Nat) (hl : Nat → Nat → Int64) (rt : Nat × Nat × Nat × Nat) (hV : Inv g hl rt)  {Q : Po} (hq : Q (some (.int (nI (bn (anySp g))))) (HN g hl (RF rt))) : Ev L xs (d + 3) 14 0 [(0, .ref 13), (1, .ref 1)] [] (HN g hl (RF rt)) Q := by
  have hI := hV.mi
  have hW := hI.hW
  have hS := hI.hS
  have hPl := hI.hPl
  have hNx := hI.hNx
  have hLa := hI.hLa
  have hLo := hI.hLo
  have hTb := hI.hTb
  have hTh := hI.hTh
  have hFd := hI.hFd
  have hSn := hI.hSn
  have hSh := hI.hSh
  have hRan := hI.hRan
  have hLr := hI.hLr
  have hLt := hI.hLt
  have hgl := hI.hgl
  have hsz := hI.hsz
  have hcm := hI.hcm
  have hsl := hI.hsl
  have hkd := hI.hkd
  have hvv := hI.hvv
  have hli := hI.hli
  have hro := hI.hro
  have hrw := hI.hrw
  have htx := hI.htx
  have hsw := hI.hsw
  have hsx := hI.hsx
  have hsy := hI.hsy
  have hsh := hI.hsh
  have hle := hI.hle
  have hcl := hI.hcl
  have hwd := hI.hwd
  have hnu := hI.hnu
  have hwn := hI.hwn
  have hs1 := hI.hs1
  have hso := hI.hso
  have hB := hV.gm.cb
  have hB0 := hB.1
  have hPs := hV.gm.cs
  have hsp1 := hV.sp.1
  have htx1 := hV.tx.1
  have h451 := hV.gm.rx.1
  have h442 := hV.gm.rx.2.2.2.1
  have h443 := hV.gm.rx.2.2.2.2
  have h481 := hV.gm.l48.1
  have h501 := hV.gm.l50.1
  have h521 := hV.gm.l52.1
  have h541 := hV.gm.l54.1
  have h04 := hV.tb.1
  have hac1 := hV.ac.1
  have hac2 := hV.ac.2.1
  have hPl0 := hV.gm.cp
  rw [← isw_eq hV.sp, ← hsp1] at hq
  refine Ev.run 5 (pc' := 7) (lv' := [(0, .ref 13), (1, .ref 1)]) (st' := [.int (nI (g 1 1)), .ref 1, .ref 13, .ref 13]) (h' := HN g hl (RF rt)) rfl ?_
  refine Ev.call (a := 13) (as := [.ref 13, .ref 1, .int (nI (g 1 1))]) (rest := [.ref 13]) (lv0 := [(0, .ref 13), (1, .ref 1), (2, .int (nI (g 1 1)))]) (Q1 := (fun z0 h' => z0 = some (.int (nI (ftB g 1 (g 1 1)))) ∧ h' = HN g hl (RF rt))) rfl rfl (K_fitting _ _ _ _ hI hB 1 6 (ln1 rt) (g 1 1) (by omega) (by omega) (atS hI hV.sp) ⟨rfl, rfl⟩) (fun r h' hr => ?_)
  obtain ⟨rfl, rfl⟩ := hr
  refine Ev.run 3 (pc' := 15) (lv' := [(0, .ref 13), (1, .ref 1)]) (st' := [.int (nI 0), .int (nI (g 1 1)), .int (nI (ftB g 1 (g 1 1))), .ref 13]) (h' := HN g hl (RF rt)) rfl ?_
  refine Ev.call (a := 15) (as := [.ref 13, .int (nI (ftB g 1 (g 1 1))), .int (nI (g 1 1)), .int (nI 0)]) (rest := []) (lv0 := [(0, .ref 13), (1, .int (nI (ftB g 1 (g 1 1)))), (2, .int (nI (g 1 1))), (3, .int (nI 0))]) (Q1 := (fun z0 h' => z0 = some (.int (nI (bn (enB g (ftB g 1 (g 1 1)) (g 1 1) 0)))) ∧ h' = HN g hl (RF rt))) rfl rfl (K_isEnd _ _ _ _ hI hB (ftB g 1 (g 1 1)) (bset_12 _ hW) (g 1 1) 0 (by omega) (by omega) ⟨rfl, rfl⟩) (fun r h' hr => ?_)
  obtain ⟨rfl, rfl⟩ := hr
  refine Ev_bn (fun hb18 => ?_) (fun hb18 => ?_)
  · skip
    refine Ev.ret (v := some (.int (nI 1))) rfl ?_
    rw [hb18] at hq
    exact hq
  · skip
    refine Ev.ret (v := some (.int (nI 0))) rfl ?_
    rw [hb18] at hq
    exact hq
theorem K_put8 {L : Nat} {xs : Nat → Int32} (d : Nat) (g : Nat → Nat → Nat) (hl : Nat → Nat → Int64) (rt : Nat × Nat × Nat × Nat) (C : Nat → Nat → Nat) (c : Nat) (r : Nat → Nat) (n b W0 : Nat) (hn : C 1 1 = n) (hn6 : n ≤ 6) (hC2 : ∀ k, k < n → C 2 k = r k) (hr3 : ∀ k, k < n → r k ≤ 3) (hW : C 13 5 = W0) (hW12 : W0 < 12) (hb : b = nSh 1 W0) {Q : Po} (hq : Q none (HN (u2 (ur C 16 (pwF (C 16) r b n)) 13 5 (W0 + 1)) hl (RF rt))) : Ev L xs (d + 2) 8 58 [(0, .ref 13), (1, .ref 1), (2, .int (nI c))] [] (HN C hl (RF rt)) Q := by
  refine Ev.run 2 (pc' := 60) (lv' := [(3, .int (nI 0)), (0, .ref 13), (1, .ref 1), (2, .int (nI c))]) (st' := []) (h' := HN C hl (RF rt)) rfl ?_
  refine Ev.hp (congrArg (fun z => HN z hl (RF rt)) (show C = ur C 16 (pwF (C 16) r b 0) by rw [pwF_0, ur_self])) ?_
  refine for_ind n (fun k => Ev L xs (d + 2) 8 60 [(3, .int (nI k)), (0, .ref 13), (1, .ref 1), (2, .int (nI c))] [] (HN (ur C 16 (pwF (C 16) r b k)) hl (RF rt)) Q) (fun k hk hnext => ?_) 0 (Nat.zero_le _)
  refine Ev.run 4 (pc' := (if nI (C 1 1) ≤ nI k then 97 else 68)) (lv' := [(3, .int (nI k)), (0, .ref 13), (1, .ref 1), (2, .int (nI c))]) (st' := []) (h' := HN (ur C 16 (pwF (C 16) r b k)) hl (RF rt)) rfl ?_
  refine Ev.ite (fun hc65 => ?_) (fun hc65 => ?_)
  · have hc65 : (C 1 1) ≤ k := (nI_leI (by omega) (by omega)).mp hc65
    refine Ev.run 5 (pc' := 104) (lv' := [(3, .int (nI k)), (0, .ref 13), (1, .ref 1), (2, .int (nI c))]) (st' := [.int (nI (C 13 5) + nI 1), .ref 13]) (h' := HN (ur C 16 (pwF (C 16) r b k)) hl (RF rt)) rfl ?_
    refine Ev.topI (nI_add _ _) ?_
    refine Ev.run 1 (pc' := 107) (lv' := [(3, .int (nI k)), (0, .ref 13), (1, .ref 1), (2, .int (nI c))]) (st' := []) (h' := setI (HN (ur C 16 (pwF (C 16) r b k)) hl (RF rt)) 13 5 (nI ((C 13 5) + 1))) rfl ?_
    refine Ev.hp (HN_set _ _ _ _ _ _) ?_
    refine Ev.ret (v := none) rfl ?_
    have hkn : k = n := by omega
    rw [hkn, hW]
    exact hq
  · have hc65 : ¬ ((C 1 1) ≤ k) := fun z => hc65 ((nI_leI (by omega) (by omega)).mpr z)
    refine Ev.run 5 (pc' := 75) (lv' := [(3, .int (nI k)), (0, .ref 13), (1, .ref 1), (2, .int (nI c))]) (st' := [.int (nI k * nI 4), .ref 16]) (h' := HN (ur C 16 (pwF (C 16) r b k)) hl (RF rt)) rfl ?_
    refine Ev.topI (pk_mul _ _) ?_
    refine Ev.run 2 (pc' := 77) (lv' := [(3, .int (nI k)), (0, .ref 13), (1, .ref 1), (2, .int (nI c))]) (st' := [.int (nI k), .ref 1, .int (nI (k * 4)), .ref 16]) (h' := HN (ur C 16 (pwF (C 16) r b k)) hl (RF rt)) rfl ?_
    refine Ev.call (a := 44) (as := [.ref 1, .int (nI k)]) (rest := [.int (nI (k * 4)), .ref 16]) (lv0 := [(0, .ref 1), (1, .int (nI k))]) (Q1 := (fun z0 h' => z0 = some (.int (nI (r k))) ∧ h' = HN (ur C 16 (pwF (C 16) r b k)) hl (RF rt))) rfl rfl (K_at _ (ur C 16 (pwF (C 16) r b k)) _ _ 1 6 (ln1 rt) k (by omega) (show C 1 1 ≤ 6 by omega) ⟨congrArg (fun z => some (Value.int (nI z))) (show (if k < C 1 1 then C 2 k else 4294967295) = r k by rw [if_pos (by omega)]; exact hC2 k (by omega)), rfl⟩) (fun r h' hr => ?_)
    obtain ⟨rfl, rfl⟩ := hr
    have hrk := hr3 k (by omega)
    refine Ev.run 1 (pc' := 81) (lv' := [(3, .int (nI k)), (0, .ref 13), (1, .ref 1), (2, .int (nI c))]) (st' := [.int (nI (k * 4) + nI (r k)), .ref 16]) (h' := HN (ur C 16 (pwF (C 16) r b k)) hl (RF rt)) rfl ?_
    refine Ev.topI (nI_add _ _) ?_
    refine Ev.run 1 (pc' := 82) (lv' := [(3, .int (nI k)), (0, .ref 13), (1, .ref 1), (2, .int (nI c))]) (st' := [.int (nI ((k * 4) + (r k))), .ref 16, .int (nI ((k * 4) + (r k))), .ref 16]) (h' := HN (ur C 16 (pwF (C 16) r b k)) hl (RF rt)) rfl ?_
    refine Ev_iald rfl rfl (show (k * 4) + (r k) < 24 by omega) (Nat.le_of_ble_eq_true rfl) ?_
    refine Ev.run 4 (pc' := 89) (lv' := [(3, .int (nI k)), (0, .ref 13), (1, .ref 1), (2, .int (nI c))]) (st' := [.int (nI 1 <<< (nI (C 13 5) &&& 31)), .int (nI ((pwF (C 16) r b k) ((k * 4) + (r k)))), .int (nI ((k * 4) + (r k))), .ref 16]) (h' := HN (ur C 16 (pwF (C 16) r b k)) hl (RF rt)) rfl ?_
    refine Ev.topI ((nI_shl (a := 1) (b := C 13 5) (by omega)).trans (congrArg nI (show nSh 1 (C 13 5) = b by rw [hW]; exact hb.symm))) ?_
    refine Ev.run 1 (pc' := 90) (lv' := [(3, .int (nI k)), (0, .ref 13), (1, .ref 1), (2, .int (nI c))]) (st' := [.int (nI ((pwF (C 16) r b k) ((k * 4) + (r k))) ||| nI b), .int (nI ((k * 4) + (r k))), .ref 16]) (h' := HN (ur C 16 (pwF (C 16) r b k)) hl (RF rt)) rfl ?_
    refine Ev.topI (nIo _ _) ?_
    refine Ev_iast rfl rfl (show (k * 4) + (r k) < 24 by omega) (Nat.le_of_ble_eq_true rfl) ?_
    refine Ev.run 1 (pc' := 94) (lv' := [(3, .int (nI k + 1)), (0, .ref 13), (1, .ref 1), (2, .int (nI c))]) (st' := []) (h' := HN (u2 (ur C 16 (pwF (C 16) r b k)) 16 ((k * 4) + (r k)) (((pwF (C 16) r b k) ((k * 4) + (r k))) ||| b)) hl (RF rt)) rfl ?_
    refine Ev.lvE (congrArg (fun z => (3, Value.int z) :: [(0, .ref 13), (1, .ref 1), (2, .int (nI c))]) (nI_1 _)) ?_
    refine Ev.run 1 (pc' := 60) (lv' := [(3, .int (nI (k + 1))), (0, .ref 13), (1, .ref 1), (2, .int (nI c))]) (st' := []) (h' := HN (u2 (ur C 16 (pwF (C 16) r b k)) 16 ((k * 4) + (r k)) (((pwF (C 16) r b k) ((k * 4) + (r k))) ||| b)) hl (RF rt)) rfl ?_
    rw [ur_up, pwF_s _ _ _ _ (hr3 k (by omega))]
    have hx := hnext (by omega)
    exact Ev.wk (Ext.cons rfl rfl (Ext.cons rfl rfl (Ext.cons rfl rfl (Ext.cons rfl rfl (Ext.nil rfl))))) hx
theorem K_bput {L : Nat} {xs : Nat → Int32} (d : Nat) (g : Nat → Nat → Nat) (hl : Nat → Nat → Int64) (rt : Nat × Nat × Nat × Nat) (hV : Inv g hl rt) (c : Nat) (hc : c ≤ 9) (h12 : g 166 0 < 12)  {Q : Po} (hq : Q none (HN (bkP g c) hl (RF rt))) : Ev L xs (d + 3) 8 0 [(0, .ref 13), (1, .ref 1), (2, .int (nI c))] [] (HN g hl (RF rt)) Q := by
  have hI := hV.mi
  have hW := hI.hW
  have hS := hI.hS
  have hPl := hI.hPl
  have hNx := hI.hNx
  have hLa := hI.hLa
  have hLo := hI.hLo
  have hTb := hI.hTb
  have hTh := hI.hTh
  have hFd := hI.hFd
  have hSn := hI.hSn
  have hSh := hI.hSh
  have hRan := hI.hRan
  have hLr := hI.hLr
  have hLt := hI.hLt
  have hgl := hI.hgl
  have hsz := hI.hsz
  have hcm := hI.hcm
  have hsl := hI.hsl
  have hkd := hI.hkd
  have hvv := hI.hvv
  have hli := hI.hli
  have hro := hI.hro
  have hrw := hI.hrw
  have htx := hI.htx
  have hsw := hI.hsw
  have hsx := hI.hsx
  have hsy := hI.hsy
  have hsh := hI.hsh
  have hle := hI.hle
  have hcl := hI.hcl
  have hwd := hI.hwd
  have hnu := hI.hnu
  have hwn := hI.hwn
  have hs1 := hI.hs1
  have hso := hI.hso
  have hB := hV.gm.cb
  have hB0 := hB.1
  have hPs := hV.gm.cs
  have hsp1 := hV.sp.1
  have htx1 := hV.tx.1
  have h451 := hV.gm.rx.1
  have h442 := hV.gm.rx.2.2.2.1
  have h443 := hV.gm.rx.2.2.2.2
  have h481 := hV.gm.l48.1
  have h501 := hV.gm.l50.1
  have h521 := hV.gm.l52.1
  have h541 := hV.gm.l54.1
  have h04 := hV.tb.1
  have hac1 := hV.ac.1
  have hac2 := hV.ac.2.1
  have hPl0 := hV.gm.cp
  refine Ev.run 1 (pc' := 1) (lv' := [(0, .ref 13), (1, .ref 1), (2, .int (nI c))]) (st' := [.ref 13]) (h' := HN g hl (RF rt)) rfl ?_
  refine Ev.call (a := 7) (as := [.ref 13]) (rest := []) (lv0 := [(0, .ref 13)]) (Q1 := (fun z0 h' => z0 = some (.int (nI (bn (decide (12 ≤ g 166 0))))) ∧ h' = HN g hl (RF rt))) rfl rfl (K_bookFull _ _ _ _ hI hB ⟨rfl, rfl⟩) (fun r h' hr => ?_)
  obtain ⟨rfl, rfl⟩ := hr
  refine Ev_bn (fun hb4 => ?_) (fun hb4 => ?_)
  · have hhb4 : 12 ≤ g 166 0 := of_decide_eq_true hb4
    refine Ev.run 1 (pc' := 16) (lv' := [(0, .ref 13), (1, .ref 1), (2, .int (nI c))]) (st' := []) (h' := HN g hl (RF rt)) rfl ?_
    refine Ev.ret (v := none) rfl ?_
    exfalso
    omega
  · have hhb4 : ¬ (12 ≤ g 166 0) := of_decide_eq_false hb4
    refine Ev.run 5 (pc' := (if nI (g 1 1) ≤ nI 6 then 17 else 16)) (lv' := [(0, .ref 13), (1, .ref 1), (2, .int (nI c))]) (st' := []) (h' := HN g hl (RF rt)) rfl ?_
    refine Ev.ite (fun hc13 => ?_) (fun hc13 => ?_)
    · have hc13 : (g 1 1) ≤ 6 := (nI_leI (by omega) (by omega)).mp hc13
      refine Ev.run 4 (pc' := 25) (lv' := [(0, .ref 13), (1, .ref 1), (2, .int (nI c))]) (st' := [.int (nI (g 13 5)), .ref 14]) (h' := HN g hl (RF rt)) rfl ?_
      refine Ev_aald (c := (19 + 2 * (g 13 5))) rfl (by decide) rfl (show g 13 5 < 12 by omega) (Nat.le_of_ble_eq_true rfl) (rf_line rt (g 13 5) (by omega)).2 ?_
      refine Ev.run 1 (pc' := 27) (lv' := [(0, .ref 13), (1, .ref 1), (2, .int (nI c))]) (st' := [.ref 1, .ref (19 + 2 * (g 13 5))]) (h' := HN g hl (RF rt)) rfl ?_
      refine Ev_callV (a := 46) (as := [.ref (19 + 2 * (g 13 5)), .ref 1]) (rest := []) (lv0 := [(0, .ref (19 + 2 * (g 13 5))), (1, .ref 1)]) (Q1 := (fun z0 h' => z0 = none ∧ h' = HN (cpLn g 1 (19 + 2 * g 13 5)) hl (RF rt))) rfl rfl rfl rfl rfl (LnW rt (show (g 13 5) < 12 by omega)).1.k rfl rfl rfl (K_copyLine _ _ _ _ 1 (19 + 2 * g 13 5) 6 6 (ln1 rt) (LnW rt (by omega)) (by omega) (by omega) (by omega) ⟨rfl, rfl⟩) (fun r h' hr => ?_)
      obtain ⟨rfl, rfl⟩ := hr
      rw [hB0]
      obtain ⟨B, hBe⟩ : ∃ B, B = (cpLn g 1 (19 + 2 * g 166 0)) := ⟨_, rfl⟩
      rw [← hBe]
      have eb : ∀ a j, a ≠ 19 + 2 * g 166 0 → a ≠ 19 + 2 * g 166 0 + 1 → B a j = g a j := fun a j h1 h2 => by
        rw [hBe]
        unfold cpLn cpR
        rw [if_neg h2, u2_ne _ (Or.inl h1)]
      have eb1 : B 1 1 = g 166 1 := (eb 1 1 (by omega) (by omega)).trans hsp1
      have eb2 : B 13 5 = g 166 0 := (eb 13 5 (by omega) (by omega)).trans hB0
      have eb3 : B 17 = g 17 := funext (fun j => eb 17 j (by omega) (by omega))
      have eb4 : B 16 = g 16 := funext (fun j => eb 16 j (by omega) (by omega))
      have eb5 : B 2 = g 2 := funext (fun j => eb 2 j (by omega) (by omega))
      refine Ev.run 5 (pc' := 39) (lv' := [(0, .ref 13), (1, .ref 1), (2, .int (nI c))]) (st' := [.int (nI c), .int (nI (B 13 5)), .ref 15]) (h' := HN B hl (RF rt)) rfl ?_
      refine Ev_iast rfl rfl (show B 13 5 < 12 by omega) (Nat.le_of_ble_eq_true rfl) ?_
      refine Ev.run 5 (pc' := 49) (lv' := [(0, .ref 13), (1, .ref 1), (2, .int (nI c))]) (st' := [.int (nI (B 1 1)), .ref 17, .int (nI (B 1 1)), .ref 17]) (h' := HN (u2 B 15 (B 13 5) c) hl (RF rt)) rfl ?_
      refine Ev_iald rfl rfl (show B 1 1 < 7 by omega) (Nat.le_of_ble_eq_true rfl) ?_
      refine Ev.run 4 (pc' := 56) (lv' := [(0, .ref 13), (1, .ref 1), (2, .int (nI c))]) (st' := [.int (nI 1 <<< (nI (B 13 5) &&& 31)), .int (nI (B 17 (B 1 1))), .int (nI (B 1 1)), .ref 17]) (h' := HN (u2 B 15 (B 13 5) c) hl (RF rt)) rfl ?_
      refine Ev.topI (nI_shl (by omega)) ?_
      refine Ev.run 1 (pc' := 57) (lv' := [(0, .ref 13), (1, .ref 1), (2, .int (nI c))]) (st' := [.int (nI (B 17 (B 1 1)) ||| nI (nSh 1 (B 13 5))), .int (nI (B 1 1)), .ref 17]) (h' := HN (u2 B 15 (B 13 5) c) hl (RF rt)) rfl ?_
      refine Ev.topI (nIo _ _) ?_
      refine Ev_iast rfl rfl (show B 1 1 < 7 by omega) (Nat.le_of_ble_eq_true rfl) ?_
      rw [eb1, eb2, eb3]
      refine K_put8 _ g _ _ (u2 (u2 B 15 (g 166 0) c) 17 (g 166 1) (g 17 (g 166 1) ||| nSh 1 (g 166 0))) c (g 170) (g 166 1) (nSh 1 (g 166 0)) (g 166 0) ?_ hS ?_ ?_ ?_ (by omega) rfl ?_
      · exact eb1
      · intro k hk
        show B 2 k = _
        rw [eb5]
        exact hV.sp.2 k hk
      · intro k hk
        exact hI.hsl k (by omega)
      · exact eb2
      · have e16 : (u2 (u2 B 15 (g 166 0) c) 17 (g 166 1) (g 17 (g 166 1) ||| nSh 1 (g 166 0))) 16 = g 16 := eb4
        rw [e16, hBe]
        exact hq
    · have hc13 : ¬ ((g 1 1) ≤ 6) := fun z => hc13 ((nI_leI (by omega) (by omega)).mpr z)
      refine Ev.ret (v := none) rfl ?_
      exfalso
      omega
theorem K_word {L : Nat} {xs : Nat → Int32} (d : Nat) (g : Nat → Nat → Nat) (hl : Nat → Nat → Int64) (rt : Nat × Nat × Nat × Nat) (hV : Inv g hl rt) (c : Nat) (hc : c < 2 ^ 32) {Q : Po} (hq : Q (some (.int (nI (rs_word g c)))) (HN (cs_word g c) hl (RF rt))) : Ev L xs (d + 4) 77 0 [(0, .ref 0), (1, .int (nI c))] [] (HN g hl (RF rt)) Q := by
  have hI := hV.mi
  have hW := hI.hW
  have hS := hI.hS
  have hPl := hI.hPl
  have hNx := hI.hNx
  have hLa := hI.hLa
  have hLo := hI.hLo
  have hTb := hI.hTb
  have hTh := hI.hTh
  have hFd := hI.hFd
  have hSn := hI.hSn
  have hSh := hI.hSh
  have hRan := hI.hRan
  have hLr := hI.hLr
  have hLt := hI.hLt
  have hgl := hI.hgl
  have hsz := hI.hsz
  have hcm := hI.hcm
  have hsl := hI.hsl
  have hkd := hI.hkd
  have hvv := hI.hvv
  have hli := hI.hli
  have hro := hI.hro
  have hrw := hI.hrw
  have htx := hI.htx
  have hsw := hI.hsw
  have hsx := hI.hsx
  have hsy := hI.hsy
  have hsh := hI.hsh
  have hle := hI.hle
  have hcl := hI.hcl
  have hwd := hI.hwd
  have hnu := hI.hnu
  have hwn := hI.hwn
  have hs1 := hI.hs1
  have hso := hI.hso
  have hB := hV.gm.cb
  have hB0 := hB.1
  have hPs := hV.gm.cs
  have hsp1 := hV.sp.1
  have htx1 := hV.tx.1
  have h451 := hV.gm.rx.1
  have h442 := hV.gm.rx.2.2.2.1
  have h443 := hV.gm.rx.2.2.2.2
  have h481 := hV.gm.l48.1
  have h501 := hV.gm.l50.1
  have h521 := hV.gm.l52.1
  have h541 := hV.gm.l54.1
  have h04 := hV.tb.1
  have hac1 := hV.ac.1
  have hac2 := hV.ac.2.1
  have hPl0 := hV.gm.cp
  refine Ev.run 3 (pc' := 4) (lv' := [(0, .ref 0), (1, .int (nI c))]) (st' := [.int (nI 9), .int (nI 0), .int (nI c)]) (h' := HN g hl (RF rt)) rfl ?_
  refine Ev.call (a := 118) (as := [.int (nI c), .int (nI 0), .int (nI 9)]) (rest := []) (lv0 := [(0, .int (nI c)), (1, .int (nI 0)), (2, .int (nI 9))]) (Q1 := (fun z0 h' => z0 = some (.int (nI (bn (decide (c ≤ 9))))) ∧ h' = HN g hl (RF rt))) rfl rfl (K_within _ _ _ _ (nI c) (nI 0) (nI 9) (by rw [in0 (by omega) (by omega)]; exact ⟨rfl, rfl⟩)) (fun r h' hr => ?_)
  obtain ⟨rfl, rfl⟩ := hr
  refine Ev_bn (fun hb7 => ?_) (fun hb7 => ?_)
  · have hhb7 : c ≤ 9 := of_decide_eq_true hb7
    refine Ev.run 5 (pc' := (if nI (g 1 1) = 0 then 40 else 23)) (lv' := [(0, .ref 0), (1, .int (nI c))]) (st' := []) (h' := HN g hl (RF rt)) rfl ?_
    refine Ev.ite (fun hc20 => ?_) (fun hc20 => ?_)
    · have hc20 : (g 1 1) = 0 := (nI_eqU0 (by omega)).mp hc20
      refine Ev.run 1 (pc' := 42) (lv' := [(0, .ref 0), (1, .int (nI c))]) (st' := [.int (nI 4294967293)]) (h' := HN g hl (RF rt)) rfl ?_
      refine Ev.ret (v := some (.int (nI 4294967293))) rfl ?_
      unfold rs_word cs_word at hq
      rw [if_pos (by omega), if_pos (by omega), if_pos (by omega), if_pos (by omega)] at hq
      exact hq
    · have hc20 : ¬ ((g 1 1) = 0) := fun z => hc20 ((nI_eqU0 (by omega)).mpr z)
      refine Ev.run 5 (pc' := 34) (lv' := [(0, .ref 0), (1, .int (nI c))]) (st' := [.ref 1, .ref 13]) (h' := HN g hl (RF rt)) rfl ?_
      refine Ev.call (a := 14) (as := [.ref 13, .ref 1]) (rest := []) (lv0 := [(0, .ref 13), (1, .ref 1)]) (Q1 := (fun z0 h' => z0 = some (.int (nI (bn (anySp g)))) ∧ h' = HN g hl (RF rt))) rfl rfl (K_isWord _ _ _ _ hV ⟨rfl, rfl⟩) (fun r h' hr => ?_)
      obtain ⟨rfl, rfl⟩ := hr
      refine Ev_bn (fun hb37 => ?_) (fun hb37 => ?_)
      · skip
        refine Ev.run 2 (pc' := 42) (lv' := [(0, .ref 0), (1, .int (nI c))]) (st' := [.int (nI 4294967293)]) (h' := HN g hl (RF rt)) rfl ?_
        refine Ev.ret (v := some (.int (nI 4294967293))) rfl ?_
        unfold rs_word cs_word at hq
        rw [if_pos (by omega), if_neg (by omega), hb37, cond_true, if_pos (by omega), if_neg (by omega), cond_true] at hq
        exact hq
      · skip
        refine Ev.run 4 (pc' := 50) (lv' := [(0, .ref 0), (1, .int (nI c))]) (st' := [.ref 13]) (h' := HN g hl (RF rt)) rfl ?_
        refine Ev.call (a := 7) (as := [.ref 13]) (rest := []) (lv0 := [(0, .ref 13)]) (Q1 := (fun z0 h' => z0 = some (.int (nI (bn (decide (12 ≤ g 166 0))))) ∧ h' = HN g hl (RF rt))) rfl rfl (K_bookFull _ _ _ _ hI hB ⟨rfl, rfl⟩) (fun r h' hr => ?_)
        obtain ⟨rfl, rfl⟩ := hr
        refine Ev_bn (fun hb53 => ?_) (fun hb53 => ?_)
        · have hhb53 : 12 ≤ g 166 0 := of_decide_eq_true hb53
          refine Ev.run 2 (pc' := 58) (lv' := [(0, .ref 0), (1, .int (nI c))]) (st' := [.int (nI 4294967292)]) (h' := HN g hl (RF rt)) rfl ?_
          refine Ev.ret (v := some (.int (nI 4294967292))) rfl ?_
          unfold rs_word cs_word at hq
          rw [if_pos (by omega), if_neg (by omega), hb37, cond_false, if_pos (by omega), if_pos (by omega), if_neg (by omega), cond_false, if_pos (by omega)] at hq
          exact hq
        · have hhb53 : ¬ (12 ≤ g 166 0) := of_decide_eq_false hb53
          refine Ev.run 7 (pc' := 71) (lv' := [(0, .ref 0), (1, .int (nI c))]) (st' := [.int (nI c), .ref 1, .ref 13]) (h' := HN g hl (RF rt)) rfl ?_
          refine Ev.call (a := 8) (as := [.ref 13, .ref 1, .int (nI c)]) (rest := []) (lv0 := [(0, .ref 13), (1, .ref 1), (2, .int (nI c))]) (Q1 := (fun z0 h' => z0 = none ∧ h' = HN (bkP g c) hl (RF rt))) rfl rfl (K_bput _ _ _ _ hV c (by omega) (by omega) ⟨rfl, rfl⟩) (fun r h' hr => ?_)
          obtain ⟨rfl, rfl⟩ := hr
          refine Ev.run 2 (pc' := 78) (lv' := [(0, .ref 0), (1, .int (nI c))]) (st' := [.ref 1]) (h' := HN (bkP g c) hl (RF rt)) rfl ?_
          refine Ev.call (a := 45) (as := [.ref 1]) (rest := []) (lv0 := [(0, .ref 1)]) (Q1 := (fun z0 h' => z0 = none ∧ h' = HN (u2 (bkP g c) 1 1 0) hl (RF rt))) rfl rfl (K_clear _ (bkP g c) _ _ 1 6 (ln1 rt) ⟨rfl, rfl⟩) (fun r h' hr => ?_)
          obtain ⟨rfl, rfl⟩ := hr
          have eb13 : bkP g c 13 5 = g 166 0 + 1 := by unfold bkP; rw [u2_at]
          refine Ev.run 6 (pc' := 93) (lv' := [(0, .ref 0), (1, .int (nI c))]) (st' := [.int (nI ((bkP g c) 13 5) - nI 1)]) (h' := HN (u2 (bkP g c) 1 1 0) hl (RF rt)) rfl ?_
          refine Ev.topI ((congrArg (fun z => nI z - nI 1) eb13).trans ((pk_sub (a := g 166 0 + 1) (b := 1) (by omega)).trans (congrArg nI (Nat.add_sub_cancel _ _)))) ?_
          refine Ev.ret (v := some (.int (nI (g 166 0)))) rfl ?_
          unfold rs_word cs_word at hq
          rw [if_pos (by omega), if_neg (by omega), hb37, cond_false, if_neg (by omega), if_pos (by omega), if_neg (by omega), cond_false, if_neg (by omega)] at hq
          exact hq
  · have hhb7 : ¬ (c ≤ 9) := of_decide_eq_false hb7
    refine Ev.run 2 (pc' := 12) (lv' := [(0, .ref 0), (1, .int (nI c))]) (st' := [.int (nI 4294967294)]) (h' := HN g hl (RF rt)) rfl ?_
    refine Ev.ret (v := some (.int (nI 4294967294))) rfl ?_
    unfold rs_word cs_word at hq
    rw [if_neg (by omega), if_neg (by omega)] at hq
    exact hq
