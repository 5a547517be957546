/-! the reference: what comes in turns ahead -/
noncomputable def rs_on (g K : Nat → Nat → Nat) (n x : Nat) : Nat := if x ≤ 1 ∨ (10 ≤ x ∧ x < 10 + g 166 6) then (if n ≤ 60 then (if x = 0 then (if g 166 6 = 0 then 4294967291 else itG n K 166 7) else if x = 1 then itG n K 166 9 else itG n K 173 (x - 10)) else 4294967294) else 4294967295
theorem C_on {L : Nat} {xs : Nat → Int32} (d : Nat) (g : Nat → Nat → Nat) (hl : Nat → Nat → Int64) (rt : Nat × Nat × Nat × Nat) (hI : MI g) (hK : KW g) (n : Nat) (x : Nat) (hn : n < 2 ^ 32) (hx : x < 2 ^ 32) (r w v : Nat → Nat) (hs : SmH g r v)  {Q : Po} (hq : ∀ (g1 : Nat → Nat → Nat) (r' w' v' : Nat → Nat), Cy g g1 → SmH g r' v' → Q (some (.int (nI (rs_on g (kpU g r) n x)))) (HN (U g1 r' w' v') hl (RF rt))) : Ev L xs (d + 11) 200 0 [(0, .ref 166), (1, .int (nI n)), (2, .int (nI x))] [] (HN (U g r w v) hl (RF rt)) Q := by
  have hW := hI.hW
  have hS := hI.hS
  have hPl := hI.hPl
  have hNx := hI.hNx
  have hLa := hI.hLa
  have hLo := hI.hLo
  have hTb := hI.hTb
  have hTh := hI.hTh
  have hFd := hI.hFd
  have hSn := hI.hSn
  have hSh := hI.hSh
  have hRan := hI.hRan
  have hLr := hI.hLr
  have hLt := hI.hLt
  have hgl := hI.hgl
  have hsz := hI.hsz
  have hcm := hI.hcm
  have hsl := hI.hsl
  have hkd := hI.hkd
  have hvv := hI.hvv
  have hli := hI.hli
  have hro := hI.hro
  have hrw := hI.hrw
  have htx := hI.htx
  have hsw := hI.hsw
  have hsx := hI.hsx
  have hsy := hI.hsy
  have hsh := hI.hsh
  have hle := hI.hle
  have hcl := hI.hcl
  have hwd := hI.hwd
  have hnu := hI.hnu
  have hwn := hI.hwn
  have hs1 := hI.hs1
  have hso := hI.hso
  refine Ev.run 4 (pc' := 4) (lv' := [(0, .ref 166), (1, .int (nI n)), (2, .int (nI x))]) (st' := [.int (nI 1), .int (nI 0), .int (nI x), .ref 166]) (h' := HN (U g r w v) hl (RF rt)) rfl ?_
  refine Ev.call (a := 126) (as := [.ref 166, .int (nI x), .int (nI 0), .int (nI 1)]) (rest := []) (lv0 := [(0, .ref 166), (1, .int (nI x)), (2, .int (nI 0)), (3, .int (nI 1))]) (Q1 := (fun z0 h' => z0 = some (.int (nI (bn (decide (x ≤ 1))))) ∧ h' = HN (U g r w v) hl (RF rt))) rfl rfl (C_in _ _ _ _ (nI x) (nI 0) (nI 1) (by rw [in0 (by omega) (by omega)]; exact ⟨rfl, rfl⟩)) (fun r h' hr => ?_)
  obtain ⟨rfl, rfl⟩ := hr
  refine Ev_bn (fun hb7 => ?_) (fun hb7 => ?_)
  · have hhb7 : x ≤ 1 := of_decide_eq_true hb7
    refine Ev.run 5 (pc' := 34) (lv' := [(0, .ref 166), (1, .int (nI n)), (2, .int (nI x))]) (st' := [.int (nI 60), .int (nI 0), .int (nI n), .ref 166]) (h' := HN (U g r w v) hl (RF rt)) rfl ?_
    refine Ev.call (a := 126) (as := [.ref 166, .int (nI n), .int (nI 0), .int (nI 60)]) (rest := []) (lv0 := [(0, .ref 166), (1, .int (nI n)), (2, .int (nI 0)), (3, .int (nI 60))]) (Q1 := (fun z0 h' => z0 = some (.int (nI (bn (decide (n ≤ 60))))) ∧ h' = HN (U g r w v) hl (RF rt))) rfl rfl (C_in _ _ _ _ (nI n) (nI 0) (nI 60) (by rw [in0 (by omega) (by omega)]; exact ⟨rfl, rfl⟩)) (fun r h' hr => ?_)
    obtain ⟨rfl, rfl⟩ := hr
    refine Ev_bn (fun hb37 => ?_) (fun hb37 => ?_)
    · have hhb37 : n ≤ 60 := of_decide_eq_true hb37
      refine Ev.run 2 (pc' := 44) (lv' := [(0, .ref 166), (1, .int (nI n)), (2, .int (nI x))]) (st' := [.ref 166]) (h' := HN (U g r w v) hl (RF rt)) rfl ?_
      refine Ev.call (a := 197) (as := [.ref 166]) (rest := []) (lv0 := [(0, .ref 166)]) (Q1 := (fun z0 h' => z0 = none ∧ h' = HN (U (kpU g r) r w v) hl (RF rt))) rfl rfl (C_keep _ _ _ _ (hI.mU hs) ⟨rfl, congrArg (fun z => HN z hl (RF rt)) (U_kp g r w v)⟩) (fun r h' hr => ?_)
      obtain ⟨rfl, rfl⟩ := hr
      have hIk := hI.mkpU r
      have hKk := hK.cx (Cx.ckp g r)
      have hsk := hs.skp r
      have hct := Cq.refl (kpU g r)
      refine Ev.run 2 (pc' := 49) (lv' := [(0, .ref 166), (1, .int (nI n)), (2, .int (nI x))]) (st' := [.int (nI n), .ref 166]) (h' := HN (U (kpU g r) r w v) hl (RF rt)) rfl ?_
      refine Ev.call (a := 199) (as := [.ref 166, .int (nI n)]) (rest := []) (lv0 := [(0, .ref 166), (1, .int (nI n))]) (Q1 := (fun z0 h' => ∃ r1 w1 v1, SmH (itG n (kpU g r)) r1 v1 ∧ z0 = none ∧ h' = HN (U (itG n (kpU g r)) r1 w1 v1) hl (RF rt))) rfl rfl (C_goTurns _ _ _ _ hIk hKk n (by omega)  r w v hsk (fun r w v h => ⟨r, w, v, h, rfl, rfl⟩)) (fun r h' hr => ?_)
      obtain ⟨r40, w40, v40, hs40, rfl, rfl⟩ := hr
      have hI41 : MI (itG n (kpU g r)) := MI.mitG n hIk
      have hK42 : KW (itG n (kpU g r)) := hKk.cx (Ct.titG _ _).cx
      have hct43 := hct.trans (Ct.titG n (kpU g r)).cq
      have hP6 : (itG n (kpU g r)) 166 6 = g 166 6 := hct43.2 6 (by decide) (by decide) (by decide) (by decide) (by decide) (by decide)
      refine Ev.run 2 (pc' := (if nI x = 0 then 56 else 75)) (lv' := [(0, .ref 166), (1, .int (nI n)), (2, .int (nI x))]) (st' := []) (h' := HN (U (itG n (kpU g r)) r40 w40 v40) hl (RF rt)) rfl ?_
      refine Ev.ite (fun hc53 => ?_) (fun hc53 => ?_)
      · have hc53 : x = 0 := (nI_eqU0 (by omega)).mp hc53
        refine Ev.run 3 (pc' := (if nI ((itG n (kpU g r)) 166 6) = 0 then 63 else 68)) (lv' := [(0, .ref 166), (1, .int (nI n)), (2, .int (nI x))]) (st' := []) (h' := HN (U (itG n (kpU g r)) r40 w40 v40) hl (RF rt)) rfl ?_
        refine Ev.ite (fun hc60 => ?_) (fun hc60 => ?_)
        · have hc60 : ((itG n (kpU g r)) 166 6) = 0 := (nI_eqU0 (by omega)).mp hc60
          refine Ev.run 4 (pc' := 98) (lv' := [(3, .int (nI 4294967291)), (0, .ref 166), (1, .int (nI n)), (2, .int (nI x))]) (st' := [.ref 166]) (h' := HN (U (itG n (kpU g r)) r40 w40 v40) hl (RF rt)) rfl ?_
          refine Ev.call (a := 198) (as := [.ref 166]) (rest := []) (lv0 := [(0, .ref 166)]) (Q1 := (fun z0 h' => z0 = none ∧ h' = HN (U (pbB g (itG n (kpU g r))) (pbR r r40) w40 v40) hl (RF rt))) rfl rfl (C_putBack _ _ _ _ (hI41.mU hs40) ⟨rfl, congrArg (fun z => HN z hl (RF rt)) (pb_U hct43 r40 w40 v40)⟩) (fun r h' hr => ?_)
          obtain ⟨rfl, rfl⟩ := hr
          have hcy := Cy.pb hct43
          have hsb := hs.spb hs40 hLo
          refine Ev.run 1 (pc' := 102) (lv' := [(3, .int (nI 4294967291)), (0, .ref 166), (1, .int (nI n)), (2, .int (nI x))]) (st' := [.int (nI 4294967291)]) (h' := HN (U (pbB g (itG n (kpU g r))) (pbR r r40) w40 v40) hl (RF rt)) rfl ?_
          refine Ev.ret (v := some (.int (nI 4294967291))) rfl ?_
          have hx := hq (pbB g (itG n (kpU g r))) (pbR r r40) w40 v40 hcy hsb
          unfold rs_on at hx
          rw [if_pos (by omega)] at hx
          rw [if_pos (by omega)] at hx
          rw [if_pos hc53, if_pos (by omega)] at hx
          exact hx
        · have hc60 : ¬ (((itG n (kpU g r)) 166 6) = 0) := fun z => hc60 ((nI_eqU0 (by omega)).mpr z)
          refine Ev.run 5 (pc' := 98) (lv' := [(3, .int (nI ((itG n (kpU g r)) 166 7))), (0, .ref 166), (1, .int (nI n)), (2, .int (nI x))]) (st' := [.ref 166]) (h' := HN (U (itG n (kpU g r)) r40 w40 v40) hl (RF rt)) rfl ?_
          refine Ev.call (a := 198) (as := [.ref 166]) (rest := []) (lv0 := [(0, .ref 166)]) (Q1 := (fun z0 h' => z0 = none ∧ h' = HN (U (pbB g (itG n (kpU g r))) (pbR r r40) w40 v40) hl (RF rt))) rfl rfl (C_putBack _ _ _ _ (hI41.mU hs40) ⟨rfl, congrArg (fun z => HN z hl (RF rt)) (pb_U hct43 r40 w40 v40)⟩) (fun r h' hr => ?_)
          obtain ⟨rfl, rfl⟩ := hr
          have hcy := Cy.pb hct43
          have hsb := hs.spb hs40 hLo
          refine Ev.run 1 (pc' := 102) (lv' := [(3, .int (nI ((itG n (kpU g r)) 166 7))), (0, .ref 166), (1, .int (nI n)), (2, .int (nI x))]) (st' := [.int (nI ((itG n (kpU g r)) 166 7))]) (h' := HN (U (pbB g (itG n (kpU g r))) (pbR r r40) w40 v40) hl (RF rt)) rfl ?_
          refine Ev.ret (v := some (.int (nI ((itG n (kpU g r)) 166 7)))) rfl ?_
          have hx := hq (pbB g (itG n (kpU g r))) (pbR r r40) w40 v40 hcy hsb
          unfold rs_on at hx
          rw [if_pos (by omega)] at hx
          rw [if_pos (by omega)] at hx
          rw [if_pos hc53, if_neg (by omega)] at hx
          exact hx
      · have hc53 : ¬ (x = 0) := fun z => hc53 ((nI_eqU0 (by omega)).mpr z)
        refine Ev.run 3 (pc' := (if nI x = nI 1 then 80 else 87)) (lv' := [(0, .ref 166), (1, .int (nI n)), (2, .int (nI x))]) (st' := []) (h' := HN (U (itG n (kpU g r)) r40 w40 v40) hl (RF rt)) rfl ?_
        refine Ev.ite (fun hc77 => ?_) (fun hc77 => ?_)
        · have hc77 : x = 1 := (nI_eqU (by omega) (by omega)).mp hc77
          refine Ev.run 5 (pc' := 98) (lv' := [(3, .int (nI ((itG n (kpU g r)) 166 9))), (0, .ref 166), (1, .int (nI n)), (2, .int (nI x))]) (st' := [.ref 166]) (h' := HN (U (itG n (kpU g r)) r40 w40 v40) hl (RF rt)) rfl ?_
          refine Ev.call (a := 198) (as := [.ref 166]) (rest := []) (lv0 := [(0, .ref 166)]) (Q1 := (fun z0 h' => z0 = none ∧ h' = HN (U (pbB g (itG n (kpU g r))) (pbR r r40) w40 v40) hl (RF rt))) rfl rfl (C_putBack _ _ _ _ (hI41.mU hs40) ⟨rfl, congrArg (fun z => HN z hl (RF rt)) (pb_U hct43 r40 w40 v40)⟩) (fun r h' hr => ?_)
          obtain ⟨rfl, rfl⟩ := hr
          have hcy := Cy.pb hct43
          have hsb := hs.spb hs40 hLo
          refine Ev.run 1 (pc' := 102) (lv' := [(3, .int (nI ((itG n (kpU g r)) 166 9))), (0, .ref 166), (1, .int (nI n)), (2, .int (nI x))]) (st' := [.int (nI ((itG n (kpU g r)) 166 9))]) (h' := HN (U (pbB g (itG n (kpU g r))) (pbR r r40) w40 v40) hl (RF rt)) rfl ?_
          refine Ev.ret (v := some (.int (nI ((itG n (kpU g r)) 166 9)))) rfl ?_
          have hx := hq (pbB g (itG n (kpU g r))) (pbR r r40) w40 v40 hcy hsb
          unfold rs_on at hx
          rw [if_pos (by omega)] at hx
          rw [if_pos (by omega)] at hx
          rw [if_neg hc53, if_pos hc77] at hx
          exact hx
        · have hc77 : ¬ (x = 1) := fun z => hc77 ((nI_eqU (by omega) (by omega)).mpr z)
          refine Ev.run 5 (pc' := 95) (lv' := [(0, .ref 166), (1, .int (nI n)), (2, .int (nI x))]) (st' := [.int (nI x - nI 10), .ref 173]) (h' := HN (U (itG n (kpU g r)) r40 w40 v40) hl (RF rt)) rfl ?_
          refine Ev.topI (pk_sub (a := x) (b := 10) (by omega)) ?_
          refine Ev_iald rfl rfl (show x - 10 < 5 by omega) (Nat.le_of_ble_eq_true rfl) ?_
          have hr0 := MI.hli hI41 (x - 10) (by omega)
          refine Ev.run 2 (pc' := 98) (lv' := [(3, .int (nI ((itG n (kpU g r)) 173 (x - 10)))), (0, .ref 166), (1, .int (nI n)), (2, .int (nI x))]) (st' := [.ref 166]) (h' := HN (U (itG n (kpU g r)) r40 w40 v40) hl (RF rt)) rfl ?_
          refine Ev.call (a := 198) (as := [.ref 166]) (rest := []) (lv0 := [(0, .ref 166)]) (Q1 := (fun z0 h' => z0 = none ∧ h' = HN (U (pbB g (itG n (kpU g r))) (pbR r r40) w40 v40) hl (RF rt))) rfl rfl (C_putBack _ _ _ _ (hI41.mU hs40) ⟨rfl, congrArg (fun z => HN z hl (RF rt)) (pb_U hct43 r40 w40 v40)⟩) (fun r h' hr => ?_)
          obtain ⟨rfl, rfl⟩ := hr
          have hcy := Cy.pb hct43
          have hsb := hs.spb hs40 hLo
          refine Ev.run 1 (pc' := 102) (lv' := [(3, .int (nI ((itG n (kpU g r)) 173 (x - 10)))), (0, .ref 166), (1, .int (nI n)), (2, .int (nI x))]) (st' := [.int (nI ((itG n (kpU g r)) 173 (x - 10)))]) (h' := HN (U (pbB g (itG n (kpU g r))) (pbR r r40) w40 v40) hl (RF rt)) rfl ?_
          refine Ev.ret (v := some (.int (nI ((itG n (kpU g r)) 173 (x - 10))))) rfl ?_
          have hx := hq (pbB g (itG n (kpU g r))) (pbR r r40) w40 v40 hcy hsb
          unfold rs_on at hx
          rw [if_pos (by omega)] at hx
          rw [if_pos (by omega)] at hx
          rw [if_neg hc53, if_neg hc77] at hx
          exact hx
    · have hhb37 : ¬ (n ≤ 60) := of_decide_eq_false hb37
      refine Ev.run 2 (pc' := 42) (lv' := [(0, .ref 166), (1, .int (nI n)), (2, .int (nI x))]) (st' := [.int (nI 4294967294)]) (h' := HN (U g r w v) hl (RF rt)) rfl ?_
      refine Ev.ret (v := some (.int (nI 4294967294))) rfl ?_
      have hx := hq g r w v (Cy.refl g) hs
      unfold rs_on at hx
      rw [if_pos (by omega)] at hx
      rw [if_neg (by omega)] at hx
      exact hx
  · have hhb7 : ¬ (x ≤ 1) := of_decide_eq_false hb7
    refine Ev.run 8 (pc' := 21) (lv' := [(0, .ref 166), (1, .int (nI n)), (2, .int (nI x))]) (st' := [.int (nI 9 + nI (g 166 6)), .int (nI 10), .int (nI x), .ref 166]) (h' := HN (U g r w v) hl (RF rt)) rfl ?_
    refine Ev.topI (nI_add _ _) ?_
    refine Ev.call (a := 126) (as := [.ref 166, .int (nI x), .int (nI 10), .int (nI (9 + (g 166 6)))]) (rest := []) (lv0 := [(0, .ref 166), (1, .int (nI x)), (2, .int (nI 10)), (3, .int (nI (9 + (g 166 6))))]) (Q1 := (fun z0 h' => z0 = some (.int (nI (bn (decide (10 ≤ x ∧ x < 10 + g 166 6))))) ∧ h' = HN (U g r w v) hl (RF rt))) rfl rfl (C_in _ _ _ _ (nI x) (nI 10) (nI (9 + (g 166 6))) (by rw [in10 (by omega) (by omega)]; exact ⟨rfl, rfl⟩)) (fun r h' hr => ?_)
    obtain ⟨rfl, rfl⟩ := hr
    refine Ev_bn (fun hb24 => ?_) (fun hb24 => ?_)
    · have hhb24 : 10 ≤ x ∧ x < 10 + g 166 6 := of_decide_eq_true hb24
      refine Ev.run 5 (pc' := 34) (lv' := [(0, .ref 166), (1, .int (nI n)), (2, .int (nI x))]) (st' := [.int (nI 60), .int (nI 0), .int (nI n), .ref 166]) (h' := HN (U g r w v) hl (RF rt)) rfl ?_
      refine Ev.call (a := 126) (as := [.ref 166, .int (nI n), .int (nI 0), .int (nI 60)]) (rest := []) (lv0 := [(0, .ref 166), (1, .int (nI n)), (2, .int (nI 0)), (3, .int (nI 60))]) (Q1 := (fun z0 h' => z0 = some (.int (nI (bn (decide (n ≤ 60))))) ∧ h' = HN (U g r w v) hl (RF rt))) rfl rfl (C_in _ _ _ _ (nI n) (nI 0) (nI 60) (by rw [in0 (by omega) (by omega)]; exact ⟨rfl, rfl⟩)) (fun r h' hr => ?_)
      obtain ⟨rfl, rfl⟩ := hr
      refine Ev_bn (fun hb37 => ?_) (fun hb37 => ?_)
      · have hhb37 : n ≤ 60 := of_decide_eq_true hb37
        refine Ev.run 2 (pc' := 44) (lv' := [(0, .ref 166), (1, .int (nI n)), (2, .int (nI x))]) (st' := [.ref 166]) (h' := HN (U g r w v) hl (RF rt)) rfl ?_
        refine Ev.call (a := 197) (as := [.ref 166]) (rest := []) (lv0 := [(0, .ref 166)]) (Q1 := (fun z0 h' => z0 = none ∧ h' = HN (U (kpU g r) r w v) hl (RF rt))) rfl rfl (C_keep _ _ _ _ (hI.mU hs) ⟨rfl, congrArg (fun z => HN z hl (RF rt)) (U_kp g r w v)⟩) (fun r h' hr => ?_)
        obtain ⟨rfl, rfl⟩ := hr
        have hIk := hI.mkpU r
        have hKk := hK.cx (Cx.ckp g r)
        have hsk := hs.skp r
        have hct := Cq.refl (kpU g r)
        refine Ev.run 2 (pc' := 49) (lv' := [(0, .ref 166), (1, .int (nI n)), (2, .int (nI x))]) (st' := [.int (nI n), .ref 166]) (h' := HN (U (kpU g r) r w v) hl (RF rt)) rfl ?_
        refine Ev.call (a := 199) (as := [.ref 166, .int (nI n)]) (rest := []) (lv0 := [(0, .ref 166), (1, .int (nI n))]) (Q1 := (fun z0 h' => ∃ r1 w1 v1, SmH (itG n (kpU g r)) r1 v1 ∧ z0 = none ∧ h' = HN (U (itG n (kpU g r)) r1 w1 v1) hl (RF rt))) rfl rfl (C_goTurns _ _ _ _ hIk hKk n (by omega)  r w v hsk (fun r w v h => ⟨r, w, v, h, rfl, rfl⟩)) (fun r h' hr => ?_)
        obtain ⟨r44, w44, v44, hs44, rfl, rfl⟩ := hr
        have hI45 : MI (itG n (kpU g r)) := MI.mitG n hIk
        have hK46 : KW (itG n (kpU g r)) := hKk.cx (Ct.titG _ _).cx
        have hct47 := hct.trans (Ct.titG n (kpU g r)).cq
        have hP6 : (itG n (kpU g r)) 166 6 = g 166 6 := hct47.2 6 (by decide) (by decide) (by decide) (by decide) (by decide) (by decide)
        refine Ev.run 2 (pc' := (if nI x = 0 then 56 else 75)) (lv' := [(0, .ref 166), (1, .int (nI n)), (2, .int (nI x))]) (st' := []) (h' := HN (U (itG n (kpU g r)) r44 w44 v44) hl (RF rt)) rfl ?_
        refine Ev.ite (fun hc53 => ?_) (fun hc53 => ?_)
        · have hc53 : x = 0 := (nI_eqU0 (by omega)).mp hc53
          refine Ev.run 3 (pc' := (if nI ((itG n (kpU g r)) 166 6) = 0 then 63 else 68)) (lv' := [(0, .ref 166), (1, .int (nI n)), (2, .int (nI x))]) (st' := []) (h' := HN (U (itG n (kpU g r)) r44 w44 v44) hl (RF rt)) rfl ?_
          refine Ev.ite (fun hc60 => ?_) (fun hc60 => ?_)
          · have hc60 : ((itG n (kpU g r)) 166 6) = 0 := (nI_eqU0 (by omega)).mp hc60
            refine Ev.run 4 (pc' := 98) (lv' := [(3, .int (nI 4294967291)), (0, .ref 166), (1, .int (nI n)), (2, .int (nI x))]) (st' := [.ref 166]) (h' := HN (U (itG n (kpU g r)) r44 w44 v44) hl (RF rt)) rfl ?_
            refine Ev.call (a := 198) (as := [.ref 166]) (rest := []) (lv0 := [(0, .ref 166)]) (Q1 := (fun z0 h' => z0 = none ∧ h' = HN (U (pbB g (itG n (kpU g r))) (pbR r r44) w44 v44) hl (RF rt))) rfl rfl (C_putBack _ _ _ _ (hI45.mU hs44) ⟨rfl, congrArg (fun z => HN z hl (RF rt)) (pb_U hct47 r44 w44 v44)⟩) (fun r h' hr => ?_)
            obtain ⟨rfl, rfl⟩ := hr
            have hcy := Cy.pb hct47
            have hsb := hs.spb hs44 hLo
            refine Ev.run 1 (pc' := 102) (lv' := [(3, .int (nI 4294967291)), (0, .ref 166), (1, .int (nI n)), (2, .int (nI x))]) (st' := [.int (nI 4294967291)]) (h' := HN (U (pbB g (itG n (kpU g r))) (pbR r r44) w44 v44) hl (RF rt)) rfl ?_
            refine Ev.ret (v := some (.int (nI 4294967291))) rfl ?_
            have hx := hq (pbB g (itG n (kpU g r))) (pbR r r44) w44 v44 hcy hsb
            unfold rs_on at hx
            rw [if_pos (by omega)] at hx
            rw [if_pos (by omega)] at hx
            rw [if_pos hc53, if_pos (by omega)] at hx
            exact hx
          · have hc60 : ¬ (((itG n (kpU g r)) 166 6) = 0) := fun z => hc60 ((nI_eqU0 (by omega)).mpr z)
            refine Ev.run 5 (pc' := 98) (lv' := [(3, .int (nI ((itG n (kpU g r)) 166 7))), (0, .ref 166), (1, .int (nI n)), (2, .int (nI x))]) (st' := [.ref 166]) (h' := HN (U (itG n (kpU g r)) r44 w44 v44) hl (RF rt)) rfl ?_
            refine Ev.call (a := 198) (as := [.ref 166]) (rest := []) (lv0 := [(0, .ref 166)]) (Q1 := (fun z0 h' => z0 = none ∧ h' = HN (U (pbB g (itG n (kpU g r))) (pbR r r44) w44 v44) hl (RF rt))) rfl rfl (C_putBack _ _ _ _ (hI45.mU hs44) ⟨rfl, congrArg (fun z => HN z hl (RF rt)) (pb_U hct47 r44 w44 v44)⟩) (fun r h' hr => ?_)
            obtain ⟨rfl, rfl⟩ := hr
            have hcy := Cy.pb hct47
            have hsb := hs.spb hs44 hLo
            refine Ev.run 1 (pc' := 102) (lv' := [(3, .int (nI ((itG n (kpU g r)) 166 7))), (0, .ref 166), (1, .int (nI n)), (2, .int (nI x))]) (st' := [.int (nI ((itG n (kpU g r)) 166 7))]) (h' := HN (U (pbB g (itG n (kpU g r))) (pbR r r44) w44 v44) hl (RF rt)) rfl ?_
            refine Ev.ret (v := some (.int (nI ((itG n (kpU g r)) 166 7)))) rfl ?_
            have hx := hq (pbB g (itG n (kpU g r))) (pbR r r44) w44 v44 hcy hsb
            unfold rs_on at hx
            rw [if_pos (by omega)] at hx
            rw [if_pos (by omega)] at hx
            rw [if_pos hc53, if_neg (by omega)] at hx
            exact hx
        · have hc53 : ¬ (x = 0) := fun z => hc53 ((nI_eqU0 (by omega)).mpr z)
          refine Ev.run 3 (pc' := (if nI x = nI 1 then 80 else 87)) (lv' := [(0, .ref 166), (1, .int (nI n)), (2, .int (nI x))]) (st' := []) (h' := HN (U (itG n (kpU g r)) r44 w44 v44) hl (RF rt)) rfl ?_
          refine Ev.ite (fun hc77 => ?_) (fun hc77 => ?_)
          · have hc77 : x = 1 := (nI_eqU (by omega) (by omega)).mp hc77
            refine Ev.run 5 (pc' := 98) (lv' := [(3, .int (nI ((itG n (kpU g r)) 166 9))), (0, .ref 166), (1, .int (nI n)), (2, .int (nI x))]) (st' := [.ref 166]) (h' := HN (U (itG n (kpU g r)) r44 w44 v44) hl (RF rt)) rfl ?_
            refine Ev.call (a := 198) (as := [.ref 166]) (rest := []) (lv0 := [(0, .ref 166)]) (Q1 := (fun z0 h' => z0 = none ∧ h' = HN (U (pbB g (itG n (kpU g r))) (pbR r r44) w44 v44) hl (RF rt))) rfl rfl (C_putBack _ _ _ _ (hI45.mU hs44) ⟨rfl, congrArg (fun z => HN z hl (RF rt)) (pb_U hct47 r44 w44 v44)⟩) (fun r h' hr => ?_)
            obtain ⟨rfl, rfl⟩ := hr
            have hcy := Cy.pb hct47
            have hsb := hs.spb hs44 hLo
            refine Ev.run 1 (pc' := 102) (lv' := [(3, .int (nI ((itG n (kpU g r)) 166 9))), (0, .ref 166), (1, .int (nI n)), (2, .int (nI x))]) (st' := [.int (nI ((itG n (kpU g r)) 166 9))]) (h' := HN (U (pbB g (itG n (kpU g r))) (pbR r r44) w44 v44) hl (RF rt)) rfl ?_
            refine Ev.ret (v := some (.int (nI ((itG n (kpU g r)) 166 9)))) rfl ?_
            have hx := hq (pbB g (itG n (kpU g r))) (pbR r r44) w44 v44 hcy hsb
            unfold rs_on at hx
            rw [if_pos (by omega)] at hx
            rw [if_pos (by omega)] at hx
            rw [if_neg hc53, if_pos hc77] at hx
            exact hx
          · have hc77 : ¬ (x = 1) := fun z => hc77 ((nI_eqU (by omega) (by omega)).mpr z)
            refine Ev.run 5 (pc' := 95) (lv' := [(0, .ref 166), (1, .int (nI n)), (2, .int (nI x))]) (st' := [.int (nI x - nI 10), .ref 173]) (h' := HN (U (itG n (kpU g r)) r44 w44 v44) hl (RF rt)) rfl ?_
            refine Ev.topI (pk_sub (a := x) (b := 10) (by omega)) ?_
            refine Ev_iald rfl rfl (show x - 10 < 5 by omega) (Nat.le_of_ble_eq_true rfl) ?_
            have hr1 := MI.hli hI45 (x - 10) (by omega)
            refine Ev.run 2 (pc' := 98) (lv' := [(3, .int (nI ((itG n (kpU g r)) 173 (x - 10)))), (0, .ref 166), (1, .int (nI n)), (2, .int (nI x))]) (st' := [.ref 166]) (h' := HN (U (itG n (kpU g r)) r44 w44 v44) hl (RF rt)) rfl ?_
            refine Ev.call (a := 198) (as := [.ref 166]) (rest := []) (lv0 := [(0, .ref 166)]) (Q1 := (fun z0 h' => z0 = none ∧ h' = HN (U (pbB g (itG n (kpU g r))) (pbR r r44) w44 v44) hl (RF rt))) rfl rfl (C_putBack _ _ _ _ (hI45.mU hs44) ⟨rfl, congrArg (fun z => HN z hl (RF rt)) (pb_U hct47 r44 w44 v44)⟩) (fun r h' hr => ?_)
            obtain ⟨rfl, rfl⟩ := hr
            have hcy := Cy.pb hct47
            have hsb := hs.spb hs44 hLo
            refine Ev.run 1 (pc' := 102) (lv' := [(3, .int (nI ((itG n (kpU g r)) 173 (x - 10)))), (0, .ref 166), (1, .int (nI n)), (2, .int (nI x))]) (st' := [.int (nI ((itG n (kpU g r)) 173 (x - 10)))]) (h' := HN (U (pbB g (itG n (kpU g r))) (pbR r r44) w44 v44) hl (RF rt)) rfl ?_
            refine Ev.ret (v := some (.int (nI ((itG n (kpU g r)) 173 (x - 10))))) rfl ?_
            have hx := hq (pbB g (itG n (kpU g r))) (pbR r r44) w44 v44 hcy hsb
            unfold rs_on at hx
            rw [if_pos (by omega)] at hx
            rw [if_pos (by omega)] at hx
            rw [if_neg hc53, if_neg hc77] at hx
            exact hx
      · have hhb37 : ¬ (n ≤ 60) := of_decide_eq_false hb37
        refine Ev.run 2 (pc' := 42) (lv' := [(0, .ref 166), (1, .int (nI n)), (2, .int (nI x))]) (st' := [.int (nI 4294967294)]) (h' := HN (U g r w v) hl (RF rt)) rfl ?_
        refine Ev.ret (v := some (.int (nI 4294967294))) rfl ?_
        have hx := hq g r w v (Cy.refl g) hs
        unfold rs_on at hx
        rw [if_pos (by omega)] at hx
        rw [if_neg (by omega)] at hx
        exact hx
    · have hhb24 : ¬ (10 ≤ x ∧ x < 10 + g 166 6) := of_decide_eq_false hb24
      refine Ev.run 2 (pc' := 28) (lv' := [(0, .ref 166), (1, .int (nI n)), (2, .int (nI x))]) (st' := [.int (nI 4294967295)]) (h' := HN (U g r w v) hl (RF rt)) rfl ?_
      refine Ev.ret (v := some (.int (nI 4294967295))) rfl ?_
      have hx := hq g r w v (Cy.refl g) hs
      unfold rs_on at hx
      rw [if_neg (by omega)] at hx
      exact hx
theorem C_livesThen {L : Nat} {xs : Nat → Int32} (d : Nat) (g : Nat → Nat → Nat) (hl : Nat → Nat → Int64) (rt : Nat × Nat × Nat × Nat) (hI : MI g) (hK : KW g) (p n : Nat) (hp : p < 5) (hn : n ≤ 60) (r w v : Nat → Nat) (hs : SmH g r v)  {Q : Po} (hq : ∀ (g1 : Nat → Nat → Nat) (r' w' v' : Nat → Nat), Cy g g1 → SmH g r' v' → Q (some (.int (nI (itG n (kpU g r) 173 p)))) (HN (U g1 r' w' v') hl (RF rt))) : Ev L xs (d + 11) 205 0 [(0, .ref 166), (1, .int (nI p)), (2, .int (nI n))] [] (HN (U g r w v) hl (RF rt)) Q := by
  have hW := hI.hW
  have hS := hI.hS
  have hPl := hI.hPl
  have hNx := hI.hNx
  have hLa := hI.hLa
  have hLo := hI.hLo
  have hTb := hI.hTb
  have hTh := hI.hTh
  have hFd := hI.hFd
  have hSn := hI.hSn
  have hSh := hI.hSh
  have hRan := hI.hRan
  have hLr := hI.hLr
  have hLt := hI.hLt
  have hgl := hI.hgl
  have hsz := hI.hsz
  have hcm := hI.hcm
  have hsl := hI.hsl
  have hkd := hI.hkd
  have hvv := hI.hvv
  have hli := hI.hli
  have hro := hI.hro
  have hrw := hI.hrw
  have htx := hI.htx
  have hsw := hI.hsw
  have hsx := hI.hsx
  have hsy := hI.hsy
  have hsh := hI.hsh
  have hle := hI.hle
  have hcl := hI.hcl
  have hwd := hI.hwd
  have hnu := hI.hnu
  have hwn := hI.hwn
  have hs1 := hI.hs1
  have hso := hI.hso
  refine Ev.run 1 (pc' := 1) (lv' := [(0, .ref 166), (1, .int (nI p)), (2, .int (nI n))]) (st' := [.ref 166]) (h' := HN (U g r w v) hl (RF rt)) rfl ?_
  refine Ev.call (a := 197) (as := [.ref 166]) (rest := []) (lv0 := [(0, .ref 166)]) (Q1 := (fun z0 h' => z0 = none ∧ h' = HN (U (kpU g r) r w v) hl (RF rt))) rfl rfl (C_keep _ _ _ _ (hI.mU hs) ⟨rfl, congrArg (fun z => HN z hl (RF rt)) (U_kp g r w v)⟩) (fun r h' hr => ?_)
  obtain ⟨rfl, rfl⟩ := hr
  have hIk := hI.mkpU r
  have hKk := hK.cx (Cx.ckp g r)
  have hsk := hs.skp r
  have hct := Cq.refl (kpU g r)
  refine Ev.run 2 (pc' := 6) (lv' := [(0, .ref 166), (1, .int (nI p)), (2, .int (nI n))]) (st' := [.int (nI n), .ref 166]) (h' := HN (U (kpU g r) r w v) hl (RF rt)) rfl ?_
  refine Ev.call (a := 199) (as := [.ref 166, .int (nI n)]) (rest := []) (lv0 := [(0, .ref 166), (1, .int (nI n))]) (Q1 := (fun z0 h' => ∃ r1 w1 v1, SmH (itG n (kpU g r)) r1 v1 ∧ z0 = none ∧ h' = HN (U (itG n (kpU g r)) r1 w1 v1) hl (RF rt))) rfl rfl (C_goTurns _ _ _ _ hIk hKk n (by omega)  r w v hsk (fun r w v h => ⟨r, w, v, h, rfl, rfl⟩)) (fun r h' hr => ?_)
  obtain ⟨r48, w48, v48, hs48, rfl, rfl⟩ := hr
  have hI49 : MI (itG n (kpU g r)) := MI.mitG n hIk
  have hK50 : KW (itG n (kpU g r)) := hKk.cx (Ct.titG _ _).cx
  have hct51 := hct.trans (Ct.titG n (kpU g r)).cq
  have hP6 : (itG n (kpU g r)) 166 6 = g 166 6 := hct51.2 6 (by decide) (by decide) (by decide) (by decide) (by decide) (by decide)
  refine Ev.run 3 (pc' := 14) (lv' := [(0, .ref 166), (1, .int (nI p)), (2, .int (nI n))]) (st' := [.int (nI p), .ref 173]) (h' := HN (U (itG n (kpU g r)) r48 w48 v48) hl (RF rt)) rfl ?_
  refine Ev_iald rfl rfl (show p < 5 by omega) (Nat.le_of_ble_eq_true rfl) ?_
  have hr0 := MI.hli hI49 p (by omega)
  refine Ev.run 2 (pc' := 17) (lv' := [(3, .int (nI ((itG n (kpU g r)) 173 p))), (0, .ref 166), (1, .int (nI p)), (2, .int (nI n))]) (st' := [.ref 166]) (h' := HN (U (itG n (kpU g r)) r48 w48 v48) hl (RF rt)) rfl ?_
  refine Ev.call (a := 198) (as := [.ref 166]) (rest := []) (lv0 := [(0, .ref 166)]) (Q1 := (fun z0 h' => z0 = none ∧ h' = HN (U (pbB g (itG n (kpU g r))) (pbR r r48) w48 v48) hl (RF rt))) rfl rfl (C_putBack _ _ _ _ (hI49.mU hs48) ⟨rfl, congrArg (fun z => HN z hl (RF rt)) (pb_U hct51 r48 w48 v48)⟩) (fun r h' hr => ?_)
  obtain ⟨rfl, rfl⟩ := hr
  have hcy := Cy.pb hct51
  have hsb := hs.spb hs48 hLo
  refine Ev.run 1 (pc' := 21) (lv' := [(3, .int (nI ((itG n (kpU g r)) 173 p))), (0, .ref 166), (1, .int (nI p)), (2, .int (nI n))]) (st' := [.int (nI ((itG n (kpU g r)) 173 p))]) (h' := HN (U (pbB g (itG n (kpU g r))) (pbR r r48) w48 v48) hl (RF rt)) rfl ?_
  refine Ev.ret (v := some (.int (nI ((itG n (kpU g r)) 173 p)))) rfl ?_
  exact hq (pbB g (itG n (kpU g r))) (pbR r r48) w48 v48 hcy hsb
def rkF (lv : Nat → Nat) : Nat → Nat
  | 0 => 4294967291
  | n + 1 => if 2147483648 ≤ rkF lv n then n else if lv n ≤ lv (rkF lv n) then rkF lv n else n
theorem rkF_le (lv : Nat → Nat) : ∀ n, rkF lv n < n ∨ rkF lv n = 4294967291 := by
  intro n
  induction n with
  | zero => exact Or.inr rfl
  | succ n ih =>
    unfold rkF
    split
    · exact Or.inl (Nat.lt_succ_self _)
    · split
      · omega
      · exact Or.inl (Nat.lt_succ_self _)
noncomputable def rs_rank (g K : Nat → Nat → Nat) (n : Nat) : Nat := if n ≤ 60 then rkF (itG n K 173) (g 166 6) else 4294967294
theorem C_rank {L : Nat} {xs : Nat → Int32} (d : Nat) (g : Nat → Nat → Nat) (hl : Nat → Nat → Int64) (rt : Nat × Nat × Nat × Nat) (hI : MI g) (hK : KW g) (n : Nat) (hn : n < 2 ^ 32) (r w v : Nat → Nat) (hs : SmH g r v)  {Q : Po} (hq : ∀ (g1 : Nat → Nat → Nat) (r' w' v' : Nat → Nat), Cy g g1 → SmH g r' v' → Q (some (.int (nI (rs_rank g (kpU g r) n)))) (HN (U g1 r' w' v') hl (RF rt))) : Ev L xs (d + 11) 209 0 [(0, .ref 166), (1, .int (nI n))] [] (HN (U g r w v) hl (RF rt)) Q := by
  have hW := hI.hW
  have hS := hI.hS
  have hPl := hI.hPl
  have hNx := hI.hNx
  have hLa := hI.hLa
  have hLo := hI.hLo
  have hTb := hI.hTb
  have hTh := hI.hTh
  have hFd := hI.hFd
  have hSn := hI.hSn
  have hSh := hI.hSh
  have hRan := hI.hRan
  have hLr := hI.hLr
  have hLt := hI.hLt
  have hgl := hI.hgl
  have hsz := hI.hsz
  have hcm := hI.hcm
  have hsl := hI.hsl
  have hkd := hI.hkd
  have hvv := hI.hvv
  have hli := hI.hli
  have hro := hI.hro
  have hrw := hI.hrw
  have htx := hI.htx
  have hsw := hI.hsw
  have hsx := hI.hsx
  have hsy := hI.hsy
  have hsh := hI.hsh
  have hle := hI.hle
  have hcl := hI.hcl
  have hwd := hI.hwd
  have hnu := hI.hnu
  have hwn := hI.hwn
  have hs1 := hI.hs1
  have hso := hI.hso
  refine Ev.run 4 (pc' := 5) (lv' := [(0, .ref 166), (1, .int (nI n))]) (st' := [.int (nI 60), .int (nI 0), .int (nI n), .ref 166]) (h' := HN (U g r w v) hl (RF rt)) rfl ?_
  refine Ev.call (a := 126) (as := [.ref 166, .int (nI n), .int (nI 0), .int (nI 60)]) (rest := []) (lv0 := [(0, .ref 166), (1, .int (nI n)), (2, .int (nI 0)), (3, .int (nI 60))]) (Q1 := (fun z0 h' => z0 = some (.int (nI (bn (decide (n ≤ 60))))) ∧ h' = HN (U g r w v) hl (RF rt))) rfl rfl (C_in _ _ _ _ (nI n) (nI 0) (nI 60) (by rw [in0 (by omega) (by omega)]; exact ⟨rfl, rfl⟩)) (fun r h' hr => ?_)
  obtain ⟨rfl, rfl⟩ := hr
  refine Ev_bn (fun hb8 => ?_) (fun hb8 => ?_)
  · have hhb8 : n ≤ 60 := of_decide_eq_true hb8
    refine Ev.run 2 (pc' := 15) (lv' := [(0, .ref 166), (1, .int (nI n))]) (st' := [.ref 166]) (h' := HN (U g r w v) hl (RF rt)) rfl ?_
    refine Ev.call (a := 197) (as := [.ref 166]) (rest := []) (lv0 := [(0, .ref 166)]) (Q1 := (fun z0 h' => z0 = none ∧ h' = HN (U (kpU g r) r w v) hl (RF rt))) rfl rfl (C_keep _ _ _ _ (hI.mU hs) ⟨rfl, congrArg (fun z => HN z hl (RF rt)) (U_kp g r w v)⟩) (fun r h' hr => ?_)
    obtain ⟨rfl, rfl⟩ := hr
    have hIk := hI.mkpU r
    have hKk := hK.cx (Cx.ckp g r)
    have hsk := hs.skp r
    have hct := Cq.refl (kpU g r)
    refine Ev.run 2 (pc' := 20) (lv' := [(0, .ref 166), (1, .int (nI n))]) (st' := [.int (nI n), .ref 166]) (h' := HN (U (kpU g r) r w v) hl (RF rt)) rfl ?_
    refine Ev.call (a := 199) (as := [.ref 166, .int (nI n)]) (rest := []) (lv0 := [(0, .ref 166), (1, .int (nI n))]) (Q1 := (fun z0 h' => ∃ r1 w1 v1, SmH (itG n (kpU g r)) r1 v1 ∧ z0 = none ∧ h' = HN (U (itG n (kpU g r)) r1 w1 v1) hl (RF rt))) rfl rfl (C_goTurns _ _ _ _ hIk hKk n (by omega)  r w v hsk (fun r w v h => ⟨r, w, v, h, rfl, rfl⟩)) (fun r h' hr => ?_)
    obtain ⟨r52, w52, v52, hs52, rfl, rfl⟩ := hr
    have hI53 : MI (itG n (kpU g r)) := MI.mitG n hIk
    have hK54 : KW (itG n (kpU g r)) := hKk.cx (Ct.titG _ _).cx
    have hct55 := hct.trans (Ct.titG n (kpU g r)).cq
    have hP6 : (itG n (kpU g r)) 166 6 = g 166 6 := hct55.2 6 (by decide) (by decide) (by decide) (by decide) (by decide) (by decide)
    refine Ev.run 4 (pc' := 28) (lv' := [(3, .int (nI 0)), (2, .int (nI 4294967291)), (0, .ref 166), (1, .int (nI n))]) (st' := []) (h' := HN (U (itG n (kpU g r)) r52 w52 v52) hl (RF rt)) rfl ?_
    refine for_ind (g 166 6) (fun k => Ev L xs (d + 11) 209 28 [(3, .int (nI k)), (2, .int (nI (rkF (itG n (kpU g r) 173) k))), (0, .ref 166), (1, .int (nI n))] [] (HN (U (itG n (kpU g r)) r52 w52 v52) hl (RF rt)) Q) (fun k hk hnext => ?_) 0 (Nat.zero_le _)
    have hrk := rkF_le (itG n (kpU g r) 173) k
    refine Ev.run 4 (pc' := (if nI ((itG n (kpU g r)) 166 6) ≤ nI k then 63 else 36)) (lv' := [(3, .int (nI k)), (2, .int (nI (rkF (itG n (kpU g r) 173) k))), (0, .ref 166), (1, .int (nI n))]) (st' := []) (h' := HN (U (itG n (kpU g r)) r52 w52 v52) hl (RF rt)) rfl ?_
    refine Ev.ite (fun hc33 => ?_) (fun hc33 => ?_)
    · have hc33 : ((itG n (kpU g r)) 166 6) ≤ k := (nI_leI (by omega) (by omega)).mp hc33
      refine Ev.run 1 (pc' := 64) (lv' := [(3, .int (nI k)), (2, .int (nI (rkF (itG n (kpU g r) 173) k))), (0, .ref 166), (1, .int (nI n))]) (st' := [.ref 166]) (h' := HN (U (itG n (kpU g r)) r52 w52 v52) hl (RF rt)) rfl ?_
      refine Ev.call (a := 198) (as := [.ref 166]) (rest := []) (lv0 := [(0, .ref 166)]) (Q1 := (fun z0 h' => z0 = none ∧ h' = HN (U (pbB g (itG n (kpU g r))) (pbR r r52) w52 v52) hl (RF rt))) rfl rfl (C_putBack _ _ _ _ (hI53.mU hs52) ⟨rfl, congrArg (fun z => HN z hl (RF rt)) (pb_U hct55 r52 w52 v52)⟩) (fun r h' hr => ?_)
      obtain ⟨rfl, rfl⟩ := hr
      have hcy := Cy.pb hct55
      have hsb := hs.spb hs52 hLo
      refine Ev.run 1 (pc' := 68) (lv' := [(3, .int (nI k)), (2, .int (nI (rkF (itG n (kpU g r) 173) k))), (0, .ref 166), (1, .int (nI n))]) (st' := [.int (nI (rkF (itG n (kpU g r) 173) k))]) (h' := HN (U (pbB g (itG n (kpU g r))) (pbR r r52) w52 v52) hl (RF rt)) rfl ?_
      refine Ev.ret (v := some (.int (nI (rkF (itG n (kpU g r) 173) k)))) rfl ?_
      have hx := hq (pbB g (itG n (kpU g r))) (pbR r r52) w52 v52 hcy hsb
      unfold rs_rank at hx
      rw [if_pos (by omega)] at hx
      obtain rfl : k = g 166 6 := by omega
      exact hx
    · have hc33 : ¬ (((itG n (kpU g r)) 166 6) ≤ k) := fun z => hc33 ((nI_leI (by omega) (by omega)).mpr z)
      refine Ev.run 2 (pc' := (if nI (rkF (itG n (kpU g r) 173) k) < 0 then 55 else 40)) (lv' := [(3, .int (nI k)), (2, .int (nI (rkF (itG n (kpU g r) 173) k))), (0, .ref 166), (1, .int (nI n))]) (st' := []) (h' := HN (U (itG n (kpU g r)) r52 w52 v52) hl (RF rt)) rfl ?_
      refine Ev.ite (fun hc37 => ?_) (fun hc37 => ?_)
      · have hc37 : 2147483648 ≤ (rkF (itG n (kpU g r) 173) k) := (nI_ltU0 (by omega)).mp hc37
        refine Ev.run 3 (pc' := 60) (lv' := [(3, .int (nI k + 1)), (2, .int (nI k)), (0, .ref 166), (1, .int (nI n))]) (st' := []) (h' := HN (U (itG n (kpU g r)) r52 w52 v52) hl (RF rt)) rfl ?_
        refine Ev.lvE (congrArg (fun z => (3, Value.int z) :: [(2, .int (nI k)), (0, .ref 166), (1, .int (nI n))]) (nI_1 _)) ?_
        refine Ev.run 1 (pc' := 28) (lv' := [(3, .int (nI (k + 1))), (2, .int (nI k)), (0, .ref 166), (1, .int (nI n))]) (st' := []) (h' := HN (U (itG n (kpU g r)) r52 w52 v52) hl (RF rt)) rfl ?_
        have hx := hnext (by omega)
        unfold rkF at hx
        rw [if_pos hc37] at hx
        exact Ev.wk (Ext.cons rfl rfl (Ext.cons rfl rfl (Ext.cons rfl rfl (Ext.cons rfl rfl (Ext.nil rfl))))) hx
      · have hc37 : ¬ (2147483648 ≤ (rkF (itG n (kpU g r) 173) k)) := fun z => hc37 ((nI_ltU0 (by omega)).mpr z)
        refine Ev.run 3 (pc' := 45) (lv' := [(3, .int (nI k)), (2, .int (nI (rkF (itG n (kpU g r) 173) k))), (0, .ref 166), (1, .int (nI n))]) (st' := [.int (nI k), .ref 173]) (h' := HN (U (itG n (kpU g r)) r52 w52 v52) hl (RF rt)) rfl ?_
        refine Ev_iald rfl rfl (show k < 5 by omega) (Nat.le_of_ble_eq_true rfl) ?_
        have hr0 := MI.hli hI53 k (by omega)
        refine Ev.run 3 (pc' := 51) (lv' := [(3, .int (nI k)), (2, .int (nI (rkF (itG n (kpU g r) 173) k))), (0, .ref 166), (1, .int (nI n))]) (st' := [.int (nI (rkF (itG n (kpU g r) 173) k)), .ref 173, .int (nI ((itG n (kpU g r)) 173 k))]) (h' := HN (U (itG n (kpU g r)) r52 w52 v52) hl (RF rt)) rfl ?_
        refine Ev_iald rfl rfl (show rkF (itG n (kpU g r) 173) k < 5 by omega) (Nat.le_of_ble_eq_true rfl) ?_
        have hr1 := MI.hli hI53 (rkF (itG n (kpU g r) 173) k) (by omega)
        refine Ev.run 1 (pc' := (if nI ((itG n (kpU g r)) 173 k) ≤ nI ((itG n (kpU g r)) 173 (rkF (itG n (kpU g r) 173) k)) then 57 else 55)) (lv' := [(3, .int (nI k)), (2, .int (nI (rkF (itG n (kpU g r) 173) k))), (0, .ref 166), (1, .int (nI n))]) (st' := []) (h' := HN (U (itG n (kpU g r)) r52 w52 v52) hl (RF rt)) rfl ?_
        refine Ev.ite (fun hc52 => ?_) (fun hc52 => ?_)
        · have hc52 : ((itG n (kpU g r)) 173 k) ≤ ((itG n (kpU g r)) 173 (rkF (itG n (kpU g r) 173) k)) := (nI_leI (by omega) (by omega)).mp hc52
          refine Ev.run 1 (pc' := 60) (lv' := [(3, .int (nI k + 1)), (2, .int (nI (rkF (itG n (kpU g r) 173) k))), (0, .ref 166), (1, .int (nI n))]) (st' := []) (h' := HN (U (itG n (kpU g r)) r52 w52 v52) hl (RF rt)) rfl ?_
          refine Ev.lvE (congrArg (fun z => (3, Value.int z) :: [(2, .int (nI (rkF (itG n (kpU g r) 173) k))), (0, .ref 166), (1, .int (nI n))]) (nI_1 _)) ?_
          refine Ev.run 1 (pc' := 28) (lv' := [(3, .int (nI (k + 1))), (2, .int (nI (rkF (itG n (kpU g r) 173) k))), (0, .ref 166), (1, .int (nI n))]) (st' := []) (h' := HN (U (itG n (kpU g r)) r52 w52 v52) hl (RF rt)) rfl ?_
          have hx := hnext (by omega)
          unfold rkF at hx
          rw [if_neg hc37, if_pos hc52] at hx
          exact Ev.wk (Ext.cons rfl rfl (Ext.cons rfl rfl (Ext.cons rfl rfl (Ext.cons rfl rfl (Ext.nil rfl))))) hx
        · have hc52 : ¬ (((itG n (kpU g r)) 173 k) ≤ ((itG n (kpU g r)) 173 (rkF (itG n (kpU g r) 173) k))) := fun z => hc52 ((nI_leI (by omega) (by omega)).mpr z)
          refine Ev.run 3 (pc' := 60) (lv' := [(3, .int (nI k + 1)), (2, .int (nI k)), (0, .ref 166), (1, .int (nI n))]) (st' := []) (h' := HN (U (itG n (kpU g r)) r52 w52 v52) hl (RF rt)) rfl ?_
          refine Ev.lvE (congrArg (fun z => (3, Value.int z) :: [(2, .int (nI k)), (0, .ref 166), (1, .int (nI n))]) (nI_1 _)) ?_
          refine Ev.run 1 (pc' := 28) (lv' := [(3, .int (nI (k + 1))), (2, .int (nI k)), (0, .ref 166), (1, .int (nI n))]) (st' := []) (h' := HN (U (itG n (kpU g r)) r52 w52 v52) hl (RF rt)) rfl ?_
          have hx := hnext (by omega)
          unfold rkF at hx
          rw [if_neg hc37, if_neg hc52] at hx
          exact Ev.wk (Ext.cons rfl rfl (Ext.cons rfl rfl (Ext.cons rfl rfl (Ext.cons rfl rfl (Ext.nil rfl))))) hx
  · have hhb8 : ¬ (n ≤ 60) := of_decide_eq_false hb8
    refine Ev.run 2 (pc' := 13) (lv' := [(0, .ref 166), (1, .int (nI n))]) (st' := [.int (nI 4294967294)]) (h' := HN (U g r w v) hl (RF rt)) rfl ?_
    refine Ev.ret (v := some (.int (nI 4294967294))) rfl ?_
    have hx := hq g r w v (Cy.refl g) hs
    unfold rs_rank at hx
    rw [if_neg (by omega)] at hx
    exact hx
