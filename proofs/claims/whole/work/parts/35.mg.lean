/-! the reference: who loses first -/
noncomputable def tj (t j : Nat) : Nat := if j = 0 then t else 4294967295
noncomputable def flF (t : Nat) : Nat → Nat → (Nat → Nat → Nat) → Nat × Nat × Nat
  | 0, _, _ => (4294967291, 4294967291, 4294967291)
  | f + 1, j, G => if alS G = 0 then (4294967291, 4294967291, 4294967291) else if plG G (tj t j) 166 36 < 2147483648 then (plG G (tj t j) 166 36, j + 1, if plV G (tj t j) = 110 then 1 else 0) else flF t f (j + 1) (plG G (tj t j))
theorem flF_0 {t j : Nat} {G : Nat → Nat → Nat} (h : alS G = 0) (f : Nat) : flF t f j G = (4294967291, 4294967291, 4294967291) := by
  cases f with
  | zero => rfl
  | succ f => unfold flF; rw [if_pos h]
theorem flF_s {t j : Nat} {G : Nat → Nat → Nat} (h : ¬ alS G = 0) (hj : j < 60) (h2 : ¬ plG G (tj t j) 166 36 < 2147483648) : flF t (60 - j) j G = flF t (60 - (j + 1)) (j + 1) (plG G (tj t j)) := by
  rw [show 60 - j = (60 - (j + 1)) + 1 by omega]
  show (if _ then _ else _) = _
  rw [if_neg h, if_neg h2]
theorem flF_e {t j : Nat} {G : Nat → Nat → Nat} (h : ¬ alS G = 0) (hj : j < 60) (h2 : plG G (tj t j) 166 36 < 2147483648) : flF t (60 - j) j G = (plG G (tj t j) 166 36, j + 1, if plV G (tj t j) = 110 then 1 else 0) := by
  rw [show 60 - j = (60 - (j + 1)) + 1 by omega]
  show (if _ then _ else _) = _
  rw [if_neg h, if_pos h2]
def flK (g : Nat → Nat → Nat) (r : Nat → Nat) : Nat → Nat → Nat := u2 (u2 (kpU g r) 166 42 4294967291) 166 43 4294967291
noncomputable def flS (g : Nat → Nat → Nat) (r : Nat → Nat) (t : Nat) : Nat × Nat × Nat := flF t 60 0 (flK g r)
theorem MI.mtj {G : Nat → Nat → Nat} (h : MI G) {t j : Nat} (ht : tOK G (tj t j)) : MI (plG G (tj t j)) := h.mplG ht
theorem C_firstLoser {L : Nat} {xs : Nat → Int32} (d : Nat) (g : Nat → Nat → Nat) (hl : Nat → Nat → Int64) (rt : Nat × Nat × Nat × Nat) (hI : MI g) (hK : KW g) (t : Nat) (ht : tOK g t) (ht32 : t < 2 ^ 32) (r w v : Nat → Nat) (hs : SmH g r v)  {Q : Po} (hq : ∀ (g1 : Nat → Nat → Nat) (r' w' v' : Nat → Nat), Cy g g1 → SmH g r' v' → g1 166 42 = (flS g r t).2.1 → g1 166 43 = (flS g r t).2.2 → Q (some (.int (nI ((flS g r t).1)))) (HN (U g1 r' w' v') hl (RF rt))) : Ev L xs (d + 11) 201 0 [(0, .ref 166), (1, .int (nI t))] [] (HN (U g r w v) hl (RF rt)) Q := by
  have hW := hI.hW
  have hS := hI.hS
  have hPl := hI.hPl
  have hNx := hI.hNx
  have hLa := hI.hLa
  have hLo := hI.hLo
  have hTb := hI.hTb
  have hTh := hI.hTh
  have hFd := hI.hFd
  have hSn := hI.hSn
  have hSh := hI.hSh
  have hRan := hI.hRan
  have hLr := hI.hLr
  have hLt := hI.hLt
  have hgl := hI.hgl
  have hsz := hI.hsz
  have hcm := hI.hcm
  have hsl := hI.hsl
  have hkd := hI.hkd
  have hvv := hI.hvv
  have hli := hI.hli
  have hro := hI.hro
  have hrw := hI.hrw
  have htx := hI.htx
  have hsw := hI.hsw
  have hsx := hI.hsx
  have hsy := hI.hsy
  have hsh := hI.hsh
  have hle := hI.hle
  have hcl := hI.hcl
  have hwd := hI.hwd
  have hnu := hI.hnu
  have hwn := hI.hwn
  have hs1 := hI.hs1
  have hso := hI.hso
  refine Ev.run 1 (pc' := 1) (lv' := [(0, .ref 166), (1, .int (nI t))]) (st' := [.ref 166]) (h' := HN (U g r w v) hl (RF rt)) rfl ?_
  refine Ev.call (a := 197) (as := [.ref 166]) (rest := []) (lv0 := [(0, .ref 166)]) (Q1 := (fun z0 h' => z0 = none ∧ h' = HN (U (kpU g r) r w v) hl (RF rt))) rfl rfl (C_keep _ _ _ _ (hI.mU hs) ⟨rfl, congrArg (fun z => HN z hl (RF rt)) (U_kp g r w v)⟩) (fun r h' hr => ?_)
  obtain ⟨rfl, rfl⟩ := hr
  have hIk := hI.mkpU r
  have hKk := hK.cx (Cx.ckp g r)
  have hsk := hs.skp r
  have hct := Cq.refl (kpU g r)
  refine Ev.run 5 (pc' := 13) (lv' := [(2, .int (nI 4294967291)), (0, .ref 166), (1, .int (nI t))]) (st' := []) (h' := setI (HN (U (kpU g r) r w v) hl (RF rt)) 166 42 (nI 4294967291)) rfl ?_
  refine Ev.hp (HN_set _ _ _ _ _ _) ?_
  refine Ev.hp (congrArg (fun z => HN z hl (RF rt)) (U_u166 _ _ _ _ _ _)) ?_
  have hI56 := MI.f42 (x := 4294967291) hIk
  have hK57 := hKk.cx (Cx.w (j := 42) (x := 4294967291) (by omega))
  have hs58 : SmH (u2 (kpU g r) 166 42 4294967291) r v := hsk
  refine Ev.run 3 (pc' := 19) (lv' := [(2, .int (nI 4294967291)), (0, .ref 166), (1, .int (nI t))]) (st' := []) (h' := setI (HN (U (u2 (kpU g r) 166 42 4294967291) r w v) hl (RF rt)) 166 43 (nI 4294967291)) rfl ?_
  refine Ev.hp (HN_set _ _ _ _ _ _) ?_
  refine Ev.hp (congrArg (fun z => HN z hl (RF rt)) (U_u166 _ _ _ _ _ _)) ?_
  have hI59 := MI.f43 (x := 4294967291) hI56
  have hK60 := hK57.cx (Cx.w (j := 43) (x := 4294967291) (by omega))
  have hs61 : SmH (u2 (u2 (kpU g r) 166 42 4294967291) 166 43 4294967291) r v := hs58
  refine Ev.run 2 (pc' := 21) (lv' := [(3, .int (nI 1)), (2, .int (nI 4294967291)), (0, .ref 166), (1, .int (nI t))]) (st' := []) (h' := HN (U (u2 (u2 (kpU g r) 166 42 4294967291) 166 43 4294967291) r w v) hl (RF rt)) rfl ?_
  have hctk : Cq (kpU g r) (flK g r) := (Cq.w (j := 42) (by omega)).trans (Cq.w (j := 43) (by omega))
  have hFl : flS g r t = flF t (60 - 0) 0 (flK g r) := rfl
  generalize hF : flS g r t = F at hFl hq
  refine for_ind 60 (fun j => ∀ (G : Nat → Nat → Nat) (rG wG vG : Nat → Nat), MI G → KW G → SmH G rG vG → Cq (kpU g r) G → (j = 0 → tOK G t) → G 166 42 = 4294967291 → G 166 43 = 4294967291 → F = flF t (60 - j) j G → Ev L xs (d + 11) 201 21 [(3, .int (nI (j + 1))), (2, .int (nI 4294967291)), (0, .ref 166), (1, .int (nI t))] [] (HN (U G rG wG vG) hl (RF rt)) Q) (fun j hj hnext => ?_) 0 (Nat.zero_le _) (flK g r) r w v hI59 hK60 hs61 hctk (fun _ => ht) rfl rfl hFl
  intro G rG wG vG hIG hKG hsG hctG hj0 h42 h43 ha
  refine Ev.run 3 (pc' := (if nI 61 ≤ nI (j + 1) then 96 else 27)) (lv' := [(3, .int (nI (j + 1))), (2, .int (nI 4294967291)), (0, .ref 166), (1, .int (nI t))]) (st' := []) (h' := HN (U G rG wG vG) hl (RF rt)) rfl ?_
  refine Ev.ite (fun hc24 => ?_) (fun hc24 => ?_)
  · have hc24 : 61 ≤ (j + 1) := (nI_leI (by omega) (by omega)).mp hc24
    refine Ev.run 1 (pc' := 97) (lv' := [(3, .int (nI (j + 1))), (2, .int (nI 4294967291)), (0, .ref 166), (1, .int (nI t))]) (st' := [.ref 166]) (h' := HN (U G rG wG vG) hl (RF rt)) rfl ?_
    refine Ev.call (a := 198) (as := [.ref 166]) (rest := []) (lv0 := [(0, .ref 166)]) (Q1 := (fun z0 h' => z0 = none ∧ h' = HN (U (pbB g G) (pbR r rG) wG vG) hl (RF rt))) rfl rfl (C_putBack _ _ _ _ (hIG.mU hsG) ⟨rfl, congrArg (fun z => HN z hl (RF rt)) (pb_U hctG rG wG vG)⟩) (fun r h' hr => ?_)
    obtain ⟨rfl, rfl⟩ := hr
    have hcy := Cy.pb hctG
    have hsb := hs.spb hsG hLo
    refine Ev.run 1 (pc' := 101) (lv' := [(3, .int (nI (j + 1))), (2, .int (nI 4294967291)), (0, .ref 166), (1, .int (nI t))]) (st' := [.int (nI 4294967291)]) (h' := HN (U (pbB g G) (pbR r rG) wG vG) hl (RF rt)) rfl ?_
    refine Ev.ret (v := some (.int (nI 4294967291))) rfl ?_
    have hFe : F = (4294967291, 4294967291, 4294967291) := by
      rw [ha, show 60 - j = 0 by omega]; rfl
    have hx := hq (pbB g G) (pbR r rG) wG vG hcy hsb
    rw [hFe] at hx
    exact hx h42 h43
  · have hc24 : ¬ (61 ≤ (j + 1)) := fun z => hc24 ((nI_leI (by omega) (by omega)).mpr z)
    refine Ev.run 2 (pc' := 31) (lv' := [(3, .int (nI (j + 1))), (2, .int (nI 4294967291)), (0, .ref 166), (1, .int (nI t))]) (st' := []) (h' := HN (U G rG wG vG) hl (RF rt)) rfl ?_
    refine Ev.run 1 (pc' := 32) (lv' := [(3, .int (nI (j + 1))), (2, .int (nI 4294967291)), (0, .ref 166), (1, .int (nI t))]) (st' := [.ref 166]) (h' := HN (U G rG wG vG) hl (RF rt)) rfl ?_
    refine Ev.call (a := 178) (as := [.ref 166]) (rest := []) (lv0 := [(0, .ref 166)]) (Q1 := (fun z0 h' => z0 = some (.int (nI (alS G))) ∧ h' = HN (U G rG wG vG) hl (RF rt))) rfl rfl (C_aliveSet _ _ _ _ (hIG.mU hsG) ⟨rfl, rfl⟩) (fun r h' hr => ?_)
    obtain ⟨rfl, rfl⟩ := hr
    have has := alS_lt hIG
    refine Ev.run 1 (pc' := (if nI (alS G) = 0 then 96 else 38)) (lv' := [(3, .int (nI (j + 1))), (2, .int (nI 4294967291)), (0, .ref 166), (1, .int (nI t))]) (st' := []) (h' := HN (U G rG wG vG) hl (RF rt)) rfl ?_
    refine Ev.ite (fun hc35 => ?_) (fun hc35 => ?_)
    · have hc35 : (alS G) = 0 := (nI_eqU0 (by omega)).mp hc35
      refine Ev.run 1 (pc' := 97) (lv' := [(3, .int (nI (j + 1))), (2, .int (nI 4294967291)), (0, .ref 166), (1, .int (nI t))]) (st' := [.ref 166]) (h' := HN (U G rG wG vG) hl (RF rt)) rfl ?_
      refine Ev.call (a := 198) (as := [.ref 166]) (rest := []) (lv0 := [(0, .ref 166)]) (Q1 := (fun z0 h' => z0 = none ∧ h' = HN (U (pbB g G) (pbR r rG) wG vG) hl (RF rt))) rfl rfl (C_putBack _ _ _ _ (hIG.mU hsG) ⟨rfl, congrArg (fun z => HN z hl (RF rt)) (pb_U hctG rG wG vG)⟩) (fun r h' hr => ?_)
      obtain ⟨rfl, rfl⟩ := hr
      have hcy := Cy.pb hctG
      have hsb := hs.spb hsG hLo
      refine Ev.run 1 (pc' := 101) (lv' := [(3, .int (nI (j + 1))), (2, .int (nI 4294967291)), (0, .ref 166), (1, .int (nI t))]) (st' := [.int (nI 4294967291)]) (h' := HN (U (pbB g G) (pbR r rG) wG vG) hl (RF rt)) rfl ?_
      refine Ev.ret (v := some (.int (nI 4294967291))) rfl ?_
      have hFe : F = (4294967291, 4294967291, 4294967291) := by
        rw [ha]; exact flF_0 hc35 _
      have hx := hq (pbB g G) (pbR r rG) wG vG hcy hsb
      rw [hFe] at hx
      exact hx h42 h43
    · have hc35 : ¬ ((alS G) = 0) := fun z => hc35 ((nI_eqU0 (by omega)).mpr z)
      have htk : tOK G (tj t j) := by
        unfold tj; split
        · rename_i z; exact hj0 z
        · exact tOK_n _
      refine Ev.run 4 (pc' := (if nI (j + 1) = nI 1 then 44 else 48)) (lv' := [(3, .int (nI (j + 1))), (2, .int (nI 4294967291)), (0, .ref 166), (1, .int (nI t))]) (st' := [.ref 166]) (h' := HN (U G rG wG vG) hl (RF rt)) rfl ?_
      refine Ev.ite (fun hc41 => ?_) (fun hc41 => ?_)
      · have hc41 : (j + 1) = 1 := (nI_eqU (by omega) (by omega)).mp hc41
        refine Ev.run 2 (pc' := 49) (lv' := [(3, .int (nI (j + 1))), (2, .int (nI 4294967291)), (0, .ref 166), (1, .int (nI t))]) (st' := [.int (nI t), .ref 166]) (h' := HN (U G rG wG vG) hl (RF rt)) rfl ?_
        refine Ev.topI (congrArg nI (show t = tj t j by unfold tj; rw [if_pos (by omega)])) ?_
        refine Ev.call (a := 192) (as := [.ref 166, .int (nI (tj t j))]) (rest := []) (lv0 := [(0, .ref 166), (1, .int (nI (tj t j)))]) (Q1 := (fun z0 h' => ∃ r1 w1 v1, SmH (plG G (tj t j)) r1 v1 ∧ z0 = some (.int (nI (plV G (tj t j)))) ∧ h' = HN (U (plG G (tj t j)) r1 w1 v1) hl (RF rt))) rfl rfl (C_goTurn _ _ _ _ hIG hKG (tj t j) htk  rG wG vG hsG (fun r w v h => ⟨r, w, v, h, rfl, rfl⟩)) (fun r h' hr => ?_)
        obtain ⟨r62, w62, v62, hs62, rfl, rfl⟩ := hr
        have hI63 : MI (plG G (tj t j)) := hIG.mplG htk
        have hK64 : KW (plG G (tj t j)) := hKG.cx (Ct.tplG _ _).cx
        refine Ev.run 1 (pc' := 54) (lv' := [(4, .int (nI (plV G (tj t j)))), (3, .int (nI (j + 1))), (2, .int (nI 4294967291)), (0, .ref 166), (1, .int (nI t))]) (st' := []) (h' := HN (U (plG G (tj t j)) r62 w62 v62) hl (RF rt)) rfl ?_
        have h36 := plG_36 hIG (tj t j)
        have hvl := plV_lt hIG htk
        have hctp := hctG.trans (Ct.tplG G (tj t j)).cq
        refine Ev.run 3 (pc' := (if 0 ≤ nI ((plG G (tj t j)) 166 36) then 64 else 61)) (lv' := [(4, .int (nI (plV G (tj t j)))), (3, .int (nI (j + 1))), (2, .int (nI 4294967291)), (0, .ref 166), (1, .int (nI t))]) (st' := []) (h' := HN (U (plG G (tj t j)) r62 w62 v62) hl (RF rt)) rfl ?_
        refine Ev.ite (fun hc58 => ?_) (fun hc58 => ?_)
        · have hc58 : ((plG G (tj t j)) 166 36) < 2147483648 := (nI_geU0 (by omega)).mp hc58
          refine Ev.run 6 (pc' := 74) (lv' := [(2, .int (nI ((plG G (tj t j)) 166 36))), (4, .int (nI (plV G (tj t j)))), (3, .int (nI (j + 1))), (0, .ref 166), (1, .int (nI t))]) (st' := []) (h' := setI (HN (U (plG G (tj t j)) r62 w62 v62) hl (RF rt)) 166 42 (nI (j + 1))) rfl ?_
          refine Ev.hp (HN_set _ _ _ _ _ _) ?_
          refine Ev.hp (congrArg (fun z => HN z hl (RF rt)) (U_u166 _ _ _ _ _ _)) ?_
          have hI65 := MI.f42 (x := (j + 1)) hI63
          have hK66 := hK64.cx (Cx.w (j := 42) (x := (j + 1)) (by omega))
          have hs67 : SmH (u2 (plG G (tj t j)) 166 42 (j + 1)) r62 v62 := hs62
          refine Ev.run 4 (pc' := (if nI (plV G (tj t j)) = nI 110 then 82 else 86)) (lv' := [(2, .int (nI ((plG G (tj t j)) 166 36))), (4, .int (nI (plV G (tj t j)))), (3, .int (nI (j + 1))), (0, .ref 166), (1, .int (nI t))]) (st' := [.ref 166]) (h' := HN (U (u2 (plG G (tj t j)) 166 42 (j + 1)) r62 w62 v62) hl (RF rt)) rfl ?_
          refine Ev.ite (fun hc79 => ?_) (fun hc79 => ?_)
          · have hc79 : (plV G (tj t j)) = 110 := (nI_eqU (by omega) (by omega)).mp hc79
            refine Ev.run 3 (pc' := 90) (lv' := [(2, .int (nI ((plG G (tj t j)) 166 36))), (4, .int (nI (plV G (tj t j)))), (3, .int (nI (j + 1))), (0, .ref 166), (1, .int (nI t))]) (st' := []) (h' := setI (HN (U (u2 (plG G (tj t j)) 166 42 (j + 1)) r62 w62 v62) hl (RF rt)) 166 43 (nI 1)) rfl ?_
            refine Ev.hp (HN_set _ _ _ _ _ _) ?_
            refine Ev.hp (congrArg (fun z => HN z hl (RF rt)) (U_u166 _ _ _ _ _ _)) ?_
            have hI68 := MI.f43 (x := 1) hI65
            have hK69 := hK66.cx (Cx.w (j := 43) (x := 1) (by omega))
            have hs70 : SmH (u2 (u2 (plG G (tj t j)) 166 42 (j + 1)) 166 43 1) r62 v62 := hs67
            refine Ev.run 1 (pc' := 93) (lv' := [(3, .int (nI (j + 1) + 1)), (2, .int (nI ((plG G (tj t j)) 166 36))), (4, .int (nI (plV G (tj t j)))), (0, .ref 166), (1, .int (nI t))]) (st' := []) (h' := HN (U (u2 (u2 (plG G (tj t j)) 166 42 (j + 1)) 166 43 1) r62 w62 v62) hl (RF rt)) rfl ?_
            refine Ev.lvE (congrArg (fun z => (3, Value.int z) :: [(2, .int (nI ((plG G (tj t j)) 166 36))), (4, .int (nI (plV G (tj t j)))), (0, .ref 166), (1, .int (nI t))]) (nI_1 _)) ?_
            refine Ev.run 1 (pc' := 21) (lv' := [(3, .int (nI (j + 1 + 1))), (2, .int (nI ((plG G (tj t j)) 166 36))), (4, .int (nI (plV G (tj t j)))), (0, .ref 166), (1, .int (nI t))]) (st' := []) (h' := HN (U (u2 (u2 (plG G (tj t j)) 166 42 (j + 1)) 166 43 1) r62 w62 v62) hl (RF rt)) rfl ?_
            refine Ev.run 3 (pc' := (if nI 61 ≤ nI (j + 1 + 1) then 96 else 27)) (lv' := [(3, .int (nI (j + 1 + 1))), (2, .int (nI ((plG G (tj t j)) 166 36))), (4, .int (nI (plV G (tj t j)))), (0, .ref 166), (1, .int (nI t))]) (st' := []) (h' := HN (U (u2 (u2 (plG G (tj t j)) 166 42 (j + 1)) 166 43 1) r62 w62 v62) hl (RF rt)) rfl ?_
            refine Ev.ite (fun hc24 => ?_) (fun hc24 => ?_)
            · have hc24 : 61 ≤ (j + 1 + 1) := (nI_leI (by omega) (by omega)).mp hc24
              have hctd := (hctp.trans (Cq.w (j := 42) (x := j + 1) (by omega))).trans (Cq.w (j := 43) (x := 1) (by omega))
              refine Ev.run 1 (pc' := 97) (lv' := [(3, .int (nI (j + 1 + 1))), (2, .int (nI ((plG G (tj t j)) 166 36))), (4, .int (nI (plV G (tj t j)))), (0, .ref 166), (1, .int (nI t))]) (st' := [.ref 166]) (h' := HN (U (u2 (u2 (plG G (tj t j)) 166 42 (j + 1)) 166 43 1) r62 w62 v62) hl (RF rt)) rfl ?_
              refine Ev.call (a := 198) (as := [.ref 166]) (rest := []) (lv0 := [(0, .ref 166)]) (Q1 := (fun z0 h' => z0 = none ∧ h' = HN (U (pbB g (u2 (u2 (plG G (tj t j)) 166 42 (j + 1)) 166 43 1)) (pbR r r62) w62 v62) hl (RF rt))) rfl rfl (C_putBack _ _ _ _ (hI68.mU hs70) ⟨rfl, congrArg (fun z => HN z hl (RF rt)) (pb_U hctd r62 w62 v62)⟩) (fun r h' hr => ?_)
              obtain ⟨rfl, rfl⟩ := hr
              have hcy := Cy.pb hctd
              have hsb := hs.spb hs70 hLo
              refine Ev.run 1 (pc' := 101) (lv' := [(3, .int (nI (j + 1 + 1))), (2, .int (nI ((plG G (tj t j)) 166 36))), (4, .int (nI (plV G (tj t j)))), (0, .ref 166), (1, .int (nI t))]) (st' := [.int (nI ((plG G (tj t j)) 166 36))]) (h' := HN (U (pbB g (u2 (u2 (plG G (tj t j)) 166 42 (j + 1)) 166 43 1)) (pbR r r62) w62 v62) hl (RF rt)) rfl ?_
              refine Ev.ret (v := some (.int (nI ((plG G (tj t j)) 166 36)))) rfl ?_
              have hFe : F = (plG G (tj t j) 166 36, j + 1, 1) := by
                rw [ha, flF_e hc35 (by omega) (by omega), if_pos hc79]
              have hx := hq (pbB g (u2 (u2 (plG G (tj t j)) 166 42 (j + 1)) 166 43 1)) (pbR r r62) w62 v62 hcy hsb
              rw [hFe] at hx
              exact hx rfl rfl
            · have hc24 : ¬ (61 ≤ (j + 1 + 1)) := fun z => hc24 ((nI_leI (by omega) (by omega)).mpr z)
              refine Ev.run 2 (pc' := (if 0 ≤ nI ((plG G (tj t j)) 166 36) then 96 else 31)) (lv' := [(3, .int (nI (j + 1 + 1))), (2, .int (nI ((plG G (tj t j)) 166 36))), (4, .int (nI (plV G (tj t j)))), (0, .ref 166), (1, .int (nI t))]) (st' := []) (h' := HN (U (u2 (u2 (plG G (tj t j)) 166 42 (j + 1)) 166 43 1) r62 w62 v62) hl (RF rt)) rfl ?_
              refine Ev.ite (fun hc28 => ?_) (fun hc28 => ?_)
              · have hc28 : ((plG G (tj t j)) 166 36) < 2147483648 := (nI_geU0 (by omega)).mp hc28
                have hctd := (hctp.trans (Cq.w (j := 42) (x := j + 1) (by omega))).trans (Cq.w (j := 43) (x := 1) (by omega))
                refine Ev.run 1 (pc' := 97) (lv' := [(3, .int (nI (j + 1 + 1))), (2, .int (nI ((plG G (tj t j)) 166 36))), (4, .int (nI (plV G (tj t j)))), (0, .ref 166), (1, .int (nI t))]) (st' := [.ref 166]) (h' := HN (U (u2 (u2 (plG G (tj t j)) 166 42 (j + 1)) 166 43 1) r62 w62 v62) hl (RF rt)) rfl ?_
                refine Ev.call (a := 198) (as := [.ref 166]) (rest := []) (lv0 := [(0, .ref 166)]) (Q1 := (fun z0 h' => z0 = none ∧ h' = HN (U (pbB g (u2 (u2 (plG G (tj t j)) 166 42 (j + 1)) 166 43 1)) (pbR r r62) w62 v62) hl (RF rt))) rfl rfl (C_putBack _ _ _ _ (hI68.mU hs70) ⟨rfl, congrArg (fun z => HN z hl (RF rt)) (pb_U hctd r62 w62 v62)⟩) (fun r h' hr => ?_)
                obtain ⟨rfl, rfl⟩ := hr
                have hcy := Cy.pb hctd
                have hsb := hs.spb hs70 hLo
                refine Ev.run 1 (pc' := 101) (lv' := [(3, .int (nI (j + 1 + 1))), (2, .int (nI ((plG G (tj t j)) 166 36))), (4, .int (nI (plV G (tj t j)))), (0, .ref 166), (1, .int (nI t))]) (st' := [.int (nI ((plG G (tj t j)) 166 36))]) (h' := HN (U (pbB g (u2 (u2 (plG G (tj t j)) 166 42 (j + 1)) 166 43 1)) (pbR r r62) w62 v62) hl (RF rt)) rfl ?_
                refine Ev.ret (v := some (.int (nI ((plG G (tj t j)) 166 36)))) rfl ?_
                have hFe : F = (plG G (tj t j) 166 36, j + 1, 1) := by
                  rw [ha, flF_e hc35 (by omega) (by omega), if_pos hc79]
                have hx := hq (pbB g (u2 (u2 (plG G (tj t j)) 166 42 (j + 1)) 166 43 1)) (pbR r r62) w62 v62 hcy hsb
                rw [hFe] at hx
                exact hx rfl rfl
              · have hc28 : ¬ (((plG G (tj t j)) 166 36) < 2147483648) := fun z => hc28 ((nI_geU0 (by omega)).mpr z)
                exfalso
                omega
          · have hc79 : ¬ ((plV G (tj t j)) = 110) := fun z => hc79 ((nI_eqU (by omega) (by omega)).mpr z)
            refine Ev.run 2 (pc' := 90) (lv' := [(2, .int (nI ((plG G (tj t j)) 166 36))), (4, .int (nI (plV G (tj t j)))), (3, .int (nI (j + 1))), (0, .ref 166), (1, .int (nI t))]) (st' := []) (h' := setI (HN (U (u2 (plG G (tj t j)) 166 42 (j + 1)) r62 w62 v62) hl (RF rt)) 166 43 (nI 0)) rfl ?_
            refine Ev.hp (HN_set _ _ _ _ _ _) ?_
            refine Ev.hp (congrArg (fun z => HN z hl (RF rt)) (U_u166 _ _ _ _ _ _)) ?_
            have hI71 := MI.f43 (x := 0) hI65
            have hK72 := hK66.cx (Cx.w (j := 43) (x := 0) (by omega))
            have hs73 : SmH (u2 (u2 (plG G (tj t j)) 166 42 (j + 1)) 166 43 0) r62 v62 := hs67
            refine Ev.run 1 (pc' := 93) (lv' := [(3, .int (nI (j + 1) + 1)), (2, .int (nI ((plG G (tj t j)) 166 36))), (4, .int (nI (plV G (tj t j)))), (0, .ref 166), (1, .int (nI t))]) (st' := []) (h' := HN (U (u2 (u2 (plG G (tj t j)) 166 42 (j + 1)) 166 43 0) r62 w62 v62) hl (RF rt)) rfl ?_
            refine Ev.lvE (congrArg (fun z => (3, Value.int z) :: [(2, .int (nI ((plG G (tj t j)) 166 36))), (4, .int (nI (plV G (tj t j)))), (0, .ref 166), (1, .int (nI t))]) (nI_1 _)) ?_
            refine Ev.run 1 (pc' := 21) (lv' := [(3, .int (nI (j + 1 + 1))), (2, .int (nI ((plG G (tj t j)) 166 36))), (4, .int (nI (plV G (tj t j)))), (0, .ref 166), (1, .int (nI t))]) (st' := []) (h' := HN (U (u2 (u2 (plG G (tj t j)) 166 42 (j + 1)) 166 43 0) r62 w62 v62) hl (RF rt)) rfl ?_
            refine Ev.run 3 (pc' := (if nI 61 ≤ nI (j + 1 + 1) then 96 else 27)) (lv' := [(3, .int (nI (j + 1 + 1))), (2, .int (nI ((plG G (tj t j)) 166 36))), (4, .int (nI (plV G (tj t j)))), (0, .ref 166), (1, .int (nI t))]) (st' := []) (h' := HN (U (u2 (u2 (plG G (tj t j)) 166 42 (j + 1)) 166 43 0) r62 w62 v62) hl (RF rt)) rfl ?_
            refine Ev.ite (fun hc24 => ?_) (fun hc24 => ?_)
            · have hc24 : 61 ≤ (j + 1 + 1) := (nI_leI (by omega) (by omega)).mp hc24
              have hctd := (hctp.trans (Cq.w (j := 42) (x := j + 1) (by omega))).trans (Cq.w (j := 43) (x := 0) (by omega))
              refine Ev.run 1 (pc' := 97) (lv' := [(3, .int (nI (j + 1 + 1))), (2, .int (nI ((plG G (tj t j)) 166 36))), (4, .int (nI (plV G (tj t j)))), (0, .ref 166), (1, .int (nI t))]) (st' := [.ref 166]) (h' := HN (U (u2 (u2 (plG G (tj t j)) 166 42 (j + 1)) 166 43 0) r62 w62 v62) hl (RF rt)) rfl ?_
              refine Ev.call (a := 198) (as := [.ref 166]) (rest := []) (lv0 := [(0, .ref 166)]) (Q1 := (fun z0 h' => z0 = none ∧ h' = HN (U (pbB g (u2 (u2 (plG G (tj t j)) 166 42 (j + 1)) 166 43 0)) (pbR r r62) w62 v62) hl (RF rt))) rfl rfl (C_putBack _ _ _ _ (hI71.mU hs73) ⟨rfl, congrArg (fun z => HN z hl (RF rt)) (pb_U hctd r62 w62 v62)⟩) (fun r h' hr => ?_)
              obtain ⟨rfl, rfl⟩ := hr
              have hcy := Cy.pb hctd
              have hsb := hs.spb hs73 hLo
              refine Ev.run 1 (pc' := 101) (lv' := [(3, .int (nI (j + 1 + 1))), (2, .int (nI ((plG G (tj t j)) 166 36))), (4, .int (nI (plV G (tj t j)))), (0, .ref 166), (1, .int (nI t))]) (st' := [.int (nI ((plG G (tj t j)) 166 36))]) (h' := HN (U (pbB g (u2 (u2 (plG G (tj t j)) 166 42 (j + 1)) 166 43 0)) (pbR r r62) w62 v62) hl (RF rt)) rfl ?_
              refine Ev.ret (v := some (.int (nI ((plG G (tj t j)) 166 36)))) rfl ?_
              have hFe : F = (plG G (tj t j) 166 36, j + 1, 0) := by
                rw [ha, flF_e hc35 (by omega) (by omega), if_neg hc79]
              have hx := hq (pbB g (u2 (u2 (plG G (tj t j)) 166 42 (j + 1)) 166 43 0)) (pbR r r62) w62 v62 hcy hsb
              rw [hFe] at hx
              exact hx rfl rfl
            · have hc24 : ¬ (61 ≤ (j + 1 + 1)) := fun z => hc24 ((nI_leI (by omega) (by omega)).mpr z)
              refine Ev.run 2 (pc' := (if 0 ≤ nI ((plG G (tj t j)) 166 36) then 96 else 31)) (lv' := [(3, .int (nI (j + 1 + 1))), (2, .int (nI ((plG G (tj t j)) 166 36))), (4, .int (nI (plV G (tj t j)))), (0, .ref 166), (1, .int (nI t))]) (st' := []) (h' := HN (U (u2 (u2 (plG G (tj t j)) 166 42 (j + 1)) 166 43 0) r62 w62 v62) hl (RF rt)) rfl ?_
              refine Ev.ite (fun hc28 => ?_) (fun hc28 => ?_)
              · have hc28 : ((plG G (tj t j)) 166 36) < 2147483648 := (nI_geU0 (by omega)).mp hc28
                have hctd := (hctp.trans (Cq.w (j := 42) (x := j + 1) (by omega))).trans (Cq.w (j := 43) (x := 0) (by omega))
                refine Ev.run 1 (pc' := 97) (lv' := [(3, .int (nI (j + 1 + 1))), (2, .int (nI ((plG G (tj t j)) 166 36))), (4, .int (nI (plV G (tj t j)))), (0, .ref 166), (1, .int (nI t))]) (st' := [.ref 166]) (h' := HN (U (u2 (u2 (plG G (tj t j)) 166 42 (j + 1)) 166 43 0) r62 w62 v62) hl (RF rt)) rfl ?_
                refine Ev.call (a := 198) (as := [.ref 166]) (rest := []) (lv0 := [(0, .ref 166)]) (Q1 := (fun z0 h' => z0 = none ∧ h' = HN (U (pbB g (u2 (u2 (plG G (tj t j)) 166 42 (j + 1)) 166 43 0)) (pbR r r62) w62 v62) hl (RF rt))) rfl rfl (C_putBack _ _ _ _ (hI71.mU hs73) ⟨rfl, congrArg (fun z => HN z hl (RF rt)) (pb_U hctd r62 w62 v62)⟩) (fun r h' hr => ?_)
                obtain ⟨rfl, rfl⟩ := hr
                have hcy := Cy.pb hctd
                have hsb := hs.spb hs73 hLo
                refine Ev.run 1 (pc' := 101) (lv' := [(3, .int (nI (j + 1 + 1))), (2, .int (nI ((plG G (tj t j)) 166 36))), (4, .int (nI (plV G (tj t j)))), (0, .ref 166), (1, .int (nI t))]) (st' := [.int (nI ((plG G (tj t j)) 166 36))]) (h' := HN (U (pbB g (u2 (u2 (plG G (tj t j)) 166 42 (j + 1)) 166 43 0)) (pbR r r62) w62 v62) hl (RF rt)) rfl ?_
                refine Ev.ret (v := some (.int (nI ((plG G (tj t j)) 166 36)))) rfl ?_
                have hFe : F = (plG G (tj t j) 166 36, j + 1, 0) := by
                  rw [ha, flF_e hc35 (by omega) (by omega), if_neg hc79]
                have hx := hq (pbB g (u2 (u2 (plG G (tj t j)) 166 42 (j + 1)) 166 43 0)) (pbR r r62) w62 v62 hcy hsb
                rw [hFe] at hx
                exact hx rfl rfl
              · have hc28 : ¬ (((plG G (tj t j)) 166 36) < 2147483648) := fun z => hc28 ((nI_geU0 (by omega)).mpr z)
                exfalso
                omega
        · have hc58 : ¬ (((plG G (tj t j)) 166 36) < 2147483648) := fun z => hc58 ((nI_geU0 (by omega)).mpr z)
          refine Ev.run 1 (pc' := 90) (lv' := [(4, .int (nI (plV G (tj t j)))), (3, .int (nI (j + 1))), (2, .int (nI 4294967291)), (0, .ref 166), (1, .int (nI t))]) (st' := []) (h' := HN (U (plG G (tj t j)) r62 w62 v62) hl (RF rt)) rfl ?_
          refine Ev.run 1 (pc' := 93) (lv' := [(3, .int (nI (j + 1) + 1)), (4, .int (nI (plV G (tj t j)))), (2, .int (nI 4294967291)), (0, .ref 166), (1, .int (nI t))]) (st' := []) (h' := HN (U (plG G (tj t j)) r62 w62 v62) hl (RF rt)) rfl ?_
          refine Ev.lvE (congrArg (fun z => (3, Value.int z) :: [(4, .int (nI (plV G (tj t j)))), (2, .int (nI 4294967291)), (0, .ref 166), (1, .int (nI t))]) (nI_1 _)) ?_
          refine Ev.run 1 (pc' := 21) (lv' := [(3, .int (nI (j + 1 + 1))), (4, .int (nI (plV G (tj t j)))), (2, .int (nI 4294967291)), (0, .ref 166), (1, .int (nI t))]) (st' := []) (h' := HN (U (plG G (tj t j)) r62 w62 v62) hl (RF rt)) rfl ?_
          have hx := hnext (by omega) (plG G (tj t j)) r62 w62 v62 hI63 hK64 hs62 (hctG.trans (Ct.tplG _ _).cq) (fun z => by omega) (by rw [(Ct.tplG G (tj t j)).2 42 (by decide) (by decide) (by decide) (by decide)]; exact h42) (by rw [(Ct.tplG G (tj t j)).2 43 (by decide) (by decide) (by decide) (by decide)]; exact h43) (by rw [ha]; exact flF_s hc35 (by omega) (by omega))
          exact Ev.wk (Ext.cons rfl rfl (Ext.cons rfl rfl (Ext.cons rfl rfl (Ext.cons rfl rfl (Ext.nil rfl))))) hx
      · have hc41 : ¬ ((j + 1) = 1) := fun z => hc41 ((nI_eqU (by omega) (by omega)).mpr z)
        refine Ev.run 1 (pc' := 49) (lv' := [(3, .int (nI (j + 1))), (2, .int (nI 4294967291)), (0, .ref 166), (1, .int (nI t))]) (st' := [.int (nI 4294967295), .ref 166]) (h' := HN (U G rG wG vG) hl (RF rt)) rfl ?_
        refine Ev.topI (congrArg nI (show 4294967295 = tj t j by unfold tj; rw [if_neg (by omega)])) ?_
        refine Ev.call (a := 192) (as := [.ref 166, .int (nI (tj t j))]) (rest := []) (lv0 := [(0, .ref 166), (1, .int (nI (tj t j)))]) (Q1 := (fun z0 h' => ∃ r1 w1 v1, SmH (plG G (tj t j)) r1 v1 ∧ z0 = some (.int (nI (plV G (tj t j)))) ∧ h' = HN (U (plG G (tj t j)) r1 w1 v1) hl (RF rt))) rfl rfl (C_goTurn _ _ _ _ hIG hKG (tj t j) htk  rG wG vG hsG (fun r w v h => ⟨r, w, v, h, rfl, rfl⟩)) (fun r h' hr => ?_)
        obtain ⟨r74, w74, v74, hs74, rfl, rfl⟩ := hr
        have hI75 : MI (plG G (tj t j)) := hIG.mplG htk
        have hK76 : KW (plG G (tj t j)) := hKG.cx (Ct.tplG _ _).cx
        refine Ev.run 1 (pc' := 54) (lv' := [(4, .int (nI (plV G (tj t j)))), (3, .int (nI (j + 1))), (2, .int (nI 4294967291)), (0, .ref 166), (1, .int (nI t))]) (st' := []) (h' := HN (U (plG G (tj t j)) r74 w74 v74) hl (RF rt)) rfl ?_
        have h36 := plG_36 hIG (tj t j)
        have hvl := plV_lt hIG htk
        have hctp := hctG.trans (Ct.tplG G (tj t j)).cq
        refine Ev.run 3 (pc' := (if 0 ≤ nI ((plG G (tj t j)) 166 36) then 64 else 61)) (lv' := [(4, .int (nI (plV G (tj t j)))), (3, .int (nI (j + 1))), (2, .int (nI 4294967291)), (0, .ref 166), (1, .int (nI t))]) (st' := []) (h' := HN (U (plG G (tj t j)) r74 w74 v74) hl (RF rt)) rfl ?_
        refine Ev.ite (fun hc58 => ?_) (fun hc58 => ?_)
        · have hc58 : ((plG G (tj t j)) 166 36) < 2147483648 := (nI_geU0 (by omega)).mp hc58
          refine Ev.run 6 (pc' := 74) (lv' := [(2, .int (nI ((plG G (tj t j)) 166 36))), (4, .int (nI (plV G (tj t j)))), (3, .int (nI (j + 1))), (0, .ref 166), (1, .int (nI t))]) (st' := []) (h' := setI (HN (U (plG G (tj t j)) r74 w74 v74) hl (RF rt)) 166 42 (nI (j + 1))) rfl ?_
          refine Ev.hp (HN_set _ _ _ _ _ _) ?_
          refine Ev.hp (congrArg (fun z => HN z hl (RF rt)) (U_u166 _ _ _ _ _ _)) ?_
          have hI77 := MI.f42 (x := (j + 1)) hI75
          have hK78 := hK76.cx (Cx.w (j := 42) (x := (j + 1)) (by omega))
          have hs79 : SmH (u2 (plG G (tj t j)) 166 42 (j + 1)) r74 v74 := hs74
          refine Ev.run 4 (pc' := (if nI (plV G (tj t j)) = nI 110 then 82 else 86)) (lv' := [(2, .int (nI ((plG G (tj t j)) 166 36))), (4, .int (nI (plV G (tj t j)))), (3, .int (nI (j + 1))), (0, .ref 166), (1, .int (nI t))]) (st' := [.ref 166]) (h' := HN (U (u2 (plG G (tj t j)) 166 42 (j + 1)) r74 w74 v74) hl (RF rt)) rfl ?_
          refine Ev.ite (fun hc79 => ?_) (fun hc79 => ?_)
          · have hc79 : (plV G (tj t j)) = 110 := (nI_eqU (by omega) (by omega)).mp hc79
            refine Ev.run 3 (pc' := 90) (lv' := [(2, .int (nI ((plG G (tj t j)) 166 36))), (4, .int (nI (plV G (tj t j)))), (3, .int (nI (j + 1))), (0, .ref 166), (1, .int (nI t))]) (st' := []) (h' := setI (HN (U (u2 (plG G (tj t j)) 166 42 (j + 1)) r74 w74 v74) hl (RF rt)) 166 43 (nI 1)) rfl ?_
            refine Ev.hp (HN_set _ _ _ _ _ _) ?_
            refine Ev.hp (congrArg (fun z => HN z hl (RF rt)) (U_u166 _ _ _ _ _ _)) ?_
            have hI80 := MI.f43 (x := 1) hI77
            have hK81 := hK78.cx (Cx.w (j := 43) (x := 1) (by omega))
            have hs82 : SmH (u2 (u2 (plG G (tj t j)) 166 42 (j + 1)) 166 43 1) r74 v74 := hs79
            refine Ev.run 1 (pc' := 93) (lv' := [(3, .int (nI (j + 1) + 1)), (2, .int (nI ((plG G (tj t j)) 166 36))), (4, .int (nI (plV G (tj t j)))), (0, .ref 166), (1, .int (nI t))]) (st' := []) (h' := HN (U (u2 (u2 (plG G (tj t j)) 166 42 (j + 1)) 166 43 1) r74 w74 v74) hl (RF rt)) rfl ?_
            refine Ev.lvE (congrArg (fun z => (3, Value.int z) :: [(2, .int (nI ((plG G (tj t j)) 166 36))), (4, .int (nI (plV G (tj t j)))), (0, .ref 166), (1, .int (nI t))]) (nI_1 _)) ?_
            refine Ev.run 1 (pc' := 21) (lv' := [(3, .int (nI (j + 1 + 1))), (2, .int (nI ((plG G (tj t j)) 166 36))), (4, .int (nI (plV G (tj t j)))), (0, .ref 166), (1, .int (nI t))]) (st' := []) (h' := HN (U (u2 (u2 (plG G (tj t j)) 166 42 (j + 1)) 166 43 1) r74 w74 v74) hl (RF rt)) rfl ?_
            refine Ev.run 3 (pc' := (if nI 61 ≤ nI (j + 1 + 1) then 96 else 27)) (lv' := [(3, .int (nI (j + 1 + 1))), (2, .int (nI ((plG G (tj t j)) 166 36))), (4, .int (nI (plV G (tj t j)))), (0, .ref 166), (1, .int (nI t))]) (st' := []) (h' := HN (U (u2 (u2 (plG G (tj t j)) 166 42 (j + 1)) 166 43 1) r74 w74 v74) hl (RF rt)) rfl ?_
            refine Ev.ite (fun hc24 => ?_) (fun hc24 => ?_)
            · have hc24 : 61 ≤ (j + 1 + 1) := (nI_leI (by omega) (by omega)).mp hc24
              have hctd := (hctp.trans (Cq.w (j := 42) (x := j + 1) (by omega))).trans (Cq.w (j := 43) (x := 1) (by omega))
              refine Ev.run 1 (pc' := 97) (lv' := [(3, .int (nI (j + 1 + 1))), (2, .int (nI ((plG G (tj t j)) 166 36))), (4, .int (nI (plV G (tj t j)))), (0, .ref 166), (1, .int (nI t))]) (st' := [.ref 166]) (h' := HN (U (u2 (u2 (plG G (tj t j)) 166 42 (j + 1)) 166 43 1) r74 w74 v74) hl (RF rt)) rfl ?_
              refine Ev.call (a := 198) (as := [.ref 166]) (rest := []) (lv0 := [(0, .ref 166)]) (Q1 := (fun z0 h' => z0 = none ∧ h' = HN (U (pbB g (u2 (u2 (plG G (tj t j)) 166 42 (j + 1)) 166 43 1)) (pbR r r74) w74 v74) hl (RF rt))) rfl rfl (C_putBack _ _ _ _ (hI80.mU hs82) ⟨rfl, congrArg (fun z => HN z hl (RF rt)) (pb_U hctd r74 w74 v74)⟩) (fun r h' hr => ?_)
              obtain ⟨rfl, rfl⟩ := hr
              have hcy := Cy.pb hctd
              have hsb := hs.spb hs82 hLo
              refine Ev.run 1 (pc' := 101) (lv' := [(3, .int (nI (j + 1 + 1))), (2, .int (nI ((plG G (tj t j)) 166 36))), (4, .int (nI (plV G (tj t j)))), (0, .ref 166), (1, .int (nI t))]) (st' := [.int (nI ((plG G (tj t j)) 166 36))]) (h' := HN (U (pbB g (u2 (u2 (plG G (tj t j)) 166 42 (j + 1)) 166 43 1)) (pbR r r74) w74 v74) hl (RF rt)) rfl ?_
              refine Ev.ret (v := some (.int (nI ((plG G (tj t j)) 166 36)))) rfl ?_
              have hFe : F = (plG G (tj t j) 166 36, j + 1, 1) := by
                rw [ha, flF_e hc35 (by omega) (by omega), if_pos hc79]
              have hx := hq (pbB g (u2 (u2 (plG G (tj t j)) 166 42 (j + 1)) 166 43 1)) (pbR r r74) w74 v74 hcy hsb
              rw [hFe] at hx
              exact hx rfl rfl
            · have hc24 : ¬ (61 ≤ (j + 1 + 1)) := fun z => hc24 ((nI_leI (by omega) (by omega)).mpr z)
              refine Ev.run 2 (pc' := (if 0 ≤ nI ((plG G (tj t j)) 166 36) then 96 else 31)) (lv' := [(3, .int (nI (j + 1 + 1))), (2, .int (nI ((plG G (tj t j)) 166 36))), (4, .int (nI (plV G (tj t j)))), (0, .ref 166), (1, .int (nI t))]) (st' := []) (h' := HN (U (u2 (u2 (plG G (tj t j)) 166 42 (j + 1)) 166 43 1) r74 w74 v74) hl (RF rt)) rfl ?_
              refine Ev.ite (fun hc28 => ?_) (fun hc28 => ?_)
              · have hc28 : ((plG G (tj t j)) 166 36) < 2147483648 := (nI_geU0 (by omega)).mp hc28
                have hctd := (hctp.trans (Cq.w (j := 42) (x := j + 1) (by omega))).trans (Cq.w (j := 43) (x := 1) (by omega))
                refine Ev.run 1 (pc' := 97) (lv' := [(3, .int (nI (j + 1 + 1))), (2, .int (nI ((plG G (tj t j)) 166 36))), (4, .int (nI (plV G (tj t j)))), (0, .ref 166), (1, .int (nI t))]) (st' := [.ref 166]) (h' := HN (U (u2 (u2 (plG G (tj t j)) 166 42 (j + 1)) 166 43 1) r74 w74 v74) hl (RF rt)) rfl ?_
                refine Ev.call (a := 198) (as := [.ref 166]) (rest := []) (lv0 := [(0, .ref 166)]) (Q1 := (fun z0 h' => z0 = none ∧ h' = HN (U (pbB g (u2 (u2 (plG G (tj t j)) 166 42 (j + 1)) 166 43 1)) (pbR r r74) w74 v74) hl (RF rt))) rfl rfl (C_putBack _ _ _ _ (hI80.mU hs82) ⟨rfl, congrArg (fun z => HN z hl (RF rt)) (pb_U hctd r74 w74 v74)⟩) (fun r h' hr => ?_)
                obtain ⟨rfl, rfl⟩ := hr
                have hcy := Cy.pb hctd
                have hsb := hs.spb hs82 hLo
                refine Ev.run 1 (pc' := 101) (lv' := [(3, .int (nI (j + 1 + 1))), (2, .int (nI ((plG G (tj t j)) 166 36))), (4, .int (nI (plV G (tj t j)))), (0, .ref 166), (1, .int (nI t))]) (st' := [.int (nI ((plG G (tj t j)) 166 36))]) (h' := HN (U (pbB g (u2 (u2 (plG G (tj t j)) 166 42 (j + 1)) 166 43 1)) (pbR r r74) w74 v74) hl (RF rt)) rfl ?_
                refine Ev.ret (v := some (.int (nI ((plG G (tj t j)) 166 36)))) rfl ?_
                have hFe : F = (plG G (tj t j) 166 36, j + 1, 1) := by
                  rw [ha, flF_e hc35 (by omega) (by omega), if_pos hc79]
                have hx := hq (pbB g (u2 (u2 (plG G (tj t j)) 166 42 (j + 1)) 166 43 1)) (pbR r r74) w74 v74 hcy hsb
                rw [hFe] at hx
                exact hx rfl rfl
              · have hc28 : ¬ (((plG G (tj t j)) 166 36) < 2147483648) := fun z => hc28 ((nI_geU0 (by omega)).mpr z)
                exfalso
                omega
          · have hc79 : ¬ ((plV G (tj t j)) = 110) := fun z => hc79 ((nI_eqU (by omega) (by omega)).mpr z)
            refine Ev.run 2 (pc' := 90) (lv' := [(2, .int (nI ((plG G (tj t j)) 166 36))), (4, .int (nI (plV G (tj t j)))), (3, .int (nI (j + 1))), (0, .ref 166), (1, .int (nI t))]) (st' := []) (h' := setI (HN (U (u2 (plG G (tj t j)) 166 42 (j + 1)) r74 w74 v74) hl (RF rt)) 166 43 (nI 0)) rfl ?_
            refine Ev.hp (HN_set _ _ _ _ _ _) ?_
            refine Ev.hp (congrArg (fun z => HN z hl (RF rt)) (U_u166 _ _ _ _ _ _)) ?_
            have hI83 := MI.f43 (x := 0) hI77
            have hK84 := hK78.cx (Cx.w (j := 43) (x := 0) (by omega))
            have hs85 : SmH (u2 (u2 (plG G (tj t j)) 166 42 (j + 1)) 166 43 0) r74 v74 := hs79
            refine Ev.run 1 (pc' := 93) (lv' := [(3, .int (nI (j + 1) + 1)), (2, .int (nI ((plG G (tj t j)) 166 36))), (4, .int (nI (plV G (tj t j)))), (0, .ref 166), (1, .int (nI t))]) (st' := []) (h' := HN (U (u2 (u2 (plG G (tj t j)) 166 42 (j + 1)) 166 43 0) r74 w74 v74) hl (RF rt)) rfl ?_
            refine Ev.lvE (congrArg (fun z => (3, Value.int z) :: [(2, .int (nI ((plG G (tj t j)) 166 36))), (4, .int (nI (plV G (tj t j)))), (0, .ref 166), (1, .int (nI t))]) (nI_1 _)) ?_
            refine Ev.run 1 (pc' := 21) (lv' := [(3, .int (nI (j + 1 + 1))), (2, .int (nI ((plG G (tj t j)) 166 36))), (4, .int (nI (plV G (tj t j)))), (0, .ref 166), (1, .int (nI t))]) (st' := []) (h' := HN (U (u2 (u2 (plG G (tj t j)) 166 42 (j + 1)) 166 43 0) r74 w74 v74) hl (RF rt)) rfl ?_
            refine Ev.run 3 (pc' := (if nI 61 ≤ nI (j + 1 + 1) then 96 else 27)) (lv' := [(3, .int (nI (j + 1 + 1))), (2, .int (nI ((plG G (tj t j)) 166 36))), (4, .int (nI (plV G (tj t j)))), (0, .ref 166), (1, .int (nI t))]) (st' := []) (h' := HN (U (u2 (u2 (plG G (tj t j)) 166 42 (j + 1)) 166 43 0) r74 w74 v74) hl (RF rt)) rfl ?_
            refine Ev.ite (fun hc24 => ?_) (fun hc24 => ?_)
            · have hc24 : 61 ≤ (j + 1 + 1) := (nI_leI (by omega) (by omega)).mp hc24
              have hctd := (hctp.trans (Cq.w (j := 42) (x := j + 1) (by omega))).trans (Cq.w (j := 43) (x := 0) (by omega))
              refine Ev.run 1 (pc' := 97) (lv' := [(3, .int (nI (j + 1 + 1))), (2, .int (nI ((plG G (tj t j)) 166 36))), (4, .int (nI (plV G (tj t j)))), (0, .ref 166), (1, .int (nI t))]) (st' := [.ref 166]) (h' := HN (U (u2 (u2 (plG G (tj t j)) 166 42 (j + 1)) 166 43 0) r74 w74 v74) hl (RF rt)) rfl ?_
              refine Ev.call (a := 198) (as := [.ref 166]) (rest := []) (lv0 := [(0, .ref 166)]) (Q1 := (fun z0 h' => z0 = none ∧ h' = HN (U (pbB g (u2 (u2 (plG G (tj t j)) 166 42 (j + 1)) 166 43 0)) (pbR r r74) w74 v74) hl (RF rt))) rfl rfl (C_putBack _ _ _ _ (hI83.mU hs85) ⟨rfl, congrArg (fun z => HN z hl (RF rt)) (pb_U hctd r74 w74 v74)⟩) (fun r h' hr => ?_)
              obtain ⟨rfl, rfl⟩ := hr
              have hcy := Cy.pb hctd
              have hsb := hs.spb hs85 hLo
              refine Ev.run 1 (pc' := 101) (lv' := [(3, .int (nI (j + 1 + 1))), (2, .int (nI ((plG G (tj t j)) 166 36))), (4, .int (nI (plV G (tj t j)))), (0, .ref 166), (1, .int (nI t))]) (st' := [.int (nI ((plG G (tj t j)) 166 36))]) (h' := HN (U (pbB g (u2 (u2 (plG G (tj t j)) 166 42 (j + 1)) 166 43 0)) (pbR r r74) w74 v74) hl (RF rt)) rfl ?_
              refine Ev.ret (v := some (.int (nI ((plG G (tj t j)) 166 36)))) rfl ?_
              have hFe : F = (plG G (tj t j) 166 36, j + 1, 0) := by
                rw [ha, flF_e hc35 (by omega) (by omega), if_neg hc79]
              have hx := hq (pbB g (u2 (u2 (plG G (tj t j)) 166 42 (j + 1)) 166 43 0)) (pbR r r74) w74 v74 hcy hsb
              rw [hFe] at hx
              exact hx rfl rfl
            · have hc24 : ¬ (61 ≤ (j + 1 + 1)) := fun z => hc24 ((nI_leI (by omega) (by omega)).mpr z)
              refine Ev.run 2 (pc' := (if 0 ≤ nI ((plG G (tj t j)) 166 36) then 96 else 31)) (lv' := [(3, .int (nI (j + 1 + 1))), (2, .int (nI ((plG G (tj t j)) 166 36))), (4, .int (nI (plV G (tj t j)))), (0, .ref 166), (1, .int (nI t))]) (st' := []) (h' := HN (U (u2 (u2 (plG G (tj t j)) 166 42 (j + 1)) 166 43 0) r74 w74 v74) hl (RF rt)) rfl ?_
              refine Ev.ite (fun hc28 => ?_) (fun hc28 => ?_)
              · have hc28 : ((plG G (tj t j)) 166 36) < 2147483648 := (nI_geU0 (by omega)).mp hc28
                have hctd := (hctp.trans (Cq.w (j := 42) (x := j + 1) (by omega))).trans (Cq.w (j := 43) (x := 0) (by omega))
                refine Ev.run 1 (pc' := 97) (lv' := [(3, .int (nI (j + 1 + 1))), (2, .int (nI ((plG G (tj t j)) 166 36))), (4, .int (nI (plV G (tj t j)))), (0, .ref 166), (1, .int (nI t))]) (st' := [.ref 166]) (h' := HN (U (u2 (u2 (plG G (tj t j)) 166 42 (j + 1)) 166 43 0) r74 w74 v74) hl (RF rt)) rfl ?_
                refine Ev.call (a := 198) (as := [.ref 166]) (rest := []) (lv0 := [(0, .ref 166)]) (Q1 := (fun z0 h' => z0 = none ∧ h' = HN (U (pbB g (u2 (u2 (plG G (tj t j)) 166 42 (j + 1)) 166 43 0)) (pbR r r74) w74 v74) hl (RF rt))) rfl rfl (C_putBack _ _ _ _ (hI83.mU hs85) ⟨rfl, congrArg (fun z => HN z hl (RF rt)) (pb_U hctd r74 w74 v74)⟩) (fun r h' hr => ?_)
                obtain ⟨rfl, rfl⟩ := hr
                have hcy := Cy.pb hctd
                have hsb := hs.spb hs85 hLo
                refine Ev.run 1 (pc' := 101) (lv' := [(3, .int (nI (j + 1 + 1))), (2, .int (nI ((plG G (tj t j)) 166 36))), (4, .int (nI (plV G (tj t j)))), (0, .ref 166), (1, .int (nI t))]) (st' := [.int (nI ((plG G (tj t j)) 166 36))]) (h' := HN (U (pbB g (u2 (u2 (plG G (tj t j)) 166 42 (j + 1)) 166 43 0)) (pbR r r74) w74 v74) hl (RF rt)) rfl ?_
                refine Ev.ret (v := some (.int (nI ((plG G (tj t j)) 166 36)))) rfl ?_
                have hFe : F = (plG G (tj t j) 166 36, j + 1, 0) := by
                  rw [ha, flF_e hc35 (by omega) (by omega), if_neg hc79]
                have hx := hq (pbB g (u2 (u2 (plG G (tj t j)) 166 42 (j + 1)) 166 43 0)) (pbR r r74) w74 v74 hcy hsb
                rw [hFe] at hx
                exact hx rfl rfl
              · have hc28 : ¬ (((plG G (tj t j)) 166 36) < 2147483648) := fun z => hc28 ((nI_geU0 (by omega)).mpr z)
                exfalso
                omega
        · have hc58 : ¬ (((plG G (tj t j)) 166 36) < 2147483648) := fun z => hc58 ((nI_geU0 (by omega)).mpr z)
          refine Ev.run 1 (pc' := 90) (lv' := [(4, .int (nI (plV G (tj t j)))), (3, .int (nI (j + 1))), (2, .int (nI 4294967291)), (0, .ref 166), (1, .int (nI t))]) (st' := []) (h' := HN (U (plG G (tj t j)) r74 w74 v74) hl (RF rt)) rfl ?_
          refine Ev.run 1 (pc' := 93) (lv' := [(3, .int (nI (j + 1) + 1)), (4, .int (nI (plV G (tj t j)))), (2, .int (nI 4294967291)), (0, .ref 166), (1, .int (nI t))]) (st' := []) (h' := HN (U (plG G (tj t j)) r74 w74 v74) hl (RF rt)) rfl ?_
          refine Ev.lvE (congrArg (fun z => (3, Value.int z) :: [(4, .int (nI (plV G (tj t j)))), (2, .int (nI 4294967291)), (0, .ref 166), (1, .int (nI t))]) (nI_1 _)) ?_
          refine Ev.run 1 (pc' := 21) (lv' := [(3, .int (nI (j + 1 + 1))), (4, .int (nI (plV G (tj t j)))), (2, .int (nI 4294967291)), (0, .ref 166), (1, .int (nI t))]) (st' := []) (h' := HN (U (plG G (tj t j)) r74 w74 v74) hl (RF rt)) rfl ?_
          have hx := hnext (by omega) (plG G (tj t j)) r74 w74 v74 hI75 hK76 hs74 (hctG.trans (Ct.tplG _ _).cq) (fun z => by omega) (by rw [(Ct.tplG G (tj t j)).2 42 (by decide) (by decide) (by decide) (by decide)]; exact h42) (by rw [(Ct.tplG G (tj t j)).2 43 (by decide) (by decide) (by decide) (by decide)]; exact h43) (by rw [ha]; exact flF_s hc35 (by omega) (by omega))
          exact Ev.wk (Ext.cons rfl rfl (Ext.cons rfl rfl (Ext.cons rfl rfl (Ext.cons rfl rfl (Ext.nil rfl))))) hx
