/-! the reference: words and players made, what is told -/
noncomputable def anySp (g : Nat → Nat → Nat) : Bool := @decide (∃ i, i < g 166 0 ∧ isSp g i = true) (Classical.propDecidable _)
theorem anySp_t {g : Nat → Nat → Nat} {i : Nat} (h : i < g 166 0) (h1 : isSp g i = true) : anySp g = true := by unfold anySp; exact @decide_eq_true _ (Classical.propDecidable _) ⟨i, h, h1⟩
theorem anySp_f {g : Nat → Nat → Nat} (h : ∀ i, i < g 166 0 → isSp g i = false) : anySp g = false := by
  unfold anySp
  refine @decide_eq_false _ (Classical.propDecidable _) (fun z => ?_)
  obtain ⟨i, h1, h2⟩ := z
  rw [h i h1] at h2
  cases h2
noncomputable def rs_word (g : Nat → Nat → Nat) (c : Nat) : Nat := if c ≤ 9 then (if g 166 1 = 0 then 4294967293 else bif anySp g then 4294967293 else if g 166 0 = 12 then 4294967292 else g 166 0) else 4294967294
noncomputable def gw_word (g : Nat → Nat → Nat) (c : Nat) : Nat → Nat → Nat := u2 (u2 (u2 (u2 (cpR g 167 (6 * g 166 0) (g 166 1) (fun k => g 170 k)) 168 (g 166 0) (g 166 1)) 169 (g 166 0) c) 166 1 0) 166 0 (g 166 0 + 1)
noncomputable def gs_word (g : Nat → Nat → Nat) (c : Nat) : Nat → Nat → Nat := if c ≤ 9 then (if g 166 1 = 0 then g else bif anySp g then g else if g 166 0 = 12 then g else gw_word g c) else g
theorem C_word {L : Nat} {xs : Nat → Int32} (d : Nat) (g : Nat → Nat → Nat) (hl : Nat → Nat → Int64) (rt : Nat × Nat × Nat × Nat) (hI : MI g) (c : Nat) (hc : c < 2 ^ 32) {Q : Po} (hq : Q (some (.int (nI (rs_word g c)))) (HN (gs_word g c) hl (RF rt))) : Ev L xs (d + 2) 133 0 [(0, .ref 166), (1, .int (nI c))] [] (HN g hl (RF rt)) Q := by
  have hW := hI.hW
  have hS := hI.hS
  have hPl := hI.hPl
  have hNx := hI.hNx
  have hLa := hI.hLa
  have hLo := hI.hLo
  have hTb := hI.hTb
  have hTh := hI.hTh
  have hFd := hI.hFd
  have hSn := hI.hSn
  have hSh := hI.hSh
  have hRan := hI.hRan
  have hLr := hI.hLr
  have hLt := hI.hLt
  have hgl := hI.hgl
  have hsz := hI.hsz
  have hcm := hI.hcm
  have hsl := hI.hsl
  have hkd := hI.hkd
  have hvv := hI.hvv
  have hli := hI.hli
  have hro := hI.hro
  have hrw := hI.hrw
  have htx := hI.htx
  have hsw := hI.hsw
  have hsx := hI.hsx
  have hsy := hI.hsy
  have hsh := hI.hsh
  have hle := hI.hle
  have hcl := hI.hcl
  have hwd := hI.hwd
  have hnu := hI.hnu
  have hwn := hI.hwn
  have hs1 := hI.hs1
  have hso := hI.hso
  refine Ev.run 4 (pc' := 5) (lv' := [(0, .ref 166), (1, .int (nI c))]) (st' := [.int (nI 9), .int (nI 0), .int (nI c), .ref 166]) (h' := HN g hl (RF rt)) rfl ?_
  refine Ev.call (a := 126) (as := [.ref 166, .int (nI c), .int (nI 0), .int (nI 9)]) (rest := []) (lv0 := [(0, .ref 166), (1, .int (nI c)), (2, .int (nI 0)), (3, .int (nI 9))]) (Q1 := (fun z0 h' => z0 = some (.int (nI (bn (decide (c ≤ 9))))) ∧ h' = HN g hl (RF rt))) rfl rfl (C_in _ _ _ _ (nI c) (nI 0) (nI 9) (by rw [in0 (by omega) (by omega)]; exact ⟨rfl, rfl⟩)) (fun r h' hr => ?_)
  obtain ⟨rfl, rfl⟩ := hr
  refine Ev_bn (fun hb8 => ?_) (fun hb8 => ?_)
  · have hhb8 : c ≤ 9 := of_decide_eq_true hb8
    refine Ev.run 4 (pc' := (if nI (g 166 1) = 0 then 21 else 24)) (lv' := [(0, .ref 166), (1, .int (nI c))]) (st' := []) (h' := HN g hl (RF rt)) rfl ?_
    refine Ev.ite (fun hc18 => ?_) (fun hc18 => ?_)
    · have hc18 : (g 166 1) = 0 := (nI_eqU0 (by omega)).mp hc18
      refine Ev.run 1 (pc' := 23) (lv' := [(0, .ref 166), (1, .int (nI c))]) (st' := [.int (nI 4294967293)]) (h' := HN g hl (RF rt)) rfl ?_
      refine Ev.ret (v := some (.int (nI 4294967293))) rfl ?_
      first
        | (simp only [rs_word, gs_word, if_pos hhb8, if_pos hc18] at hq; exact hq)
        | (rw [show rs_word g c = 4294967293 by simp only [rs_word, if_pos hhb8, if_pos hc18]; rw [anySp_t (by omega) hb39]; rfl, show gs_word g c = g by simp only [gs_word, if_pos hhb8, if_pos hc18]; rw [anySp_t (by omega) hb39]; rfl] at hq; exact hq)
        | (have ef : anySp g = false := anySp_f (fun i hi => ha i (by omega)); simp only [rs_word, gs_word, ef, cond_false, if_pos hhb8, if_pos hc18, if_pos hc57] at hq; exact hq)
        | (obtain rfl : n = g 166 1 := by omega
           simp only [rs_word, gs_word, gw_word, ef, cond_false, if_pos hhb8, if_pos hc18, if_neg hc57] at hq
           exact hq)
    · have hc18 : ¬ ((g 166 1) = 0) := fun z => hc18 ((nI_eqU0 (by omega)).mpr z)
      refine Ev.run 2 (pc' := 26) (lv' := [(2, .int (nI 0)), (0, .ref 166), (1, .int (nI c))]) (st' := []) (h' := HN g hl (RF rt)) rfl ?_
      refine for_ind (g 166 0) (fun n => (∀ i, i < n → isSp g i = false) → Ev L xs (d + 2) 133 26 [(2, .int (nI n)), (0, .ref 166), (1, .int (nI c))] [] (HN g hl (RF rt)) Q) (fun n hn hnext ha => ?_) 0 (Nat.zero_le _) (fun i hi => absurd hi (Nat.not_lt_zero _))
      refine Ev.run 4 (pc' := (if nI (g 166 0) ≤ nI n then 51 else 34)) (lv' := [(2, .int (nI n)), (0, .ref 166), (1, .int (nI c))]) (st' := []) (h' := HN g hl (RF rt)) rfl ?_
      refine Ev.ite (fun hc31 => ?_) (fun hc31 => ?_)
      · have hc31 : (g 166 0) ≤ n := (nI_leI (by omega) (by omega)).mp hc31
        refine Ev.run 4 (pc' := (if nI (g 166 0) = nI 12 then 60 else 63)) (lv' := [(2, .int (nI n)), (0, .ref 166), (1, .int (nI c))]) (st' := []) (h' := HN g hl (RF rt)) rfl ?_
        refine Ev.ite (fun hc57 => ?_) (fun hc57 => ?_)
        · have hc57 : (g 166 0) = 12 := (nI_eqU (by omega) (by omega)).mp hc57
          refine Ev.run 1 (pc' := 62) (lv' := [(2, .int (nI n)), (0, .ref 166), (1, .int (nI c))]) (st' := [.int (nI 4294967292)]) (h' := HN g hl (RF rt)) rfl ?_
          refine Ev.ret (v := some (.int (nI 4294967292))) rfl ?_
          first
            | (simp only [rs_word, gs_word, if_pos hhb8, if_neg hc18] at hq; exact hq)
            | (rw [show rs_word g c = 4294967293 by simp only [rs_word, if_pos hhb8, if_neg hc18]; rw [anySp_t (by omega) hb39]; rfl, show gs_word g c = g by simp only [gs_word, if_pos hhb8, if_neg hc18]; rw [anySp_t (by omega) hb39]; rfl] at hq; exact hq)
            | (have ef : anySp g = false := anySp_f (fun i hi => ha i (by omega)); simp only [rs_word, gs_word, ef, cond_false, if_pos hhb8, if_neg hc18, if_pos hc57] at hq; exact hq)
            | (obtain rfl : n = g 166 1 := by omega
               simp only [rs_word, gs_word, gw_word, ef, cond_false, if_pos hhb8, if_neg hc18, if_neg hc57] at hq
               exact hq)
        · have hc57 : ¬ ((g 166 0) = 12) := fun z => hc57 ((nI_eqU (by omega) (by omega)).mpr z)
          refine Ev.run 2 (pc' := 65) (lv' := [(2, .int (nI 0)), (0, .ref 166), (1, .int (nI c))]) (st' := []) (h' := HN g hl (RF rt)) rfl ?_
          have ef : anySp g = false := anySp_f (fun i hi => ha i (by omega))
          refine Ev.hp (congrArg (fun z => HN z hl (RF rt)) (cpR_0 g 167 (6 * g 166 0) (fun k => g 170 k)).symm) ?_
          refine for_ind (g 166 1) (fun n => Ev L xs (d + 2) 133 65 [(2, .int (nI n)), (0, .ref 166), (1, .int (nI c))] [] (HN (cpR g 167 (6 * g 166 0) n (fun k => g 170 k)) hl (RF rt)) Q) (fun n hn hnext => ?_) 0 (Nat.zero_le _)
          refine Ev.run 4 (pc' := (if nI (g 166 1) ≤ nI n then 99 else 73)) (lv' := [(2, .int (nI n)), (0, .ref 166), (1, .int (nI c))]) (st' := []) (h' := HN (cpR g 167 (6 * g 166 0) n (fun k => g 170 k)) hl (RF rt)) rfl ?_
          refine Ev.ite (fun hc70 => ?_) (fun hc70 => ?_)
          · have hc70 : (g 166 1) ≤ n := (nI_leI (by omega) (by omega)).mp hc70
            refine Ev.run 6 (pc' := 111) (lv' := [(2, .int (nI n)), (0, .ref 166), (1, .int (nI c))]) (st' := [.int (nI (g 166 1)), .int (nI (g 166 0)), .ref 168]) (h' := HN (cpR g 167 (6 * g 166 0) n (fun k => g 170 k)) hl (RF rt)) rfl ?_
            refine Ev_iast rfl rfl (show g 166 0 < 12 by omega) (Nat.le_of_ble_eq_true rfl) ?_
            refine Ev.run 5 (pc' := 121) (lv' := [(2, .int (nI n)), (0, .ref 166), (1, .int (nI c))]) (st' := [.int (nI c), .int (nI (g 166 0)), .ref 169]) (h' := HN (u2 (cpR g 167 (6 * g 166 0) n (fun k => g 170 k)) 168 (g 166 0) (g 166 1)) hl (RF rt)) rfl ?_
            refine Ev_iast rfl rfl (show g 166 0 < 12 by omega) (Nat.le_of_ble_eq_true rfl) ?_
            refine Ev.run 3 (pc' := 127) (lv' := [(2, .int (nI n)), (0, .ref 166), (1, .int (nI c))]) (st' := []) (h' := setI (HN (u2 (u2 (cpR g 167 (6 * g 166 0) n (fun k => g 170 k)) 168 (g 166 0) (g 166 1)) 169 (g 166 0) c) hl (RF rt)) 166 1 (nI 0)) rfl ?_
            refine Ev.hp (HN_set _ _ _ _ _ _) ?_
            refine Ev.run 5 (pc' := 134) (lv' := [(2, .int (nI n)), (0, .ref 166), (1, .int (nI c))]) (st' := [.int (nI (g 166 0) + nI 1), .ref 166]) (h' := HN (u2 (u2 (u2 (cpR g 167 (6 * g 166 0) n (fun k => g 170 k)) 168 (g 166 0) (g 166 1)) 169 (g 166 0) c) 166 1 0) hl (RF rt)) rfl ?_
            refine Ev.topI (nI_add _ _) ?_
            refine Ev.run 1 (pc' := 137) (lv' := [(2, .int (nI n)), (0, .ref 166), (1, .int (nI c))]) (st' := []) (h' := setI (HN (u2 (u2 (u2 (cpR g 167 (6 * g 166 0) n (fun k => g 170 k)) 168 (g 166 0) (g 166 1)) 169 (g 166 0) c) 166 1 0) hl (RF rt)) 166 0 (nI ((g 166 0) + 1))) rfl ?_
            refine Ev.hp (HN_set _ _ _ _ _ _) ?_
            refine Ev.run 4 (pc' := 143) (lv' := [(2, .int (nI n)), (0, .ref 166), (1, .int (nI c))]) (st' := [.int (nI ((g 166 0) + 1) - nI 1)]) (h' := HN (u2 (u2 (u2 (u2 (cpR g 167 (6 * g 166 0) n (fun k => g 170 k)) 168 (g 166 0) (g 166 1)) 169 (g 166 0) c) 166 1 0) 166 0 ((g 166 0) + 1)) hl (RF rt)) rfl ?_
            refine Ev.topI ((pk_sub (a := g 166 0 + 1) (b := 1) (by omega)).trans (congrArg nI (show g 166 0 + 1 - 1 = g 166 0 by omega))) ?_
            refine Ev.ret (v := some (.int (nI (g 166 0)))) rfl ?_
            first
              | (simp only [rs_word, gs_word, if_pos hhb8, if_neg hc18] at hq; exact hq)
              | (rw [show rs_word g c = 4294967293 by simp only [rs_word, if_pos hhb8, if_neg hc18]; rw [anySp_t (by omega) hb39]; rfl, show gs_word g c = g by simp only [gs_word, if_pos hhb8, if_neg hc18]; rw [anySp_t (by omega) hb39]; rfl] at hq; exact hq)
              | (have ef : anySp g = false := anySp_f (fun i hi => ha i (by omega)); simp only [rs_word, gs_word, ef, cond_false, if_pos hhb8, if_neg hc18, if_pos hc57] at hq; exact hq)
              | (obtain rfl : n = g 166 1 := by omega
                 simp only [rs_word, gs_word, gw_word, ef, cond_false, if_pos hhb8, if_neg hc18, if_neg hc57] at hq
                 exact hq)
          · have hc70 : ¬ ((g 166 1) ≤ n) := fun z => hc70 ((nI_leI (by omega) (by omega)).mpr z)
            refine Ev.run 6 (pc' := 84) (lv' := [(2, .int (nI n)), (0, .ref 166), (1, .int (nI c))]) (st' := [.int (nI 6 * nI (g 166 0)), .ref 167]) (h' := HN (cpR g 167 (6 * g 166 0) n (fun k => g 170 k)) hl (RF rt)) rfl ?_
            refine Ev.topI (pk_mul _ _) ?_
            refine Ev.run 2 (pc' := 86) (lv' := [(2, .int (nI n)), (0, .ref 166), (1, .int (nI c))]) (st' := [.int (nI (6 * (g 166 0)) + nI n), .ref 167]) (h' := HN (cpR g 167 (6 * g 166 0) n (fun k => g 170 k)) hl (RF rt)) rfl ?_
            refine Ev.topI (nI_add _ _) ?_
            refine Ev.run 3 (pc' := 91) (lv' := [(2, .int (nI n)), (0, .ref 166), (1, .int (nI c))]) (st' := [.int (nI n), .ref 170, .int (nI ((6 * (g 166 0)) + n)), .ref 167]) (h' := HN (cpR g 167 (6 * g 166 0) n (fun k => g 170 k)) hl (RF rt)) rfl ?_
            refine Ev_iald rfl rfl (show n < 6 by omega) (Nat.le_of_ble_eq_true rfl) ?_
            have hr0 := hsl n (by omega)
            refine Ev_iast rfl rfl (show (6 * (g 166 0)) + n < 72 by omega) (Nat.le_of_ble_eq_true rfl) ?_
            refine Ev.run 1 (pc' := 96) (lv' := [(2, .int (nI n + 1)), (0, .ref 166), (1, .int (nI c))]) (st' := []) (h' := HN (u2 (cpR g 167 (6 * g 166 0) n (fun k => g 170 k)) 167 ((6 * (g 166 0)) + n) (g 170 n)) hl (RF rt)) rfl ?_
            refine Ev.lvE (congrArg (fun z => (2, Value.int z) :: [(0, .ref 166), (1, .int (nI c))]) (nI_1 _)) ?_
            refine Ev.run 1 (pc' := 65) (lv' := [(2, .int (nI (n + 1))), (0, .ref 166), (1, .int (nI c))]) (st' := []) (h' := HN (u2 (cpR g 167 (6 * g 166 0) n (fun k => g 170 k)) 167 ((6 * (g 166 0)) + n) (g 170 n)) hl (RF rt)) rfl ?_
            have hx := hnext (by omega)
            rw [← cpR_s] at hx
            exact hx
      · have hc31 : ¬ ((g 166 0) ≤ n) := fun z => hc31 ((nI_leI (by omega) (by omega)).mpr z)
        refine Ev.run 2 (pc' := 36) (lv' := [(2, .int (nI n)), (0, .ref 166), (1, .int (nI c))]) (st' := [.int (nI n), .ref 166]) (h' := HN g hl (RF rt)) rfl ?_
        refine Ev.call (a := 132) (as := [.ref 166, .int (nI n)]) (rest := []) (lv0 := [(0, .ref 166), (1, .int (nI n))]) (Q1 := (fun z0 h' => z0 = some (.int (nI (bn (isSp g n)))) ∧ h' = HN g hl (RF rt))) rfl rfl (C_isSpelled _ _ _ _ hI n (by omega) ⟨rfl, rfl⟩) (fun r h' hr => ?_)
        obtain ⟨rfl, rfl⟩ := hr
        refine Ev_bn (fun hb39 => ?_) (fun hb39 => ?_)
        · skip
          refine Ev.run 2 (pc' := 44) (lv' := [(2, .int (nI n)), (0, .ref 166), (1, .int (nI c))]) (st' := [.int (nI 4294967293)]) (h' := HN g hl (RF rt)) rfl ?_
          refine Ev.ret (v := some (.int (nI 4294967293))) rfl ?_
          first
            | (simp only [rs_word, gs_word, if_pos hhb8, if_neg hc18] at hq; exact hq)
            | (rw [show rs_word g c = 4294967293 by simp only [rs_word, if_pos hhb8, if_neg hc18]; rw [anySp_t (by omega) hb39]; rfl, show gs_word g c = g by simp only [gs_word, if_pos hhb8, if_neg hc18]; rw [anySp_t (by omega) hb39]; rfl] at hq; exact hq)
            | (have ef : anySp g = false := anySp_f (fun i hi => ha i (by omega)); simp only [rs_word, gs_word, ef, cond_false, if_pos hhb8, if_neg hc18, if_pos hc57] at hq; exact hq)
            | (obtain rfl : n = g 166 1 := by omega
               simp only [rs_word, gs_word, gw_word, ef, cond_false, if_pos hhb8, if_neg hc18, if_neg hc57] at hq
               exact hq)
        · skip
          refine Ev.run 2 (pc' := 48) (lv' := [(2, .int (nI n + 1)), (0, .ref 166), (1, .int (nI c))]) (st' := []) (h' := HN g hl (RF rt)) rfl ?_
          refine Ev.lvE (congrArg (fun z => (2, Value.int z) :: [(0, .ref 166), (1, .int (nI c))]) (nI_1 _)) ?_
          refine Ev.run 1 (pc' := 26) (lv' := [(2, .int (nI (n + 1))), (0, .ref 166), (1, .int (nI c))]) (st' := []) (h' := HN g hl (RF rt)) rfl ?_
          exact hnext (by omega) (fun i hi => by
            by_cases e : i = n
            · rw [e]; exact hb39
            · exact ha i (by omega))
  · have hhb8 : ¬ (c ≤ 9) := of_decide_eq_false hb8
    refine Ev.run 2 (pc' := 13) (lv' := [(0, .ref 166), (1, .int (nI c))]) (st' := [.int (nI 4294967294)]) (h' := HN g hl (RF rt)) rfl ?_
    refine Ev.ret (v := some (.int (nI 4294967294))) rfl ?_
    first
      | (simp only [rs_word, gs_word, if_neg hhb8] at hq; exact hq)
      | (rw [show rs_word g c = 4294967293 by simp only [rs_word, if_neg hhb8]; rw [anySp_t (by omega) hb39]; rfl, show gs_word g c = g by simp only [gs_word, if_neg hhb8]; rw [anySp_t (by omega) hb39]; rfl] at hq; exact hq)
      | (have ef : anySp g = false := anySp_f (fun i hi => ha i (by omega)); simp only [rs_word, gs_word, ef, cond_false, if_neg hhb8, if_pos hc57] at hq; exact hq)
      | (obtain rfl : n = g 166 1 := by omega
         simp only [rs_word, gs_word, gw_word, ef, cond_false, if_neg hhb8, if_neg hc57] at hq
         exact hq)
