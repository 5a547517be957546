/-! a call on both sides; small methods of the class -/
/-- a method of the class and the reference's at the same values: the same answer, and all holds again -/
def StepC (L : Nat) (xs : Nat → Int32) (d q1 q2 : Nat) (as : Lv) : Prop := ∀ (g : Nat → Nat → Nat) (hl : Nat → Nat → Int64) (rt : Nat × Nat × Nat × Nat), Inv g hl rt → Ev L xs d q1 0 ((0, .ref 0) :: as) [] (HN g hl (RF rt)) (fun r h => ∃ (v : Value) (g1 : Nat → Nat → Nat) (hl1 : Nat → Nat → Int64) (rt1 : Nat × Nat × Nat × Nat), r = some v ∧ h = HN g1 hl1 (RF rt1) ∧ Ev L xs d q2 0 ((0, .ref 166) :: as) [] (HN g1 hl1 (RF rt1)) (fun r2 h2 => r2 = some v ∧ ∃ (g2 : Nat → Nat → Nat) (hl2 : Nat → Nat → Int64) (rt2 : Nat × Nat × Nat × Nat), h2 = HN g2 hl2 (RF rt2) ∧ Inv g2 hl2 rt2))
theorem nI_geK {c x : Nat} (hc : c < 2 ^ 31) (hx : x < 2 ^ 32) : nI c ≤ nI x ↔ c ≤ x ∧ x < 2147483648 := by
  rw [Int32.le_iff_toInt_le, nI_tI hx, nI_tI (show c < 2 ^ 32 by omega), if_pos hc]
  split <;> omega
theorem nI_gtK {c x : Nat} (hc : c < 2 ^ 31) (hx : x < 2 ^ 32) : nI c < nI x ↔ c < x ∧ x < 2147483648 := by
  rw [Int32.lt_iff_toInt_lt, nI_tI hx, nI_tI (show c < 2 ^ 32 by omega), if_pos hc]
  split <;> omega
theorem nI_s10 (x : Nat) : nI x - nI 10 = nI (x + 4294967286) := by
  have h1 : nI (x + 4294967286) = nI x + nI 4294967286 := (nI_add _ _).symm
  have h2 : nI 4294967286 = -nI 10 := by decide +kernel
  rw [h1, h2, Int32.sub_eq_add_neg]
theorem nI_m (x : Nat) : nI x = nI (x % 4294967296) := nI_ext (by rw [nI_toN, Nat.mod_mod])
theorem ln1 (rt : Nat × Nat × Nat × Nat) : LnC rt 1 6 := ⟨⟨by decide, rfl⟩, ⟨by decide, rfl⟩, rfl, by decide⟩
theorem ln3 (rt : Nat × Nat × Nat × Nat) : LnC rt 3 100 := ⟨⟨by decide, rfl⟩, ⟨by decide, rfl⟩, rfl, by decide⟩
theorem ln48 (rt : Nat × Nat × Nat × Nat) : LnC rt 48 6 := ⟨⟨by decide, rfl⟩, ⟨by decide, rfl⟩, rfl, by decide⟩
theorem ln50 (rt : Nat × Nat × Nat × Nat) : LnC rt 50 6 := ⟨⟨by decide, rfl⟩, ⟨by decide, rfl⟩, rfl, by decide⟩
theorem ln52 (rt : Nat × Nat × Nat × Nat) : LnC rt 52 6 := ⟨⟨by decide, rfl⟩, ⟨by decide, rfl⟩, rfl, by decide⟩
theorem ln54 (rt : Nat × Nat × Nat × Nat) : LnC rt 54 8 := ⟨⟨by decide, rfl⟩, ⟨by decide, rfl⟩, rfl, by decide⟩
theorem ln133 (rt : Nat × Nat × Nat × Nat) : LnC rt 133 20 := ⟨⟨by decide, rfl⟩, ⟨by decide, rfl⟩, rfl, by decide⟩
theorem atE {g : Nat → Nat → Nat} {c n : Nat} {f : Nat → Nat} (h : LnE g c n f) (k : Nat) : atLn g c k = if k < n then f k else 4294967295 := by
  unfold atLn
  rw [h.1]
  split
  · rename_i e; exact h.2 k e
  · rfl
theorem K_letter {L : Nat} {xs : Nat → Int32} (d : Nat) (g : Nat → Nat → Nat) (hl : Nat → Nat → Int64) (rt : Nat × Nat × Nat × Nat) (hV : Inv g hl rt) (i : Nat) (x : Nat) (hi : i < 2 ^ 32) (hx : x < 2 ^ 32) {Q : Po} (hq : Q (some (.int (nI (rs_letter g i x)))) (HN g hl (RF rt))) : Ev L xs (d + 2) 78 0 [(0, .ref 0), (1, .int (nI i)), (2, .int (nI x))] [] (HN g hl (RF rt)) Q := by
  have hI := hV.mi
  have hW := hI.hW
  have hS := hI.hS
  have hPl := hI.hPl
  have hNx := hI.hNx
  have hLa := hI.hLa
  have hLo := hI.hLo
  have hTb := hI.hTb
  have hTh := hI.hTh
  have hFd := hI.hFd
  have hSn := hI.hSn
  have hSh := hI.hSh
  have hRan := hI.hRan
  have hLr := hI.hLr
  have hLt := hI.hLt
  have hgl := hI.hgl
  have hsz := hI.hsz
  have hcm := hI.hcm
  have hsl := hI.hsl
  have hkd := hI.hkd
  have hvv := hI.hvv
  have hli := hI.hli
  have hro := hI.hro
  have hrw := hI.hrw
  have htx := hI.htx
  have hsw := hI.hsw
  have hsx := hI.hsx
  have hsy := hI.hsy
  have hsh := hI.hsh
  have hle := hI.hle
  have hcl := hI.hcl
  have hwd := hI.hwd
  have hnu := hI.hnu
  have hwn := hI.hwn
  have hs1 := hI.hs1
  have hso := hI.hso
  have hB := hV.gm.cb
  have hB0 := hB.1
  have hPs := hV.gm.cs
  have hsp1 := hV.sp.1
  have htx1 := hV.tx.1
  have h451 := hV.gm.rx.1
  have h442 := hV.gm.rx.2.2.2.1
  have h443 := hV.gm.rx.2.2.2.2
  have h481 := hV.gm.l48.1
  have h501 := hV.gm.l50.1
  have h521 := hV.gm.l52.1
  have h541 := hV.gm.l54.1
  have h04 := hV.tb.1
  have hac1 := hV.ac.1
  have hac2 := hV.ac.2.1
  have hPl0 := hV.gm.cp
  have hs0 := hsz i
  refine Ev.run 8 (pc' := 14) (lv' := [(0, .ref 0), (1, .int (nI i)), (2, .int (nI x))]) (st' := [.int (nI (g 13 5) - nI 1), .int (nI 0), .int (nI i)]) (h' := HN g hl (RF rt)) rfl ?_
  refine Ev.call (a := 118) (as := [.int (nI i), .int (nI 0), .int (nI (g 13 5) - nI 1)]) (rest := []) (lv0 := [(0, .int (nI i)), (1, .int (nI 0)), (2, .int (nI (g 13 5) - nI 1))]) (Q1 := (fun z0 h' => z0 = some (.int (nI (bn (decide (i < g 13 5))))) ∧ h' = HN g hl (RF rt))) rfl rfl (K_within _ _ _ _ (nI i) (nI 0) (nI (g 13 5) - nI 1) (by rw [in1 (by omega) (by omega)]; exact ⟨rfl, rfl⟩)) (fun r h' hr => ?_)
  obtain ⟨rfl, rfl⟩ := hr
  refine Ev_bn (fun hb17 => ?_) (fun hb17 => ?_)
  · have hhb17 : i < g 13 5 := of_decide_eq_true hb17
    refine Ev.run 3 (pc' := (if nI x = 0 then 26 else 39)) (lv' := [(0, .ref 0), (1, .int (nI i)), (2, .int (nI x))]) (st' := []) (h' := HN g hl (RF rt)) rfl ?_
    refine Ev.ite (fun hc23 => ?_) (fun hc23 => ?_)
    · have hc23 : x = 0 := (nI_eqU0 (by omega)).mp hc23
      refine Ev.run 5 (pc' := 37) (lv' := [(0, .ref 0), (1, .int (nI i)), (2, .int (nI x))]) (st' := [.int (nI i), .ref 15]) (h' := HN g hl (RF rt)) rfl ?_
      refine Ev_iald rfl rfl (show i < 12 by omega) (Nat.le_of_ble_eq_true rfl) ?_
      refine Ev.ret (v := some (.int (nI (g 15 i)))) rfl ?_
      unfold rs_letter at hq
      first
        | (rw [if_neg (by omega)] at hq; exact hq)
        | (rw [if_pos (by omega), if_neg (by omega), if_neg (by omega), if_neg (by omega)] at hq; exact hq)
        | (rw [if_pos (by omega), if_neg (by omega), if_pos (by omega)] at hq; rw [hB.2.2.2.1 i (by omega)]; exact hq)
        | (rw [if_pos (by omega), if_neg (by omega), if_neg (by omega), if_pos (by omega)] at hq; rw [hB.2.1 i (by omega)]; exact hq)
        | (rw [if_pos (by omega)] at hq; unfold atLn; rw [hB.2.1 i (by omega)]; by_cases e : x - 10 < g 168 i
           · rw [if_pos e, hB.2.2.1 i _ (by omega) e]; rw [if_pos (by omega)] at hq; exact hq
           · rw [if_neg e]; rw [if_neg (by omega), if_neg (by omega), if_neg (by omega)] at hq; exact hq)
    · have hc23 : ¬ (x = 0) := fun z => hc23 ((nI_eqU0 (by omega)).mpr z)
      refine Ev.run 3 (pc' := (if nI x = nI 1 then 44 else 60)) (lv' := [(0, .ref 0), (1, .int (nI i)), (2, .int (nI x))]) (st' := []) (h' := HN g hl (RF rt)) rfl ?_
      refine Ev.ite (fun hc41 => ?_) (fun hc41 => ?_)
      · have hc41 : x = 1 := (nI_eqU (by omega) (by omega)).mp hc41
        refine Ev.run 5 (pc' := 55) (lv' := [(0, .ref 0), (1, .int (nI i)), (2, .int (nI x))]) (st' := [.int (nI i), .ref 14]) (h' := HN g hl (RF rt)) rfl ?_
        refine Ev_aald (c := (19 + 2 * i)) rfl (by decide) rfl (show i < 12 by omega) (Nat.le_of_ble_eq_true rfl) (rf_line rt i (by omega)).2 ?_
        refine Ev_gfI rfl rfl rfl (LnW rt (show i < 12 by omega)).1 ?_
        refine Ev.ret (v := some (.int (nI (g (19 + 2 * i) 1)))) rfl ?_
        unfold rs_letter at hq
        first
          | (rw [if_neg (by omega)] at hq; exact hq)
          | (rw [if_pos (by omega), if_neg (by omega), if_neg (by omega), if_neg (by omega)] at hq; exact hq)
          | (rw [if_pos (by omega), if_neg (by omega), if_pos (by omega)] at hq; rw [hB.2.2.2.1 i (by omega)]; exact hq)
          | (rw [if_pos (by omega), if_neg (by omega), if_neg (by omega), if_pos (by omega)] at hq; rw [hB.2.1 i (by omega)]; exact hq)
          | (rw [if_pos (by omega)] at hq; unfold atLn; rw [hB.2.1 i (by omega)]; by_cases e : x - 10 < g 168 i
             · rw [if_pos e, hB.2.2.1 i _ (by omega) e]; rw [if_pos (by omega)] at hq; exact hq
             · rw [if_neg e]; rw [if_neg (by omega), if_neg (by omega), if_neg (by omega)] at hq; exact hq)
      · have hc41 : ¬ (x = 1) := fun z => hc41 ((nI_eqU (by omega) (by omega)).mpr z)
        refine Ev.run 3 (pc' := (if nI 10 ≤ nI x then 70 else 66)) (lv' := [(0, .ref 0), (1, .int (nI i)), (2, .int (nI x))]) (st' := []) (h' := HN g hl (RF rt)) rfl ?_
        refine Ev.ite (fun hc63 => ?_) (fun hc63 => ?_)
        · have hc63 : 10 ≤ x ∧ x < 2147483648 := (nI_geK (by decide) (by omega)).mp hc63
          refine Ev.run 5 (pc' := 81) (lv' := [(0, .ref 0), (1, .int (nI i)), (2, .int (nI x))]) (st' := [.int (nI i), .ref 14]) (h' := HN g hl (RF rt)) rfl ?_
          refine Ev_aald (c := (19 + 2 * i)) rfl (by decide) rfl (show i < 12 by omega) (Nat.le_of_ble_eq_true rfl) (rf_line rt i (by omega)).2 ?_
          refine Ev.run 3 (pc' := 86) (lv' := [(0, .ref 0), (1, .int (nI i)), (2, .int (nI x))]) (st' := [.int (nI x - nI 10), .ref (19 + 2 * i)]) (h' := HN g hl (RF rt)) rfl ?_
          refine Ev.topI (pk_sub (a := x) (b := 10) (by omega)) ?_
          refine Ev_callV (a := 44) (as := [.ref (19 + 2 * i), .int (nI (x - 10))]) (rest := []) (lv0 := [(0, .ref (19 + 2 * i)), (1, .int (nI (x - 10)))]) (Q1 := (fun z0 h' => z0 = some (.int (nI (atLn g (19 + 2 * i) (x - 10)))) ∧ h' = HN g hl (RF rt))) rfl rfl rfl rfl rfl (LnW rt (show i < 12 by omega)).1.k rfl rfl rfl (K_at _ _ _ _ (19 + 2 * i) 6 (LnW rt (by omega)) (x - 10) (by omega) (by rw [hB.2.1 i (by omega)]; exact hsz i (by omega)) ⟨rfl, rfl⟩) (fun r h' hr => ?_)
          obtain ⟨rfl, rfl⟩ := hr
          refine Ev.ret (v := some (.int (nI (atLn g (19 + 2 * i) (x - 10))))) rfl ?_
          unfold rs_letter at hq
          first
            | (rw [if_neg (by omega)] at hq; exact hq)
            | (rw [if_pos (by omega), if_neg (by omega), if_neg (by omega), if_neg (by omega)] at hq; exact hq)
            | (rw [if_pos (by omega), if_neg (by omega), if_pos (by omega)] at hq; rw [hB.2.2.2.1 i (by omega)]; exact hq)
            | (rw [if_pos (by omega), if_neg (by omega), if_neg (by omega), if_pos (by omega)] at hq; rw [hB.2.1 i (by omega)]; exact hq)
            | (rw [if_pos (by omega)] at hq; unfold atLn; rw [hB.2.1 i (by omega)]; by_cases e : x - 10 < g 168 i
               · rw [if_pos e, hB.2.2.1 i _ (by omega) e]; rw [if_pos (by omega)] at hq; exact hq
               · rw [if_neg e]; rw [if_neg (by omega), if_neg (by omega), if_neg (by omega)] at hq; exact hq)
        · have hc63 : ¬ (10 ≤ x ∧ x < 2147483648) := fun z => hc63 ((nI_geK (by decide) (by omega)).mpr z)
          refine Ev.run 2 (pc' := 89) (lv' := [(0, .ref 0), (1, .int (nI i)), (2, .int (nI x))]) (st' := [.int (nI 4294967295)]) (h' := HN g hl (RF rt)) rfl ?_
          refine Ev.ret (v := some (.int (nI 4294967295))) rfl ?_
          unfold rs_letter at hq
          first
            | (rw [if_neg (by omega)] at hq; exact hq)
            | (rw [if_pos (by omega), if_neg (by omega), if_neg (by omega), if_neg (by omega)] at hq; exact hq)
            | (rw [if_pos (by omega), if_neg (by omega), if_pos (by omega)] at hq; rw [hB.2.2.2.1 i (by omega)]; exact hq)
            | (rw [if_pos (by omega), if_neg (by omega), if_neg (by omega), if_pos (by omega)] at hq; rw [hB.2.1 i (by omega)]; exact hq)
            | (rw [if_pos (by omega)] at hq; unfold atLn; rw [hB.2.1 i (by omega)]; by_cases e : x - 10 < g 168 i
               · rw [if_pos e, hB.2.2.1 i _ (by omega) e]; rw [if_pos (by omega)] at hq; exact hq
               · rw [if_neg e]; rw [if_neg (by omega), if_neg (by omega), if_neg (by omega)] at hq; exact hq)
  · have hhb17 : ¬ (i < g 13 5) := of_decide_eq_false hb17
    refine Ev.run 2 (pc' := 21) (lv' := [(0, .ref 0), (1, .int (nI i)), (2, .int (nI x))]) (st' := [.int (nI 4294967295)]) (h' := HN g hl (RF rt)) rfl ?_
    refine Ev.ret (v := some (.int (nI 4294967295))) rfl ?_
    unfold rs_letter at hq
    first
      | (rw [if_neg (by omega)] at hq; exact hq)
      | (rw [if_pos (by omega), if_neg (by omega), if_neg (by omega), if_neg (by omega)] at hq; exact hq)
      | (rw [if_pos (by omega), if_neg (by omega), if_pos (by omega)] at hq; rw [hB.2.2.2.1 i (by omega)]; exact hq)
      | (rw [if_pos (by omega), if_neg (by omega), if_neg (by omega), if_pos (by omega)] at hq; rw [hB.2.1 i (by omega)]; exact hq)
      | (rw [if_pos (by omega)] at hq; unfold atLn; rw [hB.2.1 i (by omega)]; by_cases e : x - 10 < g 168 i
         · rw [if_pos e, hB.2.2.1 i _ (by omega) e]; rw [if_pos (by omega)] at hq; exact hq
         · rw [if_neg e]; rw [if_neg (by omega), if_neg (by omega), if_neg (by omega)] at hq; exact hq)
theorem K_told {L : Nat} {xs : Nat → Int32} (d : Nat) (g : Nat → Nat → Nat) (hl : Nat → Nat → Int64) (rt : Nat × Nat × Nat × Nat) (hV : Inv g hl rt) (x : Nat) (hx : x < 2 ^ 32) {Q : Po} (hq : Q (some (.int (nI (rs_told g x)))) (HN g hl (RF rt))) : Ev L xs (d + 1) 85 0 [(0, .ref 0), (1, .int (nI x))] [] (HN g hl (RF rt)) Q := by
  have hI := hV.mi
  have hW := hI.hW
  have hS := hI.hS
  have hPl := hI.hPl
  have hNx := hI.hNx
  have hLa := hI.hLa
  have hLo := hI.hLo
  have hTb := hI.hTb
  have hTh := hI.hTh
  have hFd := hI.hFd
  have hSn := hI.hSn
  have hSh := hI.hSh
  have hRan := hI.hRan
  have hLr := hI.hLr
  have hLt := hI.hLt
  have hgl := hI.hgl
  have hsz := hI.hsz
  have hcm := hI.hcm
  have hsl := hI.hsl
  have hkd := hI.hkd
  have hvv := hI.hvv
  have hli := hI.hli
  have hro := hI.hro
  have hrw := hI.hrw
  have htx := hI.htx
  have hsw := hI.hsw
  have hsx := hI.hsx
  have hsy := hI.hsy
  have hsh := hI.hsh
  have hle := hI.hle
  have hcl := hI.hcl
  have hwd := hI.hwd
  have hnu := hI.hnu
  have hwn := hI.hwn
  have hs1 := hI.hs1
  have hso := hI.hso
  have hB := hV.gm.cb
  have hB0 := hB.1
  have hPs := hV.gm.cs
  have hsp1 := hV.sp.1
  have htx1 := hV.tx.1
  have h451 := hV.gm.rx.1
  have h442 := hV.gm.rx.2.2.2.1
  have h443 := hV.gm.rx.2.2.2.2
  have h481 := hV.gm.l48.1
  have h501 := hV.gm.l50.1
  have h521 := hV.gm.l52.1
  have h541 := hV.gm.l54.1
  have h04 := hV.tb.1
  have hac1 := hV.ac.1
  have hac2 := hV.ac.2.1
  have hPl0 := hV.gm.cp
  have hlw := hV.tb.lw hV.th hI
  refine Ev.run 5 (pc' := 9) (lv' := [(2, .ref 44), (0, .ref 0), (1, .int (nI x))]) (st' := [.int (nI x)]) (h' := HN g hl (RF rt)) rfl ?_
  by_cases hs9_0 : x = 0
  · refine Ev.topI (congrArg nI hs9_0) ?_
    refine Ev.run 5 (pc' := (if nI (g 12 2) = 0 then 54 else 59)) (lv' := [(2, .ref 44), (0, .ref 0), (1, .int (nI x))]) (st' := []) (h' := HN g hl (RF rt)) rfl ?_
    refine Ev.ite (fun hc51 => ?_) (fun hc51 => ?_)
    · have hc51 : (g 12 2) = 0 := (nI_eqU0 (by omega)).mp hc51
      refine Ev.run 2 (pc' := 63) (lv' := [(2, .ref 44), (0, .ref 0), (1, .int (nI x))]) (st' := [.int (nI 4294967291)]) (h' := HN g hl (RF rt)) rfl ?_
      refine Ev.ret (v := some (.int (nI 4294967291))) rfl ?_
      unfold rs_told at hq
      first
        | (rw [if_neg (by omega), if_pos (by omega), if_pos (by omega)] at hq; exact hq)
        | (rw [if_neg (by omega), if_pos (by omega), if_neg (by omega)] at hq; rw [h442]; exact hq)
        | (rw [if_neg (by omega), if_neg (by omega), if_pos (by omega), if_neg (by omega)] at hq; exact hq)
        | (rw [if_neg (by omega), if_neg (by omega), if_pos (by omega), if_pos (by omega)] at hq; rw [h443]; exact hq)
        | (rw [if_neg (by omega), if_neg (by omega), if_neg (by omega), if_pos (by omega)] at hq; rw [h451]; exact hq)
        | (rw [if_neg (by omega), if_neg (by omega), if_neg (by omega), if_neg (by omega), if_pos (by omega)] at hq; rw [hlw.1]; exact hq)
        | (rw [if_neg (by omega), if_neg (by omega), if_neg (by omega), if_neg (by omega), if_neg (by omega), if_pos (by omega)] at hq; rw [hlw.2]; exact hq)
        | (rw [if_neg (by omega), if_neg (by omega), if_neg (by omega), if_neg (by omega), if_neg (by omega), if_neg (by omega)] at hq; exact hq)
        | (rw [atE ⟨h451, hV.gm.rx.2.1⟩]; by_cases e : x - 10 < g 166 9
           · rw [if_pos e]; rw [if_pos (by omega)] at hq; exact hq
           · rw [if_neg e]; rw [if_neg (by omega), if_neg (by omega), if_neg (by omega), if_neg (by omega), if_neg (by omega), if_neg (by omega)] at hq; exact hq)
    · have hc51 : ¬ ((g 12 2) = 0) := fun z => hc51 ((nI_eqU0 (by omega)).mpr z)
      refine Ev.run 2 (pc' := 63) (lv' := [(2, .ref 44), (0, .ref 0), (1, .int (nI x))]) (st' := [.int (nI (g 44 2))]) (h' := HN g hl (RF rt)) rfl ?_
      refine Ev.ret (v := some (.int (nI (g 44 2)))) rfl ?_
      unfold rs_told at hq
      first
        | (rw [if_neg (by omega), if_pos (by omega), if_pos (by omega)] at hq; exact hq)
        | (rw [if_neg (by omega), if_pos (by omega), if_neg (by omega)] at hq; rw [h442]; exact hq)
        | (rw [if_neg (by omega), if_neg (by omega), if_pos (by omega), if_neg (by omega)] at hq; exact hq)
        | (rw [if_neg (by omega), if_neg (by omega), if_pos (by omega), if_pos (by omega)] at hq; rw [h443]; exact hq)
        | (rw [if_neg (by omega), if_neg (by omega), if_neg (by omega), if_pos (by omega)] at hq; rw [h451]; exact hq)
        | (rw [if_neg (by omega), if_neg (by omega), if_neg (by omega), if_neg (by omega), if_pos (by omega)] at hq; rw [hlw.1]; exact hq)
        | (rw [if_neg (by omega), if_neg (by omega), if_neg (by omega), if_neg (by omega), if_neg (by omega), if_pos (by omega)] at hq; rw [hlw.2]; exact hq)
        | (rw [if_neg (by omega), if_neg (by omega), if_neg (by omega), if_neg (by omega), if_neg (by omega), if_neg (by omega)] at hq; exact hq)
        | (rw [atE ⟨h451, hV.gm.rx.2.1⟩]; by_cases e : x - 10 < g 166 9
           · rw [if_pos e]; rw [if_pos (by omega)] at hq; exact hq
           · rw [if_neg e]; rw [if_neg (by omega), if_neg (by omega), if_neg (by omega), if_neg (by omega), if_neg (by omega), if_neg (by omega)] at hq; exact hq)
  by_cases hs9_1 : x = 1
  · refine Ev.topI (congrArg nI hs9_1) ?_
    refine Ev.run 4 (pc' := (if 0 ≤ nI (g 44 3) then 76 else 71)) (lv' := [(2, .ref 44), (0, .ref 0), (1, .int (nI x))]) (st' := []) (h' := HN g hl (RF rt)) rfl ?_
    refine Ev.ite (fun hc68 => ?_) (fun hc68 => ?_)
    · have hc68 : (g 44 3) < 2147483648 := (nI_geU0 (by omega)).mp hc68
      refine Ev.run 2 (pc' := 80) (lv' := [(2, .ref 44), (0, .ref 0), (1, .int (nI x))]) (st' := [.int (nI (g 44 3))]) (h' := HN g hl (RF rt)) rfl ?_
      refine Ev.ret (v := some (.int (nI (g 44 3)))) rfl ?_
      unfold rs_told at hq
      first
        | (rw [if_neg (by omega), if_pos (by omega), if_pos (by omega)] at hq; exact hq)
        | (rw [if_neg (by omega), if_pos (by omega), if_neg (by omega)] at hq; rw [h442]; exact hq)
        | (rw [if_neg (by omega), if_neg (by omega), if_pos (by omega), if_neg (by omega)] at hq; exact hq)
        | (rw [if_neg (by omega), if_neg (by omega), if_pos (by omega), if_pos (by omega)] at hq; rw [h443]; exact hq)
        | (rw [if_neg (by omega), if_neg (by omega), if_neg (by omega), if_pos (by omega)] at hq; rw [h451]; exact hq)
        | (rw [if_neg (by omega), if_neg (by omega), if_neg (by omega), if_neg (by omega), if_pos (by omega)] at hq; rw [hlw.1]; exact hq)
        | (rw [if_neg (by omega), if_neg (by omega), if_neg (by omega), if_neg (by omega), if_neg (by omega), if_pos (by omega)] at hq; rw [hlw.2]; exact hq)
        | (rw [if_neg (by omega), if_neg (by omega), if_neg (by omega), if_neg (by omega), if_neg (by omega), if_neg (by omega)] at hq; exact hq)
        | (rw [atE ⟨h451, hV.gm.rx.2.1⟩]; by_cases e : x - 10 < g 166 9
           · rw [if_pos e]; rw [if_pos (by omega)] at hq; exact hq
           · rw [if_neg e]; rw [if_neg (by omega), if_neg (by omega), if_neg (by omega), if_neg (by omega), if_neg (by omega), if_neg (by omega)] at hq; exact hq)
    · have hc68 : ¬ ((g 44 3) < 2147483648) := fun z => hc68 ((nI_geU0 (by omega)).mpr z)
      refine Ev.run 2 (pc' := 80) (lv' := [(2, .ref 44), (0, .ref 0), (1, .int (nI x))]) (st' := [.int (nI 4294967291)]) (h' := HN g hl (RF rt)) rfl ?_
      refine Ev.ret (v := some (.int (nI 4294967291))) rfl ?_
      unfold rs_told at hq
      first
        | (rw [if_neg (by omega), if_pos (by omega), if_pos (by omega)] at hq; exact hq)
        | (rw [if_neg (by omega), if_pos (by omega), if_neg (by omega)] at hq; rw [h442]; exact hq)
        | (rw [if_neg (by omega), if_neg (by omega), if_pos (by omega), if_neg (by omega)] at hq; exact hq)
        | (rw [if_neg (by omega), if_neg (by omega), if_pos (by omega), if_pos (by omega)] at hq; rw [h443]; exact hq)
        | (rw [if_neg (by omega), if_neg (by omega), if_neg (by omega), if_pos (by omega)] at hq; rw [h451]; exact hq)
        | (rw [if_neg (by omega), if_neg (by omega), if_neg (by omega), if_neg (by omega), if_pos (by omega)] at hq; rw [hlw.1]; exact hq)
        | (rw [if_neg (by omega), if_neg (by omega), if_neg (by omega), if_neg (by omega), if_neg (by omega), if_pos (by omega)] at hq; rw [hlw.2]; exact hq)
        | (rw [if_neg (by omega), if_neg (by omega), if_neg (by omega), if_neg (by omega), if_neg (by omega), if_neg (by omega)] at hq; exact hq)
        | (rw [atE ⟨h451, hV.gm.rx.2.1⟩]; by_cases e : x - 10 < g 166 9
           · rw [if_pos e]; rw [if_pos (by omega)] at hq; exact hq
           · rw [if_neg e]; rw [if_neg (by omega), if_neg (by omega), if_neg (by omega), if_neg (by omega), if_neg (by omega), if_neg (by omega)] at hq; exact hq)
  by_cases hs9_2 : x = 2
  · refine Ev.topI (congrArg nI hs9_2) ?_
    refine Ev.run 4 (pc' := 88) (lv' := [(2, .ref 44), (0, .ref 0), (1, .int (nI x))]) (st' := [.int (nI (g 45 1))]) (h' := HN g hl (RF rt)) rfl ?_
    refine Ev.ret (v := some (.int (nI (g 45 1)))) rfl ?_
    unfold rs_told at hq
    first
      | (rw [if_neg (by omega), if_pos (by omega), if_pos (by omega)] at hq; exact hq)
      | (rw [if_neg (by omega), if_pos (by omega), if_neg (by omega)] at hq; rw [h442]; exact hq)
      | (rw [if_neg (by omega), if_neg (by omega), if_pos (by omega), if_neg (by omega)] at hq; exact hq)
      | (rw [if_neg (by omega), if_neg (by omega), if_pos (by omega), if_pos (by omega)] at hq; rw [h443]; exact hq)
      | (rw [if_neg (by omega), if_neg (by omega), if_neg (by omega), if_pos (by omega)] at hq; rw [h451]; exact hq)
      | (rw [if_neg (by omega), if_neg (by omega), if_neg (by omega), if_neg (by omega), if_pos (by omega)] at hq; rw [hlw.1]; exact hq)
      | (rw [if_neg (by omega), if_neg (by omega), if_neg (by omega), if_neg (by omega), if_neg (by omega), if_pos (by omega)] at hq; rw [hlw.2]; exact hq)
      | (rw [if_neg (by omega), if_neg (by omega), if_neg (by omega), if_neg (by omega), if_neg (by omega), if_neg (by omega)] at hq; exact hq)
      | (rw [atE ⟨h451, hV.gm.rx.2.1⟩]; by_cases e : x - 10 < g 166 9
         · rw [if_pos e]; rw [if_pos (by omega)] at hq; exact hq
         · rw [if_neg e]; rw [if_neg (by omega), if_neg (by omega), if_neg (by omega), if_neg (by omega), if_neg (by omega), if_neg (by omega)] at hq; exact hq)
  by_cases hs9_3 : x = 3
  · refine Ev.topI (congrArg nI hs9_3) ?_
    refine Ev.run 4 (pc' := 96) (lv' := [(2, .ref 44), (0, .ref 0), (1, .int (nI x))]) (st' := [.ref rt.2.2.1]) (h' := HN g hl (RF rt)) rfl ?_
    refine Ev_gfI rfl rfl rfl (hV.th.kc hI.hTb).1 ?_
    refine Ev.ret (v := some (.int (nI (g rt.2.2.1 3)))) rfl ?_
    unfold rs_told at hq
    first
      | (rw [if_neg (by omega), if_pos (by omega), if_pos (by omega)] at hq; exact hq)
      | (rw [if_neg (by omega), if_pos (by omega), if_neg (by omega)] at hq; rw [h442]; exact hq)
      | (rw [if_neg (by omega), if_neg (by omega), if_pos (by omega), if_neg (by omega)] at hq; exact hq)
      | (rw [if_neg (by omega), if_neg (by omega), if_pos (by omega), if_pos (by omega)] at hq; rw [h443]; exact hq)
      | (rw [if_neg (by omega), if_neg (by omega), if_neg (by omega), if_pos (by omega)] at hq; rw [h451]; exact hq)
      | (rw [if_neg (by omega), if_neg (by omega), if_neg (by omega), if_neg (by omega), if_pos (by omega)] at hq; rw [hlw.1]; exact hq)
      | (rw [if_neg (by omega), if_neg (by omega), if_neg (by omega), if_neg (by omega), if_neg (by omega), if_pos (by omega)] at hq; rw [hlw.2]; exact hq)
      | (rw [if_neg (by omega), if_neg (by omega), if_neg (by omega), if_neg (by omega), if_neg (by omega), if_neg (by omega)] at hq; exact hq)
      | (rw [atE ⟨h451, hV.gm.rx.2.1⟩]; by_cases e : x - 10 < g 166 9
         · rw [if_pos e]; rw [if_pos (by omega)] at hq; exact hq
         · rw [if_neg e]; rw [if_neg (by omega), if_neg (by omega), if_neg (by omega), if_neg (by omega), if_neg (by omega), if_neg (by omega)] at hq; exact hq)
  by_cases hs9_4 : x = 4
  · refine Ev.topI (congrArg nI hs9_4) ?_
    refine Ev.run 4 (pc' := 107) (lv' := [(2, .ref 44), (0, .ref 0), (1, .int (nI x))]) (st' := [.ref rt.2.2.1]) (h' := HN g hl (RF rt)) rfl ?_
    refine Ev_gfI rfl rfl rfl (hV.th.kc hI.hTb).1 ?_
    refine Ev.ret (v := some (.int (nI (g rt.2.2.1 4)))) rfl ?_
    unfold rs_told at hq
    first
      | (rw [if_neg (by omega), if_pos (by omega), if_pos (by omega)] at hq; exact hq)
      | (rw [if_neg (by omega), if_pos (by omega), if_neg (by omega)] at hq; rw [h442]; exact hq)
      | (rw [if_neg (by omega), if_neg (by omega), if_pos (by omega), if_neg (by omega)] at hq; exact hq)
      | (rw [if_neg (by omega), if_neg (by omega), if_pos (by omega), if_pos (by omega)] at hq; rw [h443]; exact hq)
      | (rw [if_neg (by omega), if_neg (by omega), if_neg (by omega), if_pos (by omega)] at hq; rw [h451]; exact hq)
      | (rw [if_neg (by omega), if_neg (by omega), if_neg (by omega), if_neg (by omega), if_pos (by omega)] at hq; rw [hlw.1]; exact hq)
      | (rw [if_neg (by omega), if_neg (by omega), if_neg (by omega), if_neg (by omega), if_neg (by omega), if_pos (by omega)] at hq; rw [hlw.2]; exact hq)
      | (rw [if_neg (by omega), if_neg (by omega), if_neg (by omega), if_neg (by omega), if_neg (by omega), if_neg (by omega)] at hq; exact hq)
      | (rw [atE ⟨h451, hV.gm.rx.2.1⟩]; by_cases e : x - 10 < g 166 9
         · rw [if_pos e]; rw [if_pos (by omega)] at hq; exact hq
         · rw [if_neg e]; rw [if_neg (by omega), if_neg (by omega), if_neg (by omega), if_neg (by omega), if_neg (by omega), if_neg (by omega)] at hq; exact hq)
  refine Ev_tsOut (tgt := 111) rfl (sw_out (x := x) (hi := 4) (by omega) (by omega) (by omega)) rfl ?_
  refine Ev.run 3 (pc' := (if nI 10 ≤ nI x then 121 else 117)) (lv' := [(2, .ref 44), (0, .ref 0), (1, .int (nI x))]) (st' := []) (h' := HN g hl (RF rt)) rfl ?_
  refine Ev.ite (fun hc114 => ?_) (fun hc114 => ?_)
  · have hc114 : 10 ≤ x ∧ x < 2147483648 := (nI_geK (by decide) (by omega)).mp hc114
    refine Ev.run 5 (pc' := 129) (lv' := [(2, .ref 44), (0, .ref 0), (1, .int (nI x))]) (st' := [.int (nI x - nI 10), .ref 45]) (h' := HN g hl (RF rt)) rfl ?_
    refine Ev.topI (pk_sub (a := x) (b := 10) (by omega)) ?_
    refine Ev.call (a := 44) (as := [.ref 45, .int (nI (x - 10))]) (rest := []) (lv0 := [(0, .ref 45), (1, .int (nI (x - 10)))]) (Q1 := (fun z0 h' => z0 = some (.int (nI (atLn g 45 (x - 10)))) ∧ h' = HN g hl (RF rt))) rfl rfl (K_at _ _ _ _ 45 12 (ln45 rt) (x - 10) (by omega) (by omega) ⟨rfl, rfl⟩) (fun r h' hr => ?_)
    obtain ⟨rfl, rfl⟩ := hr
    refine Ev.ret (v := some (.int (nI (atLn g 45 (x - 10))))) rfl ?_
    unfold rs_told at hq
    first
      | (rw [if_neg (by omega), if_pos (by omega), if_pos (by omega)] at hq; exact hq)
      | (rw [if_neg (by omega), if_pos (by omega), if_neg (by omega)] at hq; rw [h442]; exact hq)
      | (rw [if_neg (by omega), if_neg (by omega), if_pos (by omega), if_neg (by omega)] at hq; exact hq)
      | (rw [if_neg (by omega), if_neg (by omega), if_pos (by omega), if_pos (by omega)] at hq; rw [h443]; exact hq)
      | (rw [if_neg (by omega), if_neg (by omega), if_neg (by omega), if_pos (by omega)] at hq; rw [h451]; exact hq)
      | (rw [if_neg (by omega), if_neg (by omega), if_neg (by omega), if_neg (by omega), if_pos (by omega)] at hq; rw [hlw.1]; exact hq)
      | (rw [if_neg (by omega), if_neg (by omega), if_neg (by omega), if_neg (by omega), if_neg (by omega), if_pos (by omega)] at hq; rw [hlw.2]; exact hq)
      | (rw [if_neg (by omega), if_neg (by omega), if_neg (by omega), if_neg (by omega), if_neg (by omega), if_neg (by omega)] at hq; exact hq)
      | (rw [atE ⟨h451, hV.gm.rx.2.1⟩]; by_cases e : x - 10 < g 166 9
         · rw [if_pos e]; rw [if_pos (by omega)] at hq; exact hq
         · rw [if_neg e]; rw [if_neg (by omega), if_neg (by omega), if_neg (by omega), if_neg (by omega), if_neg (by omega), if_neg (by omega)] at hq; exact hq)
  · have hc114 : ¬ (10 ≤ x ∧ x < 2147483648) := fun z => hc114 ((nI_geK (by decide) (by omega)).mpr z)
    refine Ev.run 2 (pc' := 132) (lv' := [(2, .ref 44), (0, .ref 0), (1, .int (nI x))]) (st' := [.int (nI 4294967295)]) (h' := HN g hl (RF rt)) rfl ?_
    refine Ev.ret (v := some (.int (nI 4294967295))) rfl ?_
    unfold rs_told at hq
    first
      | (rw [if_neg (by omega), if_pos (by omega), if_pos (by omega)] at hq; exact hq)
      | (rw [if_neg (by omega), if_pos (by omega), if_neg (by omega)] at hq; rw [h442]; exact hq)
      | (rw [if_neg (by omega), if_neg (by omega), if_pos (by omega), if_neg (by omega)] at hq; exact hq)
      | (rw [if_neg (by omega), if_neg (by omega), if_pos (by omega), if_pos (by omega)] at hq; rw [h443]; exact hq)
      | (rw [if_neg (by omega), if_neg (by omega), if_neg (by omega), if_pos (by omega)] at hq; rw [h451]; exact hq)
      | (rw [if_neg (by omega), if_neg (by omega), if_neg (by omega), if_neg (by omega), if_pos (by omega)] at hq; rw [hlw.1]; exact hq)
      | (rw [if_neg (by omega), if_neg (by omega), if_neg (by omega), if_neg (by omega), if_neg (by omega), if_pos (by omega)] at hq; rw [hlw.2]; exact hq)
      | (rw [if_neg (by omega), if_neg (by omega), if_neg (by omega), if_neg (by omega), if_neg (by omega), if_neg (by omega)] at hq; exact hq)
      | (rw [atE ⟨h451, hV.gm.rx.2.1⟩]; by_cases e : x - 10 < g 166 9
         · rw [if_pos e]; rw [if_pos (by omega)] at hq; exact hq
         · rw [if_neg e]; rw [if_neg (by omega), if_neg (by omega), if_neg (by omega), if_neg (by omega), if_neg (by omega), if_neg (by omega)] at hq; exact hq)
theorem K_trace {L : Nat} {xs : Nat → Int32} (d : Nat) (g : Nat → Nat → Nat) (hl : Nat → Nat → Int64) (rt : Nat × Nat × Nat × Nat) (hV : Inv g hl rt) (x : Nat) (hx : x < 2 ^ 32) {Q : Po} (hq : Q (some (.int (nI (rs_trace g x)))) (HN g hl (RF rt))) : Ev L xs (d + 1) 108 0 [(0, .ref 0), (1, .int (nI x))] [] (HN g hl (RF rt)) Q := by
  have hI := hV.mi
  have hW := hI.hW
  have hS := hI.hS
  have hPl := hI.hPl
  have hNx := hI.hNx
  have hLa := hI.hLa
  have hLo := hI.hLo
  have hTb := hI.hTb
  have hTh := hI.hTh
  have hFd := hI.hFd
  have hSn := hI.hSn
  have hSh := hI.hSh
  have hRan := hI.hRan
  have hLr := hI.hLr
  have hLt := hI.hLt
  have hgl := hI.hgl
  have hsz := hI.hsz
  have hcm := hI.hcm
  have hsl := hI.hsl
  have hkd := hI.hkd
  have hvv := hI.hvv
  have hli := hI.hli
  have hro := hI.hro
  have hrw := hI.hrw
  have htx := hI.htx
  have hsw := hI.hsw
  have hsx := hI.hsx
  have hsy := hI.hsy
  have hsh := hI.hsh
  have hle := hI.hle
  have hcl := hI.hcl
  have hwd := hI.hwd
  have hnu := hI.hnu
  have hwn := hI.hwn
  have hs1 := hI.hs1
  have hso := hI.hso
  have hB := hV.gm.cb
  have hB0 := hB.1
  have hPs := hV.gm.cs
  have hsp1 := hV.sp.1
  have htx1 := hV.tx.1
  have h451 := hV.gm.rx.1
  have h442 := hV.gm.rx.2.2.2.1
  have h443 := hV.gm.rx.2.2.2.2
  have h481 := hV.gm.l48.1
  have h501 := hV.gm.l50.1
  have h521 := hV.gm.l52.1
  have h541 := hV.gm.l54.1
  have h04 := hV.tb.1
  have hac1 := hV.ac.1
  have hac2 := hV.ac.2.1
  have hPl0 := hV.gm.cp
  have hac3 : g 133 1 ≤ 20 ∧ g 133 1 ≤ g 166 71 ∧ (g 133 1 = g 166 71 ∨ g 133 1 = 20) := by rw [hac2]; split <;> omega
  refine Ev.run 4 (pc' := 8) (lv' := [(0, .ref 0), (1, .int (nI x))]) (st' := [.int (nI x), .ref 133]) (h' := HN g hl (RF rt)) rfl ?_
  refine Ev.call (a := 44) (as := [.ref 133, .int (nI x)]) (rest := []) (lv0 := [(0, .ref 133), (1, .int (nI x))]) (Q1 := (fun z0 h' => z0 = some (.int (nI (atLn g 133 x))) ∧ h' = HN g hl (RF rt))) rfl rfl (K_at _ _ _ _ 133 20 (ln133 rt) x (by omega) (by omega) ⟨rfl, rfl⟩) (fun r h' hr => ?_)
  obtain ⟨rfl, rfl⟩ := hr
  refine Ev.ret (v := some (.int (nI (atLn g 133 x)))) rfl ?_
  unfold rs_trace at hq
  unfold atLn
  by_cases e : x < g 133 1
  · rw [if_pos e, hV.ac.2.2 x (by omega) (by omega)]; rw [if_pos (by omega), if_neg (by omega)] at hq; exact hq
  · rw [if_neg e]
    by_cases e2 : x ≤ 19
    · rw [if_pos e2, if_pos (by omega)] at hq; exact hq
    · rw [if_neg e2] at hq; exact hq
theorem K_count {L : Nat} {xs : Nat → Int32} (d : Nat) (g : Nat → Nat → Nat) (hl : Nat → Nat → Int64) (rt : Nat × Nat × Nat × Nat) (hV : Inv g hl rt) (x : Nat) (hx : x < 2 ^ 32) {Q : Po} (hq : Q (some (.int (nI (rs_count g x)))) (HN g hl (RF rt))) : Ev L xs d 110 0 [(0, .ref 0), (1, .int (nI x))] [] (HN g hl (RF rt)) Q := by
  have hI := hV.mi
  have hW := hI.hW
  have hS := hI.hS
  have hPl := hI.hPl
  have hNx := hI.hNx
  have hLa := hI.hLa
  have hLo := hI.hLo
  have hTb := hI.hTb
  have hTh := hI.hTh
  have hFd := hI.hFd
  have hSn := hI.hSn
  have hSh := hI.hSh
  have hRan := hI.hRan
  have hLr := hI.hLr
  have hLt := hI.hLt
  have hgl := hI.hgl
  have hsz := hI.hsz
  have hcm := hI.hcm
  have hsl := hI.hsl
  have hkd := hI.hkd
  have hvv := hI.hvv
  have hli := hI.hli
  have hro := hI.hro
  have hrw := hI.hrw
  have htx := hI.htx
  have hsw := hI.hsw
  have hsx := hI.hsx
  have hsy := hI.hsy
  have hsh := hI.hsh
  have hle := hI.hle
  have hcl := hI.hcl
  have hwd := hI.hwd
  have hnu := hI.hnu
  have hwn := hI.hwn
  have hs1 := hI.hs1
  have hso := hI.hso
  have hB := hV.gm.cb
  have hB0 := hB.1
  have hPs := hV.gm.cs
  have hsp1 := hV.sp.1
  have htx1 := hV.tx.1
  have h451 := hV.gm.rx.1
  have h442 := hV.gm.rx.2.2.2.1
  have h443 := hV.gm.rx.2.2.2.2
  have h481 := hV.gm.l48.1
  have h501 := hV.gm.l50.1
  have h521 := hV.gm.l52.1
  have h541 := hV.gm.l54.1
  have h04 := hV.tb.1
  have hac1 := hV.ac.1
  have hac2 := hV.ac.2.1
  have hPl0 := hV.gm.cp
  refine Ev.run 1 (pc' := 1) (lv' := [(0, .ref 0), (1, .int (nI x))]) (st' := [.int (nI x)]) (h' := HN g hl (RF rt)) rfl ?_
  by_cases hs1_0 : x = 0
  · refine Ev.topI (congrArg nI hs1_0) ?_
    refine Ev.run 4 (pc' := 55) (lv' := [(0, .ref 0), (1, .int (nI x))]) (st' := [.int (nI (g 12 2))]) (h' := HN g hl (RF rt)) rfl ?_
    refine Ev.ret (v := some (.int (nI (g 12 2)))) rfl ?_
    simp only [rs_count, if_pos hs1_0] at hq
    first | (rw [hPs]; exact hq) | (rw [hB0]; exact hq) | (rw [h04]; exact hq) | (rw [h481]; exact hq) | (rw [h541]; exact hq) | (rw [htx1]; exact hq) | (rw [hsp1]; exact hq) | (rw [hac1]; exact hq) | exact hq
  by_cases hs1_1 : x = 1
  · refine Ev.topI (congrArg nI hs1_1) ?_
    refine Ev.run 5 (pc' := 66) (lv' := [(0, .ref 0), (1, .int (nI x))]) (st' := [.int (nI (g 13 5))]) (h' := HN g hl (RF rt)) rfl ?_
    refine Ev.ret (v := some (.int (nI (g 13 5)))) rfl ?_
    simp only [rs_count, if_neg hs1_0, if_pos hs1_1] at hq
    first | (rw [hPs]; exact hq) | (rw [hB0]; exact hq) | (rw [h04]; exact hq) | (rw [h481]; exact hq) | (rw [h541]; exact hq) | (rw [htx1]; exact hq) | (rw [hsp1]; exact hq) | (rw [hac1]; exact hq) | exact hq
  by_cases hs1_2 : x = 2
  · refine Ev.topI (congrArg nI hs1_2) ?_
    refine Ev.run 3 (pc' := 71) (lv' := [(0, .ref 0), (1, .int (nI x))]) (st' := [.int (nI (g 0 4))]) (h' := HN g hl (RF rt)) rfl ?_
    refine Ev.ret (v := some (.int (nI (g 0 4)))) rfl ?_
    simp only [rs_count, if_neg hs1_0, if_neg hs1_1, if_pos hs1_2] at hq
    first | (rw [hPs]; exact hq) | (rw [hB0]; exact hq) | (rw [h04]; exact hq) | (rw [h481]; exact hq) | (rw [h541]; exact hq) | (rw [htx1]; exact hq) | (rw [hsp1]; exact hq) | (rw [hac1]; exact hq) | exact hq
  by_cases hs1_3 : x = 3
  · refine Ev.topI (congrArg nI hs1_3) ?_
    refine Ev.run 5 (pc' := 82) (lv' := [(0, .ref 0), (1, .int (nI x))]) (st' := [.int (nI (g 48 1))]) (h' := HN g hl (RF rt)) rfl ?_
    refine Ev.ret (v := some (.int (nI (g 48 1)))) rfl ?_
    simp only [rs_count, if_neg hs1_0, if_neg hs1_1, if_neg hs1_2, if_pos hs1_3] at hq
    first | (rw [hPs]; exact hq) | (rw [hB0]; exact hq) | (rw [h04]; exact hq) | (rw [h481]; exact hq) | (rw [h541]; exact hq) | (rw [htx1]; exact hq) | (rw [hsp1]; exact hq) | (rw [hac1]; exact hq) | exact hq
  by_cases hs1_4 : x = 4
  · refine Ev.topI (congrArg nI hs1_4) ?_
    refine Ev.run 5 (pc' := 93) (lv' := [(0, .ref 0), (1, .int (nI x))]) (st' := [.int (nI (g 54 1))]) (h' := HN g hl (RF rt)) rfl ?_
    refine Ev.ret (v := some (.int (nI (g 54 1)))) rfl ?_
    simp only [rs_count, if_neg hs1_0, if_neg hs1_1, if_neg hs1_2, if_neg hs1_3, if_pos hs1_4] at hq
    first | (rw [hPs]; exact hq) | (rw [hB0]; exact hq) | (rw [h04]; exact hq) | (rw [h481]; exact hq) | (rw [h541]; exact hq) | (rw [htx1]; exact hq) | (rw [hsp1]; exact hq) | (rw [hac1]; exact hq) | exact hq
  by_cases hs1_5 : x = 5
  · refine Ev.topI (congrArg nI hs1_5) ?_
    refine Ev.run 4 (pc' := 101) (lv' := [(0, .ref 0), (1, .int (nI x))]) (st' := [.int (nI (g 3 1))]) (h' := HN g hl (RF rt)) rfl ?_
    refine Ev.ret (v := some (.int (nI (g 3 1)))) rfl ?_
    simp only [rs_count, if_neg hs1_0, if_neg hs1_1, if_neg hs1_2, if_neg hs1_3, if_neg hs1_4, if_pos hs1_5] at hq
    first | (rw [hPs]; exact hq) | (rw [hB0]; exact hq) | (rw [h04]; exact hq) | (rw [h481]; exact hq) | (rw [h541]; exact hq) | (rw [htx1]; exact hq) | (rw [hsp1]; exact hq) | (rw [hac1]; exact hq) | exact hq
  by_cases hs1_6 : x = 6
  · refine Ev.topI (congrArg nI hs1_6) ?_
    refine Ev.run 4 (pc' := 109) (lv' := [(0, .ref 0), (1, .int (nI x))]) (st' := [.int (nI (g 1 1))]) (h' := HN g hl (RF rt)) rfl ?_
    refine Ev.ret (v := some (.int (nI (g 1 1)))) rfl ?_
    simp only [rs_count, if_neg hs1_0, if_neg hs1_1, if_neg hs1_2, if_neg hs1_3, if_neg hs1_4, if_neg hs1_5, if_pos hs1_6] at hq
    first | (rw [hPs]; exact hq) | (rw [hB0]; exact hq) | (rw [h04]; exact hq) | (rw [h481]; exact hq) | (rw [h541]; exact hq) | (rw [htx1]; exact hq) | (rw [hsp1]; exact hq) | (rw [hac1]; exact hq) | exact hq
  by_cases hs1_7 : x = 7
  · refine Ev.topI (congrArg nI hs1_7) ?_
    refine Ev.run 4 (pc' := 117) (lv' := [(0, .ref 0), (1, .int (nI x))]) (st' := [.int (nI (g 132 1))]) (h' := HN g hl (RF rt)) rfl ?_
    refine Ev.ret (v := some (.int (nI (g 132 1)))) rfl ?_
    simp only [rs_count, if_neg hs1_0, if_neg hs1_1, if_neg hs1_2, if_neg hs1_3, if_neg hs1_4, if_neg hs1_5, if_neg hs1_6, if_pos hs1_7] at hq
    first | (rw [hPs]; exact hq) | (rw [hB0]; exact hq) | (rw [h04]; exact hq) | (rw [h481]; exact hq) | (rw [h541]; exact hq) | (rw [htx1]; exact hq) | (rw [hsp1]; exact hq) | (rw [hac1]; exact hq) | exact hq
  refine Ev_tsOut (tgt := 118) rfl (sw_out (x := x) (hi := 7) (by omega) (by omega) (by omega)) rfl ?_
  refine Ev.run 1 (pc' := 120) (lv' := [(0, .ref 0), (1, .int (nI x))]) (st' := [.int (nI 4294967294)]) (h' := HN g hl (RF rt)) rfl ?_
  refine Ev.ret (v := some (.int (nI 4294967294))) rfl ?_
  simp only [rs_count, if_neg hs1_0, if_neg hs1_1, if_neg hs1_2, if_neg hs1_3, if_neg hs1_4, if_neg hs1_5, if_neg hs1_6, if_neg hs1_7] at hq
  first | (rw [hPs]; exact hq) | (rw [hB0]; exact hq) | (rw [h04]; exact hq) | (rw [h481]; exact hq) | (rw [h541]; exact hq) | (rw [htx1]; exact hq) | (rw [hsp1]; exact hq) | (rw [hac1]; exact hq) | exact hq
