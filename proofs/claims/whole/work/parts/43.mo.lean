/-! the reference: items of tapes, judging -/
def nrL (s : Nat) (z : Int64) : Int64 := if s = 0 then (z.toInt32.toInt8.toInt32).toInt64 else if s = 1 then (z.toInt32.toInt16.toInt32).toInt64 else if s = 2 then (z.toInt32).toInt64 else if s = 4 then (if z = Int64.ofNat 0 then Int64.ofNat 0 else Int64.ofNat 1) else z
theorem nI_leS0 {a : Nat} (ha : a < 2 ^ 32) : nI a ≤ 0 ↔ (2147483648 ≤ a ∨ a = 0) := by
  rw [Int32.le_iff_toInt_le, nI_tI ha, Int32.toInt_zero]
  split <;> omega
theorem nI_gtS {i l n : Nat} (hi : i < 2 ^ 31) (hl : l ≤ 1000) (hn : n < 2 ^ 31) : nI l - nI n < nI i ↔ l < i + n := by
  rw [Int32.lt_iff_toInt_lt, nI_toInt hi, Int32.toInt_sub, nI_toInt (by omega : l < 2 ^ 31), nI_toInt hn]
  by_cases h : n ≤ l
  · rw [Int.bmod_eq_of_le (by omega) (by omega)]; omega
  · rw [Int.bmod_eq_of_le (by omega) (by omega)]; omega
theorem nI_geS {i l n : Nat} (hi : i < 2 ^ 31) (hl : l ≤ 1000) (hn : n < 2 ^ 31) : nI i ≤ nI l - nI n ↔ i + n ≤ l := by
  rw [Int32.le_iff_toInt_le, nI_toInt hi, Int32.toInt_sub, nI_toInt (by omega : l < 2 ^ 31), nI_toInt hn]
  by_cases h : n ≤ l
  · rw [Int.bmod_eq_of_le (by omega) (by omega)]; omega
  · rw [Int.bmod_eq_of_le (by omega) (by omega)]; omega
theorem nI_subsub {l k : Nat} : nI l - nI k - nI 1 = nI l - nI (k + 1) := by
  rw [Int32.sub_sub, nI_add]
def rs_item (g : Nat → Nat → Nat) (t i : Nat) : Nat := if t ≤ 5 then (if g 206 t < 2147483648 then (if i < g 207 t then 1 else 4294967283) else 4294967285) else 4294967295
noncomputable def hs_item (g : Nat → Nat → Nat) (hl : Nat → Nat → Int64) (t i : Nat) (z : Int64) : Nat → Nat → Int64 := if dc (t ≤ 5 ∧ g 206 t < 2147483648 ∧ i < g 207 t) = true then u2 hl 208 (60 * t + i) (nrL (g 206 t) z) else hl
def rs_read (g : Nat → Nat → Nat) (hl : Nat → Nat → Int64) (t i : Nat) : Int64 := if t ≤ 5 then (if g 206 t < 2147483648 then (if i < g 207 t then hl 208 (60 * t + i) else Int64.ofNat 9223372036854775808) else Int64.ofNat 9223372036854775808) else Int64.ofNat 9223372036854775808
theorem C_narrow {L : Nat} {xs : Nat → Int32} (d : Nat) (g : Nat → Nat → Nat) (hl : Nat → Nat → Int64) (rt : Nat × Nat × Nat × Nat) (s : Nat) (hs : s ≤ 4) (z : Int64) {Q : Po} (hq : Q (some (.long (nrL s z))) (HN g hl (RF rt))) : Ev L xs d 237 0 [(0, .ref 166), (1, .int (nI s)), (2, .long (z))] [] (HN g hl (RF rt)) Q := by
  refine Ev.run 2 (pc' := (if nI s = 0 then 4 else 11)) (lv' := [(0, .ref 166), (1, .int (nI s)), (2, .long (z))]) (st' := []) (h' := HN g hl (RF rt)) rfl ?_
  refine Ev.ite (fun hc1 => ?_) (fun hc1 => ?_)
  · have hc1 : s = 0 := (nI_eqU0 (by omega)).mp hc1
    refine Ev.run 5 (pc' := 54) (lv' := [(0, .ref 166), (1, .int (nI s)), (2, .long (z))]) (st' := [.long (z.toInt32.toInt8.toInt32.toInt64)]) (h' := HN g hl (RF rt)) rfl ?_
    refine Ev.ret (v := some (.long (z.toInt32.toInt8.toInt32.toInt64))) rfl ?_
    unfold nrL at hq
    first | (simp only [if_pos hc1] at hq; exact hq) | (rw [if_pos hc1] at hq; exact hq)
  · have hc1 : ¬ (s = 0) := fun z => hc1 ((nI_eqU0 (by omega)).mpr z)
    refine Ev.run 3 (pc' := (if nI s = nI 1 then 16 else 23)) (lv' := [(0, .ref 166), (1, .int (nI s)), (2, .long (z))]) (st' := []) (h' := HN g hl (RF rt)) rfl ?_
    refine Ev.ite (fun hc13 => ?_) (fun hc13 => ?_)
    · have hc13 : s = 1 := (nI_eqU (by omega) (by omega)).mp hc13
      refine Ev.run 5 (pc' := 54) (lv' := [(0, .ref 166), (1, .int (nI s)), (2, .long (z))]) (st' := [.long (z.toInt32.toInt16.toInt32.toInt64)]) (h' := HN g hl (RF rt)) rfl ?_
      refine Ev.ret (v := some (.long (z.toInt32.toInt16.toInt32.toInt64))) rfl ?_
      unfold nrL at hq
      first | (simp only [if_neg hc1, if_pos hc13] at hq; exact hq) | (rw [if_neg hc1, if_pos hc13] at hq; exact hq)
    · have hc13 : ¬ (s = 1) := fun z => hc13 ((nI_eqU (by omega) (by omega)).mpr z)
      refine Ev.run 3 (pc' := (if nI s = nI 2 then 28 else 34)) (lv' := [(0, .ref 166), (1, .int (nI s)), (2, .long (z))]) (st' := []) (h' := HN g hl (RF rt)) rfl ?_
      refine Ev.ite (fun hc25 => ?_) (fun hc25 => ?_)
      · have hc25 : s = 2 := (nI_eqU (by omega) (by omega)).mp hc25
        refine Ev.run 4 (pc' := 54) (lv' := [(0, .ref 166), (1, .int (nI s)), (2, .long (z))]) (st' := [.long (z.toInt32.toInt64)]) (h' := HN g hl (RF rt)) rfl ?_
        refine Ev.ret (v := some (.long (z.toInt32.toInt64))) rfl ?_
        unfold nrL at hq
        first | (simp only [if_neg hc1, if_neg hc13, if_pos hc25] at hq; exact hq) | (rw [if_neg hc1, if_neg hc13, if_pos hc25] at hq; exact hq)
      · have hc25 : ¬ (s = 2) := fun z => hc25 ((nI_eqU (by omega) (by omega)).mpr z)
        refine Ev.run 3 (pc' := (if nI s = nI 4 then 39 else 53)) (lv' := [(0, .ref 166), (1, .int (nI s)), (2, .long (z))]) (st' := []) (h' := HN g hl (RF rt)) rfl ?_
        refine Ev.ite (fun hc36 => ?_) (fun hc36 => ?_)
        · have hc36 : s = 4 := (nI_eqU (by omega) (by omega)).mp hc36
          refine Ev.run 4 (pc' := (if (lg_cmp z 0) = 0 then 49 else 45)) (lv' := [(0, .ref 166), (1, .int (nI s)), (2, .long (z))]) (st' := []) (h' := HN g hl (RF rt)) rfl ?_
          refine Ev.ite (fun hc42 => ?_) (fun hc42 => ?_)
          · have hc42 : z = Int64.ofNat 0 := (lg_cmp_eq _ _).mp hc42
            refine Ev.run 2 (pc' := 54) (lv' := [(0, .ref 166), (1, .int (nI s)), (2, .long (z))]) (st' := [.long (0)]) (h' := HN g hl (RF rt)) rfl ?_
            refine Ev.ret (v := some (.long (0))) rfl ?_
            unfold nrL at hq
            first | (simp only [if_neg hc1, if_neg hc13, if_neg hc25, if_pos hc36, if_pos hc42] at hq; exact hq) | (rw [if_neg hc1, if_neg hc13, if_neg hc25, if_pos hc36, if_pos hc42] at hq; exact hq)
          · have hc42 : ¬ (z = Int64.ofNat 0) := fun z => hc42 ((lg_cmp_eq _ _).mpr z)
            refine Ev.run 2 (pc' := 54) (lv' := [(0, .ref 166), (1, .int (nI s)), (2, .long (z))]) (st' := [.long (1)]) (h' := HN g hl (RF rt)) rfl ?_
            refine Ev.ret (v := some (.long (1))) rfl ?_
            unfold nrL at hq
            first | (simp only [if_neg hc1, if_neg hc13, if_neg hc25, if_pos hc36, if_neg hc42] at hq; exact hq) | (rw [if_neg hc1, if_neg hc13, if_neg hc25, if_pos hc36, if_neg hc42] at hq; exact hq)
        · have hc36 : ¬ (s = 4) := fun z => hc36 ((nI_eqU (by omega) (by omega)).mpr z)
          refine Ev.run 1 (pc' := 54) (lv' := [(0, .ref 166), (1, .int (nI s)), (2, .long (z))]) (st' := [.long (z)]) (h' := HN g hl (RF rt)) rfl ?_
          refine Ev.ret (v := some (.long (z))) rfl ?_
          unfold nrL at hq
          first | (simp only [if_neg hc1, if_neg hc13, if_neg hc25, if_neg hc36] at hq; exact hq) | (rw [if_neg hc1, if_neg hc13, if_neg hc25, if_neg hc36] at hq; exact hq)
theorem C_item {L : Nat} {xs : Nat → Int32} (d : Nat) (g : Nat → Nat → Nat) (hl : Nat → Nat → Int64) (rt : Nat × Nat × Nat × Nat) (hI : MI g) (t : Nat) (i : Nat) (ht : t < 2 ^ 32) (hi : i < 2 ^ 32) (z : Int64) (r w v : Nat → Nat) (hs : SmH g r v)  {Q : Po} (hq : Q (some (.int (nI (rs_item g t i)))) (HN (U g r w v) (hs_item g hl t i z) (RF rt))) : Ev L xs (d + 2) 238 0 [(0, .ref 166), (1, .int (nI t)), (2, .int (nI i)), (3, .long (z))] [] (HN (U g r w v) hl (RF rt)) Q := by
  have hW := hI.hW
  have hS := hI.hS
  have hPl := hI.hPl
  have hNx := hI.hNx
  have hLa := hI.hLa
  have hLo := hI.hLo
  have hTb := hI.hTb
  have hTh := hI.hTh
  have hFd := hI.hFd
  have hSn := hI.hSn
  have hSh := hI.hSh
  have hRan := hI.hRan
  have hLr := hI.hLr
  have hLt := hI.hLt
  have hgl := hI.hgl
  have hsz := hI.hsz
  have hcm := hI.hcm
  have hsl := hI.hsl
  have hkd := hI.hkd
  have hvv := hI.hvv
  have hli := hI.hli
  have hro := hI.hro
  have hrw := hI.hrw
  have htx := hI.htx
  have hsw := hI.hsw
  have hsx := hI.hsx
  have hsy := hI.hsy
  have hsh := hI.hsh
  have hle := hI.hle
  have hcl := hI.hcl
  have hwd := hI.hwd
  have hnu := hI.hnu
  have hwn := hI.hwn
  have hs1 := hI.hs1
  have hso := hI.hso
  refine Ev.run 2 (pc' := 2) (lv' := [(0, .ref 166), (1, .int (nI t)), (2, .int (nI i)), (3, .long (z))]) (st' := [.int (nI t), .ref 166]) (h' := HN (U g r w v) hl (RF rt)) rfl ?_
  refine Ev.call (a := 235) (as := [.ref 166, .int (nI t)]) (rest := []) (lv0 := [(0, .ref 166), (1, .int (nI t))]) (Q1 := (fun z0 h' => z0 = some (.int (nI (bn (decide (t ≤ 5))))) ∧ h' = HN (U g r w v) hl (RF rt))) rfl rfl (C_isTape _ _ _ _ t (by omega) ⟨rfl, rfl⟩) (fun r h' hr => ?_)
  obtain ⟨rfl, rfl⟩ := hr
  refine Ev_bn (fun hb5 => ?_) (fun hb5 => ?_)
  · have hhb5 : t ≤ 5 := of_decide_eq_true hb5
    refine Ev.run 1 (pc' := 10) (lv' := [(0, .ref 166), (1, .int (nI t)), (2, .int (nI i)), (3, .long (z))]) (st' := []) (h' := HN (U g r w v) hl (RF rt)) rfl ?_
    have hsot : g 206 t ≤ 4 ∨ g 206 t = 4294967295 := hso t (by omega)
    have hlet := hle t (by omega)
    refine Ev.run 3 (pc' := 15) (lv' := [(0, .ref 166), (1, .int (nI t)), (2, .int (nI i)), (3, .long (z))]) (st' := [.int (nI t), .ref 206]) (h' := HN (U g r w v) hl (RF rt)) rfl ?_
    refine Ev_iald rfl rfl (show t < 6 by omega) (Nat.le_of_ble_eq_true rfl) ?_
    refine Ev.run 1 (pc' := (if 0 ≤ nI (g 206 t) then 22 else 19)) (lv' := [(0, .ref 166), (1, .int (nI t)), (2, .int (nI i)), (3, .long (z))]) (st' := []) (h' := HN (U g r w v) hl (RF rt)) rfl ?_
    refine Ev.ite (fun hc16 => ?_) (fun hc16 => ?_)
    · have hc16 : (g 206 t) < 2147483648 := (nI_geU0 (by omega)).mp hc16
      refine Ev.run 6 (pc' := 30) (lv' := [(0, .ref 166), (1, .int (nI t)), (2, .int (nI i)), (3, .long (z))]) (st' := [.int (nI t), .ref 207, .int (nI 0), .int (nI i), .ref 166]) (h' := HN (U g r w v) hl (RF rt)) rfl ?_
      refine Ev_iald rfl rfl (show t < 6 by omega) (Nat.le_of_ble_eq_true rfl) ?_
      have hr0 := hle t (by omega)
      refine Ev.run 2 (pc' := 33) (lv' := [(0, .ref 166), (1, .int (nI t)), (2, .int (nI i)), (3, .long (z))]) (st' := [.int (nI (g 207 t) - nI 1), .int (nI 0), .int (nI i), .ref 166]) (h' := HN (U g r w v) hl (RF rt)) rfl ?_
      refine Ev.call (a := 126) (as := [.ref 166, .int (nI i), .int (nI 0), .int (nI (g 207 t) - nI 1)]) (rest := []) (lv0 := [(0, .ref 166), (1, .int (nI i)), (2, .int (nI 0)), (3, .int (nI (g 207 t) - nI 1))]) (Q1 := (fun z0 h' => z0 = some (.int (nI (bn (decide (i < g 207 t))))) ∧ h' = HN (U g r w v) hl (RF rt))) rfl rfl (C_in _ _ _ _ (nI i) (nI 0) (nI (g 207 t) - nI 1) (by rw [in1 (by omega) (by omega)]; exact ⟨rfl, rfl⟩)) (fun r h' hr => ?_)
      obtain ⟨rfl, rfl⟩ := hr
      refine Ev_bn (fun hb36 => ?_) (fun hb36 => ?_)
      · have hhb36 : i < g 207 t := of_decide_eq_true hb36
        refine Ev.run 6 (pc' := 50) (lv' := [(0, .ref 166), (1, .int (nI t)), (2, .int (nI i)), (3, .long (z))]) (st' := [.int (nI 60 * nI t), .ref 208]) (h' := HN (U g r w v) hl (RF rt)) rfl ?_
        refine Ev.topI (pk_mul _ _) ?_
        refine Ev.run 2 (pc' := 52) (lv' := [(0, .ref 166), (1, .int (nI t)), (2, .int (nI i)), (3, .long (z))]) (st' := [.int (nI (60 * t) + nI i), .ref 208]) (h' := HN (U g r w v) hl (RF rt)) rfl ?_
        refine Ev.topI (nI_add _ _) ?_
        refine Ev.run 4 (pc' := 58) (lv' := [(0, .ref 166), (1, .int (nI t)), (2, .int (nI i)), (3, .long (z))]) (st' := [.int (nI t), .ref 206, .ref 166, .int (nI ((60 * t) + i)), .ref 208]) (h' := HN (U g r w v) hl (RF rt)) rfl ?_
        refine Ev_iald rfl rfl (show t < 6 by omega) (Nat.le_of_ble_eq_true rfl) ?_
        refine Ev.run 1 (pc' := 60) (lv' := [(0, .ref 166), (1, .int (nI t)), (2, .int (nI i)), (3, .long (z))]) (st' := [.long (z), .int (nI (g 206 t)), .ref 166, .int (nI ((60 * t) + i)), .ref 208]) (h' := HN (U g r w v) hl (RF rt)) rfl ?_
        refine Ev.call (a := 237) (as := [.ref 166, .int (nI (g 206 t)), .long (z)]) (rest := [.int (nI ((60 * t) + i)), .ref 208]) (lv0 := [(0, .ref 166), (1, .int (nI (g 206 t))), (2, .long (z))]) (Q1 := (fun z0 h' => z0 = some (.long (nrL (g 206 t) z)) ∧ h' = HN (U g r w v) hl (RF rt))) rfl rfl (C_narrow _ _ _ _ (g 206 t) (by omega) z ⟨rfl, rfl⟩) (fun r h' hr => ?_)
        obtain ⟨rfl, rfl⟩ := hr
        refine Ev_last rfl rfl (show (60 * t) + i < 360 by omega) (Nat.le_of_ble_eq_true rfl) ?_
        refine Ev.run 1 (pc' := 65) (lv' := [(0, .ref 166), (1, .int (nI t)), (2, .int (nI i)), (3, .long (z))]) (st' := [.int (nI 1)]) (h' := HN (U g r w v) (u2 hl 208 ((60 * t) + i) (nrL (g 206 t) z)) (RF rt)) rfl ?_
        refine Ev.ret (v := some (.int (nI 1))) rfl ?_
        have hok : dc (t ≤ 5 ∧ g 206 t < 2147483648 ∧ i < g 207 t) = true := dc_t ⟨by omega, by omega, by omega⟩
        unfold rs_item hs_item at hq
        rw [if_pos hok, if_pos (by omega), if_pos (by omega), if_pos (by omega)] at hq
        exact hq
      · have hhb36 : ¬ (i < g 207 t) := of_decide_eq_false hb36
        refine Ev.run 2 (pc' := 41) (lv' := [(0, .ref 166), (1, .int (nI t)), (2, .int (nI i)), (3, .long (z))]) (st' := [.int (nI 4294967283)]) (h' := HN (U g r w v) hl (RF rt)) rfl ?_
        refine Ev.ret (v := some (.int (nI 4294967283))) rfl ?_
        have hok : ¬ dc (t ≤ 5 ∧ g 206 t < 2147483648 ∧ i < g 207 t) = true := fun z1 => by
          have z2 := dc_p z1
          omega
        unfold rs_item hs_item at hq
        rw [if_neg hok, if_pos (by omega), if_pos (by omega), if_neg (by omega)] at hq
        exact hq
    · have hc16 : ¬ ((g 206 t) < 2147483648) := fun z => hc16 ((nI_geU0 (by omega)).mpr z)
      refine Ev.run 1 (pc' := 21) (lv' := [(0, .ref 166), (1, .int (nI t)), (2, .int (nI i)), (3, .long (z))]) (st' := [.int (nI 4294967285)]) (h' := HN (U g r w v) hl (RF rt)) rfl ?_
      refine Ev.ret (v := some (.int (nI 4294967285))) rfl ?_
      have hok : ¬ dc (t ≤ 5 ∧ g 206 t < 2147483648 ∧ i < g 207 t) = true := fun z1 => by
        have z2 := dc_p z1
        omega
      unfold rs_item hs_item at hq
      rw [if_neg hok, if_pos (by omega), if_neg (by omega)] at hq
      exact hq
  · have hhb5 : ¬ (t ≤ 5) := of_decide_eq_false hb5
    refine Ev.run 2 (pc' := 9) (lv' := [(0, .ref 166), (1, .int (nI t)), (2, .int (nI i)), (3, .long (z))]) (st' := [.int (nI 4294967295)]) (h' := HN (U g r w v) hl (RF rt)) rfl ?_
    refine Ev.ret (v := some (.int (nI 4294967295))) rfl ?_
    have hok : ¬ dc (t ≤ 5 ∧ g 206 t < 2147483648 ∧ i < g 207 t) = true := fun z1 => by
      have z2 := dc_p z1
      omega
    unfold rs_item hs_item at hq
    rw [if_neg hok, if_neg (by omega)] at hq
    exact hq
theorem C_read {L : Nat} {xs : Nat → Int32} (d : Nat) (g : Nat → Nat → Nat) (hl : Nat → Nat → Int64) (rt : Nat × Nat × Nat × Nat) (hI : MI g) (t : Nat) (i : Nat) (ht : t < 2 ^ 32) (hi : i < 2 ^ 32) (r w v : Nat → Nat) (hs : SmH g r v)  {Q : Po} (hq : Q (some (.long (rs_read g hl t i))) (HN (U g r w v) hl (RF rt))) : Ev L xs (d + 2) 239 0 [(0, .ref 166), (1, .int (nI t)), (2, .int (nI i))] [] (HN (U g r w v) hl (RF rt)) Q := by
  have hW := hI.hW
  have hS := hI.hS
  have hPl := hI.hPl
  have hNx := hI.hNx
  have hLa := hI.hLa
  have hLo := hI.hLo
  have hTb := hI.hTb
  have hTh := hI.hTh
  have hFd := hI.hFd
  have hSn := hI.hSn
  have hSh := hI.hSh
  have hRan := hI.hRan
  have hLr := hI.hLr
  have hLt := hI.hLt
  have hgl := hI.hgl
  have hsz := hI.hsz
  have hcm := hI.hcm
  have hsl := hI.hsl
  have hkd := hI.hkd
  have hvv := hI.hvv
  have hli := hI.hli
  have hro := hI.hro
  have hrw := hI.hrw
  have htx := hI.htx
  have hsw := hI.hsw
  have hsx := hI.hsx
  have hsy := hI.hsy
  have hsh := hI.hsh
  have hle := hI.hle
  have hcl := hI.hcl
  have hwd := hI.hwd
  have hnu := hI.hnu
  have hwn := hI.hwn
  have hs1 := hI.hs1
  have hso := hI.hso
  refine Ev.run 2 (pc' := 2) (lv' := [(0, .ref 166), (1, .int (nI t)), (2, .int (nI i))]) (st' := [.int (nI t), .ref 166]) (h' := HN (U g r w v) hl (RF rt)) rfl ?_
  refine Ev.call (a := 235) (as := [.ref 166, .int (nI t)]) (rest := []) (lv0 := [(0, .ref 166), (1, .int (nI t))]) (Q1 := (fun z0 h' => z0 = some (.int (nI (bn (decide (t ≤ 5))))) ∧ h' = HN (U g r w v) hl (RF rt))) rfl rfl (C_isTape _ _ _ _ t (by omega) ⟨rfl, rfl⟩) (fun r h' hr => ?_)
  obtain ⟨rfl, rfl⟩ := hr
  refine Ev_bn (fun hb5 => ?_) (fun hb5 => ?_)
  · have hhb5 : t ≤ 5 := of_decide_eq_true hb5
    refine Ev.run 1 (pc' := 8) (lv' := [(0, .ref 166), (1, .int (nI t)), (2, .int (nI i))]) (st' := []) (h' := HN (U g r w v) hl (RF rt)) rfl ?_
    have hsot : g 206 t ≤ 4 ∨ g 206 t = 4294967295 := hso t (by omega)
    have hlet := hle t (by omega)
    refine Ev.run 3 (pc' := 13) (lv' := [(0, .ref 166), (1, .int (nI t)), (2, .int (nI i))]) (st' := [.int (nI t), .ref 206]) (h' := HN (U g r w v) hl (RF rt)) rfl ?_
    refine Ev_iald rfl rfl (show t < 6 by omega) (Nat.le_of_ble_eq_true rfl) ?_
    refine Ev.run 1 (pc' := (if nI (g 206 t) < 0 then 34 else 17)) (lv' := [(0, .ref 166), (1, .int (nI t)), (2, .int (nI i))]) (st' := []) (h' := HN (U g r w v) hl (RF rt)) rfl ?_
    refine Ev.ite (fun hc14 => ?_) (fun hc14 => ?_)
    · have hc14 : 2147483648 ≤ (g 206 t) := (nI_ltU0 (by omega)).mp hc14
      refine Ev.run 2 (pc' := 51) (lv' := [(0, .ref 166), (1, .int (nI t)), (2, .int (nI i))]) (st' := [.long (Int64.ofNat 9223372036854775808)]) (h' := HN (U g r w v) hl (RF rt)) rfl ?_
      refine Ev.ret (v := some (.long (Int64.ofNat 9223372036854775808))) rfl ?_
      unfold rs_read at hq
      first | (rw [if_neg (by omega)] at hq; exact hq) | (rw [if_pos (by omega), if_neg (by omega)] at hq; exact hq) | (rw [if_pos (by omega), if_pos (by omega), if_neg (by omega)] at hq; exact hq)
    · have hc14 : ¬ (2147483648 ≤ (g 206 t)) := fun z => hc14 ((nI_ltU0 (by omega)).mpr z)
      refine Ev.run 6 (pc' := 25) (lv' := [(0, .ref 166), (1, .int (nI t)), (2, .int (nI i))]) (st' := [.int (nI t), .ref 207, .int (nI 0), .int (nI i), .ref 166]) (h' := HN (U g r w v) hl (RF rt)) rfl ?_
      refine Ev_iald rfl rfl (show t < 6 by omega) (Nat.le_of_ble_eq_true rfl) ?_
      have hr0 := hle t (by omega)
      refine Ev.run 2 (pc' := 28) (lv' := [(0, .ref 166), (1, .int (nI t)), (2, .int (nI i))]) (st' := [.int (nI (g 207 t) - nI 1), .int (nI 0), .int (nI i), .ref 166]) (h' := HN (U g r w v) hl (RF rt)) rfl ?_
      refine Ev.call (a := 126) (as := [.ref 166, .int (nI i), .int (nI 0), .int (nI (g 207 t) - nI 1)]) (rest := []) (lv0 := [(0, .ref 166), (1, .int (nI i)), (2, .int (nI 0)), (3, .int (nI (g 207 t) - nI 1))]) (Q1 := (fun z0 h' => z0 = some (.int (nI (bn (decide (i < g 207 t))))) ∧ h' = HN (U g r w v) hl (RF rt))) rfl rfl (C_in _ _ _ _ (nI i) (nI 0) (nI (g 207 t) - nI 1) (by rw [in1 (by omega) (by omega)]; exact ⟨rfl, rfl⟩)) (fun r h' hr => ?_)
      obtain ⟨rfl, rfl⟩ := hr
      refine Ev_bn (fun hb31 => ?_) (fun hb31 => ?_)
      · have hhb31 : i < g 207 t := of_decide_eq_true hb31
        refine Ev.run 6 (pc' := 48) (lv' := [(0, .ref 166), (1, .int (nI t)), (2, .int (nI i))]) (st' := [.int (nI 60 * nI t), .ref 208]) (h' := HN (U g r w v) hl (RF rt)) rfl ?_
        refine Ev.topI (pk_mul _ _) ?_
        refine Ev.run 2 (pc' := 50) (lv' := [(0, .ref 166), (1, .int (nI t)), (2, .int (nI i))]) (st' := [.int (nI (60 * t) + nI i), .ref 208]) (h' := HN (U g r w v) hl (RF rt)) rfl ?_
        refine Ev.topI (nI_add _ _) ?_
        refine Ev_lald rfl rfl (show (60 * t) + i < 360 by omega) (Nat.le_of_ble_eq_true rfl) ?_
        refine Ev.ret (v := some (.long (hl 208 ((60 * t) + i)))) rfl ?_
        unfold rs_read at hq
        rw [if_pos (by omega), if_pos (by omega), if_pos (by omega)] at hq
        exact hq
      · have hhb31 : ¬ (i < g 207 t) := of_decide_eq_false hb31
        refine Ev.run 3 (pc' := 51) (lv' := [(0, .ref 166), (1, .int (nI t)), (2, .int (nI i))]) (st' := [.long (Int64.ofNat 9223372036854775808)]) (h' := HN (U g r w v) hl (RF rt)) rfl ?_
        refine Ev.ret (v := some (.long (Int64.ofNat 9223372036854775808))) rfl ?_
        unfold rs_read at hq
        first | (rw [if_neg (by omega)] at hq; exact hq) | (rw [if_pos (by omega), if_neg (by omega)] at hq; exact hq) | (rw [if_pos (by omega), if_pos (by omega), if_neg (by omega)] at hq; exact hq)
  · have hhb5 : ¬ (t ≤ 5) := of_decide_eq_false hb5
    refine Ev.run 3 (pc' := 51) (lv' := [(0, .ref 166), (1, .int (nI t)), (2, .int (nI i))]) (st' := [.long (Int64.ofNat 9223372036854775808)]) (h' := HN (U g r w v) hl (RF rt)) rfl ?_
    refine Ev.ret (v := some (.long (Int64.ofNat 9223372036854775808))) rfl ?_
    unfold rs_read at hq
    first | (rw [if_neg (by omega)] at hq; exact hq) | (rw [if_pos (by omega), if_neg (by omega)] at hq; exact hq) | (rw [if_pos (by omega), if_pos (by omega), if_neg (by omega)] at hq; exact hq)
noncomputable def jgF (g : Nat → Nat → Nat) (hl : Nat → Nat → Int64) (t i : Nat) : Nat → Nat → Nat
  | 0, _ => 4294967291
  | f + 1, k => if g 206 t < 2147483648 ∧ i < 2147483648 ∧ i + k + 1 ≤ g 207 t then (if hl 208 (60 * t + i + k) = (nI (g 175 k)).toInt64 then jgF g hl t i f (k + 1) else k) else 100 + k
noncomputable def rs_judge (g : Nat → Nat → Nat) (hl : Nat → Nat → Int64) (t i : Nat) : Nat := if t ≤ 5 then (if g 206 t < 2147483648 ∧ 0 < g 206 t then 4294967284 else jgF g hl t i (g 166 9) 0) else 4294967295
theorem jgF_s {g : Nat → Nat → Nat} {hl : Nat → Nat → Int64} {t i n k : Nat} (hk : k < n) (h1 : g 206 t < 2147483648 ∧ i < 2147483648 ∧ i + k + 1 ≤ g 207 t) (h2 : hl 208 (60 * t + i + k) = (nI (g 175 k)).toInt64) : jgF g hl t i (n - k) k = jgF g hl t i (n - (k + 1)) (k + 1) := by
  rw [show n - k = (n - (k + 1)) + 1 by omega]
  show (if _ then _ else _) = _
  rw [if_pos h1, if_pos h2]
theorem jgF_a {g : Nat → Nat → Nat} {hl : Nat → Nat → Int64} {t i n k : Nat} (hk : k < n) (h1 : g 206 t < 2147483648 ∧ i < 2147483648 ∧ i + k + 1 ≤ g 207 t) (h2 : ¬ hl 208 (60 * t + i + k) = (nI (g 175 k)).toInt64) : jgF g hl t i (n - k) k = k := by
  rw [show n - k = (n - (k + 1)) + 1 by omega]
  show (if _ then _ else _) = _
  rw [if_pos h1, if_neg h2]
theorem jgF_b {g : Nat → Nat → Nat} {hl : Nat → Nat → Int64} {t i n k : Nat} (hk : k < n) (h1 : ¬ (g 206 t < 2147483648 ∧ i < 2147483648 ∧ i + k + 1 ≤ g 207 t)) : jgF g hl t i (n - k) k = 100 + k := by
  rw [show n - k = (n - (k + 1)) + 1 by omega]
  show (if _ then _ else _) = _
  rw [if_neg h1]
theorem C_judge {L : Nat} {xs : Nat → Int32} (d : Nat) (g : Nat → Nat → Nat) (hl : Nat → Nat → Int64) (rt : Nat × Nat × Nat × Nat) (hI : MI g) (t : Nat) (i : Nat) (ht : t < 2 ^ 32) (hi : i < 2 ^ 32) (r w v : Nat → Nat) (hs : SmH g r v)  {Q : Po} (hq : Q (some (.int (nI (rs_judge g hl t i)))) (HN (U g r w v) hl (RF rt))) : Ev L xs (d + 2) 220 0 [(0, .ref 166), (1, .int (nI t)), (2, .int (nI i))] [] (HN (U g r w v) hl (RF rt)) Q := by
  have hW := hI.hW
  have hS := hI.hS
  have hPl := hI.hPl
  have hNx := hI.hNx
  have hLa := hI.hLa
  have hLo := hI.hLo
  have hTb := hI.hTb
  have hTh := hI.hTh
  have hFd := hI.hFd
  have hSn := hI.hSn
  have hSh := hI.hSh
  have hRan := hI.hRan
  have hLr := hI.hLr
  have hLt := hI.hLt
  have hgl := hI.hgl
  have hsz := hI.hsz
  have hcm := hI.hcm
  have hsl := hI.hsl
  have hkd := hI.hkd
  have hvv := hI.hvv
  have hli := hI.hli
  have hro := hI.hro
  have hrw := hI.hrw
  have htx := hI.htx
  have hsw := hI.hsw
  have hsx := hI.hsx
  have hsy := hI.hsy
  have hsh := hI.hsh
  have hle := hI.hle
  have hcl := hI.hcl
  have hwd := hI.hwd
  have hnu := hI.hnu
  have hwn := hI.hwn
  have hs1 := hI.hs1
  have hso := hI.hso
  refine Ev.run 2 (pc' := 2) (lv' := [(0, .ref 166), (1, .int (nI t)), (2, .int (nI i))]) (st' := [.int (nI t), .ref 166]) (h' := HN (U g r w v) hl (RF rt)) rfl ?_
  refine Ev.call (a := 235) (as := [.ref 166, .int (nI t)]) (rest := []) (lv0 := [(0, .ref 166), (1, .int (nI t))]) (Q1 := (fun z0 h' => z0 = some (.int (nI (bn (decide (t ≤ 5))))) ∧ h' = HN (U g r w v) hl (RF rt))) rfl rfl (C_isTape _ _ _ _ t (by omega) ⟨rfl, rfl⟩) (fun r h' hr => ?_)
  obtain ⟨rfl, rfl⟩ := hr
  refine Ev_bn (fun hb5 => ?_) (fun hb5 => ?_)
  · have hhb5 : t ≤ 5 := of_decide_eq_true hb5
    refine Ev.run 1 (pc' := 10) (lv' := [(0, .ref 166), (1, .int (nI t)), (2, .int (nI i))]) (st' := []) (h' := HN (U g r w v) hl (RF rt)) rfl ?_
    have hsot : g 206 t ≤ 4 ∨ g 206 t = 4294967295 := hso t (by omega)
    have hlet := hle t (by omega)
    refine Ev.run 3 (pc' := 15) (lv' := [(0, .ref 166), (1, .int (nI t)), (2, .int (nI i))]) (st' := [.int (nI t), .ref 206]) (h' := HN (U g r w v) hl (RF rt)) rfl ?_
    refine Ev_iald rfl rfl (show t < 6 by omega) (Nat.le_of_ble_eq_true rfl) ?_
    refine Ev.run 1 (pc' := (if nI (g 206 t) ≤ 0 then 22 else 19)) (lv' := [(0, .ref 166), (1, .int (nI t)), (2, .int (nI i))]) (st' := []) (h' := HN (U g r w v) hl (RF rt)) rfl ?_
    refine Ev.ite (fun hc16 => ?_) (fun hc16 => ?_)
    · have hc16 : 2147483648 ≤ g 206 t ∨ g 206 t = 0 := (nI_leS0 (by omega)).mp hc16
      refine Ev.run 2 (pc' := 24) (lv' := [(3, .int (nI 0)), (0, .ref 166), (1, .int (nI t)), (2, .int (nI i))]) (st' := []) (h' := HN (U g r w v) hl (RF rt)) rfl ?_
      refine for_ind (g 166 9) (fun k => jgF g hl t i (g 166 9 - k) k = jgF g hl t i (g 166 9) 0 → Ev L xs (d + 2) 220 24 [(3, .int (nI k)), (0, .ref 166), (1, .int (nI t)), (2, .int (nI i))] [] (HN (U g r w v) hl (RF rt)) Q) (fun k hk hnext ha => ?_) 0 (Nat.zero_le _) rfl
      refine Ev.run 4 (pc' := (if nI (g 166 9) ≤ nI k then 96 else 32)) (lv' := [(3, .int (nI k)), (0, .ref 166), (1, .int (nI t)), (2, .int (nI i))]) (st' := []) (h' := HN (U g r w v) hl (RF rt)) rfl ?_
      refine Ev.ite (fun hc29 => ?_) (fun hc29 => ?_)
      · have hc29 : (g 166 9) ≤ k := (nI_leI (by omega) (by omega)).mp hc29
        refine Ev.run 1 (pc' := 98) (lv' := [(3, .int (nI k)), (0, .ref 166), (1, .int (nI t)), (2, .int (nI i))]) (st' := [.int (nI 4294967291)]) (h' := HN (U g r w v) hl (RF rt)) rfl ?_
        refine Ev.ret (v := some (.int (nI 4294967291))) rfl ?_
        unfold rs_judge at hq
        rw [if_pos (by omega), if_neg (by omega), ← ha] at hq
        rw [show g 166 9 - k = 0 by omega] at hq
        exact hq
      · have hc29 : ¬ ((g 166 9) ≤ k) := fun z => hc29 ((nI_leI (by omega) (by omega)).mpr z)
        refine Ev.run 3 (pc' := 37) (lv' := [(3, .int (nI k)), (0, .ref 166), (1, .int (nI t)), (2, .int (nI i))]) (st' := [.int (nI t), .ref 206]) (h' := HN (U g r w v) hl (RF rt)) rfl ?_
        refine Ev_iald rfl rfl (show t < 6 by omega) (Nat.le_of_ble_eq_true rfl) ?_
        refine Ev.run 1 (pc' := (if nI (g 206 t) < 0 then 59 else 41)) (lv' := [(3, .int (nI k)), (0, .ref 166), (1, .int (nI t)), (2, .int (nI i))]) (st' := []) (h' := HN (U g r w v) hl (RF rt)) rfl ?_
        refine Ev.ite (fun hc38 => ?_) (fun hc38 => ?_)
        · have hc38 : 2147483648 ≤ (g 206 t) := (nI_ltU0 (by omega)).mp hc38
          refine Ev.run 3 (pc' := 63) (lv' := [(3, .int (nI k)), (0, .ref 166), (1, .int (nI t)), (2, .int (nI i))]) (st' := [.int (nI 100 + nI k)]) (h' := HN (U g r w v) hl (RF rt)) rfl ?_
          refine Ev.topI (nI_add _ _) ?_
          refine Ev.ret (v := some (.int (nI (100 + k)))) rfl ?_
          unfold rs_judge at hq
          rw [if_pos (by omega), if_neg (by omega), ← ha] at hq
          rw [jgF_b (by omega) (by omega)] at hq
          exact hq
        · have hc38 : ¬ (2147483648 ≤ (g 206 t)) := fun z => hc38 ((nI_ltU0 (by omega)).mpr z)
          refine Ev.run 2 (pc' := (if nI i < 0 then 59 else 45)) (lv' := [(3, .int (nI k)), (0, .ref 166), (1, .int (nI t)), (2, .int (nI i))]) (st' := []) (h' := HN (U g r w v) hl (RF rt)) rfl ?_
          refine Ev.ite (fun hc42 => ?_) (fun hc42 => ?_)
          · have hc42 : 2147483648 ≤ i := (nI_ltU0 (by omega)).mp hc42
            refine Ev.run 3 (pc' := 63) (lv' := [(3, .int (nI k)), (0, .ref 166), (1, .int (nI t)), (2, .int (nI i))]) (st' := [.int (nI 100 + nI k)]) (h' := HN (U g r w v) hl (RF rt)) rfl ?_
            refine Ev.topI (nI_add _ _) ?_
            refine Ev.ret (v := some (.int (nI (100 + k)))) rfl ?_
            unfold rs_judge at hq
            rw [if_pos (by omega), if_neg (by omega), ← ha] at hq
            rw [jgF_b (by omega) (by omega)] at hq
            exact hq
          · have hc42 : ¬ (2147483648 ≤ i) := fun z => hc42 ((nI_ltU0 (by omega)).mpr z)
            refine Ev.run 4 (pc' := 51) (lv' := [(3, .int (nI k)), (0, .ref 166), (1, .int (nI t)), (2, .int (nI i))]) (st' := [.int (nI t), .ref 207, .int (nI i)]) (h' := HN (U g r w v) hl (RF rt)) rfl ?_
            refine Ev_iald rfl rfl (show t < 6 by omega) (Nat.le_of_ble_eq_true rfl) ?_
            have hr0 := hle t (by omega)
            refine Ev.run 5 (pc' := (if nI i ≤ ((nI (g 207 t) - nI k) - nI 1) then 64 else 59)) (lv' := [(3, .int (nI k)), (0, .ref 166), (1, .int (nI t)), (2, .int (nI i))]) (st' := []) (h' := HN (U g r w v) hl (RF rt)) rfl ?_
            refine Ev.ite (fun hc56 => ?_) (fun hc56 => ?_)
            · have hc56 : i + (k + 1) ≤ g 207 t := ((by rw [nI_subsub]; exact nI_geS (by omega) (by omega) (by omega) : nI i ≤ nI (g 207 t) - nI k - nI 1 ↔ i + (k + 1) ≤ g 207 t)).mp hc56
              refine Ev.run 5 (pc' := 72) (lv' := [(3, .int (nI k)), (0, .ref 166), (1, .int (nI t)), (2, .int (nI i))]) (st' := [.int (nI 60 * nI t), .ref 208]) (h' := HN (U g r w v) hl (RF rt)) rfl ?_
              refine Ev.topI (pk_mul _ _) ?_
              refine Ev.run 2 (pc' := 74) (lv' := [(3, .int (nI k)), (0, .ref 166), (1, .int (nI t)), (2, .int (nI i))]) (st' := [.int (nI (60 * t) + nI i), .ref 208]) (h' := HN (U g r w v) hl (RF rt)) rfl ?_
              refine Ev.topI (nI_add _ _) ?_
              refine Ev.run 2 (pc' := 76) (lv' := [(3, .int (nI k)), (0, .ref 166), (1, .int (nI t)), (2, .int (nI i))]) (st' := [.int (nI ((60 * t) + i) + nI k), .ref 208]) (h' := HN (U g r w v) hl (RF rt)) rfl ?_
              refine Ev.topI (nI_add _ _) ?_
              refine Ev_lald rfl rfl (show ((60 * t) + i) + k < 360 by omega) (Nat.le_of_ble_eq_true rfl) ?_
              refine Ev.run 3 (pc' := 82) (lv' := [(3, .int (nI k)), (0, .ref 166), (1, .int (nI t)), (2, .int (nI i))]) (st' := [.int (nI k), .ref 175, .long (hl 208 (((60 * t) + i) + k))]) (h' := HN (U g r w v) hl (RF rt)) rfl ?_
              refine Ev_iald rfl rfl (show k < 12 by omega) (Nat.le_of_ble_eq_true rfl) ?_
              refine Ev.run 3 (pc' := (if (lg_cmp (hl 208 (((60 * t) + i) + k)) ((nI (r k)).toInt64)) = 0 then 90 else 88)) (lv' := [(3, .int (nI k)), (0, .ref 166), (1, .int (nI t)), (2, .int (nI i))]) (st' := []) (h' := HN (U g r w v) hl (RF rt)) rfl ?_
              refine Ev.ite (fun hc85 => ?_) (fun hc85 => ?_)
              · have hc85 : hl 208 (60 * t + i + k) = (nI (r k)).toInt64 := (lg_cmp_eq _ _).mp hc85
                refine Ev.run 1 (pc' := 93) (lv' := [(3, .int (nI k + 1)), (0, .ref 166), (1, .int (nI t)), (2, .int (nI i))]) (st' := []) (h' := HN (U g r w v) hl (RF rt)) rfl ?_
                refine Ev.lvE (congrArg (fun z => (3, Value.int z) :: [(0, .ref 166), (1, .int (nI t)), (2, .int (nI i))]) (nI_1 _)) ?_
                refine Ev.run 1 (pc' := 24) (lv' := [(3, .int (nI (k + 1))), (0, .ref 166), (1, .int (nI t)), (2, .int (nI i))]) (st' := []) (h' := HN (U g r w v) hl (RF rt)) rfl ?_
                exact hnext (by omega) (by rw [← jgF_s (by omega) ⟨by omega, by omega, by omega⟩ (by rw [hc85, hs.2.1 k (by omega)])]; exact ha)
              · have hc85 : ¬ (hl 208 (60 * t + i + k) = (nI (r k)).toInt64) := fun z => hc85 ((lg_cmp_eq _ _).mpr z)
                refine Ev.run 1 (pc' := 89) (lv' := [(3, .int (nI k)), (0, .ref 166), (1, .int (nI t)), (2, .int (nI i))]) (st' := [.int (nI k)]) (h' := HN (U g r w v) hl (RF rt)) rfl ?_
                refine Ev.ret (v := some (.int (nI k))) rfl ?_
                unfold rs_judge at hq
                rw [if_pos (by omega), if_neg (by omega), ← ha] at hq
                rw [jgF_a (by omega) ⟨by omega, by omega, by omega⟩ (by rw [← hs.2.1 k (by omega)]; exact hc85)] at hq
                exact hq
            · have hc56 : ¬ (i + (k + 1) ≤ g 207 t) := fun z => hc56 (((by rw [nI_subsub]; exact nI_geS (by omega) (by omega) (by omega) : nI i ≤ nI (g 207 t) - nI k - nI 1 ↔ i + (k + 1) ≤ g 207 t)).mpr z)
              refine Ev.run 3 (pc' := 63) (lv' := [(3, .int (nI k)), (0, .ref 166), (1, .int (nI t)), (2, .int (nI i))]) (st' := [.int (nI 100 + nI k)]) (h' := HN (U g r w v) hl (RF rt)) rfl ?_
              refine Ev.topI (nI_add _ _) ?_
              refine Ev.ret (v := some (.int (nI (100 + k)))) rfl ?_
              unfold rs_judge at hq
              rw [if_pos (by omega), if_neg (by omega), ← ha] at hq
              rw [jgF_b (by omega) (by omega)] at hq
              exact hq
    · have hc16 : ¬ (2147483648 ≤ g 206 t ∨ g 206 t = 0) := fun z => hc16 ((nI_leS0 (by omega)).mpr z)
      refine Ev.run 1 (pc' := 21) (lv' := [(0, .ref 166), (1, .int (nI t)), (2, .int (nI i))]) (st' := [.int (nI 4294967284)]) (h' := HN (U g r w v) hl (RF rt)) rfl ?_
      refine Ev.ret (v := some (.int (nI 4294967284))) rfl ?_
      unfold rs_judge at hq
      rw [if_pos (by omega), if_pos (by omega)] at hq
      exact hq
  · have hhb5 : ¬ (t ≤ 5) := of_decide_eq_false hb5
    refine Ev.run 2 (pc' := 9) (lv' := [(0, .ref 166), (1, .int (nI t)), (2, .int (nI i))]) (st' := [.int (nI 4294967295)]) (h' := HN (U g r w v) hl (RF rt)) rfl ?_
    refine Ev.ret (v := some (.int (nI 4294967295))) rfl ?_
    unfold rs_judge at hq
    rw [if_neg (by omega)] at hq
    exact hq
