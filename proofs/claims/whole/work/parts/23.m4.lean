/-! the reference: players, what is told and seen -/
def rs_live (g : Nat → Nat → Nat) (p n : Nat) : Nat := if p < g 166 6 then (if n ≤ 99 then g 173 p else 4294967294) else 4294967295
def gs_live (g : Nat → Nat → Nat) (p n : Nat) : Nat → Nat → Nat := if p < g 166 6 then (if n ≤ 99 then u2 g 173 p n else g) else g
theorem C_live {L : Nat} {xs : Nat → Int32} (d : Nat) (g : Nat → Nat → Nat) (hl : Nat → Nat → Int64) (rt : Nat × Nat × Nat × Nat) (hI : MI g) (p : Nat) (n : Nat) (hp : p < 2 ^ 32) (hn : n < 2 ^ 32) {Q : Po} (hq : Q (some (.int (nI (rs_live g p n)))) (HN (gs_live g p n) hl (RF rt))) : Ev L xs (d + 2) 137 0 [(0, .ref 166), (1, .int (nI p)), (2, .int (nI n))] [] (HN g hl (RF rt)) Q := by
  have hW := hI.hW
  have hS := hI.hS
  have hPl := hI.hPl
  have hNx := hI.hNx
  have hLa := hI.hLa
  have hLo := hI.hLo
  have hTb := hI.hTb
  have hTh := hI.hTh
  have hFd := hI.hFd
  have hSn := hI.hSn
  have hSh := hI.hSh
  have hRan := hI.hRan
  have hLr := hI.hLr
  have hLt := hI.hLt
  have hgl := hI.hgl
  have hsz := hI.hsz
  have hcm := hI.hcm
  have hsl := hI.hsl
  have hkd := hI.hkd
  have hvv := hI.hvv
  have hli := hI.hli
  have hro := hI.hro
  have hrw := hI.hrw
  have htx := hI.htx
  have hsw := hI.hsw
  have hsx := hI.hsx
  have hsy := hI.hsy
  have hsh := hI.hsh
  have hle := hI.hle
  have hcl := hI.hcl
  have hwd := hI.hwd
  have hnu := hI.hnu
  have hwn := hI.hwn
  have hs1 := hI.hs1
  have hso := hI.hso
  refine Ev.run 2 (pc' := 2) (lv' := [(0, .ref 166), (1, .int (nI p)), (2, .int (nI n))]) (st' := [.int (nI p), .ref 166]) (h' := HN g hl (RF rt)) rfl ?_
  refine Ev.call (a := 135) (as := [.ref 166, .int (nI p)]) (rest := []) (lv0 := [(0, .ref 166), (1, .int (nI p))]) (Q1 := (fun z0 h' => z0 = some (.int (nI (bn (decide (p < g 166 6))))) ∧ h' = HN g hl (RF rt))) rfl rfl (C_isPlayer _ _ _ _ p (by omega) hPl ⟨rfl, rfl⟩) (fun r h' hr => ?_)
  obtain ⟨rfl, rfl⟩ := hr
  refine Ev_bn (fun hb5 => ?_) (fun hb5 => ?_)
  · have hhb5 : p < g 166 6 := of_decide_eq_true hb5
    refine Ev.run 5 (pc' := 15) (lv' := [(0, .ref 166), (1, .int (nI p)), (2, .int (nI n))]) (st' := [.int (nI 99), .int (nI 0), .int (nI n), .ref 166]) (h' := HN g hl (RF rt)) rfl ?_
    refine Ev.call (a := 126) (as := [.ref 166, .int (nI n), .int (nI 0), .int (nI 99)]) (rest := []) (lv0 := [(0, .ref 166), (1, .int (nI n)), (2, .int (nI 0)), (3, .int (nI 99))]) (Q1 := (fun z0 h' => z0 = some (.int (nI (bn (decide (n ≤ 99))))) ∧ h' = HN g hl (RF rt))) rfl rfl (C_in _ _ _ _ (nI n) (nI 0) (nI 99) (by rw [in0 (by omega) (by omega)]; exact ⟨rfl, rfl⟩)) (fun r h' hr => ?_)
    obtain ⟨rfl, rfl⟩ := hr
    refine Ev_bn (fun hb18 => ?_) (fun hb18 => ?_)
    · have hhb18 : n ≤ 99 := of_decide_eq_true hb18
      refine Ev.run 4 (pc' := 29) (lv' := [(0, .ref 166), (1, .int (nI p)), (2, .int (nI n))]) (st' := [.int (nI p), .ref 173]) (h' := HN g hl (RF rt)) rfl ?_
      refine Ev_iald rfl rfl (show p < 5 by omega) (Nat.le_of_ble_eq_true rfl) ?_
      have hr0 := hli p (by omega)
      refine Ev.run 5 (pc' := 37) (lv' := [(3, .int (nI (g 173 p))), (0, .ref 166), (1, .int (nI p)), (2, .int (nI n))]) (st' := [.int (nI n), .int (nI p), .ref 173]) (h' := HN g hl (RF rt)) rfl ?_
      refine Ev_iast rfl rfl (show p < 5 by omega) (Nat.le_of_ble_eq_true rfl) ?_
      refine Ev.run 1 (pc' := 39) (lv' := [(3, .int (nI (g 173 p))), (0, .ref 166), (1, .int (nI p)), (2, .int (nI n))]) (st' := [.int (nI (g 173 p))]) (h' := HN (u2 g 173 p n) hl (RF rt)) rfl ?_
      refine Ev.ret (v := some (.int (nI (g 173 p)))) rfl ?_
      simp only [rs_live, gs_live, if_pos hhb5, if_pos hhb18] at hq
      exact hq
    · have hhb18 : ¬ (n ≤ 99) := of_decide_eq_false hb18
      refine Ev.run 2 (pc' := 23) (lv' := [(0, .ref 166), (1, .int (nI p)), (2, .int (nI n))]) (st' := [.int (nI 4294967294)]) (h' := HN g hl (RF rt)) rfl ?_
      refine Ev.ret (v := some (.int (nI 4294967294))) rfl ?_
      simp only [rs_live, gs_live, if_pos hhb5, if_neg hhb18] at hq
      exact hq
  · have hhb5 : ¬ (p < g 166 6) := of_decide_eq_false hb5
    refine Ev.run 2 (pc' := 9) (lv' := [(0, .ref 166), (1, .int (nI p)), (2, .int (nI n))]) (st' := [.int (nI 4294967295)]) (h' := HN g hl (RF rt)) rfl ?_
    refine Ev.ret (v := some (.int (nI 4294967295))) rfl ?_
    simp only [rs_live, gs_live, if_neg hhb5] at hq
    exact hq
def rs_row (g : Nat → Nat → Nat) (p a n : Nat) : Nat := if p < g 166 6 then (if a ≤ 3 then (if n ≤ 3 then (if g 171 p = 6 then g 174 (4 * p + a) else 4294967293) else 4294967294) else 4294967295) else 4294967295
def gs_row (g : Nat → Nat → Nat) (p a n : Nat) : Nat → Nat → Nat := if p < g 166 6 then (if a ≤ 3 then (if n ≤ 3 then (if g 171 p = 6 then u2 g 174 (4 * p + a) n else g) else g) else g) else g
theorem C_row {L : Nat} {xs : Nat → Int32} (d : Nat) (g : Nat → Nat → Nat) (hl : Nat → Nat → Int64) (rt : Nat × Nat × Nat × Nat) (hI : MI g) (p : Nat) (a : Nat) (n : Nat) (hp : p < 2 ^ 32) (ha : a < 2 ^ 32) (hn : n < 2 ^ 32) {Q : Po} (hq : Q (some (.int (nI (rs_row g p a n)))) (HN (gs_row g p a n) hl (RF rt))) : Ev L xs (d + 2) 138 0 [(0, .ref 166), (1, .int (nI p)), (2, .int (nI a)), (3, .int (nI n))] [] (HN g hl (RF rt)) Q := by
  have hW := hI.hW
  have hS := hI.hS
  have hPl := hI.hPl
  have hNx := hI.hNx
  have hLa := hI.hLa
  have hLo := hI.hLo
  have hTb := hI.hTb
  have hTh := hI.hTh
  have hFd := hI.hFd
  have hSn := hI.hSn
  have hSh := hI.hSh
  have hRan := hI.hRan
  have hLr := hI.hLr
  have hLt := hI.hLt
  have hgl := hI.hgl
  have hsz := hI.hsz
  have hcm := hI.hcm
  have hsl := hI.hsl
  have hkd := hI.hkd
  have hvv := hI.hvv
  have hli := hI.hli
  have hro := hI.hro
  have hrw := hI.hrw
  have htx := hI.htx
  have hsw := hI.hsw
  have hsx := hI.hsx
  have hsy := hI.hsy
  have hsh := hI.hsh
  have hle := hI.hle
  have hcl := hI.hcl
  have hwd := hI.hwd
  have hnu := hI.hnu
  have hwn := hI.hwn
  have hs1 := hI.hs1
  have hso := hI.hso
  refine Ev.run 2 (pc' := 2) (lv' := [(0, .ref 166), (1, .int (nI p)), (2, .int (nI a)), (3, .int (nI n))]) (st' := [.int (nI p), .ref 166]) (h' := HN g hl (RF rt)) rfl ?_
  refine Ev.call (a := 135) (as := [.ref 166, .int (nI p)]) (rest := []) (lv0 := [(0, .ref 166), (1, .int (nI p))]) (Q1 := (fun z0 h' => z0 = some (.int (nI (bn (decide (p < g 166 6))))) ∧ h' = HN g hl (RF rt))) rfl rfl (C_isPlayer _ _ _ _ p (by omega) hPl ⟨rfl, rfl⟩) (fun r h' hr => ?_)
  obtain ⟨rfl, rfl⟩ := hr
  refine Ev_bn (fun hb5 => ?_) (fun hb5 => ?_)
  · have hhb5 : p < g 166 6 := of_decide_eq_true hb5
    refine Ev.run 5 (pc' := 12) (lv' := [(0, .ref 166), (1, .int (nI p)), (2, .int (nI a)), (3, .int (nI n))]) (st' := [.int (nI 3), .int (nI 0), .int (nI a), .ref 166]) (h' := HN g hl (RF rt)) rfl ?_
    refine Ev.call (a := 126) (as := [.ref 166, .int (nI a), .int (nI 0), .int (nI 3)]) (rest := []) (lv0 := [(0, .ref 166), (1, .int (nI a)), (2, .int (nI 0)), (3, .int (nI 3))]) (Q1 := (fun z0 h' => z0 = some (.int (nI (bn (decide (a ≤ 3))))) ∧ h' = HN g hl (RF rt))) rfl rfl (C_in _ _ _ _ (nI a) (nI 0) (nI 3) (by rw [in0 (by omega) (by omega)]; exact ⟨rfl, rfl⟩)) (fun r h' hr => ?_)
    obtain ⟨rfl, rfl⟩ := hr
    refine Ev_bn (fun hb15 => ?_) (fun hb15 => ?_)
    · have hhb15 : a ≤ 3 := of_decide_eq_true hb15
      refine Ev.run 5 (pc' := 24) (lv' := [(0, .ref 166), (1, .int (nI p)), (2, .int (nI a)), (3, .int (nI n))]) (st' := [.int (nI 3), .int (nI 0), .int (nI n), .ref 166]) (h' := HN g hl (RF rt)) rfl ?_
      refine Ev.call (a := 126) (as := [.ref 166, .int (nI n), .int (nI 0), .int (nI 3)]) (rest := []) (lv0 := [(0, .ref 166), (1, .int (nI n)), (2, .int (nI 0)), (3, .int (nI 3))]) (Q1 := (fun z0 h' => z0 = some (.int (nI (bn (decide (n ≤ 3))))) ∧ h' = HN g hl (RF rt))) rfl rfl (C_in _ _ _ _ (nI n) (nI 0) (nI 3) (by rw [in0 (by omega) (by omega)]; exact ⟨rfl, rfl⟩)) (fun r h' hr => ?_)
      obtain ⟨rfl, rfl⟩ := hr
      refine Ev_bn (fun hb27 => ?_) (fun hb27 => ?_)
      · have hhb27 : n ≤ 3 := of_decide_eq_true hb27
        refine Ev.run 4 (pc' := 38) (lv' := [(0, .ref 166), (1, .int (nI p)), (2, .int (nI a)), (3, .int (nI n))]) (st' := [.int (nI p), .ref 171]) (h' := HN g hl (RF rt)) rfl ?_
        refine Ev_iald rfl rfl (show p < 5 by omega) (Nat.le_of_ble_eq_true rfl) ?_
        have hr0 := hkd p (by omega)
        refine Ev.run 2 (pc' := (if nI (g 171 p) = nI 6 then 47 else 44)) (lv' := [(0, .ref 166), (1, .int (nI p)), (2, .int (nI a)), (3, .int (nI n))]) (st' := []) (h' := HN g hl (RF rt)) rfl ?_
        refine Ev.ite (fun hc41 => ?_) (fun hc41 => ?_)
        · have hc41 : (g 171 p) = 6 := (nI_eqU (by omega) (by omega)).mp hc41
          refine Ev.run 5 (pc' := 54) (lv' := [(0, .ref 166), (1, .int (nI p)), (2, .int (nI a)), (3, .int (nI n))]) (st' := [.int (nI 4 * nI p), .ref 174]) (h' := HN g hl (RF rt)) rfl ?_
          refine Ev.topI (pk_mul _ _) ?_
          refine Ev.run 2 (pc' := 56) (lv' := [(0, .ref 166), (1, .int (nI p)), (2, .int (nI a)), (3, .int (nI n))]) (st' := [.int (nI (4 * p) + nI a), .ref 174]) (h' := HN g hl (RF rt)) rfl ?_
          refine Ev.topI (nI_add _ _) ?_
          refine Ev_iald rfl rfl (show (4 * p) + a < 20 by omega) (Nat.le_of_ble_eq_true rfl) ?_
          have hr1 := hro ((4 * p) + a) (by omega)
          refine Ev.run 6 (pc' := 66) (lv' := [(4, .int (nI (g 174 ((4 * p) + a)))), (0, .ref 166), (1, .int (nI p)), (2, .int (nI a)), (3, .int (nI n))]) (st' := [.int (nI 4 * nI p), .ref 174]) (h' := HN g hl (RF rt)) rfl ?_
          refine Ev.topI (pk_mul _ _) ?_
          refine Ev.run 2 (pc' := 68) (lv' := [(4, .int (nI (g 174 ((4 * p) + a)))), (0, .ref 166), (1, .int (nI p)), (2, .int (nI a)), (3, .int (nI n))]) (st' := [.int (nI (4 * p) + nI a), .ref 174]) (h' := HN g hl (RF rt)) rfl ?_
          refine Ev.topI (nI_add _ _) ?_
          refine Ev.run 1 (pc' := 69) (lv' := [(4, .int (nI (g 174 ((4 * p) + a)))), (0, .ref 166), (1, .int (nI p)), (2, .int (nI a)), (3, .int (nI n))]) (st' := [.int (nI n), .int (nI ((4 * p) + a)), .ref 174]) (h' := HN g hl (RF rt)) rfl ?_
          refine Ev_iast rfl rfl (show (4 * p) + a < 20 by omega) (Nat.le_of_ble_eq_true rfl) ?_
          refine Ev.run 1 (pc' := 72) (lv' := [(4, .int (nI (g 174 ((4 * p) + a)))), (0, .ref 166), (1, .int (nI p)), (2, .int (nI a)), (3, .int (nI n))]) (st' := [.int (nI (g 174 ((4 * p) + a)))]) (h' := HN (u2 g 174 ((4 * p) + a) n) hl (RF rt)) rfl ?_
          refine Ev.ret (v := some (.int (nI (g 174 ((4 * p) + a))))) rfl ?_
          simp only [rs_row, gs_row, if_pos hhb5, if_pos hhb15, if_pos hhb27, if_pos hc41] at hq
          exact hq
        · have hc41 : ¬ ((g 171 p) = 6) := fun z => hc41 ((nI_eqU (by omega) (by omega)).mpr z)
          refine Ev.run 1 (pc' := 46) (lv' := [(0, .ref 166), (1, .int (nI p)), (2, .int (nI a)), (3, .int (nI n))]) (st' := [.int (nI 4294967293)]) (h' := HN g hl (RF rt)) rfl ?_
          refine Ev.ret (v := some (.int (nI 4294967293))) rfl ?_
          simp only [rs_row, gs_row, if_pos hhb5, if_pos hhb15, if_pos hhb27, if_neg hc41] at hq
          exact hq
      · have hhb27 : ¬ (n ≤ 3) := of_decide_eq_false hb27
        refine Ev.run 2 (pc' := 32) (lv' := [(0, .ref 166), (1, .int (nI p)), (2, .int (nI a)), (3, .int (nI n))]) (st' := [.int (nI 4294967294)]) (h' := HN g hl (RF rt)) rfl ?_
        refine Ev.ret (v := some (.int (nI 4294967294))) rfl ?_
        simp only [rs_row, gs_row, if_pos hhb5, if_pos hhb15, if_neg hhb27] at hq
        exact hq
    · have hhb15 : ¬ (a ≤ 3) := of_decide_eq_false hb15
      refine Ev.run 2 (pc' := 19) (lv' := [(0, .ref 166), (1, .int (nI p)), (2, .int (nI a)), (3, .int (nI n))]) (st' := [.int (nI 4294967295)]) (h' := HN g hl (RF rt)) rfl ?_
      refine Ev.ret (v := some (.int (nI 4294967295))) rfl ?_
      simp only [rs_row, gs_row, if_pos hhb5, if_neg hhb15] at hq
      exact hq
  · have hhb5 : ¬ (p < g 166 6) := of_decide_eq_false hb5
    refine Ev.run 2 (pc' := 19) (lv' := [(0, .ref 166), (1, .int (nI p)), (2, .int (nI a)), (3, .int (nI n))]) (st' := [.int (nI 4294967295)]) (h' := HN g hl (RF rt)) rfl ?_
    refine Ev.ret (v := some (.int (nI 4294967295))) rfl ?_
    simp only [rs_row, gs_row, if_neg hhb5] at hq
    exact hq
def rs_feed (g : Nat → Nat → Nat) (x : Nat) : Nat := if x ≤ 127 then (if g 166 17 = 100 then 4294967292 else g 166 17 + 1) else 4294967294
def gs_feed (g : Nat → Nat → Nat) (x : Nat) : Nat → Nat → Nat := if x ≤ 127 then (if g 166 17 = 100 then g else u2 (u2 g 176 (g 166 17) x) 166 17 (g 166 17 + 1)) else g
theorem C_feed {L : Nat} {xs : Nat → Int32} (d : Nat) (g : Nat → Nat → Nat) (hl : Nat → Nat → Int64) (rt : Nat × Nat × Nat × Nat) (hI : MI g) (x : Nat) (hx : x < 2 ^ 32) {Q : Po} (hq : Q (some (.int (nI (rs_feed g x)))) (HN (gs_feed g x) hl (RF rt))) : Ev L xs (d + 1) 139 0 [(0, .ref 166), (1, .int (nI x))] [] (HN g hl (RF rt)) Q := by
  have hW := hI.hW
  have hS := hI.hS
  have hPl := hI.hPl
  have hNx := hI.hNx
  have hLa := hI.hLa
  have hLo := hI.hLo
  have hTb := hI.hTb
  have hTh := hI.hTh
  have hFd := hI.hFd
  have hSn := hI.hSn
  have hSh := hI.hSh
  have hRan := hI.hRan
  have hLr := hI.hLr
  have hLt := hI.hLt
  have hgl := hI.hgl
  have hsz := hI.hsz
  have hcm := hI.hcm
  have hsl := hI.hsl
  have hkd := hI.hkd
  have hvv := hI.hvv
  have hli := hI.hli
  have hro := hI.hro
  have hrw := hI.hrw
  have htx := hI.htx
  have hsw := hI.hsw
  have hsx := hI.hsx
  have hsy := hI.hsy
  have hsh := hI.hsh
  have hle := hI.hle
  have hcl := hI.hcl
  have hwd := hI.hwd
  have hnu := hI.hnu
  have hwn := hI.hwn
  have hs1 := hI.hs1
  have hso := hI.hso
  refine Ev.run 4 (pc' := 5) (lv' := [(0, .ref 166), (1, .int (nI x))]) (st' := [.int (nI 127), .int (nI 0), .int (nI x), .ref 166]) (h' := HN g hl (RF rt)) rfl ?_
  refine Ev.call (a := 126) (as := [.ref 166, .int (nI x), .int (nI 0), .int (nI 127)]) (rest := []) (lv0 := [(0, .ref 166), (1, .int (nI x)), (2, .int (nI 0)), (3, .int (nI 127))]) (Q1 := (fun z0 h' => z0 = some (.int (nI (bn (decide (x ≤ 127))))) ∧ h' = HN g hl (RF rt))) rfl rfl (C_in _ _ _ _ (nI x) (nI 0) (nI 127) (by rw [in0 (by omega) (by omega)]; exact ⟨rfl, rfl⟩)) (fun r h' hr => ?_)
  obtain ⟨rfl, rfl⟩ := hr
  refine Ev_bn (fun hb8 => ?_) (fun hb8 => ?_)
  · have hhb8 : x ≤ 127 := of_decide_eq_true hb8
    refine Ev.run 5 (pc' := (if nI (g 166 17) = nI 100 then 23 else 26)) (lv' := [(0, .ref 166), (1, .int (nI x))]) (st' := []) (h' := HN g hl (RF rt)) rfl ?_
    refine Ev.ite (fun hc20 => ?_) (fun hc20 => ?_)
    · have hc20 : (g 166 17) = 100 := (nI_eqU (by omega) (by omega)).mp hc20
      refine Ev.run 1 (pc' := 25) (lv' := [(0, .ref 166), (1, .int (nI x))]) (st' := [.int (nI 4294967292)]) (h' := HN g hl (RF rt)) rfl ?_
      refine Ev.ret (v := some (.int (nI 4294967292))) rfl ?_
      simp only [rs_feed, gs_feed, if_pos hhb8, if_pos hc20] at hq
      exact hq
    · have hc20 : ¬ ((g 166 17) = 100) := fun z => hc20 ((nI_eqU (by omega) (by omega)).mpr z)
      refine Ev.run 5 (pc' := 35) (lv' := [(0, .ref 166), (1, .int (nI x))]) (st' := [.int (nI x), .int (nI (g 166 17)), .ref 176]) (h' := HN g hl (RF rt)) rfl ?_
      refine Ev_iast rfl rfl (show g 166 17 < 100 by omega) (Nat.le_of_ble_eq_true rfl) ?_
      refine Ev.run 5 (pc' := 43) (lv' := [(0, .ref 166), (1, .int (nI x))]) (st' := [.int (nI (g 166 17) + nI 1), .ref 166]) (h' := HN (u2 g 176 (g 166 17) x) hl (RF rt)) rfl ?_
      refine Ev.topI (nI_add _ _) ?_
      refine Ev.run 1 (pc' := 46) (lv' := [(0, .ref 166), (1, .int (nI x))]) (st' := []) (h' := setI (HN (u2 g 176 (g 166 17) x) hl (RF rt)) 166 17 (nI ((g 166 17) + 1))) rfl ?_
      refine Ev.hp (HN_set _ _ _ _ _ _) ?_
      refine Ev.run 2 (pc' := 50) (lv' := [(0, .ref 166), (1, .int (nI x))]) (st' := [.int (nI ((g 166 17) + 1))]) (h' := HN (u2 (u2 g 176 (g 166 17) x) 166 17 ((g 166 17) + 1)) hl (RF rt)) rfl ?_
      refine Ev.ret (v := some (.int (nI ((g 166 17) + 1)))) rfl ?_
      simp only [rs_feed, gs_feed, if_pos hhb8, if_neg hc20] at hq
      exact hq
  · have hhb8 : ¬ (x ≤ 127) := of_decide_eq_false hb8
    refine Ev.run 2 (pc' := 13) (lv' := [(0, .ref 166), (1, .int (nI x))]) (st' := [.int (nI 4294967294)]) (h' := HN g hl (RF rt)) rfl ?_
    refine Ev.ret (v := some (.int (nI 4294967294))) rfl ?_
    simp only [rs_feed, gs_feed, if_neg hhb8] at hq
    exact hq
def rs_begin (g : Nat → Nat → Nat) (p : Nat) : Nat := if p < g 166 6 then (if g 173 p = 0 then 4294967293 else g 166 7) else 4294967295
def gs_begin (g : Nat → Nat → Nat) (p : Nat) : Nat → Nat → Nat := if p < g 166 6 then (if g 173 p = 0 then g else u2 (u2 (u2 g 166 9 0) 166 8 4294967295) 166 7 p) else g
theorem C_begin {L : Nat} {xs : Nat → Int32} (d : Nat) (g : Nat → Nat → Nat) (hl : Nat → Nat → Int64) (rt : Nat × Nat × Nat × Nat) (hI : MI g) (p : Nat) (hp : p < 2 ^ 32) {Q : Po} (hq : Q (some (.int (nI (rs_begin g p)))) (HN (gs_begin g p) hl (RF rt))) : Ev L xs (d + 2) 194 0 [(0, .ref 166), (1, .int (nI p))] [] (HN g hl (RF rt)) Q := by
  have hW := hI.hW
  have hS := hI.hS
  have hPl := hI.hPl
  have hNx := hI.hNx
  have hLa := hI.hLa
  have hLo := hI.hLo
  have hTb := hI.hTb
  have hTh := hI.hTh
  have hFd := hI.hFd
  have hSn := hI.hSn
  have hSh := hI.hSh
  have hRan := hI.hRan
  have hLr := hI.hLr
  have hLt := hI.hLt
  have hgl := hI.hgl
  have hsz := hI.hsz
  have hcm := hI.hcm
  have hsl := hI.hsl
  have hkd := hI.hkd
  have hvv := hI.hvv
  have hli := hI.hli
  have hro := hI.hro
  have hrw := hI.hrw
  have htx := hI.htx
  have hsw := hI.hsw
  have hsx := hI.hsx
  have hsy := hI.hsy
  have hsh := hI.hsh
  have hle := hI.hle
  have hcl := hI.hcl
  have hwd := hI.hwd
  have hnu := hI.hnu
  have hwn := hI.hwn
  have hs1 := hI.hs1
  have hso := hI.hso
  refine Ev.run 2 (pc' := 2) (lv' := [(0, .ref 166), (1, .int (nI p))]) (st' := [.int (nI p), .ref 166]) (h' := HN g hl (RF rt)) rfl ?_
  refine Ev.call (a := 135) (as := [.ref 166, .int (nI p)]) (rest := []) (lv0 := [(0, .ref 166), (1, .int (nI p))]) (Q1 := (fun z0 h' => z0 = some (.int (nI (bn (decide (p < g 166 6))))) ∧ h' = HN g hl (RF rt))) rfl rfl (C_isPlayer _ _ _ _ p (by omega) hPl ⟨rfl, rfl⟩) (fun r h' hr => ?_)
  obtain ⟨rfl, rfl⟩ := hr
  refine Ev_bn (fun hb5 => ?_) (fun hb5 => ?_)
  · have hhb5 : p < g 166 6 := of_decide_eq_true hb5
    refine Ev.run 4 (pc' := 15) (lv' := [(0, .ref 166), (1, .int (nI p))]) (st' := [.int (nI p), .ref 173]) (h' := HN g hl (RF rt)) rfl ?_
    refine Ev_iald rfl rfl (show p < 5 by omega) (Nat.le_of_ble_eq_true rfl) ?_
    have hr0 := hli p (by omega)
    refine Ev.run 1 (pc' := (if nI (g 173 p) = 0 then 19 else 22)) (lv' := [(0, .ref 166), (1, .int (nI p))]) (st' := []) (h' := HN g hl (RF rt)) rfl ?_
    refine Ev.ite (fun hc16 => ?_) (fun hc16 => ?_)
    · have hc16 : (g 173 p) = 0 := (nI_eqU0 (by omega)).mp hc16
      refine Ev.run 1 (pc' := 21) (lv' := [(0, .ref 166), (1, .int (nI p))]) (st' := [.int (nI 4294967293)]) (h' := HN g hl (RF rt)) rfl ?_
      refine Ev.ret (v := some (.int (nI 4294967293))) rfl ?_
      simp only [rs_begin, gs_begin, if_pos hhb5, if_pos hc16] at hq
      exact hq
    · have hc16 : ¬ ((g 173 p) = 0) := fun z => hc16 ((nI_eqU0 (by omega)).mpr z)
      refine Ev.run 6 (pc' := 32) (lv' := [(2, .int (nI (g 166 7))), (0, .ref 166), (1, .int (nI p))]) (st' := []) (h' := setI (HN g hl (RF rt)) 166 9 (nI 0)) rfl ?_
      refine Ev.hp (HN_set _ _ _ _ _ _) ?_
      refine Ev.run 3 (pc' := 37) (lv' := [(2, .int (nI (g 166 7))), (0, .ref 166), (1, .int (nI p))]) (st' := []) (h' := setI (HN (u2 g 166 9 0) hl (RF rt)) 166 8 (nI 4294967295)) rfl ?_
      refine Ev.hp (HN_set _ _ _ _ _ _) ?_
      refine Ev.run 3 (pc' := 42) (lv' := [(2, .int (nI (g 166 7))), (0, .ref 166), (1, .int (nI p))]) (st' := []) (h' := setI (HN (u2 (u2 g 166 9 0) 166 8 4294967295) hl (RF rt)) 166 7 (nI p)) rfl ?_
      refine Ev.hp (HN_set _ _ _ _ _ _) ?_
      refine Ev.run 1 (pc' := 43) (lv' := [(2, .int (nI (g 166 7))), (0, .ref 166), (1, .int (nI p))]) (st' := [.int (nI (g 166 7))]) (h' := HN (u2 (u2 (u2 g 166 9 0) 166 8 4294967295) 166 7 p) hl (RF rt)) rfl ?_
      refine Ev.ret (v := some (.int (nI (g 166 7)))) rfl ?_
      simp only [rs_begin, gs_begin, if_pos hhb5, if_neg hc16] at hq
      exact hq
  · have hhb5 : ¬ (p < g 166 6) := of_decide_eq_false hb5
    refine Ev.run 2 (pc' := 9) (lv' := [(0, .ref 166), (1, .int (nI p))]) (st' := [.int (nI 4294967295)]) (h' := HN g hl (RF rt)) rfl ?_
    refine Ev.ret (v := some (.int (nI 4294967295))) rfl ?_
    simp only [rs_begin, gs_begin, if_neg hhb5] at hq
    exact hq
def rs_sheet (g : Nat → Nat → Nat) (p : Nat) : Nat := if p = 4294967295 then 0 else if p < g 166 6 then (if g 166 48 = 8 then 4294967292 else g 166 48 + 1) else 4294967295
def gs_sheet (g : Nat → Nat → Nat) (p : Nat) : Nat → Nat → Nat := if p = 4294967295 then u2 g 166 48 0 else if p < g 166 6 then (if g 166 48 = 8 then g else u2 (u2 g 192 (g 166 48) p) 166 48 (g 166 48 + 1)) else g
theorem C_sheet {L : Nat} {xs : Nat → Int32} (d : Nat) (g : Nat → Nat → Nat) (hl : Nat → Nat → Int64) (rt : Nat × Nat × Nat × Nat) (hI : MI g) (p : Nat) (hp : p < 2 ^ 32) {Q : Po} (hq : Q (some (.int (nI (rs_sheet g p)))) (HN (gs_sheet g p) hl (RF rt))) : Ev L xs (d + 2) 218 0 [(0, .ref 166), (1, .int (nI p))] [] (HN g hl (RF rt)) Q := by
  have hW := hI.hW
  have hS := hI.hS
  have hPl := hI.hPl
  have hNx := hI.hNx
  have hLa := hI.hLa
  have hLo := hI.hLo
  have hTb := hI.hTb
  have hTh := hI.hTh
  have hFd := hI.hFd
  have hSn := hI.hSn
  have hSh := hI.hSh
  have hRan := hI.hRan
  have hLr := hI.hLr
  have hLt := hI.hLt
  have hgl := hI.hgl
  have hsz := hI.hsz
  have hcm := hI.hcm
  have hsl := hI.hsl
  have hkd := hI.hkd
  have hvv := hI.hvv
  have hli := hI.hli
  have hro := hI.hro
  have hrw := hI.hrw
  have htx := hI.htx
  have hsw := hI.hsw
  have hsx := hI.hsx
  have hsy := hI.hsy
  have hsh := hI.hsh
  have hle := hI.hle
  have hcl := hI.hcl
  have hwd := hI.hwd
  have hnu := hI.hnu
  have hwn := hI.hwn
  have hs1 := hI.hs1
  have hso := hI.hso
  refine Ev.run 3 (pc' := (if nI p = nI 4294967295 then 5 else 12)) (lv' := [(0, .ref 166), (1, .int (nI p))]) (st' := []) (h' := HN g hl (RF rt)) rfl ?_
  refine Ev.ite (fun hc2 => ?_) (fun hc2 => ?_)
  · have hc2 : p = 4294967295 := (nI_eqU (by omega) (by omega)).mp hc2
    refine Ev.run 3 (pc' := 10) (lv' := [(0, .ref 166), (1, .int (nI p))]) (st' := []) (h' := setI (HN g hl (RF rt)) 166 48 (nI 0)) rfl ?_
    refine Ev.hp (HN_set _ _ _ _ _ _) ?_
    refine Ev.run 1 (pc' := 11) (lv' := [(0, .ref 166), (1, .int (nI p))]) (st' := [.int (nI 0)]) (h' := HN (u2 g 166 48 0) hl (RF rt)) rfl ?_
    refine Ev.ret (v := some (.int (nI 0))) rfl ?_
    simp only [rs_sheet, gs_sheet, if_pos hc2] at hq
    exact hq
  · have hc2 : ¬ (p = 4294967295) := fun z => hc2 ((nI_eqU (by omega) (by omega)).mpr z)
    refine Ev.run 2 (pc' := 14) (lv' := [(0, .ref 166), (1, .int (nI p))]) (st' := [.int (nI p), .ref 166]) (h' := HN g hl (RF rt)) rfl ?_
    refine Ev.call (a := 135) (as := [.ref 166, .int (nI p)]) (rest := []) (lv0 := [(0, .ref 166), (1, .int (nI p))]) (Q1 := (fun z0 h' => z0 = some (.int (nI (bn (decide (p < g 166 6))))) ∧ h' = HN g hl (RF rt))) rfl rfl (C_isPlayer _ _ _ _ p (by omega) hPl ⟨rfl, rfl⟩) (fun r h' hr => ?_)
    obtain ⟨rfl, rfl⟩ := hr
    refine Ev_bn (fun hb17 => ?_) (fun hb17 => ?_)
    · have hhb17 : p < g 166 6 := of_decide_eq_true hb17
      refine Ev.run 5 (pc' := (if nI (g 166 48) = nI 8 then 31 else 34)) (lv' := [(0, .ref 166), (1, .int (nI p))]) (st' := []) (h' := HN g hl (RF rt)) rfl ?_
      refine Ev.ite (fun hc28 => ?_) (fun hc28 => ?_)
      · have hc28 : (g 166 48) = 8 := (nI_eqU (by omega) (by omega)).mp hc28
        refine Ev.run 1 (pc' := 33) (lv' := [(0, .ref 166), (1, .int (nI p))]) (st' := [.int (nI 4294967292)]) (h' := HN g hl (RF rt)) rfl ?_
        refine Ev.ret (v := some (.int (nI 4294967292))) rfl ?_
        simp only [rs_sheet, gs_sheet, if_neg hc2, if_pos hhb17, if_pos hc28] at hq
        exact hq
      · have hc28 : ¬ ((g 166 48) = 8) := fun z => hc28 ((nI_eqU (by omega) (by omega)).mpr z)
        refine Ev.run 5 (pc' := 43) (lv' := [(0, .ref 166), (1, .int (nI p))]) (st' := [.int (nI p), .int (nI (g 166 48)), .ref 192]) (h' := HN g hl (RF rt)) rfl ?_
        refine Ev_iast rfl rfl (show g 166 48 < 8 by omega) (Nat.le_of_ble_eq_true rfl) ?_
        refine Ev.run 5 (pc' := 51) (lv' := [(0, .ref 166), (1, .int (nI p))]) (st' := [.int (nI (g 166 48) + nI 1), .ref 166]) (h' := HN (u2 g 192 (g 166 48) p) hl (RF rt)) rfl ?_
        refine Ev.topI (nI_add _ _) ?_
        refine Ev.run 1 (pc' := 54) (lv' := [(0, .ref 166), (1, .int (nI p))]) (st' := []) (h' := setI (HN (u2 g 192 (g 166 48) p) hl (RF rt)) 166 48 (nI ((g 166 48) + 1))) rfl ?_
        refine Ev.hp (HN_set _ _ _ _ _ _) ?_
        refine Ev.run 2 (pc' := 58) (lv' := [(0, .ref 166), (1, .int (nI p))]) (st' := [.int (nI ((g 166 48) + 1))]) (h' := HN (u2 (u2 g 192 (g 166 48) p) 166 48 ((g 166 48) + 1)) hl (RF rt)) rfl ?_
        refine Ev.ret (v := some (.int (nI ((g 166 48) + 1)))) rfl ?_
        simp only [rs_sheet, gs_sheet, if_neg hc2, if_pos hhb17, if_neg hc28] at hq
        exact hq
    · have hhb17 : ¬ (p < g 166 6) := of_decide_eq_false hb17
      refine Ev.run 2 (pc' := 21) (lv' := [(0, .ref 166), (1, .int (nI p))]) (st' := [.int (nI 4294967295)]) (h' := HN g hl (RF rt)) rfl ?_
      refine Ev.ret (v := some (.int (nI 4294967295))) rfl ?_
      simp only [rs_sheet, gs_sheet, if_neg hc2, if_neg hhb17] at hq
      exact hq
theorem in1b {v w : Nat} (hv : v < 2 ^ 32) (hw : w < 2 ^ 31) : (decide (nI 1 ≤ nI v) && decide (nI v ≤ nI w)) = decide (1 ≤ v ∧ v ≤ w) := by
  rw [decide_eq_decide.mpr Int32.le_iff_toInt_le, decide_eq_decide.mpr Int32.le_iff_toInt_le, ← Bool.decide_and, nI_tI hv, nI_toInt hw, nI_toInt (by decide)]
  refine decide_eq_decide.mpr ?_
  split <;> omega
def rs_see (g : Nat → Nat → Nat) (p i n : Nat) : Nat := if p = 4294967295 then 0 else if p < g 166 6 then (if i < g 166 0 then (if 1 ≤ n ∧ n ≤ g 168 i then (if g 166 44 = 6 then 4294967292 else g 166 44 + 1) else 4294967294) else 4294967295) else 4294967295
def gs_see (g : Nat → Nat → Nat) (p i n : Nat) : Nat → Nat → Nat := if p = 4294967295 then u2 g 166 44 0 else if p < g 166 6 then (if i < g 166 0 then (if 1 ≤ n ∧ n ≤ g 168 i then (if g 166 44 = 6 then g else u2 (u2 (u2 (u2 g 189 (g 166 44) p) 190 (g 166 44) i) 191 (g 166 44) n) 166 44 (g 166 44 + 1)) else g) else g) else g
theorem C_see {L : Nat} {xs : Nat → Int32} (d : Nat) (g : Nat → Nat → Nat) (hl : Nat → Nat → Int64) (rt : Nat × Nat × Nat × Nat) (hI : MI g) (p : Nat) (i : Nat) (n : Nat) (hp : p < 2 ^ 32) (hi : i < 2 ^ 32) (hn : n < 2 ^ 32) {Q : Po} (hq : Q (some (.int (nI (rs_see g p i n)))) (HN (gs_see g p i n) hl (RF rt))) : Ev L xs (d + 2) 210 0 [(0, .ref 166), (1, .int (nI p)), (2, .int (nI i)), (3, .int (nI n))] [] (HN g hl (RF rt)) Q := by
  have hW := hI.hW
  have hS := hI.hS
  have hPl := hI.hPl
  have hNx := hI.hNx
  have hLa := hI.hLa
  have hLo := hI.hLo
  have hTb := hI.hTb
  have hTh := hI.hTh
  have hFd := hI.hFd
  have hSn := hI.hSn
  have hSh := hI.hSh
  have hRan := hI.hRan
  have hLr := hI.hLr
  have hLt := hI.hLt
  have hgl := hI.hgl
  have hsz := hI.hsz
  have hcm := hI.hcm
  have hsl := hI.hsl
  have hkd := hI.hkd
  have hvv := hI.hvv
  have hli := hI.hli
  have hro := hI.hro
  have hrw := hI.hrw
  have htx := hI.htx
  have hsw := hI.hsw
  have hsx := hI.hsx
  have hsy := hI.hsy
  have hsh := hI.hsh
  have hle := hI.hle
  have hcl := hI.hcl
  have hwd := hI.hwd
  have hnu := hI.hnu
  have hwn := hI.hwn
  have hs1 := hI.hs1
  have hso := hI.hso
  refine Ev.run 3 (pc' := (if nI p = nI 4294967295 then 5 else 12)) (lv' := [(0, .ref 166), (1, .int (nI p)), (2, .int (nI i)), (3, .int (nI n))]) (st' := []) (h' := HN g hl (RF rt)) rfl ?_
  refine Ev.ite (fun hc2 => ?_) (fun hc2 => ?_)
  · have hc2 : p = 4294967295 := (nI_eqU (by omega) (by omega)).mp hc2
    refine Ev.run 3 (pc' := 10) (lv' := [(0, .ref 166), (1, .int (nI p)), (2, .int (nI i)), (3, .int (nI n))]) (st' := []) (h' := setI (HN g hl (RF rt)) 166 44 (nI 0)) rfl ?_
    refine Ev.hp (HN_set _ _ _ _ _ _) ?_
    refine Ev.run 1 (pc' := 11) (lv' := [(0, .ref 166), (1, .int (nI p)), (2, .int (nI i)), (3, .int (nI n))]) (st' := [.int (nI 0)]) (h' := HN (u2 g 166 44 0) hl (RF rt)) rfl ?_
    refine Ev.ret (v := some (.int (nI 0))) rfl ?_
    simp only [rs_see, gs_see, if_pos hc2] at hq
    exact hq
  · have hc2 : ¬ (p = 4294967295) := fun z => hc2 ((nI_eqU (by omega) (by omega)).mpr z)
    refine Ev.run 2 (pc' := 14) (lv' := [(0, .ref 166), (1, .int (nI p)), (2, .int (nI i)), (3, .int (nI n))]) (st' := [.int (nI p), .ref 166]) (h' := HN g hl (RF rt)) rfl ?_
    refine Ev.call (a := 135) (as := [.ref 166, .int (nI p)]) (rest := []) (lv0 := [(0, .ref 166), (1, .int (nI p))]) (Q1 := (fun z0 h' => z0 = some (.int (nI (bn (decide (p < g 166 6))))) ∧ h' = HN g hl (RF rt))) rfl rfl (C_isPlayer _ _ _ _ p (by omega) hPl ⟨rfl, rfl⟩) (fun r h' hr => ?_)
    obtain ⟨rfl, rfl⟩ := hr
    refine Ev_bn (fun hb17 => ?_) (fun hb17 => ?_)
    · have hhb17 : p < g 166 6 := of_decide_eq_true hb17
      refine Ev.run 3 (pc' := 22) (lv' := [(0, .ref 166), (1, .int (nI p)), (2, .int (nI i)), (3, .int (nI n))]) (st' := [.int (nI i), .ref 166]) (h' := HN g hl (RF rt)) rfl ?_
      refine Ev.call (a := 130) (as := [.ref 166, .int (nI i)]) (rest := []) (lv0 := [(0, .ref 166), (1, .int (nI i))]) (Q1 := (fun z0 h' => z0 = some (.int (nI (bn (decide (i < g 166 0))))) ∧ h' = HN g hl (RF rt))) rfl rfl (C_isWord _ _ _ _ i (by omega) hW ⟨rfl, rfl⟩) (fun r h' hr => ?_)
      obtain ⟨rfl, rfl⟩ := hr
      refine Ev_bn (fun hb25 => ?_) (fun hb25 => ?_)
      · have hhb25 : i < g 166 0 := of_decide_eq_true hb25
        refine Ev.run 7 (pc' := 38) (lv' := [(0, .ref 166), (1, .int (nI p)), (2, .int (nI i)), (3, .int (nI n))]) (st' := [.int (nI i), .ref 168, .int (nI 1), .int (nI n), .ref 166]) (h' := HN g hl (RF rt)) rfl ?_
        refine Ev_iald rfl rfl (show i < 12 by omega) (Nat.le_of_ble_eq_true rfl) ?_
        have hr0 := hsz i (by omega)
        refine Ev.call (a := 126) (as := [.ref 166, .int (nI n), .int (nI 1), .int (nI (g 168 i))]) (rest := []) (lv0 := [(0, .ref 166), (1, .int (nI n)), (2, .int (nI 1)), (3, .int (nI (g 168 i)))]) (Q1 := (fun z0 h' => z0 = some (.int (nI (bn (decide (1 ≤ n ∧ n ≤ g 168 i))))) ∧ h' = HN g hl (RF rt))) rfl rfl (C_in _ _ _ _ (nI n) (nI 1) (nI (g 168 i)) (by rw [in1b (by omega) (by omega)]; exact ⟨rfl, rfl⟩)) (fun r h' hr => ?_)
        obtain ⟨rfl, rfl⟩ := hr
        refine Ev_bn (fun hb42 => ?_) (fun hb42 => ?_)
        · have hhb42 : 1 ≤ n ∧ n ≤ g 168 i := of_decide_eq_true hb42
          refine Ev.run 5 (pc' := (if nI (g 166 44) = nI 6 then 57 else 60)) (lv' := [(0, .ref 166), (1, .int (nI p)), (2, .int (nI i)), (3, .int (nI n))]) (st' := []) (h' := HN g hl (RF rt)) rfl ?_
          refine Ev.ite (fun hc54 => ?_) (fun hc54 => ?_)
          · have hc54 : (g 166 44) = 6 := (nI_eqU (by omega) (by omega)).mp hc54
            refine Ev.run 1 (pc' := 59) (lv' := [(0, .ref 166), (1, .int (nI p)), (2, .int (nI i)), (3, .int (nI n))]) (st' := [.int (nI 4294967292)]) (h' := HN g hl (RF rt)) rfl ?_
            refine Ev.ret (v := some (.int (nI 4294967292))) rfl ?_
            simp only [rs_see, gs_see, if_neg hc2, if_pos hhb17, if_pos hhb25, if_pos hhb42, if_pos hc54] at hq
            exact hq
          · have hc54 : ¬ ((g 166 44) = 6) := fun z => hc54 ((nI_eqU (by omega) (by omega)).mpr z)
            refine Ev.run 5 (pc' := 69) (lv' := [(0, .ref 166), (1, .int (nI p)), (2, .int (nI i)), (3, .int (nI n))]) (st' := [.int (nI p), .int (nI (g 166 44)), .ref 189]) (h' := HN g hl (RF rt)) rfl ?_
            refine Ev_iast rfl rfl (show g 166 44 < 6 by omega) (Nat.le_of_ble_eq_true rfl) ?_
            refine Ev.run 5 (pc' := 79) (lv' := [(0, .ref 166), (1, .int (nI p)), (2, .int (nI i)), (3, .int (nI n))]) (st' := [.int (nI i), .int (nI (g 166 44)), .ref 190]) (h' := HN (u2 g 189 (g 166 44) p) hl (RF rt)) rfl ?_
            refine Ev_iast rfl rfl (show g 166 44 < 6 by omega) (Nat.le_of_ble_eq_true rfl) ?_
            refine Ev.run 5 (pc' := 89) (lv' := [(0, .ref 166), (1, .int (nI p)), (2, .int (nI i)), (3, .int (nI n))]) (st' := [.int (nI n), .int (nI (g 166 44)), .ref 191]) (h' := HN (u2 (u2 g 189 (g 166 44) p) 190 (g 166 44) i) hl (RF rt)) rfl ?_
            refine Ev_iast rfl rfl (show g 166 44 < 6 by omega) (Nat.le_of_ble_eq_true rfl) ?_
            refine Ev.run 5 (pc' := 97) (lv' := [(0, .ref 166), (1, .int (nI p)), (2, .int (nI i)), (3, .int (nI n))]) (st' := [.int (nI (g 166 44) + nI 1), .ref 166]) (h' := HN (u2 (u2 (u2 g 189 (g 166 44) p) 190 (g 166 44) i) 191 (g 166 44) n) hl (RF rt)) rfl ?_
            refine Ev.topI (nI_add _ _) ?_
            refine Ev.run 1 (pc' := 100) (lv' := [(0, .ref 166), (1, .int (nI p)), (2, .int (nI i)), (3, .int (nI n))]) (st' := []) (h' := setI (HN (u2 (u2 (u2 g 189 (g 166 44) p) 190 (g 166 44) i) 191 (g 166 44) n) hl (RF rt)) 166 44 (nI ((g 166 44) + 1))) rfl ?_
            refine Ev.hp (HN_set _ _ _ _ _ _) ?_
            refine Ev.run 2 (pc' := 104) (lv' := [(0, .ref 166), (1, .int (nI p)), (2, .int (nI i)), (3, .int (nI n))]) (st' := [.int (nI ((g 166 44) + 1))]) (h' := HN (u2 (u2 (u2 (u2 g 189 (g 166 44) p) 190 (g 166 44) i) 191 (g 166 44) n) 166 44 ((g 166 44) + 1)) hl (RF rt)) rfl ?_
            refine Ev.ret (v := some (.int (nI ((g 166 44) + 1)))) rfl ?_
            simp only [rs_see, gs_see, if_neg hc2, if_pos hhb17, if_pos hhb25, if_pos hhb42, if_neg hc54] at hq
            exact hq
        · have hhb42 : ¬ (1 ≤ n ∧ n ≤ g 168 i) := of_decide_eq_false hb42
          refine Ev.run 2 (pc' := 47) (lv' := [(0, .ref 166), (1, .int (nI p)), (2, .int (nI i)), (3, .int (nI n))]) (st' := [.int (nI 4294967294)]) (h' := HN g hl (RF rt)) rfl ?_
          refine Ev.ret (v := some (.int (nI 4294967294))) rfl ?_
          simp only [rs_see, gs_see, if_neg hc2, if_pos hhb17, if_pos hhb25, if_neg hhb42] at hq
          exact hq
      · have hhb25 : ¬ (i < g 166 0) := of_decide_eq_false hb25
        refine Ev.run 2 (pc' := 29) (lv' := [(0, .ref 166), (1, .int (nI p)), (2, .int (nI i)), (3, .int (nI n))]) (st' := [.int (nI 4294967295)]) (h' := HN g hl (RF rt)) rfl ?_
        refine Ev.ret (v := some (.int (nI 4294967295))) rfl ?_
        simp only [rs_see, gs_see, if_neg hc2, if_pos hhb17, if_neg hhb25] at hq
        exact hq
    · have hhb17 : ¬ (p < g 166 6) := of_decide_eq_false hb17
      refine Ev.run 2 (pc' := 29) (lv' := [(0, .ref 166), (1, .int (nI p)), (2, .int (nI i)), (3, .int (nI n))]) (st' := [.int (nI 4294967295)]) (h' := HN g hl (RF rt)) rfl ?_
      refine Ev.ret (v := some (.int (nI 4294967295))) rfl ?_
      simp only [rs_see, gs_see, if_neg hc2, if_neg hhb17] at hq
      exact hq
def rs_trace (g : Nat → Nat → Nat) (i : Nat) : Nat := if i ≤ 19 then (if g 166 71 ≤ i then 4294967295 else g 205 i) else 4294967295
theorem C_trace {L : Nat} {xs : Nat → Int32} (d : Nat) (g : Nat → Nat → Nat) (hl : Nat → Nat → Int64) (rt : Nat × Nat × Nat × Nat) (hI : MI g) (i : Nat) (hi : i < 2 ^ 32) {Q : Po} (hq : Q (some (.int (nI (rs_trace g i)))) (HN g hl (RF rt))) : Ev L xs (d + 1) 232 0 [(0, .ref 166), (1, .int (nI i))] [] (HN g hl (RF rt)) Q := by
  have hW := hI.hW
  have hS := hI.hS
  have hPl := hI.hPl
  have hNx := hI.hNx
  have hLa := hI.hLa
  have hLo := hI.hLo
  have hTb := hI.hTb
  have hTh := hI.hTh
  have hFd := hI.hFd
  have hSn := hI.hSn
  have hSh := hI.hSh
  have hRan := hI.hRan
  have hLr := hI.hLr
  have hLt := hI.hLt
  have hgl := hI.hgl
  have hsz := hI.hsz
  have hcm := hI.hcm
  have hsl := hI.hsl
  have hkd := hI.hkd
  have hvv := hI.hvv
  have hli := hI.hli
  have hro := hI.hro
  have hrw := hI.hrw
  have htx := hI.htx
  have hsw := hI.hsw
  have hsx := hI.hsx
  have hsy := hI.hsy
  have hsh := hI.hsh
  have hle := hI.hle
  have hcl := hI.hcl
  have hwd := hI.hwd
  have hnu := hI.hnu
  have hwn := hI.hwn
  have hs1 := hI.hs1
  have hso := hI.hso
  refine Ev.run 4 (pc' := 5) (lv' := [(0, .ref 166), (1, .int (nI i))]) (st' := [.int (nI 19), .int (nI 0), .int (nI i), .ref 166]) (h' := HN g hl (RF rt)) rfl ?_
  refine Ev.call (a := 126) (as := [.ref 166, .int (nI i), .int (nI 0), .int (nI 19)]) (rest := []) (lv0 := [(0, .ref 166), (1, .int (nI i)), (2, .int (nI 0)), (3, .int (nI 19))]) (Q1 := (fun z0 h' => z0 = some (.int (nI (bn (decide (i ≤ 19))))) ∧ h' = HN g hl (RF rt))) rfl rfl (C_in _ _ _ _ (nI i) (nI 0) (nI 19) (by rw [in0 (by omega) (by omega)]; exact ⟨rfl, rfl⟩)) (fun r h' hr => ?_)
  obtain ⟨rfl, rfl⟩ := hr
  refine Ev_bn (fun hb8 => ?_) (fun hb8 => ?_)
  · have hhb8 : i ≤ 19 := of_decide_eq_true hb8
    refine Ev.run 5 (pc' := (if nI (g 166 71) ≤ nI i then 28 else 19)) (lv' := [(0, .ref 166), (1, .int (nI i))]) (st' := []) (h' := HN g hl (RF rt)) rfl ?_
    refine Ev.ite (fun hc16 => ?_) (fun hc16 => ?_)
    · have hc16 : (g 166 71) ≤ i := (nI_leI (by omega) (by omega)).mp hc16
      refine Ev.run 1 (pc' := 29) (lv' := [(0, .ref 166), (1, .int (nI i))]) (st' := [.int (nI 4294967295)]) (h' := HN g hl (RF rt)) rfl ?_
      refine Ev.ret (v := some (.int (nI 4294967295))) rfl ?_
      simp only [rs_trace, if_pos hhb8, if_pos hc16] at hq
      exact hq
    · have hc16 : ¬ ((g 166 71) ≤ i) := fun z => hc16 ((nI_leI (by omega) (by omega)).mpr z)
      refine Ev.run 3 (pc' := 24) (lv' := [(0, .ref 166), (1, .int (nI i))]) (st' := [.int (nI i), .ref 205]) (h' := HN g hl (RF rt)) rfl ?_
      refine Ev_iald rfl rfl (show i < 20 by omega) (Nat.le_of_ble_eq_true rfl) ?_
      refine Ev.run 1 (pc' := 29) (lv' := [(0, .ref 166), (1, .int (nI i))]) (st' := [.int (nI (g 205 i))]) (h' := HN g hl (RF rt)) rfl ?_
      refine Ev.ret (v := some (.int (nI (g 205 i)))) rfl ?_
      simp only [rs_trace, if_pos hhb8, if_neg hc16] at hq
      exact hq
  · have hhb8 : ¬ (i ≤ 19) := of_decide_eq_false hb8
    refine Ev.run 2 (pc' := 29) (lv' := [(0, .ref 166), (1, .int (nI i))]) (st' := [.int (nI 4294967295)]) (h' := HN g hl (RF rt)) rfl ?_
    refine Ev.ret (v := some (.int (nI 4294967295))) rfl ?_
    simp only [rs_trace, if_neg hhb8] at hq
    exact hq
def rs_count (g : Nat → Nat → Nat) (x : Nat) : Nat := if x = 0 then g 166 6 else if x = 1 then g 166 0 else if x = 2 then g 166 15 else if x = 3 then g 166 44 else if x = 4 then g 166 48 else if x = 5 then g 166 17 else if x = 6 then g 166 1 else if x = 7 then g 166 71 else 4294967294
theorem C_count {L : Nat} {xs : Nat → Int32} (d : Nat) (g : Nat → Nat → Nat) (hl : Nat → Nat → Int64) (rt : Nat × Nat × Nat × Nat) (x : Nat) (hx : x < 2 ^ 32) {Q : Po} (hq : Q (some (.int (nI (rs_count g x)))) (HN g hl (RF rt))) : Ev L xs d 234 0 [(0, .ref 166), (1, .int (nI x))] [] (HN g hl (RF rt)) Q := by
  refine Ev.run 1 (pc' := 1) (lv' := [(0, .ref 166), (1, .int (nI x))]) (st' := [.int (nI x)]) (h' := HN g hl (RF rt)) rfl ?_
  by_cases hs1_0 : x = 0
  · refine Ev.topI (congrArg nI hs1_0) ?_
    refine Ev.run 3 (pc' := 52) (lv' := [(0, .ref 166), (1, .int (nI x))]) (st' := [.int (nI (g 166 6))]) (h' := HN g hl (RF rt)) rfl ?_
    refine Ev.ret (v := some (.int (nI (g 166 6)))) rfl ?_
    simp only [rs_count, if_pos hs1_0] at hq
    exact hq
  by_cases hs1_1 : x = 1
  · refine Ev.topI (congrArg nI hs1_1) ?_
    refine Ev.run 3 (pc' := 57) (lv' := [(0, .ref 166), (1, .int (nI x))]) (st' := [.int (nI (g 166 0))]) (h' := HN g hl (RF rt)) rfl ?_
    refine Ev.ret (v := some (.int (nI (g 166 0)))) rfl ?_
    simp only [rs_count, if_neg hs1_0, if_pos hs1_1] at hq
    exact hq
  by_cases hs1_2 : x = 2
  · refine Ev.topI (congrArg nI hs1_2) ?_
    refine Ev.run 3 (pc' := 62) (lv' := [(0, .ref 166), (1, .int (nI x))]) (st' := [.int (nI (g 166 15))]) (h' := HN g hl (RF rt)) rfl ?_
    refine Ev.ret (v := some (.int (nI (g 166 15)))) rfl ?_
    simp only [rs_count, if_neg hs1_0, if_neg hs1_1, if_pos hs1_2] at hq
    exact hq
  by_cases hs1_3 : x = 3
  · refine Ev.topI (congrArg nI hs1_3) ?_
    refine Ev.run 3 (pc' := 67) (lv' := [(0, .ref 166), (1, .int (nI x))]) (st' := [.int (nI (g 166 44))]) (h' := HN g hl (RF rt)) rfl ?_
    refine Ev.ret (v := some (.int (nI (g 166 44)))) rfl ?_
    simp only [rs_count, if_neg hs1_0, if_neg hs1_1, if_neg hs1_2, if_pos hs1_3] at hq
    exact hq
  by_cases hs1_4 : x = 4
  · refine Ev.topI (congrArg nI hs1_4) ?_
    refine Ev.run 3 (pc' := 72) (lv' := [(0, .ref 166), (1, .int (nI x))]) (st' := [.int (nI (g 166 48))]) (h' := HN g hl (RF rt)) rfl ?_
    refine Ev.ret (v := some (.int (nI (g 166 48)))) rfl ?_
    simp only [rs_count, if_neg hs1_0, if_neg hs1_1, if_neg hs1_2, if_neg hs1_3, if_pos hs1_4] at hq
    exact hq
  by_cases hs1_5 : x = 5
  · refine Ev.topI (congrArg nI hs1_5) ?_
    refine Ev.run 3 (pc' := 77) (lv' := [(0, .ref 166), (1, .int (nI x))]) (st' := [.int (nI (g 166 17))]) (h' := HN g hl (RF rt)) rfl ?_
    refine Ev.ret (v := some (.int (nI (g 166 17)))) rfl ?_
    simp only [rs_count, if_neg hs1_0, if_neg hs1_1, if_neg hs1_2, if_neg hs1_3, if_neg hs1_4, if_pos hs1_5] at hq
    exact hq
  by_cases hs1_6 : x = 6
  · refine Ev.topI (congrArg nI hs1_6) ?_
    refine Ev.run 3 (pc' := 82) (lv' := [(0, .ref 166), (1, .int (nI x))]) (st' := [.int (nI (g 166 1))]) (h' := HN g hl (RF rt)) rfl ?_
    refine Ev.ret (v := some (.int (nI (g 166 1)))) rfl ?_
    simp only [rs_count, if_neg hs1_0, if_neg hs1_1, if_neg hs1_2, if_neg hs1_3, if_neg hs1_4, if_neg hs1_5, if_pos hs1_6] at hq
    exact hq
  by_cases hs1_7 : x = 7
  · refine Ev.topI (congrArg nI hs1_7) ?_
    refine Ev.run 3 (pc' := 87) (lv' := [(0, .ref 166), (1, .int (nI x))]) (st' := [.int (nI (g 166 71))]) (h' := HN g hl (RF rt)) rfl ?_
    refine Ev.ret (v := some (.int (nI (g 166 71)))) rfl ?_
    simp only [rs_count, if_neg hs1_0, if_neg hs1_1, if_neg hs1_2, if_neg hs1_3, if_neg hs1_4, if_neg hs1_5, if_neg hs1_6, if_pos hs1_7] at hq
    exact hq
  refine Ev_tsOut (tgt := 88) rfl (sw_out (x := x) (hi := 7) (by omega) (by omega) (by omega)) rfl ?_
  refine Ev.run 1 (pc' := 90) (lv' := [(0, .ref 166), (1, .int (nI x))]) (st' := [.int (nI 4294967294)]) (h' := HN g hl (RF rt)) rfl ?_
  refine Ev.ret (v := some (.int (nI 4294967294))) rfl ?_
  simp only [rs_count, if_neg hs1_0, if_neg hs1_1, if_neg hs1_2, if_neg hs1_3, if_neg hs1_4, if_neg hs1_5, if_neg hs1_6, if_neg hs1_7] at hq
  exact hq
def rs_taken (g : Nat → Nat → Nat) (p k : Nat) : Nat := if k ≤ 6 then (if p < g 166 6 then (if k = 0 ∨ g 171 p = k ∨ (k = 1 ∧ g 171 p = 4) ∨ (k = 2 ∧ g 171 p = 5) ∨ (k = 3 ∧ g 171 p = 6) then g 171 p else 4294967284) else 4294967285) else 4294967294
theorem C_taken {L : Nat} {xs : Nat → Int32} (d : Nat) (g : Nat → Nat → Nat) (hl : Nat → Nat → Int64) (rt : Nat × Nat × Nat × Nat) (hI : MI g) (p : Nat) (k : Nat) (hp : p < 2 ^ 32) (hk : k < 2 ^ 32) {Q : Po} (hq : Q (some (.int (nI (rs_taken g p k)))) (HN g hl (RF rt))) : Ev L xs (d + 2) 233 0 [(0, .ref 166), (1, .int (nI p)), (2, .int (nI k))] [] (HN g hl (RF rt)) Q := by
  have hW := hI.hW
  have hS := hI.hS
  have hPl := hI.hPl
  have hNx := hI.hNx
  have hLa := hI.hLa
  have hLo := hI.hLo
  have hTb := hI.hTb
  have hTh := hI.hTh
  have hFd := hI.hFd
  have hSn := hI.hSn
  have hSh := hI.hSh
  have hRan := hI.hRan
  have hLr := hI.hLr
  have hLt := hI.hLt
  have hgl := hI.hgl
  have hsz := hI.hsz
  have hcm := hI.hcm
  have hsl := hI.hsl
  have hkd := hI.hkd
  have hvv := hI.hvv
  have hli := hI.hli
  have hro := hI.hro
  have hrw := hI.hrw
  have htx := hI.htx
  have hsw := hI.hsw
  have hsx := hI.hsx
  have hsy := hI.hsy
  have hsh := hI.hsh
  have hle := hI.hle
  have hcl := hI.hcl
  have hwd := hI.hwd
  have hnu := hI.hnu
  have hwn := hI.hwn
  have hs1 := hI.hs1
  have hso := hI.hso
  refine Ev.run 4 (pc' := 5) (lv' := [(0, .ref 166), (1, .int (nI p)), (2, .int (nI k))]) (st' := [.int (nI 6), .int (nI 0), .int (nI k), .ref 166]) (h' := HN g hl (RF rt)) rfl ?_
  refine Ev.call (a := 126) (as := [.ref 166, .int (nI k), .int (nI 0), .int (nI 6)]) (rest := []) (lv0 := [(0, .ref 166), (1, .int (nI k)), (2, .int (nI 0)), (3, .int (nI 6))]) (Q1 := (fun z0 h' => z0 = some (.int (nI (bn (decide (k ≤ 6))))) ∧ h' = HN g hl (RF rt))) rfl rfl (C_in _ _ _ _ (nI k) (nI 0) (nI 6) (by rw [in0 (by omega) (by omega)]; exact ⟨rfl, rfl⟩)) (fun r h' hr => ?_)
  obtain ⟨rfl, rfl⟩ := hr
  refine Ev_bn (fun hb8 => ?_) (fun hb8 => ?_)
  · have hhb8 : k ≤ 6 := of_decide_eq_true hb8
    refine Ev.run 3 (pc' := 16) (lv' := [(0, .ref 166), (1, .int (nI p)), (2, .int (nI k))]) (st' := [.int (nI p), .ref 166]) (h' := HN g hl (RF rt)) rfl ?_
    refine Ev.call (a := 135) (as := [.ref 166, .int (nI p)]) (rest := []) (lv0 := [(0, .ref 166), (1, .int (nI p))]) (Q1 := (fun z0 h' => z0 = some (.int (nI (bn (decide (p < g 166 6))))) ∧ h' = HN g hl (RF rt))) rfl rfl (C_isPlayer _ _ _ _ p (by omega) hPl ⟨rfl, rfl⟩) (fun r h' hr => ?_)
    obtain ⟨rfl, rfl⟩ := hr
    refine Ev_bn (fun hb19 => ?_) (fun hb19 => ?_)
    · have hhb19 : p < g 166 6 := of_decide_eq_true hb19
      refine Ev.run 4 (pc' := 30) (lv' := [(0, .ref 166), (1, .int (nI p)), (2, .int (nI k))]) (st' := [.int (nI p), .ref 171]) (h' := HN g hl (RF rt)) rfl ?_
      refine Ev_iald rfl rfl (show p < 5 by omega) (Nat.le_of_ble_eq_true rfl) ?_
      have hr0 := hkd p (by omega)
      refine Ev.run 3 (pc' := (if nI k = 0 then 72 else 36)) (lv' := [(3, .int (nI (g 171 p))), (0, .ref 166), (1, .int (nI p)), (2, .int (nI k))]) (st' := []) (h' := HN g hl (RF rt)) rfl ?_
      refine Ev.ite (fun hc33 => ?_) (fun hc33 => ?_)
      · have hc33 : k = 0 := (nI_eqU0 (by omega)).mp hc33
        refine Ev.run 2 (pc' := 78) (lv' := [(3, .int (nI (g 171 p))), (0, .ref 166), (1, .int (nI p)), (2, .int (nI k))]) (st' := [.int (nI (g 171 p))]) (h' := HN g hl (RF rt)) rfl ?_
        refine Ev.ret (v := some (.int (nI (g 171 p)))) rfl ?_
        first
          | (simp only [rs_taken, if_pos hhb8, if_pos hhb19, if_pos hc33] at hq; exact hq)
          | (simp only [rs_taken, if_pos hhb8, if_pos hhb19] at hq; rw [if_pos (by omega)] at hq; exact hq)
          | (simp only [rs_taken, if_pos hhb8, if_pos hhb19] at hq; rw [if_neg (by omega)] at hq; exact hq)
      · have hc33 : ¬ (k = 0) := fun z => hc33 ((nI_eqU0 (by omega)).mpr z)
        refine Ev.run 3 (pc' := (if nI (g 171 p) = nI k then 72 else 41)) (lv' := [(3, .int (nI (g 171 p))), (0, .ref 166), (1, .int (nI p)), (2, .int (nI k))]) (st' := []) (h' := HN g hl (RF rt)) rfl ?_
        refine Ev.ite (fun hc38 => ?_) (fun hc38 => ?_)
        · have hc38 : (g 171 p) = k := (nI_eqU (by omega) (by omega)).mp hc38
          refine Ev.run 2 (pc' := 78) (lv' := [(3, .int (nI (g 171 p))), (0, .ref 166), (1, .int (nI p)), (2, .int (nI k))]) (st' := [.int (nI (g 171 p))]) (h' := HN g hl (RF rt)) rfl ?_
          refine Ev.ret (v := some (.int (nI (g 171 p)))) rfl ?_
          first
            | (simp only [rs_taken, if_pos hhb8, if_pos hhb19, if_neg hc33, if_pos hc38] at hq; exact hq)
            | (simp only [rs_taken, if_pos hhb8, if_pos hhb19] at hq; rw [if_pos (by omega)] at hq; exact hq)
            | (simp only [rs_taken, if_pos hhb8, if_pos hhb19] at hq; rw [if_neg (by omega)] at hq; exact hq)
        · have hc38 : ¬ ((g 171 p) = k) := fun z => hc38 ((nI_eqU (by omega) (by omega)).mpr z)
          refine Ev.run 3 (pc' := (if nI k = nI 1 then 46 else 51)) (lv' := [(3, .int (nI (g 171 p))), (0, .ref 166), (1, .int (nI p)), (2, .int (nI k))]) (st' := []) (h' := HN g hl (RF rt)) rfl ?_
          refine Ev.ite (fun hc43 => ?_) (fun hc43 => ?_)
          · have hc43 : k = 1 := (nI_eqU (by omega) (by omega)).mp hc43
            refine Ev.run 3 (pc' := (if nI (g 171 p) = nI 4 then 72 else 51)) (lv' := [(3, .int (nI (g 171 p))), (0, .ref 166), (1, .int (nI p)), (2, .int (nI k))]) (st' := []) (h' := HN g hl (RF rt)) rfl ?_
            refine Ev.ite (fun hc48 => ?_) (fun hc48 => ?_)
            · have hc48 : (g 171 p) = 4 := (nI_eqU (by omega) (by omega)).mp hc48
              refine Ev.run 2 (pc' := 78) (lv' := [(3, .int (nI (g 171 p))), (0, .ref 166), (1, .int (nI p)), (2, .int (nI k))]) (st' := [.int (nI (g 171 p))]) (h' := HN g hl (RF rt)) rfl ?_
              refine Ev.ret (v := some (.int (nI (g 171 p)))) rfl ?_
              first
                | (simp only [rs_taken, if_pos hhb8, if_pos hhb19, if_neg hc33, if_neg hc38, if_pos hc43, if_pos hc48] at hq; exact hq)
                | (simp only [rs_taken, if_pos hhb8, if_pos hhb19] at hq; rw [if_pos (by omega)] at hq; exact hq)
                | (simp only [rs_taken, if_pos hhb8, if_pos hhb19] at hq; rw [if_neg (by omega)] at hq; exact hq)
            · have hc48 : ¬ ((g 171 p) = 4) := fun z => hc48 ((nI_eqU (by omega) (by omega)).mpr z)
              refine Ev.run 3 (pc' := (if nI k = nI 2 then 56 else 61)) (lv' := [(3, .int (nI (g 171 p))), (0, .ref 166), (1, .int (nI p)), (2, .int (nI k))]) (st' := []) (h' := HN g hl (RF rt)) rfl ?_
              refine Ev.ite (fun hc53 => ?_) (fun hc53 => ?_)
              · have hc53 : k = 2 := (nI_eqU (by omega) (by omega)).mp hc53
                refine Ev.run 3 (pc' := (if nI (g 171 p) = nI 5 then 72 else 61)) (lv' := [(3, .int (nI (g 171 p))), (0, .ref 166), (1, .int (nI p)), (2, .int (nI k))]) (st' := []) (h' := HN g hl (RF rt)) rfl ?_
                refine Ev.ite (fun hc58 => ?_) (fun hc58 => ?_)
                · have hc58 : (g 171 p) = 5 := (nI_eqU (by omega) (by omega)).mp hc58
                  refine Ev.run 2 (pc' := 78) (lv' := [(3, .int (nI (g 171 p))), (0, .ref 166), (1, .int (nI p)), (2, .int (nI k))]) (st' := [.int (nI (g 171 p))]) (h' := HN g hl (RF rt)) rfl ?_
                  refine Ev.ret (v := some (.int (nI (g 171 p)))) rfl ?_
                  first
                    | (simp only [rs_taken, if_pos hhb8, if_pos hhb19, if_neg hc33, if_neg hc38, if_pos hc43, if_neg hc48, if_pos hc53, if_pos hc58] at hq; exact hq)
                    | (simp only [rs_taken, if_pos hhb8, if_pos hhb19] at hq; rw [if_pos (by omega)] at hq; exact hq)
                    | (simp only [rs_taken, if_pos hhb8, if_pos hhb19] at hq; rw [if_neg (by omega)] at hq; exact hq)
                · have hc58 : ¬ ((g 171 p) = 5) := fun z => hc58 ((nI_eqU (by omega) (by omega)).mpr z)
                  refine Ev.run 3 (pc' := (if nI k = nI 3 then 66 else 76)) (lv' := [(3, .int (nI (g 171 p))), (0, .ref 166), (1, .int (nI p)), (2, .int (nI k))]) (st' := []) (h' := HN g hl (RF rt)) rfl ?_
                  refine Ev.ite (fun hc63 => ?_) (fun hc63 => ?_)
                  · have hc63 : k = 3 := (nI_eqU (by omega) (by omega)).mp hc63
                    refine Ev.run 3 (pc' := (if nI (g 171 p) = nI 6 then 72 else 76)) (lv' := [(3, .int (nI (g 171 p))), (0, .ref 166), (1, .int (nI p)), (2, .int (nI k))]) (st' := []) (h' := HN g hl (RF rt)) rfl ?_
                    refine Ev.ite (fun hc69 => ?_) (fun hc69 => ?_)
                    · have hc69 : (g 171 p) = 6 := (nI_eqU (by omega) (by omega)).mp hc69
                      refine Ev.run 2 (pc' := 78) (lv' := [(3, .int (nI (g 171 p))), (0, .ref 166), (1, .int (nI p)), (2, .int (nI k))]) (st' := [.int (nI (g 171 p))]) (h' := HN g hl (RF rt)) rfl ?_
                      refine Ev.ret (v := some (.int (nI (g 171 p)))) rfl ?_
                      first
                        | (simp only [rs_taken, if_pos hhb8, if_pos hhb19, if_neg hc33, if_neg hc38, if_pos hc43, if_neg hc48, if_pos hc53, if_neg hc58, if_pos hc63, if_pos hc69] at hq; exact hq)
                        | (simp only [rs_taken, if_pos hhb8, if_pos hhb19] at hq; rw [if_pos (by omega)] at hq; exact hq)
                        | (simp only [rs_taken, if_pos hhb8, if_pos hhb19] at hq; rw [if_neg (by omega)] at hq; exact hq)
                    · have hc69 : ¬ ((g 171 p) = 6) := fun z => hc69 ((nI_eqU (by omega) (by omega)).mpr z)
                      refine Ev.run 1 (pc' := 78) (lv' := [(3, .int (nI (g 171 p))), (0, .ref 166), (1, .int (nI p)), (2, .int (nI k))]) (st' := [.int (nI 4294967284)]) (h' := HN g hl (RF rt)) rfl ?_
                      refine Ev.ret (v := some (.int (nI 4294967284))) rfl ?_
                      first
                        | (simp only [rs_taken, if_pos hhb8, if_pos hhb19, if_neg hc33, if_neg hc38, if_pos hc43, if_neg hc48, if_pos hc53, if_neg hc58, if_pos hc63, if_neg hc69] at hq; exact hq)
                        | (simp only [rs_taken, if_pos hhb8, if_pos hhb19] at hq; rw [if_pos (by omega)] at hq; exact hq)
                        | (simp only [rs_taken, if_pos hhb8, if_pos hhb19] at hq; rw [if_neg (by omega)] at hq; exact hq)
                  · have hc63 : ¬ (k = 3) := fun z => hc63 ((nI_eqU (by omega) (by omega)).mpr z)
                    refine Ev.run 1 (pc' := 78) (lv' := [(3, .int (nI (g 171 p))), (0, .ref 166), (1, .int (nI p)), (2, .int (nI k))]) (st' := [.int (nI 4294967284)]) (h' := HN g hl (RF rt)) rfl ?_
                    refine Ev.ret (v := some (.int (nI 4294967284))) rfl ?_
                    first
                      | (simp only [rs_taken, if_pos hhb8, if_pos hhb19, if_neg hc33, if_neg hc38, if_pos hc43, if_neg hc48, if_pos hc53, if_neg hc58, if_neg hc63] at hq; exact hq)
                      | (simp only [rs_taken, if_pos hhb8, if_pos hhb19] at hq; rw [if_pos (by omega)] at hq; exact hq)
                      | (simp only [rs_taken, if_pos hhb8, if_pos hhb19] at hq; rw [if_neg (by omega)] at hq; exact hq)
              · have hc53 : ¬ (k = 2) := fun z => hc53 ((nI_eqU (by omega) (by omega)).mpr z)
                refine Ev.run 3 (pc' := (if nI k = nI 3 then 66 else 76)) (lv' := [(3, .int (nI (g 171 p))), (0, .ref 166), (1, .int (nI p)), (2, .int (nI k))]) (st' := []) (h' := HN g hl (RF rt)) rfl ?_
                refine Ev.ite (fun hc63 => ?_) (fun hc63 => ?_)
                · have hc63 : k = 3 := (nI_eqU (by omega) (by omega)).mp hc63
                  refine Ev.run 3 (pc' := (if nI (g 171 p) = nI 6 then 72 else 76)) (lv' := [(3, .int (nI (g 171 p))), (0, .ref 166), (1, .int (nI p)), (2, .int (nI k))]) (st' := []) (h' := HN g hl (RF rt)) rfl ?_
                  refine Ev.ite (fun hc69 => ?_) (fun hc69 => ?_)
                  · have hc69 : (g 171 p) = 6 := (nI_eqU (by omega) (by omega)).mp hc69
                    refine Ev.run 2 (pc' := 78) (lv' := [(3, .int (nI (g 171 p))), (0, .ref 166), (1, .int (nI p)), (2, .int (nI k))]) (st' := [.int (nI (g 171 p))]) (h' := HN g hl (RF rt)) rfl ?_
                    refine Ev.ret (v := some (.int (nI (g 171 p)))) rfl ?_
                    first
                      | (simp only [rs_taken, if_pos hhb8, if_pos hhb19, if_neg hc33, if_neg hc38, if_pos hc43, if_neg hc48, if_neg hc53, if_pos hc63, if_pos hc69] at hq; exact hq)
                      | (simp only [rs_taken, if_pos hhb8, if_pos hhb19] at hq; rw [if_pos (by omega)] at hq; exact hq)
                      | (simp only [rs_taken, if_pos hhb8, if_pos hhb19] at hq; rw [if_neg (by omega)] at hq; exact hq)
                  · have hc69 : ¬ ((g 171 p) = 6) := fun z => hc69 ((nI_eqU (by omega) (by omega)).mpr z)
                    refine Ev.run 1 (pc' := 78) (lv' := [(3, .int (nI (g 171 p))), (0, .ref 166), (1, .int (nI p)), (2, .int (nI k))]) (st' := [.int (nI 4294967284)]) (h' := HN g hl (RF rt)) rfl ?_
                    refine Ev.ret (v := some (.int (nI 4294967284))) rfl ?_
                    first
                      | (simp only [rs_taken, if_pos hhb8, if_pos hhb19, if_neg hc33, if_neg hc38, if_pos hc43, if_neg hc48, if_neg hc53, if_pos hc63, if_neg hc69] at hq; exact hq)
                      | (simp only [rs_taken, if_pos hhb8, if_pos hhb19] at hq; rw [if_pos (by omega)] at hq; exact hq)
                      | (simp only [rs_taken, if_pos hhb8, if_pos hhb19] at hq; rw [if_neg (by omega)] at hq; exact hq)
                · have hc63 : ¬ (k = 3) := fun z => hc63 ((nI_eqU (by omega) (by omega)).mpr z)
                  refine Ev.run 1 (pc' := 78) (lv' := [(3, .int (nI (g 171 p))), (0, .ref 166), (1, .int (nI p)), (2, .int (nI k))]) (st' := [.int (nI 4294967284)]) (h' := HN g hl (RF rt)) rfl ?_
                  refine Ev.ret (v := some (.int (nI 4294967284))) rfl ?_
                  first
                    | (simp only [rs_taken, if_pos hhb8, if_pos hhb19, if_neg hc33, if_neg hc38, if_pos hc43, if_neg hc48, if_neg hc53, if_neg hc63] at hq; exact hq)
                    | (simp only [rs_taken, if_pos hhb8, if_pos hhb19] at hq; rw [if_pos (by omega)] at hq; exact hq)
                    | (simp only [rs_taken, if_pos hhb8, if_pos hhb19] at hq; rw [if_neg (by omega)] at hq; exact hq)
          · have hc43 : ¬ (k = 1) := fun z => hc43 ((nI_eqU (by omega) (by omega)).mpr z)
            refine Ev.run 3 (pc' := (if nI k = nI 2 then 56 else 61)) (lv' := [(3, .int (nI (g 171 p))), (0, .ref 166), (1, .int (nI p)), (2, .int (nI k))]) (st' := []) (h' := HN g hl (RF rt)) rfl ?_
            refine Ev.ite (fun hc53 => ?_) (fun hc53 => ?_)
            · have hc53 : k = 2 := (nI_eqU (by omega) (by omega)).mp hc53
              refine Ev.run 3 (pc' := (if nI (g 171 p) = nI 5 then 72 else 61)) (lv' := [(3, .int (nI (g 171 p))), (0, .ref 166), (1, .int (nI p)), (2, .int (nI k))]) (st' := []) (h' := HN g hl (RF rt)) rfl ?_
              refine Ev.ite (fun hc58 => ?_) (fun hc58 => ?_)
              · have hc58 : (g 171 p) = 5 := (nI_eqU (by omega) (by omega)).mp hc58
                refine Ev.run 2 (pc' := 78) (lv' := [(3, .int (nI (g 171 p))), (0, .ref 166), (1, .int (nI p)), (2, .int (nI k))]) (st' := [.int (nI (g 171 p))]) (h' := HN g hl (RF rt)) rfl ?_
                refine Ev.ret (v := some (.int (nI (g 171 p)))) rfl ?_
                first
                  | (simp only [rs_taken, if_pos hhb8, if_pos hhb19, if_neg hc33, if_neg hc38, if_neg hc43, if_pos hc53, if_pos hc58] at hq; exact hq)
                  | (simp only [rs_taken, if_pos hhb8, if_pos hhb19] at hq; rw [if_pos (by omega)] at hq; exact hq)
                  | (simp only [rs_taken, if_pos hhb8, if_pos hhb19] at hq; rw [if_neg (by omega)] at hq; exact hq)
              · have hc58 : ¬ ((g 171 p) = 5) := fun z => hc58 ((nI_eqU (by omega) (by omega)).mpr z)
                refine Ev.run 3 (pc' := (if nI k = nI 3 then 66 else 76)) (lv' := [(3, .int (nI (g 171 p))), (0, .ref 166), (1, .int (nI p)), (2, .int (nI k))]) (st' := []) (h' := HN g hl (RF rt)) rfl ?_
                refine Ev.ite (fun hc63 => ?_) (fun hc63 => ?_)
                · have hc63 : k = 3 := (nI_eqU (by omega) (by omega)).mp hc63
                  refine Ev.run 3 (pc' := (if nI (g 171 p) = nI 6 then 72 else 76)) (lv' := [(3, .int (nI (g 171 p))), (0, .ref 166), (1, .int (nI p)), (2, .int (nI k))]) (st' := []) (h' := HN g hl (RF rt)) rfl ?_
                  refine Ev.ite (fun hc69 => ?_) (fun hc69 => ?_)
                  · have hc69 : (g 171 p) = 6 := (nI_eqU (by omega) (by omega)).mp hc69
                    refine Ev.run 2 (pc' := 78) (lv' := [(3, .int (nI (g 171 p))), (0, .ref 166), (1, .int (nI p)), (2, .int (nI k))]) (st' := [.int (nI (g 171 p))]) (h' := HN g hl (RF rt)) rfl ?_
                    refine Ev.ret (v := some (.int (nI (g 171 p)))) rfl ?_
                    first
                      | (simp only [rs_taken, if_pos hhb8, if_pos hhb19, if_neg hc33, if_neg hc38, if_neg hc43, if_pos hc53, if_neg hc58, if_pos hc63, if_pos hc69] at hq; exact hq)
                      | (simp only [rs_taken, if_pos hhb8, if_pos hhb19] at hq; rw [if_pos (by omega)] at hq; exact hq)
                      | (simp only [rs_taken, if_pos hhb8, if_pos hhb19] at hq; rw [if_neg (by omega)] at hq; exact hq)
                  · have hc69 : ¬ ((g 171 p) = 6) := fun z => hc69 ((nI_eqU (by omega) (by omega)).mpr z)
                    refine Ev.run 1 (pc' := 78) (lv' := [(3, .int (nI (g 171 p))), (0, .ref 166), (1, .int (nI p)), (2, .int (nI k))]) (st' := [.int (nI 4294967284)]) (h' := HN g hl (RF rt)) rfl ?_
                    refine Ev.ret (v := some (.int (nI 4294967284))) rfl ?_
                    first
                      | (simp only [rs_taken, if_pos hhb8, if_pos hhb19, if_neg hc33, if_neg hc38, if_neg hc43, if_pos hc53, if_neg hc58, if_pos hc63, if_neg hc69] at hq; exact hq)
                      | (simp only [rs_taken, if_pos hhb8, if_pos hhb19] at hq; rw [if_pos (by omega)] at hq; exact hq)
                      | (simp only [rs_taken, if_pos hhb8, if_pos hhb19] at hq; rw [if_neg (by omega)] at hq; exact hq)
                · have hc63 : ¬ (k = 3) := fun z => hc63 ((nI_eqU (by omega) (by omega)).mpr z)
                  refine Ev.run 1 (pc' := 78) (lv' := [(3, .int (nI (g 171 p))), (0, .ref 166), (1, .int (nI p)), (2, .int (nI k))]) (st' := [.int (nI 4294967284)]) (h' := HN g hl (RF rt)) rfl ?_
                  refine Ev.ret (v := some (.int (nI 4294967284))) rfl ?_
                  first
                    | (simp only [rs_taken, if_pos hhb8, if_pos hhb19, if_neg hc33, if_neg hc38, if_neg hc43, if_pos hc53, if_neg hc58, if_neg hc63] at hq; exact hq)
                    | (simp only [rs_taken, if_pos hhb8, if_pos hhb19] at hq; rw [if_pos (by omega)] at hq; exact hq)
                    | (simp only [rs_taken, if_pos hhb8, if_pos hhb19] at hq; rw [if_neg (by omega)] at hq; exact hq)
            · have hc53 : ¬ (k = 2) := fun z => hc53 ((nI_eqU (by omega) (by omega)).mpr z)
              refine Ev.run 3 (pc' := (if nI k = nI 3 then 66 else 76)) (lv' := [(3, .int (nI (g 171 p))), (0, .ref 166), (1, .int (nI p)), (2, .int (nI k))]) (st' := []) (h' := HN g hl (RF rt)) rfl ?_
              refine Ev.ite (fun hc63 => ?_) (fun hc63 => ?_)
              · have hc63 : k = 3 := (nI_eqU (by omega) (by omega)).mp hc63
                refine Ev.run 3 (pc' := (if nI (g 171 p) = nI 6 then 72 else 76)) (lv' := [(3, .int (nI (g 171 p))), (0, .ref 166), (1, .int (nI p)), (2, .int (nI k))]) (st' := []) (h' := HN g hl (RF rt)) rfl ?_
                refine Ev.ite (fun hc69 => ?_) (fun hc69 => ?_)
                · have hc69 : (g 171 p) = 6 := (nI_eqU (by omega) (by omega)).mp hc69
                  refine Ev.run 2 (pc' := 78) (lv' := [(3, .int (nI (g 171 p))), (0, .ref 166), (1, .int (nI p)), (2, .int (nI k))]) (st' := [.int (nI (g 171 p))]) (h' := HN g hl (RF rt)) rfl ?_
                  refine Ev.ret (v := some (.int (nI (g 171 p)))) rfl ?_
                  first
                    | (simp only [rs_taken, if_pos hhb8, if_pos hhb19, if_neg hc33, if_neg hc38, if_neg hc43, if_neg hc53, if_pos hc63, if_pos hc69] at hq; exact hq)
                    | (simp only [rs_taken, if_pos hhb8, if_pos hhb19] at hq; rw [if_pos (by omega)] at hq; exact hq)
                    | (simp only [rs_taken, if_pos hhb8, if_pos hhb19] at hq; rw [if_neg (by omega)] at hq; exact hq)
                · have hc69 : ¬ ((g 171 p) = 6) := fun z => hc69 ((nI_eqU (by omega) (by omega)).mpr z)
                  refine Ev.run 1 (pc' := 78) (lv' := [(3, .int (nI (g 171 p))), (0, .ref 166), (1, .int (nI p)), (2, .int (nI k))]) (st' := [.int (nI 4294967284)]) (h' := HN g hl (RF rt)) rfl ?_
                  refine Ev.ret (v := some (.int (nI 4294967284))) rfl ?_
                  first
                    | (simp only [rs_taken, if_pos hhb8, if_pos hhb19, if_neg hc33, if_neg hc38, if_neg hc43, if_neg hc53, if_pos hc63, if_neg hc69] at hq; exact hq)
                    | (simp only [rs_taken, if_pos hhb8, if_pos hhb19] at hq; rw [if_pos (by omega)] at hq; exact hq)
                    | (simp only [rs_taken, if_pos hhb8, if_pos hhb19] at hq; rw [if_neg (by omega)] at hq; exact hq)
              · have hc63 : ¬ (k = 3) := fun z => hc63 ((nI_eqU (by omega) (by omega)).mpr z)
                refine Ev.run 1 (pc' := 78) (lv' := [(3, .int (nI (g 171 p))), (0, .ref 166), (1, .int (nI p)), (2, .int (nI k))]) (st' := [.int (nI 4294967284)]) (h' := HN g hl (RF rt)) rfl ?_
                refine Ev.ret (v := some (.int (nI 4294967284))) rfl ?_
                first
                  | (simp only [rs_taken, if_pos hhb8, if_pos hhb19, if_neg hc33, if_neg hc38, if_neg hc43, if_neg hc53, if_neg hc63] at hq; exact hq)
                  | (simp only [rs_taken, if_pos hhb8, if_pos hhb19] at hq; rw [if_pos (by omega)] at hq; exact hq)
                  | (simp only [rs_taken, if_pos hhb8, if_pos hhb19] at hq; rw [if_neg (by omega)] at hq; exact hq)
    · have hhb19 : ¬ (p < g 166 6) := of_decide_eq_false hb19
      refine Ev.run 2 (pc' := 24) (lv' := [(0, .ref 166), (1, .int (nI p)), (2, .int (nI k))]) (st' := [.int (nI 4294967285)]) (h' := HN g hl (RF rt)) rfl ?_
      refine Ev.ret (v := some (.int (nI 4294967285))) rfl ?_
      first
        | (simp only [rs_taken, if_pos hhb8, if_neg hhb19] at hq; exact hq)
        | (simp only [rs_taken, if_pos hhb8, if_neg hhb19] at hq; rw [if_pos (by omega)] at hq; exact hq)
        | (simp only [rs_taken, if_pos hhb8, if_neg hhb19] at hq; rw [if_neg (by omega)] at hq; exact hq)
  · have hhb8 : ¬ (k ≤ 6) := of_decide_eq_false hb8
    refine Ev.run 2 (pc' := 13) (lv' := [(0, .ref 166), (1, .int (nI p)), (2, .int (nI k))]) (st' := [.int (nI 4294967294)]) (h' := HN g hl (RF rt)) rfl ?_
    refine Ev.ret (v := some (.int (nI 4294967294))) rfl ?_
    first
      | (simp only [rs_taken, if_neg hhb8] at hq; exact hq)
      | (simp only [rs_taken, if_neg hhb8] at hq; rw [if_pos (by omega)] at hq; exact hq)
      | (simp only [rs_taken, if_neg hhb8] at hq; rw [if_neg (by omega)] at hq; exact hq)
