/-! bounds of the reference's cells -/
def MI (g : Nat → Nat → Nat) : Prop := (g 166 0 ≤ 12) ∧ (g 166 1 ≤ 6) ∧ (g 166 6 ≤ 5) ∧ (g 166 7 ≤ 4) ∧ (g 166 8 ≤ 4 ∨ g 166 8 = 4294967295) ∧ (g 166 9 ≤ 12) ∧ (g 166 15 ≤ 6) ∧ (g 166 16 ≤ 5 ∨ g 166 16 = 4294967295) ∧ (g 166 17 ≤ 100) ∧ (g 166 44 ≤ 6) ∧ (g 166 48 ≤ 8) ∧ (g 166 71 ≤ 60) ∧ (g 166 33 ≤ 4 ∨ g 166 33 = 4294967295) ∧ (g 166 34 ≤ 11) ∧ (∀ j, j < 72 → g 167 j ≤ 3) ∧ (∀ j, j < 12 → g 168 j ≤ 6) ∧ (∀ j, j < 12 → g 169 j ≤ 9) ∧ (∀ j, j < 6 → g 170 j ≤ 3) ∧ (∀ j, j < 5 → g 171 j ≤ 6) ∧ (∀ j, j < 5 → g 172 j ≤ 9) ∧ (∀ j, j < 5 → g 173 j ≤ 99) ∧ (∀ j, j < 20 → g 174 j ≤ 3) ∧ (∀ j, j < 12 → g 175 j ≤ 3) ∧ (∀ j, j < 100 → g 176 j ≤ 127) ∧ (∀ j, j < 6 → g 189 j ≤ 4) ∧ (∀ j, j < 6 → g 190 j ≤ 11) ∧ (∀ j, j < 6 → g 191 j ≤ 6) ∧ (∀ j, j < 8 → g 192 j ≤ 4) ∧ (∀ j, j < 6 → g 207 j ≤ 60) ∧ (∀ j, j < 6 → g 177 j ≤ 10) ∧ (∀ j, j < 60 → g 178 j ≤ 2) ∧ (∀ j, j < 60 → g 179 j ≤ 99) ∧ (∀ j, j < 84 → g 186 j ≤ 1) ∧ (∀ i, i < g 166 0 → 1 ≤ g 168 i) ∧ (∀ j, j < 6 → g 206 j ≤ 4 ∨ g 206 j = 4294967295)
theorem MI.hW {g : Nat → Nat → Nat} (h : MI g) : g 166 0 ≤ 12 := h.1
theorem MI.hS {g : Nat → Nat → Nat} (h : MI g) : g 166 1 ≤ 6 := h.2.1
theorem MI.hPl {g : Nat → Nat → Nat} (h : MI g) : g 166 6 ≤ 5 := h.2.2.1
theorem MI.hNx {g : Nat → Nat → Nat} (h : MI g) : g 166 7 ≤ 4 := h.2.2.2.1
theorem MI.hLa {g : Nat → Nat → Nat} (h : MI g) : g 166 8 ≤ 4 ∨ g 166 8 = 4294967295 := h.2.2.2.2.1
theorem MI.hLo {g : Nat → Nat → Nat} (h : MI g) : g 166 9 ≤ 12 := h.2.2.2.2.2.1
theorem MI.hTb {g : Nat → Nat → Nat} (h : MI g) : g 166 15 ≤ 6 := h.2.2.2.2.2.2.1
theorem MI.hTh {g : Nat → Nat → Nat} (h : MI g) : g 166 16 ≤ 5 ∨ g 166 16 = 4294967295 := h.2.2.2.2.2.2.2.1
theorem MI.hFd {g : Nat → Nat → Nat} (h : MI g) : g 166 17 ≤ 100 := h.2.2.2.2.2.2.2.2.1
theorem MI.hSn {g : Nat → Nat → Nat} (h : MI g) : g 166 44 ≤ 6 := h.2.2.2.2.2.2.2.2.2.1
theorem MI.hSh {g : Nat → Nat → Nat} (h : MI g) : g 166 48 ≤ 8 := h.2.2.2.2.2.2.2.2.2.2.1
theorem MI.hRan {g : Nat → Nat → Nat} (h : MI g) : g 166 71 ≤ 60 := h.2.2.2.2.2.2.2.2.2.2.2.1
theorem MI.hLr {g : Nat → Nat → Nat} (h : MI g) : g 166 33 ≤ 4 ∨ g 166 33 = 4294967295 := h.2.2.2.2.2.2.2.2.2.2.2.2.1
theorem MI.hLt {g : Nat → Nat → Nat} (h : MI g) : g 166 34 ≤ 11 := h.2.2.2.2.2.2.2.2.2.2.2.2.2.1
theorem MI.hgl {g : Nat → Nat → Nat} (h : MI g) : ∀ j, j < 72 → g 167 j ≤ 3 := h.2.2.2.2.2.2.2.2.2.2.2.2.2.2.1
theorem MI.hsz {g : Nat → Nat → Nat} (h : MI g) : ∀ j, j < 12 → g 168 j ≤ 6 := h.2.2.2.2.2.2.2.2.2.2.2.2.2.2.2.1
theorem MI.hcm {g : Nat → Nat → Nat} (h : MI g) : ∀ j, j < 12 → g 169 j ≤ 9 := h.2.2.2.2.2.2.2.2.2.2.2.2.2.2.2.2.1
theorem MI.hsl {g : Nat → Nat → Nat} (h : MI g) : ∀ j, j < 6 → g 170 j ≤ 3 := h.2.2.2.2.2.2.2.2.2.2.2.2.2.2.2.2.2.1
theorem MI.hkd {g : Nat → Nat → Nat} (h : MI g) : ∀ j, j < 5 → g 171 j ≤ 6 := h.2.2.2.2.2.2.2.2.2.2.2.2.2.2.2.2.2.2.1
theorem MI.hvv {g : Nat → Nat → Nat} (h : MI g) : ∀ j, j < 5 → g 172 j ≤ 9 := h.2.2.2.2.2.2.2.2.2.2.2.2.2.2.2.2.2.2.2.1
theorem MI.hli {g : Nat → Nat → Nat} (h : MI g) : ∀ j, j < 5 → g 173 j ≤ 99 := h.2.2.2.2.2.2.2.2.2.2.2.2.2.2.2.2.2.2.2.2.1
theorem MI.hro {g : Nat → Nat → Nat} (h : MI g) : ∀ j, j < 20 → g 174 j ≤ 3 := h.2.2.2.2.2.2.2.2.2.2.2.2.2.2.2.2.2.2.2.2.2.1
theorem MI.hrw {g : Nat → Nat → Nat} (h : MI g) : ∀ j, j < 12 → g 175 j ≤ 3 := h.2.2.2.2.2.2.2.2.2.2.2.2.2.2.2.2.2.2.2.2.2.2.1
theorem MI.htx {g : Nat → Nat → Nat} (h : MI g) : ∀ j, j < 100 → g 176 j ≤ 127 := h.2.2.2.2.2.2.2.2.2.2.2.2.2.2.2.2.2.2.2.2.2.2.2.1
theorem MI.hsw {g : Nat → Nat → Nat} (h : MI g) : ∀ j, j < 6 → g 189 j ≤ 4 := h.2.2.2.2.2.2.2.2.2.2.2.2.2.2.2.2.2.2.2.2.2.2.2.2.1
theorem MI.hsx {g : Nat → Nat → Nat} (h : MI g) : ∀ j, j < 6 → g 190 j ≤ 11 := h.2.2.2.2.2.2.2.2.2.2.2.2.2.2.2.2.2.2.2.2.2.2.2.2.2.1
theorem MI.hsy {g : Nat → Nat → Nat} (h : MI g) : ∀ j, j < 6 → g 191 j ≤ 6 := h.2.2.2.2.2.2.2.2.2.2.2.2.2.2.2.2.2.2.2.2.2.2.2.2.2.2.1
theorem MI.hsh {g : Nat → Nat → Nat} (h : MI g) : ∀ j, j < 8 → g 192 j ≤ 4 := h.2.2.2.2.2.2.2.2.2.2.2.2.2.2.2.2.2.2.2.2.2.2.2.2.2.2.2.1
theorem MI.hle {g : Nat → Nat → Nat} (h : MI g) : ∀ j, j < 6 → g 207 j ≤ 60 := h.2.2.2.2.2.2.2.2.2.2.2.2.2.2.2.2.2.2.2.2.2.2.2.2.2.2.2.2.1
theorem MI.hcl {g : Nat → Nat → Nat} (h : MI g) : ∀ j, j < 6 → g 177 j ≤ 10 := h.2.2.2.2.2.2.2.2.2.2.2.2.2.2.2.2.2.2.2.2.2.2.2.2.2.2.2.2.2.1
theorem MI.hwd {g : Nat → Nat → Nat} (h : MI g) : ∀ j, j < 60 → g 178 j ≤ 2 := h.2.2.2.2.2.2.2.2.2.2.2.2.2.2.2.2.2.2.2.2.2.2.2.2.2.2.2.2.2.2.1
theorem MI.hnu {g : Nat → Nat → Nat} (h : MI g) : ∀ j, j < 60 → g 179 j ≤ 99 := h.2.2.2.2.2.2.2.2.2.2.2.2.2.2.2.2.2.2.2.2.2.2.2.2.2.2.2.2.2.2.2.1
theorem MI.hwn {g : Nat → Nat → Nat} (h : MI g) : ∀ j, j < 84 → g 186 j ≤ 1 := h.2.2.2.2.2.2.2.2.2.2.2.2.2.2.2.2.2.2.2.2.2.2.2.2.2.2.2.2.2.2.2.2.1
theorem MI.hs1 {g : Nat → Nat → Nat} (h : MI g) : ∀ i, i < g 166 0 → 1 ≤ g 168 i := h.2.2.2.2.2.2.2.2.2.2.2.2.2.2.2.2.2.2.2.2.2.2.2.2.2.2.2.2.2.2.2.2.2.1
theorem MI.hso {g : Nat → Nat → Nat} (h : MI g) : ∀ j, j < 6 → g 206 j ≤ 4 ∨ g 206 j = 4294967295 := h.2.2.2.2.2.2.2.2.2.2.2.2.2.2.2.2.2.2.2.2.2.2.2.2.2.2.2.2.2.2.2.2.2.2
/-! the reference: words, players, the rows of letters -/
def rs_spell (g : Nat → Nat → Nat) (x : Nat) : Nat := if x = 4294967295 then 0 else if x ≤ 3 then (if g 166 1 = 6 then 4294967292 else g 166 1 + 1) else 4294967295
def gs_spell (g : Nat → Nat → Nat) (x : Nat) : Nat → Nat → Nat := if x = 4294967295 then u2 g 166 1 0 else if x ≤ 3 then (if g 166 1 = 6 then g else u2 (u2 g 170 (g 166 1) x) 166 1 (g 166 1 + 1)) else g
theorem C_spell {L : Nat} {xs : Nat → Int32} (d : Nat) (g : Nat → Nat → Nat) (hl : Nat → Nat → Int64) (rt : Nat × Nat × Nat × Nat) (x : Nat) (hx : x < 2 ^ 32) (hs : g 166 1 ≤ 6) {Q : Po} (hq : Q (some (.int (nI (rs_spell g x)))) (HN (gs_spell g x) hl (RF rt))) : Ev L xs (d + 1) 131 0 [(0, .ref 166), (1, .int (nI x))] [] (HN g hl (RF rt)) Q := by
  refine Ev.run 3 (pc' := (if nI x = nI 4294967295 then 5 else 12)) (lv' := [(0, .ref 166), (1, .int (nI x))]) (st' := []) (h' := HN g hl (RF rt)) rfl ?_
  refine Ev.ite (fun hc2 => ?_) (fun hc2 => ?_)
  · have hc2 : x = 4294967295 := (nI_eqU (by omega) (by omega)).mp hc2
    refine Ev.run 3 (pc' := 10) (lv' := [(0, .ref 166), (1, .int (nI x))]) (st' := []) (h' := setI (HN g hl (RF rt)) 166 1 (nI 0)) rfl ?_
    refine Ev.hp (HN_set _ _ _ _ _ _) ?_
    refine Ev.run 1 (pc' := 11) (lv' := [(0, .ref 166), (1, .int (nI x))]) (st' := [.int (nI 0)]) (h' := HN (u2 g 166 1 0) hl (RF rt)) rfl ?_
    refine Ev.ret (v := some (.int (nI 0))) rfl ?_
    simp only [rs_spell, gs_spell, if_pos hc2] at hq
    exact hq
  · have hc2 : ¬ (x = 4294967295) := fun z => hc2 ((nI_eqU (by omega) (by omega)).mpr z)
    refine Ev.run 4 (pc' := 16) (lv' := [(0, .ref 166), (1, .int (nI x))]) (st' := [.int (nI 3), .int (nI 0), .int (nI x), .ref 166]) (h' := HN g hl (RF rt)) rfl ?_
    refine Ev.call (a := 126) (as := [.ref 166, .int (nI x), .int (nI 0), .int (nI 3)]) (rest := []) (lv0 := [(0, .ref 166), (1, .int (nI x)), (2, .int (nI 0)), (3, .int (nI 3))]) (Q1 := (fun z0 h' => z0 = some (.int (nI (bn (decide (x ≤ 3))))) ∧ h' = HN g hl (RF rt))) rfl rfl (C_in _ _ _ _ (nI x) (nI 0) (nI 3) (by rw [in0 (by omega) (by omega)]; exact ⟨rfl, rfl⟩)) (fun r h' hr => ?_)
    obtain ⟨rfl, rfl⟩ := hr
    refine Ev_bn (fun hb19 => ?_) (fun hb19 => ?_)
    · have hhb19 : x ≤ 3 := of_decide_eq_true hb19
      refine Ev.run 5 (pc' := (if nI (g 166 1) = nI 6 then 33 else 36)) (lv' := [(0, .ref 166), (1, .int (nI x))]) (st' := []) (h' := HN g hl (RF rt)) rfl ?_
      refine Ev.ite (fun hc30 => ?_) (fun hc30 => ?_)
      · have hc30 : (g 166 1) = 6 := (nI_eqU (by omega) (by omega)).mp hc30
        refine Ev.run 1 (pc' := 35) (lv' := [(0, .ref 166), (1, .int (nI x))]) (st' := [.int (nI 4294967292)]) (h' := HN g hl (RF rt)) rfl ?_
        refine Ev.ret (v := some (.int (nI 4294967292))) rfl ?_
        simp only [rs_spell, gs_spell, if_neg hc2, if_pos hhb19, if_pos hc30] at hq
        exact hq
      · have hc30 : ¬ ((g 166 1) = 6) := fun z => hc30 ((nI_eqU (by omega) (by omega)).mpr z)
        refine Ev.run 5 (pc' := 45) (lv' := [(0, .ref 166), (1, .int (nI x))]) (st' := [.int (nI x), .int (nI (g 166 1)), .ref 170]) (h' := HN g hl (RF rt)) rfl ?_
        refine Ev_iast rfl rfl (show g 166 1 < 6 by omega) (Nat.le_of_ble_eq_true rfl) ?_
        refine Ev.run 5 (pc' := 53) (lv' := [(0, .ref 166), (1, .int (nI x))]) (st' := [.int (nI (g 166 1) + nI 1), .ref 166]) (h' := HN (u2 g 170 (g 166 1) x) hl (RF rt)) rfl ?_
        refine Ev.topI (nI_add _ _) ?_
        refine Ev.run 1 (pc' := 56) (lv' := [(0, .ref 166), (1, .int (nI x))]) (st' := []) (h' := setI (HN (u2 g 170 (g 166 1) x) hl (RF rt)) 166 1 (nI ((g 166 1) + 1))) rfl ?_
        refine Ev.hp (HN_set _ _ _ _ _ _) ?_
        refine Ev.run 2 (pc' := 60) (lv' := [(0, .ref 166), (1, .int (nI x))]) (st' := [.int (nI ((g 166 1) + 1))]) (h' := HN (u2 (u2 g 170 (g 166 1) x) 166 1 ((g 166 1) + 1)) hl (RF rt)) rfl ?_
        refine Ev.ret (v := some (.int (nI ((g 166 1) + 1)))) rfl ?_
        simp only [rs_spell, gs_spell, if_neg hc2, if_pos hhb19, if_neg hc30] at hq
        exact hq
    · have hhb19 : ¬ (x ≤ 3) := of_decide_eq_false hb19
      refine Ev.run 2 (pc' := 23) (lv' := [(0, .ref 166), (1, .int (nI x))]) (st' := [.int (nI 4294967295)]) (h' := HN g hl (RF rt)) rfl ?_
      refine Ev.ret (v := some (.int (nI 4294967295))) rfl ?_
      simp only [rs_spell, gs_spell, if_neg hc2, if_neg hhb19] at hq
      exact hq
def alike1 (g : Nat → Nat → Nat) (i n : Nat) : Prop := ∀ k, k < n → g 167 (6 * i + k) = g 170 k
theorem alike1_s {g : Nat → Nat → Nat} {i n : Nat} (h : alike1 g i n) (e : g 167 (6 * i + n) = g 170 n) : alike1 g i (n + 1) := fun k hk => by
  by_cases q : k = n
  · rw [q]; exact e
  · exact h k (by omega)
noncomputable def isSp (g : Nat → Nat → Nat) (i : Nat) : Bool := @decide (g 168 i = g 166 1 ∧ alike1 g i (g 166 1)) (Classical.propDecidable _)
theorem C_isSpelled {L : Nat} {xs : Nat → Int32} (d : Nat) (g : Nat → Nat → Nat) (hl : Nat → Nat → Int64) (rt : Nat × Nat × Nat × Nat) (hI : MI g) (i : Nat) (hi : i < 12) {Q : Po} (hq : Q (some (.int (nI (bn (isSp g i))))) (HN g hl (RF rt))) : Ev L xs d 132 0 [(0, .ref 166), (1, .int (nI i))] [] (HN g hl (RF rt)) Q := by
  have hW := hI.hW
  have hS := hI.hS
  have hPl := hI.hPl
  have hNx := hI.hNx
  have hLa := hI.hLa
  have hLo := hI.hLo
  have hTb := hI.hTb
  have hTh := hI.hTh
  have hFd := hI.hFd
  have hSn := hI.hSn
  have hSh := hI.hSh
  have hRan := hI.hRan
  have hLr := hI.hLr
  have hLt := hI.hLt
  have hgl := hI.hgl
  have hsz := hI.hsz
  have hcm := hI.hcm
  have hsl := hI.hsl
  have hkd := hI.hkd
  have hvv := hI.hvv
  have hli := hI.hli
  have hro := hI.hro
  have hrw := hI.hrw
  have htx := hI.htx
  have hsw := hI.hsw
  have hsx := hI.hsx
  have hsy := hI.hsy
  have hsh := hI.hsh
  have hle := hI.hle
  have hcl := hI.hcl
  have hwd := hI.hwd
  have hnu := hI.hnu
  have hwn := hI.hwn
  have hs1 := hI.hs1
  have hso := hI.hso
  refine Ev.run 3 (pc' := 5) (lv' := [(0, .ref 166), (1, .int (nI i))]) (st' := [.int (nI i), .ref 168]) (h' := HN g hl (RF rt)) rfl ?_
  refine Ev_iald rfl rfl (show i < 12 by omega) (Nat.le_of_ble_eq_true rfl) ?_
  have hr0 := hsz i (by omega)
  refine Ev.run 3 (pc' := (if nI (g 168 i) = nI (g 166 1) then 15 else 13)) (lv' := [(0, .ref 166), (1, .int (nI i))]) (st' := []) (h' := HN g hl (RF rt)) rfl ?_
  refine Ev.ite (fun hc10 => ?_) (fun hc10 => ?_)
  · have hc10 : (g 168 i) = (g 166 1) := (nI_eqU (by omega) (by omega)).mp hc10
    refine Ev.run 2 (pc' := 17) (lv' := [(2, .int (nI 0)), (0, .ref 166), (1, .int (nI i))]) (st' := []) (h' := HN g hl (RF rt)) rfl ?_
    refine for_ind (g 166 1) (fun n => alike1 g i n → Ev L xs d 132 17 [(2, .int (nI n)), (0, .ref 166), (1, .int (nI i))] [] (HN g hl (RF rt)) Q) (fun n hn hnext ha => ?_) 0 (Nat.zero_le _) (fun k hk => absurd hk (Nat.not_lt_zero _))
    refine Ev.run 4 (pc' := (if nI (g 166 1) ≤ nI n then 53 else 25)) (lv' := [(2, .int (nI n)), (0, .ref 166), (1, .int (nI i))]) (st' := []) (h' := HN g hl (RF rt)) rfl ?_
    refine Ev.ite (fun hc22 => ?_) (fun hc22 => ?_)
    · have hc22 : (g 166 1) ≤ n := (nI_leI (by omega) (by omega)).mp hc22
      refine Ev.run 1 (pc' := 54) (lv' := [(2, .int (nI n)), (0, .ref 166), (1, .int (nI i))]) (st' := [.int (nI 1)]) (h' := HN g hl (RF rt)) rfl ?_
      refine Ev.ret (v := some (.int (nI 1))) rfl ?_
      have e : n = g 166 1 := by omega
      subst e
      have e2 : isSp g i = true := by unfold isSp; exact @decide_eq_true _ (Classical.propDecidable _) ⟨hc10, ha⟩
      rw [e2] at hq
      exact hq
    · have hc22 : ¬ ((g 166 1) ≤ n) := fun z => hc22 ((nI_leI (by omega) (by omega)).mpr z)
      refine Ev.run 5 (pc' := 33) (lv' := [(2, .int (nI n)), (0, .ref 166), (1, .int (nI i))]) (st' := [.int (nI 6 * nI i), .ref 167]) (h' := HN g hl (RF rt)) rfl ?_
      refine Ev.topI (pk_mul _ _) ?_
      refine Ev.run 2 (pc' := 35) (lv' := [(2, .int (nI n)), (0, .ref 166), (1, .int (nI i))]) (st' := [.int (nI (6 * i) + nI n), .ref 167]) (h' := HN g hl (RF rt)) rfl ?_
      refine Ev.topI (nI_add _ _) ?_
      refine Ev_iald rfl rfl (show (6 * i) + n < 72 by omega) (Nat.le_of_ble_eq_true rfl) ?_
      have hr1 := hgl ((6 * i) + n) (by omega)
      refine Ev.run 3 (pc' := 41) (lv' := [(2, .int (nI n)), (0, .ref 166), (1, .int (nI i))]) (st' := [.int (nI n), .ref 170, .int (nI (g 167 ((6 * i) + n)))]) (h' := HN g hl (RF rt)) rfl ?_
      refine Ev_iald rfl rfl (show n < 6 by omega) (Nat.le_of_ble_eq_true rfl) ?_
      have hr2 := hsl n (by omega)
      refine Ev.run 1 (pc' := (if nI (g 167 ((6 * i) + n)) = nI (g 170 n) then 47 else 45)) (lv' := [(2, .int (nI n)), (0, .ref 166), (1, .int (nI i))]) (st' := []) (h' := HN g hl (RF rt)) rfl ?_
      refine Ev.ite (fun hc42 => ?_) (fun hc42 => ?_)
      · have hc42 : (g 167 ((6 * i) + n)) = (g 170 n) := (nI_eqU (by omega) (by omega)).mp hc42
        refine Ev.run 1 (pc' := 50) (lv' := [(2, .int (nI n + 1)), (0, .ref 166), (1, .int (nI i))]) (st' := []) (h' := HN g hl (RF rt)) rfl ?_
        refine Ev.lvE (congrArg (fun z => (2, Value.int z) :: [(0, .ref 166), (1, .int (nI i))]) (nI_1 _)) ?_
        refine Ev.run 1 (pc' := 17) (lv' := [(2, .int (nI (n + 1))), (0, .ref 166), (1, .int (nI i))]) (st' := []) (h' := HN g hl (RF rt)) rfl ?_
        exact hnext (by omega) (alike1_s ha hc42)
      · have hc42 : ¬ ((g 167 ((6 * i) + n)) = (g 170 n)) := fun z => hc42 ((nI_eqU (by omega) (by omega)).mpr z)
        refine Ev.run 1 (pc' := 46) (lv' := [(2, .int (nI n)), (0, .ref 166), (1, .int (nI i))]) (st' := [.int (nI 0)]) (h' := HN g hl (RF rt)) rfl ?_
        refine Ev.ret (v := some (.int (nI 0))) rfl ?_
        have e2 : isSp g i = false := by
          unfold isSp
          refine @decide_eq_false _ (Classical.propDecidable _) (fun z => ?_)
          first | exact hc10 z.1 | exact hc42 (z.2 n (by omega))
        rw [e2] at hq
        exact hq
  · have hc10 : ¬ ((g 168 i) = (g 166 1)) := fun z => hc10 ((nI_eqU (by omega) (by omega)).mpr z)
    refine Ev.run 1 (pc' := 14) (lv' := [(0, .ref 166), (1, .int (nI i))]) (st' := [.int (nI 0)]) (h' := HN g hl (RF rt)) rfl ?_
    refine Ev.ret (v := some (.int (nI 0))) rfl ?_
    have e2 : isSp g i = false := by
      unfold isSp
      refine @decide_eq_false _ (Classical.propDecidable _) (fun z => ?_)
      first | exact hc10 z.1 | exact hc42 (z.2 n (by omega))
    rw [e2] at hq
    exact hq
def rs_letter (g : Nat → Nat → Nat) (i x : Nat) : Nat := if i < g 166 0 then (if 10 ≤ x ∧ x < 10 + g 168 i then g 167 (6 * i + (x - 10)) else if x = 0 then g 169 i else if x = 1 then g 168 i else 4294967295) else 4294967295
theorem in10 {v n : Nat} (hv : v < 2 ^ 32) (hn : n < 2 ^ 30) : (decide (nI 10 ≤ nI v) && decide (nI v ≤ nI (9 + n))) = decide (10 ≤ v ∧ v < 10 + n) := by
  by_cases h : v < 2 ^ 31
  · rw [decide_eq_decide.mpr (nI_leI (by decide) h), decide_eq_decide.mpr (nI_leI h (by omega)), ← Bool.decide_and]
    exact decide_eq_decide.mpr (by omega)
  · have h1 : ¬ nI 10 ≤ nI v := by
      rw [Int32.le_iff_toInt_le, nI_toInt (by decide)]
      have h2 : (nI v).toInt = (nI v).toBitVec.toInt := rfl
      rw [h2, BitVec.toInt_eq_toNat_cond, nI_toN, Nat.mod_eq_of_lt hv, if_neg (by omega)]
      omega
    rw [decide_eq_false h1, Bool.false_and, decide_eq_false (by omega)]
theorem C_letter {L : Nat} {xs : Nat → Int32} (d : Nat) (g : Nat → Nat → Nat) (hl : Nat → Nat → Int64) (rt : Nat × Nat × Nat × Nat) (hI : MI g) (i x : Nat) (hi : i < 2 ^ 32) (hx : x < 2 ^ 32) {Q : Po} (hq : Q (some (.int (nI (rs_letter g i x)))) (HN g hl (RF rt))) : Ev L xs (d + 2) 134 0 [(0, .ref 166), (1, .int (nI i)), (2, .int (nI x))] [] (HN g hl (RF rt)) Q := by
  have hW := hI.hW
  have hS := hI.hS
  have hPl := hI.hPl
  have hNx := hI.hNx
  have hLa := hI.hLa
  have hLo := hI.hLo
  have hTb := hI.hTb
  have hTh := hI.hTh
  have hFd := hI.hFd
  have hSn := hI.hSn
  have hSh := hI.hSh
  have hRan := hI.hRan
  have hLr := hI.hLr
  have hLt := hI.hLt
  have hgl := hI.hgl
  have hsz := hI.hsz
  have hcm := hI.hcm
  have hsl := hI.hsl
  have hkd := hI.hkd
  have hvv := hI.hvv
  have hli := hI.hli
  have hro := hI.hro
  have hrw := hI.hrw
  have htx := hI.htx
  have hsw := hI.hsw
  have hsx := hI.hsx
  have hsy := hI.hsy
  have hsh := hI.hsh
  have hle := hI.hle
  have hcl := hI.hcl
  have hwd := hI.hwd
  have hnu := hI.hnu
  have hwn := hI.hwn
  have hs1 := hI.hs1
  have hso := hI.hso
  refine Ev.run 2 (pc' := 2) (lv' := [(0, .ref 166), (1, .int (nI i)), (2, .int (nI x))]) (st' := [.int (nI i), .ref 166]) (h' := HN g hl (RF rt)) rfl ?_
  refine Ev.call (a := 130) (as := [.ref 166, .int (nI i)]) (rest := []) (lv0 := [(0, .ref 166), (1, .int (nI i))]) (Q1 := (fun z0 h' => z0 = some (.int (nI (bn (decide (i < g 166 0))))) ∧ h' = HN g hl (RF rt))) rfl rfl (C_isWord _ _ _ _ i (by omega) hW ⟨rfl, rfl⟩) (fun r h' hr => ?_)
  obtain ⟨rfl, rfl⟩ := hr
  refine Ev_bn (fun hb5 => ?_) (fun hb5 => ?_)
  · have hhb5 : i < g 166 0 := of_decide_eq_true hb5
    refine Ev.run 8 (pc' := 21) (lv' := [(0, .ref 166), (1, .int (nI i)), (2, .int (nI x))]) (st' := [.int (nI i), .ref 168, .int (nI 9), .int (nI 10), .int (nI x), .ref 166]) (h' := HN g hl (RF rt)) rfl ?_
    refine Ev_iald rfl rfl (show i < 12 by omega) (Nat.le_of_ble_eq_true rfl) ?_
    have hr0 := hsz i (by omega)
    refine Ev.run 1 (pc' := 23) (lv' := [(0, .ref 166), (1, .int (nI i)), (2, .int (nI x))]) (st' := [.int (nI 9 + nI (g 168 i)), .int (nI 10), .int (nI x), .ref 166]) (h' := HN g hl (RF rt)) rfl ?_
    refine Ev.topI (nI_add _ _) ?_
    refine Ev.call (a := 126) (as := [.ref 166, .int (nI x), .int (nI 10), .int (nI (9 + (g 168 i)))]) (rest := []) (lv0 := [(0, .ref 166), (1, .int (nI x)), (2, .int (nI 10)), (3, .int (nI (9 + (g 168 i))))]) (Q1 := (fun z0 h' => z0 = some (.int (nI (bn (decide (10 ≤ x ∧ x < 10 + g 168 i))))) ∧ h' = HN g hl (RF rt))) rfl rfl (C_in _ _ _ _ (nI x) (nI 10) (nI (9 + (g 168 i))) (by rw [in10 (by omega) (by omega)]; exact ⟨rfl, rfl⟩)) (fun r h' hr => ?_)
    obtain ⟨rfl, rfl⟩ := hr
    refine Ev_bn (fun hb26 => ?_) (fun hb26 => ?_)
    · have hhb26 : 10 ≤ x ∧ x < 10 + g 168 i := of_decide_eq_true hb26
      refine Ev.run 6 (pc' := 37) (lv' := [(0, .ref 166), (1, .int (nI i)), (2, .int (nI x))]) (st' := [.int (nI 6 * nI i), .ref 167]) (h' := HN g hl (RF rt)) rfl ?_
      refine Ev.topI (pk_mul _ _) ?_
      refine Ev.run 2 (pc' := 39) (lv' := [(0, .ref 166), (1, .int (nI i)), (2, .int (nI x))]) (st' := [.int (nI (6 * i) + nI x), .ref 167]) (h' := HN g hl (RF rt)) rfl ?_
      refine Ev.topI (nI_add _ _) ?_
      refine Ev.run 2 (pc' := 42) (lv' := [(0, .ref 166), (1, .int (nI i)), (2, .int (nI x))]) (st' := [.int (nI ((6 * i) + x) - nI 10), .ref 167]) (h' := HN g hl (RF rt)) rfl ?_
      refine Ev.topI ((pk_sub (a := 6 * i + x) (b := 10) (by omega)).trans (congrArg nI (show 6 * i + x - 10 = 6 * i + (x - 10) by omega))) ?_
      refine Ev_iald rfl rfl (show 6 * i + (x - 10) < 72 by omega) (Nat.le_of_ble_eq_true rfl) ?_
      have hr1 := hgl (6 * i + (x - 10)) (by omega)
      refine Ev.ret (v := some (.int (nI (g 167 (6 * i + (x - 10)))))) rfl ?_
      simp only [rs_letter, if_pos hhb5, if_pos hhb26] at hq
      exact hq
    · have hhb26 : ¬ (10 ≤ x ∧ x < 10 + g 168 i) := of_decide_eq_false hb26
      refine Ev.run 3 (pc' := (if nI x = 0 then 48 else 57)) (lv' := [(0, .ref 166), (1, .int (nI i)), (2, .int (nI x))]) (st' := []) (h' := HN g hl (RF rt)) rfl ?_
      refine Ev.ite (fun hc45 => ?_) (fun hc45 => ?_)
      · have hc45 : x = 0 := (nI_eqU0 (by omega)).mp hc45
        refine Ev.run 3 (pc' := 53) (lv' := [(0, .ref 166), (1, .int (nI i)), (2, .int (nI x))]) (st' := [.int (nI i), .ref 169]) (h' := HN g hl (RF rt)) rfl ?_
        refine Ev_iald rfl rfl (show i < 12 by omega) (Nat.le_of_ble_eq_true rfl) ?_
        have hr2 := hcm i (by omega)
        refine Ev.run 1 (pc' := 72) (lv' := [(0, .ref 166), (1, .int (nI i)), (2, .int (nI x))]) (st' := [.int (nI (g 169 i))]) (h' := HN g hl (RF rt)) rfl ?_
        refine Ev.ret (v := some (.int (nI (g 169 i)))) rfl ?_
        simp only [rs_letter, if_pos hhb5, if_neg hhb26, if_pos hc45] at hq
        exact hq
      · have hc45 : ¬ (x = 0) := fun z => hc45 ((nI_eqU0 (by omega)).mpr z)
        refine Ev.run 3 (pc' := (if nI x = nI 1 then 62 else 71)) (lv' := [(0, .ref 166), (1, .int (nI i)), (2, .int (nI x))]) (st' := []) (h' := HN g hl (RF rt)) rfl ?_
        refine Ev.ite (fun hc59 => ?_) (fun hc59 => ?_)
        · have hc59 : x = 1 := (nI_eqU (by omega) (by omega)).mp hc59
          refine Ev.run 3 (pc' := 67) (lv' := [(0, .ref 166), (1, .int (nI i)), (2, .int (nI x))]) (st' := [.int (nI i), .ref 168]) (h' := HN g hl (RF rt)) rfl ?_
          refine Ev_iald rfl rfl (show i < 12 by omega) (Nat.le_of_ble_eq_true rfl) ?_
          have hr3 := hsz i (by omega)
          refine Ev.run 1 (pc' := 72) (lv' := [(0, .ref 166), (1, .int (nI i)), (2, .int (nI x))]) (st' := [.int (nI (g 168 i))]) (h' := HN g hl (RF rt)) rfl ?_
          refine Ev.ret (v := some (.int (nI (g 168 i)))) rfl ?_
          simp only [rs_letter, if_pos hhb5, if_neg hhb26, if_neg hc45, if_pos hc59] at hq
          exact hq
        · have hc59 : ¬ (x = 1) := fun z => hc59 ((nI_eqU (by omega) (by omega)).mpr z)
          refine Ev.run 1 (pc' := 72) (lv' := [(0, .ref 166), (1, .int (nI i)), (2, .int (nI x))]) (st' := [.int (nI 4294967295)]) (h' := HN g hl (RF rt)) rfl ?_
          refine Ev.ret (v := some (.int (nI 4294967295))) rfl ?_
          simp only [rs_letter, if_pos hhb5, if_neg hhb26, if_neg hc45, if_neg hc59] at hq
          exact hq
  · have hhb5 : ¬ (i < g 166 0) := of_decide_eq_false hb5
    refine Ev.run 2 (pc' := 9) (lv' := [(0, .ref 166), (1, .int (nI i)), (2, .int (nI x))]) (st' := [.int (nI 4294967295)]) (h' := HN g hl (RF rt)) rfl ?_
    refine Ev.ret (v := some (.int (nI 4294967295))) rfl ?_
    simp only [rs_letter, if_neg hhb5] at hq
    exact hq
def rs_player (g : Nat → Nat → Nat) (k v : Nat) : Nat := if k ≤ 6 then (if v ≤ 9 then (if g 166 6 = 5 then 4294967292 else g 166 6) else 4294967294) else 4294967295
