/-! the reference: tables, what fits, who is next -/
theorem nIa (a b : Nat) : nI a &&& nI b = nI (a &&& b) := by
  refine nI_ext ?_
  rw [Int32.toBitVec_and, BitVec.toNat_and, nI_toN, nI_toN, Nat.and_mod_two_pow]
theorem nIo (a b : Nat) : nI a ||| nI b = nI (a ||| b) := by
  refine nI_ext ?_
  rw [Int32.toBitVec_or, BitVec.toNat_or, nI_toN, nI_toN, Nat.or_mod_two_pow]
theorem nIx (a b : Nat) : nI a ^^^ nI b = nI (a ^^^ b) := by
  refine nI_ext ?_
  rw [Int32.toBitVec_xor, BitVec.toNat_xor, nI_toN, nI_toN, Nat.xor_mod_two_pow]
theorem tf {b : Bool} (h : b = true) (h2 : b = false) : False := by rw [h] at h2; cases h2
noncomputable def dc (p : Prop) : Bool := @decide p (Classical.propDecidable p)
theorem dc_t {p : Prop} (h : p) : dc p = true := @decide_eq_true _ (Classical.propDecidable _) h
theorem dc_f {p : Prop} (h : ¬ p) : dc p = false := @decide_eq_false _ (Classical.propDecidable _) h
theorem dc_p {p : Prop} (h : dc p = true) : p := @of_decide_eq_true _ (Classical.propDecidable _) h
theorem dc_n {p : Prop} (h : dc p = false) : ¬ p := @of_decide_eq_false _ (Classical.propDecidable _) h
theorem dc_c {p q : Prop} (h : p ↔ q) : dc p = dc q := by
  by_cases hp : p
  · rw [dc_t hp, dc_t (h.mp hp)]
  · rw [dc_f hp, dc_f (fun z => hp (h.mpr z))]
theorem bset_s1 {p : Nat → Bool} {n : Nat} (h : p n = true) : bset p (n + 1) = bset p n ||| nSh 1 n := by rw [bset, h]; rfl
theorem bset_s0 {p : Nat → Bool} {n : Nat} (h : p n = false) : bset p (n + 1) = bset p n ||| 0 := by rw [bset, h]; rfl
theorem bset_12 (p : Nat → Bool) {n : Nat} (h : n ≤ 12) : bset p n < 4096 := bset_lt' p (m := 12) h
theorem gset_s1 {p : Nat → Bool} {f : Nat → Nat} {n : Nat} (h : p n = true) : gset p f (n + 1) = gset p f n ||| nSh 1 (f n) := by rw [gset, h]; rfl
theorem gset_s0 {p : Nat → Bool} {f : Nat → Nat} {n : Nat} (h : p n = false) : gset p f (n + 1) = gset p f n ||| 0 := by rw [gset, h]; rfl
theorem bset_se {p : Nat → Bool} {n : Nat} (h : p n = false) : bset p (n + 1) = bset p n := by rw [bset_s0 h, Nat.or_zero]
theorem gset_se {p : Nat → Bool} {f : Nat → Nat} {n : Nat} (h : p n = false) : gset p f (n + 1) = gset p f n := by rw [gset_s0 h, Nat.or_zero]
-- clauses
def fC (g : Nat → Nat → Nat) : Nat := if g 166 16 < 2147483648 then 10 * g 166 16 else 0
def nC (g : Nat → Nat → Nat) : Nat := if g 166 16 < 2147483648 then g 177 (g 166 16) else 0
theorem fC_le {g : Nat → Nat → Nat} (h : MI g) : fC g ≤ 50 ∧ nC g ≤ 10 := by
  have h1 := h.hTh
  unfold fC nC
  by_cases h2 : g 166 16 < 2147483648
  · rw [if_pos h2, if_pos h2]
    have := h.hcl (g 166 16) (by omega)
    omega
  · rw [if_neg h2, if_neg h2]; omega
def lwF (g : Nat → Nat → Nat) (o w : Nat) : Nat → Nat
  | 0 => 3
  | n + 1 => if g 178 (o + n) = w then g 179 (o + n) else lwF g o w n
def lwS (g : Nat → Nat → Nat) (w : Nat) : Nat := lwF g (fC g) w (nC g)
theorem lwF_le {g : Nat → Nat → Nat} (h : MI g) (o w : Nat) : ∀ n, o + n ≤ 60 → lwF g o w n ≤ 99 := by
  intro n
  induction n with
  | zero => intro _; show 3 ≤ 99; omega
  | succ n ih =>
    intro h1
    unfold lwF
    split
    · exact h.hnu _ (by omega)
    · exact ih (by omega)
theorem lwS_le {g : Nat → Nat → Nat} (h : MI g) (w : Nat) : lwS g w ≤ 99 := lwF_le h _ _ _ (by have := fC_le h; omega)

theorem C_fC {L : Nat} {xs : Nat → Int32} (d : Nat) (g : Nat → Nat → Nat) (hl : Nat → Nat → Int64) (rt : Nat × Nat × Nat × Nat) (hI : MI g)  {Q : Po} (hq : Q (some (.int (nI (fC g)))) (HN g hl (RF rt))) : Ev L xs d 156 0 [(0, .ref 166)] [] (HN g hl (RF rt)) Q := by
  have hW := hI.hW
  have hS := hI.hS
  have hPl := hI.hPl
  have hNx := hI.hNx
  have hLa := hI.hLa
  have hLo := hI.hLo
  have hTb := hI.hTb
  have hTh := hI.hTh
  have hFd := hI.hFd
  have hSn := hI.hSn
  have hSh := hI.hSh
  have hRan := hI.hRan
  have hLr := hI.hLr
  have hLt := hI.hLt
  have hgl := hI.hgl
  have hsz := hI.hsz
  have hcm := hI.hcm
  have hsl := hI.hsl
  have hkd := hI.hkd
  have hvv := hI.hvv
  have hli := hI.hli
  have hro := hI.hro
  have hrw := hI.hrw
  have htx := hI.htx
  have hsw := hI.hsw
  have hsx := hI.hsx
  have hsy := hI.hsy
  have hsh := hI.hsh
  have hle := hI.hle
  have hcl := hI.hcl
  have hwd := hI.hwd
  have hnu := hI.hnu
  have hwn := hI.hwn
  have hs1 := hI.hs1
  have hso := hI.hso
  refine Ev.run 3 (pc' := (if 0 ≤ nI (g 166 16) then 11 else 7)) (lv' := [(0, .ref 166)]) (st' := []) (h' := HN g hl (RF rt)) rfl ?_
  refine Ev.ite (fun hc4 => ?_) (fun hc4 => ?_)
  · have hc4 : (g 166 16) < 2147483648 := (nI_geU0 (by omega)).mp hc4
    refine Ev.run 4 (pc' := 18) (lv' := [(0, .ref 166)]) (st' := [.int (nI 10 * nI (g 166 16))]) (h' := HN g hl (RF rt)) rfl ?_
    refine Ev.topI (pk_mul _ _) ?_
    refine Ev.ret (v := some (.int (nI (10 * (g 166 16))))) rfl ?_
    simp only [fC, if_pos hc4] at hq
    exact hq
  · have hc4 : ¬ ((g 166 16) < 2147483648) := fun z => hc4 ((nI_geU0 (by omega)).mpr z)
    refine Ev.run 2 (pc' := 18) (lv' := [(0, .ref 166)]) (st' := [.int (nI 0)]) (h' := HN g hl (RF rt)) rfl ?_
    refine Ev.ret (v := some (.int (nI 0))) rfl ?_
    simp only [fC, if_neg hc4] at hq
    exact hq
theorem C_nC {L : Nat} {xs : Nat → Int32} (d : Nat) (g : Nat → Nat → Nat) (hl : Nat → Nat → Int64) (rt : Nat × Nat × Nat × Nat) (hI : MI g)  {Q : Po} (hq : Q (some (.int (nI (fC g + nC g)))) (HN g hl (RF rt))) : Ev L xs d 157 0 [(0, .ref 166)] [] (HN g hl (RF rt)) Q := by
  have hW := hI.hW
  have hS := hI.hS
  have hPl := hI.hPl
  have hNx := hI.hNx
  have hLa := hI.hLa
  have hLo := hI.hLo
  have hTb := hI.hTb
  have hTh := hI.hTh
  have hFd := hI.hFd
  have hSn := hI.hSn
  have hSh := hI.hSh
  have hRan := hI.hRan
  have hLr := hI.hLr
  have hLt := hI.hLt
  have hgl := hI.hgl
  have hsz := hI.hsz
  have hcm := hI.hcm
  have hsl := hI.hsl
  have hkd := hI.hkd
  have hvv := hI.hvv
  have hli := hI.hli
  have hro := hI.hro
  have hrw := hI.hrw
  have htx := hI.htx
  have hsw := hI.hsw
  have hsx := hI.hsx
  have hsy := hI.hsy
  have hsh := hI.hsh
  have hle := hI.hle
  have hcl := hI.hcl
  have hwd := hI.hwd
  have hnu := hI.hnu
  have hwn := hI.hwn
  have hs1 := hI.hs1
  have hso := hI.hso
  refine Ev.run 3 (pc' := (if 0 ≤ nI (g 166 16) then 11 else 7)) (lv' := [(0, .ref 166)]) (st' := []) (h' := HN g hl (RF rt)) rfl ?_
  refine Ev.ite (fun hc4 => ?_) (fun hc4 => ?_)
  · have hc4 : (g 166 16) < 2147483648 := (nI_geU0 (by omega)).mp hc4
    refine Ev.run 4 (pc' := 18) (lv' := [(0, .ref 166)]) (st' := [.int (nI 10 * nI (g 166 16))]) (h' := HN g hl (RF rt)) rfl ?_
    refine Ev.topI (pk_mul _ _) ?_
    refine Ev.run 4 (pc' := 26) (lv' := [(0, .ref 166)]) (st' := [.int (nI (g 166 16)), .ref 177, .int (nI (10 * (g 166 16)))]) (h' := HN g hl (RF rt)) rfl ?_
    refine Ev_iald rfl rfl (show g 166 16 < 6 by omega) (Nat.le_of_ble_eq_true rfl) ?_
    have hr0 := hcl (g 166 16) (by omega)
    refine Ev.run 1 (pc' := 28) (lv' := [(0, .ref 166)]) (st' := [.int (nI (10 * (g 166 16)) + nI (g 177 (g 166 16)))]) (h' := HN g hl (RF rt)) rfl ?_
    refine Ev.topI (nI_add _ _) ?_
    refine Ev.ret (v := some (.int (nI ((10 * (g 166 16)) + (g 177 (g 166 16)))))) rfl ?_
    simp only [fC, nC, if_pos hc4] at hq
    exact hq
  · have hc4 : ¬ ((g 166 16) < 2147483648) := fun z => hc4 ((nI_geU0 (by omega)).mpr z)
    refine Ev.run 2 (pc' := 28) (lv' := [(0, .ref 166)]) (st' := [.int (nI 0)]) (h' := HN g hl (RF rt)) rfl ?_
    refine Ev.ret (v := some (.int (nI 0))) rfl ?_
    simp only [fC, nC, if_neg hc4] at hq
    exact hq
theorem C_lastOf {L : Nat} {xs : Nat → Int32} (d : Nat) (g : Nat → Nat → Nat) (hl : Nat → Nat → Int64) (rt : Nat × Nat × Nat × Nat) (hI : MI g) (w : Nat) (hw : w < 2 ^ 32) {Q : Po} (hq : Q (some (.int (nI (lwS g w)))) (HN g hl (RF rt))) : Ev L xs (d + 1) 158 0 [(0, .ref 166), (1, .int (nI w))] [] (HN g hl (RF rt)) Q := by
  have hW := hI.hW
  have hS := hI.hS
  have hPl := hI.hPl
  have hNx := hI.hNx
  have hLa := hI.hLa
  have hLo := hI.hLo
  have hTb := hI.hTb
  have hTh := hI.hTh
  have hFd := hI.hFd
  have hSn := hI.hSn
  have hSh := hI.hSh
  have hRan := hI.hRan
  have hLr := hI.hLr
  have hLt := hI.hLt
  have hgl := hI.hgl
  have hsz := hI.hsz
  have hcm := hI.hcm
  have hsl := hI.hsl
  have hkd := hI.hkd
  have hvv := hI.hvv
  have hli := hI.hli
  have hro := hI.hro
  have hrw := hI.hrw
  have htx := hI.htx
  have hsw := hI.hsw
  have hsx := hI.hsx
  have hsy := hI.hsy
  have hsh := hI.hsh
  have hle := hI.hle
  have hcl := hI.hcl
  have hwd := hI.hwd
  have hnu := hI.hnu
  have hwn := hI.hwn
  have hs1 := hI.hs1
  have hso := hI.hso
  have hfc := fC_le hI
  refine Ev.run 3 (pc' := 3) (lv' := [(2, .int (nI 3)), (0, .ref 166), (1, .int (nI w))]) (st' := [.ref 166]) (h' := HN g hl (RF rt)) rfl ?_
  refine Ev.call (a := 156) (as := [.ref 166]) (rest := []) (lv0 := [(0, .ref 166)]) (Q1 := (fun z0 h' => z0 = some (.int (nI (fC g))) ∧ h' = HN g hl (RF rt))) rfl rfl (C_fC _ _ _ _ hI ⟨rfl, rfl⟩) (fun r h' hr => ?_)
  obtain ⟨rfl, rfl⟩ := hr
  refine Ev.run 1 (pc' := 7) (lv' := [(3, .int (nI (fC g))), (2, .int (nI 3)), (0, .ref 166), (1, .int (nI w))]) (st' := []) (h' := HN g hl (RF rt)) rfl ?_
  refine for_ind (nC g) (fun n => Ev L xs (d + 1) 158 7 [(3, .int (nI (fC g + n))), (2, .int (nI (lwF g (fC g) w n))), (0, .ref 166), (1, .int (nI w))] [] (HN g hl (RF rt)) Q) (fun n hn hnext => ?_) 0 (Nat.zero_le _)
  refine Ev.run 2 (pc' := 9) (lv' := [(3, .int (nI (fC g + n))), (2, .int (nI (lwF g (fC g) w n))), (0, .ref 166), (1, .int (nI w))]) (st' := [.ref 166, .int (nI (fC g + n))]) (h' := HN g hl (RF rt)) rfl ?_
  refine Ev.call (a := 157) (as := [.ref 166]) (rest := [.int (nI (fC g + n))]) (lv0 := [(0, .ref 166)]) (Q1 := (fun z0 h' => z0 = some (.int (nI (fC g + nC g))) ∧ h' = HN g hl (RF rt))) rfl rfl (C_nC _ _ _ _ hI ⟨rfl, rfl⟩) (fun r h' hr => ?_)
  obtain ⟨rfl, rfl⟩ := hr
  refine Ev.run 1 (pc' := (if nI (fC g + nC g) ≤ nI (fC g + n) then 42 else 15)) (lv' := [(3, .int (nI (fC g + n))), (2, .int (nI (lwF g (fC g) w n))), (0, .ref 166), (1, .int (nI w))]) (st' := []) (h' := HN g hl (RF rt)) rfl ?_
  refine Ev.ite (fun hc12 => ?_) (fun hc12 => ?_)
  · have hc12 : (fC g + nC g) ≤ (fC g + n) := (nI_leI (by omega) (by omega)).mp hc12
    refine Ev.run 1 (pc' := 43) (lv' := [(3, .int (nI (fC g + n))), (2, .int (nI (lwF g (fC g) w n))), (0, .ref 166), (1, .int (nI w))]) (st' := [.int (nI (lwF g (fC g) w n))]) (h' := HN g hl (RF rt)) rfl ?_
    refine Ev.ret (v := some (.int (nI (lwF g (fC g) w n)))) rfl ?_
    obtain rfl : n = nC g := by omega
    exact hq
  · have hc12 : ¬ ((fC g + nC g) ≤ (fC g + n)) := fun z => hc12 ((nI_leI (by omega) (by omega)).mpr z)
    refine Ev.run 3 (pc' := 20) (lv' := [(3, .int (nI (fC g + n))), (2, .int (nI (lwF g (fC g) w n))), (0, .ref 166), (1, .int (nI w))]) (st' := [.int (nI (fC g + n)), .ref 178]) (h' := HN g hl (RF rt)) rfl ?_
    refine Ev_iald rfl rfl (show fC g + n < 60 by omega) (Nat.le_of_ble_eq_true rfl) ?_
    have hr0 := hwd (fC g + n) (by omega)
    refine Ev.run 2 (pc' := (if nI (g 178 (fC g + n)) = nI w then 25 else 34)) (lv' := [(3, .int (nI (fC g + n))), (2, .int (nI (lwF g (fC g) w n))), (0, .ref 166), (1, .int (nI w))]) (st' := []) (h' := HN g hl (RF rt)) rfl ?_
    refine Ev.ite (fun hc22 => ?_) (fun hc22 => ?_)
    · have hc22 : (g 178 (fC g + n)) = w := (nI_eqU (by omega) (by omega)).mp hc22
      refine Ev.run 3 (pc' := 30) (lv' := [(3, .int (nI (fC g + n))), (2, .int (nI (lwF g (fC g) w n))), (0, .ref 166), (1, .int (nI w))]) (st' := [.int (nI (fC g + n)), .ref 179]) (h' := HN g hl (RF rt)) rfl ?_
      refine Ev_iald rfl rfl (show fC g + n < 60 by omega) (Nat.le_of_ble_eq_true rfl) ?_
      have hr1 := hnu (fC g + n) (by omega)
      refine Ev.run 3 (pc' := 39) (lv' := [(3, .int (nI (fC g + n) + 1)), (2, .int (nI (g 179 (fC g + n)))), (0, .ref 166), (1, .int (nI w))]) (st' := []) (h' := HN g hl (RF rt)) rfl ?_
      refine Ev.lvE (congrArg (fun z => (3, Value.int z) :: [(2, .int (nI (g 179 (fC g + n)))), (0, .ref 166), (1, .int (nI w))]) (nI_1 _)) ?_
      refine Ev.run 1 (pc' := 7) (lv' := [(3, .int (nI (fC g + n + 1))), (2, .int (nI (g 179 (fC g + n)))), (0, .ref 166), (1, .int (nI w))]) (st' := []) (h' := HN g hl (RF rt)) rfl ?_
      have hx := hnext (by omega)
      have hlw := hx
      unfold lwF at hlw
      simp only [if_pos hc22] at hlw
      exact hlw
    · have hc22 : ¬ ((g 178 (fC g + n)) = w) := fun z => hc22 ((nI_eqU (by omega) (by omega)).mpr z)
      refine Ev.run 3 (pc' := 39) (lv' := [(3, .int (nI (fC g + n) + 1)), (2, .int (nI (lwF g (fC g) w n))), (0, .ref 166), (1, .int (nI w))]) (st' := []) (h' := HN g hl (RF rt)) rfl ?_
      refine Ev.lvE (congrArg (fun z => (3, Value.int z) :: [(2, .int (nI (lwF g (fC g) w n))), (0, .ref 166), (1, .int (nI w))]) (nI_1 _)) ?_
      refine Ev.run 1 (pc' := 7) (lv' := [(3, .int (nI (fC g + n + 1))), (2, .int (nI (lwF g (fC g) w n))), (0, .ref 166), (1, .int (nI w))]) (st' := []) (h' := HN g hl (RF rt)) rfl ?_
      have hx := hnext (by omega)
      have hlw := hx
      unfold lwF at hlw
      simp only [if_neg hc22] at hlw
      exact hlw
noncomputable def gs_player (g : Nat → Nat → Nat) (k v : Nat) : Nat → Nat → Nat := if k ≤ 6 then (if v ≤ 9 then (if g 166 6 = 5 then g else u2 (cpR (u2 (u2 (u2 g 171 (g 166 6) k) 172 (g 166 6) v) 173 (g 166 6) (lwS g 2)) 174 (4 * g 166 6) 4 (fun _ => 0)) 166 6 (g 166 6 + 1)) else g) else g
theorem lwS_u (g : Nat → Nat → Nat) (p x y w : Nat) : lwS (u2 (u2 g 171 p x) 172 p y) w = lwS g w := by
  have e : ∀ n, lwF (u2 (u2 g 171 p x) 172 p y) (fC g) w n = lwF g (fC g) w n := by
    intro n
    induction n with
    | zero => rfl
    | succ n ih => unfold lwF; rw [ih]; rfl
  exact e (nC g)
/-- word i begins with n letters of the row r -/
noncomputable def ft (g : Nat → Nat → Nat) (r : Nat → Nat) (n i : Nat) : Bool := dc (n ≤ g 168 i ∧ ∀ k, k < n → g 167 (6 * i + k) = r k)
theorem all_s {p : Nat → Prop} {n : Nat} (h : ∀ k, k < n → p k) (e : p n) : ∀ k, k < n + 1 → p k := fun k hk => by
  by_cases q : k = n
  · rw [q]; exact e
  · exact h k (by omega)
noncomputable def fitS (g : Nat → Nat → Nat) (r : Nat → Nat) (n : Nat) : Nat := bset (ft g r n) (g 166 0)
noncomputable def fitA (g : Nat → Nat → Nat) (r : Nat → Nat) (n s : Nat) : Nat := bset (fun i => s.testBit i && ft g r n i) (g 166 0)
/-- n letters of the row r end -/
noncomputable def endS (g : Nat → Nat → Nat) (l : Nat) (r : Nat → Nat) (n : Nat) : Bool := dc (∃ i, i < g 166 0 ∧ g 168 i = n ∧ l ≤ n ∧ ft g r n i = true)
def allS (g : Nat → Nat → Nat) : Nat := 2 ^ g 166 0 - 1

theorem C_fits {L : Nat} {xs : Nat → Int32} (d : Nat) (g : Nat → Nat → Nat) (hl : Nat → Nat → Int64) (rt : Nat × Nat × Nat × Nat) (hI : MI g) (i : Nat) (hi : i < 12) {Q : Po} (hq : Q (some (.int (nI (bn (ft g (g 175) (g 166 9) i))))) (HN g hl (RF rt))) : Ev L xs d 163 0 [(0, .ref 166), (1, .int (nI i))] [] (HN g hl (RF rt)) Q := by
  have hW := hI.hW
  have hS := hI.hS
  have hPl := hI.hPl
  have hNx := hI.hNx
  have hLa := hI.hLa
  have hLo := hI.hLo
  have hTb := hI.hTb
  have hTh := hI.hTh
  have hFd := hI.hFd
  have hSn := hI.hSn
  have hSh := hI.hSh
  have hRan := hI.hRan
  have hLr := hI.hLr
  have hLt := hI.hLt
  have hgl := hI.hgl
  have hsz := hI.hsz
  have hcm := hI.hcm
  have hsl := hI.hsl
  have hkd := hI.hkd
  have hvv := hI.hvv
  have hli := hI.hli
  have hro := hI.hro
  have hrw := hI.hrw
  have htx := hI.htx
  have hsw := hI.hsw
  have hsx := hI.hsx
  have hsy := hI.hsy
  have hsh := hI.hsh
  have hle := hI.hle
  have hcl := hI.hcl
  have hwd := hI.hwd
  have hnu := hI.hnu
  have hwn := hI.hwn
  have hs1 := hI.hs1
  have hso := hI.hso
  refine Ev.run 3 (pc' := 5) (lv' := [(0, .ref 166), (1, .int (nI i))]) (st' := [.int (nI i), .ref 168]) (h' := HN g hl (RF rt)) rfl ?_
  refine Ev_iald rfl rfl (show i < 12 by omega) (Nat.le_of_ble_eq_true rfl) ?_
  have hr0 := hsz i (by omega)
  refine Ev.run 3 (pc' := (if nI (g 166 9) ≤ nI (g 168 i) then 15 else 13)) (lv' := [(0, .ref 166), (1, .int (nI i))]) (st' := []) (h' := HN g hl (RF rt)) rfl ?_
  refine Ev.ite (fun hc10 => ?_) (fun hc10 => ?_)
  · have hc10 : (g 166 9) ≤ (g 168 i) := (nI_leI (by omega) (by omega)).mp hc10
    refine Ev.run 2 (pc' := 17) (lv' := [(2, .int (nI 0)), (0, .ref 166), (1, .int (nI i))]) (st' := []) (h' := HN g hl (RF rt)) rfl ?_
    refine for_ind (g 166 9) (fun n => (∀ k, k < n → g 167 (6 * i + k) = g 175 k) → Ev L xs d 163 17 [(2, .int (nI n)), (0, .ref 166), (1, .int (nI i))] [] (HN g hl (RF rt)) Q) (fun n hn hnext ha => ?_) 0 (Nat.zero_le _) (fun k hk => absurd hk (Nat.not_lt_zero _))
    refine Ev.run 4 (pc' := (if nI (g 166 9) ≤ nI n then 53 else 25)) (lv' := [(2, .int (nI n)), (0, .ref 166), (1, .int (nI i))]) (st' := []) (h' := HN g hl (RF rt)) rfl ?_
    refine Ev.ite (fun hc22 => ?_) (fun hc22 => ?_)
    · have hc22 : (g 166 9) ≤ n := (nI_leI (by omega) (by omega)).mp hc22
      refine Ev.run 1 (pc' := 54) (lv' := [(2, .int (nI n)), (0, .ref 166), (1, .int (nI i))]) (st' := [.int (nI 1)]) (h' := HN g hl (RF rt)) rfl ?_
      refine Ev.ret (v := some (.int (nI 1))) rfl ?_
      rw [show ft g (g 175) (g 166 9) i = true from dc_t (⟨by omega, fun k hk => ha k (by omega)⟩)] at hq
      exact hq
    · have hc22 : ¬ ((g 166 9) ≤ n) := fun z => hc22 ((nI_leI (by omega) (by omega)).mpr z)
      refine Ev.run 5 (pc' := 33) (lv' := [(2, .int (nI n)), (0, .ref 166), (1, .int (nI i))]) (st' := [.int (nI 6 * nI i), .ref 167]) (h' := HN g hl (RF rt)) rfl ?_
      refine Ev.topI (pk_mul _ _) ?_
      refine Ev.run 2 (pc' := 35) (lv' := [(2, .int (nI n)), (0, .ref 166), (1, .int (nI i))]) (st' := [.int (nI (6 * i) + nI n), .ref 167]) (h' := HN g hl (RF rt)) rfl ?_
      refine Ev.topI (nI_add _ _) ?_
      refine Ev_iald rfl rfl (show (6 * i) + n < 72 by omega) (Nat.le_of_ble_eq_true rfl) ?_
      have hr1 := hgl ((6 * i) + n) (by omega)
      refine Ev.run 3 (pc' := 41) (lv' := [(2, .int (nI n)), (0, .ref 166), (1, .int (nI i))]) (st' := [.int (nI n), .ref 175, .int (nI (g 167 ((6 * i) + n)))]) (h' := HN g hl (RF rt)) rfl ?_
      refine Ev_iald rfl rfl (show n < 12 by omega) (Nat.le_of_ble_eq_true rfl) ?_
      have hr2 := hrw n (by omega)
      refine Ev.run 1 (pc' := (if nI (g 167 ((6 * i) + n)) = nI (g 175 n) then 47 else 45)) (lv' := [(2, .int (nI n)), (0, .ref 166), (1, .int (nI i))]) (st' := []) (h' := HN g hl (RF rt)) rfl ?_
      refine Ev.ite (fun hc42 => ?_) (fun hc42 => ?_)
      · have hc42 : (g 167 ((6 * i) + n)) = (g 175 n) := (nI_eqU (by omega) (by omega)).mp hc42
        refine Ev.run 1 (pc' := 50) (lv' := [(2, .int (nI n + 1)), (0, .ref 166), (1, .int (nI i))]) (st' := []) (h' := HN g hl (RF rt)) rfl ?_
        refine Ev.lvE (congrArg (fun z => (2, Value.int z) :: [(0, .ref 166), (1, .int (nI i))]) (nI_1 _)) ?_
        refine Ev.run 1 (pc' := 17) (lv' := [(2, .int (nI (n + 1))), (0, .ref 166), (1, .int (nI i))]) (st' := []) (h' := HN g hl (RF rt)) rfl ?_
        exact hnext (by omega) (all_s (p := fun k => g 167 (6 * i + k) = g 175 k) ha hc42)
      · have hc42 : ¬ ((g 167 ((6 * i) + n)) = (g 175 n)) := fun z => hc42 ((nI_eqU (by omega) (by omega)).mpr z)
        refine Ev.run 1 (pc' := 46) (lv' := [(2, .int (nI n)), (0, .ref 166), (1, .int (nI i))]) (st' := [.int (nI 0)]) (h' := HN g hl (RF rt)) rfl ?_
        refine Ev.ret (v := some (.int (nI 0))) rfl ?_
        rw [show ft g (g 175) (g 166 9) i = false from dc_f (fun z => by first | exact hc10 z.1 | (have := z.1; omega) | exact hc42 (z.2 n (by omega)))] at hq
        exact hq
  · have hc10 : ¬ ((g 166 9) ≤ (g 168 i)) := fun z => hc10 ((nI_leI (by omega) (by omega)).mpr z)
    refine Ev.run 1 (pc' := 14) (lv' := [(0, .ref 166), (1, .int (nI i))]) (st' := [.int (nI 0)]) (h' := HN g hl (RF rt)) rfl ?_
    refine Ev.ret (v := some (.int (nI 0))) rfl ?_
    rw [show ft g (g 175) (g 166 9) i = false from dc_f (fun z => by first | exact hc10 z.1 | (have := z.1; omega) | exact hc42 (z.2 n (by omega)))] at hq
    exact hq
theorem C_fitting {L : Nat} {xs : Nat → Int32} (d : Nat) (g : Nat → Nat → Nat) (hl : Nat → Nat → Int64) (rt : Nat × Nat × Nat × Nat) (hI : MI g) (s : Nat) (hs : s < 2 ^ 31) {Q : Po} (hq : Q (some (.int (nI (fitA g (g 175) (g 166 9) s)))) (HN g hl (RF rt))) : Ev L xs (d + 1) 164 0 [(0, .ref 166), (1, .int (nI s))] [] (HN g hl (RF rt)) Q := by
  have hW := hI.hW
  have hS := hI.hS
  have hPl := hI.hPl
  have hNx := hI.hNx
  have hLa := hI.hLa
  have hLo := hI.hLo
  have hTb := hI.hTb
  have hTh := hI.hTh
  have hFd := hI.hFd
  have hSn := hI.hSn
  have hSh := hI.hSh
  have hRan := hI.hRan
  have hLr := hI.hLr
  have hLt := hI.hLt
  have hgl := hI.hgl
  have hsz := hI.hsz
  have hcm := hI.hcm
  have hsl := hI.hsl
  have hkd := hI.hkd
  have hvv := hI.hvv
  have hli := hI.hli
  have hro := hI.hro
  have hrw := hI.hrw
  have htx := hI.htx
  have hsw := hI.hsw
  have hsx := hI.hsx
  have hsy := hI.hsy
  have hsh := hI.hsh
  have hle := hI.hle
  have hcl := hI.hcl
  have hwd := hI.hwd
  have hnu := hI.hnu
  have hwn := hI.hwn
  have hs1 := hI.hs1
  have hso := hI.hso
  refine Ev.run 4 (pc' := 4) (lv' := [(3, .int (nI 0)), (2, .int (nI 0)), (0, .ref 166), (1, .int (nI s))]) (st' := []) (h' := HN g hl (RF rt)) rfl ?_
  refine for_ind (g 166 0) (fun n => Ev L xs (d + 1) 164 4 [(3, .int (nI n)), (2, .int (nI (bset (fun i => s.testBit i && ft g (g 175) (g 166 9) i) n))), (0, .ref 166), (1, .int (nI s))] [] (HN g hl (RF rt)) Q) (fun n hn hnext => ?_) 0 (Nat.zero_le _)
  refine Ev.run 4 (pc' := (if nI (g 166 0) ≤ nI n then 45 else 12)) (lv' := [(3, .int (nI n)), (2, .int (nI (bset (fun i => s.testBit i && ft g (g 175) (g 166 9) i) n))), (0, .ref 166), (1, .int (nI s))]) (st' := []) (h' := HN g hl (RF rt)) rfl ?_
  refine Ev.ite (fun hc9 => ?_) (fun hc9 => ?_)
  · have hc9 : (g 166 0) ≤ n := (nI_leI (by omega) (by omega)).mp hc9
    refine Ev.run 1 (pc' := 46) (lv' := [(3, .int (nI n)), (2, .int (nI (bset (fun i => s.testBit i && ft g (g 175) (g 166 9) i) n))), (0, .ref 166), (1, .int (nI s))]) (st' := [.int (nI (bset (fun i => s.testBit i && ft g (g 175) (g 166 9) i) n))]) (h' := HN g hl (RF rt)) rfl ?_
    refine Ev.ret (v := some (.int (nI (bset (fun i => s.testBit i && ft g (g 175) (g 166 9) i) n)))) rfl ?_
    obtain rfl : n = g 166 0 := by omega
    exact hq
  · have hc9 : ¬ ((g 166 0) ≤ n) := fun z => hc9 ((nI_leI (by omega) (by omega)).mpr z)
    refine Ev.run 4 (pc' := 16) (lv' := [(3, .int (nI n)), (2, .int (nI (bset (fun i => s.testBit i && ft g (g 175) (g 166 9) i) n))), (0, .ref 166), (1, .int (nI s))]) (st' := [.int (nI n), .int (nI s), .ref 166, .int (nI (bset (fun i => s.testBit i && ft g (g 175) (g 166 9) i) n))]) (h' := HN g hl (RF rt)) rfl ?_
    refine Ev.call (a := 127) (as := [.ref 166, .int (nI s), .int (nI n)]) (rest := [.int (nI (bset (fun i => s.testBit i && ft g (g 175) (g 166 9) i) n))]) (lv0 := [(0, .ref 166), (1, .int (nI s)), (2, .int (nI n))]) (Q1 := (fun z0 h' => z0 = some (.int (nI (bn (Nat.testBit s n)))) ∧ h' = HN g hl (RF rt))) rfl rfl (C_isIn _ _ _ _ s n (by omega) (by omega) ⟨rfl, rfl⟩) (fun r h' hr => ?_)
    obtain ⟨rfl, rfl⟩ := hr
    refine Ev_bn (fun hb19 => ?_) (fun hb19 => ?_)
    · skip
      refine Ev.run 3 (pc' := 24) (lv' := [(3, .int (nI n)), (2, .int (nI (bset (fun i => s.testBit i && ft g (g 175) (g 166 9) i) n))), (0, .ref 166), (1, .int (nI s))]) (st' := [.int (nI n), .ref 166, .int (nI (bset (fun i => s.testBit i && ft g (g 175) (g 166 9) i) n))]) (h' := HN g hl (RF rt)) rfl ?_
      refine Ev.call (a := 163) (as := [.ref 166, .int (nI n)]) (rest := [.int (nI (bset (fun i => s.testBit i && ft g (g 175) (g 166 9) i) n))]) (lv0 := [(0, .ref 166), (1, .int (nI n))]) (Q1 := (fun z0 h' => z0 = some (.int (nI (bn (ft g (g 175) (g 166 9) n)))) ∧ h' = HN g hl (RF rt))) rfl rfl (C_fits _ _ _ _ hI n (by omega) ⟨rfl, rfl⟩) (fun r h' hr => ?_)
      obtain ⟨rfl, rfl⟩ := hr
      refine Ev_bn (fun hb27 => ?_) (fun hb27 => ?_)
      · skip
        refine Ev.run 4 (pc' := 33) (lv' := [(3, .int (nI n)), (2, .int (nI (bset (fun i => s.testBit i && ft g (g 175) (g 166 9) i) n))), (0, .ref 166), (1, .int (nI s))]) (st' := [.int (nI 1 <<< (nI n &&& 31)), .int (nI (bset (fun i => s.testBit i && ft g (g 175) (g 166 9) i) n))]) (h' := HN g hl (RF rt)) rfl ?_
        refine Ev.topI (nI_shl (by omega)) ?_
        refine Ev.run 2 (pc' := 38) (lv' := [(3, .int (nI n)), (2, .int (nI (bset (fun i => s.testBit i && ft g (g 175) (g 166 9) i) n))), (0, .ref 166), (1, .int (nI s))]) (st' := [.int (nI (bset (fun i => s.testBit i && ft g (g 175) (g 166 9) i) n) ||| nI (nSh 1 n))]) (h' := HN g hl (RF rt)) rfl ?_
        refine Ev.topI (nIo _ _) ?_
        refine Ev.run 2 (pc' := 42) (lv' := [(3, .int (nI n + 1)), (2, .int (nI ((bset (fun i => s.testBit i && ft g (g 175) (g 166 9) i) n) ||| (nSh 1 n)))), (0, .ref 166), (1, .int (nI s))]) (st' := []) (h' := HN g hl (RF rt)) rfl ?_
        refine Ev.lvE (congrArg (fun z => (3, Value.int z) :: [(2, .int (nI ((bset (fun i => s.testBit i && ft g (g 175) (g 166 9) i) n) ||| (nSh 1 n)))), (0, .ref 166), (1, .int (nI s))]) (nI_1 _)) ?_
        refine Ev.run 1 (pc' := 4) (lv' := [(3, .int (nI (n + 1))), (2, .int (nI ((bset (fun i => s.testBit i && ft g (g 175) (g 166 9) i) n) ||| (nSh 1 n)))), (0, .ref 166), (1, .int (nI s))]) (st' := []) (h' := HN g hl (RF rt)) rfl ?_
        have hx := hnext (by omega)
        rw [bset_s1 (p := fun i => s.testBit i && ft g (g 175) (g 166 9) i) (by simp only [hc9, hb19, hb27, Bool.and_true, Bool.and_false, Bool.true_and, Bool.false_and, decide_true, decide_false, Bool.not_true, Bool.not_false])] at hx
        exact hx
      · skip
        refine Ev.run 3 (pc' := 38) (lv' := [(3, .int (nI n)), (2, .int (nI (bset (fun i => s.testBit i && ft g (g 175) (g 166 9) i) n))), (0, .ref 166), (1, .int (nI s))]) (st' := [.int (nI (bset (fun i => s.testBit i && ft g (g 175) (g 166 9) i) n) ||| nI 0)]) (h' := HN g hl (RF rt)) rfl ?_
        refine Ev.topI (nIo _ _) ?_
        refine Ev.run 2 (pc' := 42) (lv' := [(3, .int (nI n + 1)), (2, .int (nI ((bset (fun i => s.testBit i && ft g (g 175) (g 166 9) i) n) ||| 0))), (0, .ref 166), (1, .int (nI s))]) (st' := []) (h' := HN g hl (RF rt)) rfl ?_
        refine Ev.lvE (congrArg (fun z => (3, Value.int z) :: [(2, .int (nI ((bset (fun i => s.testBit i && ft g (g 175) (g 166 9) i) n) ||| 0))), (0, .ref 166), (1, .int (nI s))]) (nI_1 _)) ?_
        refine Ev.run 1 (pc' := 4) (lv' := [(3, .int (nI (n + 1))), (2, .int (nI ((bset (fun i => s.testBit i && ft g (g 175) (g 166 9) i) n) ||| 0))), (0, .ref 166), (1, .int (nI s))]) (st' := []) (h' := HN g hl (RF rt)) rfl ?_
        have hx := hnext (by omega)
        rw [bset_s0 (p := fun i => s.testBit i && ft g (g 175) (g 166 9) i) (by simp only [hc9, hb19, hb27, Bool.and_true, Bool.and_false, Bool.true_and, Bool.false_and, decide_true, decide_false, Bool.not_true, Bool.not_false])] at hx
        exact hx
    · skip
      refine Ev.run 3 (pc' := 38) (lv' := [(3, .int (nI n)), (2, .int (nI (bset (fun i => s.testBit i && ft g (g 175) (g 166 9) i) n))), (0, .ref 166), (1, .int (nI s))]) (st' := [.int (nI (bset (fun i => s.testBit i && ft g (g 175) (g 166 9) i) n) ||| nI 0)]) (h' := HN g hl (RF rt)) rfl ?_
      refine Ev.topI (nIo _ _) ?_
      refine Ev.run 2 (pc' := 42) (lv' := [(3, .int (nI n + 1)), (2, .int (nI ((bset (fun i => s.testBit i && ft g (g 175) (g 166 9) i) n) ||| 0))), (0, .ref 166), (1, .int (nI s))]) (st' := []) (h' := HN g hl (RF rt)) rfl ?_
      refine Ev.lvE (congrArg (fun z => (3, Value.int z) :: [(2, .int (nI ((bset (fun i => s.testBit i && ft g (g 175) (g 166 9) i) n) ||| 0))), (0, .ref 166), (1, .int (nI s))]) (nI_1 _)) ?_
      refine Ev.run 1 (pc' := 4) (lv' := [(3, .int (nI (n + 1))), (2, .int (nI ((bset (fun i => s.testBit i && ft g (g 175) (g 166 9) i) n) ||| 0))), (0, .ref 166), (1, .int (nI s))]) (st' := []) (h' := HN g hl (RF rt)) rfl ?_
      have hx := hnext (by omega)
      rw [bset_s0 (p := fun i => s.testBit i && ft g (g 175) (g 166 9) i) (by simp only [hc9, hb19, Bool.and_true, Bool.and_false, Bool.true_and, Bool.false_and, decide_true, decide_false, Bool.not_true, Bool.not_false])] at hx
      exact hx
theorem nSh_1 (n : Nat) : nSh 1 n = 2 ^ n := by unfold nSh; rw [Nat.shiftLeft_eq, Nat.one_mul]
theorem nSh_12 {n : Nat} (h : n ≤ 12) : 1 ≤ nSh 1 n ∧ nSh 1 n ≤ 4096 := by
  rw [nSh_1]
  have h1 := Nat.pow_le_pow_right (n := 2) (by decide) h
  have h2 := Nat.two_pow_pos n
  omega
theorem allS_lt {g : Nat → Nat → Nat} (h : MI g) : allS g < 4096 := by
  have h1 := nSh_12 h.hW
  rw [nSh_1] at h1
  unfold allS
  omega
theorem allS_tb (g : Nat → Nat → Nat) (i : Nat) : (allS g).testBit i = decide (i < g 166 0) := Nat.testBit_two_pow_sub_one _ _
theorem C_all {L : Nat} {xs : Nat → Int32} (d : Nat) (g : Nat → Nat → Nat) (hl : Nat → Nat → Int64) (rt : Nat × Nat × Nat × Nat) (hI : MI g)  {Q : Po} (hq : Q (some (.int (nI (allS g)))) (HN g hl (RF rt))) : Ev L xs d 165 0 [(0, .ref 166)] [] (HN g hl (RF rt)) Q := by
  have hW := hI.hW
  have hS := hI.hS
  have hPl := hI.hPl
  have hNx := hI.hNx
  have hLa := hI.hLa
  have hLo := hI.hLo
  have hTb := hI.hTb
  have hTh := hI.hTh
  have hFd := hI.hFd
  have hSn := hI.hSn
  have hSh := hI.hSh
  have hRan := hI.hRan
  have hLr := hI.hLr
  have hLt := hI.hLt
  have hgl := hI.hgl
  have hsz := hI.hsz
  have hcm := hI.hcm
  have hsl := hI.hsl
  have hkd := hI.hkd
  have hvv := hI.hvv
  have hli := hI.hli
  have hro := hI.hro
  have hrw := hI.hrw
  have htx := hI.htx
  have hsw := hI.hsw
  have hsx := hI.hsx
  have hsy := hI.hsy
  have hsh := hI.hsh
  have hle := hI.hle
  have hcl := hI.hcl
  have hwd := hI.hwd
  have hnu := hI.hnu
  have hwn := hI.hwn
  have hs1 := hI.hs1
  have hso := hI.hso
  have hsh := nSh_12 hW
  refine Ev.run 4 (pc' := 6) (lv' := [(0, .ref 166)]) (st' := [.int (nI 1 <<< (nI (g 166 0) &&& 31))]) (h' := HN g hl (RF rt)) rfl ?_
  refine Ev.topI (nI_shl (by omega)) ?_
  refine Ev.run 2 (pc' := 8) (lv' := [(0, .ref 166)]) (st' := [.int (nI (nSh 1 (g 166 0)) - nI 1)]) (h' := HN g hl (RF rt)) rfl ?_
  refine Ev.topI (pk_sub (a := (nSh 1 (g 166 0))) (b := 1) (by omega)) ?_
  refine Ev.ret (v := some (.int (nI ((nSh 1 (g 166 0)) - 1)))) rfl ?_
  unfold allS at hq
  rw [← nSh_1] at hq
  exact hq
