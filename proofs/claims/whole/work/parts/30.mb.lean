/-! the reference: what one does -/
theorem sw_outL {x lo hi : Nat} (hx : x < 2 ^ 31) (h : x < lo ∨ hi < x) : (nI x).toInt < (lo : Int) ∨ (hi : Int) < (nI x).toInt := by
  rw [nI_toInt hx]
  omega
def slL (f : Nat → Nat) (s : Nat) : Nat → Nat × Nat
  | 0 => (4294967295, 0)
  | n + 1 => if s.testBit n = true then (if (slL f s n).1 < 2147483648 ∧ (slL f s n).2 ≤ f n then slL f s n else (n, f n)) else slL f s n
theorem slL_0 {f : Nat → Nat} {s n : Nat} (h : s.testBit n = false) : slL f s (n + 1) = slL f s n := by
  rw [slL, if_neg (by rw [h]; decide)]
theorem slL_k {f : Nat → Nat} {s n : Nat} (h : s.testBit n = true) (h1 : (slL f s n).1 < 2147483648 ∧ (slL f s n).2 ≤ f n) : slL f s (n + 1) = slL f s n := by
  rw [slL, if_pos h, if_pos h1]
theorem slL_n {f : Nat → Nat} {s n : Nat} (h : s.testBit n = true) (h1 : ¬ ((slL f s n).1 < 2147483648 ∧ (slL f s n).2 ≤ f n)) : slL f s (n + 1) = (n, f n) := by
  rw [slL, if_pos h, if_neg h1]
theorem slL_b {f : Nat → Nat} (hf : ∀ l, f l ≤ 12) (s : Nat) : ∀ n, ((slL f s n).1 < n ∨ (slL f s n).1 = 4294967295) ∧ (slL f s n).2 ≤ 12 := by
  intro n
  induction n with
  | zero => exact ⟨Or.inr rfl, Nat.zero_le _⟩
  | succ n ih =>
    unfold slL
    split
    · split
      · exact ⟨by omega, ih.2⟩
      · exact ⟨Or.inl (Nat.lt_succ_self _), hf n⟩
    · exact ⟨by omega, ih.2⟩
theorem slL_e {f : Nat → Nat} {s : Nat} (hf : ∀ l, f l ≤ 12) : ∀ n i, n ≤ 100 → i < n → s.testBit i = true → (slL f s n).1 < n := by
  intro n
  induction n with
  | zero => intro i _ h; omega
  | succ n ih =>
    intro i hn hi h
    by_cases e : i = n
    · subst e
      by_cases h1 : (slL f s i).1 < 2147483648 ∧ (slL f s i).2 ≤ f i
      · rw [slL_k h h1]
        have := (slL_b hf s i).1
        omega
      · rw [slL_n h h1]; exact Nat.lt_succ_self _
    · have h2 := ih i (by omega) (by omega) h
      unfold slL
      split
      · split
        · omega
        · exact Nat.lt_succ_self _
      · omega
theorem mtS_le (g : Nat → Nat → Nat) (p l : Nat) : mtS g p l ≤ 12 := ones12_le _
noncomputable def slS (g : Nat → Nat → Nat) (p may safe : Nat) : Nat := if safe = 0 then plS may safe else (slL (mtS g (nxS (g 173) (g 166 6) p)) safe 4).1
def fstF (q : Nat → Bool) (e : Nat) : Nat → Nat → Nat
  | 0, _ => e
  | f + 1, k => bif q k then k else fstF q e f (k + 1)
theorem fstF_s {q : Nat → Bool} {e P n : Nat} (h : n < P) (h2 : q n = false) : fstF q e (P - (n + 1)) (n + 1) = fstF q e (P - n) n := by
  rw [show P - n = (P - (n + 1)) + 1 by omega]
  show _ = (bif _ then _ else _)
  rw [h2]; rfl
theorem fstF_e {q : Nat → Bool} {e P n : Nat} (h : n < P) (h2 : q n = true) : fstF q e (P - n) n = n := by
  rw [show P - n = (P - (n + 1)) + 1 by omega]
  show (bif _ then _ else _) = _
  rw [h2]; rfl
noncomputable def ldB (g : Nat → Nat → Nat) (l : Nat) : Bool := decide (wrS g (up (g 175) (g 166 9) l) (g 166 9 + 1) (allS g) = 0)
noncomputable def leS (g : Nat → Nat → Nat) (p may safe : Nat) : Nat := fstF (fun l => safe.testBit l && ldB g l) (slS g p may safe) 4 0
noncomputable def doS (g : Nat → Nat → Nat) (p : Nat) : Nat := if g 171 p = 1 then slS g p (maS g p) (saS g (maS g p)) else if g 171 p = 2 then waS (g 166 8) (maS g p) (saS g (maS g p)) else if g 171 p = 3 then boS (g 166 9) (g 172 p) (maS g p) (saS g (maS g p)) else if g 171 p = 4 then leS g p (maS g p) (saS g (maS g p)) else if g 171 p = 5 then waS (g 166 8) (maS g p) (saS g (maS g p)) else if g 171 p = 6 then (bif (maS g p).testBit (g 174 (4 * p + g 166 9 % 4)) then g 174 (4 * p + g 166 9 % 4) else boS (g 166 9) (g 172 p) (maS g p) (saS g (maS g p))) else plS (maS g p) (saS g (maS g p))
theorem UwrS1 {g : Nat → Nat → Nat} {r w v : Nat → Nat} (hs : SmH g r v) (l : Nat) : wrS (U g r w v) (up (U g r w v 175) (U g r w v 166 9) l) (U g r w v 166 9 + 1) (allS (U g r w v)) = wrS g (up (g 175) (g 166 9) l) (g 166 9 + 1) (allS g) := by
  rw [(Cx.cU g r w v).xwrS, (Cx.cU g r w v).xallS]; exact wrS_cg (up_cg hs.2.1 l) _
theorem nz_tb {s k : Nat} (h : s.testBit k = true) : s ≠ 0 := fun z => by rw [z, Nat.zero_testBit] at h; cases h
-- what is done is a letter, or asking
theorem plS_ok {may safe n : Nat} (h1 : may < 16) (h2 : safe < 16) (h3 : may ≠ 0 → n < 12) (h4 : safe ≠ 0 → n < 12) : plS may safe = 10 ∨ (plS may safe ≤ 3 ∧ n < 12) := by
  unfold plS
  split
  · split
    · exact Or.inl rfl
    · rename_i h; have := least_lt h (N := 4) h1 (by decide); exact Or.inr ⟨by omega, h3 h⟩
  · rename_i h; have := least_lt h (N := 4) h2 (by decide); exact Or.inr ⟨by omega, h4 h⟩
theorem tb_ex {s N : Nat} (h0 : s ≠ 0) (hs : s < 2 ^ N) : ∃ i, i < N ∧ s.testBit i = true := by
  obtain ⟨j, a, b, _⟩ := least_ex h0 hs
  exact ⟨j, a, b⟩
theorem slS_ok {g : Nat → Nat → Nat} {p may safe : Nat} (h1 : may < 16) (h2 : safe < 16) (h3 : may ≠ 0 → g 166 9 < 12) (h4 : safe ≠ 0 → g 166 9 < 12) : slS g p may safe = 10 ∨ (slS g p may safe ≤ 3 ∧ g 166 9 < 12) := by
  unfold slS
  split
  · exact plS_ok h1 h2 h3 h4
  · rename_i h
    obtain ⟨i, a, b⟩ := tb_ex (N := 4) h h2
    have := slL_e (f := mtS g (nxS (g 173) (g 166 6) p)) (mtS_le _ _) 4 i (by decide) a b
    exact Or.inr ⟨by omega, h4 h⟩
theorem fstF_ok {q : Nat → Bool} {e : Nat} {P : Nat → Prop} (he : P e) : ∀ f k, (∀ j, j < k + f → q j = true → P j) → P (fstF q e f k) := by
  intro f
  induction f with
  | zero => intro k _; exact he
  | succ f ih =>
    intro k h
    unfold fstF
    cases hq : q k with
    | true => exact h k (by omega) hq
    | false => exact ih (k + 1) (fun j hj => h j (by omega))
theorem boS_ok {n v may safe : Nat} (h1 : may < 16) (h2 : safe < 16) (h3 : may ≠ 0 → n < 12) (h4 : safe ≠ 0 → n < 12) : boS n v may safe = 10 ∨ (boS n v may safe ≤ 3 ∧ n < 12) := by
  unfold boS
  split
  · split
    · exact plS_ok h1 h2 h3 h4
    · exact Or.inr ⟨by have := Nat.mod_lt v (show 0 < 4 by decide); omega, by omega⟩
  · exact plS_ok h1 h2 h3 h4
theorem waS_ok {la may safe n : Nat} (h1 : may < 16) (h2 : safe < 16) (h3 : may ≠ 0 → n < 12) (h4 : safe ≠ 0 → n < 12) : waS la may safe = 10 ∨ (waS la may safe ≤ 3 ∧ n < 12) := by
  unfold waS
  split
  · split
    · exact plS_ok h1 h2 h3 h4
    · exact Or.inl rfl
  · exact plS_ok h1 h2 h3 h4
theorem maS_0 {g : Nat → Nat → Nat} (h : MI g) {p : Nat} (h0 : maS g p ≠ 0) : g 166 9 < 6 := by
  refine Classical.byContradiction fun z => h0 ?_
  exact goG_0 h _ _ (by omega)
theorem saS_0 {g : Nat → Nat → Nat} {may : Nat} (h0 : saS g may ≠ 0) : may ≠ 0 := by
  obtain ⟨i, _, b⟩ := tb_ex (N := 4) h0 (saS_lt g may)
  unfold saS at b
  rw [bset_tb, Bool.and_eq_true, Bool.and_eq_true] at b
  exact nz_tb b.2.1
theorem doS_ok {g : Nat → Nat → Nat} (h : MI g) {p : Nat} (hp : p < 5) : doS g p = 10 ∨ (doS g p ≤ 3 ∧ g 166 9 < 12) := by
  have h1 := maS_lt h p
  have h2 := saS_lt g (maS g p)
  have h3 : maS g p ≠ 0 → g 166 9 < 12 := fun z => by have := maS_0 h z; omega
  have h4 : saS g (maS g p) ≠ 0 → g 166 9 < 12 := fun z => h3 (saS_0 z)
  unfold doS
  split
  · exact slS_ok h1 h2 h3 h4
  split
  · exact waS_ok h1 h2 h3 h4
  split
  · exact boS_ok h1 h2 h3 h4
  split
  · unfold leS
    refine fstF_ok (P := fun x => x = 10 ∨ (x ≤ 3 ∧ g 166 9 < 12)) (slS_ok h1 h2 h3 h4) 4 0 (fun j hj hq => ?_)
    rw [Bool.and_eq_true] at hq
    exact Or.inr ⟨by omega, h4 (nz_tb hq.1)⟩
  split
  · exact waS_ok h1 h2 h3 h4
  split
  · cases e : (maS g p).testBit (g 174 (4 * p + g 166 9 % 4)) with
    | true => exact Or.inr ⟨h.hro _ (by omega), h3 (nz_tb e)⟩
    | false => exact boS_ok h1 h2 h3 h4
  · exact plS_ok h1 h2 h3 h4
theorem C_mayThen {L : Nat} {xs : Nat → Int32} (d : Nat) (g : Nat → Nat → Nat) (hl : Nat → Nat → Int64) (rt : Nat × Nat × Nat × Nat) (hI : MI g) (hK : KW g) (p l : Nat) (hp : p < 5) (hl3 : l ≤ 3) (hn12 : g 166 9 < 12) (r w v : Nat → Nat) (hs : SmH g r v)  {Q : Po} (hq : ∀ r' w' v' : Nat → Nat, SmH g r' v' → Q (some (.int (nI (mtS g p l)))) (HN (U g r' w' v') hl (RF rt))) : Ev L xs (d + 5) 181 0 [(0, .ref 166), (1, .int (nI p)), (2, .int (nI l))] [] (HN (U g r w v) hl (RF rt)) Q := by
  have hW := hI.hW
  have hS := hI.hS
  have hPl := hI.hPl
  have hNx := hI.hNx
  have hLa := hI.hLa
  have hLo := hI.hLo
  have hTb := hI.hTb
  have hTh := hI.hTh
  have hFd := hI.hFd
  have hSn := hI.hSn
  have hSh := hI.hSh
  have hRan := hI.hRan
  have hLr := hI.hLr
  have hLt := hI.hLt
  have hgl := hI.hgl
  have hsz := hI.hsz
  have hcm := hI.hcm
  have hsl := hI.hsl
  have hkd := hI.hkd
  have hvv := hI.hvv
  have hli := hI.hli
  have hro := hI.hro
  have hrw := hI.hrw
  have htx := hI.htx
  have hsw := hI.hsw
  have hsx := hI.hsx
  have hsy := hI.hsy
  have hsh := hI.hsh
  have hle := hI.hle
  have hcl := hI.hcl
  have hwd := hI.hwd
  have hnu := hI.hnu
  have hwn := hI.hwn
  have hs1 := hI.hs1
  have hso := hI.hso
  have hR9 : R1 g l 166 9 = g 166 9 + 1 := rfl
  refine Ev.run 5 (pc' := 9) (lv' := [(0, .ref 166), (1, .int (nI p)), (2, .int (nI l))]) (st' := [.int (nI l), .int (nI (g 166 9)), .ref 175]) (h' := HN (U g r w v) hl (RF rt)) rfl ?_
  refine Ev_iast rfl rfl (show g 166 9 < 12 by omega) (Nat.le_of_ble_eq_true rfl) ?_
  refine Ev.run 5 (pc' := 17) (lv' := [(0, .ref 166), (1, .int (nI p)), (2, .int (nI l))]) (st' := [.int (nI (g 166 9) + nI 1), .ref 166]) (h' := HN (u2 (U g r w v) 175 (g 166 9) l) hl (RF rt)) rfl ?_
  refine Ev.topI (nI_add _ _) ?_
  refine Ev.run 1 (pc' := 20) (lv' := [(0, .ref 166), (1, .int (nI p)), (2, .int (nI l))]) (st' := []) (h' := setI (HN (u2 (U g r w v) 175 (g 166 9) l) hl (RF rt)) 166 9 (nI ((g 166 9) + 1))) rfl ?_
  refine Ev.hp (HN_set _ _ _ _ _ _) ?_
  refine Ev.hp (congrArg (fun z => HN z hl (RF rt)) (U_R1 g r w v l)) ?_
  have hI2 := hI.mR1 hl3 hn12
  have hs2 := hs.sR1 hl3
  refine Ev.run 3 (pc' := 23) (lv' := [(0, .ref 166), (1, .int (nI p)), (2, .int (nI l))]) (st' := [.int (nI p), .ref 166, .ref 166]) (h' := HN (U (R1 g l) (up r (g 166 9) l) w v) hl (RF rt)) rfl ?_
  refine Ev.call (a := 180) (as := [.ref 166, .int (nI p)]) (rest := [.ref 166]) (lv0 := [(0, .ref 166), (1, .int (nI p))]) (Q1 := (fun r h' => ∃ r1 w1 v1, SmH (R1 g l) r1 v1 ∧ r = some (.int (nI (maS (R1 g l) p))) ∧ h' = HN (U (R1 g l) r1 w1 v1) hl (RF rt))) rfl rfl (C_mayOf _ _ _ _ hI2 (hK.cx (Cx.cR1 g l)) p (by omega) (up r (g 166 9) l) w v hs2 (fun r w v h => ⟨r, w, v, h, rfl, rfl⟩)) (fun r h' hr => ?_)
  obtain ⟨r12, w12, v12, hs12, rfl, rfl⟩ := hr
  have hma := maS_lt hI2 p
  refine Ev.call (a := 128) (as := [.ref 166, .int (nI (maS (R1 g l) p))]) (rest := []) (lv0 := [(0, .ref 166), (1, .int (nI (maS (R1 g l) p)))]) (Q1 := (fun z0 h' => z0 = some (.int (nI (ones12 (maS (R1 g l) p)))) ∧ h' = HN (U (R1 g l) r12 w12 v12) hl (RF rt))) rfl rfl (C_ones _ _ _ _ (maS (R1 g l) p) (by omega) ⟨rfl, rfl⟩) (fun r h' hr => ?_)
  obtain ⟨rfl, rfl⟩ := hr
  refine Ev.run 6 (pc' := 37) (lv' := [(3, .int (nI (ones12 (maS (R1 g l) p)))), (0, .ref 166), (1, .int (nI p)), (2, .int (nI l))]) (st' := [.int (nI ((R1 g l) 166 9) - nI 1), .ref 166]) (h' := HN (U (R1 g l) r12 w12 v12) hl (RF rt)) rfl ?_
  refine Ev.topI (pk_sub (a := ((R1 g l) 166 9)) (b := 1) (by omega)) ?_
  refine Ev.run 1 (pc' := 40) (lv' := [(3, .int (nI (ones12 (maS (R1 g l) p)))), (0, .ref 166), (1, .int (nI p)), (2, .int (nI l))]) (st' := []) (h' := setI (HN (U (R1 g l) r12 w12 v12) hl (RF rt)) 166 9 (nI (((R1 g l) 166 9) - 1))) rfl ?_
  refine Ev.hp (HN_set _ _ _ _ _ _) ?_
  refine Ev.run 1 (pc' := 41) (lv' := [(3, .int (nI (ones12 (maS (R1 g l) p)))), (0, .ref 166), (1, .int (nI p)), (2, .int (nI l))]) (st' := [.int (nI (ones12 (maS (R1 g l) p)))]) (h' := HN (u2 (U (R1 g l) r12 w12 v12) 166 9 (((R1 g l) 166 9) - 1)) hl (RF rt)) rfl ?_
  refine Ev.ret (v := some (.int (nI (ones12 (maS (R1 g l) p))))) rfl ?_
  have hx := hq r12 w12 v12 hs12.back
  rw [← R1_back g r12 w12 v12 l (R1 g l 166 9 - 1) (by show g 166 9 + 1 - 1 = _; omega), ← UmtS] at hx
  exact hx
theorem C_slyly {L : Nat} {xs : Nat → Int32} (d : Nat) (g : Nat → Nat → Nat) (hl : Nat → Nat → Int64) (rt : Nat × Nat × Nat × Nat) (hI : MI g) (hK : KW g) (p may safe : Nat) (hp : p < 5) (hmay : may < 16) (hsafe : safe < 16) (h12 : safe ≠ 0 → g 166 9 < 12) (r w v : Nat → Nat) (hs : SmH g r v)  {Q : Po} (hq : ∀ r' w' v' : Nat → Nat, SmH g r' v' → Q (some (.int (nI (slS g p may safe)))) (HN (U g r' w' v') hl (RF rt))) : Ev L xs (d + 6) 183 0 [(0, .ref 166), (1, .int (nI p)), (2, .int (nI may)), (3, .int (nI safe))] [] (HN (U g r w v) hl (RF rt)) Q := by
  have hW := hI.hW
  have hS := hI.hS
  have hPl := hI.hPl
  have hNx := hI.hNx
  have hLa := hI.hLa
  have hLo := hI.hLo
  have hTb := hI.hTb
  have hTh := hI.hTh
  have hFd := hI.hFd
  have hSn := hI.hSn
  have hSh := hI.hSh
  have hRan := hI.hRan
  have hLr := hI.hLr
  have hLt := hI.hLt
  have hgl := hI.hgl
  have hsz := hI.hsz
  have hcm := hI.hcm
  have hsl := hI.hsl
  have hkd := hI.hkd
  have hvv := hI.hvv
  have hli := hI.hli
  have hro := hI.hro
  have hrw := hI.hrw
  have htx := hI.htx
  have hsw := hI.hsw
  have hsx := hI.hsx
  have hsy := hI.hsy
  have hsh := hI.hsh
  have hle := hI.hle
  have hcl := hI.hcl
  have hwd := hI.hwd
  have hnu := hI.hnu
  have hwn := hI.hwn
  have hs1 := hI.hs1
  have hso := hI.hso
  refine Ev.run 2 (pc' := (if nI safe = 0 then 4 else 11)) (lv' := [(0, .ref 166), (1, .int (nI p)), (2, .int (nI may)), (3, .int (nI safe))]) (st' := []) (h' := HN (U g r w v) hl (RF rt)) rfl ?_
  refine Ev.ite (fun hc1 => ?_) (fun hc1 => ?_)
  · have hc1 : safe = 0 := (nI_eqU0 (by omega)).mp hc1
    refine Ev.run 3 (pc' := 7) (lv' := [(0, .ref 166), (1, .int (nI p)), (2, .int (nI may)), (3, .int (nI safe))]) (st' := [.int (nI safe), .int (nI may), .ref 166]) (h' := HN (U g r w v) hl (RF rt)) rfl ?_
    refine Ev.call (a := 182) (as := [.ref 166, .int (nI may), .int (nI safe)]) (rest := []) (lv0 := [(0, .ref 166), (1, .int (nI may)), (2, .int (nI safe))]) (Q1 := (fun z0 h' => z0 = some (.int (nI (plS may safe))) ∧ h' = HN (U g r w v) hl (RF rt))) rfl rfl (C_plainly _ _ _ _ may safe (by omega) (by omega) ⟨rfl, rfl⟩) (fun r h' hr => ?_)
    obtain ⟨rfl, rfl⟩ := hr
    refine Ev.ret (v := some (.int (nI (plS may safe)))) rfl ?_
    have hx := hq r w v hs
    unfold slS at hx
    rw [if_pos hc1] at hx
    exact hx
  · have hc1 : ¬ (safe = 0) := fun z => hc1 ((nI_eqU0 (by omega)).mpr z)
    refine Ev.run 2 (pc' := 13) (lv' := [(0, .ref 166), (1, .int (nI p)), (2, .int (nI may)), (3, .int (nI safe))]) (st' := [.int (nI p), .ref 166]) (h' := HN (U g r w v) hl (RF rt)) rfl ?_
    refine Ev.call (a := 179) (as := [.ref 166, .int (nI p)]) (rest := []) (lv0 := [(0, .ref 166), (1, .int (nI p))]) (Q1 := (fun z0 h' => z0 = some (.int (nI (nxS (g 173) (g 166 6) p))) ∧ h' = HN (U g r w v) hl (RF rt))) rfl rfl (C_nextOf _ _ _ _ (hI.mU hs) p (by omega) ⟨rfl, rfl⟩) (fun r h' hr => ?_)
    obtain ⟨rfl, rfl⟩ := hr
    have hnx := nxS_lt (g 173) (g 166 6) p (by omega) hPl
    refine Ev.run 7 (pc' := 27) (lv' := [(7, .int (nI 0)), (6, .int (nI 0)), (5, .int (nI 4294967295)), (4, .int (nI (nxS (g 173) (g 166 6) p))), (0, .ref 166), (1, .int (nI p)), (2, .int (nI may)), (3, .int (nI safe))]) (st' := []) (h' := HN (U g r w v) hl (RF rt)) rfl ?_
    refine for_ind 4 (fun n => ∀ (r w v : Nat → Nat), SmH g r v → Ev L xs (d + 6) 183 27 [(7, .int (nI n)), (6, .int (nI ((slL (mtS g (nxS (g 173) (g 166 6) p)) safe n).2))), (5, .int (nI ((slL (mtS g (nxS (g 173) (g 166 6) p)) safe n).1))), (4, .int (nI (nxS (g 173) (g 166 6) p))), (0, .ref 166), (1, .int (nI p)), (2, .int (nI may)), (3, .int (nI safe))] [] (HN (U g r w v) hl (RF rt)) Q) (fun n hn hnext => ?_) 0 (Nat.zero_le _) r w v hs
    intro r w v hs
    have hsl := slL_b (f := (mtS g (nxS (g 173) (g 166 6) p))) (mtS_le _ _) safe n
    have hn12 : g 166 9 < 12 := h12 hc1
    refine Ev.run 3 (pc' := (if nI 4 ≤ nI n then 85 else 33)) (lv' := [(7, .int (nI n)), (6, .int (nI ((slL (mtS g (nxS (g 173) (g 166 6) p)) safe n).2))), (5, .int (nI ((slL (mtS g (nxS (g 173) (g 166 6) p)) safe n).1))), (4, .int (nI (nxS (g 173) (g 166 6) p))), (0, .ref 166), (1, .int (nI p)), (2, .int (nI may)), (3, .int (nI safe))]) (st' := []) (h' := HN (U g r w v) hl (RF rt)) rfl ?_
    refine Ev.ite (fun hc30 => ?_) (fun hc30 => ?_)
    · have hc30 : 4 ≤ n := (nI_leI (by omega) (by omega)).mp hc30
      refine Ev.run 1 (pc' := 87) (lv' := [(7, .int (nI n)), (6, .int (nI ((slL (mtS g (nxS (g 173) (g 166 6) p)) safe n).2))), (5, .int (nI ((slL (mtS g (nxS (g 173) (g 166 6) p)) safe n).1))), (4, .int (nI (nxS (g 173) (g 166 6) p))), (0, .ref 166), (1, .int (nI p)), (2, .int (nI may)), (3, .int (nI safe))]) (st' := [.int (nI ((slL (mtS g (nxS (g 173) (g 166 6) p)) safe n).1))]) (h' := HN (U g r w v) hl (RF rt)) rfl ?_
      refine Ev.ret (v := some (.int (nI ((slL (mtS g (nxS (g 173) (g 166 6) p)) safe n).1)))) rfl ?_
      obtain rfl : n = 4 := by omega
      have hx := hq r w v hs
      unfold slS at hx
      rw [if_neg hc1] at hx
      exact hx
    · have hc30 : ¬ (4 ≤ n) := fun z => hc30 ((nI_leI (by omega) (by omega)).mpr z)
      refine Ev.run 3 (pc' := 37) (lv' := [(7, .int (nI n)), (6, .int (nI ((slL (mtS g (nxS (g 173) (g 166 6) p)) safe n).2))), (5, .int (nI ((slL (mtS g (nxS (g 173) (g 166 6) p)) safe n).1))), (4, .int (nI (nxS (g 173) (g 166 6) p))), (0, .ref 166), (1, .int (nI p)), (2, .int (nI may)), (3, .int (nI safe))]) (st' := [.int (nI n), .int (nI safe), .ref 166]) (h' := HN (U g r w v) hl (RF rt)) rfl ?_
      refine Ev.call (a := 127) (as := [.ref 166, .int (nI safe), .int (nI n)]) (rest := []) (lv0 := [(0, .ref 166), (1, .int (nI safe)), (2, .int (nI n))]) (Q1 := (fun z0 h' => z0 = some (.int (nI (bn (Nat.testBit safe n)))) ∧ h' = HN (U g r w v) hl (RF rt))) rfl rfl (C_isIn _ _ _ _ safe n (by omega) (by omega) ⟨rfl, rfl⟩) (fun r h' hr => ?_)
      obtain ⟨rfl, rfl⟩ := hr
      refine Ev_bn (fun hb40 => ?_) (fun hb40 => ?_)
      · skip
        refine Ev.run 4 (pc' := 51) (lv' := [(7, .int (nI n)), (6, .int (nI ((slL (mtS g (nxS (g 173) (g 166 6) p)) safe n).2))), (5, .int (nI ((slL (mtS g (nxS (g 173) (g 166 6) p)) safe n).1))), (4, .int (nI (nxS (g 173) (g 166 6) p))), (0, .ref 166), (1, .int (nI p)), (2, .int (nI may)), (3, .int (nI safe))]) (st' := [.int (nI n), .int (nI (nxS (g 173) (g 166 6) p)), .ref 166]) (h' := HN (U g r w v) hl (RF rt)) rfl ?_
        refine Ev.call (a := 181) (as := [.ref 166, .int (nI (nxS (g 173) (g 166 6) p)), .int (nI n)]) (rest := []) (lv0 := [(0, .ref 166), (1, .int (nI (nxS (g 173) (g 166 6) p))), (2, .int (nI n))]) (Q1 := (fun r h' => ∃ r1 w1 v1, SmH g r1 v1 ∧ r = some (.int (nI (mtS g (nxS (g 173) (g 166 6) p) n))) ∧ h' = HN (U g r1 w1 v1) hl (RF rt))) rfl rfl (C_mayThen _ _ _ _ hI hK (nxS (g 173) (g 166 6) p) n (by omega) (by omega) hn12 r w v hs (fun r w v h => ⟨r, w, v, h, rfl, rfl⟩)) (fun r h' hr => ?_)
        obtain ⟨r13, w13, v13, hs13, rfl, rfl⟩ := hr
        have hmt := mtS_le g (nxS (g 173) (g 166 6) p) n
        refine Ev.run 3 (pc' := (if nI ((slL (mtS g (nxS (g 173) (g 166 6) p)) safe n).1) < 0 then 71 else 61)) (lv' := [(8, .int (nI (mtS g (nxS (g 173) (g 166 6) p) n))), (7, .int (nI n)), (6, .int (nI ((slL (mtS g (nxS (g 173) (g 166 6) p)) safe n).2))), (5, .int (nI ((slL (mtS g (nxS (g 173) (g 166 6) p)) safe n).1))), (4, .int (nI (nxS (g 173) (g 166 6) p))), (0, .ref 166), (1, .int (nI p)), (2, .int (nI may)), (3, .int (nI safe))]) (st' := []) (h' := HN (U g r13 w13 v13) hl (RF rt)) rfl ?_
        refine Ev.ite (fun hc58 => ?_) (fun hc58 => ?_)
        · have hc58 : 2147483648 ≤ ((slL (mtS g (nxS (g 173) (g 166 6) p)) safe n).1) := (nI_ltU0 (by omega)).mp hc58
          refine Ev.run 5 (pc' := 82) (lv' := [(7, .int (nI n + 1)), (6, .int (nI (mtS g (nxS (g 173) (g 166 6) p) n))), (5, .int (nI n)), (8, .int (nI (mtS g (nxS (g 173) (g 166 6) p) n))), (4, .int (nI (nxS (g 173) (g 166 6) p))), (0, .ref 166), (1, .int (nI p)), (2, .int (nI may)), (3, .int (nI safe))]) (st' := []) (h' := HN (U g r13 w13 v13) hl (RF rt)) rfl ?_
          refine Ev.lvE (congrArg (fun z => (7, Value.int z) :: [(6, .int (nI (mtS g (nxS (g 173) (g 166 6) p) n))), (5, .int (nI n)), (8, .int (nI (mtS g (nxS (g 173) (g 166 6) p) n))), (4, .int (nI (nxS (g 173) (g 166 6) p))), (0, .ref 166), (1, .int (nI p)), (2, .int (nI may)), (3, .int (nI safe))]) (nI_1 _)) ?_
          refine Ev.run 1 (pc' := 27) (lv' := [(7, .int (nI (n + 1))), (6, .int (nI (mtS g (nxS (g 173) (g 166 6) p) n))), (5, .int (nI n)), (8, .int (nI (mtS g (nxS (g 173) (g 166 6) p) n))), (4, .int (nI (nxS (g 173) (g 166 6) p))), (0, .ref 166), (1, .int (nI p)), (2, .int (nI may)), (3, .int (nI safe))]) (st' := []) (h' := HN (U g r13 w13 v13) hl (RF rt)) rfl ?_
          have hx := hnext (by omega) r13 w13 v13 hs13
          rw [slL_n hb40 (fun z => by omega)] at hx
          exact Ev.wk (Ext.cons rfl rfl (Ext.cons rfl rfl (Ext.cons rfl rfl (Ext.cons rfl rfl (Ext.cons rfl rfl (Ext.cons rfl rfl (Ext.cons rfl rfl (Ext.cons rfl rfl (Ext.nil rfl))))))))) hx
        · have hc58 : ¬ (2147483648 ≤ ((slL (mtS g (nxS (g 173) (g 166 6) p)) safe n).1)) := fun z => hc58 ((nI_ltU0 (by omega)).mpr z)
          refine Ev.run 3 (pc' := (if nI (mtS g (nxS (g 173) (g 166 6) p) n) < nI ((slL (mtS g (nxS (g 173) (g 166 6) p)) safe n).2) then 71 else 68)) (lv' := [(8, .int (nI (mtS g (nxS (g 173) (g 166 6) p) n))), (7, .int (nI n)), (6, .int (nI ((slL (mtS g (nxS (g 173) (g 166 6) p)) safe n).2))), (5, .int (nI ((slL (mtS g (nxS (g 173) (g 166 6) p)) safe n).1))), (4, .int (nI (nxS (g 173) (g 166 6) p))), (0, .ref 166), (1, .int (nI p)), (2, .int (nI may)), (3, .int (nI safe))]) (st' := []) (h' := HN (U g r13 w13 v13) hl (RF rt)) rfl ?_
          refine Ev.ite (fun hc65 => ?_) (fun hc65 => ?_)
          · have hc65 : (mtS g (nxS (g 173) (g 166 6) p) n) < ((slL (mtS g (nxS (g 173) (g 166 6) p)) safe n).2) := (nI_ltI (by omega) (by omega)).mp hc65
            refine Ev.run 5 (pc' := 82) (lv' := [(7, .int (nI n + 1)), (6, .int (nI (mtS g (nxS (g 173) (g 166 6) p) n))), (5, .int (nI n)), (8, .int (nI (mtS g (nxS (g 173) (g 166 6) p) n))), (4, .int (nI (nxS (g 173) (g 166 6) p))), (0, .ref 166), (1, .int (nI p)), (2, .int (nI may)), (3, .int (nI safe))]) (st' := []) (h' := HN (U g r13 w13 v13) hl (RF rt)) rfl ?_
            refine Ev.lvE (congrArg (fun z => (7, Value.int z) :: [(6, .int (nI (mtS g (nxS (g 173) (g 166 6) p) n))), (5, .int (nI n)), (8, .int (nI (mtS g (nxS (g 173) (g 166 6) p) n))), (4, .int (nI (nxS (g 173) (g 166 6) p))), (0, .ref 166), (1, .int (nI p)), (2, .int (nI may)), (3, .int (nI safe))]) (nI_1 _)) ?_
            refine Ev.run 1 (pc' := 27) (lv' := [(7, .int (nI (n + 1))), (6, .int (nI (mtS g (nxS (g 173) (g 166 6) p) n))), (5, .int (nI n)), (8, .int (nI (mtS g (nxS (g 173) (g 166 6) p) n))), (4, .int (nI (nxS (g 173) (g 166 6) p))), (0, .ref 166), (1, .int (nI p)), (2, .int (nI may)), (3, .int (nI safe))]) (st' := []) (h' := HN (U g r13 w13 v13) hl (RF rt)) rfl ?_
            have hx := hnext (by omega) r13 w13 v13 hs13
            rw [slL_n hb40 (fun z => by omega)] at hx
            exact Ev.wk (Ext.cons rfl rfl (Ext.cons rfl rfl (Ext.cons rfl rfl (Ext.cons rfl rfl (Ext.cons rfl rfl (Ext.cons rfl rfl (Ext.cons rfl rfl (Ext.cons rfl rfl (Ext.nil rfl))))))))) hx
          · have hc65 : ¬ ((mtS g (nxS (g 173) (g 166 6) p) n) < ((slL (mtS g (nxS (g 173) (g 166 6) p)) safe n).2)) := fun z => hc65 ((nI_ltI (by omega) (by omega)).mpr z)
            refine Ev.run 2 (pc' := 82) (lv' := [(7, .int (nI n + 1)), (8, .int (nI (mtS g (nxS (g 173) (g 166 6) p) n))), (6, .int (nI ((slL (mtS g (nxS (g 173) (g 166 6) p)) safe n).2))), (5, .int (nI ((slL (mtS g (nxS (g 173) (g 166 6) p)) safe n).1))), (4, .int (nI (nxS (g 173) (g 166 6) p))), (0, .ref 166), (1, .int (nI p)), (2, .int (nI may)), (3, .int (nI safe))]) (st' := []) (h' := HN (U g r13 w13 v13) hl (RF rt)) rfl ?_
            refine Ev.lvE (congrArg (fun z => (7, Value.int z) :: [(8, .int (nI (mtS g (nxS (g 173) (g 166 6) p) n))), (6, .int (nI ((slL (mtS g (nxS (g 173) (g 166 6) p)) safe n).2))), (5, .int (nI ((slL (mtS g (nxS (g 173) (g 166 6) p)) safe n).1))), (4, .int (nI (nxS (g 173) (g 166 6) p))), (0, .ref 166), (1, .int (nI p)), (2, .int (nI may)), (3, .int (nI safe))]) (nI_1 _)) ?_
            refine Ev.run 1 (pc' := 27) (lv' := [(7, .int (nI (n + 1))), (8, .int (nI (mtS g (nxS (g 173) (g 166 6) p) n))), (6, .int (nI ((slL (mtS g (nxS (g 173) (g 166 6) p)) safe n).2))), (5, .int (nI ((slL (mtS g (nxS (g 173) (g 166 6) p)) safe n).1))), (4, .int (nI (nxS (g 173) (g 166 6) p))), (0, .ref 166), (1, .int (nI p)), (2, .int (nI may)), (3, .int (nI safe))]) (st' := []) (h' := HN (U g r13 w13 v13) hl (RF rt)) rfl ?_
            have hx := hnext (by omega) r13 w13 v13 hs13
            rw [slL_k hb40 ⟨by omega, by omega⟩] at hx
            exact Ev.wk (Ext.cons rfl rfl (Ext.cons rfl rfl (Ext.cons rfl rfl (Ext.cons rfl rfl (Ext.cons rfl rfl (Ext.cons rfl rfl (Ext.cons rfl rfl (Ext.cons rfl rfl (Ext.nil rfl))))))))) hx
      · skip
        refine Ev.run 3 (pc' := 82) (lv' := [(7, .int (nI n + 1)), (6, .int (nI ((slL (mtS g (nxS (g 173) (g 166 6) p)) safe n).2))), (5, .int (nI ((slL (mtS g (nxS (g 173) (g 166 6) p)) safe n).1))), (4, .int (nI (nxS (g 173) (g 166 6) p))), (0, .ref 166), (1, .int (nI p)), (2, .int (nI may)), (3, .int (nI safe))]) (st' := []) (h' := HN (U g r w v) hl (RF rt)) rfl ?_
        refine Ev.lvE (congrArg (fun z => (7, Value.int z) :: [(6, .int (nI ((slL (mtS g (nxS (g 173) (g 166 6) p)) safe n).2))), (5, .int (nI ((slL (mtS g (nxS (g 173) (g 166 6) p)) safe n).1))), (4, .int (nI (nxS (g 173) (g 166 6) p))), (0, .ref 166), (1, .int (nI p)), (2, .int (nI may)), (3, .int (nI safe))]) (nI_1 _)) ?_
        refine Ev.run 1 (pc' := 27) (lv' := [(7, .int (nI (n + 1))), (6, .int (nI ((slL (mtS g (nxS (g 173) (g 166 6) p)) safe n).2))), (5, .int (nI ((slL (mtS g (nxS (g 173) (g 166 6) p)) safe n).1))), (4, .int (nI (nxS (g 173) (g 166 6) p))), (0, .ref 166), (1, .int (nI p)), (2, .int (nI may)), (3, .int (nI safe))]) (st' := []) (h' := HN (U g r w v) hl (RF rt)) rfl ?_
        have hx := hnext (by omega) r w v hs
        rw [slL_0 hb40] at hx
        exact Ev.wk (Ext.cons rfl rfl (Ext.cons rfl rfl (Ext.cons rfl rfl (Ext.cons rfl rfl (Ext.cons rfl rfl (Ext.cons rfl rfl (Ext.cons rfl rfl (Ext.cons rfl rfl (Ext.nil rfl))))))))) hx
theorem C_led {L : Nat} {xs : Nat → Int32} (d : Nat) (g : Nat → Nat → Nat) (hl : Nat → Nat → Int64) (rt : Nat × Nat × Nat × Nat) (hI : MI g) (hK : KW g) (p may safe : Nat) (hp : p < 5) (hmay : may < 16) (hsafe : safe < 16) (h12 : safe ≠ 0 → g 166 9 < 12) (r w v : Nat → Nat) (hs : SmH g r v)  {Q : Po} (hq : ∀ r' w' v' : Nat → Nat, SmH g r' v' → Q (some (.int (nI (leS g p may safe)))) (HN (U g r' w' v') hl (RF rt))) : Ev L xs (d + 7) 184 0 [(0, .ref 166), (1, .int (nI p)), (2, .int (nI may)), (3, .int (nI safe))] [] (HN (U g r w v) hl (RF rt)) Q := by
  have hW := hI.hW
  have hS := hI.hS
  have hPl := hI.hPl
  have hNx := hI.hNx
  have hLa := hI.hLa
  have hLo := hI.hLo
  have hTb := hI.hTb
  have hTh := hI.hTh
  have hFd := hI.hFd
  have hSn := hI.hSn
  have hSh := hI.hSh
  have hRan := hI.hRan
  have hLr := hI.hLr
  have hLt := hI.hLt
  have hgl := hI.hgl
  have hsz := hI.hsz
  have hcm := hI.hcm
  have hsl := hI.hsl
  have hkd := hI.hkd
  have hvv := hI.hvv
  have hli := hI.hli
  have hro := hI.hro
  have hrw := hI.hrw
  have htx := hI.htx
  have hsw := hI.hsw
  have hsx := hI.hsx
  have hsy := hI.hsy
  have hsh := hI.hsh
  have hle := hI.hle
  have hcl := hI.hcl
  have hwd := hI.hwd
  have hnu := hI.hnu
  have hwn := hI.hwn
  have hs1 := hI.hs1
  have hso := hI.hso
  refine Ev.run 2 (pc' := 3) (lv' := [(4, .int (nI 0)), (0, .ref 166), (1, .int (nI p)), (2, .int (nI may)), (3, .int (nI safe))]) (st' := []) (h' := HN (U g r w v) hl (RF rt)) rfl ?_
  refine for_ind 4 (fun n => ∀ (r w v : Nat → Nat), SmH g r v → fstF (fun l => safe.testBit l && ldB g l) (slS g p may safe) (4 - n) n = leS g p may safe → Ev L xs (d + 7) 184 3 [(4, .int (nI n)), (0, .ref 166), (1, .int (nI p)), (2, .int (nI may)), (3, .int (nI safe))] [] (HN (U g r w v) hl (RF rt)) Q) (fun n hn hnext => ?_) 0 (Nat.zero_le _) r w v hs rfl
  intro r w v hs ha
  refine Ev.run 3 (pc' := (if nI 4 ≤ nI n then 37 else 9)) (lv' := [(4, .int (nI n)), (0, .ref 166), (1, .int (nI p)), (2, .int (nI may)), (3, .int (nI safe))]) (st' := []) (h' := HN (U g r w v) hl (RF rt)) rfl ?_
  refine Ev.ite (fun hc6 => ?_) (fun hc6 => ?_)
  · have hc6 : 4 ≤ n := (nI_leI (by omega) (by omega)).mp hc6
    refine Ev.run 4 (pc' := 41) (lv' := [(4, .int (nI n)), (0, .ref 166), (1, .int (nI p)), (2, .int (nI may)), (3, .int (nI safe))]) (st' := [.int (nI safe), .int (nI may), .int (nI p), .ref 166]) (h' := HN (U g r w v) hl (RF rt)) rfl ?_
    refine Ev.call (a := 183) (as := [.ref 166, .int (nI p), .int (nI may), .int (nI safe)]) (rest := []) (lv0 := [(0, .ref 166), (1, .int (nI p)), (2, .int (nI may)), (3, .int (nI safe))]) (Q1 := (fun r h' => ∃ r1 w1 v1, SmH g r1 v1 ∧ r = some (.int (nI (slS g p may safe))) ∧ h' = HN (U g r1 w1 v1) hl (RF rt))) rfl rfl (C_slyly _ _ _ _ hI hK p may safe (by omega) (by omega) (by omega) h12 r w v hs (fun r w v h => ⟨r, w, v, h, rfl, rfl⟩)) (fun r h' hr => ?_)
    obtain ⟨r14, w14, v14, hs14, rfl, rfl⟩ := hr
    refine Ev.ret (v := some (.int (nI (slS g p may safe)))) rfl ?_
    obtain rfl : n = 4 := by omega
    rw [show leS g p may safe = slS g p may safe from ha.symm] at hq
    exact hq r14 w14 v14 hs14
  · have hc6 : ¬ (4 ≤ n) := fun z => hc6 ((nI_leI (by omega) (by omega)).mpr z)
    refine Ev.run 3 (pc' := 13) (lv' := [(4, .int (nI n)), (0, .ref 166), (1, .int (nI p)), (2, .int (nI may)), (3, .int (nI safe))]) (st' := [.int (nI n), .int (nI safe), .ref 166]) (h' := HN (U g r w v) hl (RF rt)) rfl ?_
    refine Ev.call (a := 127) (as := [.ref 166, .int (nI safe), .int (nI n)]) (rest := []) (lv0 := [(0, .ref 166), (1, .int (nI safe)), (2, .int (nI n))]) (Q1 := (fun z0 h' => z0 = some (.int (nI (bn (Nat.testBit safe n)))) ∧ h' = HN (U g r w v) hl (RF rt))) rfl rfl (C_isIn _ _ _ _ safe n (by omega) (by omega) ⟨rfl, rfl⟩) (fun r h' hr => ?_)
    obtain ⟨rfl, rfl⟩ := hr
    refine Ev_bn (fun hb16 => ?_) (fun hb16 => ?_)
    · skip
      refine Ev.run 1 (pc' := 19) (lv' := [(4, .int (nI n)), (0, .ref 166), (1, .int (nI p)), (2, .int (nI may)), (3, .int (nI safe))]) (st' := []) (h' := HN (U g r w v) hl (RF rt)) rfl ?_
      have hn12 : g 166 9 < 12 := h12 (nz_tb hb16)
      refine Ev.run 2 (pc' := 22) (lv' := [(4, .int (nI n)), (0, .ref 166), (1, .int (nI p)), (2, .int (nI may)), (3, .int (nI safe))]) (st' := [.int (nI n), .ref 166]) (h' := HN (U g r w v) hl (RF rt)) rfl ?_
      refine Ev.call (a := 175) (as := [.ref 166, .int (nI n)]) (rest := []) (lv0 := [(0, .ref 166), (1, .int (nI n))]) (Q1 := (fun r h' => ∃ r1 w1 v1, SmH g r1 v1 ∧ r = some (.int (nI (bn (ldB g n)))) ∧ h' = HN (U g r1 w1 v1) hl (RF rt))) rfl rfl (C_isLostBy _ _ _ _ (hI.mU hs) n (by omega) hn12 (fun w2 hw2 => ⟨up r (g 166 9) n, w, w2, (hs.sup (by omega)).sv hw2, congrArg (fun z => some (Value.int (nI (bn (decide (z = 0)))))) (UwrS1 hs n), congrArg (fun z => HN z hl (RF rt)) (by rw [U_175, U_ur] <;> rfl)⟩)) (fun r h' hr => ?_)
      obtain ⟨r15, w15, v15, hs15, rfl, rfl⟩ := hr
      refine Ev_bn (fun hb25 => ?_) (fun hb25 => ?_)
      · skip
        refine Ev.run 2 (pc' := 30) (lv' := [(4, .int (nI n)), (0, .ref 166), (1, .int (nI p)), (2, .int (nI may)), (3, .int (nI safe))]) (st' := [.int (nI n)]) (h' := HN (U g r15 w15 v15) hl (RF rt)) rfl ?_
        refine Ev.ret (v := some (.int (nI n))) rfl ?_
        rw [fstF_e (by omega) (by simp only [hc6, hb16, hb25, Bool.and_true, Bool.and_false, Bool.true_and, Bool.false_and, decide_true, decide_false, Bool.not_true, Bool.not_false])] at ha
        rw [← ha] at hq
        exact hq r15 w15 v15 hs15
      · skip
        refine Ev.run 2 (pc' := 34) (lv' := [(4, .int (nI n + 1)), (0, .ref 166), (1, .int (nI p)), (2, .int (nI may)), (3, .int (nI safe))]) (st' := []) (h' := HN (U g r15 w15 v15) hl (RF rt)) rfl ?_
        refine Ev.lvE (congrArg (fun z => (4, Value.int z) :: [(0, .ref 166), (1, .int (nI p)), (2, .int (nI may)), (3, .int (nI safe))]) (nI_1 _)) ?_
        refine Ev.run 1 (pc' := 3) (lv' := [(4, .int (nI (n + 1))), (0, .ref 166), (1, .int (nI p)), (2, .int (nI may)), (3, .int (nI safe))]) (st' := []) (h' := HN (U g r15 w15 v15) hl (RF rt)) rfl ?_
        have hx := hnext (by omega) r15 w15 v15 hs15 (by rw [fstF_s (by omega) (by simp only [hc6, hb16, hb25, Bool.and_true, Bool.and_false, Bool.true_and, Bool.false_and, decide_true, decide_false, Bool.not_true, Bool.not_false])]; exact ha)
        exact hx
    · skip
      refine Ev.run 2 (pc' := 34) (lv' := [(4, .int (nI n + 1)), (0, .ref 166), (1, .int (nI p)), (2, .int (nI may)), (3, .int (nI safe))]) (st' := []) (h' := HN (U g r w v) hl (RF rt)) rfl ?_
      refine Ev.lvE (congrArg (fun z => (4, Value.int z) :: [(0, .ref 166), (1, .int (nI p)), (2, .int (nI may)), (3, .int (nI safe))]) (nI_1 _)) ?_
      refine Ev.run 1 (pc' := 3) (lv' := [(4, .int (nI (n + 1))), (0, .ref 166), (1, .int (nI p)), (2, .int (nI may)), (3, .int (nI safe))]) (st' := []) (h' := HN (U g r w v) hl (RF rt)) rfl ?_
      have hx := hnext (by omega) r w v hs (by rw [fstF_s (by omega) (by simp only [hc6, hb16, Bool.and_true, Bool.and_false, Bool.true_and, Bool.false_and, decide_true, decide_false, Bool.not_true, Bool.not_false])]; exact ha)
      exact hx
theorem C_does {L : Nat} {xs : Nat → Int32} (d : Nat) (g : Nat → Nat → Nat) (hl : Nat → Nat → Int64) (rt : Nat × Nat × Nat × Nat) (hI : MI g) (hK : KW g) (p : Nat) (hp : p < 5) (r w v : Nat → Nat) (hs : SmH g r v)  {Q : Po} (hq : ∀ r' w' v' : Nat → Nat, SmH g r' v' → Q (some (.int (nI (doS g p)))) (HN (U g r' w' v') hl (RF rt))) : Ev L xs (d + 8) 187 0 [(0, .ref 166), (1, .int (nI p))] [] (HN (U g r w v) hl (RF rt)) Q := by
  have hW := hI.hW
  have hS := hI.hS
  have hPl := hI.hPl
  have hNx := hI.hNx
  have hLa := hI.hLa
  have hLo := hI.hLo
  have hTb := hI.hTb
  have hTh := hI.hTh
  have hFd := hI.hFd
  have hSn := hI.hSn
  have hSh := hI.hSh
  have hRan := hI.hRan
  have hLr := hI.hLr
  have hLt := hI.hLt
  have hgl := hI.hgl
  have hsz := hI.hsz
  have hcm := hI.hcm
  have hsl := hI.hsl
  have hkd := hI.hkd
  have hvv := hI.hvv
  have hli := hI.hli
  have hro := hI.hro
  have hrw := hI.hrw
  have htx := hI.htx
  have hsw := hI.hsw
  have hsx := hI.hsx
  have hsy := hI.hsy
  have hsh := hI.hsh
  have hle := hI.hle
  have hcl := hI.hcl
  have hwd := hI.hwd
  have hnu := hI.hnu
  have hwn := hI.hwn
  have hs1 := hI.hs1
  have hso := hI.hso
  refine Ev.run 2 (pc' := 2) (lv' := [(0, .ref 166), (1, .int (nI p))]) (st' := [.int (nI p), .ref 166]) (h' := HN (U g r w v) hl (RF rt)) rfl ?_
  refine Ev.call (a := 180) (as := [.ref 166, .int (nI p)]) (rest := []) (lv0 := [(0, .ref 166), (1, .int (nI p))]) (Q1 := (fun r h' => ∃ r1 w1 v1, SmH g r1 v1 ∧ r = some (.int (nI (maS g p))) ∧ h' = HN (U g r1 w1 v1) hl (RF rt))) rfl rfl (C_mayOf _ _ _ _ hI hK p (by omega) r w v hs (fun r w v h => ⟨r, w, v, h, rfl, rfl⟩)) (fun r h' hr => ?_)
  obtain ⟨r16, w16, v16, hs16, rfl, rfl⟩ := hr
  have hma := maS_lt hI p
  refine Ev.run 1 (pc' := 6) (lv' := [(2, .int (nI (maS g p))), (0, .ref 166), (1, .int (nI p))]) (st' := []) (h' := HN (U g r16 w16 v16) hl (RF rt)) rfl ?_
  have h12 : maS g p ≠ 0 → g 166 9 < 12 := fun z => by have := maS_0 hI z; omega
  refine Ev.run 2 (pc' := 8) (lv' := [(2, .int (nI (maS g p))), (0, .ref 166), (1, .int (nI p))]) (st' := [.int (nI (maS g p)), .ref 166]) (h' := HN (U g r16 w16 v16) hl (RF rt)) rfl ?_
  refine Ev.call (a := 169) (as := [.ref 166, .int (nI (maS g p))]) (rest := []) (lv0 := [(0, .ref 166), (1, .int (nI (maS g p)))]) (Q1 := (fun r h' => ∃ r1 w1 v1, SmH g r1 v1 ∧ r = some (.int (nI (saS g (maS g p)))) ∧ h' = HN (U g r1 w1 v1) hl (RF rt))) rfl rfl (C_safeOf _ _ _ _ hI (maS g p) (by omega) h12 r16 w16 v16 hs16 (fun r w v h => ⟨r, w, v, h, rfl, rfl⟩)) (fun r h' hr => ?_)
  obtain ⟨r17, w17, v17, hs17, rfl, rfl⟩ := hr
  have hsa := saS_lt g (maS g p)
  refine Ev.run 1 (pc' := 12) (lv' := [(3, .int (nI (saS g (maS g p)))), (2, .int (nI (maS g p))), (0, .ref 166), (1, .int (nI p))]) (st' := []) (h' := HN (U g r17 w17 v17) hl (RF rt)) rfl ?_
  have h12 : saS g (maS g p) ≠ 0 → g 166 9 < 12 := fun z => h12 (saS_0 z)
  have hsl := slS_ok (g := g) (p := p) hma hsa (fun z => by have := maS_0 hI z; omega) h12
  refine Ev.run 3 (pc' := 17) (lv' := [(3, .int (nI (saS g (maS g p)))), (2, .int (nI (maS g p))), (0, .ref 166), (1, .int (nI p))]) (st' := [.int (nI p), .ref 171]) (h' := HN (U g r17 w17 v17) hl (RF rt)) rfl ?_
  refine Ev_iald rfl rfl (show p < 5 by omega) (Nat.le_of_ble_eq_true rfl) ?_
  have hr0 := hkd p (by omega)
  by_cases hs18_1 : g 171 p = 1
  · refine Ev.topI (congrArg nI hs18_1) ?_
    refine Ev.run 5 (pc' := 60) (lv' := [(3, .int (nI (saS g (maS g p)))), (2, .int (nI (maS g p))), (0, .ref 166), (1, .int (nI p))]) (st' := [.int (nI (saS g (maS g p))), .int (nI (maS g p)), .int (nI p), .ref 166]) (h' := HN (U g r17 w17 v17) hl (RF rt)) rfl ?_
    refine Ev.call (a := 183) (as := [.ref 166, .int (nI p), .int (nI (maS g p)), .int (nI (saS g (maS g p)))]) (rest := []) (lv0 := [(0, .ref 166), (1, .int (nI p)), (2, .int (nI (maS g p))), (3, .int (nI (saS g (maS g p))))]) (Q1 := (fun r h' => ∃ r1 w1 v1, SmH g r1 v1 ∧ r = some (.int (nI (slS g p (maS g p) (saS g (maS g p))))) ∧ h' = HN (U g r1 w1 v1) hl (RF rt))) rfl rfl (C_slyly _ _ _ _ hI hK p (maS g p) (saS g (maS g p)) (by omega) (by omega) (by omega) h12 r17 w17 v17 hs17 (fun r w v h => ⟨r, w, v, h, rfl, rfl⟩)) (fun r h' hr => ?_)
    obtain ⟨r18, w18, v18, hs18, rfl, rfl⟩ := hr
    refine Ev.ret (v := some (.int (nI (slS g p (maS g p) (saS g (maS g p)))))) rfl ?_
    have hx := hq r18 w18 v18 hs18
    simp only [doS, if_pos hs18_1, cond_true, cond_false] at hx
    exact hx
  by_cases hs18_2 : g 171 p = 2
  · refine Ev.topI (congrArg nI hs18_2) ?_
    refine Ev.run 4 (pc' := 67) (lv' := [(3, .int (nI (saS g (maS g p)))), (2, .int (nI (maS g p))), (0, .ref 166), (1, .int (nI p))]) (st' := [.int (nI (saS g (maS g p))), .int (nI (maS g p)), .ref 166]) (h' := HN (U g r17 w17 v17) hl (RF rt)) rfl ?_
    refine Ev.call (a := 185) (as := [.ref 166, .int (nI (maS g p)), .int (nI (saS g (maS g p)))]) (rest := []) (lv0 := [(0, .ref 166), (1, .int (nI (maS g p))), (2, .int (nI (saS g (maS g p))))]) (Q1 := (fun z0 h' => z0 = some (.int (nI (waS (g 166 8) (maS g p) (saS g (maS g p))))) ∧ h' = HN (U g r17 w17 v17) hl (RF rt))) rfl rfl (C_warily _ _ _ _ (hI.mU hs17) (maS g p) (saS g (maS g p)) (by omega) (by omega) ⟨rfl, rfl⟩) (fun r h' hr => ?_)
    obtain ⟨rfl, rfl⟩ := hr
    refine Ev.ret (v := some (.int (nI (waS (g 166 8) (maS g p) (saS g (maS g p)))))) rfl ?_
    have hx := hq r17 w17 v17 hs17
    simp only [doS, if_neg hs18_1, if_pos hs18_2, cond_true, cond_false] at hx
    exact hx
  by_cases hs18_3 : g 171 p = 3
  · refine Ev.topI (congrArg nI hs18_3) ?_
    refine Ev.run 5 (pc' := 75) (lv' := [(3, .int (nI (saS g (maS g p)))), (2, .int (nI (maS g p))), (0, .ref 166), (1, .int (nI p))]) (st' := [.int (nI (saS g (maS g p))), .int (nI (maS g p)), .int (nI p), .ref 166]) (h' := HN (U g r17 w17 v17) hl (RF rt)) rfl ?_
    refine Ev.call (a := 186) (as := [.ref 166, .int (nI p), .int (nI (maS g p)), .int (nI (saS g (maS g p)))]) (rest := []) (lv0 := [(0, .ref 166), (1, .int (nI p)), (2, .int (nI (maS g p))), (3, .int (nI (saS g (maS g p))))]) (Q1 := (fun z0 h' => z0 = some (.int (nI (boS (g 166 9) (g 172 p) (maS g p) (saS g (maS g p))))) ∧ h' = HN (U g r17 w17 v17) hl (RF rt))) rfl rfl (C_boldly _ _ _ _ (hI.mU hs17) p (by omega) (maS g p) (saS g (maS g p)) (by omega) (by omega) ⟨rfl, rfl⟩) (fun r h' hr => ?_)
    obtain ⟨rfl, rfl⟩ := hr
    refine Ev.ret (v := some (.int (nI (boS (g 166 9) (g 172 p) (maS g p) (saS g (maS g p)))))) rfl ?_
    have hx := hq r17 w17 v17 hs17
    simp only [doS, if_neg hs18_1, if_neg hs18_2, if_pos hs18_3, cond_true, cond_false] at hx
    exact hx
  by_cases hs18_4 : g 171 p = 4
  · refine Ev.topI (congrArg nI hs18_4) ?_
    refine Ev.run 5 (pc' := 83) (lv' := [(3, .int (nI (saS g (maS g p)))), (2, .int (nI (maS g p))), (0, .ref 166), (1, .int (nI p))]) (st' := [.int (nI (saS g (maS g p))), .int (nI (maS g p)), .int (nI p), .ref 166]) (h' := HN (U g r17 w17 v17) hl (RF rt)) rfl ?_
    refine Ev.call (a := 184) (as := [.ref 166, .int (nI p), .int (nI (maS g p)), .int (nI (saS g (maS g p)))]) (rest := []) (lv0 := [(0, .ref 166), (1, .int (nI p)), (2, .int (nI (maS g p))), (3, .int (nI (saS g (maS g p))))]) (Q1 := (fun r h' => ∃ r1 w1 v1, SmH g r1 v1 ∧ r = some (.int (nI (leS g p (maS g p) (saS g (maS g p))))) ∧ h' = HN (U g r1 w1 v1) hl (RF rt))) rfl rfl (C_led _ _ _ _ hI hK p (maS g p) (saS g (maS g p)) (by omega) (by omega) (by omega) h12 r17 w17 v17 hs17 (fun r w v h => ⟨r, w, v, h, rfl, rfl⟩)) (fun r h' hr => ?_)
    obtain ⟨r19, w19, v19, hs19, rfl, rfl⟩ := hr
    refine Ev.ret (v := some (.int (nI (leS g p (maS g p) (saS g (maS g p)))))) rfl ?_
    have hx := hq r19 w19 v19 hs19
    simp only [doS, if_neg hs18_1, if_neg hs18_2, if_neg hs18_3, if_pos hs18_4, cond_true, cond_false] at hx
    exact hx
  by_cases hs18_5 : g 171 p = 5
  · refine Ev.topI (congrArg nI hs18_5) ?_
    refine Ev.run 4 (pc' := 67) (lv' := [(3, .int (nI (saS g (maS g p)))), (2, .int (nI (maS g p))), (0, .ref 166), (1, .int (nI p))]) (st' := [.int (nI (saS g (maS g p))), .int (nI (maS g p)), .ref 166]) (h' := HN (U g r17 w17 v17) hl (RF rt)) rfl ?_
    refine Ev.call (a := 185) (as := [.ref 166, .int (nI (maS g p)), .int (nI (saS g (maS g p)))]) (rest := []) (lv0 := [(0, .ref 166), (1, .int (nI (maS g p))), (2, .int (nI (saS g (maS g p))))]) (Q1 := (fun z0 h' => z0 = some (.int (nI (waS (g 166 8) (maS g p) (saS g (maS g p))))) ∧ h' = HN (U g r17 w17 v17) hl (RF rt))) rfl rfl (C_warily _ _ _ _ (hI.mU hs17) (maS g p) (saS g (maS g p)) (by omega) (by omega) ⟨rfl, rfl⟩) (fun r h' hr => ?_)
    obtain ⟨rfl, rfl⟩ := hr
    refine Ev.ret (v := some (.int (nI (waS (g 166 8) (maS g p) (saS g (maS g p)))))) rfl ?_
    have hx := hq r17 w17 v17 hs17
    simp only [doS, if_neg hs18_1, if_neg hs18_2, if_neg hs18_3, if_neg hs18_4, if_pos hs18_5, cond_true, cond_false] at hx
    exact hx
  by_cases hs18_6 : g 171 p = 6
  · refine Ev.topI (congrArg nI hs18_6) ?_
    refine Ev.run 6 (pc' := 94) (lv' := [(3, .int (nI (saS g (maS g p)))), (2, .int (nI (maS g p))), (0, .ref 166), (1, .int (nI p))]) (st' := [.int (nI 4 * nI p), .ref 174]) (h' := HN (U g r17 w17 v17) hl (RF rt)) rfl ?_
    refine Ev.topI (pk_mul _ _) ?_
    refine Ev.run 3 (pc' := 99) (lv' := [(3, .int (nI (saS g (maS g p)))), (2, .int (nI (maS g p))), (0, .ref 166), (1, .int (nI p))]) (st' := [.int (nI 4), .int (nI (g 166 9)), .int (nI (4 * p)), .ref 174]) (h' := HN (U g r17 w17 v17) hl (RF rt)) rfl ?_
    refine Ev_irem rfl (by omega) (by omega) (by omega) ?_
    refine Ev.run 1 (pc' := 101) (lv' := [(3, .int (nI (saS g (maS g p)))), (2, .int (nI (maS g p))), (0, .ref 166), (1, .int (nI p))]) (st' := [.int (nI (4 * p) + nI ((g 166 9) % 4)), .ref 174]) (h' := HN (U g r17 w17 v17) hl (RF rt)) rfl ?_
    refine Ev.topI (nI_add _ _) ?_
    refine Ev_iald rfl rfl (show (4 * p) + ((g 166 9) % 4) < 20 by omega) (Nat.le_of_ble_eq_true rfl) ?_
    have hr1 := hro ((4 * p) + ((g 166 9) % 4)) (by omega)
    refine Ev.run 4 (pc' := 108) (lv' := [(4, .int (nI (g 174 ((4 * p) + ((g 166 9) % 4))))), (3, .int (nI (saS g (maS g p)))), (2, .int (nI (maS g p))), (0, .ref 166), (1, .int (nI p))]) (st' := [.int (nI (g 174 ((4 * p) + ((g 166 9) % 4)))), .int (nI (maS g p)), .ref 166]) (h' := HN (U g r17 w17 v17) hl (RF rt)) rfl ?_
    refine Ev.call (a := 127) (as := [.ref 166, .int (nI (maS g p)), .int (nI (g 174 ((4 * p) + ((g 166 9) % 4))))]) (rest := []) (lv0 := [(0, .ref 166), (1, .int (nI (maS g p))), (2, .int (nI (g 174 ((4 * p) + ((g 166 9) % 4)))))]) (Q1 := (fun z0 h' => z0 = some (.int (nI (bn (Nat.testBit (maS g p) (g 174 ((4 * p) + ((g 166 9) % 4))))))) ∧ h' = HN (U g r17 w17 v17) hl (RF rt))) rfl rfl (C_isIn _ _ _ _ (maS g p) (g 174 ((4 * p) + ((g 166 9) % 4))) (by omega) (by omega) ⟨rfl, rfl⟩) (fun r h' hr => ?_)
    obtain ⟨rfl, rfl⟩ := hr
    refine Ev_bn (fun hb111 => ?_) (fun hb111 => ?_)
    · skip
      refine Ev.run 3 (pc' := 126) (lv' := [(4, .int (nI (g 174 ((4 * p) + ((g 166 9) % 4))))), (3, .int (nI (saS g (maS g p)))), (2, .int (nI (maS g p))), (0, .ref 166), (1, .int (nI p))]) (st' := [.int (nI (g 174 ((4 * p) + ((g 166 9) % 4))))]) (h' := HN (U g r17 w17 v17) hl (RF rt)) rfl ?_
      refine Ev.ret (v := some (.int (nI (g 174 ((4 * p) + ((g 166 9) % 4)))))) rfl ?_
      have hx := hq r17 w17 v17 hs17
      simp only [doS, if_neg hs18_1, if_neg hs18_2, if_neg hs18_3, if_neg hs18_4, if_neg hs18_5, if_pos hs18_6, hb111, cond_true, cond_false] at hx
      exact hx
    · skip
      refine Ev.run 5 (pc' := 123) (lv' := [(4, .int (nI (g 174 ((4 * p) + ((g 166 9) % 4))))), (3, .int (nI (saS g (maS g p)))), (2, .int (nI (maS g p))), (0, .ref 166), (1, .int (nI p))]) (st' := [.int (nI (saS g (maS g p))), .int (nI (maS g p)), .int (nI p), .ref 166]) (h' := HN (U g r17 w17 v17) hl (RF rt)) rfl ?_
      refine Ev.call (a := 186) (as := [.ref 166, .int (nI p), .int (nI (maS g p)), .int (nI (saS g (maS g p)))]) (rest := []) (lv0 := [(0, .ref 166), (1, .int (nI p)), (2, .int (nI (maS g p))), (3, .int (nI (saS g (maS g p))))]) (Q1 := (fun z0 h' => z0 = some (.int (nI (boS (g 166 9) (g 172 p) (maS g p) (saS g (maS g p))))) ∧ h' = HN (U g r17 w17 v17) hl (RF rt))) rfl rfl (C_boldly _ _ _ _ (hI.mU hs17) p (by omega) (maS g p) (saS g (maS g p)) (by omega) (by omega) ⟨rfl, rfl⟩) (fun r h' hr => ?_)
      obtain ⟨rfl, rfl⟩ := hr
      refine Ev.ret (v := some (.int (nI (boS (g 166 9) (g 172 p) (maS g p) (saS g (maS g p)))))) rfl ?_
      have hx := hq r17 w17 v17 hs17
      simp only [doS, if_neg hs18_1, if_neg hs18_2, if_neg hs18_3, if_neg hs18_4, if_neg hs18_5, if_pos hs18_6, hb111, cond_true, cond_false] at hx
      exact hx
  refine Ev_tsOut (tgt := 127) rfl (sw_outL (x := (g 171 p)) (lo := 1) (hi := 6) (by omega) (by omega)) rfl ?_
  refine Ev.run 3 (pc' := 130) (lv' := [(3, .int (nI (saS g (maS g p)))), (2, .int (nI (maS g p))), (0, .ref 166), (1, .int (nI p))]) (st' := [.int (nI (saS g (maS g p))), .int (nI (maS g p)), .ref 166]) (h' := HN (U g r17 w17 v17) hl (RF rt)) rfl ?_
  refine Ev.call (a := 182) (as := [.ref 166, .int (nI (maS g p)), .int (nI (saS g (maS g p)))]) (rest := []) (lv0 := [(0, .ref 166), (1, .int (nI (maS g p))), (2, .int (nI (saS g (maS g p))))]) (Q1 := (fun z0 h' => z0 = some (.int (nI (plS (maS g p) (saS g (maS g p))))) ∧ h' = HN (U g r17 w17 v17) hl (RF rt))) rfl rfl (C_plainly _ _ _ _ (maS g p) (saS g (maS g p)) (by omega) (by omega) ⟨rfl, rfl⟩) (fun r h' hr => ?_)
  obtain ⟨rfl, rfl⟩ := hr
  refine Ev.ret (v := some (.int (nI (plS (maS g p) (saS g (maS g p)))))) rfl ?_
  have hx := hq r17 w17 v17 hs17
  simp only [doS, if_neg hs18_1, if_neg hs18_2, if_neg hs18_3, if_neg hs18_4, if_neg hs18_5, if_neg hs18_6, cond_true, cond_false] at hx
  exact hx
