/-! the class: the book -/
theorem sh_line : ∀ i, i < 12 → SH (19 + 2 * i) = (3, 2) ∧ SH (19 + 2 * i + 1) = (11, 6) := by
  intro i hi
  rcases (show i = 0 ∨ i = 1 ∨ i = 2 ∨ i = 3 ∨ i = 4 ∨ i = 5 ∨ i = 6 ∨ i = 7 ∨ i = 8 ∨ i = 9 ∨ i = 10 ∨ i = 11 by omega) with rfl | rfl | rfl | rfl | rfl | rfl | rfl | rfl | rfl | rfl | rfl | rfl <;> exact ⟨rfl, rfl⟩
theorem rf_line (rt : Nat × Nat × Nat × Nat) : ∀ i, i < 12 → RF rt (19 + 2 * i) 0 = some (19 + 2 * i + 1) ∧ RF rt 14 i = some (19 + 2 * i) := by
  intro i hi
  rcases (show i = 0 ∨ i = 1 ∨ i = 2 ∨ i = 3 ∨ i = 4 ∨ i = 5 ∨ i = 6 ∨ i = 7 ∨ i = 8 ∨ i = 9 ∨ i = 10 ∨ i = 11 by omega) with rfl | rfl | rfl | rfl | rfl | rfl | rfl | rfl | rfl | rfl | rfl | rfl <;> exact ⟨rfl, rfl⟩
theorem LnW (rt : Nat × Nat × Nat × Nat) {i : Nat} (hi : i < 12) : LnC rt (19 + 2 * i) 6 := ⟨⟨by omega, (sh_line i hi).1⟩, ⟨by omega, (sh_line i hi).2⟩, (rf_line rt i hi).1, by decide⟩
def plB (g : Nat → Nat → Nat) (p l : Nat) (i : Nat) : Bool := decide (p < g 168 i) && decide (g 167 (6 * i + p) = l)
def lnB (g : Nat → Nat → Nat) (n : Nat) (i : Nat) : Bool := decide (g 168 i = n)
/-- the book that holds is the reference's -/
def CB (g : Nat → Nat → Nat) : Prop := g 13 5 = g 166 0 ∧ (∀ i, i < 12 → g (19 + 2 * i) 1 = g 168 i) ∧ (∀ i k, i < 12 → k < g 168 i → g (19 + 2 * i + 1) k = g 167 (6 * i + k)) ∧ (∀ i, i < 12 → g 15 i = g 169 i) ∧ (∀ p l, p < 6 → l < 4 → g 16 (4 * p + l) = bset (plB g p l) (g 166 0)) ∧ ∀ n, n < 7 → g 17 n = bset (lnB g n) (g 166 0)
theorem bset_and (p q : Nat → Bool) (n : Nat) : bset p n &&& bset q n = bset (fun i => p i && q i) n := by
  refine nat_tb_ext fun k => ?_
  rw [Nat.testBit_and, bset_tb, bset_tb, bset_tb]
  cases decide (k < n) <;> cases p k <;> cases q k <;> rfl
theorem bset_cg {p q : Nat → Bool} {n : Nat} (h : ∀ i, i < n → p i = q i) : bset p n = bset q n := by
  refine nat_tb_ext fun k => ?_
  rw [bset_tb, bset_tb]
  by_cases e : k < n
  · rw [h k e]
  · rw [decide_eq_false e]; rfl
theorem bset_0 {p : Nat → Bool} {n : Nat} (h : ∀ i, i < n → p i = false) : bset p n = 0 := by
  refine nat_tb_ext fun k => ?_
  rw [bset_tb, Nat.zero_testBit]
  by_cases e : k < n
  · rw [h k e, Bool.and_false]
  · rw [decide_eq_false e]; rfl
theorem plB_0 {g : Nat → Nat → Nat} (h : MI g) {p l i : Nat} (hi : i < 12) (h2 : ¬ (p ≤ 5 ∧ l ≤ 3)) : plB g p l i = false := by
  unfold plB
  rw [Bool.and_eq_false_iff]
  have h3 := h.hsz i hi
  by_cases e : p < g 168 i
  · right
    have h4 := h.hgl (6 * i + p) (by omega)
    exact decide_eq_false (by omega)
  · left; exact decide_eq_false e
theorem ft_s (g : Nat → Nat → Nat) (r : Nat → Nat) (n i : Nat) : ft g r (n + 1) i = (ft g r n i && plB g n (r n) i) := by
  unfold ft plB
  by_cases h1 : n + 1 ≤ g 168 i
  · rw [decide_eq_true (show n < g 168 i by omega), Bool.true_and]
    by_cases h2 : g 167 (6 * i + n) = r n
    · rw [decide_eq_true h2, Bool.and_true]
      exact dc_c ⟨fun z => ⟨by omega, fun k hk => z.2 k (by omega)⟩, fun z => ⟨h1, all_s (p := fun k => g 167 (6 * i + k) = r k) z.2 h2⟩⟩
    · rw [decide_eq_false h2, Bool.and_false]
      exact dc_f (fun z => h2 (z.2 n (Nat.lt_succ_self _)))
  · rw [decide_eq_false (show ¬ n < g 168 i by omega), Bool.false_and, Bool.and_false]
    exact dc_f (fun z => h1 z.1)
theorem ft_z (g : Nat → Nat → Nat) (r : Nat → Nat) (i : Nat) : ft g r 0 i = true := dc_t ⟨Nat.zero_le _, fun k hk => absurd hk (Nat.not_lt_zero _)⟩
theorem allS_b (g : Nat → Nat → Nat) (r : Nat → Nat) : allS g = bset (ft g r 0) (g 166 0) := by
  refine nat_tb_ext fun k => ?_
  rw [allS_tb, bset_tb, ft_z, Bool.and_true]
theorem K_all {L : Nat} {xs : Nat → Int32} (d : Nat) (g : Nat → Nat → Nat) (hl : Nat → Nat → Int64) (rt : Nat × Nat × Nat × Nat) (hI : MI g) (hB : CB g)  {Q : Po} (hq : Q (some (.int (nI (allS g)))) (HN g hl (RF rt))) : Ev L xs d 10 0 [(0, .ref 13)] [] (HN g hl (RF rt)) Q := by
  have hW := hI.hW
  have hS := hI.hS
  have hPl := hI.hPl
  have hNx := hI.hNx
  have hLa := hI.hLa
  have hLo := hI.hLo
  have hTb := hI.hTb
  have hTh := hI.hTh
  have hFd := hI.hFd
  have hSn := hI.hSn
  have hSh := hI.hSh
  have hRan := hI.hRan
  have hLr := hI.hLr
  have hLt := hI.hLt
  have hgl := hI.hgl
  have hsz := hI.hsz
  have hcm := hI.hcm
  have hsl := hI.hsl
  have hkd := hI.hkd
  have hvv := hI.hvv
  have hli := hI.hli
  have hro := hI.hro
  have hrw := hI.hrw
  have htx := hI.htx
  have hsw := hI.hsw
  have hsx := hI.hsx
  have hsy := hI.hsy
  have hsh := hI.hsh
  have hle := hI.hle
  have hcl := hI.hcl
  have hwd := hI.hwd
  have hnu := hI.hnu
  have hwn := hI.hwn
  have hs1 := hI.hs1
  have hso := hI.hso
  have hB0 := hB.1
  have hsh := nSh_12 hW
  refine Ev.run 4 (pc' := 6) (lv' := [(0, .ref 13)]) (st' := [.int (nI 1 <<< (nI (g 13 5) &&& 31))]) (h' := HN g hl (RF rt)) rfl ?_
  refine Ev.topI ((nI_shl (a := 1) (b := g 13 5) (by omega)).trans (congrArg (fun z => nI (nSh 1 z)) hB0)) ?_
  refine Ev.run 2 (pc' := 8) (lv' := [(0, .ref 13)]) (st' := [.int (nI (nSh 1 (g 166 0)) - nI 1)]) (h' := HN g hl (RF rt)) rfl ?_
  refine Ev.topI (pk_sub (a := (nSh 1 (g 166 0))) (b := 1) (by omega)) ?_
  refine Ev.ret (v := some (.int (nI ((nSh 1 (g 166 0)) - 1)))) rfl ?_
  unfold allS at hq
  rw [← nSh_1] at hq
  exact hq
theorem K_having {L : Nat} {xs : Nat → Int32} (d : Nat) (g : Nat → Nat → Nat) (hl : Nat → Nat → Int64) (rt : Nat × Nat × Nat × Nat) (hI : MI g) (hB : CB g) (p : Nat) (y : Nat) (hp : p < 2 ^ 32) (hy : y < 2 ^ 32) {Q : Po} (hq : Q (some (.int (nI (bset (plB g p y) (g 166 0))))) (HN g hl (RF rt))) : Ev L xs (d + 1) 12 0 [(0, .ref 13), (1, .int (nI p)), (2, .int (nI y))] [] (HN g hl (RF rt)) Q := by
  have hW := hI.hW
  have hS := hI.hS
  have hPl := hI.hPl
  have hNx := hI.hNx
  have hLa := hI.hLa
  have hLo := hI.hLo
  have hTb := hI.hTb
  have hTh := hI.hTh
  have hFd := hI.hFd
  have hSn := hI.hSn
  have hSh := hI.hSh
  have hRan := hI.hRan
  have hLr := hI.hLr
  have hLt := hI.hLt
  have hgl := hI.hgl
  have hsz := hI.hsz
  have hcm := hI.hcm
  have hsl := hI.hsl
  have hkd := hI.hkd
  have hvv := hI.hvv
  have hli := hI.hli
  have hro := hI.hro
  have hrw := hI.hrw
  have htx := hI.htx
  have hsw := hI.hsw
  have hsx := hI.hsx
  have hsy := hI.hsy
  have hsh := hI.hsh
  have hle := hI.hle
  have hcl := hI.hcl
  have hwd := hI.hwd
  have hnu := hI.hnu
  have hwn := hI.hwn
  have hs1 := hI.hs1
  have hso := hI.hso
  refine Ev.run 3 (pc' := 3) (lv' := [(0, .ref 13), (1, .int (nI p)), (2, .int (nI y))]) (st' := [.int (nI 5), .int (nI 0), .int (nI p)]) (h' := HN g hl (RF rt)) rfl ?_
  refine Ev.call (a := 118) (as := [.int (nI p), .int (nI 0), .int (nI 5)]) (rest := []) (lv0 := [(0, .int (nI p)), (1, .int (nI 0)), (2, .int (nI 5))]) (Q1 := (fun z0 h' => z0 = some (.int (nI (bn (decide (p ≤ 5))))) ∧ h' = HN g hl (RF rt))) rfl rfl (K_within _ _ _ _ (nI p) (nI 0) (nI 5) (by rw [in0 (by omega) (by omega)]; exact ⟨rfl, rfl⟩)) (fun r h' hr => ?_)
  obtain ⟨rfl, rfl⟩ := hr
  refine Ev_bn (fun hb6 => ?_) (fun hb6 => ?_)
  · have hhb6 : p ≤ 5 := of_decide_eq_true hb6
    refine Ev.run 4 (pc' := 12) (lv' := [(0, .ref 13), (1, .int (nI p)), (2, .int (nI y))]) (st' := [.int (nI 3), .int (nI 0), .int (nI y)]) (h' := HN g hl (RF rt)) rfl ?_
    refine Ev.call (a := 118) (as := [.int (nI y), .int (nI 0), .int (nI 3)]) (rest := []) (lv0 := [(0, .int (nI y)), (1, .int (nI 0)), (2, .int (nI 3))]) (Q1 := (fun z0 h' => z0 = some (.int (nI (bn (decide (y ≤ 3))))) ∧ h' = HN g hl (RF rt))) rfl rfl (K_within _ _ _ _ (nI y) (nI 0) (nI 3) (by rw [in0 (by omega) (by omega)]; exact ⟨rfl, rfl⟩)) (fun r h' hr => ?_)
    obtain ⟨rfl, rfl⟩ := hr
    refine Ev_bn (fun hb15 => ?_) (fun hb15 => ?_)
    · have hhb15 : y ≤ 3 := of_decide_eq_true hb15
      refine Ev.run 11 (pc' := 35) (lv' := [(3, .int (nI 1)), (0, .ref 13), (1, .int (nI p)), (2, .int (nI y))]) (st' := [.int (nI p * nI 4), .ref 16]) (h' := HN g hl (RF rt)) rfl ?_
      refine Ev.topI (pk_mul _ _) ?_
      refine Ev.run 2 (pc' := 37) (lv' := [(3, .int (nI 1)), (0, .ref 13), (1, .int (nI p)), (2, .int (nI y))]) (st' := [.int (nI (p * 4) + nI y), .ref 16]) (h' := HN g hl (RF rt)) rfl ?_
      refine Ev.topI (nI_add _ _) ?_
      refine Ev_iald rfl rfl (show (p * 4) + y < 24 by omega) (Nat.le_of_ble_eq_true rfl) ?_
      refine Ev.run 1 (pc' := 42) (lv' := [(3, .int (nI 1)), (0, .ref 13), (1, .int (nI p)), (2, .int (nI y))]) (st' := [.int (nI (g 16 ((p * 4) + y)))]) (h' := HN g hl (RF rt)) rfl ?_
      refine Ev.ret (v := some (.int (nI (g 16 ((p * 4) + y))))) rfl ?_
      rw [← hB.2.2.2.2.1 p y (by omega) (by omega)] at hq
      rw [show 4 * p + y = p * 4 + y by omega] at hq
      exact hq
    · have hhb15 : ¬ (y ≤ 3) := of_decide_eq_false hb15
      refine Ev.run 6 (pc' := 42) (lv' := [(3, .int (nI 0)), (0, .ref 13), (1, .int (nI p)), (2, .int (nI y))]) (st' := [.int (nI 0)]) (h' := HN g hl (RF rt)) rfl ?_
      refine Ev.ret (v := some (.int (nI 0))) rfl ?_
      rw [bset_0 (fun i hi => plB_0 hI (by omega) (by omega))] at hq
      exact hq
  · have hhb6 : ¬ (p ≤ 5) := of_decide_eq_false hb6
    refine Ev.run 6 (pc' := 42) (lv' := [(3, .int (nI 0)), (0, .ref 13), (1, .int (nI p)), (2, .int (nI y))]) (st' := [.int (nI 0)]) (h' := HN g hl (RF rt)) rfl ?_
    refine Ev.ret (v := some (.int (nI 0))) rfl ?_
    rw [bset_0 (fun i hi => plB_0 hI (by omega) (by omega))] at hq
    exact hq
noncomputable def ftB (g : Nat → Nat → Nat) (c n : Nat) : Nat := bset (ft g (atLn g c) n) (g 166 0)
theorem K_fitting {L : Nat} {xs : Nat → Int32} (d : Nat) (g : Nat → Nat → Nat) (hl : Nat → Nat → Int64) (rt : Nat × Nat × Nat × Nat) (hI : MI g) (hB : CB g) (c N : Nat) (hc : LnC rt c N) (n : Nat) (hn : n ≤ 1000) (hsz : g c 1 ≤ N) (hat : ∀ k, atLn g c k < 4294967296) {Q : Po} (hq : Q (some (.int (nI (ftB g c n)))) (HN g hl (RF rt))) : Ev L xs (d + 2) 13 0 [(0, .ref 13), (1, .ref c), (2, .int (nI n))] [] (HN g hl (RF rt)) Q := by
  have hW := hI.hW
  have hS := hI.hS
  have hPl := hI.hPl
  have hNx := hI.hNx
  have hLa := hI.hLa
  have hLo := hI.hLo
  have hTb := hI.hTb
  have hTh := hI.hTh
  have hFd := hI.hFd
  have hSn := hI.hSn
  have hSh := hI.hSh
  have hRan := hI.hRan
  have hLr := hI.hLr
  have hLt := hI.hLt
  have hgl := hI.hgl
  have hsz := hI.hsz
  have hcm := hI.hcm
  have hsl := hI.hsl
  have hkd := hI.hkd
  have hvv := hI.hvv
  have hli := hI.hli
  have hro := hI.hro
  have hrw := hI.hrw
  have htx := hI.htx
  have hsw := hI.hsw
  have hsx := hI.hsx
  have hsy := hI.hsy
  have hsh := hI.hsh
  have hle := hI.hle
  have hcl := hI.hcl
  have hwd := hI.hwd
  have hnu := hI.hnu
  have hwn := hI.hwn
  have hs1 := hI.hs1
  have hso := hI.hso
  refine Ev.run 1 (pc' := 1) (lv' := [(0, .ref 13), (1, .ref c), (2, .int (nI n))]) (st' := [.ref 13]) (h' := HN g hl (RF rt)) rfl ?_
  refine Ev.call (a := 10) (as := [.ref 13]) (rest := []) (lv0 := [(0, .ref 13)]) (Q1 := (fun z0 h' => z0 = some (.int (nI (allS g))) ∧ h' = HN g hl (RF rt))) rfl rfl (K_all _ _ _ _ hI hB ⟨rfl, rfl⟩) (fun r h' hr => ?_)
  obtain ⟨rfl, rfl⟩ := hr
  have hall := allS_lt hI
  refine Ev.run 3 (pc' := 8) (lv' := [(4, .int (nI 0)), (3, .int (nI (allS g))), (0, .ref 13), (1, .ref c), (2, .int (nI n))]) (st' := []) (h' := HN g hl (RF rt)) rfl ?_
  rw [allS_b g (atLn g c)]
  refine for_ind n (fun k => Ev L xs (d + 2) 13 8 [(4, .int (nI k)), (3, .int (nI (bset (ft g (atLn g c) k) (g 166 0)))), (0, .ref 13), (1, .ref c), (2, .int (nI n))] [] (HN g hl (RF rt)) Q) (fun k hk hnext => ?_) 0 (Nat.zero_le _)
  have hb12 := bset_12 (ft g (atLn g c) k) hW
  have hatk : atLn g c k < 4294967296 := hat k
  refine Ev.run 3 (pc' := (if nI n ≤ nI k then 35 else 14)) (lv' := [(4, .int (nI k)), (3, .int (nI (bset (ft g (atLn g c) k) (g 166 0)))), (0, .ref 13), (1, .ref c), (2, .int (nI n))]) (st' := []) (h' := HN g hl (RF rt)) rfl ?_
  refine Ev.ite (fun hc11 => ?_) (fun hc11 => ?_)
  · have hc11 : n ≤ k := (nI_leI (by omega) (by omega)).mp hc11
    refine Ev.run 1 (pc' := 36) (lv' := [(4, .int (nI k)), (3, .int (nI (bset (ft g (atLn g c) k) (g 166 0)))), (0, .ref 13), (1, .ref c), (2, .int (nI n))]) (st' := [.int (nI (bset (ft g (atLn g c) k) (g 166 0)))]) (h' := HN g hl (RF rt)) rfl ?_
    refine Ev.ret (v := some (.int (nI (bset (ft g (atLn g c) k) (g 166 0))))) rfl ?_
    have hkn : k = n := by omega
    unfold ftB at hq
    rw [← hkn] at hq
    exact hq
  · have hc11 : ¬ (n ≤ k) := fun z => hc11 ((nI_leI (by omega) (by omega)).mpr z)
    refine Ev.run 5 (pc' := 21) (lv' := [(4, .int (nI k)), (3, .int (nI (bset (ft g (atLn g c) k) (g 166 0)))), (0, .ref 13), (1, .ref c), (2, .int (nI n))]) (st' := [.int (nI k), .ref c, .int (nI k), .ref 13, .int (nI (bset (ft g (atLn g c) k) (g 166 0)))]) (h' := HN g hl (RF rt)) rfl ?_
    refine Ev_callV (a := 44) (as := [.ref c, .int (nI k)]) (rest := [.int (nI k), .ref 13, .int (nI (bset (ft g (atLn g c) k) (g 166 0)))]) (lv0 := [(0, .ref c), (1, .int (nI k))]) (Q1 := (fun z0 h' => z0 = some (.int (nI (atLn g c k))) ∧ h' = HN g hl (RF rt))) rfl rfl rfl rfl rfl hc.1.k rfl rfl rfl (K_at _ _ _ _ c _ hc k (by omega) (by omega) ⟨rfl, rfl⟩) (fun r h' hr => ?_)
    obtain ⟨rfl, rfl⟩ := hr
    refine Ev.call (a := 12) (as := [.ref 13, .int (nI k), .int (nI (atLn g c k))]) (rest := [.int (nI (bset (ft g (atLn g c) k) (g 166 0)))]) (lv0 := [(0, .ref 13), (1, .int (nI k)), (2, .int (nI (atLn g c k)))]) (Q1 := (fun z0 h' => z0 = some (.int (nI (bset (plB g k (atLn g c k)) (g 166 0)))) ∧ h' = HN g hl (RF rt))) rfl rfl (K_having _ _ _ _ hI hB k (atLn g c k) (by omega) (by omega) ⟨rfl, rfl⟩) (fun r h' hr => ?_)
    obtain ⟨rfl, rfl⟩ := hr
    have hbs27 := bset_12 (plB g k (atLn g c k)) hW
    refine Ev.run 1 (pc' := 28) (lv' := [(4, .int (nI k)), (3, .int (nI (bset (ft g (atLn g c) k) (g 166 0)))), (0, .ref 13), (1, .ref c), (2, .int (nI n))]) (st' := [.int (nI (bset (ft g (atLn g c) k) (g 166 0)) &&& nI (bset (plB g k (atLn g c k)) (g 166 0)))]) (h' := HN g hl (RF rt)) rfl ?_
    refine Ev.topI (nIa _ _) ?_
    refine Ev.run 2 (pc' := 32) (lv' := [(4, .int (nI k + 1)), (3, .int (nI ((bset (ft g (atLn g c) k) (g 166 0)) &&& (bset (plB g k (atLn g c k)) (g 166 0))))), (0, .ref 13), (1, .ref c), (2, .int (nI n))]) (st' := []) (h' := HN g hl (RF rt)) rfl ?_
    refine Ev.lvE (congrArg (fun z => (4, Value.int z) :: [(3, .int (nI ((bset (ft g (atLn g c) k) (g 166 0)) &&& (bset (plB g k (atLn g c k)) (g 166 0))))), (0, .ref 13), (1, .ref c), (2, .int (nI n))]) (nI_1 _)) ?_
    refine Ev.run 1 (pc' := 8) (lv' := [(4, .int (nI (k + 1))), (3, .int (nI ((bset (ft g (atLn g c) k) (g 166 0)) &&& (bset (plB g k (atLn g c k)) (g 166 0))))), (0, .ref 13), (1, .ref c), (2, .int (nI n))]) (st' := []) (h' := HN g hl (RF rt)) rfl ?_
    have hx := hnext (by omega)
    rw [show bset (ft g (atLn g c) (k + 1)) (g 166 0) = bset (ft g (atLn g c) k) (g 166 0) &&& bset (plB g k (atLn g c k)) (g 166 0) by rw [bset_and]; exact bset_cg (fun i _ => ft_s g _ k i)] at hx
    exact hx
