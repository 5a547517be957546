/-! the class: lines, sets -/
theorem K_within {L : Nat} {xs : Nat → Int32} (d : Nat) (g : Nat → Nat → Nat) (hl : Nat → Nat → Int64) (rt : Nat × Nat × Nat × Nat) (v lo hi : Int32) {Q : Po} (hq : Q (some (.int (nI (bn (decide (lo ≤ v) && decide (v ≤ hi)))))) (HN g hl (RF rt))) : Ev L xs d 118 0 [(0, .int (v)), (1, .int (lo)), (2, .int (hi))] [] (HN g hl (RF rt)) Q := by
  refine Ev.run 3 (pc' := (if v < lo then 14 else 5)) (lv' := [(0, .int (v)), (1, .int (lo)), (2, .int (hi))]) (st' := []) (h' := HN g hl (RF rt)) rfl ?_
  refine Ev.ite (fun hc2 => ?_) (fun hc2 => ?_)
  · skip
    refine Ev.run 1 (pc' := 15) (lv' := [(0, .int (v)), (1, .int (lo)), (2, .int (hi))]) (st' := [.int (nI 0)]) (h' := HN g hl (RF rt)) rfl ?_
    refine Ev.ret (v := some (.int (nI 0))) rfl ?_
    first | (rw [decide_eq_false (Int32.not_le.mpr hc2)] at hq; exact hq) | (rw [decide_eq_false (Int32.not_le.mpr hc7), Bool.and_false] at hq; exact hq) | (rw [decide_eq_true (Int32.not_lt.mp hc2), decide_eq_true (Int32.not_lt.mp hc7)] at hq; exact hq)
  · skip
    refine Ev.run 3 (pc' := (if hi < v then 14 else 10)) (lv' := [(0, .int (v)), (1, .int (lo)), (2, .int (hi))]) (st' := []) (h' := HN g hl (RF rt)) rfl ?_
    refine Ev.ite (fun hc7 => ?_) (fun hc7 => ?_)
    · skip
      refine Ev.run 1 (pc' := 15) (lv' := [(0, .int (v)), (1, .int (lo)), (2, .int (hi))]) (st' := [.int (nI 0)]) (h' := HN g hl (RF rt)) rfl ?_
      refine Ev.ret (v := some (.int (nI 0))) rfl ?_
      first | (rw [decide_eq_false (Int32.not_le.mpr hc2)] at hq; exact hq) | (rw [decide_eq_false (Int32.not_le.mpr hc7), Bool.and_false] at hq; exact hq) | (rw [decide_eq_true (Int32.not_lt.mp hc2), decide_eq_true (Int32.not_lt.mp hc7)] at hq; exact hq)
    · skip
      refine Ev.run 2 (pc' := 15) (lv' := [(0, .int (v)), (1, .int (lo)), (2, .int (hi))]) (st' := [.int (nI 1)]) (h' := HN g hl (RF rt)) rfl ?_
      refine Ev.ret (v := some (.int (nI 1))) rfl ?_
      first | (rw [decide_eq_false (Int32.not_le.mpr hc2)] at hq; exact hq) | (rw [decide_eq_false (Int32.not_le.mpr hc7), Bool.and_false] at hq; exact hq) | (rw [decide_eq_true (Int32.not_lt.mp hc2), decide_eq_true (Int32.not_lt.mp hc7)] at hq; exact hq)
theorem K_isTape {L : Nat} {xs : Nat → Int32} (d : Nat) (g : Nat → Nat → Nat) (hl : Nat → Nat → Int64) (rt : Nat × Nat × Nat × Nat) (i : Nat) (hi : i < 2 ^ 32) {Q : Po} (hq : Q (some (.int (nI (bn (decide (i ≤ 5)))))) (HN g hl (RF rt))) : Ev L xs (d + 1) 119 0 [(0, .int (nI i))] [] (HN g hl (RF rt)) Q := by
  refine Ev.run 3 (pc' := 3) (lv' := [(0, .int (nI i))]) (st' := [.int (nI 5), .int (nI 0), .int (nI i)]) (h' := HN g hl (RF rt)) rfl ?_
  refine Ev.call (a := 118) (as := [.int (nI i), .int (nI 0), .int (nI 5)]) (rest := []) (lv0 := [(0, .int (nI i)), (1, .int (nI 0)), (2, .int (nI 5))]) (Q1 := (fun z0 h' => z0 = some (.int (nI (bn (decide (i ≤ 5))))) ∧ h' = HN g hl (RF rt))) rfl rfl (K_within _ _ _ _ (nI i) (nI 0) (nI 5) (by rw [in0 (by omega) (by omega)]; exact ⟨rfl, rfl⟩)) (fun r h' hr => ?_)
  obtain ⟨rfl, rfl⟩ := hr
  refine Ev_bn (fun hb6 => ?_) (fun hb6 => ?_)
  · have hhb6 : i ≤ 5 := of_decide_eq_true hb6
    refine Ev.ret (v := some (.int (nI 1))) rfl ?_
    rw [hb6] at hq
    exact hq
  · have hhb6 : ¬ (i ≤ 5) := of_decide_eq_false hb6
    refine Ev.ret (v := some (.int (nI 0))) rfl ?_
    rw [hb6] at hq
    exact hq
theorem K_isKind {L : Nat} {xs : Nat → Int32} (d : Nat) (g : Nat → Nat → Nat) (hl : Nat → Nat → Int64) (rt : Nat × Nat × Nat × Nat) (i : Nat) (hi : i < 2 ^ 32) {Q : Po} (hq : Q (some (.int (nI (bn (decide (i ≤ 6)))))) (HN g hl (RF rt))) : Ev L xs (d + 1) 120 0 [(0, .int (nI i))] [] (HN g hl (RF rt)) Q := by
  refine Ev.run 4 (pc' := 6) (lv' := [(0, .int (nI i))]) (st' := [.int (Int32.ofNat (xLen L 1)), .int (nI 0), .int (nI i)]) (h' := HN g hl (RF rt)) rfl ?_
  refine Ev.topI (show Int32.ofNat (xLen L 1) = nI 7 from rfl) ?_
  refine Ev.run 2 (pc' := 8) (lv' := [(0, .int (nI i))]) (st' := [.int (nI 6), .int (nI 0), .int (nI i)]) (h' := HN g hl (RF rt)) rfl ?_
  refine Ev.call (a := 118) (as := [.int (nI i), .int (nI 0), .int (nI 6)]) (rest := []) (lv0 := [(0, .int (nI i)), (1, .int (nI 0)), (2, .int (nI 6))]) (Q1 := (fun z0 h' => z0 = some (.int (nI (bn (decide (i ≤ 6))))) ∧ h' = HN g hl (RF rt))) rfl rfl (K_within _ _ _ _ (nI i) (nI 0) (nI 6) (by rw [in0 (by omega) (by omega)]; exact ⟨rfl, rfl⟩)) (fun r h' hr => ?_)
  obtain ⟨rfl, rfl⟩ := hr
  refine Ev_bn (fun hb11 => ?_) (fun hb11 => ?_)
  · have hhb11 : i ≤ 6 := of_decide_eq_true hb11
    refine Ev.ret (v := some (.int (nI 1))) rfl ?_
    rw [hb11] at hq
    exact hq
  · have hhb11 : ¬ (i ≤ 6) := of_decide_eq_false hb11
    refine Ev.ret (v := some (.int (nI 0))) rfl ?_
    rw [hb11] at hq
    exact hq
theorem K_isIn {L : Nat} {xs : Nat → Int32} (d : Nat) (g : Nat → Nat → Nat) (hl : Nat → Nat → Int64) (rt : Nat × Nat × Nat × Nat) (s k : Nat) (hs : s < 2 ^ 31) (hk : k < 32) {Q : Po} (hq : Q (some (.int (nI (bn (s.testBit k))))) (HN g hl (RF rt))) : Ev L xs d 122 0 [(0, .int (nI s)), (1, .int (nI k))] [] (HN g hl (RF rt)) Q := by
  have hand : (s >>> k) &&& 1 < 2 := by rw [Nat.and_one_is_mod]; omega
  have hsh : s >>> k < 2 ^ 31 := Nat.lt_of_le_of_lt (Nat.shiftRight_le s k) hs
  have e := Nat.testBit_eq_decide_div_mod_eq (x := s) (i := k)
  refine Ev.run 3 (pc' := 3) (lv' := [(0, .int (nI s)), (1, .int (nI k))]) (st' := [.int (nI s >>> (nI k &&& 31))]) (h' := HN g hl (RF rt)) rfl ?_
  refine Ev.topI (nI_shr (by omega) (by omega)) ?_
  refine Ev.run 2 (pc' := 5) (lv' := [(0, .int (nI s)), (1, .int (nI k))]) (st' := [.int (nI (s >>> k) &&& nI 1)]) (h' := HN g hl (RF rt)) rfl ?_
  refine Ev.topI (nIa _ _) ?_
  refine Ev.run 1 (pc' := (if nI ((s >>> k) &&& 1) = 0 then 12 else 8)) (lv' := [(0, .int (nI s)), (1, .int (nI k))]) (st' := []) (h' := HN g hl (RF rt)) rfl ?_
  refine Ev.ite (fun hc5 => ?_) (fun hc5 => ?_)
  · have hc5 : ((s >>> k) &&& 1) = 0 := (nI_eqU0 (by omega)).mp hc5
    refine Ev.run 1 (pc' := 13) (lv' := [(0, .int (nI s)), (1, .int (nI k))]) (st' := [.int (nI 0)]) (h' := HN g hl (RF rt)) rfl ?_
    refine Ev.ret (v := some (.int (nI 0))) rfl ?_
    simp only [Nat.and_one_is_mod, Nat.shiftRight_eq_div_pow] at hc5
    have hm2 : s / 2 ^ k % 2 = 0 ∨ s / 2 ^ k % 2 = 1 := by omega
    have e5 : s.testBit k = false := by rw [e]; exact decide_eq_false (by omega)
    rw [e5] at hq
    exact hq
  · have hc5 : ¬ (((s >>> k) &&& 1) = 0) := fun z => hc5 ((nI_eqU0 (by omega)).mpr z)
    refine Ev.run 2 (pc' := 13) (lv' := [(0, .int (nI s)), (1, .int (nI k))]) (st' := [.int (nI 1)]) (h' := HN g hl (RF rt)) rfl ?_
    refine Ev.ret (v := some (.int (nI 1))) rfl ?_
    simp only [Nat.and_one_is_mod, Nat.shiftRight_eq_div_pow] at hc5
    have hm2 : s / 2 ^ k % 2 = 0 ∨ s / 2 ^ k % 2 = 1 := by omega
    have e5 : s.testBit k = true := by rw [e]; exact decide_eq_true (by omega)
    rw [e5] at hq
    exact hq
def frS (s : Nat) : Nat := if s = 0 then 4294967295 else least s
theorem frS_e {s k : Nat} (hk : k < 12) (h1 : s.testBit k = true) (h2 : ∀ i, i < k → s.testBit i = false) : frS s = k := by
  unfold frS
  rw [if_neg (nz_tb h1)]
  exact least_eq (by omega) h1 h2
theorem frS_0 {s : Nat} (hs : s < 4096) (h2 : ∀ i, i < 12 → s.testBit i = false) : frS s = 4294967295 := by
  unfold frS
  by_cases e : s = 0
  · rw [if_pos e]
  · obtain ⟨j, a, b, _⟩ := least_ex (N := 12) e hs
    rw [h2 j a] at b
    cases b
theorem K_first {L : Nat} {xs : Nat → Int32} (d : Nat) (g : Nat → Nat → Nat) (hl : Nat → Nat → Int64) (rt : Nat × Nat × Nat × Nat) (s : Nat) (hs : s < 4096) {Q : Po} (hq : Q (some (.int (nI (frS s)))) (HN g hl (RF rt))) : Ev L xs (d + 1) 123 0 [(0, .int (nI s))] [] (HN g hl (RF rt)) Q := by
  refine Ev.run 2 (pc' := 2) (lv' := [(1, .int (nI 0)), (0, .int (nI s))]) (st' := []) (h' := HN g hl (RF rt)) rfl ?_
  refine for_ind 12 (fun n => (∀ i, i < n → s.testBit i = false) → Ev L xs (d + 1) 123 2 [(1, .int (nI n)), (0, .int (nI s))] [] (HN g hl (RF rt)) Q) (fun n hn hnext ha => ?_) 0 (Nat.zero_le _) (fun k hk => absurd hk (Nat.not_lt_zero _))
  refine Ev.run 3 (pc' := (if nI 12 ≤ nI n then 24 else 8)) (lv' := [(1, .int (nI n)), (0, .int (nI s))]) (st' := []) (h' := HN g hl (RF rt)) rfl ?_
  refine Ev.ite (fun hc5 => ?_) (fun hc5 => ?_)
  · have hc5 : 12 ≤ n := (nI_leI (by omega) (by omega)).mp hc5
    refine Ev.run 1 (pc' := 25) (lv' := [(1, .int (nI n)), (0, .int (nI s))]) (st' := [.int (nI 4294967295)]) (h' := HN g hl (RF rt)) rfl ?_
    refine Ev.ret (v := some (.int (nI 4294967295))) rfl ?_
    rw [frS_0 hs (fun i hi => ha i (by omega))] at hq
    exact hq
  · have hc5 : ¬ (12 ≤ n) := fun z => hc5 ((nI_leI (by omega) (by omega)).mpr z)
    refine Ev.run 2 (pc' := 10) (lv' := [(1, .int (nI n)), (0, .int (nI s))]) (st' := [.int (nI n), .int (nI s)]) (h' := HN g hl (RF rt)) rfl ?_
    refine Ev.call (a := 122) (as := [.int (nI s), .int (nI n)]) (rest := []) (lv0 := [(0, .int (nI s)), (1, .int (nI n))]) (Q1 := (fun z0 h' => z0 = some (.int (nI (bn (Nat.testBit s n)))) ∧ h' = HN g hl (RF rt))) rfl rfl (K_isIn _ _ _ _ s n (by omega) (by omega) ⟨rfl, rfl⟩) (fun r h' hr => ?_)
    obtain ⟨rfl, rfl⟩ := hr
    refine Ev_bn (fun hb13 => ?_) (fun hb13 => ?_)
    · skip
      refine Ev.run 2 (pc' := 17) (lv' := [(1, .int (nI n)), (0, .int (nI s))]) (st' := [.int (nI n)]) (h' := HN g hl (RF rt)) rfl ?_
      refine Ev.ret (v := some (.int (nI n))) rfl ?_
      rw [frS_e (by omega) hb13 ha] at hq
      exact hq
    · skip
      refine Ev.run 2 (pc' := 21) (lv' := [(1, .int (nI n + 1)), (0, .int (nI s))]) (st' := []) (h' := HN g hl (RF rt)) rfl ?_
      refine Ev.lvE (congrArg (fun z => (1, Value.int z) :: [(0, .int (nI s))]) (nI_1 _)) ?_
      refine Ev.run 1 (pc' := 2) (lv' := [(1, .int (nI (n + 1))), (0, .int (nI s))]) (st' := []) (h' := HN g hl (RF rt)) rfl ?_
      exact hnext (by omega) (all_s (p := fun i => s.testBit i = false) ha hb13)
theorem K_isFull {L : Nat} {xs : Nat → Int32} (d : Nat) (g : Nat → Nat → Nat) (hl : Nat → Nat → Int64) (rt : Nat × Nat × Nat × Nat) (c N : Nat) (hc : LnC rt c N) (hsz : g c 1 < 2 ^ 31) {Q : Po} (hq : Q (some (.int (nI (bn (decide (N ≤ g c 1)))))) (HN g hl (RF rt))) : Ev L xs d 42 0 [(0, .ref c)] [] (HN g hl (RF rt)) Q := by
  have hN := hc.2.2.2
  refine Ev.run 1 (pc' := 1) (lv' := [(0, .ref c)]) (st' := [.ref c]) (h' := HN g hl (RF rt)) rfl ?_
  refine Ev_gfI rfl rfl rfl hc.1 ?_
  refine Ev.run 1 (pc' := 5) (lv' := [(0, .ref c)]) (st' := [.ref c, .int (nI (g c 1))]) (h' := HN g hl (RF rt)) rfl ?_
  refine Ev_gfR rfl rfl rfl hc.1 hc.2.2.1 ?_
  refine Ev_alen rfl hc.2.1 rfl ?_
  refine Ev.run 1 (pc' := (if nI (g c 1) < nI N then 16 else 12)) (lv' := [(0, .ref c)]) (st' := []) (h' := HN g hl (RF rt)) rfl ?_
  refine Ev.ite (fun hc9 => ?_) (fun hc9 => ?_)
  · have hc9 : (g c 1) < N := (nI_ltI (by omega) (by omega)).mp hc9
    refine Ev.run 1 (pc' := 17) (lv' := [(0, .ref c)]) (st' := [.int (nI 0)]) (h' := HN g hl (RF rt)) rfl ?_
    refine Ev.ret (v := some (.int (nI 0))) rfl ?_
    first | (rw [decide_eq_true (by omega)] at hq; exact hq) | (rw [decide_eq_false (by omega)] at hq; exact hq)
  · have hc9 : ¬ ((g c 1) < N) := fun z => hc9 ((nI_ltI (by omega) (by omega)).mpr z)
    refine Ev.run 2 (pc' := 17) (lv' := [(0, .ref c)]) (st' := [.int (nI 1)]) (h' := HN g hl (RF rt)) rfl ?_
    refine Ev.ret (v := some (.int (nI 1))) rfl ?_
    first | (rw [decide_eq_true (by omega)] at hq; exact hq) | (rw [decide_eq_false (by omega)] at hq; exact hq)
def ptLn (g : Nat → Nat → Nat) (c N x : Nat) : Nat → Nat → Nat := if g c 1 < N then u2 (u2 g (c + 1) (g c 1) x) c 1 (g c 1 + 1) else g
def atLn (g : Nat → Nat → Nat) (c k : Nat) : Nat := if k < g c 1 then g (c + 1) k else 4294967295
theorem K_at {L : Nat} {xs : Nat → Int32} (d : Nat) (g : Nat → Nat → Nat) (hl : Nat → Nat → Int64) (rt : Nat × Nat × Nat × Nat) (c N : Nat) (hc : LnC rt c N) (k : Nat) (hk : k < 2 ^ 32) (hsz : g c 1 ≤ N) {Q : Po} (hq : Q (some (.int (nI (atLn g c k)))) (HN g hl (RF rt))) : Ev L xs d 44 0 [(0, .ref c), (1, .int (nI k))] [] (HN g hl (RF rt)) Q := by
  have hN := hc.2.2.2
  refine Ev.run 2 (pc' := (if nI k < 0 then 21 else 4)) (lv' := [(0, .ref c), (1, .int (nI k))]) (st' := []) (h' := HN g hl (RF rt)) rfl ?_
  refine Ev.ite (fun hc1 => ?_) (fun hc1 => ?_)
  · have hc1 : 2147483648 ≤ k := (nI_ltU0 (by omega)).mp hc1
    refine Ev.run 1 (pc' := 22) (lv' := [(0, .ref c), (1, .int (nI k))]) (st' := [.int (nI 4294967295)]) (h' := HN g hl (RF rt)) rfl ?_
    refine Ev.ret (v := some (.int (nI 4294967295))) rfl ?_
    unfold atLn at hq
    first | (rw [if_pos (by omega)] at hq; exact hq) | (rw [if_neg (by omega)] at hq; exact hq)
  · have hc1 : ¬ (2147483648 ≤ k) := fun z => hc1 ((nI_ltU0 (by omega)).mpr z)
    refine Ev.run 2 (pc' := 6) (lv' := [(0, .ref c), (1, .int (nI k))]) (st' := [.ref c, .int (nI k)]) (h' := HN g hl (RF rt)) rfl ?_
    refine Ev_gfI rfl rfl rfl hc.1 ?_
    refine Ev.run 1 (pc' := (if nI (g c 1) ≤ nI k then 21 else 12)) (lv' := [(0, .ref c), (1, .int (nI k))]) (st' := []) (h' := HN g hl (RF rt)) rfl ?_
    refine Ev.ite (fun hc9 => ?_) (fun hc9 => ?_)
    · have hc9 : (g c 1) ≤ k := (nI_leI (by omega) (by omega)).mp hc9
      refine Ev.run 1 (pc' := 22) (lv' := [(0, .ref c), (1, .int (nI k))]) (st' := [.int (nI 4294967295)]) (h' := HN g hl (RF rt)) rfl ?_
      refine Ev.ret (v := some (.int (nI 4294967295))) rfl ?_
      unfold atLn at hq
      first | (rw [if_pos (by omega)] at hq; exact hq) | (rw [if_neg (by omega)] at hq; exact hq)
    · have hc9 : ¬ ((g c 1) ≤ k) := fun z => hc9 ((nI_leI (by omega) (by omega)).mpr z)
      refine Ev.run 1 (pc' := 13) (lv' := [(0, .ref c), (1, .int (nI k))]) (st' := [.ref c]) (h' := HN g hl (RF rt)) rfl ?_
      refine Ev_gfR rfl rfl rfl hc.1 hc.2.2.1 ?_
      refine Ev.run 1 (pc' := 17) (lv' := [(0, .ref c), (1, .int (nI k))]) (st' := [.int (nI k), .ref (c + 1)]) (h' := HN g hl (RF rt)) rfl ?_
      refine Ev_iald rfl hc.2.1.k (show _ < _ by rw [hc.2.1.n]; omega) (by rw [hc.2.1.n]; omega) ?_
      refine Ev.run 1 (pc' := 22) (lv' := [(0, .ref c), (1, .int (nI k))]) (st' := [.int (nI (g (c + 1) k))]) (h' := HN g hl (RF rt)) rfl ?_
      refine Ev.ret (v := some (.int (nI (g (c + 1) k)))) rfl ?_
      unfold atLn at hq
      first | (rw [if_pos (by omega)] at hq; exact hq) | (rw [if_neg (by omega)] at hq; exact hq)
theorem K_clear {L : Nat} {xs : Nat → Int32} (d : Nat) (g : Nat → Nat → Nat) (hl : Nat → Nat → Int64) (rt : Nat × Nat × Nat × Nat) (c N : Nat) (hc : LnC rt c N)  {Q : Po} (hq : Q none (HN (u2 g c 1 0) hl (RF rt))) : Ev L xs d 45 0 [(0, .ref c)] [] (HN g hl (RF rt)) Q := by
  refine Ev.run 2 (pc' := 2) (lv' := [(0, .ref c)]) (st' := [.int (nI 0), .ref c]) (h' := HN g hl (RF rt)) rfl ?_
  refine Ev_pfI rfl hc.1 ?_
  refine Ev.ret (v := none) rfl ?_
  exact hq
theorem K_put {L : Nat} {xs : Nat → Int32} (d : Nat) (g : Nat → Nat → Nat) (hl : Nat → Nat → Int64) (rt : Nat × Nat × Nat × Nat) (c N : Nat) (hc : LnC rt c N) (x : Nat) (hsz : g c 1 ≤ N) {Q : Po} (hq : Q none (HN (ptLn g c N x) hl (RF rt))) : Ev L xs d 43 0 [(0, .ref c), (1, .int (nI x))] [] (HN g hl (RF rt)) Q := by
  have hN := hc.2.2.2
  refine Ev.run 1 (pc' := 1) (lv' := [(0, .ref c), (1, .int (nI x))]) (st' := [.ref c]) (h' := HN g hl (RF rt)) rfl ?_
  refine Ev_gfI rfl rfl rfl hc.1 ?_
  refine Ev.run 1 (pc' := 5) (lv' := [(0, .ref c), (1, .int (nI x))]) (st' := [.ref c, .int (nI (g c 1))]) (h' := HN g hl (RF rt)) rfl ?_
  refine Ev_gfR rfl rfl rfl hc.1 hc.2.2.1 ?_
  refine Ev_alen rfl hc.2.1 rfl ?_
  refine Ev.run 1 (pc' := (if nI N ≤ nI (g c 1) then 32 else 12)) (lv' := [(0, .ref c), (1, .int (nI x))]) (st' := []) (h' := HN g hl (RF rt)) rfl ?_
  refine Ev.ite (fun hc9 => ?_) (fun hc9 => ?_)
  · have hc9 : N ≤ (g c 1) := (nI_leI (by omega) (by omega)).mp hc9
    refine Ev.ret (v := none) rfl ?_
    unfold ptLn at hq
    first | (rw [if_pos (by omega)] at hq; exact hq) | (rw [if_neg (by omega)] at hq; exact hq)
  · have hc9 : ¬ (N ≤ (g c 1)) := fun z => hc9 ((nI_leI (by omega) (by omega)).mpr z)
    refine Ev.run 1 (pc' := 13) (lv' := [(0, .ref c), (1, .int (nI x))]) (st' := [.ref c]) (h' := HN g hl (RF rt)) rfl ?_
    refine Ev_gfR rfl rfl rfl hc.1 hc.2.2.1 ?_
    refine Ev.run 1 (pc' := 17) (lv' := [(0, .ref c), (1, .int (nI x))]) (st' := [.ref c, .ref (c + 1)]) (h' := HN g hl (RF rt)) rfl ?_
    refine Ev_gfI rfl rfl rfl hc.1 ?_
    refine Ev.run 1 (pc' := 21) (lv' := [(0, .ref c), (1, .int (nI x))]) (st' := [.int (nI x), .int (nI (g c 1)), .ref (c + 1)]) (h' := HN g hl (RF rt)) rfl ?_
    refine Ev_iast rfl hc.2.1.k (show _ < _ by rw [hc.2.1.n]; omega) (by rw [hc.2.1.n]; omega) ?_
    refine Ev.run 2 (pc' := 24) (lv' := [(0, .ref c), (1, .int (nI x))]) (st' := [.ref c, .ref c]) (h' := HN (u2 g (c + 1) (g c 1) x) hl (RF rt)) rfl ?_
    refine Ev_gfI rfl rfl rfl hc.1 ?_
    refine Ev.topI (congrArg nI (show (u2 g (c + 1) (g c 1) x) c 1 = g c 1 from u2_ne _ (Or.inl (by omega)))) ?_
    refine Ev.run 2 (pc' := 29) (lv' := [(0, .ref c), (1, .int (nI x))]) (st' := [.int (nI (g c 1) + nI 1), .ref c]) (h' := HN (u2 g (c + 1) (g c 1) x) hl (RF rt)) rfl ?_
    refine Ev.topI (nI_add _ _) ?_
    refine Ev_pfI rfl hc.1 ?_
    refine Ev.ret (v := none) rfl ?_
    unfold ptLn at hq
    first | (rw [if_pos (by omega)] at hq; exact hq) | (rw [if_neg (by omega)] at hq; exact hq)
def cpLn (g : Nat → Nat → Nat) (c0 c1 : Nat) : Nat → Nat → Nat := cpR (u2 g c1 1 (g c0 1)) (c1 + 1) 0 (g c0 1) (g (c0 + 1))
theorem Ev_min {L : Nat} {xs : Nat → Int32} {d q pc : Nat} {lv : Lv} {st : List Value} {h : Hp} {Q : Option Value → Hp → Prop} {i : Nat} {n b t p x y : Nat} (he : fetch_ q pc = some (.invokestatic i, n, 1003, b, t, p)) (hx : x < 2 ^ 31) (hy : y < 2 ^ 31) (hd : Nat.ble 2 d = true) (hcat : Nat.ble (catS st) 8 = true) (kk : Ev L xs d q (pc + n) lv (.int (nI (if y < x then y else x)) :: st) h Q) : Ev L xs d q pc lv (.int (nI y) :: .int (nI x) :: st) h Q := by
  refine Ev.one he rfl (c := (pc + n, lv, .int (nI (if y < x then y else x)) :: st, h)) ?_ kk
  show (match (bif Nat.ble 2 d then (p2 (.int (nI y) :: .int (nI x) :: st) fun x y r => bif Nat.ble (catS r) 8 then some (.int (if y < x then y else x) :: r) else none).map fun r => (r, h) else none) with | some c => some (pc + n, lv, c.1, c.2) | none => none) = _
  rw [hd]
  show (match (bif Nat.ble (catS st) 8 then some (Value.int (if nI y < nI x then nI y else nI x) :: st) else none).map fun r => (r, h) with | some c => some (pc + n, lv, c.1, c.2) | none => none) = _
  rw [hcat]
  by_cases e : y < x
  · rw [if_pos e, if_pos ((nI_ltI hy hx).mpr e)]; rfl
  · rw [if_neg e, if_neg (fun z => e ((nI_ltI hy hx).mp z))]; rfl
set_option maxRecDepth 100000 in
theorem Ev_acpI {L : Nat} {xs : Nat → Int32} {d q pc : Nat} {lv : Lv} {st : List Value} {Q : Option Value → Hp → Prop} {g : Nat → Nat → Nat} {hl : Nat → Nat → Int64} {rf : Nat → Nat → Option Nat} {i : Nat} {n b t p c0 c1 N0 N1 m : Nat} (he : fetch_ q pc = some (.invokestatic i, n, 1000, b, t, p)) (hd : Nat.ble 2 d = true) (hcat : Nat.ble (catS st) 8 = true) (h0 : KC c0 11 N0) (h1 : KC c1 11 N1) (hm0 : m ≤ N0) (hm1 : m ≤ N1) (hm : m < 2 ^ 31) (kk : Ev L xs d q (pc + n) lv st (HN (cpR g c1 0 m (g c0)) hl rf) Q) : Ev L xs d q pc lv (.int (nI m) :: .int (nI 0) :: .ref c1 :: .int (nI 0) :: .ref c0 :: st) (HN g hl rf) Q := by
  refine Ev.one he rfl (c := (pc + n, lv, st, HN (cpR g c1 0 m (g c0)) hl rf)) ?_ kk
  show (match (bif Nat.ble 2 d then acpy (.int (nI m) :: .int (nI 0) :: .ref c1 :: .int (nI 0) :: .ref c0 :: st) (HN g hl rf) else none) with | some c => some (pc + n, lv, c.1, c.2) | none => none) = _
  rw [hd]
  unfold acpy
  dsimp only
  have e0 : decide (nI 0 < 0) = false := by decide +kernel
  have em : decide (nI m < 0) = false := decide_eq_false (fun z => by rw [nI_ltI0 hm] at z; omega)
  have ec0 : (nI 0).toNatClampNeg = 0 := cl_nI (by decide)
  have ecm : (nI m).toNatClampNeg = m := cl_nI hm
  rw [e0, em, ec0, ecm, h0.n, h1.n, hcat, h0.k, h1.k]
  have l0 : Nat.ble (0 + m) N0 = true := Nat.ble_eq_true_of_le (by omega)
  have l1 : Nat.ble (0 + m) N1 = true := Nat.ble_eq_true_of_le (by omega)
  rw [l0, l1]
  show some (pc + n, lv, st, ((210 : Nat), ur (fun k j => nI (g k j)) c1 (va_cpy (fun j => nI (g c0 j)) (fun j => nI (g c1 j)) 0 0 m), hl, rf)) = _
  unfold HN
  refine congrArg (fun z => some (pc + n, lv, st, ((210 : Nat), z, hl, rf))) (funext fun a => funext fun j => ?_)
  unfold ur va_cpy cpR
  by_cases e : a = c1
  · rw [if_pos e, if_pos e]
    by_cases h : 0 ≤ j ∧ j < 0 + m
    · rw [if_pos h, if_pos h, Nat.zero_add]
    · rw [if_neg h, if_neg h]
  · rw [if_neg e, if_neg e]
