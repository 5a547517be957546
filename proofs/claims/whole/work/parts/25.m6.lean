/-! the reference: ends, letters that go on, who is next -/
theorem C_ends {L : Nat} {xs : Nat → Int32} (d : Nat) (g : Nat → Nat → Nat) (hl : Nat → Nat → Int64) (rt : Nat × Nat × Nat × Nat) (hI : MI g)  {Q : Po} (hq : Q (some (.int (nI (bn (endS g (lwS g 1) (g 175) (g 166 9)))))) (HN g hl (RF rt))) : Ev L xs (d + 2) 166 0 [(0, .ref 166)] [] (HN g hl (RF rt)) Q := by
  have hW := hI.hW
  have hS := hI.hS
  have hPl := hI.hPl
  have hNx := hI.hNx
  have hLa := hI.hLa
  have hLo := hI.hLo
  have hTb := hI.hTb
  have hTh := hI.hTh
  have hFd := hI.hFd
  have hSn := hI.hSn
  have hSh := hI.hSh
  have hRan := hI.hRan
  have hLr := hI.hLr
  have hLt := hI.hLt
  have hgl := hI.hgl
  have hsz := hI.hsz
  have hcm := hI.hcm
  have hsl := hI.hsl
  have hkd := hI.hkd
  have hvv := hI.hvv
  have hli := hI.hli
  have hro := hI.hro
  have hrw := hI.hrw
  have htx := hI.htx
  have hsw := hI.hsw
  have hsx := hI.hsx
  have hsy := hI.hsy
  have hsh := hI.hsh
  have hle := hI.hle
  have hcl := hI.hcl
  have hwd := hI.hwd
  have hnu := hI.hnu
  have hwn := hI.hwn
  have hs1 := hI.hs1
  have hso := hI.hso
  refine Ev.run 2 (pc' := 2) (lv' := [(1, .int (nI 0)), (0, .ref 166)]) (st' := []) (h' := HN g hl (RF rt)) rfl ?_
  refine for_ind (g 166 0) (fun n => (∀ i, i < n → ¬ (g 168 i = g 166 9 ∧ lwS g 1 ≤ g 166 9 ∧ ft g (g 175) (g 166 9) i = true)) → Ev L xs (d + 2) 166 2 [(1, .int (nI n)), (0, .ref 166)] [] (HN g hl (RF rt)) Q) (fun n hn hnext ha => ?_) 0 (Nat.zero_le _) (fun k hk => absurd hk (Nat.not_lt_zero _))
  refine Ev.run 4 (pc' := (if nI (g 166 0) ≤ nI n then 51 else 10)) (lv' := [(1, .int (nI n)), (0, .ref 166)]) (st' := []) (h' := HN g hl (RF rt)) rfl ?_
  refine Ev.ite (fun hc7 => ?_) (fun hc7 => ?_)
  · have hc7 : (g 166 0) ≤ n := (nI_leI (by omega) (by omega)).mp hc7
    refine Ev.run 1 (pc' := 52) (lv' := [(1, .int (nI n)), (0, .ref 166)]) (st' := [.int (nI 0)]) (h' := HN g hl (RF rt)) rfl ?_
    refine Ev.ret (v := some (.int (nI 0))) rfl ?_
    rw [show endS g (lwS g 1) (g 175) (g 166 9) = false from dc_f (fun ⟨i, h1, h2, h3, h4⟩ => ha i (by omega) ⟨h2, h3, h4⟩)] at hq
    exact hq
  · have hc7 : ¬ ((g 166 0) ≤ n) := fun z => hc7 ((nI_leI (by omega) (by omega)).mpr z)
    refine Ev.run 3 (pc' := 15) (lv' := [(1, .int (nI n)), (0, .ref 166)]) (st' := [.int (nI n), .ref 168]) (h' := HN g hl (RF rt)) rfl ?_
    refine Ev_iald rfl rfl (show n < 12 by omega) (Nat.le_of_ble_eq_true rfl) ?_
    have hr0 := hsz n (by omega)
    refine Ev.run 3 (pc' := (if nI (g 168 n) = nI (g 166 9) then 23 else 45)) (lv' := [(1, .int (nI n)), (0, .ref 166)]) (st' := []) (h' := HN g hl (RF rt)) rfl ?_
    refine Ev.ite (fun hc20 => ?_) (fun hc20 => ?_)
    · have hc20 : (g 168 n) = (g 166 9) := (nI_eqU (by omega) (by omega)).mp hc20
      refine Ev.run 4 (pc' := 29) (lv' := [(1, .int (nI n)), (0, .ref 166)]) (st' := [.int (nI 1), .ref 166, .int (nI (g 166 9))]) (h' := HN g hl (RF rt)) rfl ?_
      refine Ev.call (a := 158) (as := [.ref 166, .int (nI 1)]) (rest := [.int (nI (g 166 9))]) (lv0 := [(0, .ref 166), (1, .int (nI 1))]) (Q1 := (fun z0 h' => z0 = some (.int (nI (lwS g 1))) ∧ h' = HN g hl (RF rt))) rfl rfl (C_lastOf _ _ _ _ hI 1 (by omega) ⟨rfl, rfl⟩) (fun r h' hr => ?_)
      obtain ⟨rfl, rfl⟩ := hr
      have hlw := lwS_le hI 1
      refine Ev.run 1 (pc' := (if nI (g 166 9) < nI (lwS g 1) then 45 else 35)) (lv' := [(1, .int (nI n)), (0, .ref 166)]) (st' := []) (h' := HN g hl (RF rt)) rfl ?_
      refine Ev.ite (fun hc32 => ?_) (fun hc32 => ?_)
      · have hc32 : (g 166 9) < (lwS g 1) := (nI_ltI (by omega) (by omega)).mp hc32
        refine Ev.run 1 (pc' := 48) (lv' := [(1, .int (nI n + 1)), (0, .ref 166)]) (st' := []) (h' := HN g hl (RF rt)) rfl ?_
        refine Ev.lvE (congrArg (fun z => (1, Value.int z) :: [(0, .ref 166)]) (nI_1 _)) ?_
        refine Ev.run 1 (pc' := 2) (lv' := [(1, .int (nI (n + 1))), (0, .ref 166)]) (st' := []) (h' := HN g hl (RF rt)) rfl ?_
        exact hnext (by omega) (all_s (p := fun i => ¬ (g 168 i = g 166 9 ∧ lwS g 1 ≤ g 166 9 ∧ ft g (g 175) (g 166 9) i = true)) ha (fun z => by first | exact hc20 z.1 | (have := z.2.1; omega) | exact tf z.2.2 hb40))
      · have hc32 : ¬ ((g 166 9) < (lwS g 1)) := fun z => hc32 ((nI_ltI (by omega) (by omega)).mpr z)
        refine Ev.run 2 (pc' := 37) (lv' := [(1, .int (nI n)), (0, .ref 166)]) (st' := [.int (nI n), .ref 166]) (h' := HN g hl (RF rt)) rfl ?_
        refine Ev.call (a := 163) (as := [.ref 166, .int (nI n)]) (rest := []) (lv0 := [(0, .ref 166), (1, .int (nI n))]) (Q1 := (fun z0 h' => z0 = some (.int (nI (bn (ft g (g 175) (g 166 9) n)))) ∧ h' = HN g hl (RF rt))) rfl rfl (C_fits _ _ _ _ hI n (by omega) ⟨rfl, rfl⟩) (fun r h' hr => ?_)
        obtain ⟨rfl, rfl⟩ := hr
        refine Ev_bn (fun hb40 => ?_) (fun hb40 => ?_)
        · skip
          refine Ev.run 2 (pc' := 44) (lv' := [(1, .int (nI n)), (0, .ref 166)]) (st' := [.int (nI 1)]) (h' := HN g hl (RF rt)) rfl ?_
          refine Ev.ret (v := some (.int (nI 1))) rfl ?_
          rw [show endS g (lwS g 1) (g 175) (g 166 9) = true from dc_t (⟨n, by omega, hc20, by omega, hb40⟩)] at hq
          exact hq
        · skip
          refine Ev.run 2 (pc' := 48) (lv' := [(1, .int (nI n + 1)), (0, .ref 166)]) (st' := []) (h' := HN g hl (RF rt)) rfl ?_
          refine Ev.lvE (congrArg (fun z => (1, Value.int z) :: [(0, .ref 166)]) (nI_1 _)) ?_
          refine Ev.run 1 (pc' := 2) (lv' := [(1, .int (nI (n + 1))), (0, .ref 166)]) (st' := []) (h' := HN g hl (RF rt)) rfl ?_
          exact hnext (by omega) (all_s (p := fun i => ¬ (g 168 i = g 166 9 ∧ lwS g 1 ≤ g 166 9 ∧ ft g (g 175) (g 166 9) i = true)) ha (fun z => by first | exact hc20 z.1 | (have := z.2.1; omega) | exact tf z.2.2 hb40))
    · have hc20 : ¬ ((g 168 n) = (g 166 9)) := fun z => hc20 ((nI_eqU (by omega) (by omega)).mpr z)
      refine Ev.run 1 (pc' := 48) (lv' := [(1, .int (nI n + 1)), (0, .ref 166)]) (st' := []) (h' := HN g hl (RF rt)) rfl ?_
      refine Ev.lvE (congrArg (fun z => (1, Value.int z) :: [(0, .ref 166)]) (nI_1 _)) ?_
      refine Ev.run 1 (pc' := 2) (lv' := [(1, .int (nI (n + 1))), (0, .ref 166)]) (st' := []) (h' := HN g hl (RF rt)) rfl ?_
      exact hnext (by omega) (all_s (p := fun i => ¬ (g 168 i = g 166 9 ∧ lwS g 1 ≤ g 166 9 ∧ ft g (g 175) (g 166 9) i = true)) ha (fun z => by first | exact hc20 z.1 | (have := z.2.1; omega) | exact tf z.2.2 hb40))
noncomputable def goG (g : Nat → Nat → Nat) (r : Nat → Nat) (n s : Nat) : Nat := gset (fun i => s.testBit i && (!decide (g 168 i ≤ n) && ft g r n i)) (fun i => g 167 (6 * i + n)) (g 166 0)
theorem goG_lt {g : Nat → Nat → Nat} (h : MI g) (r : Nat → Nat) (n s : Nat) : goG g r n s < 16 := gset_lt _ _ (m := 4) (fun i hi hp => by
  rw [Bool.and_eq_true, Bool.and_eq_true, Bool.not_eq_true', decide_eq_false_iff_not] at hp
  have := h.hW
  have := h.hsz i (by omega)
  have := h.hgl (6 * i + n) (by omega)
  omega)
theorem goG_0 {g : Nat → Nat → Nat} (h : MI g) (r : Nat → Nat) {n : Nat} (s : Nat) (hn : 6 ≤ n) : goG g r n s = 0 := by
  have e : ∀ m, m ≤ g 166 0 → gset (fun i => s.testBit i && (!decide (g 168 i ≤ n) && ft g r n i)) (fun i => g 167 (6 * i + n)) m = 0 := by
    intro m
    induction m with
    | zero => intro _; rfl
    | succ m ih =>
      intro hm
      have := h.hW
      have h1 := h.hsz m (by omega)
      rw [gset_s0 (by simp only [decide_eq_true (show g 168 m ≤ n by omega), Bool.not_true, Bool.false_and, Bool.and_false]), ih (by omega)]
      rfl
  exact e _ (Nat.le_refl _)
theorem C_going {L : Nat} {xs : Nat → Int32} (d : Nat) (g : Nat → Nat → Nat) (hl : Nat → Nat → Int64) (rt : Nat × Nat × Nat × Nat) (hI : MI g) (s : Nat) (hs : s < 2 ^ 31) {Q : Po} (hq : Q (some (.int (nI (goG g (g 175) (g 166 9) s)))) (HN g hl (RF rt))) : Ev L xs (d + 1) 168 0 [(0, .ref 166), (1, .int (nI s))] [] (HN g hl (RF rt)) Q := by
  have hW := hI.hW
  have hS := hI.hS
  have hPl := hI.hPl
  have hNx := hI.hNx
  have hLa := hI.hLa
  have hLo := hI.hLo
  have hTb := hI.hTb
  have hTh := hI.hTh
  have hFd := hI.hFd
  have hSn := hI.hSn
  have hSh := hI.hSh
  have hRan := hI.hRan
  have hLr := hI.hLr
  have hLt := hI.hLt
  have hgl := hI.hgl
  have hsz := hI.hsz
  have hcm := hI.hcm
  have hsl := hI.hsl
  have hkd := hI.hkd
  have hvv := hI.hvv
  have hli := hI.hli
  have hro := hI.hro
  have hrw := hI.hrw
  have htx := hI.htx
  have hsw := hI.hsw
  have hsx := hI.hsx
  have hsy := hI.hsy
  have hsh := hI.hsh
  have hle := hI.hle
  have hcl := hI.hcl
  have hwd := hI.hwd
  have hnu := hI.hnu
  have hwn := hI.hwn
  have hs1 := hI.hs1
  have hso := hI.hso
  refine Ev.run 4 (pc' := (if nI (g 166 9) = nI 12 then 9 else 11)) (lv' := [(0, .ref 166), (1, .int (nI s))]) (st' := []) (h' := HN g hl (RF rt)) rfl ?_
  refine Ev.ite (fun hc6 => ?_) (fun hc6 => ?_)
  · have hc6 : (g 166 9) = 12 := (nI_eqU (by omega) (by omega)).mp hc6
    refine Ev.run 1 (pc' := 10) (lv' := [(0, .ref 166), (1, .int (nI s))]) (st' := [.int (nI 0)]) (h' := HN g hl (RF rt)) rfl ?_
    refine Ev.ret (v := some (.int (nI 0))) rfl ?_
    first
      | (rw [hc6, goG_0 hI (g 175) s (by decide)] at hq; exact hq)
      | (obtain rfl : n = g 166 0 := by omega
         exact hq)
  · have hc6 : ¬ ((g 166 9) = 12) := fun z => hc6 ((nI_eqU (by omega) (by omega)).mpr z)
    refine Ev.run 4 (pc' := 15) (lv' := [(3, .int (nI 0)), (2, .int (nI 0)), (0, .ref 166), (1, .int (nI s))]) (st' := []) (h' := HN g hl (RF rt)) rfl ?_
    refine for_ind (g 166 0) (fun n => Ev L xs (d + 1) 168 15 [(3, .int (nI n)), (2, .int (nI (gset (fun i => s.testBit i && (!decide (g 168 i ≤ g 166 9) && ft g (g 175) (g 166 9) i)) (fun i => g 167 (6 * i + g 166 9)) n))), (0, .ref 166), (1, .int (nI s))] [] (HN g hl (RF rt)) Q) (fun n hn hnext => ?_) 0 (Nat.zero_le _)
    refine Ev.run 4 (pc' := (if nI (g 166 0) ≤ nI n then 82 else 23)) (lv' := [(3, .int (nI n)), (2, .int (nI (gset (fun i => s.testBit i && (!decide (g 168 i ≤ g 166 9) && ft g (g 175) (g 166 9) i)) (fun i => g 167 (6 * i + g 166 9)) n))), (0, .ref 166), (1, .int (nI s))]) (st' := []) (h' := HN g hl (RF rt)) rfl ?_
    refine Ev.ite (fun hc20 => ?_) (fun hc20 => ?_)
    · have hc20 : (g 166 0) ≤ n := (nI_leI (by omega) (by omega)).mp hc20
      refine Ev.run 1 (pc' := 83) (lv' := [(3, .int (nI n)), (2, .int (nI (gset (fun i => s.testBit i && (!decide (g 168 i ≤ g 166 9) && ft g (g 175) (g 166 9) i)) (fun i => g 167 (6 * i + g 166 9)) n))), (0, .ref 166), (1, .int (nI s))]) (st' := [.int (nI (gset (fun i => s.testBit i && (!decide (g 168 i ≤ g 166 9) && ft g (g 175) (g 166 9) i)) (fun i => g 167 (6 * i + g 166 9)) n))]) (h' := HN g hl (RF rt)) rfl ?_
      refine Ev.ret (v := some (.int (nI (gset (fun i => s.testBit i && (!decide (g 168 i ≤ g 166 9) && ft g (g 175) (g 166 9) i)) (fun i => g 167 (6 * i + g 166 9)) n)))) rfl ?_
      first
        | (rw [hc6, goG_0 hI (g 175) s (by decide)] at hq; exact hq)
        | (obtain rfl : n = g 166 0 := by omega
           exact hq)
    · have hc20 : ¬ ((g 166 0) ≤ n) := fun z => hc20 ((nI_leI (by omega) (by omega)).mpr z)
      refine Ev.run 4 (pc' := 27) (lv' := [(3, .int (nI n)), (2, .int (nI (gset (fun i => s.testBit i && (!decide (g 168 i ≤ g 166 9) && ft g (g 175) (g 166 9) i)) (fun i => g 167 (6 * i + g 166 9)) n))), (0, .ref 166), (1, .int (nI s))]) (st' := [.int (nI n), .int (nI s), .ref 166, .int (nI (gset (fun i => s.testBit i && (!decide (g 168 i ≤ g 166 9) && ft g (g 175) (g 166 9) i)) (fun i => g 167 (6 * i + g 166 9)) n))]) (h' := HN g hl (RF rt)) rfl ?_
      refine Ev.call (a := 127) (as := [.ref 166, .int (nI s), .int (nI n)]) (rest := [.int (nI (gset (fun i => s.testBit i && (!decide (g 168 i ≤ g 166 9) && ft g (g 175) (g 166 9) i)) (fun i => g 167 (6 * i + g 166 9)) n))]) (lv0 := [(0, .ref 166), (1, .int (nI s)), (2, .int (nI n))]) (Q1 := (fun z0 h' => z0 = some (.int (nI (bn (Nat.testBit s n)))) ∧ h' = HN g hl (RF rt))) rfl rfl (C_isIn _ _ _ _ s n (by omega) (by omega) ⟨rfl, rfl⟩) (fun r h' hr => ?_)
      obtain ⟨rfl, rfl⟩ := hr
      refine Ev_bn (fun hb30 => ?_) (fun hb30 => ?_)
      · skip
        refine Ev.run 4 (pc' := 38) (lv' := [(3, .int (nI n)), (2, .int (nI (gset (fun i => s.testBit i && (!decide (g 168 i ≤ g 166 9) && ft g (g 175) (g 166 9) i)) (fun i => g 167 (6 * i + g 166 9)) n))), (0, .ref 166), (1, .int (nI s))]) (st' := [.int (nI n), .ref 168, .int (nI (gset (fun i => s.testBit i && (!decide (g 168 i ≤ g 166 9) && ft g (g 175) (g 166 9) i)) (fun i => g 167 (6 * i + g 166 9)) n))]) (h' := HN g hl (RF rt)) rfl ?_
        refine Ev_iald rfl rfl (show n < 12 by omega) (Nat.le_of_ble_eq_true rfl) ?_
        have hr0 := hsz n (by omega)
        refine Ev.run 3 (pc' := (if nI (g 168 n) ≤ nI (g 166 9) then 73 else 46)) (lv' := [(3, .int (nI n)), (2, .int (nI (gset (fun i => s.testBit i && (!decide (g 168 i ≤ g 166 9) && ft g (g 175) (g 166 9) i)) (fun i => g 167 (6 * i + g 166 9)) n))), (0, .ref 166), (1, .int (nI s))]) (st' := [.int (nI (gset (fun i => s.testBit i && (!decide (g 168 i ≤ g 166 9) && ft g (g 175) (g 166 9) i)) (fun i => g 167 (6 * i + g 166 9)) n))]) (h' := HN g hl (RF rt)) rfl ?_
        refine Ev.ite (fun hc43 => ?_) (fun hc43 => ?_)
        · have hc43 : (g 168 n) ≤ (g 166 9) := (nI_leI (by omega) (by omega)).mp hc43
          refine Ev.run 2 (pc' := 75) (lv' := [(3, .int (nI n)), (2, .int (nI (gset (fun i => s.testBit i && (!decide (g 168 i ≤ g 166 9) && ft g (g 175) (g 166 9) i)) (fun i => g 167 (6 * i + g 166 9)) n))), (0, .ref 166), (1, .int (nI s))]) (st' := [.int (nI (gset (fun i => s.testBit i && (!decide (g 168 i ≤ g 166 9) && ft g (g 175) (g 166 9) i)) (fun i => g 167 (6 * i + g 166 9)) n) ||| nI 0)]) (h' := HN g hl (RF rt)) rfl ?_
          refine Ev.topI (nIo _ _) ?_
          refine Ev.run 2 (pc' := 79) (lv' := [(3, .int (nI n + 1)), (2, .int (nI ((gset (fun i => s.testBit i && (!decide (g 168 i ≤ g 166 9) && ft g (g 175) (g 166 9) i)) (fun i => g 167 (6 * i + g 166 9)) n) ||| 0))), (0, .ref 166), (1, .int (nI s))]) (st' := []) (h' := HN g hl (RF rt)) rfl ?_
          refine Ev.lvE (congrArg (fun z => (3, Value.int z) :: [(2, .int (nI ((gset (fun i => s.testBit i && (!decide (g 168 i ≤ g 166 9) && ft g (g 175) (g 166 9) i)) (fun i => g 167 (6 * i + g 166 9)) n) ||| 0))), (0, .ref 166), (1, .int (nI s))]) (nI_1 _)) ?_
          refine Ev.run 1 (pc' := 15) (lv' := [(3, .int (nI (n + 1))), (2, .int (nI ((gset (fun i => s.testBit i && (!decide (g 168 i ≤ g 166 9) && ft g (g 175) (g 166 9) i)) (fun i => g 167 (6 * i + g 166 9)) n) ||| 0))), (0, .ref 166), (1, .int (nI s))]) (st' := []) (h' := HN g hl (RF rt)) rfl ?_
          have hx := hnext (by omega)
          rw [gset_s0 (p := fun i => s.testBit i && (!decide (g 168 i ≤ g 166 9) && ft g (g 175) (g 166 9) i)) (f := fun i => g 167 (6 * i + g 166 9)) (by simp only [hc6, hc20, hb30, hc43, Bool.and_true, Bool.and_false, Bool.true_and, Bool.false_and, decide_true, decide_false, Bool.not_true, Bool.not_false])] at hx
          exact hx
        · have hc43 : ¬ ((g 168 n) ≤ (g 166 9)) := fun z => hc43 ((nI_leI (by omega) (by omega)).mpr z)
          refine Ev.run 2 (pc' := 48) (lv' := [(3, .int (nI n)), (2, .int (nI (gset (fun i => s.testBit i && (!decide (g 168 i ≤ g 166 9) && ft g (g 175) (g 166 9) i)) (fun i => g 167 (6 * i + g 166 9)) n))), (0, .ref 166), (1, .int (nI s))]) (st' := [.int (nI n), .ref 166, .int (nI (gset (fun i => s.testBit i && (!decide (g 168 i ≤ g 166 9) && ft g (g 175) (g 166 9) i)) (fun i => g 167 (6 * i + g 166 9)) n))]) (h' := HN g hl (RF rt)) rfl ?_
          refine Ev.call (a := 163) (as := [.ref 166, .int (nI n)]) (rest := [.int (nI (gset (fun i => s.testBit i && (!decide (g 168 i ≤ g 166 9) && ft g (g 175) (g 166 9) i)) (fun i => g 167 (6 * i + g 166 9)) n))]) (lv0 := [(0, .ref 166), (1, .int (nI n))]) (Q1 := (fun z0 h' => z0 = some (.int (nI (bn (ft g (g 175) (g 166 9) n)))) ∧ h' = HN g hl (RF rt))) rfl rfl (C_fits _ _ _ _ hI n (by omega) ⟨rfl, rfl⟩) (fun r h' hr => ?_)
          obtain ⟨rfl, rfl⟩ := hr
          refine Ev_bn (fun hb51 => ?_) (fun hb51 => ?_)
          · skip
            refine Ev.run 7 (pc' := 63) (lv' := [(3, .int (nI n)), (2, .int (nI (gset (fun i => s.testBit i && (!decide (g 168 i ≤ g 166 9) && ft g (g 175) (g 166 9) i)) (fun i => g 167 (6 * i + g 166 9)) n))), (0, .ref 166), (1, .int (nI s))]) (st' := [.int (nI 6 * nI n), .ref 167, .int (nI 1), .int (nI (gset (fun i => s.testBit i && (!decide (g 168 i ≤ g 166 9) && ft g (g 175) (g 166 9) i)) (fun i => g 167 (6 * i + g 166 9)) n))]) (h' := HN g hl (RF rt)) rfl ?_
            refine Ev.topI (pk_mul _ _) ?_
            refine Ev.run 3 (pc' := 68) (lv' := [(3, .int (nI n)), (2, .int (nI (gset (fun i => s.testBit i && (!decide (g 168 i ≤ g 166 9) && ft g (g 175) (g 166 9) i)) (fun i => g 167 (6 * i + g 166 9)) n))), (0, .ref 166), (1, .int (nI s))]) (st' := [.int (nI (6 * n) + nI (g 166 9)), .ref 167, .int (nI 1), .int (nI (gset (fun i => s.testBit i && (!decide (g 168 i ≤ g 166 9) && ft g (g 175) (g 166 9) i)) (fun i => g 167 (6 * i + g 166 9)) n))]) (h' := HN g hl (RF rt)) rfl ?_
            refine Ev.topI (nI_add _ _) ?_
            refine Ev_iald rfl rfl (show (6 * n) + (g 166 9) < 72 by omega) (Nat.le_of_ble_eq_true rfl) ?_
            have hr1 := hgl ((6 * n) + (g 166 9)) (by omega)
            refine Ev.run 1 (pc' := 70) (lv' := [(3, .int (nI n)), (2, .int (nI (gset (fun i => s.testBit i && (!decide (g 168 i ≤ g 166 9) && ft g (g 175) (g 166 9) i)) (fun i => g 167 (6 * i + g 166 9)) n))), (0, .ref 166), (1, .int (nI s))]) (st' := [.int (nI 1 <<< (nI (g 167 ((6 * n) + (g 166 9))) &&& 31)), .int (nI (gset (fun i => s.testBit i && (!decide (g 168 i ≤ g 166 9) && ft g (g 175) (g 166 9) i)) (fun i => g 167 (6 * i + g 166 9)) n))]) (h' := HN g hl (RF rt)) rfl ?_
            refine Ev.topI (nI_shl (by omega)) ?_
            refine Ev.run 2 (pc' := 75) (lv' := [(3, .int (nI n)), (2, .int (nI (gset (fun i => s.testBit i && (!decide (g 168 i ≤ g 166 9) && ft g (g 175) (g 166 9) i)) (fun i => g 167 (6 * i + g 166 9)) n))), (0, .ref 166), (1, .int (nI s))]) (st' := [.int (nI (gset (fun i => s.testBit i && (!decide (g 168 i ≤ g 166 9) && ft g (g 175) (g 166 9) i)) (fun i => g 167 (6 * i + g 166 9)) n) ||| nI (nSh 1 (g 167 ((6 * n) + (g 166 9)))))]) (h' := HN g hl (RF rt)) rfl ?_
            refine Ev.topI (nIo _ _) ?_
            refine Ev.run 2 (pc' := 79) (lv' := [(3, .int (nI n + 1)), (2, .int (nI ((gset (fun i => s.testBit i && (!decide (g 168 i ≤ g 166 9) && ft g (g 175) (g 166 9) i)) (fun i => g 167 (6 * i + g 166 9)) n) ||| (nSh 1 (g 167 ((6 * n) + (g 166 9))))))), (0, .ref 166), (1, .int (nI s))]) (st' := []) (h' := HN g hl (RF rt)) rfl ?_
            refine Ev.lvE (congrArg (fun z => (3, Value.int z) :: [(2, .int (nI ((gset (fun i => s.testBit i && (!decide (g 168 i ≤ g 166 9) && ft g (g 175) (g 166 9) i)) (fun i => g 167 (6 * i + g 166 9)) n) ||| (nSh 1 (g 167 ((6 * n) + (g 166 9))))))), (0, .ref 166), (1, .int (nI s))]) (nI_1 _)) ?_
            refine Ev.run 1 (pc' := 15) (lv' := [(3, .int (nI (n + 1))), (2, .int (nI ((gset (fun i => s.testBit i && (!decide (g 168 i ≤ g 166 9) && ft g (g 175) (g 166 9) i)) (fun i => g 167 (6 * i + g 166 9)) n) ||| (nSh 1 (g 167 ((6 * n) + (g 166 9))))))), (0, .ref 166), (1, .int (nI s))]) (st' := []) (h' := HN g hl (RF rt)) rfl ?_
            have hx := hnext (by omega)
            rw [gset_s1 (p := fun i => s.testBit i && (!decide (g 168 i ≤ g 166 9) && ft g (g 175) (g 166 9) i)) (f := fun i => g 167 (6 * i + g 166 9)) (by simp only [hc6, hc20, hb30, hc43, hb51, Bool.and_true, Bool.and_false, Bool.true_and, Bool.false_and, decide_true, decide_false, Bool.not_true, Bool.not_false])] at hx
            exact hx
          · skip
            refine Ev.run 3 (pc' := 75) (lv' := [(3, .int (nI n)), (2, .int (nI (gset (fun i => s.testBit i && (!decide (g 168 i ≤ g 166 9) && ft g (g 175) (g 166 9) i)) (fun i => g 167 (6 * i + g 166 9)) n))), (0, .ref 166), (1, .int (nI s))]) (st' := [.int (nI (gset (fun i => s.testBit i && (!decide (g 168 i ≤ g 166 9) && ft g (g 175) (g 166 9) i)) (fun i => g 167 (6 * i + g 166 9)) n) ||| nI 0)]) (h' := HN g hl (RF rt)) rfl ?_
            refine Ev.topI (nIo _ _) ?_
            refine Ev.run 2 (pc' := 79) (lv' := [(3, .int (nI n + 1)), (2, .int (nI ((gset (fun i => s.testBit i && (!decide (g 168 i ≤ g 166 9) && ft g (g 175) (g 166 9) i)) (fun i => g 167 (6 * i + g 166 9)) n) ||| 0))), (0, .ref 166), (1, .int (nI s))]) (st' := []) (h' := HN g hl (RF rt)) rfl ?_
            refine Ev.lvE (congrArg (fun z => (3, Value.int z) :: [(2, .int (nI ((gset (fun i => s.testBit i && (!decide (g 168 i ≤ g 166 9) && ft g (g 175) (g 166 9) i)) (fun i => g 167 (6 * i + g 166 9)) n) ||| 0))), (0, .ref 166), (1, .int (nI s))]) (nI_1 _)) ?_
            refine Ev.run 1 (pc' := 15) (lv' := [(3, .int (nI (n + 1))), (2, .int (nI ((gset (fun i => s.testBit i && (!decide (g 168 i ≤ g 166 9) && ft g (g 175) (g 166 9) i)) (fun i => g 167 (6 * i + g 166 9)) n) ||| 0))), (0, .ref 166), (1, .int (nI s))]) (st' := []) (h' := HN g hl (RF rt)) rfl ?_
            have hx := hnext (by omega)
            rw [gset_s0 (p := fun i => s.testBit i && (!decide (g 168 i ≤ g 166 9) && ft g (g 175) (g 166 9) i)) (f := fun i => g 167 (6 * i + g 166 9)) (by simp only [hc6, hc20, hb30, hc43, hb51, Bool.and_true, Bool.and_false, Bool.true_and, Bool.false_and, decide_true, decide_false, Bool.not_true, Bool.not_false])] at hx
            exact hx
      · skip
        refine Ev.run 3 (pc' := 75) (lv' := [(3, .int (nI n)), (2, .int (nI (gset (fun i => s.testBit i && (!decide (g 168 i ≤ g 166 9) && ft g (g 175) (g 166 9) i)) (fun i => g 167 (6 * i + g 166 9)) n))), (0, .ref 166), (1, .int (nI s))]) (st' := [.int (nI (gset (fun i => s.testBit i && (!decide (g 168 i ≤ g 166 9) && ft g (g 175) (g 166 9) i)) (fun i => g 167 (6 * i + g 166 9)) n) ||| nI 0)]) (h' := HN g hl (RF rt)) rfl ?_
        refine Ev.topI (nIo _ _) ?_
        refine Ev.run 2 (pc' := 79) (lv' := [(3, .int (nI n + 1)), (2, .int (nI ((gset (fun i => s.testBit i && (!decide (g 168 i ≤ g 166 9) && ft g (g 175) (g 166 9) i)) (fun i => g 167 (6 * i + g 166 9)) n) ||| 0))), (0, .ref 166), (1, .int (nI s))]) (st' := []) (h' := HN g hl (RF rt)) rfl ?_
        refine Ev.lvE (congrArg (fun z => (3, Value.int z) :: [(2, .int (nI ((gset (fun i => s.testBit i && (!decide (g 168 i ≤ g 166 9) && ft g (g 175) (g 166 9) i)) (fun i => g 167 (6 * i + g 166 9)) n) ||| 0))), (0, .ref 166), (1, .int (nI s))]) (nI_1 _)) ?_
        refine Ev.run 1 (pc' := 15) (lv' := [(3, .int (nI (n + 1))), (2, .int (nI ((gset (fun i => s.testBit i && (!decide (g 168 i ≤ g 166 9) && ft g (g 175) (g 166 9) i)) (fun i => g 167 (6 * i + g 166 9)) n) ||| 0))), (0, .ref 166), (1, .int (nI s))]) (st' := []) (h' := HN g hl (RF rt)) rfl ?_
        have hx := hnext (by omega)
        rw [gset_s0 (p := fun i => s.testBit i && (!decide (g 168 i ≤ g 166 9) && ft g (g 175) (g 166 9) i)) (f := fun i => g 167 (6 * i + g 166 9)) (by simp only [hc6, hc20, hb30, Bool.and_true, Bool.and_false, Bool.true_and, Bool.false_and, decide_true, decide_false, Bool.not_true, Bool.not_false])] at hx
        exact hx
noncomputable def al (g : Nat → Nat → Nat) (i o n : Nat) : Bool := dc (n ≤ g 168 i ∧ n ≤ g 168 o ∧ ∀ k, k < n → g 167 (6 * i + k) = g 167 (6 * o + k))
theorem C_areAlike {L : Nat} {xs : Nat → Int32} (d : Nat) (g : Nat → Nat → Nat) (hl : Nat → Nat → Int64) (rt : Nat × Nat × Nat × Nat) (hI : MI g) (i o n : Nat) (hi : i < 12) (ho : o < 12) (hn : n < 2 ^ 31) {Q : Po} (hq : Q (some (.int (nI (bn (al g i o n))))) (HN g hl (RF rt))) : Ev L xs d 170 0 [(0, .ref 166), (1, .int (nI i)), (2, .int (nI o)), (3, .int (nI n))] [] (HN g hl (RF rt)) Q := by
  have hW := hI.hW
  have hS := hI.hS
  have hPl := hI.hPl
  have hNx := hI.hNx
  have hLa := hI.hLa
  have hLo := hI.hLo
  have hTb := hI.hTb
  have hTh := hI.hTh
  have hFd := hI.hFd
  have hSn := hI.hSn
  have hSh := hI.hSh
  have hRan := hI.hRan
  have hLr := hI.hLr
  have hLt := hI.hLt
  have hgl := hI.hgl
  have hsz := hI.hsz
  have hcm := hI.hcm
  have hsl := hI.hsl
  have hkd := hI.hkd
  have hvv := hI.hvv
  have hli := hI.hli
  have hro := hI.hro
  have hrw := hI.hrw
  have htx := hI.htx
  have hsw := hI.hsw
  have hsx := hI.hsx
  have hsy := hI.hsy
  have hsh := hI.hsh
  have hle := hI.hle
  have hcl := hI.hcl
  have hwd := hI.hwd
  have hnu := hI.hnu
  have hwn := hI.hwn
  have hs1 := hI.hs1
  have hso := hI.hso
  refine Ev.run 3 (pc' := 5) (lv' := [(0, .ref 166), (1, .int (nI i)), (2, .int (nI o)), (3, .int (nI n))]) (st' := [.int (nI i), .ref 168]) (h' := HN g hl (RF rt)) rfl ?_
  refine Ev_iald rfl rfl (show i < 12 by omega) (Nat.le_of_ble_eq_true rfl) ?_
  have hr0 := hsz i (by omega)
  refine Ev.run 2 (pc' := (if nI (g 168 i) < nI n then 20 else 10)) (lv' := [(0, .ref 166), (1, .int (nI i)), (2, .int (nI o)), (3, .int (nI n))]) (st' := []) (h' := HN g hl (RF rt)) rfl ?_
  refine Ev.ite (fun hc7 => ?_) (fun hc7 => ?_)
  · have hc7 : (g 168 i) < n := (nI_ltI (by omega) (by omega)).mp hc7
    refine Ev.run 1 (pc' := 21) (lv' := [(0, .ref 166), (1, .int (nI i)), (2, .int (nI o)), (3, .int (nI n))]) (st' := [.int (nI 0)]) (h' := HN g hl (RF rt)) rfl ?_
    refine Ev.ret (v := some (.int (nI 0))) rfl ?_
    rw [show al g i o n = false from dc_f (fun z => by first | (have := z.1; omega) | (have := z.2.1; omega) | exact hc55 (z.2.2 m (by omega)))] at hq
    exact hq
  · have hc7 : ¬ ((g 168 i) < n) := fun z => hc7 ((nI_ltI (by omega) (by omega)).mpr z)
    refine Ev.run 3 (pc' := 15) (lv' := [(0, .ref 166), (1, .int (nI i)), (2, .int (nI o)), (3, .int (nI n))]) (st' := [.int (nI o), .ref 168]) (h' := HN g hl (RF rt)) rfl ?_
    refine Ev_iald rfl rfl (show o < 12 by omega) (Nat.le_of_ble_eq_true rfl) ?_
    have hr1 := hsz o (by omega)
    refine Ev.run 2 (pc' := (if nI n ≤ nI (g 168 o) then 22 else 20)) (lv' := [(0, .ref 166), (1, .int (nI i)), (2, .int (nI o)), (3, .int (nI n))]) (st' := []) (h' := HN g hl (RF rt)) rfl ?_
    refine Ev.ite (fun hc17 => ?_) (fun hc17 => ?_)
    · have hc17 : n ≤ (g 168 o) := (nI_leI (by omega) (by omega)).mp hc17
      refine Ev.run 2 (pc' := 25) (lv' := [(4, .int (nI 0)), (0, .ref 166), (1, .int (nI i)), (2, .int (nI o)), (3, .int (nI n))]) (st' := []) (h' := HN g hl (RF rt)) rfl ?_
      refine for_ind n (fun m => (∀ k, k < m → g 167 (6 * i + k) = g 167 (6 * o + k)) → Ev L xs d 170 25 [(4, .int (nI m)), (0, .ref 166), (1, .int (nI i)), (2, .int (nI o)), (3, .int (nI n))] [] (HN g hl (RF rt)) Q) (fun m hm hnext ha => ?_) 0 (Nat.zero_le _) (fun k hk => absurd hk (Nat.not_lt_zero _))
      refine Ev.run 3 (pc' := (if nI n ≤ nI m then 66 else 31)) (lv' := [(4, .int (nI m)), (0, .ref 166), (1, .int (nI i)), (2, .int (nI o)), (3, .int (nI n))]) (st' := []) (h' := HN g hl (RF rt)) rfl ?_
      refine Ev.ite (fun hc28 => ?_) (fun hc28 => ?_)
      · have hc28 : n ≤ m := (nI_leI (by omega) (by omega)).mp hc28
        refine Ev.run 1 (pc' := 67) (lv' := [(4, .int (nI m)), (0, .ref 166), (1, .int (nI i)), (2, .int (nI o)), (3, .int (nI n))]) (st' := [.int (nI 1)]) (h' := HN g hl (RF rt)) rfl ?_
        refine Ev.ret (v := some (.int (nI 1))) rfl ?_
        rw [show al g i o n = true from dc_t (⟨by omega, by omega, fun k hk => ha k (by omega)⟩)] at hq
        exact hq
      · have hc28 : ¬ (n ≤ m) := fun z => hc28 ((nI_leI (by omega) (by omega)).mpr z)
        refine Ev.run 5 (pc' := 39) (lv' := [(4, .int (nI m)), (0, .ref 166), (1, .int (nI i)), (2, .int (nI o)), (3, .int (nI n))]) (st' := [.int (nI 6 * nI i), .ref 167]) (h' := HN g hl (RF rt)) rfl ?_
        refine Ev.topI (pk_mul _ _) ?_
        refine Ev.run 2 (pc' := 42) (lv' := [(4, .int (nI m)), (0, .ref 166), (1, .int (nI i)), (2, .int (nI o)), (3, .int (nI n))]) (st' := [.int (nI (6 * i) + nI m), .ref 167]) (h' := HN g hl (RF rt)) rfl ?_
        refine Ev.topI (nI_add _ _) ?_
        refine Ev_iald rfl rfl (show (6 * i) + m < 72 by omega) (Nat.le_of_ble_eq_true rfl) ?_
        have hr2 := hgl ((6 * i) + m) (by omega)
        refine Ev.run 5 (pc' := 51) (lv' := [(4, .int (nI m)), (0, .ref 166), (1, .int (nI i)), (2, .int (nI o)), (3, .int (nI n))]) (st' := [.int (nI 6 * nI o), .ref 167, .int (nI (g 167 ((6 * i) + m)))]) (h' := HN g hl (RF rt)) rfl ?_
        refine Ev.topI (pk_mul _ _) ?_
        refine Ev.run 2 (pc' := 54) (lv' := [(4, .int (nI m)), (0, .ref 166), (1, .int (nI i)), (2, .int (nI o)), (3, .int (nI n))]) (st' := [.int (nI (6 * o) + nI m), .ref 167, .int (nI (g 167 ((6 * i) + m)))]) (h' := HN g hl (RF rt)) rfl ?_
        refine Ev.topI (nI_add _ _) ?_
        refine Ev_iald rfl rfl (show (6 * o) + m < 72 by omega) (Nat.le_of_ble_eq_true rfl) ?_
        have hr3 := hgl ((6 * o) + m) (by omega)
        refine Ev.run 1 (pc' := (if nI (g 167 ((6 * i) + m)) = nI (g 167 ((6 * o) + m)) then 60 else 58)) (lv' := [(4, .int (nI m)), (0, .ref 166), (1, .int (nI i)), (2, .int (nI o)), (3, .int (nI n))]) (st' := []) (h' := HN g hl (RF rt)) rfl ?_
        refine Ev.ite (fun hc55 => ?_) (fun hc55 => ?_)
        · have hc55 : (g 167 ((6 * i) + m)) = (g 167 ((6 * o) + m)) := (nI_eqU (by omega) (by omega)).mp hc55
          refine Ev.run 1 (pc' := 63) (lv' := [(4, .int (nI m + 1)), (0, .ref 166), (1, .int (nI i)), (2, .int (nI o)), (3, .int (nI n))]) (st' := []) (h' := HN g hl (RF rt)) rfl ?_
          refine Ev.lvE (congrArg (fun z => (4, Value.int z) :: [(0, .ref 166), (1, .int (nI i)), (2, .int (nI o)), (3, .int (nI n))]) (nI_1 _)) ?_
          refine Ev.run 1 (pc' := 25) (lv' := [(4, .int (nI (m + 1))), (0, .ref 166), (1, .int (nI i)), (2, .int (nI o)), (3, .int (nI n))]) (st' := []) (h' := HN g hl (RF rt)) rfl ?_
          exact hnext (by omega) (all_s (p := fun k => g 167 (6 * i + k) = g 167 (6 * o + k)) ha hc55)
        · have hc55 : ¬ ((g 167 ((6 * i) + m)) = (g 167 ((6 * o) + m))) := fun z => hc55 ((nI_eqU (by omega) (by omega)).mpr z)
          refine Ev.run 1 (pc' := 59) (lv' := [(4, .int (nI m)), (0, .ref 166), (1, .int (nI i)), (2, .int (nI o)), (3, .int (nI n))]) (st' := [.int (nI 0)]) (h' := HN g hl (RF rt)) rfl ?_
          refine Ev.ret (v := some (.int (nI 0))) rfl ?_
          rw [show al g i o n = false from dc_f (fun z => by first | (have := z.1; omega) | (have := z.2.1; omega) | exact hc55 (z.2.2 m (by omega)))] at hq
          exact hq
    · have hc17 : ¬ (n ≤ (g 168 o)) := fun z => hc17 ((nI_leI (by omega) (by omega)).mpr z)
      refine Ev.run 1 (pc' := 21) (lv' := [(0, .ref 166), (1, .int (nI i)), (2, .int (nI o)), (3, .int (nI n))]) (st' := [.int (nI 0)]) (h' := HN g hl (RF rt)) rfl ?_
      refine Ev.ret (v := some (.int (nI 0))) rfl ?_
      rw [show al g i o n = false from dc_f (fun z => by first | (have := z.1; omega) | (have := z.2.1; omega) | exact hc55 (z.2.2 m (by omega)))] at hq
      exact hq
noncomputable def eW (g : Nat → Nat → Nat) (s i n : Nat) : Bool := dc (lwS g 1 ≤ n ∧ ∃ o, o < g 166 0 ∧ s.testBit o = true ∧ g 168 o = n ∧ al g i o n = true)
theorem C_isEnd {L : Nat} {xs : Nat → Int32} (d : Nat) (g : Nat → Nat → Nat) (hl : Nat → Nat → Int64) (rt : Nat × Nat × Nat × Nat) (hI : MI g) (s i n : Nat) (hs : s < 2 ^ 31) (hi : i < 12) (hn : n < 2 ^ 31) {Q : Po} (hq : Q (some (.int (nI (bn (eW g s i n))))) (HN g hl (RF rt))) : Ev L xs (d + 2) 171 0 [(0, .ref 166), (1, .int (nI s)), (2, .int (nI i)), (3, .int (nI n))] [] (HN g hl (RF rt)) Q := by
  have hW := hI.hW
  have hS := hI.hS
  have hPl := hI.hPl
  have hNx := hI.hNx
  have hLa := hI.hLa
  have hLo := hI.hLo
  have hTb := hI.hTb
  have hTh := hI.hTh
  have hFd := hI.hFd
  have hSn := hI.hSn
  have hSh := hI.hSh
  have hRan := hI.hRan
  have hLr := hI.hLr
  have hLt := hI.hLt
  have hgl := hI.hgl
  have hsz := hI.hsz
  have hcm := hI.hcm
  have hsl := hI.hsl
  have hkd := hI.hkd
  have hvv := hI.hvv
  have hli := hI.hli
  have hro := hI.hro
  have hrw := hI.hrw
  have htx := hI.htx
  have hsw := hI.hsw
  have hsx := hI.hsx
  have hsy := hI.hsy
  have hsh := hI.hsh
  have hle := hI.hle
  have hcl := hI.hcl
  have hwd := hI.hwd
  have hnu := hI.hnu
  have hwn := hI.hwn
  have hs1 := hI.hs1
  have hso := hI.hso
  refine Ev.run 3 (pc' := 3) (lv' := [(0, .ref 166), (1, .int (nI s)), (2, .int (nI i)), (3, .int (nI n))]) (st' := [.int (nI 1), .ref 166, .int (nI n)]) (h' := HN g hl (RF rt)) rfl ?_
  refine Ev.call (a := 158) (as := [.ref 166, .int (nI 1)]) (rest := [.int (nI n)]) (lv0 := [(0, .ref 166), (1, .int (nI 1))]) (Q1 := (fun z0 h' => z0 = some (.int (nI (lwS g 1))) ∧ h' = HN g hl (RF rt))) rfl rfl (C_lastOf _ _ _ _ hI 1 (by omega) ⟨rfl, rfl⟩) (fun r h' hr => ?_)
  obtain ⟨rfl, rfl⟩ := hr
  have hlw := lwS_le hI 1
  refine Ev.run 1 (pc' := (if nI (lwS g 1) ≤ nI n then 11 else 9)) (lv' := [(0, .ref 166), (1, .int (nI s)), (2, .int (nI i)), (3, .int (nI n))]) (st' := []) (h' := HN g hl (RF rt)) rfl ?_
  refine Ev.ite (fun hc6 => ?_) (fun hc6 => ?_)
  · have hc6 : (lwS g 1) ≤ n := (nI_leI (by omega) (by omega)).mp hc6
    refine Ev.run 2 (pc' := 14) (lv' := [(4, .int (nI 0)), (0, .ref 166), (1, .int (nI s)), (2, .int (nI i)), (3, .int (nI n))]) (st' := []) (h' := HN g hl (RF rt)) rfl ?_
    refine for_ind (g 166 0) (fun m => (∀ o, o < m → ¬ (s.testBit o = true ∧ g 168 o = n ∧ al g i o n = true)) → Ev L xs (d + 2) 171 14 [(4, .int (nI m)), (0, .ref 166), (1, .int (nI s)), (2, .int (nI i)), (3, .int (nI n))] [] (HN g hl (RF rt)) Q) (fun m hm hnext ha => ?_) 0 (Nat.zero_le _) (fun k hk => absurd hk (Nat.not_lt_zero _))
    refine Ev.run 4 (pc' := (if nI (g 166 0) ≤ nI m then 63 else 23)) (lv' := [(4, .int (nI m)), (0, .ref 166), (1, .int (nI s)), (2, .int (nI i)), (3, .int (nI n))]) (st' := []) (h' := HN g hl (RF rt)) rfl ?_
    refine Ev.ite (fun hc20 => ?_) (fun hc20 => ?_)
    · have hc20 : (g 166 0) ≤ m := (nI_leI (by omega) (by omega)).mp hc20
      refine Ev.run 1 (pc' := 64) (lv' := [(4, .int (nI m)), (0, .ref 166), (1, .int (nI s)), (2, .int (nI i)), (3, .int (nI n))]) (st' := [.int (nI 0)]) (h' := HN g hl (RF rt)) rfl ?_
      refine Ev.ret (v := some (.int (nI 0))) rfl ?_
      rw [show eW g s i n = false from dc_f (fun ⟨h0, o, h1, h2, h3, h4⟩ => by first | omega | exact ha o (by omega) ⟨h2, h3, h4⟩)] at hq
      exact hq
    · have hc20 : ¬ ((g 166 0) ≤ m) := fun z => hc20 ((nI_leI (by omega) (by omega)).mpr z)
      refine Ev.run 3 (pc' := 27) (lv' := [(4, .int (nI m)), (0, .ref 166), (1, .int (nI s)), (2, .int (nI i)), (3, .int (nI n))]) (st' := [.int (nI m), .int (nI s), .ref 166]) (h' := HN g hl (RF rt)) rfl ?_
      refine Ev.call (a := 127) (as := [.ref 166, .int (nI s), .int (nI m)]) (rest := []) (lv0 := [(0, .ref 166), (1, .int (nI s)), (2, .int (nI m))]) (Q1 := (fun z0 h' => z0 = some (.int (nI (bn (Nat.testBit s m)))) ∧ h' = HN g hl (RF rt))) rfl rfl (C_isIn _ _ _ _ s m (by omega) (by omega) ⟨rfl, rfl⟩) (fun r h' hr => ?_)
      obtain ⟨rfl, rfl⟩ := hr
      refine Ev_bn (fun hb30 => ?_) (fun hb30 => ?_)
      · skip
        refine Ev.run 4 (pc' := 39) (lv' := [(4, .int (nI m)), (0, .ref 166), (1, .int (nI s)), (2, .int (nI i)), (3, .int (nI n))]) (st' := [.int (nI m), .ref 168]) (h' := HN g hl (RF rt)) rfl ?_
        refine Ev_iald rfl rfl (show m < 12 by omega) (Nat.le_of_ble_eq_true rfl) ?_
        have hr0 := hsz m (by omega)
        refine Ev.run 2 (pc' := (if nI (g 168 m) = nI n then 44 else 57)) (lv' := [(4, .int (nI m)), (0, .ref 166), (1, .int (nI s)), (2, .int (nI i)), (3, .int (nI n))]) (st' := []) (h' := HN g hl (RF rt)) rfl ?_
        refine Ev.ite (fun hc41 => ?_) (fun hc41 => ?_)
        · have hc41 : (g 168 m) = n := (nI_eqU (by omega) (by omega)).mp hc41
          refine Ev.run 4 (pc' := 49) (lv' := [(4, .int (nI m)), (0, .ref 166), (1, .int (nI s)), (2, .int (nI i)), (3, .int (nI n))]) (st' := [.int (nI n), .int (nI m), .int (nI i), .ref 166]) (h' := HN g hl (RF rt)) rfl ?_
          refine Ev.call (a := 170) (as := [.ref 166, .int (nI i), .int (nI m), .int (nI n)]) (rest := []) (lv0 := [(0, .ref 166), (1, .int (nI i)), (2, .int (nI m)), (3, .int (nI n))]) (Q1 := (fun z0 h' => z0 = some (.int (nI (bn (al g i m n)))) ∧ h' = HN g hl (RF rt))) rfl rfl (C_areAlike _ _ _ _ hI i m n (by omega) (by omega) (by omega) ⟨rfl, rfl⟩) (fun r h' hr => ?_)
          obtain ⟨rfl, rfl⟩ := hr
          refine Ev_bn (fun hb52 => ?_) (fun hb52 => ?_)
          · skip
            refine Ev.run 2 (pc' := 56) (lv' := [(4, .int (nI m)), (0, .ref 166), (1, .int (nI s)), (2, .int (nI i)), (3, .int (nI n))]) (st' := [.int (nI 1)]) (h' := HN g hl (RF rt)) rfl ?_
            refine Ev.ret (v := some (.int (nI 1))) rfl ?_
            rw [show eW g s i n = true from dc_t (⟨by omega, m, by omega, hb30, hc41, hb52⟩)] at hq
            exact hq
          · skip
            refine Ev.run 2 (pc' := 60) (lv' := [(4, .int (nI m + 1)), (0, .ref 166), (1, .int (nI s)), (2, .int (nI i)), (3, .int (nI n))]) (st' := []) (h' := HN g hl (RF rt)) rfl ?_
            refine Ev.lvE (congrArg (fun z => (4, Value.int z) :: [(0, .ref 166), (1, .int (nI s)), (2, .int (nI i)), (3, .int (nI n))]) (nI_1 _)) ?_
            refine Ev.run 1 (pc' := 14) (lv' := [(4, .int (nI (m + 1))), (0, .ref 166), (1, .int (nI s)), (2, .int (nI i)), (3, .int (nI n))]) (st' := []) (h' := HN g hl (RF rt)) rfl ?_
            exact hnext (by omega) (all_s (p := fun o => ¬ (s.testBit o = true ∧ g 168 o = n ∧ al g i o n = true)) ha (fun z => by first | exact tf z.1 hb30 | exact hc41 z.2.1 | exact tf z.2.2 hb52))
        · have hc41 : ¬ ((g 168 m) = n) := fun z => hc41 ((nI_eqU (by omega) (by omega)).mpr z)
          refine Ev.run 1 (pc' := 60) (lv' := [(4, .int (nI m + 1)), (0, .ref 166), (1, .int (nI s)), (2, .int (nI i)), (3, .int (nI n))]) (st' := []) (h' := HN g hl (RF rt)) rfl ?_
          refine Ev.lvE (congrArg (fun z => (4, Value.int z) :: [(0, .ref 166), (1, .int (nI s)), (2, .int (nI i)), (3, .int (nI n))]) (nI_1 _)) ?_
          refine Ev.run 1 (pc' := 14) (lv' := [(4, .int (nI (m + 1))), (0, .ref 166), (1, .int (nI s)), (2, .int (nI i)), (3, .int (nI n))]) (st' := []) (h' := HN g hl (RF rt)) rfl ?_
          exact hnext (by omega) (all_s (p := fun o => ¬ (s.testBit o = true ∧ g 168 o = n ∧ al g i o n = true)) ha (fun z => by first | exact tf z.1 hb30 | exact hc41 z.2.1 | exact tf z.2.2 hb52))
      · skip
        refine Ev.run 2 (pc' := 60) (lv' := [(4, .int (nI m + 1)), (0, .ref 166), (1, .int (nI s)), (2, .int (nI i)), (3, .int (nI n))]) (st' := []) (h' := HN g hl (RF rt)) rfl ?_
        refine Ev.lvE (congrArg (fun z => (4, Value.int z) :: [(0, .ref 166), (1, .int (nI s)), (2, .int (nI i)), (3, .int (nI n))]) (nI_1 _)) ?_
        refine Ev.run 1 (pc' := 14) (lv' := [(4, .int (nI (m + 1))), (0, .ref 166), (1, .int (nI s)), (2, .int (nI i)), (3, .int (nI n))]) (st' := []) (h' := HN g hl (RF rt)) rfl ?_
        exact hnext (by omega) (all_s (p := fun o => ¬ (s.testBit o = true ∧ g 168 o = n ∧ al g i o n = true)) ha (fun z => by first | exact tf z.1 hb30 | exact hc41 z.2.1 | exact tf z.2.2 hb52))
  · have hc6 : ¬ ((lwS g 1) ≤ n) := fun z => hc6 ((nI_leI (by omega) (by omega)).mpr z)
    refine Ev.run 1 (pc' := 10) (lv' := [(0, .ref 166), (1, .int (nI s)), (2, .int (nI i)), (3, .int (nI n))]) (st' := [.int (nI 0)]) (h' := HN g hl (RF rt)) rfl ?_
    refine Ev.ret (v := some (.int (nI 0))) rfl ?_
    rw [show eW g s i n = false from dc_f (fun ⟨h0, o, h1, h2, h3, h4⟩ => by first | omega | exact ha o (by omega) ⟨h2, h3, h4⟩)] at hq
    exact hq
noncomputable def winF (g : Nat → Nat → Nat) (s : Nat) (wb : Nat → Bool) (i n : Nat) : Nat := gset (fun o => s.testBit o && (!decide (g 168 o ≤ n) && (al g i o n && (!eW g s o (n + 1) && !wb o)))) (fun o => g 167 (6 * o + n)) (g 166 0)
theorem winF_lt {g : Nat → Nat → Nat} (h : MI g) (s : Nat) (wb : Nat → Bool) (i n : Nat) : winF g s wb i n < 16 := gset_lt _ _ (m := 4) (fun o hi hp => by
  rw [Bool.and_eq_true, Bool.and_eq_true, Bool.not_eq_true', decide_eq_false_iff_not] at hp
  have := h.hW
  have := h.hsz o (by omega)
  have := h.hgl (6 * o + n) (by omega)
  omega)
theorem C_winning {L : Nat} {xs : Nat → Int32} (d : Nat) (g : Nat → Nat → Nat) (hl : Nat → Nat → Int64) (rt : Nat × Nat × Nat × Nat) (hI : MI g) (s i n : Nat) (wb : Nat → Bool) (hs : s < 2 ^ 31) (hi : i < 12) (hn : n ≤ 6) (hwb : ∀ o, o < g 166 0 → n < g 168 o → s.testBit o = true → g 186 (7 * o + n + 1) = bn (wb o)) {Q : Po} (hq : Q (some (.int (nI (winF g s wb i n)))) (HN g hl (RF rt))) : Ev L xs (d + 3) 172 0 [(0, .ref 166), (1, .int (nI s)), (2, .int (nI i)), (3, .int (nI n))] [] (HN g hl (RF rt)) Q := by
  have hW := hI.hW
  have hS := hI.hS
  have hPl := hI.hPl
  have hNx := hI.hNx
  have hLa := hI.hLa
  have hLo := hI.hLo
  have hTb := hI.hTb
  have hTh := hI.hTh
  have hFd := hI.hFd
  have hSn := hI.hSn
  have hSh := hI.hSh
  have hRan := hI.hRan
  have hLr := hI.hLr
  have hLt := hI.hLt
  have hgl := hI.hgl
  have hsz := hI.hsz
  have hcm := hI.hcm
  have hsl := hI.hsl
  have hkd := hI.hkd
  have hvv := hI.hvv
  have hli := hI.hli
  have hro := hI.hro
  have hrw := hI.hrw
  have htx := hI.htx
  have hsw := hI.hsw
  have hsx := hI.hsx
  have hsy := hI.hsy
  have hsh := hI.hsh
  have hle := hI.hle
  have hcl := hI.hcl
  have hwd := hI.hwd
  have hnu := hI.hnu
  have hwn := hI.hwn
  have hs1 := hI.hs1
  have hso := hI.hso
  refine Ev.run 4 (pc' := 6) (lv' := [(5, .int (nI 0)), (4, .int (nI 0)), (0, .ref 166), (1, .int (nI s)), (2, .int (nI i)), (3, .int (nI n))]) (st' := []) (h' := HN g hl (RF rt)) rfl ?_
  refine for_ind (g 166 0) (fun m => Ev L xs (d + 3) 172 6 [(5, .int (nI m)), (4, .int (nI (gset (fun o => s.testBit o && (!decide (g 168 o ≤ n) && (al g i o n && (!eW g s o (n + 1) && !wb o)))) (fun o => g 167 (6 * o + n)) m))), (0, .ref 166), (1, .int (nI s)), (2, .int (nI i)), (3, .int (nI n))] [] (HN g hl (RF rt)) Q) (fun m hm hnext => ?_) 0 (Nat.zero_le _)
  refine Ev.run 4 (pc' := (if nI (g 166 0) ≤ nI m then 105 else 15)) (lv' := [(5, .int (nI m)), (4, .int (nI (gset (fun o => s.testBit o && (!decide (g 168 o ≤ n) && (al g i o n && (!eW g s o (n + 1) && !wb o)))) (fun o => g 167 (6 * o + n)) m))), (0, .ref 166), (1, .int (nI s)), (2, .int (nI i)), (3, .int (nI n))]) (st' := []) (h' := HN g hl (RF rt)) rfl ?_
  refine Ev.ite (fun hc12 => ?_) (fun hc12 => ?_)
  · have hc12 : (g 166 0) ≤ m := (nI_leI (by omega) (by omega)).mp hc12
    refine Ev.run 1 (pc' := 107) (lv' := [(5, .int (nI m)), (4, .int (nI (gset (fun o => s.testBit o && (!decide (g 168 o ≤ n) && (al g i o n && (!eW g s o (n + 1) && !wb o)))) (fun o => g 167 (6 * o + n)) m))), (0, .ref 166), (1, .int (nI s)), (2, .int (nI i)), (3, .int (nI n))]) (st' := [.int (nI (gset (fun o => s.testBit o && (!decide (g 168 o ≤ n) && (al g i o n && (!eW g s o (n + 1) && !wb o)))) (fun o => g 167 (6 * o + n)) m))]) (h' := HN g hl (RF rt)) rfl ?_
    refine Ev.ret (v := some (.int (nI (gset (fun o => s.testBit o && (!decide (g 168 o ≤ n) && (al g i o n && (!eW g s o (n + 1) && !wb o)))) (fun o => g 167 (6 * o + n)) m)))) rfl ?_
    obtain rfl : m = g 166 0 := by omega
    exact hq
  · have hc12 : ¬ ((g 166 0) ≤ m) := fun z => hc12 ((nI_leI (by omega) (by omega)).mpr z)
    refine Ev.run 3 (pc' := 19) (lv' := [(5, .int (nI m)), (4, .int (nI (gset (fun o => s.testBit o && (!decide (g 168 o ≤ n) && (al g i o n && (!eW g s o (n + 1) && !wb o)))) (fun o => g 167 (6 * o + n)) m))), (0, .ref 166), (1, .int (nI s)), (2, .int (nI i)), (3, .int (nI n))]) (st' := [.int (nI m), .int (nI s), .ref 166]) (h' := HN g hl (RF rt)) rfl ?_
    refine Ev.call (a := 127) (as := [.ref 166, .int (nI s), .int (nI m)]) (rest := []) (lv0 := [(0, .ref 166), (1, .int (nI s)), (2, .int (nI m))]) (Q1 := (fun z0 h' => z0 = some (.int (nI (bn (Nat.testBit s m)))) ∧ h' = HN g hl (RF rt))) rfl rfl (C_isIn _ _ _ _ s m (by omega) (by omega) ⟨rfl, rfl⟩) (fun r h' hr => ?_)
    obtain ⟨rfl, rfl⟩ := hr
    refine Ev_bn (fun hb22 => ?_) (fun hb22 => ?_)
    · skip
      refine Ev.run 4 (pc' := 31) (lv' := [(5, .int (nI m)), (4, .int (nI (gset (fun o => s.testBit o && (!decide (g 168 o ≤ n) && (al g i o n && (!eW g s o (n + 1) && !wb o)))) (fun o => g 167 (6 * o + n)) m))), (0, .ref 166), (1, .int (nI s)), (2, .int (nI i)), (3, .int (nI n))]) (st' := [.int (nI m), .ref 168]) (h' := HN g hl (RF rt)) rfl ?_
      refine Ev_iald rfl rfl (show m < 12 by omega) (Nat.le_of_ble_eq_true rfl) ?_
      have hr0 := hsz m (by omega)
      refine Ev.run 2 (pc' := (if nI (g 168 m) ≤ nI n then 99 else 36)) (lv' := [(5, .int (nI m)), (4, .int (nI (gset (fun o => s.testBit o && (!decide (g 168 o ≤ n) && (al g i o n && (!eW g s o (n + 1) && !wb o)))) (fun o => g 167 (6 * o + n)) m))), (0, .ref 166), (1, .int (nI s)), (2, .int (nI i)), (3, .int (nI n))]) (st' := []) (h' := HN g hl (RF rt)) rfl ?_
      refine Ev.ite (fun hc33 => ?_) (fun hc33 => ?_)
      · have hc33 : (g 168 m) ≤ n := (nI_leI (by omega) (by omega)).mp hc33
        refine Ev.run 1 (pc' := 102) (lv' := [(5, .int (nI m + 1)), (4, .int (nI (gset (fun o => s.testBit o && (!decide (g 168 o ≤ n) && (al g i o n && (!eW g s o (n + 1) && !wb o)))) (fun o => g 167 (6 * o + n)) m))), (0, .ref 166), (1, .int (nI s)), (2, .int (nI i)), (3, .int (nI n))]) (st' := []) (h' := HN g hl (RF rt)) rfl ?_
        refine Ev.lvE (congrArg (fun z => (5, Value.int z) :: [(4, .int (nI (gset (fun o => s.testBit o && (!decide (g 168 o ≤ n) && (al g i o n && (!eW g s o (n + 1) && !wb o)))) (fun o => g 167 (6 * o + n)) m))), (0, .ref 166), (1, .int (nI s)), (2, .int (nI i)), (3, .int (nI n))]) (nI_1 _)) ?_
        refine Ev.run 1 (pc' := 6) (lv' := [(5, .int (nI (m + 1))), (4, .int (nI (gset (fun o => s.testBit o && (!decide (g 168 o ≤ n) && (al g i o n && (!eW g s o (n + 1) && !wb o)))) (fun o => g 167 (6 * o + n)) m))), (0, .ref 166), (1, .int (nI s)), (2, .int (nI i)), (3, .int (nI n))]) (st' := []) (h' := HN g hl (RF rt)) rfl ?_
        have hx := hnext (by omega)
        rw [gset_se (p := fun o => s.testBit o && (!decide (g 168 o ≤ n) && (al g i o n && (!eW g s o (n + 1) && !wb o)))) (f := fun o => g 167 (6 * o + n)) (by simp only [hc12, hb22, hc33, Bool.and_true, Bool.and_false, Bool.true_and, Bool.false_and, decide_true, decide_false, Bool.not_true, Bool.not_false])] at hx
        exact hx
      · have hc33 : ¬ ((g 168 m) ≤ n) := fun z => hc33 ((nI_leI (by omega) (by omega)).mpr z)
        refine Ev.run 4 (pc' := 41) (lv' := [(5, .int (nI m)), (4, .int (nI (gset (fun o => s.testBit o && (!decide (g 168 o ≤ n) && (al g i o n && (!eW g s o (n + 1) && !wb o)))) (fun o => g 167 (6 * o + n)) m))), (0, .ref 166), (1, .int (nI s)), (2, .int (nI i)), (3, .int (nI n))]) (st' := [.int (nI n), .int (nI m), .int (nI i), .ref 166]) (h' := HN g hl (RF rt)) rfl ?_
        refine Ev.call (a := 170) (as := [.ref 166, .int (nI i), .int (nI m), .int (nI n)]) (rest := []) (lv0 := [(0, .ref 166), (1, .int (nI i)), (2, .int (nI m)), (3, .int (nI n))]) (Q1 := (fun z0 h' => z0 = some (.int (nI (bn (al g i m n)))) ∧ h' = HN g hl (RF rt))) rfl rfl (C_areAlike _ _ _ _ hI i m n (by omega) (by omega) (by omega) ⟨rfl, rfl⟩) (fun r h' hr => ?_)
        obtain ⟨rfl, rfl⟩ := hr
        refine Ev_bn (fun hb44 => ?_) (fun hb44 => ?_)
        · skip
          refine Ev.run 7 (pc' := 54) (lv' := [(5, .int (nI m)), (4, .int (nI (gset (fun o => s.testBit o && (!decide (g 168 o ≤ n) && (al g i o n && (!eW g s o (n + 1) && !wb o)))) (fun o => g 167 (6 * o + n)) m))), (0, .ref 166), (1, .int (nI s)), (2, .int (nI i)), (3, .int (nI n))]) (st' := [.int (nI n + nI 1), .int (nI m), .int (nI s), .ref 166]) (h' := HN g hl (RF rt)) rfl ?_
          refine Ev.topI (nI_add _ _) ?_
          refine Ev.call (a := 171) (as := [.ref 166, .int (nI s), .int (nI m), .int (nI (n + 1))]) (rest := []) (lv0 := [(0, .ref 166), (1, .int (nI s)), (2, .int (nI m)), (3, .int (nI (n + 1)))]) (Q1 := (fun z0 h' => z0 = some (.int (nI (bn (eW g s m (n + 1))))) ∧ h' = HN g hl (RF rt))) rfl rfl (C_isEnd _ _ _ _ hI s m (n + 1) (by omega) (by omega) (by omega) ⟨rfl, rfl⟩) (fun r h' hr => ?_)
          obtain ⟨rfl, rfl⟩ := hr
          refine Ev_bn (fun hb57 => ?_) (fun hb57 => ?_)
          · skip
            refine Ev.run 2 (pc' := 102) (lv' := [(5, .int (nI m + 1)), (4, .int (nI (gset (fun o => s.testBit o && (!decide (g 168 o ≤ n) && (al g i o n && (!eW g s o (n + 1) && !wb o)))) (fun o => g 167 (6 * o + n)) m))), (0, .ref 166), (1, .int (nI s)), (2, .int (nI i)), (3, .int (nI n))]) (st' := []) (h' := HN g hl (RF rt)) rfl ?_
            refine Ev.lvE (congrArg (fun z => (5, Value.int z) :: [(4, .int (nI (gset (fun o => s.testBit o && (!decide (g 168 o ≤ n) && (al g i o n && (!eW g s o (n + 1) && !wb o)))) (fun o => g 167 (6 * o + n)) m))), (0, .ref 166), (1, .int (nI s)), (2, .int (nI i)), (3, .int (nI n))]) (nI_1 _)) ?_
            refine Ev.run 1 (pc' := 6) (lv' := [(5, .int (nI (m + 1))), (4, .int (nI (gset (fun o => s.testBit o && (!decide (g 168 o ≤ n) && (al g i o n && (!eW g s o (n + 1) && !wb o)))) (fun o => g 167 (6 * o + n)) m))), (0, .ref 166), (1, .int (nI s)), (2, .int (nI i)), (3, .int (nI n))]) (st' := []) (h' := HN g hl (RF rt)) rfl ?_
            have hx := hnext (by omega)
            rw [gset_se (p := fun o => s.testBit o && (!decide (g 168 o ≤ n) && (al g i o n && (!eW g s o (n + 1) && !wb o)))) (f := fun o => g 167 (6 * o + n)) (by simp only [hc12, hb22, hc33, hb44, hb57, Bool.and_true, Bool.and_false, Bool.true_and, Bool.false_and, decide_true, decide_false, Bool.not_true, Bool.not_false])] at hx
            exact hx
          · skip
            refine Ev.run 6 (pc' := 69) (lv' := [(5, .int (nI m)), (4, .int (nI (gset (fun o => s.testBit o && (!decide (g 168 o ≤ n) && (al g i o n && (!eW g s o (n + 1) && !wb o)))) (fun o => g 167 (6 * o + n)) m))), (0, .ref 166), (1, .int (nI s)), (2, .int (nI i)), (3, .int (nI n))]) (st' := [.int (nI 7 * nI m), .ref 186]) (h' := HN g hl (RF rt)) rfl ?_
            refine Ev.topI (pk_mul _ _) ?_
            refine Ev.run 2 (pc' := 71) (lv' := [(5, .int (nI m)), (4, .int (nI (gset (fun o => s.testBit o && (!decide (g 168 o ≤ n) && (al g i o n && (!eW g s o (n + 1) && !wb o)))) (fun o => g 167 (6 * o + n)) m))), (0, .ref 166), (1, .int (nI s)), (2, .int (nI i)), (3, .int (nI n))]) (st' := [.int (nI (7 * m) + nI n), .ref 186]) (h' := HN g hl (RF rt)) rfl ?_
            refine Ev.topI (nI_add _ _) ?_
            refine Ev.run 2 (pc' := 73) (lv' := [(5, .int (nI m)), (4, .int (nI (gset (fun o => s.testBit o && (!decide (g 168 o ≤ n) && (al g i o n && (!eW g s o (n + 1) && !wb o)))) (fun o => g 167 (6 * o + n)) m))), (0, .ref 166), (1, .int (nI s)), (2, .int (nI i)), (3, .int (nI n))]) (st' := [.int (nI ((7 * m) + n) + nI 1), .ref 186]) (h' := HN g hl (RF rt)) rfl ?_
            refine Ev.topI (nI_add _ _) ?_
            refine Ev_bald rfl rfl (show ((7 * m) + n) + 1 < 84 by omega) (Nat.le_of_ble_eq_true rfl) ?_
            have hr1 := hwn (((7 * m) + n) + 1) (by omega)
            refine Ev.run 1 (pc' := (if nI (g 186 (((7 * m) + n) + 1)) = 0 then 80 else 77)) (lv' := [(5, .int (nI m)), (4, .int (nI (gset (fun o => s.testBit o && (!decide (g 168 o ≤ n) && (al g i o n && (!eW g s o (n + 1) && !wb o)))) (fun o => g 167 (6 * o + n)) m))), (0, .ref 166), (1, .int (nI s)), (2, .int (nI i)), (3, .int (nI n))]) (st' := []) (h' := HN g hl (RF rt)) rfl ?_
            refine Ev.ite (fun hc74 => ?_) (fun hc74 => ?_)
            · have hc74 : (g 186 (((7 * m) + n) + 1)) = 0 := (nI_eqU0 (by omega)).mp hc74
              refine Ev.run 7 (pc' := 92) (lv' := [(5, .int (nI m)), (4, .int (nI (gset (fun o => s.testBit o && (!decide (g 168 o ≤ n) && (al g i o n && (!eW g s o (n + 1) && !wb o)))) (fun o => g 167 (6 * o + n)) m))), (0, .ref 166), (1, .int (nI s)), (2, .int (nI i)), (3, .int (nI n))]) (st' := [.int (nI 6 * nI m), .ref 167, .int (nI 1), .int (nI (gset (fun o => s.testBit o && (!decide (g 168 o ≤ n) && (al g i o n && (!eW g s o (n + 1) && !wb o)))) (fun o => g 167 (6 * o + n)) m))]) (h' := HN g hl (RF rt)) rfl ?_
              refine Ev.topI (pk_mul _ _) ?_
              refine Ev.run 2 (pc' := 94) (lv' := [(5, .int (nI m)), (4, .int (nI (gset (fun o => s.testBit o && (!decide (g 168 o ≤ n) && (al g i o n && (!eW g s o (n + 1) && !wb o)))) (fun o => g 167 (6 * o + n)) m))), (0, .ref 166), (1, .int (nI s)), (2, .int (nI i)), (3, .int (nI n))]) (st' := [.int (nI (6 * m) + nI n), .ref 167, .int (nI 1), .int (nI (gset (fun o => s.testBit o && (!decide (g 168 o ≤ n) && (al g i o n && (!eW g s o (n + 1) && !wb o)))) (fun o => g 167 (6 * o + n)) m))]) (h' := HN g hl (RF rt)) rfl ?_
              refine Ev.topI (nI_add _ _) ?_
              refine Ev_iald rfl rfl (show (6 * m) + n < 72 by omega) (Nat.le_of_ble_eq_true rfl) ?_
              have hr2 := hgl ((6 * m) + n) (by omega)
              refine Ev.run 1 (pc' := 96) (lv' := [(5, .int (nI m)), (4, .int (nI (gset (fun o => s.testBit o && (!decide (g 168 o ≤ n) && (al g i o n && (!eW g s o (n + 1) && !wb o)))) (fun o => g 167 (6 * o + n)) m))), (0, .ref 166), (1, .int (nI s)), (2, .int (nI i)), (3, .int (nI n))]) (st' := [.int (nI 1 <<< (nI (g 167 ((6 * m) + n)) &&& 31)), .int (nI (gset (fun o => s.testBit o && (!decide (g 168 o ≤ n) && (al g i o n && (!eW g s o (n + 1) && !wb o)))) (fun o => g 167 (6 * o + n)) m))]) (h' := HN g hl (RF rt)) rfl ?_
              refine Ev.topI (nI_shl (by omega)) ?_
              refine Ev.run 1 (pc' := 97) (lv' := [(5, .int (nI m)), (4, .int (nI (gset (fun o => s.testBit o && (!decide (g 168 o ≤ n) && (al g i o n && (!eW g s o (n + 1) && !wb o)))) (fun o => g 167 (6 * o + n)) m))), (0, .ref 166), (1, .int (nI s)), (2, .int (nI i)), (3, .int (nI n))]) (st' := [.int (nI (gset (fun o => s.testBit o && (!decide (g 168 o ≤ n) && (al g i o n && (!eW g s o (n + 1) && !wb o)))) (fun o => g 167 (6 * o + n)) m) ||| nI (nSh 1 (g 167 ((6 * m) + n))))]) (h' := HN g hl (RF rt)) rfl ?_
              refine Ev.topI (nIo _ _) ?_
              refine Ev.run 2 (pc' := 102) (lv' := [(5, .int (nI m + 1)), (4, .int (nI ((gset (fun o => s.testBit o && (!decide (g 168 o ≤ n) && (al g i o n && (!eW g s o (n + 1) && !wb o)))) (fun o => g 167 (6 * o + n)) m) ||| (nSh 1 (g 167 ((6 * m) + n)))))), (0, .ref 166), (1, .int (nI s)), (2, .int (nI i)), (3, .int (nI n))]) (st' := []) (h' := HN g hl (RF rt)) rfl ?_
              refine Ev.lvE (congrArg (fun z => (5, Value.int z) :: [(4, .int (nI ((gset (fun o => s.testBit o && (!decide (g 168 o ≤ n) && (al g i o n && (!eW g s o (n + 1) && !wb o)))) (fun o => g 167 (6 * o + n)) m) ||| (nSh 1 (g 167 ((6 * m) + n)))))), (0, .ref 166), (1, .int (nI s)), (2, .int (nI i)), (3, .int (nI n))]) (nI_1 _)) ?_
              refine Ev.run 1 (pc' := 6) (lv' := [(5, .int (nI (m + 1))), (4, .int (nI ((gset (fun o => s.testBit o && (!decide (g 168 o ≤ n) && (al g i o n && (!eW g s o (n + 1) && !wb o)))) (fun o => g 167 (6 * o + n)) m) ||| (nSh 1 (g 167 ((6 * m) + n)))))), (0, .ref 166), (1, .int (nI s)), (2, .int (nI i)), (3, .int (nI n))]) (st' := []) (h' := HN g hl (RF rt)) rfl ?_
              have hwv : wb m = false := by
                have e := hwb m (by omega) (by omega) hb22
                revert e
                cases wb m with
                | true => intro e; first | rfl | (exfalso; have e2 : g 186 (7 * m + n + 1) = 1 := e; omega)
                | false => intro e; first | rfl | (exfalso; have e2 : g 186 (7 * m + n + 1) = 0 := e; omega)
              have hx := hnext (by omega)
              rw [gset_s1 (p := fun o => s.testBit o && (!decide (g 168 o ≤ n) && (al g i o n && (!eW g s o (n + 1) && !wb o)))) (f := fun o => g 167 (6 * o + n)) (by simp only [hc12, hb22, hc33, hb44, hb57, hwv, Bool.and_true, Bool.and_false, Bool.true_and, Bool.false_and, decide_true, decide_false, Bool.not_true, Bool.not_false])] at hx
              exact hx
            · have hc74 : ¬ ((g 186 (((7 * m) + n) + 1)) = 0) := fun z => hc74 ((nI_eqU0 (by omega)).mpr z)
              refine Ev.run 2 (pc' := 102) (lv' := [(5, .int (nI m + 1)), (4, .int (nI (gset (fun o => s.testBit o && (!decide (g 168 o ≤ n) && (al g i o n && (!eW g s o (n + 1) && !wb o)))) (fun o => g 167 (6 * o + n)) m))), (0, .ref 166), (1, .int (nI s)), (2, .int (nI i)), (3, .int (nI n))]) (st' := []) (h' := HN g hl (RF rt)) rfl ?_
              refine Ev.lvE (congrArg (fun z => (5, Value.int z) :: [(4, .int (nI (gset (fun o => s.testBit o && (!decide (g 168 o ≤ n) && (al g i o n && (!eW g s o (n + 1) && !wb o)))) (fun o => g 167 (6 * o + n)) m))), (0, .ref 166), (1, .int (nI s)), (2, .int (nI i)), (3, .int (nI n))]) (nI_1 _)) ?_
              refine Ev.run 1 (pc' := 6) (lv' := [(5, .int (nI (m + 1))), (4, .int (nI (gset (fun o => s.testBit o && (!decide (g 168 o ≤ n) && (al g i o n && (!eW g s o (n + 1) && !wb o)))) (fun o => g 167 (6 * o + n)) m))), (0, .ref 166), (1, .int (nI s)), (2, .int (nI i)), (3, .int (nI n))]) (st' := []) (h' := HN g hl (RF rt)) rfl ?_
              have hwv : wb m = true := by
                have e := hwb m (by omega) (by omega) hb22
                revert e
                cases wb m with
                | true => intro e; first | rfl | (exfalso; have e2 : g 186 (7 * m + n + 1) = 1 := e; omega)
                | false => intro e; first | rfl | (exfalso; have e2 : g 186 (7 * m + n + 1) = 0 := e; omega)
              have hx := hnext (by omega)
              rw [gset_se (p := fun o => s.testBit o && (!decide (g 168 o ≤ n) && (al g i o n && (!eW g s o (n + 1) && !wb o)))) (f := fun o => g 167 (6 * o + n)) (by simp only [hc12, hb22, hc33, hb44, hb57, hwv, Bool.and_true, Bool.and_false, Bool.true_and, Bool.false_and, decide_true, decide_false, Bool.not_true, Bool.not_false])] at hx
              exact hx
        · skip
          refine Ev.run 2 (pc' := 102) (lv' := [(5, .int (nI m + 1)), (4, .int (nI (gset (fun o => s.testBit o && (!decide (g 168 o ≤ n) && (al g i o n && (!eW g s o (n + 1) && !wb o)))) (fun o => g 167 (6 * o + n)) m))), (0, .ref 166), (1, .int (nI s)), (2, .int (nI i)), (3, .int (nI n))]) (st' := []) (h' := HN g hl (RF rt)) rfl ?_
          refine Ev.lvE (congrArg (fun z => (5, Value.int z) :: [(4, .int (nI (gset (fun o => s.testBit o && (!decide (g 168 o ≤ n) && (al g i o n && (!eW g s o (n + 1) && !wb o)))) (fun o => g 167 (6 * o + n)) m))), (0, .ref 166), (1, .int (nI s)), (2, .int (nI i)), (3, .int (nI n))]) (nI_1 _)) ?_
          refine Ev.run 1 (pc' := 6) (lv' := [(5, .int (nI (m + 1))), (4, .int (nI (gset (fun o => s.testBit o && (!decide (g 168 o ≤ n) && (al g i o n && (!eW g s o (n + 1) && !wb o)))) (fun o => g 167 (6 * o + n)) m))), (0, .ref 166), (1, .int (nI s)), (2, .int (nI i)), (3, .int (nI n))]) (st' := []) (h' := HN g hl (RF rt)) rfl ?_
          have hx := hnext (by omega)
          rw [gset_se (p := fun o => s.testBit o && (!decide (g 168 o ≤ n) && (al g i o n && (!eW g s o (n + 1) && !wb o)))) (f := fun o => g 167 (6 * o + n)) (by simp only [hc12, hb22, hc33, hb44, Bool.and_true, Bool.and_false, Bool.true_and, Bool.false_and, decide_true, decide_false, Bool.not_true, Bool.not_false])] at hx
          exact hx
    · skip
      refine Ev.run 2 (pc' := 102) (lv' := [(5, .int (nI m + 1)), (4, .int (nI (gset (fun o => s.testBit o && (!decide (g 168 o ≤ n) && (al g i o n && (!eW g s o (n + 1) && !wb o)))) (fun o => g 167 (6 * o + n)) m))), (0, .ref 166), (1, .int (nI s)), (2, .int (nI i)), (3, .int (nI n))]) (st' := []) (h' := HN g hl (RF rt)) rfl ?_
      refine Ev.lvE (congrArg (fun z => (5, Value.int z) :: [(4, .int (nI (gset (fun o => s.testBit o && (!decide (g 168 o ≤ n) && (al g i o n && (!eW g s o (n + 1) && !wb o)))) (fun o => g 167 (6 * o + n)) m))), (0, .ref 166), (1, .int (nI s)), (2, .int (nI i)), (3, .int (nI n))]) (nI_1 _)) ?_
      refine Ev.run 1 (pc' := 6) (lv' := [(5, .int (nI (m + 1))), (4, .int (nI (gset (fun o => s.testBit o && (!decide (g 168 o ≤ n) && (al g i o n && (!eW g s o (n + 1) && !wb o)))) (fun o => g 167 (6 * o + n)) m))), (0, .ref 166), (1, .int (nI s)), (2, .int (nI i)), (3, .int (nI n))]) (st' := []) (h' := HN g hl (RF rt)) rfl ?_
      have hx := hnext (by omega)
      rw [gset_se (p := fun o => s.testBit o && (!decide (g 168 o ≤ n) && (al g i o n && (!eW g s o (n + 1) && !wb o)))) (f := fun o => g 167 (6 * o + n)) (by simp only [hc12, hb22, Bool.and_true, Bool.and_false, Bool.true_and, Bool.false_and, decide_true, decide_false, Bool.not_true, Bool.not_false])] at hx
      exact hx
