/-! the class: rows that end, go on, are won -/
def enB (g : Nat → Nat → Nat) (f n l : Nat) : Bool := decide (l ≤ n) && !decide (f &&& bset (lnB g n) (g 166 0) = 0)
def goB (g : Nat → Nat → Nat) (f n : Nat) : Nat := bset (fun y => !decide (f &&& bset (plB g n y) (g 166 0) = 0)) 4
def neB (g : Nat → Nat → Nat) (f n s l : Nat) : Nat := bset (fun y => s.testBit y && !enB g (f &&& bset (plB g n y) (g 166 0)) (n + 1) l) 4
def wiF (g : Nat → Nat → Nat) (f n l X : Nat) : Nat := bset (fun y => (neB g f n (goB g f n) l).testBit y && !decide ((f &&& bset (plB g n y) (g 166 0)) &&& X = 0)) 4
theorem enB_7 {g : Nat → Nat → Nat} (h : MI g) (f l : Nat) {n : Nat} (hn : 6 < n) : enB g f n l = false := by
  unfold enB
  rw [bset_0 (p := lnB g n) (fun i hi => by
    have h1 := h.hW
    have h2 := h.hsz i (by omega)
    exact decide_eq_false (by omega)), Nat.and_zero, decide_eq_true rfl]
  exact Bool.and_false _
theorem and_le (a b : Nat) : a &&& b ≤ a := Nat.and_le_left
theorem neStep {s y : Nat} {e : Nat → Bool} (hs : s < 16) (h : e y = true) : bset (fun k => s.testBit k && (decide (y + 1 ≤ k) || !e k)) 4 = bset (fun k => s.testBit k && (decide (y ≤ k) || !e k)) 4 &&& (nSh 1 y ^^^ 4294967295) := by
  refine nat_tb_ext fun k => ?_
  rw [Nat.testBit_and, bset_tb, bset_tb, Nat.testBit_xor, nSh_tb]
  by_cases hk : k < 4
  · have h9 : (4294967295 : Nat).testBit k = true := by
      rcases (show k = 0 ∨ k = 1 ∨ k = 2 ∨ k = 3 by omega) with rfl | rfl | rfl | rfl <;> decide
    rw [h9]
    by_cases e1 : y = k
    · subst e1
      rw [h, decide_eq_false (show ¬ y + 1 ≤ y by omega), decide_eq_true (Nat.le_refl y), decide_eq_true (rfl : y = y)]
      simp
    · rw [decide_eq_false e1]
      have e3 : decide (y + 1 ≤ k) = decide (y ≤ k) := decide_eq_decide.mpr (by omega)
      rw [e3]
      simp
  · rw [decide_eq_false hk]; simp
theorem neStep0 {s y : Nat} {e : Nat → Bool} (h : e y = false) : bset (fun k => s.testBit k && (decide (y + 1 ≤ k) || !e k)) 4 = bset (fun k => s.testBit k && (decide (y ≤ k) || !e k)) 4 := by
  refine bset_cg (fun k hk => ?_)
  by_cases e1 : y = k
  · subst e1
    rw [h, decide_eq_false (show ¬ y + 1 ≤ y by omega), decide_eq_true (Nat.le_refl y)]
    rfl
  · have e3 : decide (y + 1 ≤ k) = decide (y ≤ k) := decide_eq_decide.mpr (by omega)
    rw [e3]
theorem ne_0 {s : Nat} {e : Nat → Bool} (hs : s < 16) : bset (fun k => s.testBit k && (decide (0 ≤ k) || !e k)) 4 = s := by
  refine nat_tb_ext fun k => ?_
  rw [bset_tb, decide_eq_true (Nat.zero_le k), Bool.true_or, Bool.and_true]
  by_cases hk : k < 4
  · rw [decide_eq_true hk, Bool.true_and]
  · rw [decide_eq_false hk, Bool.false_and]
    exact (Nat.testBit_lt_two_pow (Nat.lt_of_lt_of_le hs (show 2 ^ 4 ≤ 2 ^ k from Nat.pow_le_pow_right (by decide) (by omega)))).symm
theorem ne_4 {s : Nat} {e : Nat → Bool} : bset (fun k => s.testBit k && (decide (4 ≤ k) || !e k)) 4 = bset (fun k => s.testBit k && !e k) 4 := bset_cg (fun k hk => by rw [decide_eq_false (by omega), Bool.false_or])
theorem K_isEnd {L : Nat} {xs : Nat → Int32} (d : Nat) (g : Nat → Nat → Nat) (hl : Nat → Nat → Int64) (rt : Nat × Nat × Nat × Nat) (hI : MI g) (hB : CB g) (f : Nat) (hf : f < 4096) (n y : Nat) (hn : n ≤ 1000) (hy : y ≤ 1000) {Q : Po} (hq : Q (some (.int (nI (bn (enB g f n y))))) (HN g hl (RF rt))) : Ev L xs (d + 1) 15 0 [(0, .ref 13), (1, .int (nI f)), (2, .int (nI n)), (3, .int (nI y))] [] (HN g hl (RF rt)) Q := by
  have hW := hI.hW
  have hS := hI.hS
  have hPl := hI.hPl
  have hNx := hI.hNx
  have hLa := hI.hLa
  have hLo := hI.hLo
  have hTb := hI.hTb
  have hTh := hI.hTh
  have hFd := hI.hFd
  have hSn := hI.hSn
  have hSh := hI.hSh
  have hRan := hI.hRan
  have hLr := hI.hLr
  have hLt := hI.hLt
  have hgl := hI.hgl
  have hsz := hI.hsz
  have hcm := hI.hcm
  have hsl := hI.hsl
  have hkd := hI.hkd
  have hvv := hI.hvv
  have hli := hI.hli
  have hro := hI.hro
  have hrw := hI.hrw
  have htx := hI.htx
  have hsw := hI.hsw
  have hsx := hI.hsx
  have hsy := hI.hsy
  have hsh := hI.hsh
  have hle := hI.hle
  have hcl := hI.hcl
  have hwd := hI.hwd
  have hnu := hI.hnu
  have hwn := hI.hwn
  have hs1 := hI.hs1
  have hso := hI.hso
  refine Ev.run 3 (pc' := (if nI n < nI y then 30 else 5)) (lv' := [(0, .ref 13), (1, .int (nI f)), (2, .int (nI n)), (3, .int (nI y))]) (st' := []) (h' := HN g hl (RF rt)) rfl ?_
  refine Ev.ite (fun hc2 => ?_) (fun hc2 => ?_)
  · have hc2 : n < y := (nI_ltI (by omega) (by omega)).mp hc2
    refine Ev.run 1 (pc' := 31) (lv' := [(0, .ref 13), (1, .int (nI f)), (2, .int (nI n)), (3, .int (nI y))]) (st' := [.int (nI 0)]) (h' := HN g hl (RF rt)) rfl ?_
    refine Ev.ret (v := some (.int (nI 0))) rfl ?_
    rw [show enB g f n y = false by
      first
        | (unfold enB; rw [decide_eq_false (by omega)]; exact Bool.false_and _)
        | exact enB_7 hI f y (by omega)
        | (unfold enB; rw [← hB.2.2.2.2.2 n (by omega), decide_eq_true (show y ≤ n by omega), decide_eq_true (by omega)]; rfl)] at hq
    exact hq
  · have hc2 : ¬ (n < y) := fun z => hc2 ((nI_ltI (by omega) (by omega)).mpr z)
    refine Ev.run 3 (pc' := 9) (lv' := [(0, .ref 13), (1, .int (nI f)), (2, .int (nI n)), (3, .int (nI y))]) (st' := [.int (nI 6), .int (nI 0), .int (nI n)]) (h' := HN g hl (RF rt)) rfl ?_
    refine Ev.call (a := 118) (as := [.int (nI n), .int (nI 0), .int (nI 6)]) (rest := []) (lv0 := [(0, .int (nI n)), (1, .int (nI 0)), (2, .int (nI 6))]) (Q1 := (fun z0 h' => z0 = some (.int (nI (bn (decide (n ≤ 6))))) ∧ h' = HN g hl (RF rt))) rfl rfl (K_within _ _ _ _ (nI n) (nI 0) (nI 6) (by rw [in0 (by omega) (by omega)]; exact ⟨rfl, rfl⟩)) (fun r h' hr => ?_)
    obtain ⟨rfl, rfl⟩ := hr
    refine Ev_bn (fun hb12 => ?_) (fun hb12 => ?_)
    · have hhb12 : n ≤ 6 := of_decide_eq_true hb12
      refine Ev.run 1 (pc' := 15) (lv' := [(0, .ref 13), (1, .int (nI f)), (2, .int (nI n)), (3, .int (nI y))]) (st' := []) (h' := HN g hl (RF rt)) rfl ?_
      have hl17 : g 17 n < 4096 := by rw [hB.2.2.2.2.2 n (by omega)]; exact bset_12 _ hW
      have hand := and_le f (g 17 n)
      refine Ev.run 4 (pc' := 21) (lv' := [(0, .ref 13), (1, .int (nI f)), (2, .int (nI n)), (3, .int (nI y))]) (st' := [.int (nI n), .ref 17, .int (nI f)]) (h' := HN g hl (RF rt)) rfl ?_
      refine Ev_iald rfl rfl (show n < 7 by omega) (Nat.le_of_ble_eq_true rfl) ?_
      refine Ev.run 1 (pc' := 23) (lv' := [(0, .ref 13), (1, .int (nI f)), (2, .int (nI n)), (3, .int (nI y))]) (st' := [.int (nI f &&& nI (g 17 n))]) (h' := HN g hl (RF rt)) rfl ?_
      refine Ev.topI (nIa _ _) ?_
      refine Ev.run 1 (pc' := (if nI (f &&& (g 17 n)) = 0 then 30 else 26)) (lv' := [(0, .ref 13), (1, .int (nI f)), (2, .int (nI n)), (3, .int (nI y))]) (st' := []) (h' := HN g hl (RF rt)) rfl ?_
      refine Ev.ite (fun hc23 => ?_) (fun hc23 => ?_)
      · have hc23 : (f &&& (g 17 n)) = 0 := (nI_eqU0 (by omega)).mp hc23
        refine Ev.run 1 (pc' := 31) (lv' := [(0, .ref 13), (1, .int (nI f)), (2, .int (nI n)), (3, .int (nI y))]) (st' := [.int (nI 0)]) (h' := HN g hl (RF rt)) rfl ?_
        refine Ev.ret (v := some (.int (nI 0))) rfl ?_
        rw [show enB g f n y = false by
          first
            | (unfold enB; rw [decide_eq_false (by omega)]; exact Bool.false_and _)
            | exact enB_7 hI f y (by omega)
            | (unfold enB; rw [← hB.2.2.2.2.2 n (by omega), decide_eq_true (show y ≤ n by omega), decide_eq_true (by omega)]; rfl)] at hq
        exact hq
      · have hc23 : ¬ ((f &&& (g 17 n)) = 0) := fun z => hc23 ((nI_eqU0 (by omega)).mpr z)
        refine Ev.run 2 (pc' := 31) (lv' := [(0, .ref 13), (1, .int (nI f)), (2, .int (nI n)), (3, .int (nI y))]) (st' := [.int (nI 1)]) (h' := HN g hl (RF rt)) rfl ?_
        refine Ev.ret (v := some (.int (nI 1))) rfl ?_
        rw [show enB g f n y = true by unfold enB; rw [← hB.2.2.2.2.2 n (by omega), decide_eq_true (by omega), decide_eq_false (by omega)]; rfl] at hq
        exact hq
    · have hhb12 : ¬ (n ≤ 6) := of_decide_eq_false hb12
      refine Ev.run 2 (pc' := 31) (lv' := [(0, .ref 13), (1, .int (nI f)), (2, .int (nI n)), (3, .int (nI y))]) (st' := [.int (nI 0)]) (h' := HN g hl (RF rt)) rfl ?_
      refine Ev.ret (v := some (.int (nI 0))) rfl ?_
      rw [show enB g f n y = false by
        first
          | (unfold enB; rw [decide_eq_false (by omega)]; exact Bool.false_and _)
          | exact enB_7 hI f y (by omega)
          | (unfold enB; rw [← hB.2.2.2.2.2 n (by omega), decide_eq_true (show y ≤ n by omega), decide_eq_true (by omega)]; rfl)] at hq
      exact hq
theorem K_going {L : Nat} {xs : Nat → Int32} (d : Nat) (g : Nat → Nat → Nat) (hl : Nat → Nat → Int64) (rt : Nat × Nat × Nat × Nat) (hI : MI g) (hB : CB g) (f : Nat) (hf : f < 4096) (n : Nat) (hn : n ≤ 1000) {Q : Po} (hq : Q (some (.int (nI (goB g f n)))) (HN g hl (RF rt))) : Ev L xs (d + 2) 16 0 [(0, .ref 13), (1, .int (nI f)), (2, .int (nI n))] [] (HN g hl (RF rt)) Q := by
  have hW := hI.hW
  have hS := hI.hS
  have hPl := hI.hPl
  have hNx := hI.hNx
  have hLa := hI.hLa
  have hLo := hI.hLo
  have hTb := hI.hTb
  have hTh := hI.hTh
  have hFd := hI.hFd
  have hSn := hI.hSn
  have hSh := hI.hSh
  have hRan := hI.hRan
  have hLr := hI.hLr
  have hLt := hI.hLt
  have hgl := hI.hgl
  have hsz := hI.hsz
  have hcm := hI.hcm
  have hsl := hI.hsl
  have hkd := hI.hkd
  have hvv := hI.hvv
  have hli := hI.hli
  have hro := hI.hro
  have hrw := hI.hrw
  have htx := hI.htx
  have hsw := hI.hsw
  have hsx := hI.hsx
  have hsy := hI.hsy
  have hsh := hI.hsh
  have hle := hI.hle
  have hcl := hI.hcl
  have hwd := hI.hwd
  have hnu := hI.hnu
  have hwn := hI.hwn
  have hs1 := hI.hs1
  have hso := hI.hso
  refine Ev.run 4 (pc' := 5) (lv' := [(4, .int (nI 0)), (3, .int (nI 0)), (0, .ref 13), (1, .int (nI f)), (2, .int (nI n))]) (st' := []) (h' := HN g hl (RF rt)) rfl ?_
  refine for_ind 4 (fun k => Ev L xs (d + 2) 16 5 [(4, .int (nI k)), (3, .int (nI (bset (fun y => !decide (f &&& bset (plB g n y) (g 166 0) = 0)) k))), (0, .ref 13), (1, .int (nI f)), (2, .int (nI n))] [] (HN g hl (RF rt)) Q) (fun k hk hnext => ?_) 0 (Nat.zero_le _)
  have hand := and_le f (bset (plB g n k) (g 166 0))
  refine Ev.run 3 (pc' := (if nI 4 ≤ nI k then 36 else 11)) (lv' := [(4, .int (nI k)), (3, .int (nI (bset (fun y => !decide (f &&& bset (plB g n y) (g 166 0) = 0)) k))), (0, .ref 13), (1, .int (nI f)), (2, .int (nI n))]) (st' := []) (h' := HN g hl (RF rt)) rfl ?_
  refine Ev.ite (fun hc8 => ?_) (fun hc8 => ?_)
  · have hc8 : 4 ≤ k := (nI_leI (by omega) (by omega)).mp hc8
    refine Ev.run 1 (pc' := 37) (lv' := [(4, .int (nI k)), (3, .int (nI (bset (fun y => !decide (f &&& bset (plB g n y) (g 166 0) = 0)) k))), (0, .ref 13), (1, .int (nI f)), (2, .int (nI n))]) (st' := [.int (nI (bset (fun y => !decide (f &&& bset (plB g n y) (g 166 0) = 0)) k))]) (h' := HN g hl (RF rt)) rfl ?_
    refine Ev.ret (v := some (.int (nI (bset (fun y => !decide (f &&& bset (plB g n y) (g 166 0) = 0)) k)))) rfl ?_
    obtain rfl : k = 4 := by omega
    exact hq
  · have hc8 : ¬ (4 ≤ k) := fun z => hc8 ((nI_leI (by omega) (by omega)).mpr z)
    refine Ev.run 4 (pc' := 16) (lv' := [(4, .int (nI k)), (3, .int (nI (bset (fun y => !decide (f &&& bset (plB g n y) (g 166 0) = 0)) k))), (0, .ref 13), (1, .int (nI f)), (2, .int (nI n))]) (st' := [.int (nI k), .int (nI n), .ref 13, .int (nI f)]) (h' := HN g hl (RF rt)) rfl ?_
    refine Ev.call (a := 12) (as := [.ref 13, .int (nI n), .int (nI k)]) (rest := [.int (nI f)]) (lv0 := [(0, .ref 13), (1, .int (nI n)), (2, .int (nI k))]) (Q1 := (fun z0 h' => z0 = some (.int (nI (bset (plB g n k) (g 166 0)))) ∧ h' = HN g hl (RF rt))) rfl rfl (K_having _ _ _ _ hI hB n k (by omega) (by omega) ⟨rfl, rfl⟩) (fun r h' hr => ?_)
    obtain ⟨rfl, rfl⟩ := hr
    have hbs19 := bset_12 (plB g n k) hW
    refine Ev.run 1 (pc' := 20) (lv' := [(4, .int (nI k)), (3, .int (nI (bset (fun y => !decide (f &&& bset (plB g n y) (g 166 0) = 0)) k))), (0, .ref 13), (1, .int (nI f)), (2, .int (nI n))]) (st' := [.int (nI f &&& nI (bset (plB g n k) (g 166 0)))]) (h' := HN g hl (RF rt)) rfl ?_
    refine Ev.topI (nIa _ _) ?_
    refine Ev.run 1 (pc' := (if nI (f &&& (bset (plB g n k) (g 166 0))) = 0 then 30 else 23)) (lv' := [(4, .int (nI k)), (3, .int (nI (bset (fun y => !decide (f &&& bset (plB g n y) (g 166 0) = 0)) k))), (0, .ref 13), (1, .int (nI f)), (2, .int (nI n))]) (st' := []) (h' := HN g hl (RF rt)) rfl ?_
    refine Ev.ite (fun hc20 => ?_) (fun hc20 => ?_)
    · have hc20 : (f &&& (bset (plB g n k) (g 166 0))) = 0 := (nI_eqU0 (by omega)).mp hc20
      refine Ev.run 1 (pc' := 33) (lv' := [(4, .int (nI k + 1)), (3, .int (nI (bset (fun y => !decide (f &&& bset (plB g n y) (g 166 0) = 0)) k))), (0, .ref 13), (1, .int (nI f)), (2, .int (nI n))]) (st' := []) (h' := HN g hl (RF rt)) rfl ?_
      refine Ev.lvE (congrArg (fun z => (4, Value.int z) :: [(3, .int (nI (bset (fun y => !decide (f &&& bset (plB g n y) (g 166 0) = 0)) k))), (0, .ref 13), (1, .int (nI f)), (2, .int (nI n))]) (nI_1 _)) ?_
      refine Ev.run 1 (pc' := 5) (lv' := [(4, .int (nI (k + 1))), (3, .int (nI (bset (fun y => !decide (f &&& bset (plB g n y) (g 166 0) = 0)) k))), (0, .ref 13), (1, .int (nI f)), (2, .int (nI n))]) (st' := []) (h' := HN g hl (RF rt)) rfl ?_
      have hx := hnext (by omega)
      rw [bset_se (p := fun y => !decide (f &&& bset (plB g n y) (g 166 0) = 0)) (by simp only [hc8, hc20, Bool.and_true, Bool.and_false, Bool.true_and, Bool.false_and, decide_true, decide_false, Bool.not_true, Bool.not_false])] at hx
      exact hx
    · have hc20 : ¬ ((f &&& (bset (plB g n k) (g 166 0))) = 0) := fun z => hc20 ((nI_eqU0 (by omega)).mpr z)
      refine Ev.run 4 (pc' := 28) (lv' := [(4, .int (nI k)), (3, .int (nI (bset (fun y => !decide (f &&& bset (plB g n y) (g 166 0) = 0)) k))), (0, .ref 13), (1, .int (nI f)), (2, .int (nI n))]) (st' := [.int (nI 1 <<< (nI k &&& 31)), .int (nI (bset (fun y => !decide (f &&& bset (plB g n y) (g 166 0) = 0)) k))]) (h' := HN g hl (RF rt)) rfl ?_
      refine Ev.topI (nI_shl (by omega)) ?_
      refine Ev.run 1 (pc' := 29) (lv' := [(4, .int (nI k)), (3, .int (nI (bset (fun y => !decide (f &&& bset (plB g n y) (g 166 0) = 0)) k))), (0, .ref 13), (1, .int (nI f)), (2, .int (nI n))]) (st' := [.int (nI (bset (fun y => !decide (f &&& bset (plB g n y) (g 166 0) = 0)) k) ||| nI (nSh 1 k))]) (h' := HN g hl (RF rt)) rfl ?_
      refine Ev.topI (nIo _ _) ?_
      refine Ev.run 2 (pc' := 33) (lv' := [(4, .int (nI k + 1)), (3, .int (nI ((bset (fun y => !decide (f &&& bset (plB g n y) (g 166 0) = 0)) k) ||| (nSh 1 k)))), (0, .ref 13), (1, .int (nI f)), (2, .int (nI n))]) (st' := []) (h' := HN g hl (RF rt)) rfl ?_
      refine Ev.lvE (congrArg (fun z => (4, Value.int z) :: [(3, .int (nI ((bset (fun y => !decide (f &&& bset (plB g n y) (g 166 0) = 0)) k) ||| (nSh 1 k)))), (0, .ref 13), (1, .int (nI f)), (2, .int (nI n))]) (nI_1 _)) ?_
      refine Ev.run 1 (pc' := 5) (lv' := [(4, .int (nI (k + 1))), (3, .int (nI ((bset (fun y => !decide (f &&& bset (plB g n y) (g 166 0) = 0)) k) ||| (nSh 1 k)))), (0, .ref 13), (1, .int (nI f)), (2, .int (nI n))]) (st' := []) (h' := HN g hl (RF rt)) rfl ?_
      have hx := hnext (by omega)
      rw [bset_s1 (p := fun y => !decide (f &&& bset (plB g n y) (g 166 0) = 0)) (by simp only [hc8, hc20, Bool.and_true, Bool.and_false, Bool.true_and, Bool.false_and, decide_true, decide_false, Bool.not_true, Bool.not_false])] at hx
      exact hx
