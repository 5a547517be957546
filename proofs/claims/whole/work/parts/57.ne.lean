/-! the class: rows that are won -/
theorem K_notEnding {L : Nat} {xs : Nat → Int32} (d : Nat) (g : Nat → Nat → Nat) (hl : Nat → Nat → Int64) (rt : Nat × Nat × Nat × Nat) (hI : MI g) (hB : CB g) (f : Nat) (hf : f < 4096) (n : Nat) (hn : n ≤ 900) (s y : Nat) (hs : s < 16) (hy : y ≤ 1000) {Q : Po} (hq : Q (some (.int (nI (neB g f n s y)))) (HN g hl (RF rt))) : Ev L xs (d + 2) 17 0 [(0, .ref 13), (1, .int (nI f)), (2, .int (nI n)), (3, .int (nI s)), (4, .int (nI y))] [] (HN g hl (RF rt)) Q := by
  have hW := hI.hW
  have hS := hI.hS
  have hPl := hI.hPl
  have hNx := hI.hNx
  have hLa := hI.hLa
  have hLo := hI.hLo
  have hTb := hI.hTb
  have hTh := hI.hTh
  have hFd := hI.hFd
  have hSn := hI.hSn
  have hSh := hI.hSh
  have hRan := hI.hRan
  have hLr := hI.hLr
  have hLt := hI.hLt
  have hgl := hI.hgl
  have hsz := hI.hsz
  have hcm := hI.hcm
  have hsl := hI.hsl
  have hkd := hI.hkd
  have hvv := hI.hvv
  have hli := hI.hli
  have hro := hI.hro
  have hrw := hI.hrw
  have htx := hI.htx
  have hsw := hI.hsw
  have hsx := hI.hsx
  have hsy := hI.hsy
  have hsh := hI.hsh
  have hle := hI.hle
  have hcl := hI.hcl
  have hwd := hI.hwd
  have hnu := hI.hnu
  have hwn := hI.hwn
  have hs1 := hI.hs1
  have hso := hI.hso
  refine Ev.run 4 (pc' := 6) (lv' := [(6, .int (nI 0)), (5, .int (nI s)), (0, .ref 13), (1, .int (nI f)), (2, .int (nI n)), (3, .int (nI s)), (4, .int (nI y))]) (st' := []) (h' := HN g hl (RF rt)) rfl ?_
  refine for_ind 4 (fun k => ∀ X : Nat, X = bset (fun z => s.testBit z && (decide (k ≤ z) || !(fun z => enB g (f &&& bset (plB g n z) (g 166 0)) (n + 1) y) z)) 4 → Ev L xs (d + 2) 17 6 [(6, .int (nI k)), (5, .int (nI X)), (0, .ref 13), (1, .int (nI f)), (2, .int (nI n)), (3, .int (nI s)), (4, .int (nI y))] [] (HN g hl (RF rt)) Q) (fun k hk hnext => ?_) 0 (Nat.zero_le _) s (ne_0 hs).symm
  intro X hX
  have hX16 : X < 16 := by rw [hX]; exact bset_lt _ 4
  have hand := and_le f (bset (plB g n k) (g 166 0))
  refine Ev.run 3 (pc' := (if nI 4 ≤ nI k then 50 else 12)) (lv' := [(6, .int (nI k)), (5, .int (nI X)), (0, .ref 13), (1, .int (nI f)), (2, .int (nI n)), (3, .int (nI s)), (4, .int (nI y))]) (st' := []) (h' := HN g hl (RF rt)) rfl ?_
  refine Ev.ite (fun hc9 => ?_) (fun hc9 => ?_)
  · have hc9 : 4 ≤ k := (nI_leI (by omega) (by omega)).mp hc9
    refine Ev.run 1 (pc' := 52) (lv' := [(6, .int (nI k)), (5, .int (nI X)), (0, .ref 13), (1, .int (nI f)), (2, .int (nI n)), (3, .int (nI s)), (4, .int (nI y))]) (st' := [.int (nI X)]) (h' := HN g hl (RF rt)) rfl ?_
    refine Ev.ret (v := some (.int (nI X))) rfl ?_
    obtain rfl : k = 4 := by omega
    have e : neB g f n s y = X := by rw [hX]; exact ne_4.symm
    rw [e] at hq
    exact hq
  · have hc9 : ¬ (4 ≤ k) := fun z => hc9 ((nI_leI (by omega) (by omega)).mpr z)
    refine Ev.run 5 (pc' := 18) (lv' := [(6, .int (nI k)), (5, .int (nI X)), (0, .ref 13), (1, .int (nI f)), (2, .int (nI n)), (3, .int (nI s)), (4, .int (nI y))]) (st' := [.int (nI k), .int (nI n), .ref 13, .int (nI f), .ref 13]) (h' := HN g hl (RF rt)) rfl ?_
    refine Ev.call (a := 12) (as := [.ref 13, .int (nI n), .int (nI k)]) (rest := [.int (nI f), .ref 13]) (lv0 := [(0, .ref 13), (1, .int (nI n)), (2, .int (nI k))]) (Q1 := (fun z0 h' => z0 = some (.int (nI (bset (plB g n k) (g 166 0)))) ∧ h' = HN g hl (RF rt))) rfl rfl (K_having _ _ _ _ hI hB n k (by omega) (by omega) ⟨rfl, rfl⟩) (fun r h' hr => ?_)
    obtain ⟨rfl, rfl⟩ := hr
    have hbs21 := bset_12 (plB g n k) hW
    refine Ev.run 1 (pc' := 22) (lv' := [(6, .int (nI k)), (5, .int (nI X)), (0, .ref 13), (1, .int (nI f)), (2, .int (nI n)), (3, .int (nI s)), (4, .int (nI y))]) (st' := [.int (nI f &&& nI (bset (plB g n k) (g 166 0))), .ref 13]) (h' := HN g hl (RF rt)) rfl ?_
    refine Ev.topI (nIa _ _) ?_
    refine Ev.run 3 (pc' := 25) (lv' := [(6, .int (nI k)), (5, .int (nI X)), (0, .ref 13), (1, .int (nI f)), (2, .int (nI n)), (3, .int (nI s)), (4, .int (nI y))]) (st' := [.int (nI n + nI 1), .int (nI (f &&& (bset (plB g n k) (g 166 0)))), .ref 13]) (h' := HN g hl (RF rt)) rfl ?_
    refine Ev.topI (nI_add _ _) ?_
    refine Ev.run 1 (pc' := 27) (lv' := [(6, .int (nI k)), (5, .int (nI X)), (0, .ref 13), (1, .int (nI f)), (2, .int (nI n)), (3, .int (nI s)), (4, .int (nI y))]) (st' := [.int (nI y), .int (nI (n + 1)), .int (nI (f &&& (bset (plB g n k) (g 166 0)))), .ref 13]) (h' := HN g hl (RF rt)) rfl ?_
    refine Ev.call (a := 15) (as := [.ref 13, .int (nI (f &&& (bset (plB g n k) (g 166 0)))), .int (nI (n + 1)), .int (nI y)]) (rest := []) (lv0 := [(0, .ref 13), (1, .int (nI (f &&& (bset (plB g n k) (g 166 0))))), (2, .int (nI (n + 1))), (3, .int (nI y))]) (Q1 := (fun z0 h' => z0 = some (.int (nI (bn (enB g (f &&& (bset (plB g n k) (g 166 0))) (n + 1) y)))) ∧ h' = HN g hl (RF rt))) rfl rfl (K_isEnd _ _ _ _ hI hB (f &&& (bset (plB g n k) (g 166 0))) (by omega) (n + 1) y (by omega) (by omega) ⟨rfl, rfl⟩) (fun r h' hr => ?_)
    obtain ⟨rfl, rfl⟩ := hr
    refine Ev_bn (fun hb30 => ?_) (fun hb30 => ?_)
    · skip
      refine Ev.run 5 (pc' := 39) (lv' := [(6, .int (nI k)), (5, .int (nI X)), (0, .ref 13), (1, .int (nI f)), (2, .int (nI n)), (3, .int (nI s)), (4, .int (nI y))]) (st' := [.int (nI 1 <<< (nI k &&& 31)), .int (nI X)]) (h' := HN g hl (RF rt)) rfl ?_
      refine Ev.topI (nI_shl (by omega)) ?_
      refine Ev.run 2 (pc' := 41) (lv' := [(6, .int (nI k)), (5, .int (nI X)), (0, .ref 13), (1, .int (nI f)), (2, .int (nI n)), (3, .int (nI s)), (4, .int (nI y))]) (st' := [.int (nI (nSh 1 k) ^^^ nI 4294967295), .int (nI X)]) (h' := HN g hl (RF rt)) rfl ?_
      refine Ev.topI (nIx _ _) ?_
      refine Ev.run 1 (pc' := 42) (lv' := [(6, .int (nI k)), (5, .int (nI X)), (0, .ref 13), (1, .int (nI f)), (2, .int (nI n)), (3, .int (nI s)), (4, .int (nI y))]) (st' := [.int (nI X &&& nI ((nSh 1 k) ^^^ 4294967295))]) (h' := HN g hl (RF rt)) rfl ?_
      refine Ev.topI (nIa _ _) ?_
      refine Ev.run 2 (pc' := 47) (lv' := [(6, .int (nI k + 1)), (5, .int (nI (X &&& ((nSh 1 k) ^^^ 4294967295)))), (0, .ref 13), (1, .int (nI f)), (2, .int (nI n)), (3, .int (nI s)), (4, .int (nI y))]) (st' := []) (h' := HN g hl (RF rt)) rfl ?_
      refine Ev.lvE (congrArg (fun z => (6, Value.int z) :: [(5, .int (nI (X &&& ((nSh 1 k) ^^^ 4294967295)))), (0, .ref 13), (1, .int (nI f)), (2, .int (nI n)), (3, .int (nI s)), (4, .int (nI y))]) (nI_1 _)) ?_
      refine Ev.run 1 (pc' := 6) (lv' := [(6, .int (nI (k + 1))), (5, .int (nI (X &&& ((nSh 1 k) ^^^ 4294967295)))), (0, .ref 13), (1, .int (nI f)), (2, .int (nI n)), (3, .int (nI s)), (4, .int (nI y))]) (st' := []) (h' := HN g hl (RF rt)) rfl ?_
      have hx := hnext (by omega) (X &&& ((nSh 1 k) ^^^ 4294967295)) (by rw [hX]; exact (neStep (e := (fun z => enB g (f &&& bset (plB g n z) (g 166 0)) (n + 1) y)) hs hb30).symm)
      exact Ev.wk (Ext.cons rfl rfl (Ext.cons rfl rfl (Ext.cons rfl rfl (Ext.cons rfl rfl (Ext.cons rfl rfl (Ext.cons rfl rfl (Ext.cons rfl rfl (Ext.nil rfl)))))))) hx
    · skip
      refine Ev.run 2 (pc' := 47) (lv' := [(6, .int (nI k + 1)), (5, .int (nI X)), (0, .ref 13), (1, .int (nI f)), (2, .int (nI n)), (3, .int (nI s)), (4, .int (nI y))]) (st' := []) (h' := HN g hl (RF rt)) rfl ?_
      refine Ev.lvE (congrArg (fun z => (6, Value.int z) :: [(5, .int (nI X)), (0, .ref 13), (1, .int (nI f)), (2, .int (nI n)), (3, .int (nI s)), (4, .int (nI y))]) (nI_1 _)) ?_
      refine Ev.run 1 (pc' := 6) (lv' := [(6, .int (nI (k + 1))), (5, .int (nI X)), (0, .ref 13), (1, .int (nI f)), (2, .int (nI n)), (3, .int (nI s)), (4, .int (nI y))]) (st' := []) (h' := HN g hl (RF rt)) rfl ?_
      have hx := hnext (by omega) (X) (by rw [hX]; exact (neStep0 (e := (fun z => enB g (f &&& bset (plB g n z) (g 166 0)) (n + 1) y)) hb30).symm)
      exact Ev.wk (Ext.cons rfl rfl (Ext.cons rfl rfl (Ext.cons rfl rfl (Ext.cons rfl rfl (Ext.cons rfl rfl (Ext.cons rfl rfl (Ext.cons rfl rfl (Ext.nil rfl)))))))) hx
theorem K_isLost {L : Nat} {xs : Nat → Int32} (d : Nat) (g : Nat → Nat → Nat) (hl : Nat → Nat → Int64) (rt : Nat × Nat × Nat × Nat) (f : Nat) (hf : f < 4096) (n X : Nat) (hn : n ≤ 1000) (hX : n ≤ 6 → g 18 n = X) (hX0 : 6 < n → X = 0) (hX4 : X < 4096) {Q : Po} (hq : Q (some (.int (nI (bn (!decide (f &&& X = 0)))))) (HN g hl (RF rt))) : Ev L xs d 20 0 [(0, .ref 13), (1, .int (nI f)), (2, .int (nI n))] [] (HN g hl (RF rt)) Q := by
  refine Ev.run 3 (pc' := (if nI 6 < nI n then 21 else 6)) (lv' := [(0, .ref 13), (1, .int (nI f)), (2, .int (nI n))]) (st' := []) (h' := HN g hl (RF rt)) rfl ?_
  refine Ev.ite (fun hc3 => ?_) (fun hc3 => ?_)
  · have hc3 : 6 < n := (nI_ltI (by omega) (by omega)).mp hc3
    refine Ev.run 1 (pc' := 22) (lv' := [(0, .ref 13), (1, .int (nI f)), (2, .int (nI n))]) (st' := [.int (nI 0)]) (h' := HN g hl (RF rt)) rfl ?_
    refine Ev.ret (v := some (.int (nI 0))) rfl ?_
    first
      | (have e : decide (f &&& X = 0) = true := by first | exact decide_eq_false (fun z => hc14 (by rw [hX (by omega)]; exact z)) | exact decide_eq_true (by rw [← hX (by omega)]; exact hc14) | (rw [hX0 (by omega), Nat.and_zero]; rfl)
         rw [e] at hq
         exact hq)
  · have hc3 : ¬ (6 < n) := fun z => hc3 ((nI_ltI (by omega) (by omega)).mpr z)
    have hl18 : g 18 n < 4096 := by rw [hX (by omega)]; exact hX4
    have hand := and_le f (g 18 n)
    refine Ev.run 4 (pc' := 12) (lv' := [(0, .ref 13), (1, .int (nI f)), (2, .int (nI n))]) (st' := [.int (nI n), .ref 18, .int (nI f)]) (h' := HN g hl (RF rt)) rfl ?_
    refine Ev_iald rfl rfl (show n < 7 by omega) (Nat.le_of_ble_eq_true rfl) ?_
    refine Ev.run 1 (pc' := 14) (lv' := [(0, .ref 13), (1, .int (nI f)), (2, .int (nI n))]) (st' := [.int (nI f &&& nI (g 18 n))]) (h' := HN g hl (RF rt)) rfl ?_
    refine Ev.topI (nIa _ _) ?_
    refine Ev.run 1 (pc' := (if nI (f &&& (g 18 n)) = 0 then 21 else 17)) (lv' := [(0, .ref 13), (1, .int (nI f)), (2, .int (nI n))]) (st' := []) (h' := HN g hl (RF rt)) rfl ?_
    refine Ev.ite (fun hc14 => ?_) (fun hc14 => ?_)
    · have hc14 : (f &&& (g 18 n)) = 0 := (nI_eqU0 (by omega)).mp hc14
      refine Ev.run 1 (pc' := 22) (lv' := [(0, .ref 13), (1, .int (nI f)), (2, .int (nI n))]) (st' := [.int (nI 0)]) (h' := HN g hl (RF rt)) rfl ?_
      refine Ev.ret (v := some (.int (nI 0))) rfl ?_
      first
        | (have e : decide (f &&& X = 0) = true := by first | exact decide_eq_false (fun z => hc14 (by rw [hX (by omega)]; exact z)) | exact decide_eq_true (by rw [← hX (by omega)]; exact hc14) | (rw [hX0 (by omega), Nat.and_zero]; rfl)
           rw [e] at hq
           exact hq)
    · have hc14 : ¬ ((f &&& (g 18 n)) = 0) := fun z => hc14 ((nI_eqU0 (by omega)).mpr z)
      refine Ev.run 2 (pc' := 22) (lv' := [(0, .ref 13), (1, .int (nI f)), (2, .int (nI n))]) (st' := [.int (nI 1)]) (h' := HN g hl (RF rt)) rfl ?_
      refine Ev.ret (v := some (.int (nI 1))) rfl ?_
      first
        | (have e : decide (f &&& X = 0) = false := by first | exact decide_eq_false (fun z => hc14 (by rw [hX (by omega)]; exact z)) | exact decide_eq_true (by rw [← hX (by omega)]; exact hc14) | (rw [hX0 (by omega), Nat.and_zero]; rfl)
           rw [e] at hq
           exact hq)
theorem K_winning {L : Nat} {xs : Nat → Int32} (d : Nat) (g : Nat → Nat → Nat) (hl : Nat → Nat → Int64) (rt : Nat × Nat × Nat × Nat) (hI : MI g) (hB : CB g) (f : Nat) (hf : f < 4096) (n y X : Nat) (hn : n ≤ 800) (hy : y ≤ 1000) (hX : n + 1 ≤ 6 → g 18 (n + 1) = X) (hX0 : 6 < n + 1 → X = 0) (hX4 : X < 4096) {Q : Po} (hq : Q (some (.int (nI (wiF g f n y X)))) (HN g hl (RF rt))) : Ev L xs (d + 3) 19 0 [(0, .ref 13), (1, .int (nI f)), (2, .int (nI n)), (3, .int (nI y))] [] (HN g hl (RF rt)) Q := by
  have hW := hI.hW
  have hS := hI.hS
  have hPl := hI.hPl
  have hNx := hI.hNx
  have hLa := hI.hLa
  have hLo := hI.hLo
  have hTb := hI.hTb
  have hTh := hI.hTh
  have hFd := hI.hFd
  have hSn := hI.hSn
  have hSh := hI.hSh
  have hRan := hI.hRan
  have hLr := hI.hLr
  have hLt := hI.hLt
  have hgl := hI.hgl
  have hsz := hI.hsz
  have hcm := hI.hcm
  have hsl := hI.hsl
  have hkd := hI.hkd
  have hvv := hI.hvv
  have hli := hI.hli
  have hro := hI.hro
  have hrw := hI.hrw
  have htx := hI.htx
  have hsw := hI.hsw
  have hsx := hI.hsx
  have hsy := hI.hsy
  have hsh := hI.hsh
  have hle := hI.hle
  have hcl := hI.hcl
  have hwd := hI.hwd
  have hnu := hI.hnu
  have hwn := hI.hwn
  have hs1 := hI.hs1
  have hso := hI.hso
  refine Ev.run 6 (pc' := 6) (lv' := [(0, .ref 13), (1, .int (nI f)), (2, .int (nI n)), (3, .int (nI y))]) (st' := [.int (nI n), .int (nI f), .ref 13, .int (nI n), .int (nI f), .ref 13]) (h' := HN g hl (RF rt)) rfl ?_
  refine Ev.call (a := 16) (as := [.ref 13, .int (nI f), .int (nI n)]) (rest := [.int (nI n), .int (nI f), .ref 13]) (lv0 := [(0, .ref 13), (1, .int (nI f)), (2, .int (nI n))]) (Q1 := (fun z0 h' => z0 = some (.int (nI (goB g f n))) ∧ h' = HN g hl (RF rt))) rfl rfl (K_going _ _ _ _ hI hB f (by omega) n (by omega) ⟨rfl, rfl⟩) (fun r h' hr => ?_)
  obtain ⟨rfl, rfl⟩ := hr
  have hgob : goB g f n < 16 := bset_lt _ 4
  refine Ev.run 1 (pc' := 10) (lv' := [(0, .ref 13), (1, .int (nI f)), (2, .int (nI n)), (3, .int (nI y))]) (st' := [.int (nI y), .int (nI (goB g f n)), .int (nI n), .int (nI f), .ref 13]) (h' := HN g hl (RF rt)) rfl ?_
  refine Ev.call (a := 17) (as := [.ref 13, .int (nI f), .int (nI n), .int (nI (goB g f n)), .int (nI y)]) (rest := []) (lv0 := [(0, .ref 13), (1, .int (nI f)), (2, .int (nI n)), (3, .int (nI (goB g f n))), (4, .int (nI y))]) (Q1 := (fun z0 h' => z0 = some (.int (nI (neB g f n (goB g f n) y))) ∧ h' = HN g hl (RF rt))) rfl rfl (K_notEnding _ _ _ _ hI hB f (by omega) n (by omega) (goB g f n) y (by omega) (by omega) ⟨rfl, rfl⟩) (fun r h' hr => ?_)
  obtain ⟨rfl, rfl⟩ := hr
  have hneb : neB g f n (goB g f n) y < 16 := bset_lt _ 4
  refine Ev.run 5 (pc' := 21) (lv' := [(6, .int (nI 0)), (5, .int (nI 0)), (4, .int (nI (neB g f n (goB g f n) y))), (0, .ref 13), (1, .int (nI f)), (2, .int (nI n)), (3, .int (nI y))]) (st' := []) (h' := HN g hl (RF rt)) rfl ?_
  refine for_ind 4 (fun k => Ev L xs (d + 3) 19 21 [(6, .int (nI k)), (5, .int (nI (bset (fun z => (neB g f n (goB g f n) y).testBit z && !decide ((f &&& bset (plB g n z) (g 166 0)) &&& X = 0)) k))), (4, .int (nI (neB g f n (goB g f n) y))), (0, .ref 13), (1, .int (nI f)), (2, .int (nI n)), (3, .int (nI y))] [] (HN g hl (RF rt)) Q) (fun k hk hnext => ?_) 0 (Nat.zero_le _)
  have hand := and_le f (bset (plB g n k) (g 166 0))
  have hbw := bset_lt (fun z => (neB g f n (goB g f n) y).testBit z && !decide ((f &&& bset (plB g n z) (g 166 0)) &&& X = 0)) k
  have hbw2 : 2 ^ k ≤ 2 ^ 4 := Nat.pow_le_pow_right (by decide) hk
  refine Ev.run 3 (pc' := (if nI 4 ≤ nI k then 71 else 27)) (lv' := [(6, .int (nI k)), (5, .int (nI (bset (fun z => (neB g f n (goB g f n) y).testBit z && !decide ((f &&& bset (plB g n z) (g 166 0)) &&& X = 0)) k))), (4, .int (nI (neB g f n (goB g f n) y))), (0, .ref 13), (1, .int (nI f)), (2, .int (nI n)), (3, .int (nI y))]) (st' := []) (h' := HN g hl (RF rt)) rfl ?_
  refine Ev.ite (fun hc24 => ?_) (fun hc24 => ?_)
  · have hc24 : 4 ≤ k := (nI_leI (by omega) (by omega)).mp hc24
    refine Ev.run 1 (pc' := 73) (lv' := [(6, .int (nI k)), (5, .int (nI (bset (fun z => (neB g f n (goB g f n) y).testBit z && !decide ((f &&& bset (plB g n z) (g 166 0)) &&& X = 0)) k))), (4, .int (nI (neB g f n (goB g f n) y))), (0, .ref 13), (1, .int (nI f)), (2, .int (nI n)), (3, .int (nI y))]) (st' := [.int (nI (bset (fun z => (neB g f n (goB g f n) y).testBit z && !decide ((f &&& bset (plB g n z) (g 166 0)) &&& X = 0)) k))]) (h' := HN g hl (RF rt)) rfl ?_
    refine Ev.ret (v := some (.int (nI (bset (fun z => (neB g f n (goB g f n) y).testBit z && !decide ((f &&& bset (plB g n z) (g 166 0)) &&& X = 0)) k)))) rfl ?_
    obtain rfl : k = 4 := by omega
    exact hq
  · have hc24 : ¬ (4 ≤ k) := fun z => hc24 ((nI_leI (by omega) (by omega)).mpr z)
    refine Ev.run 2 (pc' := 31) (lv' := [(6, .int (nI k)), (5, .int (nI (bset (fun z => (neB g f n (goB g f n) y).testBit z && !decide ((f &&& bset (plB g n z) (g 166 0)) &&& X = 0)) k))), (4, .int (nI (neB g f n (goB g f n) y))), (0, .ref 13), (1, .int (nI f)), (2, .int (nI n)), (3, .int (nI y))]) (st' := [.int (nI k), .int (nI (neB g f n (goB g f n) y))]) (h' := HN g hl (RF rt)) rfl ?_
    refine Ev.call (a := 122) (as := [.int (nI (neB g f n (goB g f n) y)), .int (nI k)]) (rest := []) (lv0 := [(0, .int (nI (neB g f n (goB g f n) y))), (1, .int (nI k))]) (Q1 := (fun z0 h' => z0 = some (.int (nI (bn (Nat.testBit (neB g f n (goB g f n) y) k)))) ∧ h' = HN g hl (RF rt))) rfl rfl (K_isIn _ _ _ _ (neB g f n (goB g f n) y) k (by omega) (by omega) ⟨rfl, rfl⟩) (fun r h' hr => ?_)
    obtain ⟨rfl, rfl⟩ := hr
    refine Ev_bn (fun hb34 => ?_) (fun hb34 => ?_)
    · skip
      refine Ev.run 6 (pc' := 43) (lv' := [(6, .int (nI k)), (5, .int (nI (bset (fun z => (neB g f n (goB g f n) y).testBit z && !decide ((f &&& bset (plB g n z) (g 166 0)) &&& X = 0)) k))), (4, .int (nI (neB g f n (goB g f n) y))), (0, .ref 13), (1, .int (nI f)), (2, .int (nI n)), (3, .int (nI y))]) (st' := [.int (nI k), .int (nI n), .ref 13, .int (nI f), .ref 13]) (h' := HN g hl (RF rt)) rfl ?_
      refine Ev.call (a := 12) (as := [.ref 13, .int (nI n), .int (nI k)]) (rest := [.int (nI f), .ref 13]) (lv0 := [(0, .ref 13), (1, .int (nI n)), (2, .int (nI k))]) (Q1 := (fun z0 h' => z0 = some (.int (nI (bset (plB g n k) (g 166 0)))) ∧ h' = HN g hl (RF rt))) rfl rfl (K_having _ _ _ _ hI hB n k (by omega) (by omega) ⟨rfl, rfl⟩) (fun r h' hr => ?_)
      obtain ⟨rfl, rfl⟩ := hr
      have hbs46 := bset_12 (plB g n k) hW
      refine Ev.run 1 (pc' := 47) (lv' := [(6, .int (nI k)), (5, .int (nI (bset (fun z => (neB g f n (goB g f n) y).testBit z && !decide ((f &&& bset (plB g n z) (g 166 0)) &&& X = 0)) k))), (4, .int (nI (neB g f n (goB g f n) y))), (0, .ref 13), (1, .int (nI f)), (2, .int (nI n)), (3, .int (nI y))]) (st' := [.int (nI f &&& nI (bset (plB g n k) (g 166 0))), .ref 13]) (h' := HN g hl (RF rt)) rfl ?_
      refine Ev.topI (nIa _ _) ?_
      refine Ev.run 3 (pc' := 50) (lv' := [(6, .int (nI k)), (5, .int (nI (bset (fun z => (neB g f n (goB g f n) y).testBit z && !decide ((f &&& bset (plB g n z) (g 166 0)) &&& X = 0)) k))), (4, .int (nI (neB g f n (goB g f n) y))), (0, .ref 13), (1, .int (nI f)), (2, .int (nI n)), (3, .int (nI y))]) (st' := [.int (nI n + nI 1), .int (nI (f &&& (bset (plB g n k) (g 166 0)))), .ref 13]) (h' := HN g hl (RF rt)) rfl ?_
      refine Ev.topI (nI_add _ _) ?_
      refine Ev.call (a := 20) (as := [.ref 13, .int (nI (f &&& (bset (plB g n k) (g 166 0)))), .int (nI (n + 1))]) (rest := []) (lv0 := [(0, .ref 13), (1, .int (nI (f &&& (bset (plB g n k) (g 166 0))))), (2, .int (nI (n + 1)))]) (Q1 := (fun z0 h' => z0 = some (.int (nI (bn (!decide ((f &&& (bset (plB g n k) (g 166 0))) &&& X = 0))))) ∧ h' = HN g hl (RF rt))) rfl rfl (K_isLost _ _ _ _ (f &&& (bset (plB g n k) (g 166 0))) (by omega) (n + 1) X (by omega) hX hX0 hX4 ⟨rfl, rfl⟩) (fun r h' hr => ?_)
      obtain ⟨rfl, rfl⟩ := hr
      refine Ev_bn (fun hb53 => ?_) (fun hb53 => ?_)
      · skip
        refine Ev.run 5 (pc' := 62) (lv' := [(6, .int (nI k)), (5, .int (nI (bset (fun z => (neB g f n (goB g f n) y).testBit z && !decide ((f &&& bset (plB g n z) (g 166 0)) &&& X = 0)) k))), (4, .int (nI (neB g f n (goB g f n) y))), (0, .ref 13), (1, .int (nI f)), (2, .int (nI n)), (3, .int (nI y))]) (st' := [.int (nI 1 <<< (nI k &&& 31)), .int (nI (bset (fun z => (neB g f n (goB g f n) y).testBit z && !decide ((f &&& bset (plB g n z) (g 166 0)) &&& X = 0)) k))]) (h' := HN g hl (RF rt)) rfl ?_
        refine Ev.topI (nI_shl (by omega)) ?_
        refine Ev.run 1 (pc' := 63) (lv' := [(6, .int (nI k)), (5, .int (nI (bset (fun z => (neB g f n (goB g f n) y).testBit z && !decide ((f &&& bset (plB g n z) (g 166 0)) &&& X = 0)) k))), (4, .int (nI (neB g f n (goB g f n) y))), (0, .ref 13), (1, .int (nI f)), (2, .int (nI n)), (3, .int (nI y))]) (st' := [.int (nI (bset (fun z => (neB g f n (goB g f n) y).testBit z && !decide ((f &&& bset (plB g n z) (g 166 0)) &&& X = 0)) k) ||| nI (nSh 1 k))]) (h' := HN g hl (RF rt)) rfl ?_
        refine Ev.topI (nIo _ _) ?_
        refine Ev.run 2 (pc' := 68) (lv' := [(6, .int (nI k + 1)), (5, .int (nI ((bset (fun z => (neB g f n (goB g f n) y).testBit z && !decide ((f &&& bset (plB g n z) (g 166 0)) &&& X = 0)) k) ||| (nSh 1 k)))), (4, .int (nI (neB g f n (goB g f n) y))), (0, .ref 13), (1, .int (nI f)), (2, .int (nI n)), (3, .int (nI y))]) (st' := []) (h' := HN g hl (RF rt)) rfl ?_
        refine Ev.lvE (congrArg (fun z => (6, Value.int z) :: [(5, .int (nI ((bset (fun z => (neB g f n (goB g f n) y).testBit z && !decide ((f &&& bset (plB g n z) (g 166 0)) &&& X = 0)) k) ||| (nSh 1 k)))), (4, .int (nI (neB g f n (goB g f n) y))), (0, .ref 13), (1, .int (nI f)), (2, .int (nI n)), (3, .int (nI y))]) (nI_1 _)) ?_
        refine Ev.run 1 (pc' := 21) (lv' := [(6, .int (nI (k + 1))), (5, .int (nI ((bset (fun z => (neB g f n (goB g f n) y).testBit z && !decide ((f &&& bset (plB g n z) (g 166 0)) &&& X = 0)) k) ||| (nSh 1 k)))), (4, .int (nI (neB g f n (goB g f n) y))), (0, .ref 13), (1, .int (nI f)), (2, .int (nI n)), (3, .int (nI y))]) (st' := []) (h' := HN g hl (RF rt)) rfl ?_
        have hx := hnext (by omega)
        rw [bset_s1 (p := fun z => (neB g f n (goB g f n) y).testBit z && !decide ((f &&& bset (plB g n z) (g 166 0)) &&& X = 0)) (by simp only [hb34, hb53, Bool.and_true, Bool.and_false, Bool.true_and, Bool.false_and, decide_true, decide_false, Bool.not_true, Bool.not_false])] at hx
        exact Ev.wk (Ext.cons rfl rfl (Ext.cons rfl rfl (Ext.cons rfl rfl (Ext.cons rfl rfl (Ext.cons rfl rfl (Ext.cons rfl rfl (Ext.cons rfl rfl (Ext.nil rfl)))))))) hx
      · skip
        refine Ev.run 2 (pc' := 68) (lv' := [(6, .int (nI k + 1)), (5, .int (nI (bset (fun z => (neB g f n (goB g f n) y).testBit z && !decide ((f &&& bset (plB g n z) (g 166 0)) &&& X = 0)) k))), (4, .int (nI (neB g f n (goB g f n) y))), (0, .ref 13), (1, .int (nI f)), (2, .int (nI n)), (3, .int (nI y))]) (st' := []) (h' := HN g hl (RF rt)) rfl ?_
        refine Ev.lvE (congrArg (fun z => (6, Value.int z) :: [(5, .int (nI (bset (fun z => (neB g f n (goB g f n) y).testBit z && !decide ((f &&& bset (plB g n z) (g 166 0)) &&& X = 0)) k))), (4, .int (nI (neB g f n (goB g f n) y))), (0, .ref 13), (1, .int (nI f)), (2, .int (nI n)), (3, .int (nI y))]) (nI_1 _)) ?_
        refine Ev.run 1 (pc' := 21) (lv' := [(6, .int (nI (k + 1))), (5, .int (nI (bset (fun z => (neB g f n (goB g f n) y).testBit z && !decide ((f &&& bset (plB g n z) (g 166 0)) &&& X = 0)) k))), (4, .int (nI (neB g f n (goB g f n) y))), (0, .ref 13), (1, .int (nI f)), (2, .int (nI n)), (3, .int (nI y))]) (st' := []) (h' := HN g hl (RF rt)) rfl ?_
        have hx := hnext (by omega)
        rw [bset_se (p := fun z => (neB g f n (goB g f n) y).testBit z && !decide ((f &&& bset (plB g n z) (g 166 0)) &&& X = 0)) (by simp only [hb34, hb53, Bool.and_true, Bool.and_false, Bool.true_and, Bool.false_and, decide_true, decide_false, Bool.not_true, Bool.not_false])] at hx
        exact Ev.wk (Ext.cons rfl rfl (Ext.cons rfl rfl (Ext.cons rfl rfl (Ext.cons rfl rfl (Ext.cons rfl rfl (Ext.cons rfl rfl (Ext.cons rfl rfl (Ext.nil rfl)))))))) hx
    · skip
      refine Ev.run 2 (pc' := 68) (lv' := [(6, .int (nI k + 1)), (5, .int (nI (bset (fun z => (neB g f n (goB g f n) y).testBit z && !decide ((f &&& bset (plB g n z) (g 166 0)) &&& X = 0)) k))), (4, .int (nI (neB g f n (goB g f n) y))), (0, .ref 13), (1, .int (nI f)), (2, .int (nI n)), (3, .int (nI y))]) (st' := []) (h' := HN g hl (RF rt)) rfl ?_
      refine Ev.lvE (congrArg (fun z => (6, Value.int z) :: [(5, .int (nI (bset (fun z => (neB g f n (goB g f n) y).testBit z && !decide ((f &&& bset (plB g n z) (g 166 0)) &&& X = 0)) k))), (4, .int (nI (neB g f n (goB g f n) y))), (0, .ref 13), (1, .int (nI f)), (2, .int (nI n)), (3, .int (nI y))]) (nI_1 _)) ?_
      refine Ev.run 1 (pc' := 21) (lv' := [(6, .int (nI (k + 1))), (5, .int (nI (bset (fun z => (neB g f n (goB g f n) y).testBit z && !decide ((f &&& bset (plB g n z) (g 166 0)) &&& X = 0)) k))), (4, .int (nI (neB g f n (goB g f n) y))), (0, .ref 13), (1, .int (nI f)), (2, .int (nI n)), (3, .int (nI y))]) (st' := []) (h' := HN g hl (RF rt)) rfl ?_
      have hx := hnext (by omega)
      rw [bset_se (p := fun z => (neB g f n (goB g f n) y).testBit z && !decide ((f &&& bset (plB g n z) (g 166 0)) &&& X = 0)) (by simp only [hb34, Bool.and_true, Bool.and_false, Bool.true_and, Bool.false_and, decide_true, decide_false, Bool.not_true, Bool.not_false])] at hx
      exact Ev.wk (Ext.cons rfl rfl (Ext.cons rfl rfl (Ext.cons rfl rfl (Ext.cons rfl rfl (Ext.cons rfl rfl (Ext.cons rfl rfl (Ext.cons rfl rfl (Ext.nil rfl)))))))) hx
theorem K_bookFull {L : Nat} {xs : Nat → Int32} (d : Nat) (g : Nat → Nat → Nat) (hl : Nat → Nat → Int64) (rt : Nat × Nat × Nat × Nat) (hI : MI g) (hB : CB g)  {Q : Po} (hq : Q (some (.int (nI (bn (decide (12 ≤ g 166 0)))))) (HN g hl (RF rt))) : Ev L xs d 7 0 [(0, .ref 13)] [] (HN g hl (RF rt)) Q := by
  have hW := hI.hW
  have hS := hI.hS
  have hPl := hI.hPl
  have hNx := hI.hNx
  have hLa := hI.hLa
  have hLo := hI.hLo
  have hTb := hI.hTb
  have hTh := hI.hTh
  have hFd := hI.hFd
  have hSn := hI.hSn
  have hSh := hI.hSh
  have hRan := hI.hRan
  have hLr := hI.hLr
  have hLt := hI.hLt
  have hgl := hI.hgl
  have hsz := hI.hsz
  have hcm := hI.hcm
  have hsl := hI.hsl
  have hkd := hI.hkd
  have hvv := hI.hvv
  have hli := hI.hli
  have hro := hI.hro
  have hrw := hI.hrw
  have htx := hI.htx
  have hsw := hI.hsw
  have hsx := hI.hsx
  have hsy := hI.hsy
  have hsh := hI.hsh
  have hle := hI.hle
  have hcl := hI.hcl
  have hwd := hI.hwd
  have hnu := hI.hnu
  have hwn := hI.hwn
  have hs1 := hI.hs1
  have hso := hI.hso
  have hB0 := hB.1
  refine Ev.run 4 (pc' := (if nI (g 13 5) < nI 12 then 13 else 9)) (lv' := [(0, .ref 13)]) (st' := []) (h' := HN g hl (RF rt)) rfl ?_
  refine Ev.ite (fun hc6 => ?_) (fun hc6 => ?_)
  · have hc6 : (g 13 5) < 12 := (nI_ltI (by omega) (by omega)).mp hc6
    refine Ev.run 1 (pc' := 14) (lv' := [(0, .ref 13)]) (st' := [.int (nI 0)]) (h' := HN g hl (RF rt)) rfl ?_
    refine Ev.ret (v := some (.int (nI 0))) rfl ?_
    first | (rw [decide_eq_true (by omega)] at hq; exact hq) | (rw [decide_eq_false (by omega)] at hq; exact hq)
  · have hc6 : ¬ ((g 13 5) < 12) := fun z => hc6 ((nI_ltI (by omega) (by omega)).mpr z)
    refine Ev.run 2 (pc' := 14) (lv' := [(0, .ref 13)]) (st' := [.int (nI 1)]) (h' := HN g hl (RF rt)) rfl ?_
    refine Ev.ret (v := some (.int (nI 1))) rfl ?_
    first | (rw [decide_eq_true (by omega)] at hq; exact hq) | (rw [decide_eq_false (by omega)] at hq; exact hq)
theorem K_asCommonAs {L : Nat} {xs : Nat → Int32} (d : Nat) (g : Nat → Nat → Nat) (hl : Nat → Nat → Int64) (rt : Nat × Nat × Nat × Nat) (hI : MI g) (hB : CB g) (m : Nat) (hm : m ≤ 9) {Q : Po} (hq : Q (some (.int (nI (bset (fun i => !decide (g 169 i < m)) (g 166 0))))) (HN g hl (RF rt))) : Ev L xs d 11 0 [(0, .ref 13), (1, .int (nI m))] [] (HN g hl (RF rt)) Q := by
  have hW := hI.hW
  have hS := hI.hS
  have hPl := hI.hPl
  have hNx := hI.hNx
  have hLa := hI.hLa
  have hLo := hI.hLo
  have hTb := hI.hTb
  have hTh := hI.hTh
  have hFd := hI.hFd
  have hSn := hI.hSn
  have hSh := hI.hSh
  have hRan := hI.hRan
  have hLr := hI.hLr
  have hLt := hI.hLt
  have hgl := hI.hgl
  have hsz := hI.hsz
  have hcm := hI.hcm
  have hsl := hI.hsl
  have hkd := hI.hkd
  have hvv := hI.hvv
  have hli := hI.hli
  have hro := hI.hro
  have hrw := hI.hrw
  have htx := hI.htx
  have hsw := hI.hsw
  have hsx := hI.hsx
  have hsy := hI.hsy
  have hsh := hI.hsh
  have hle := hI.hle
  have hcl := hI.hcl
  have hwd := hI.hwd
  have hnu := hI.hnu
  have hwn := hI.hwn
  have hs1 := hI.hs1
  have hso := hI.hso
  have hB0 := hB.1
  refine Ev.run 4 (pc' := 4) (lv' := [(3, .int (nI 0)), (2, .int (nI 0)), (0, .ref 13), (1, .int (nI m))]) (st' := []) (h' := HN g hl (RF rt)) rfl ?_
  refine for_ind (g 166 0) (fun k => Ev L xs d 11 4 [(3, .int (nI k)), (2, .int (nI (bset (fun i => !decide (g 169 i < m)) k))), (0, .ref 13), (1, .int (nI m))] [] (HN g hl (RF rt)) Q) (fun k hk hnext => ?_) 0 (Nat.zero_le _)
  have hbw := bset_12 (fun i => !decide (g 169 i < m)) (n := k) (by omega)
  have h15b : k < 12 → g 15 k ≤ 9 := fun z => by rw [hB.2.2.2.1 k z]; exact hcm k z
  refine Ev.run 4 (pc' := (if nI (g 13 5) ≤ nI k then 34 else 12)) (lv' := [(3, .int (nI k)), (2, .int (nI (bset (fun i => !decide (g 169 i < m)) k))), (0, .ref 13), (1, .int (nI m))]) (st' := []) (h' := HN g hl (RF rt)) rfl ?_
  refine Ev.ite (fun hc9 => ?_) (fun hc9 => ?_)
  · have hc9 : (g 13 5) ≤ k := (nI_leI (by omega) (by omega)).mp hc9
    refine Ev.run 1 (pc' := 35) (lv' := [(3, .int (nI k)), (2, .int (nI (bset (fun i => !decide (g 169 i < m)) k))), (0, .ref 13), (1, .int (nI m))]) (st' := [.int (nI (bset (fun i => !decide (g 169 i < m)) k))]) (h' := HN g hl (RF rt)) rfl ?_
    refine Ev.ret (v := some (.int (nI (bset (fun i => !decide (g 169 i < m)) k)))) rfl ?_
    have hkW : k = g 166 0 := by omega
    rw [← hkW] at hq
    exact hq
  · have hc9 : ¬ ((g 13 5) ≤ k) := fun z => hc9 ((nI_leI (by omega) (by omega)).mpr z)
    refine Ev.run 3 (pc' := 17) (lv' := [(3, .int (nI k)), (2, .int (nI (bset (fun i => !decide (g 169 i < m)) k))), (0, .ref 13), (1, .int (nI m))]) (st' := [.int (nI k), .ref 15]) (h' := HN g hl (RF rt)) rfl ?_
    refine Ev_iald rfl rfl (show k < 12 by omega) (Nat.le_of_ble_eq_true rfl) ?_
    refine Ev.run 2 (pc' := (if nI (g 15 k) < nI m then 28 else 22)) (lv' := [(3, .int (nI k)), (2, .int (nI (bset (fun i => !decide (g 169 i < m)) k))), (0, .ref 13), (1, .int (nI m))]) (st' := []) (h' := HN g hl (RF rt)) rfl ?_
    refine Ev.ite (fun hc19 => ?_) (fun hc19 => ?_)
    · have hc19 : (g 15 k) < m := (nI_ltI (by omega) (by omega)).mp hc19
      refine Ev.run 1 (pc' := 31) (lv' := [(3, .int (nI k + 1)), (2, .int (nI (bset (fun i => !decide (g 169 i < m)) k))), (0, .ref 13), (1, .int (nI m))]) (st' := []) (h' := HN g hl (RF rt)) rfl ?_
      refine Ev.lvE (congrArg (fun z => (3, Value.int z) :: [(2, .int (nI (bset (fun i => !decide (g 169 i < m)) k))), (0, .ref 13), (1, .int (nI m))]) (nI_1 _)) ?_
      refine Ev.run 1 (pc' := 4) (lv' := [(3, .int (nI (k + 1))), (2, .int (nI (bset (fun i => !decide (g 169 i < m)) k))), (0, .ref 13), (1, .int (nI m))]) (st' := []) (h' := HN g hl (RF rt)) rfl ?_
      have hx := hnext (by omega)
      rw [bset_se (p := fun i => !decide (g 169 i < m)) (by have h15 := hB.2.2.2.1 k (by omega); rw [← h15]; simp only [hc19, Bool.and_true, Bool.and_false, Bool.true_and, Bool.false_and, decide_true, decide_false, Bool.not_true, Bool.not_false])] at hx
      exact Ev.wk (Ext.cons rfl rfl (Ext.cons rfl rfl (Ext.cons rfl rfl (Ext.cons rfl rfl (Ext.nil rfl))))) hx
    · have hc19 : ¬ ((g 15 k) < m) := fun z => hc19 ((nI_ltI (by omega) (by omega)).mpr z)
      refine Ev.run 4 (pc' := 26) (lv' := [(3, .int (nI k)), (2, .int (nI (bset (fun i => !decide (g 169 i < m)) k))), (0, .ref 13), (1, .int (nI m))]) (st' := [.int (nI 1 <<< (nI k &&& 31)), .int (nI (bset (fun i => !decide (g 169 i < m)) k))]) (h' := HN g hl (RF rt)) rfl ?_
      refine Ev.topI (nI_shl (by omega)) ?_
      refine Ev.run 1 (pc' := 27) (lv' := [(3, .int (nI k)), (2, .int (nI (bset (fun i => !decide (g 169 i < m)) k))), (0, .ref 13), (1, .int (nI m))]) (st' := [.int (nI (bset (fun i => !decide (g 169 i < m)) k) ||| nI (nSh 1 k))]) (h' := HN g hl (RF rt)) rfl ?_
      refine Ev.topI (nIo _ _) ?_
      refine Ev.run 2 (pc' := 31) (lv' := [(3, .int (nI k + 1)), (2, .int (nI ((bset (fun i => !decide (g 169 i < m)) k) ||| (nSh 1 k)))), (0, .ref 13), (1, .int (nI m))]) (st' := []) (h' := HN g hl (RF rt)) rfl ?_
      refine Ev.lvE (congrArg (fun z => (3, Value.int z) :: [(2, .int (nI ((bset (fun i => !decide (g 169 i < m)) k) ||| (nSh 1 k)))), (0, .ref 13), (1, .int (nI m))]) (nI_1 _)) ?_
      refine Ev.run 1 (pc' := 4) (lv' := [(3, .int (nI (k + 1))), (2, .int (nI ((bset (fun i => !decide (g 169 i < m)) k) ||| (nSh 1 k)))), (0, .ref 13), (1, .int (nI m))]) (st' := []) (h' := HN g hl (RF rt)) rfl ?_
      have hx := hnext (by omega)
      rw [bset_s1 (p := fun i => !decide (g 169 i < m)) (by have h15 := hB.2.2.2.1 k (by omega); rw [← h15]; simp only [hc19, Bool.and_true, Bool.and_false, Bool.true_and, Bool.false_and, decide_true, decide_false, Bool.not_true, Bool.not_false])] at hx
      exact Ev.wk (Ext.cons rfl rfl (Ext.cons rfl rfl (Ext.cons rfl rfl (Ext.cons rfl rfl (Ext.nil rfl))))) hx
