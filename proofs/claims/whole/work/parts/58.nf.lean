/-! the class: which rows are lost -/
section U18
variable {g : Nat → Nat → Nat} {w : Nat → Nat}
theorem MI.u18 (h : MI g) : MI (ur g 18 w) := h
theorem CB.u18 (h : CB g) : CB (ur g 18 w) := by
  obtain ⟨h1, h2, h3, h4, h5, h6⟩ := h
  refine ⟨h1, fun i hi => ?_, fun i k hi hk => ?_, h4, h5, h6⟩
  · have e : ur g 18 w (19 + 2 * i) 1 = g (19 + 2 * i) 1 := by unfold ur; rw [if_neg (by omega)]
    rw [e]; exact h2 i hi
  · have e : ur g 18 w (19 + 2 * i + 1) k = g (19 + 2 * i + 1) k := by unfold ur; rw [if_neg (by omega)]
    rw [e]; exact h3 i k hi hk
theorem atLn_u18 {c : Nat} (h1 : c ≠ 18) (h2 : c + 1 ≠ 18) : atLn (ur g 18 w) c = atLn g c := by
  funext k
  unfold atLn ur
  rw [if_neg h1, if_neg h2]
theorem ftB_u18 {c : Nat} (n : Nat) (h1 : c ≠ 18) (h2 : c + 1 ≠ 18) : ftB (ur g 18 w) c n = ftB g c n := by
  unfold ftB
  rw [atLn_u18 h1 h2]
  rfl
end U18
theorem atW {g : Nat → Nat → Nat} (h : MI g) (hB : CB g) {o : Nat} (ho : o < 12) (k : Nat) : atLn g (19 + 2 * o) k < 4294967296 := by
  unfold atLn
  split
  · rename_i e
    rw [hB.2.1 o ho] at e
    rw [hB.2.2.1 o k ho e]
    have h1 := h.hsz o ho
    have h2 := h.hgl (6 * o + k) (by omega)
    omega
  · decide
noncomputable def ftL (g : Nat → Nat → Nat) (o m : Nat) : Nat := ftB g (19 + 2 * o) m
noncomputable def lsW (g : Nat → Nat → Nat) (s y : Nat) : Nat → Nat
  | 0 => 0
  | f + 1 => bset (fun o => (s &&& ftL g o (6 - f)).testBit o && decide (wiF g (s &&& ftL g o (6 - f)) (6 - f) y (lsW g s y f) = 0)) (g 166 0)
theorem lsW_lt {g : Nat → Nat → Nat} (h : MI g) (s y : Nat) (f : Nat) : lsW g s y f < 4096 := by
  cases f with
  | zero => show 0 < 4096; decide
  | succ f => exact bset_12 _ h.hW
def LOK (g : Nat → Nat → Nat) (s y : Nat) (w : Nat → Nat) (f : Nat) : Prop := ∀ j, j < f → w (6 - j) = lsW g s y (j + 1)
theorem LOK.lup {g : Nat → Nat → Nat} {s y : Nat} {w : Nat → Nat} {f x : Nat} (h : LOK g s y w f) (hf : f < 6) : LOK g s y (up w (6 - f) x) f := fun j hj => by
  exact (show up w (6 - f) x (6 - j) = w (6 - j) from if_neg (by omega)).trans (h j hj)
theorem LOK.s {g : Nat → Nat → Nat} {s y : Nat} {w : Nat → Nat} {f : Nat} (h : LOK g s y w f) (he : w (6 - f) = lsW g s y (f + 1)) : LOK g s y w (f + 1) := fun j hj => by
  by_cases e : j = f
  · rw [e]; exact he
  · exact h j (by omega)
theorem K_weigh {L : Nat} {xs : Nat → Int32} (d : Nat) (g : Nat → Nat → Nat) (hl : Nat → Nat → Int64) (rt : Nat × Nat × Nat × Nat) (hI : MI g) (hB : CB g) (s y : Nat) (hs : s < 4096) (hy : y ≤ 900) {Q : Po} (hq : ∀ w : Nat → Nat, LOK g s y w 6 → Q none (HN (ur g 18 w) hl (RF rt))) : Ev L xs (d + 4) 18 0 [(0, .ref 13), (1, .int (nI s)), (2, .int (nI y))] [] (HN g hl (RF rt)) Q := by
  have hW := hI.hW
  have hS := hI.hS
  have hPl := hI.hPl
  have hNx := hI.hNx
  have hLa := hI.hLa
  have hLo := hI.hLo
  have hTb := hI.hTb
  have hTh := hI.hTh
  have hFd := hI.hFd
  have hSn := hI.hSn
  have hSh := hI.hSh
  have hRan := hI.hRan
  have hLr := hI.hLr
  have hLt := hI.hLt
  have hgl := hI.hgl
  have hsz := hI.hsz
  have hcm := hI.hcm
  have hsl := hI.hsl
  have hkd := hI.hkd
  have hvv := hI.hvv
  have hli := hI.hli
  have hro := hI.hro
  have hrw := hI.hrw
  have htx := hI.htx
  have hsw := hI.hsw
  have hsx := hI.hsx
  have hsy := hI.hsy
  have hsh := hI.hsh
  have hle := hI.hle
  have hcl := hI.hcl
  have hwd := hI.hwd
  have hnu := hI.hnu
  have hwn := hI.hwn
  have hs1 := hI.hs1
  have hso := hI.hso
  have hB0 := hB.1
  refine Ev.run 2 (pc' := 3) (lv' := [(3, .int (nI 6)), (0, .ref 13), (1, .int (nI s)), (2, .int (nI y))]) (st' := []) (h' := HN g hl (RF rt)) rfl ?_
  refine Ev.hp (congrArg (fun z => HN z hl (RF rt)) (ur_self g 18).symm) ?_
  refine for_ind 6 (fun f => ∀ w, LOK g s y w f → Ev L xs (d + 4) 18 3 [(3, .int (nI (6 - f))), (0, .ref 13), (1, .int (nI s)), (2, .int (nI y))] [] (HN (ur g 18 w) hl (RF rt)) Q) (fun f hf hnextO => ?_) 0 (Nat.zero_le _) (g 18) (fun j hj => absurd hj (Nat.not_lt_zero _))
  intro w hw
  refine Ev.run 3 (pc' := (if nI (6 - f) < nI 1 then 89 else 8)) (lv' := [(3, .int (nI (6 - f))), (0, .ref 13), (1, .int (nI s)), (2, .int (nI y))]) (st' := []) (h' := HN (ur g 18 w) hl (RF rt)) rfl ?_
  refine Ev.ite (fun hc5 => ?_) (fun hc5 => ?_)
  · have hc5 : (6 - f) < 1 := (nI_ltI (by omega) (by omega)).mp hc5
    refine Ev.ret (v := none) rfl ?_
    exact hq w (fun j hj => hw j (by omega))
  · have hc5 : ¬ ((6 - f) < 1) := fun z => hc5 ((nI_ltI (by omega) (by omega)).mpr z)
    refine Ev.run 4 (pc' := 14) (lv' := [(3, .int (nI (6 - f))), (0, .ref 13), (1, .int (nI s)), (2, .int (nI y))]) (st' := [.int (nI 0), .int (nI (6 - f)), .ref 18]) (h' := HN (ur g 18 w) hl (RF rt)) rfl ?_
    refine Ev_iast rfl rfl (show 6 - f < 7 by omega) (Nat.le_of_ble_eq_true rfl) ?_
    refine Ev.run 2 (pc' := 18) (lv' := [(4, .int (nI 0)), (3, .int (nI (6 - f))), (0, .ref 13), (1, .int (nI s)), (2, .int (nI y))]) (st' := []) (h' := HN (u2 (ur g 18 w) 18 (6 - f) 0) hl (RF rt)) rfl ?_
    rw [ur_up]
    refine for_ind (g 166 0) (fun k => ∀ w, LOK g s y w f → w (6 - f) = bset (fun o => (s &&& ftL g o (6 - f)).testBit o && decide (wiF g (s &&& ftL g o (6 - f)) (6 - f) y (lsW g s y f) = 0)) k → Ev L xs (d + 4) 18 18 [(4, .int (nI k)), (3, .int (nI (6 - f))), (0, .ref 13), (1, .int (nI s)), (2, .int (nI y))] [] (HN (ur g 18 w) hl (RF rt)) Q) (fun k hk hnext => ?_) 0 (Nat.zero_le _) (up w (6 - f) 0) (hw.lup (by omega)) (by show (if _ then _ else _) = _; rw [if_pos rfl]; rfl)
    clear hw
    intro w hw hk0
    have hIu := hI.u18 (w := w)
    have hBu := hB.u18 (w := w)
    refine Ev.run 4 (pc' := (if nI (g 13 5) ≤ nI k then 83 else 27)) (lv' := [(4, .int (nI k)), (3, .int (nI (6 - f))), (0, .ref 13), (1, .int (nI s)), (2, .int (nI y))]) (st' := []) (h' := HN (ur g 18 w) hl (RF rt)) rfl ?_
    refine Ev.ite (fun hc24 => ?_) (fun hc24 => ?_)
    · have hc24 : (g 13 5) ≤ k := (nI_leI (by omega) (by omega)).mp hc24
      refine Ev.run 1 (pc' := 86) (lv' := [(3, .int (nI (6 - f) + nI 4294967295)), (4, .int (nI k)), (0, .ref 13), (1, .int (nI s)), (2, .int (nI y))]) (st' := []) (h' := HN (ur g 18 w) hl (RF rt)) rfl ?_
      refine Ev.lvE (congrArg (fun z => (3, Value.int z) :: [(4, .int (nI k)), (0, .ref 13), (1, .int (nI s)), (2, .int (nI y))]) (nI_dec (n := (6 - f)) 1 (by omega))) ?_
      refine Ev.run 1 (pc' := 3) (lv' := [(3, .int (nI (6 - f - 1))), (4, .int (nI k)), (0, .ref 13), (1, .int (nI s)), (2, .int (nI y))]) (st' := []) (h' := HN (ur g 18 w) hl (RF rt)) rfl ?_
      have hkW : k = g 166 0 := by omega
      have hx := hnextO (by omega) w (hw.s (by rw [hk0, hkW]; rfl))
      exact Ev.wk (Ext.cons rfl rfl (Ext.cons rfl rfl (Ext.cons rfl rfl (Ext.cons rfl rfl (Ext.nil rfl))))) hx
    · have hc24 : ¬ ((g 13 5) ≤ k) := fun z => hc24 ((nI_leI (by omega) (by omega)).mpr z)
      refine Ev.run 5 (pc' := 35) (lv' := [(4, .int (nI k)), (3, .int (nI (6 - f))), (0, .ref 13), (1, .int (nI s)), (2, .int (nI y))]) (st' := [.int (nI k), .ref 14, .ref 13, .int (nI s)]) (h' := HN (ur g 18 w) hl (RF rt)) rfl ?_
      refine Ev_aald (c := (19 + 2 * k)) rfl (by decide) rfl (show k < 12 by omega) (Nat.le_of_ble_eq_true rfl) (rf_line rt k (by omega)).2 ?_
      refine Ev.run 1 (pc' := 37) (lv' := [(4, .int (nI k)), (3, .int (nI (6 - f))), (0, .ref 13), (1, .int (nI s)), (2, .int (nI y))]) (st' := [.int (nI (6 - f)), .ref (19 + 2 * k), .ref 13, .int (nI s)]) (h' := HN (ur g 18 w) hl (RF rt)) rfl ?_
      refine Ev.call (a := 13) (as := [.ref 13, .ref (19 + 2 * k), .int (nI (6 - f))]) (rest := [.int (nI s)]) (lv0 := [(0, .ref 13), (1, .ref (19 + 2 * k)), (2, .int (nI (6 - f)))]) (Q1 := (fun z0 h' => z0 = some (.int (nI (ftL g k (6 - f)))) ∧ h' = HN (ur g 18 w) hl (RF rt))) rfl rfl (K_fitting _ (ur g 18 w) _ _ hIu hBu (19 + 2 * k) 6 (LnW rt (by omega)) (6 - f) (by omega) (by show ur g 18 w (19 + 2 * k) 1 ≤ 6; rw [hBu.2.1 k (by omega)]; exact hsz k (by omega)) (fun j => atW hIu hBu (by omega) j) ⟨congrArg (fun z => some (Value.int (nI z))) (ftB_u18 _ (by omega) (by omega)), rfl⟩) (fun r h' hr => ?_)
      obtain ⟨rfl, rfl⟩ := hr
      have hfl : ftL g k (6 - f) < 4096 := bset_12 _ hW
      have hand : s &&& ftL g k (6 - f) ≤ ftL g k (6 - f) := Nat.and_le_right
      refine Ev.run 1 (pc' := 41) (lv' := [(4, .int (nI k)), (3, .int (nI (6 - f))), (0, .ref 13), (1, .int (nI s)), (2, .int (nI y))]) (st' := [.int (nI s &&& nI (ftL g k (6 - f)))]) (h' := HN (ur g 18 w) hl (RF rt)) rfl ?_
      refine Ev.topI (nIa _ _) ?_
      refine Ev.run 3 (pc' := 47) (lv' := [(5, .int (nI (s &&& (ftL g k (6 - f))))), (4, .int (nI k)), (3, .int (nI (6 - f))), (0, .ref 13), (1, .int (nI s)), (2, .int (nI y))]) (st' := [.int (nI k), .int (nI (s &&& (ftL g k (6 - f))))]) (h' := HN (ur g 18 w) hl (RF rt)) rfl ?_
      refine Ev.call (a := 122) (as := [.int (nI (s &&& (ftL g k (6 - f)))), .int (nI k)]) (rest := []) (lv0 := [(0, .int (nI (s &&& (ftL g k (6 - f))))), (1, .int (nI k))]) (Q1 := (fun z0 h' => z0 = some (.int (nI (bn (Nat.testBit (s &&& (ftL g k (6 - f))) k)))) ∧ h' = HN (ur g 18 w) hl (RF rt))) rfl rfl (K_isIn _ _ _ _ (s &&& (ftL g k (6 - f))) k (by omega) (by omega) ⟨rfl, rfl⟩) (fun r h' hr => ?_)
      obtain ⟨rfl, rfl⟩ := hr
      refine Ev_bn (fun hb50 => ?_) (fun hb50 => ?_)
      · skip
        refine Ev.run 5 (pc' := 58) (lv' := [(5, .int (nI (s &&& (ftL g k (6 - f))))), (4, .int (nI k)), (3, .int (nI (6 - f))), (0, .ref 13), (1, .int (nI s)), (2, .int (nI y))]) (st' := [.int (nI y), .int (nI (6 - f)), .int (nI (s &&& (ftL g k (6 - f)))), .ref 13]) (h' := HN (ur g 18 w) hl (RF rt)) rfl ?_
        refine Ev.call (a := 19) (as := [.ref 13, .int (nI (s &&& (ftL g k (6 - f)))), .int (nI (6 - f)), .int (nI y)]) (rest := []) (lv0 := [(0, .ref 13), (1, .int (nI (s &&& (ftL g k (6 - f))))), (2, .int (nI (6 - f))), (3, .int (nI y))]) (Q1 := (fun z0 h' => z0 = some (.int (nI (wiF g (s &&& ftL g k (6 - f)) (6 - f) y (lsW g s y f)))) ∧ h' = HN (ur g 18 w) hl (RF rt))) rfl rfl (K_winning _ (ur g 18 w) _ _ hIu hBu (s &&& ftL g k (6 - f)) (by omega) (6 - f) y (lsW g s y f) (by omega) (by omega) (fun h => by show w (6 - f + 1) = _; rw [show 6 - f + 1 = 6 - (f - 1) by omega, hw (f - 1) (by omega), show f - 1 + 1 = f by omega]) (fun h => by rw [show f = 0 by omega]; rfl) (lsW_lt hI _ _ _) ⟨rfl, rfl⟩) (fun r h' hr => ?_)
        obtain ⟨rfl, rfl⟩ := hr
        have hwif : wiF g (s &&& ftL g k (6 - f)) (6 - f) y (lsW g s y f) < 16 := bset_lt _ 4
        refine Ev.run 1 (pc' := (if nI (wiF g (s &&& ftL g k (6 - f)) (6 - f) y (lsW g s y f)) = 0 then 64 else 77)) (lv' := [(5, .int (nI (s &&& (ftL g k (6 - f))))), (4, .int (nI k)), (3, .int (nI (6 - f))), (0, .ref 13), (1, .int (nI s)), (2, .int (nI y))]) (st' := []) (h' := HN (ur g 18 w) hl (RF rt)) rfl ?_
        refine Ev.ite (fun hc61 => ?_) (fun hc61 => ?_)
        · have hc61 : (wiF g (s &&& ftL g k (6 - f)) (6 - f) y (lsW g s y f)) = 0 := (nI_eqU0 (by omega)).mp hc61
          refine Ev.run 4 (pc' := 70) (lv' := [(5, .int (nI (s &&& (ftL g k (6 - f))))), (4, .int (nI k)), (3, .int (nI (6 - f))), (0, .ref 13), (1, .int (nI s)), (2, .int (nI y))]) (st' := [.int (nI (6 - f)), .ref 18, .int (nI (6 - f)), .ref 18]) (h' := HN (ur g 18 w) hl (RF rt)) rfl ?_
          refine Ev_iald rfl rfl (show 6 - f < 7 by omega) (Nat.le_of_ble_eq_true rfl) ?_
          refine Ev.run 3 (pc' := 75) (lv' := [(5, .int (nI (s &&& (ftL g k (6 - f))))), (4, .int (nI k)), (3, .int (nI (6 - f))), (0, .ref 13), (1, .int (nI s)), (2, .int (nI y))]) (st' := [.int (nI 1 <<< (nI k &&& 31)), .int (nI (w (6 - f))), .int (nI (6 - f)), .ref 18]) (h' := HN (ur g 18 w) hl (RF rt)) rfl ?_
          refine Ev.topI (nI_shl (by omega)) ?_
          refine Ev.run 1 (pc' := 76) (lv' := [(5, .int (nI (s &&& (ftL g k (6 - f))))), (4, .int (nI k)), (3, .int (nI (6 - f))), (0, .ref 13), (1, .int (nI s)), (2, .int (nI y))]) (st' := [.int (nI (w (6 - f)) ||| nI (nSh 1 k)), .int (nI (6 - f)), .ref 18]) (h' := HN (ur g 18 w) hl (RF rt)) rfl ?_
          refine Ev.topI (nIo _ _) ?_
          refine Ev_iast rfl rfl (show 6 - f < 7 by omega) (Nat.le_of_ble_eq_true rfl) ?_
          refine Ev.run 1 (pc' := 80) (lv' := [(4, .int (nI k + 1)), (5, .int (nI (s &&& (ftL g k (6 - f))))), (3, .int (nI (6 - f))), (0, .ref 13), (1, .int (nI s)), (2, .int (nI y))]) (st' := []) (h' := HN (u2 (ur g 18 w) 18 (6 - f) ((w (6 - f)) ||| (nSh 1 k))) hl (RF rt)) rfl ?_
          refine Ev.lvE (congrArg (fun z => (4, Value.int z) :: [(5, .int (nI (s &&& (ftL g k (6 - f))))), (3, .int (nI (6 - f))), (0, .ref 13), (1, .int (nI s)), (2, .int (nI y))]) (nI_1 _)) ?_
          refine Ev.run 1 (pc' := 18) (lv' := [(4, .int (nI (k + 1))), (5, .int (nI (s &&& (ftL g k (6 - f))))), (3, .int (nI (6 - f))), (0, .ref 13), (1, .int (nI s)), (2, .int (nI y))]) (st' := []) (h' := HN (u2 (ur g 18 w) 18 (6 - f) ((w (6 - f)) ||| (nSh 1 k))) hl (RF rt)) rfl ?_
          rw [ur_up]
          have hx := hnext (by omega) (up w (6 - f) ((w (6 - f)) ||| (nSh 1 k))) (hw.lup (by omega)) (by show (if _ then _ else _) = _; rw [if_pos rfl, hk0, bset_s1 (p := fun o => (s &&& ftL g o (6 - f)).testBit o && decide (wiF g (s &&& ftL g o (6 - f)) (6 - f) y (lsW g s y f) = 0)) (by simp only [hb50, decide_eq_true hc61, Bool.true_and])])
          exact Ev.wk (Ext.cons rfl rfl (Ext.cons rfl rfl (Ext.cons rfl rfl (Ext.cons rfl rfl (Ext.cons rfl rfl (Ext.nil rfl)))))) hx
        · have hc61 : ¬ ((wiF g (s &&& ftL g k (6 - f)) (6 - f) y (lsW g s y f)) = 0) := fun z => hc61 ((nI_eqU0 (by omega)).mpr z)
          refine Ev.run 1 (pc' := 80) (lv' := [(4, .int (nI k + 1)), (5, .int (nI (s &&& (ftL g k (6 - f))))), (3, .int (nI (6 - f))), (0, .ref 13), (1, .int (nI s)), (2, .int (nI y))]) (st' := []) (h' := HN (ur g 18 w) hl (RF rt)) rfl ?_
          refine Ev.lvE (congrArg (fun z => (4, Value.int z) :: [(5, .int (nI (s &&& (ftL g k (6 - f))))), (3, .int (nI (6 - f))), (0, .ref 13), (1, .int (nI s)), (2, .int (nI y))]) (nI_1 _)) ?_
          refine Ev.run 1 (pc' := 18) (lv' := [(4, .int (nI (k + 1))), (5, .int (nI (s &&& (ftL g k (6 - f))))), (3, .int (nI (6 - f))), (0, .ref 13), (1, .int (nI s)), (2, .int (nI y))]) (st' := []) (h' := HN (ur g 18 w) hl (RF rt)) rfl ?_
          have hx := hnext (by omega) w hw (by rw [hk0, bset_se (p := fun o => (s &&& ftL g o (6 - f)).testBit o && decide (wiF g (s &&& ftL g o (6 - f)) (6 - f) y (lsW g s y f) = 0)) (by simp only [hb50, decide_eq_false hc61, Bool.true_and])])
          exact Ev.wk (Ext.cons rfl rfl (Ext.cons rfl rfl (Ext.cons rfl rfl (Ext.cons rfl rfl (Ext.cons rfl rfl (Ext.nil rfl)))))) hx
      · skip
        refine Ev.run 2 (pc' := 80) (lv' := [(4, .int (nI k + 1)), (5, .int (nI (s &&& (ftL g k (6 - f))))), (3, .int (nI (6 - f))), (0, .ref 13), (1, .int (nI s)), (2, .int (nI y))]) (st' := []) (h' := HN (ur g 18 w) hl (RF rt)) rfl ?_
        refine Ev.lvE (congrArg (fun z => (4, Value.int z) :: [(5, .int (nI (s &&& (ftL g k (6 - f))))), (3, .int (nI (6 - f))), (0, .ref 13), (1, .int (nI s)), (2, .int (nI y))]) (nI_1 _)) ?_
        refine Ev.run 1 (pc' := 18) (lv' := [(4, .int (nI (k + 1))), (5, .int (nI (s &&& (ftL g k (6 - f))))), (3, .int (nI (6 - f))), (0, .ref 13), (1, .int (nI s)), (2, .int (nI y))]) (st' := []) (h' := HN (ur g 18 w) hl (RF rt)) rfl ?_
        have hx := hnext (by omega) w hw (by rw [hk0, bset_se (p := fun o => (s &&& ftL g o (6 - f)).testBit o && decide (wiF g (s &&& ftL g o (6 - f)) (6 - f) y (lsW g s y f) = 0)) (by simp only [hb50, Bool.false_and])])
        exact Ev.wk (Ext.cons rfl rfl (Ext.cons rfl rfl (Ext.cons rfl rfl (Ext.cons rfl rfl (Ext.cons rfl rfl (Ext.nil rfl)))))) hx
