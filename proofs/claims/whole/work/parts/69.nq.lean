/-! turns, one after another, go along -/
section GO
variable {g G : Nat → Nat → Nat} {y : Nat} {x0 x1 x2 x3 : Nat → Nat}
noncomputable def stG (G : Nat → Nat → Nat) : Nat → Nat → Nat := if alS G = 0 then G else plG G 4294967295
theorem itG_st (m : Nat) (G : Nat → Nat → Nat) : itG (m + 1) G = itG m (stG G) := by
  unfold stG
  show (if _ then _ else _) = _
  by_cases e : alS G = 0
  · rw [if_pos e, if_pos e, itG_0 e]
  · rw [if_neg e, if_neg e]
theorem GX.st (hg : GX g G y) : GX g (stG G) y := by
  unfold stG
  split
  · exact hg
  · exact hg.t (Ct.tplG G _) (hg.2.1.mplG (tOK_n G))
theorem st_eq (hg : GX g G y) (h : RX x0 x1 x2 x3 G) (hz : RZ G) : RX (plX g y x0 x1 x2 x3).2.1 (plX g y x0 x1 x2 x3).2.2.1 (plX g y x0 x1 x2 x3).2.2.2.1 (plX g y x0 x1 x2 x3).2.2.2.2 (stG G) ∧ RZ (stG G) := by
  have h6 := hg.2.2.2.1.z6
  unfold stG
  by_cases e : alS G = 0
  · have hn : ¬ aliv (G 173) (g 166 6) := fun z => alS_al.mpr (h6 ▸ z) e
    rw [if_pos e, turn_no hg h hz hn]
    exact ⟨h, hz⟩
  · have ha : aliv (G 173) (g 166 6) := h6 ▸ alS_al.mp e
    rw [if_neg e]
    have t := turn_eq hg h hz ha
    exact ⟨t.2.1, t.2.2.2⟩
theorem K44_gol {L : Nat} {xs : Nat → Int32} (d : Nat) (hl : Nat → Nat → Int64) (rt : Nat × Nat × Nat × Nat) (hT : TbC g rt y) (hk59 : ∀ j, j < 5 → g 59 j < 4096) (hlo : ∀ j, j < 7 → g 18 j < 4096) (hPl : CPl g) {n : Nat} (hn : n ≤ 1000000) {Q : Po} : ∀ (m k : Nat) (G : Nat → Nat → Nat) (x0 x1 x2 x3 : Nat → Nat), k + m = n → GX g G y → RX x0 x1 x2 x3 G → RZ G → (∀ a0 a1 a2 a3, RX a0 a1 a2 a3 (itG m G) → RZ (itG m G) → Q none (HN (RO g 44 a0 a1 a2 a3) hl (RF rt))) → Ev L xs (d + 7) 35 2 [(3, .int (nI k)), (0, .ref 12), (1, .ref 44), (2, .int (nI n))] [] (HN (RO g 44 x0 x1 x2 x3) hl (RF rt)) Q := by
  intro m
  induction m with
  | zero =>
    intro k G x0 x1 x2 x3 hk hg h hz hq
    refine Ev.run 3 (pc' := (if nI n ≤ nI k then 19 else 7)) (lv' := [(3, .int (nI k)), (0, .ref 12), (1, .ref 44), (2, .int (nI n))]) (st' := []) (h' := HN (RO g 44 x0 x1 x2 x3) hl (RF rt)) rfl ?_
    rw [if_pos ((nI_leI (by omega) (by omega)).mpr (by omega))]
    refine Ev.ret (v := none) rfl ?_
    exact hq x0 x1 x2 x3 h hz
  | succ m ih =>
    intro k G x0 x1 x2 x3 hk hg h hz hq
    refine Ev.run 3 (pc' := (if nI n ≤ nI k then 19 else 7)) (lv' := [(3, .int (nI k)), (0, .ref 12), (1, .ref 44), (2, .int (nI n))]) (st' := []) (h' := HN (RO g 44 x0 x1 x2 x3) hl (RF rt)) rfl ?_
    rw [if_neg (fun z => absurd ((nI_leI (by omega) (by omega)).mp z) (by omega))]
    refine Ev.run 2 (pc' := 9) (lv' := [(3, .int (nI k)), (0, .ref 12), (1, .ref 44), (2, .int (nI n))]) (st' := [.ref 44, .ref 12]) (h' := HN (RO g 44 x0 x1 x2 x3) hl (RF rt)) rfl ?_
    have hJ := hg.2.1
    have h6 := hg.2.2.2.1.z6
    have hp6 := hg.1.hPl
    have hNx := hJ.hNx
    have hLa := hJ.hLa
    have hLo := hJ.hLo
    have e1 := h.1
    have e2 := h.2.2.2.1
    have e3 := h.2.2.2.2
    have hP := hg.2.2.2.2.2.1
    refine Ev.call (a := 36) (as := [.ref 12, .ref 44]) (rest := []) (lv0 := [(0, .ref 12), (1, .ref 44)]) (Q1 := (fun z0 h' => z0 = some (.int (nI (plX g y x0 x1 x2 x3).1)) ∧ h' = HN (RO g 44 (plX g y x0 x1 x2 x3).2.1 (plX g y x0 x1 x2 x3).2.2.1 (plX g y x0 x1 x2 x3).2.2.2.1 (plX g y x0 x1 x2 x3).2.2.2.2) hl (RF rt))) rfl rfl (K44_play _ g _ _ hg.1 hg.2.2.1 (by omega) y hT hk59 hlo hPl x0 x1 x2 x3 (fun j hj => by rw [h.2.2.1 j hj]; exact hJ.hli j hj) (by omega) (fun i hi => by rw [h.2.1 i (by omega)]; exact hJ.hrw i (by omega)) (by omega) (by omega) ⟨rfl, rfl⟩) (fun r h' hr => ?_)
    obtain ⟨rfl, rfl⟩ := hr
    have hs := st_eq hg h hz
    have hg2 := hg.st
    rw [itG_st] at hq
    generalize plX g y x0 x1 x2 x3 = r at *
    obtain ⟨v, b0, b1, b2, b3⟩ := r
    refine Ev.run 2 (pc' := 16) (lv' := [(3, .int (nI k + 1)), (0, .ref 12), (1, .ref 44), (2, .int (nI n))]) (st' := []) (h' := HN (RO g 44 b0 b1 b2 b3) hl (RF rt)) rfl ?_
    refine Ev.lvE (congrArg (fun z => (3, Value.int z) :: [(0, .ref 12), (1, .ref 44), (2, .int (nI n))]) (nI_1 _)) ?_
    refine Ev.run 1 (pc' := 2) (lv' := [(3, .int (nI (k + 1))), (0, .ref 12), (1, .ref 44), (2, .int (nI n))]) (st' := []) (h' := HN (RO g 44 b0 b1 b2 b3) hl (RF rt)) rfl ?_
    exact ih (k + 1) (stG G) b0 b1 b2 b3 (by omega) hg2 hs.1 hs.2 hq
theorem K44_go {L : Nat} {xs : Nat → Int32} (d : Nat) (hl : Nat → Nat → Int64) (rt : Nat × Nat × Nat × Nat) (hT : TbC g rt y) (hk59 : ∀ j, j < 5 → g 59 j < 4096) (hlo : ∀ j, j < 7 → g 18 j < 4096) (hPl : CPl g) {n : Nat} (hn : n ≤ 1000000) (hg : GX g G y) (h : RX x0 x1 x2 x3 G) (hz : RZ G) {Q : Po} (hq : ∀ a0 a1 a2 a3, RX a0 a1 a2 a3 (itG n G) → RZ (itG n G) → Q none (HN (RO g 44 a0 a1 a2 a3) hl (RF rt))) : Ev L xs (d + 7) 35 0 [(0, .ref 12), (1, .ref 44), (2, .int (nI n))] [] (HN (RO g 44 x0 x1 x2 x3) hl (RF rt)) Q := by
  refine Ev.run 2 (pc' := 2) (lv' := [(3, .int (nI 0)), (0, .ref 12), (1, .ref 44), (2, .int (nI n))]) (st' := []) (h' := HN (RO g 44 x0 x1 x2 x3) hl (RF rt)) rfl ?_
  exact K44_gol d hl rt hT hk59 hlo hPl hn n 0 G x0 x1 x2 x3 (by omega) hg h hz hq
theorem K128_gol {L : Nat} {xs : Nat → Int32} (d : Nat) (hl : Nat → Nat → Int64) (rt : Nat × Nat × Nat × Nat) (hT : TbC g rt y) (hk59 : ∀ j, j < 5 → g 59 j < 4096) (hlo : ∀ j, j < 7 → g 18 j < 4096) (hPl : CPl g) {n : Nat} (hn : n ≤ 1000000) {Q : Po} : ∀ (m k : Nat) (G : Nat → Nat → Nat) (x0 x1 x2 x3 : Nat → Nat), k + m = n → GX g G y → RX x0 x1 x2 x3 G → RZ G → (∀ a0 a1 a2 a3, RX a0 a1 a2 a3 (itG m G) → RZ (itG m G) → Q none (HN (RO g 128 a0 a1 a2 a3) hl (RF rt))) → Ev L xs (d + 7) 35 2 [(3, .int (nI k)), (0, .ref 12), (1, .ref 128), (2, .int (nI n))] [] (HN (RO g 128 x0 x1 x2 x3) hl (RF rt)) Q := by
  intro m
  induction m with
  | zero =>
    intro k G x0 x1 x2 x3 hk hg h hz hq
    refine Ev.run 3 (pc' := (if nI n ≤ nI k then 19 else 7)) (lv' := [(3, .int (nI k)), (0, .ref 12), (1, .ref 128), (2, .int (nI n))]) (st' := []) (h' := HN (RO g 128 x0 x1 x2 x3) hl (RF rt)) rfl ?_
    rw [if_pos ((nI_leI (by omega) (by omega)).mpr (by omega))]
    refine Ev.ret (v := none) rfl ?_
    exact hq x0 x1 x2 x3 h hz
  | succ m ih =>
    intro k G x0 x1 x2 x3 hk hg h hz hq
    refine Ev.run 3 (pc' := (if nI n ≤ nI k then 19 else 7)) (lv' := [(3, .int (nI k)), (0, .ref 12), (1, .ref 128), (2, .int (nI n))]) (st' := []) (h' := HN (RO g 128 x0 x1 x2 x3) hl (RF rt)) rfl ?_
    rw [if_neg (fun z => absurd ((nI_leI (by omega) (by omega)).mp z) (by omega))]
    refine Ev.run 2 (pc' := 9) (lv' := [(3, .int (nI k)), (0, .ref 12), (1, .ref 128), (2, .int (nI n))]) (st' := [.ref 128, .ref 12]) (h' := HN (RO g 128 x0 x1 x2 x3) hl (RF rt)) rfl ?_
    have hJ := hg.2.1
    have h6 := hg.2.2.2.1.z6
    have hp6 := hg.1.hPl
    have hNx := hJ.hNx
    have hLa := hJ.hLa
    have hLo := hJ.hLo
    have e1 := h.1
    have e2 := h.2.2.2.1
    have e3 := h.2.2.2.2
    have hP := hg.2.2.2.2.2.1
    refine Ev.call (a := 36) (as := [.ref 12, .ref 128]) (rest := []) (lv0 := [(0, .ref 12), (1, .ref 128)]) (Q1 := (fun z0 h' => z0 = some (.int (nI (plX g y x0 x1 x2 x3).1)) ∧ h' = HN (RO g 128 (plX g y x0 x1 x2 x3).2.1 (plX g y x0 x1 x2 x3).2.2.1 (plX g y x0 x1 x2 x3).2.2.2.1 (plX g y x0 x1 x2 x3).2.2.2.2) hl (RF rt))) rfl rfl (K128_play _ g _ _ hg.1 hg.2.2.1 (by omega) y hT hk59 hlo hPl x0 x1 x2 x3 (fun j hj => by rw [h.2.2.1 j hj]; exact hJ.hli j hj) (by omega) (fun i hi => by rw [h.2.1 i (by omega)]; exact hJ.hrw i (by omega)) (by omega) (by omega) ⟨rfl, rfl⟩) (fun r h' hr => ?_)
    obtain ⟨rfl, rfl⟩ := hr
    have hs := st_eq hg h hz
    have hg2 := hg.st
    rw [itG_st] at hq
    generalize plX g y x0 x1 x2 x3 = r at *
    obtain ⟨v, b0, b1, b2, b3⟩ := r
    refine Ev.run 2 (pc' := 16) (lv' := [(3, .int (nI k + 1)), (0, .ref 12), (1, .ref 128), (2, .int (nI n))]) (st' := []) (h' := HN (RO g 128 b0 b1 b2 b3) hl (RF rt)) rfl ?_
    refine Ev.lvE (congrArg (fun z => (3, Value.int z) :: [(0, .ref 12), (1, .ref 128), (2, .int (nI n))]) (nI_1 _)) ?_
    refine Ev.run 1 (pc' := 2) (lv' := [(3, .int (nI (k + 1))), (0, .ref 12), (1, .ref 128), (2, .int (nI n))]) (st' := []) (h' := HN (RO g 128 b0 b1 b2 b3) hl (RF rt)) rfl ?_
    exact ih (k + 1) (stG G) b0 b1 b2 b3 (by omega) hg2 hs.1 hs.2 hq
theorem K128_go {L : Nat} {xs : Nat → Int32} (d : Nat) (hl : Nat → Nat → Int64) (rt : Nat × Nat × Nat × Nat) (hT : TbC g rt y) (hk59 : ∀ j, j < 5 → g 59 j < 4096) (hlo : ∀ j, j < 7 → g 18 j < 4096) (hPl : CPl g) {n : Nat} (hn : n ≤ 1000000) (hg : GX g G y) (h : RX x0 x1 x2 x3 G) (hz : RZ G) {Q : Po} (hq : ∀ a0 a1 a2 a3, RX a0 a1 a2 a3 (itG n G) → RZ (itG n G) → Q none (HN (RO g 128 a0 a1 a2 a3) hl (RF rt))) : Ev L xs (d + 7) 35 0 [(0, .ref 12), (1, .ref 128), (2, .int (nI n))] [] (HN (RO g 128 x0 x1 x2 x3) hl (RF rt)) Q := by
  refine Ev.run 2 (pc' := 2) (lv' := [(3, .int (nI 0)), (0, .ref 12), (1, .ref 128), (2, .int (nI n))]) (st' := []) (h' := HN (RO g 128 x0 x1 x2 x3) hl (RF rt)) rfl ?_
  exact K128_gol d hl rt hT hk59 hlo hPl hn n 0 G x0 x1 x2 x3 (by omega) hg h hz hq
end GO
