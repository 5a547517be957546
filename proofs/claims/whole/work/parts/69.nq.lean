/-! turns, one after another, go along -/
def RY (G : Nat → Nat → Nat) : Prop := RZ G ∨ (G 166 6 = 0 ∧ G 166 7 = 0 ∧ G 166 8 = 4294967295)
/-- a round of the class, without its place -/
abbrev Sx : Type := (Nat → Nat) × (Nat → Nat) × (Nat → Nat) × (Nat → Nat)
def RXs (s : Sx) (G : Nat → Nat → Nat) : Prop := RX s.1 s.2.1 s.2.2.1 s.2.2.2 G
def ROs (g : Nat → Nat → Nat) (c : Nat) (s : Sx) : Nat → Nat → Nat := RO g c s.1 s.2.1 s.2.2.1 s.2.2.2
noncomputable def plXs (g : Nat → Nat → Nat) (y : Nat) (s : Sx) : Rx := plX g y s.1 s.2.1 s.2.2.1 s.2.2.2
noncomputable def stX (g : Nat → Nat → Nat) (y : Nat) (s : Sx) : Sx := (plXs g y s).2
noncomputable def itX (g : Nat → Nat → Nat) (y : Nat) : Nat → Sx → Sx
  | 0, s => s
  | n + 1, s => itX g y n (stX g y s)
section GO
variable {g G : Nat → Nat → Nat} {y : Nat} {s : Sx}
noncomputable def stG (G : Nat → Nat → Nat) : Nat → Nat → Nat := if alS G = 0 then G else plG G 4294967295
theorem itG_st (m : Nat) (G : Nat → Nat → Nat) : itG (m + 1) G = itG m (stG G) := by
  unfold stG
  show (if _ then _ else _) = _
  by_cases e : alS G = 0
  · rw [if_pos e, if_pos e, itG_0 e]
  · rw [if_neg e, if_neg e]
theorem GX.st (hg : GX g G y) : GX g (stG G) y := by
  unfold stG
  split
  · exact hg
  · exact hg.t (Ct.tplG G _) (hg.2.1.mplG (tOK_n G))
theorem RY.no (h : RY G) (hal : aliv (G 173) (G 166 6)) : RZ G := by
  rcases h with h | h
  · exact h
  · obtain ⟨p, hp, _⟩ := hal
    omega
theorem no_eq (hg : GX g G y) (h : RXs s G) (hz : RY G) (hal : ¬ aliv (G 173) (g 166 6)) : plXs g y s = (4294967293, up s.1 4 4294967295, s.2.1, s.2.2.1, s.2.2.2) := by
  rcases hz with hz | hz
  · exact turn_no hg h hz hal
  · have h6 := hg.2.2.2.1.z6
    unfold plXs plX
    rw [hg.2.2.2.2.2.1, ← h6, hz.1]
    rfl
/-- somebody has lives: what a turn is on both sides -/
theorem al_eq (hg : GX g G y) (h : RXs s G) (hz : RY G) (e : alS G ≠ 0) : (plXs g y s).1 = plV G 4294967295 ∧ RXs (stX g y s) (plG G 4294967295) ∧ (stX g y s).1 4 = plG G 4294967295 166 36 ∧ RY (plG G 4294967295) := by
  have h6 := hg.2.2.2.1.z6
  have ha := alS_al.mp e
  have t := turn_eq hg h (hz.no ha) (h6 ▸ ha)
  exact ⟨t.1, t.2.1, t.2.2.1, Or.inl t.2.2.2⟩
theorem na_eq (hg : GX g G y) (h : RXs s G) (hz : RY G) (e : alS G = 0) : (plXs g y s).1 = 4294967293 ∧ RXs (stX g y s) G ∧ (stX g y s).1 4 = 4294967295 := by
  have h6 := hg.2.2.2.1.z6
  have hn : ¬ aliv (G 173) (g 166 6) := fun z => alS_al.mpr (h6 ▸ z) e
  unfold stX
  rw [no_eq hg h hz hn]
  exact ⟨rfl, h, rfl⟩
theorem st_eq (hg : GX g G y) (h : RXs s G) (hz : RY G) : RXs (stX g y s) (stG G) ∧ RY (stG G) := by
  unfold stG
  by_cases e : alS G = 0
  · rw [if_pos e]
    exact ⟨(na_eq hg h hz e).2.1, hz⟩
  · rw [if_neg e]
    have t := al_eq hg h hz e
    exact ⟨t.2.1, t.2.2.2⟩
theorem GX.it (hg : GX g G y) : ∀ n, GX g (itG n G) y := by
  intro n
  induction n generalizing G with
  | zero => exact hg
  | succ n ih => rw [itG_st]; exact ih hg.st
theorem it_eq : ∀ (n : Nat) (G : Nat → Nat → Nat) (s : Sx), GX g G y → RXs s G → RY G → RXs (itX g y n s) (itG n G) ∧ RY (itG n G) := by
  intro n
  induction n with
  | zero => intro G s _ h hz; exact ⟨h, hz⟩
  | succ n ih =>
    intro G s hg h hz
    rw [itG_st]
    have t := st_eq hg h hz
    exact ih _ _ hg.st t.1 t.2
/-- the round goes with some state of the reference's -/
def CPX (g : Nat → Nat → Nat) (y : Nat) (s : Sx) : Prop := ∃ G, GX g G y ∧ RXs s G ∧ RY G
theorem CPX.st (h : CPX g y s) : CPX g y (stX g y s) := by
  obtain ⟨G, a, b, c⟩ := h
  have t := st_eq a b c
  exact ⟨_, a.st, t.1, t.2⟩
theorem CPX.it (h : CPX g y s) (n : Nat) : CPX g y (itX g y n s) := by
  obtain ⟨G, a, b, c⟩ := h
  have t := it_eq n G s a b c
  exact ⟨_, a.it n, t.1, t.2⟩
/-- what the class's turns need of the game, beside the round -/
def GOK (g : Nat → Nat → Nat) (rt : Nat × Nat × Nat × Nat) (y : Nat) : Prop := MI g ∧ CB g ∧ g 12 2 = g 166 6 ∧ TbC g rt y ∧ (∀ j, j < 5 → g 59 j < 4096) ∧ (∀ j, j < 7 → g 18 j < 4096) ∧ CPl g
/-- what is known of a round that goes along -/
def SxB (s : Sx) : Prop := (∀ j, j < 5 → s.2.2.2 j ≤ 99) ∧ s.2.1 1 ≤ 12 ∧ (∀ k, k < s.2.1 1 → s.2.2.1 k ≤ 3) ∧ s.1 2 ≤ 4 ∧ (s.1 3 ≤ 4 ∨ s.1 3 = 4294967295)
theorem CPX.b (h : CPX g y s) : SxB s := by
  obtain ⟨G, a, b, c⟩ := h
  have hJ := a.2.1
  have hNx := hJ.hNx
  have hLa := hJ.hLa
  have hLo := hJ.hLo
  have e1 := b.1
  have e2 := b.2.2.2.1
  have e3 := b.2.2.2.2
  exact ⟨fun j hj => by rw [b.2.2.1 j hj]; exact hJ.hli j hj, by omega, fun i hi => by rw [b.2.1 i (by omega)]; exact hJ.hrw i (by omega), by omega, by omega⟩
theorem K44_playS {L : Nat} {xs : Nat → Int32} (d : Nat) (hl : Nat → Nat → Int64) (rt : Nat × Nat × Nat × Nat) (hG : GOK g rt y) (hB : SxB s) {Q : Po} (hq : Q (some (.int (nI (plXs g y s).1))) (HN (ROs g 44 (stX g y s)) hl (RF rt))) : Ev L xs (d + 6) 36 0 [(0, .ref 12), (1, .ref 44)] [] (HN (ROs g 44 s) hl (RF rt)) Q := by
  obtain ⟨h1, h2, h3, h4, h5, h6, h7⟩ := hG
  have hp6 := h1.hPl
  exact K44_play d g hl rt h1 h2 (by omega) y h4 h5 h6 h7 s.1 s.2.1 s.2.2.1 s.2.2.2 hB.1 hB.2.1 hB.2.2.1 hB.2.2.2.1 hB.2.2.2.2 hq
theorem K44_gol {L : Nat} {xs : Nat → Int32} (d : Nat) (hl : Nat → Nat → Int64) (rt : Nat × Nat × Nat × Nat) (hG : GOK g rt y) {n : Nat} (hn : n ≤ 1000000) {Q : Po} : ∀ (m k : Nat) (s : Sx), k + m = n → CPX g y s → Q none (HN (ROs g 44 (itX g y m s)) hl (RF rt)) → Ev L xs (d + 7) 35 2 [(3, .int (nI k)), (0, .ref 12), (1, .ref 44), (2, .int (nI n))] [] (HN (ROs g 44 s) hl (RF rt)) Q := by
  intro m
  induction m with
  | zero =>
    intro k s hk hc hq
    refine Ev.run 3 (pc' := (if nI n ≤ nI k then 19 else 7)) (lv' := [(3, .int (nI k)), (0, .ref 12), (1, .ref 44), (2, .int (nI n))]) (st' := []) (h' := HN (ROs g 44 s) hl (RF rt)) rfl ?_
    rw [if_pos ((nI_leI (by omega) (by omega)).mpr (by omega))]
    exact Ev.ret (v := none) rfl hq
  | succ m ih =>
    intro k s hk hc hq
    refine Ev.run 3 (pc' := (if nI n ≤ nI k then 19 else 7)) (lv' := [(3, .int (nI k)), (0, .ref 12), (1, .ref 44), (2, .int (nI n))]) (st' := []) (h' := HN (ROs g 44 s) hl (RF rt)) rfl ?_
    rw [if_neg (fun z => absurd ((nI_leI (by omega) (by omega)).mp z) (by omega))]
    refine Ev.run 2 (pc' := 9) (lv' := [(3, .int (nI k)), (0, .ref 12), (1, .ref 44), (2, .int (nI n))]) (st' := [.ref 44, .ref 12]) (h' := HN (ROs g 44 s) hl (RF rt)) rfl ?_
    refine Ev.call (a := 36) (as := [.ref 12, .ref 44]) (rest := []) (lv0 := [(0, .ref 12), (1, .ref 44)]) (Q1 := (fun z0 h' => z0 = some (.int (nI (plXs g y s).1)) ∧ h' = HN (ROs g 44 (stX g y s)) hl (RF rt))) rfl rfl (K44_playS _ hl rt hG hc.b ⟨rfl, rfl⟩) (fun r h' hr => ?_)
    obtain ⟨rfl, rfl⟩ := hr
    have hc2 := hc.st
    have hq : Q none (HN (ROs g 44 (itX g y m (stX g y s))) hl (RF rt)) := hq
    generalize stX g y s = s2 at *
    refine Ev.run 2 (pc' := 16) (lv' := [(3, .int (nI k + 1)), (0, .ref 12), (1, .ref 44), (2, .int (nI n))]) (st' := []) (h' := HN (ROs g 44 s2) hl (RF rt)) rfl ?_
    refine Ev.lvE (congrArg (fun z => (3, Value.int z) :: [(0, .ref 12), (1, .ref 44), (2, .int (nI n))]) (nI_1 _)) ?_
    refine Ev.run 1 (pc' := 2) (lv' := [(3, .int (nI (k + 1))), (0, .ref 12), (1, .ref 44), (2, .int (nI n))]) (st' := []) (h' := HN (ROs g 44 s2) hl (RF rt)) rfl ?_
    exact ih (k + 1) s2 (by omega) hc2 hq
theorem K44_goS {L : Nat} {xs : Nat → Int32} (d : Nat) (hl : Nat → Nat → Int64) (rt : Nat × Nat × Nat × Nat) (hG : GOK g rt y) {n : Nat} (hn : n ≤ 1000000) (hc : CPX g y s) {Q : Po} (hq : Q none (HN (ROs g 44 (itX g y n s)) hl (RF rt))) : Ev L xs (d + 7) 35 0 [(0, .ref 12), (1, .ref 44), (2, .int (nI n))] [] (HN (ROs g 44 s) hl (RF rt)) Q := by
  refine Ev.run 2 (pc' := 2) (lv' := [(3, .int (nI 0)), (0, .ref 12), (1, .ref 44), (2, .int (nI n))]) (st' := []) (h' := HN (ROs g 44 s) hl (RF rt)) rfl ?_
  exact K44_gol d hl rt hG hn n 0 s (by omega) hc hq
theorem K128_playS {L : Nat} {xs : Nat → Int32} (d : Nat) (hl : Nat → Nat → Int64) (rt : Nat × Nat × Nat × Nat) (hG : GOK g rt y) (hB : SxB s) {Q : Po} (hq : Q (some (.int (nI (plXs g y s).1))) (HN (ROs g 128 (stX g y s)) hl (RF rt))) : Ev L xs (d + 6) 36 0 [(0, .ref 12), (1, .ref 128)] [] (HN (ROs g 128 s) hl (RF rt)) Q := by
  obtain ⟨h1, h2, h3, h4, h5, h6, h7⟩ := hG
  have hp6 := h1.hPl
  exact K128_play d g hl rt h1 h2 (by omega) y h4 h5 h6 h7 s.1 s.2.1 s.2.2.1 s.2.2.2 hB.1 hB.2.1 hB.2.2.1 hB.2.2.2.1 hB.2.2.2.2 hq
theorem K128_gol {L : Nat} {xs : Nat → Int32} (d : Nat) (hl : Nat → Nat → Int64) (rt : Nat × Nat × Nat × Nat) (hG : GOK g rt y) {n : Nat} (hn : n ≤ 1000000) {Q : Po} : ∀ (m k : Nat) (s : Sx), k + m = n → CPX g y s → Q none (HN (ROs g 128 (itX g y m s)) hl (RF rt)) → Ev L xs (d + 7) 35 2 [(3, .int (nI k)), (0, .ref 12), (1, .ref 128), (2, .int (nI n))] [] (HN (ROs g 128 s) hl (RF rt)) Q := by
  intro m
  induction m with
  | zero =>
    intro k s hk hc hq
    refine Ev.run 3 (pc' := (if nI n ≤ nI k then 19 else 7)) (lv' := [(3, .int (nI k)), (0, .ref 12), (1, .ref 128), (2, .int (nI n))]) (st' := []) (h' := HN (ROs g 128 s) hl (RF rt)) rfl ?_
    rw [if_pos ((nI_leI (by omega) (by omega)).mpr (by omega))]
    exact Ev.ret (v := none) rfl hq
  | succ m ih =>
    intro k s hk hc hq
    refine Ev.run 3 (pc' := (if nI n ≤ nI k then 19 else 7)) (lv' := [(3, .int (nI k)), (0, .ref 12), (1, .ref 128), (2, .int (nI n))]) (st' := []) (h' := HN (ROs g 128 s) hl (RF rt)) rfl ?_
    rw [if_neg (fun z => absurd ((nI_leI (by omega) (by omega)).mp z) (by omega))]
    refine Ev.run 2 (pc' := 9) (lv' := [(3, .int (nI k)), (0, .ref 12), (1, .ref 128), (2, .int (nI n))]) (st' := [.ref 128, .ref 12]) (h' := HN (ROs g 128 s) hl (RF rt)) rfl ?_
    refine Ev.call (a := 36) (as := [.ref 12, .ref 128]) (rest := []) (lv0 := [(0, .ref 12), (1, .ref 128)]) (Q1 := (fun z0 h' => z0 = some (.int (nI (plXs g y s).1)) ∧ h' = HN (ROs g 128 (stX g y s)) hl (RF rt))) rfl rfl (K128_playS _ hl rt hG hc.b ⟨rfl, rfl⟩) (fun r h' hr => ?_)
    obtain ⟨rfl, rfl⟩ := hr
    have hc2 := hc.st
    have hq : Q none (HN (ROs g 128 (itX g y m (stX g y s))) hl (RF rt)) := hq
    generalize stX g y s = s2 at *
    refine Ev.run 2 (pc' := 16) (lv' := [(3, .int (nI k + 1)), (0, .ref 12), (1, .ref 128), (2, .int (nI n))]) (st' := []) (h' := HN (ROs g 128 s2) hl (RF rt)) rfl ?_
    refine Ev.lvE (congrArg (fun z => (3, Value.int z) :: [(0, .ref 12), (1, .ref 128), (2, .int (nI n))]) (nI_1 _)) ?_
    refine Ev.run 1 (pc' := 2) (lv' := [(3, .int (nI (k + 1))), (0, .ref 12), (1, .ref 128), (2, .int (nI n))]) (st' := []) (h' := HN (ROs g 128 s2) hl (RF rt)) rfl ?_
    exact ih (k + 1) s2 (by omega) hc2 hq
theorem K128_goS {L : Nat} {xs : Nat → Int32} (d : Nat) (hl : Nat → Nat → Int64) (rt : Nat × Nat × Nat × Nat) (hG : GOK g rt y) {n : Nat} (hn : n ≤ 1000000) (hc : CPX g y s) {Q : Po} (hq : Q none (HN (ROs g 128 (itX g y n s)) hl (RF rt))) : Ev L xs (d + 7) 35 0 [(0, .ref 12), (1, .ref 128), (2, .int (nI n))] [] (HN (ROs g 128 s) hl (RF rt)) Q := by
  refine Ev.run 2 (pc' := 2) (lv' := [(3, .int (nI 0)), (0, .ref 12), (1, .ref 128), (2, .int (nI n))]) (st' := []) (h' := HN (ROs g 128 s) hl (RF rt)) rfl ?_
  exact K128_gol d hl rt hG hn n 0 s (by omega) hc hq
end GO
