/-! the class: the first one out -/
def foC (x3 : Nat → Nat) : Nat → Nat → Nat
  | 0, _ => 4294967295
  | f + 1, k => if x3 k = 0 then k else foC x3 f (k + 1)
theorem foC_l5 (x3 : Nat → Nat) : ∀ f k, k + f ≤ 5 → foC x3 f k ≤ 4 ∨ foC x3 f k = 4294967295 := by
  intro f
  induction f with
  | zero => intro k _; exact Or.inr rfl
  | succ f ih =>
    intro k h
    unfold foC
    split
    · exact Or.inl (by omega)
    · exact ih (k + 1) (by omega)
section FO
variable {g : Nat → Nat → Nat} {x0 x1 x2 x3 : Nat → Nat}
theorem K44_fol {L : Nat} {xs : Nat → Int32} (d : Nat) (hl : Nat → Nat → Int64) (rt : Nat × Nat × Nat × Nat) (hP5 : g 12 2 ≤ 5) (hx3 : ∀ j, j < 5 → x3 j ≤ 99) {Q : Po} : ∀ (m k : Nat), k + m = g 12 2 → Q (some (.int (nI (foC x3 m k)))) (HN (RO g 44 x0 x1 x2 x3) hl (RF rt)) → Ev L xs d 32 2 [(2, .int (nI k)), (0, .ref 12), (1, .ref 44)] [] (HN (RO g 44 x0 x1 x2 x3) hl (RF rt)) Q := by
  intro m
  induction m with
  | zero =>
    intro k hk hq
    refine Ev.run 4 (pc' := (if nI (g 12 2) ≤ nI k then 27 else 10)) (lv' := [(2, .int (nI k)), (0, .ref 12), (1, .ref 44)]) (st' := []) (h' := (HN (RO g 44 x0 x1 x2 x3) hl (RF rt))) rfl ?_
    rw [if_pos ((nI_leI (by omega) (by omega)).mpr (by omega))]
    refine Ev.run 1 (pc' := 28) (lv' := [(2, .int (nI k)), (0, .ref 12), (1, .ref 44)]) (st' := [.int (nI 4294967295)]) (h' := (HN (RO g 44 x0 x1 x2 x3) hl (RF rt))) rfl ?_
    exact Ev.ret (v := some (.int (nI 4294967295))) rfl hq
  | succ m ih =>
    intro k hk hq
    have hx3k := hx3 k (by omega)
    refine Ev.run 4 (pc' := (if nI (g 12 2) ≤ nI k then 27 else 10)) (lv' := [(2, .int (nI k)), (0, .ref 12), (1, .ref 44)]) (st' := []) (h' := (HN (RO g 44 x0 x1 x2 x3) hl (RF rt))) rfl ?_
    rw [if_neg (fun z => absurd ((nI_leI (by omega) (by omega)).mp z) (by omega))]
    refine Ev.run 3 (pc' := 15) (lv' := [(2, .int (nI k)), (0, .ref 12), (1, .ref 44)]) (st' := [.int (nI k), .ref 47]) (h' := (HN (RO g 44 x0 x1 x2 x3) hl (RF rt))) rfl ?_
    refine Ev_iald rfl rfl (show k < 5 by omega) (Nat.le_of_ble_eq_true rfl) ?_
    refine Ev.run 1 (pc' := (if nI (x3 k) = 0 then 19 else 21)) (lv' := [(2, .int (nI k)), (0, .ref 12), (1, .ref 44)]) (st' := []) (h' := (HN (RO g 44 x0 x1 x2 x3) hl (RF rt))) rfl ?_
    unfold foC at hq
    refine Ev.ite (fun hc => ?_) (fun hc => ?_)
    · have hc : x3 k = 0 := (nI_eq0 (by omega)).mp hc
      rw [if_pos hc] at hq
      refine Ev.run 1 (pc' := 20) (lv' := [(2, .int (nI k)), (0, .ref 12), (1, .ref 44)]) (st' := [.int (nI k)]) (h' := (HN (RO g 44 x0 x1 x2 x3) hl (RF rt))) rfl ?_
      exact Ev.ret (v := some (.int (nI k))) rfl hq
    · have hc : ¬ x3 k = 0 := fun z => hc ((nI_eq0 (by omega)).mpr z)
      rw [if_neg hc] at hq
      refine Ev.run 1 (pc' := 24) (lv' := [(2, .int (nI k + 1)), (0, .ref 12), (1, .ref 44)]) (st' := []) (h' := (HN (RO g 44 x0 x1 x2 x3) hl (RF rt))) rfl ?_
      refine Ev.lvE (congrArg (fun z => (2, Value.int z) :: [(0, .ref 12), (1, .ref 44)]) (nI_1 _)) ?_
      refine Ev.run 1 (pc' := 2) (lv' := [(2, .int (nI (k + 1))), (0, .ref 12), (1, .ref 44)]) (st' := []) (h' := (HN (RO g 44 x0 x1 x2 x3) hl (RF rt))) rfl ?_
      exact ih (k + 1) (by omega) hq
theorem K44_firstOut {L : Nat} {xs : Nat → Int32} (d : Nat) (hl : Nat → Nat → Int64) (rt : Nat × Nat × Nat × Nat) (hP5 : g 12 2 ≤ 5) (hx3 : ∀ j, j < 5 → x3 j ≤ 99) {Q : Po} (hq : Q (some (.int (nI (foC x3 (g 12 2) 0)))) (HN (RO g 44 x0 x1 x2 x3) hl (RF rt))) : Ev L xs d 32 0 [(0, .ref 12), (1, .ref 44)] [] (HN (RO g 44 x0 x1 x2 x3) hl (RF rt)) Q := by
  refine Ev.run 2 (pc' := 2) (lv' := [(2, .int (nI 0)), (0, .ref 12), (1, .ref 44)]) (st' := []) (h' := (HN (RO g 44 x0 x1 x2 x3) hl (RF rt))) rfl ?_
  exact K44_fol d hl rt hP5 hx3 _ 0 (by omega) hq
theorem K128_fol {L : Nat} {xs : Nat → Int32} (d : Nat) (hl : Nat → Nat → Int64) (rt : Nat × Nat × Nat × Nat) (hP5 : g 12 2 ≤ 5) (hx3 : ∀ j, j < 5 → x3 j ≤ 99) {Q : Po} : ∀ (m k : Nat), k + m = g 12 2 → Q (some (.int (nI (foC x3 m k)))) (HN (RO g 128 x0 x1 x2 x3) hl (RF rt)) → Ev L xs d 32 2 [(2, .int (nI k)), (0, .ref 12), (1, .ref 128)] [] (HN (RO g 128 x0 x1 x2 x3) hl (RF rt)) Q := by
  intro m
  induction m with
  | zero =>
    intro k hk hq
    refine Ev.run 4 (pc' := (if nI (g 12 2) ≤ nI k then 27 else 10)) (lv' := [(2, .int (nI k)), (0, .ref 12), (1, .ref 128)]) (st' := []) (h' := (HN (RO g 128 x0 x1 x2 x3) hl (RF rt))) rfl ?_
    rw [if_pos ((nI_leI (by omega) (by omega)).mpr (by omega))]
    refine Ev.run 1 (pc' := 28) (lv' := [(2, .int (nI k)), (0, .ref 12), (1, .ref 128)]) (st' := [.int (nI 4294967295)]) (h' := (HN (RO g 128 x0 x1 x2 x3) hl (RF rt))) rfl ?_
    exact Ev.ret (v := some (.int (nI 4294967295))) rfl hq
  | succ m ih =>
    intro k hk hq
    have hx3k := hx3 k (by omega)
    refine Ev.run 4 (pc' := (if nI (g 12 2) ≤ nI k then 27 else 10)) (lv' := [(2, .int (nI k)), (0, .ref 12), (1, .ref 128)]) (st' := []) (h' := (HN (RO g 128 x0 x1 x2 x3) hl (RF rt))) rfl ?_
    rw [if_neg (fun z => absurd ((nI_leI (by omega) (by omega)).mp z) (by omega))]
    refine Ev.run 3 (pc' := 15) (lv' := [(2, .int (nI k)), (0, .ref 12), (1, .ref 128)]) (st' := [.int (nI k), .ref 131]) (h' := (HN (RO g 128 x0 x1 x2 x3) hl (RF rt))) rfl ?_
    refine Ev_iald rfl rfl (show k < 5 by omega) (Nat.le_of_ble_eq_true rfl) ?_
    refine Ev.run 1 (pc' := (if nI (x3 k) = 0 then 19 else 21)) (lv' := [(2, .int (nI k)), (0, .ref 12), (1, .ref 128)]) (st' := []) (h' := (HN (RO g 128 x0 x1 x2 x3) hl (RF rt))) rfl ?_
    unfold foC at hq
    refine Ev.ite (fun hc => ?_) (fun hc => ?_)
    · have hc : x3 k = 0 := (nI_eq0 (by omega)).mp hc
      rw [if_pos hc] at hq
      refine Ev.run 1 (pc' := 20) (lv' := [(2, .int (nI k)), (0, .ref 12), (1, .ref 128)]) (st' := [.int (nI k)]) (h' := (HN (RO g 128 x0 x1 x2 x3) hl (RF rt))) rfl ?_
      exact Ev.ret (v := some (.int (nI k))) rfl hq
    · have hc : ¬ x3 k = 0 := fun z => hc ((nI_eq0 (by omega)).mpr z)
      rw [if_neg hc] at hq
      refine Ev.run 1 (pc' := 24) (lv' := [(2, .int (nI k + 1)), (0, .ref 12), (1, .ref 128)]) (st' := []) (h' := (HN (RO g 128 x0 x1 x2 x3) hl (RF rt))) rfl ?_
      refine Ev.lvE (congrArg (fun z => (2, Value.int z) :: [(0, .ref 12), (1, .ref 128)]) (nI_1 _)) ?_
      refine Ev.run 1 (pc' := 2) (lv' := [(2, .int (nI (k + 1))), (0, .ref 12), (1, .ref 128)]) (st' := []) (h' := (HN (RO g 128 x0 x1 x2 x3) hl (RF rt))) rfl ?_
      exact ih (k + 1) (by omega) hq
theorem K128_firstOut {L : Nat} {xs : Nat → Int32} (d : Nat) (hl : Nat → Nat → Int64) (rt : Nat × Nat × Nat × Nat) (hP5 : g 12 2 ≤ 5) (hx3 : ∀ j, j < 5 → x3 j ≤ 99) {Q : Po} (hq : Q (some (.int (nI (foC x3 (g 12 2) 0)))) (HN (RO g 128 x0 x1 x2 x3) hl (RF rt))) : Ev L xs d 32 0 [(0, .ref 12), (1, .ref 128)] [] (HN (RO g 128 x0 x1 x2 x3) hl (RF rt)) Q := by
  refine Ev.run 2 (pc' := 2) (lv' := [(2, .int (nI 0)), (0, .ref 12), (1, .ref 128)]) (st' := []) (h' := (HN (RO g 128 x0 x1 x2 x3) hl (RF rt))) rfl ?_
  exact K128_fol d hl rt hP5 hx3 _ 0 (by omega) hq
end FO
