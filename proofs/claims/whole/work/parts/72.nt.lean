/-! the class: cells are filled -/
def flR (g : Nat → Nat → Nat) (c v n : Nat) : Nat → Nat → Nat := fun a b => if a = c then (if b < n then v else g a b) else g a b
theorem flR_0 (g : Nat → Nat → Nat) (c v : Nat) : flR g c v 0 = g := by
  funext a b
  unfold flR
  by_cases e : a = c
  · rw [if_pos e, if_neg (Nat.not_lt_zero _)]
  · rw [if_neg e]
theorem flR_s (g : Nat → Nat → Nat) (c v n : Nat) : u2 (flR g c v n) c n v = flR g c v (n + 1) := by
  funext a b
  unfold u2 flR
  by_cases e : a = c
  · rw [if_pos e, if_pos e, if_pos e]
    by_cases e2 : b = n
    · rw [if_pos e2, if_pos (by omega)]
    · rw [if_neg e2]
      by_cases e3 : b < n
      · rw [if_pos e3, if_pos (by omega)]
      · rw [if_neg e3, if_neg (by omega)]
  · rw [if_neg e, if_neg e, if_neg e]
theorem K_filll {L : Nat} {xs : Nat → Int32} (d : Nat) (g : Nat → Nat → Nat) (hl : Nat → Nat → Int64) (rt : Nat × Nat × Nat × Nat) (c N v : Nat) (hc : KC c 11 N) (hN : N ≤ 100) {Q : Po} (hq : Q none (HN (flR g c v N) hl (RF rt))) : ∀ m k, k + m = N → Ev L xs d 255 5 [(2, .int (nI k)), (3, .int (nI N)), (0, .ref c), (1, .int (nI v))] [] (HN (flR g c v k) hl (RF rt)) Q := by
  intro m
  induction m with
  | zero =>
    intro k hk
    refine Ev.run 3 (pc' := (if nI N ≤ nI k then 20 else 10)) (lv' := [(2, .int (nI k)), (3, .int (nI N)), (0, .ref c), (1, .int (nI v))]) (st' := []) (h' := HN (flR g c v k) hl (RF rt)) rfl ?_
    rw [if_pos ((nI_leI (by omega) (by omega)).mpr (by omega)), show k = N by omega]
    exact Ev.ret (v := none) rfl hq
  | succ m ih =>
    intro k hk
    refine Ev.run 3 (pc' := (if nI N ≤ nI k then 20 else 10)) (lv' := [(2, .int (nI k)), (3, .int (nI N)), (0, .ref c), (1, .int (nI v))]) (st' := []) (h' := HN (flR g c v k) hl (RF rt)) rfl ?_
    rw [if_neg (fun z => absurd ((nI_leI (by omega) (by omega)).mp z) (by omega))]
    refine Ev.run 3 (pc' := 13) (lv' := [(2, .int (nI k)), (3, .int (nI N)), (0, .ref c), (1, .int (nI v))]) (st' := [.int (nI v), .int (nI k), .ref c]) (h' := HN (flR g c v k) hl (RF rt)) rfl ?_
    refine Ev_iast rfl hc.k (show _ < _ by rw [hc.n]; omega) (by rw [hc.n]; omega) ?_
    rw [flR_s]
    refine Ev.run 1 (pc' := 17) (lv' := [(2, .int (nI k + 1)), (3, .int (nI N)), (0, .ref c), (1, .int (nI v))]) (st' := []) (h' := HN (flR g c v (k + 1)) hl (RF rt)) rfl ?_
    refine Ev.lvE (congrArg (fun z => (2, Value.int z) :: [(3, .int (nI N)), (0, .ref c), (1, .int (nI v))]) (nI_1 _)) ?_
    refine Ev.run 1 (pc' := 5) (lv' := [(2, .int (nI (k + 1))), (3, .int (nI N)), (0, .ref c), (1, .int (nI v))]) (st' := []) (h' := HN (flR g c v (k + 1)) hl (RF rt)) rfl ?_
    exact ih (k + 1) (by omega)
theorem K_fill {L : Nat} {xs : Nat → Int32} (d : Nat) (g : Nat → Nat → Nat) (hl : Nat → Nat → Int64) (rt : Nat × Nat × Nat × Nat) (c N v : Nat) (hc : KC c 11 N) (hN : N ≤ 100) {Q : Po} (hq : Q none (HN (flR g c v N) hl (RF rt))) : Ev L xs d 255 0 [(0, .ref c), (1, .int (nI v))] [] (HN g hl (RF rt)) Q := by
  refine Ev.run 3 (pc' := 3) (lv' := [(2, .int (nI 0)), (0, .ref c), (1, .int (nI v))]) (st' := [.ref c]) (h' := HN g hl (RF rt)) rfl ?_
  refine Ev_alen rfl hc rfl ?_
  refine Ev.run 1 (pc' := 5) (lv' := [(3, .int (nI N)), (2, .int (nI 0)), (0, .ref c), (1, .int (nI v))]) (st' := []) (h' := HN g hl (RF rt)) rfl ?_
  have hx := K_filll (L := L) (xs := xs) d g hl rt c N v hc hN hq N 0 (by omega)
  rw [flR_0] at hx
  exact Ev.wk (Ext.cons rfl rfl (Ext.cons rfl rfl (Ext.cons rfl rfl (Ext.cons rfl rfl (Ext.nil rfl))))) hx
