/-! the class: who is next, who loses -/
theorem ln45 (rt : Nat × Nat × Nat × Nat) : LnC rt 45 12 := ⟨⟨by decide, rfl⟩, ⟨by decide, rfl⟩, rfl, by decide⟩
theorem ln129 (rt : Nat × Nat × Nat × Nat) : LnC rt 129 12 := ⟨⟨by decide, rfl⟩, ⟨by decide, rfl⟩, rfl, by decide⟩
def acC (x0 x3 : Nat → Nat) (P : Nat) : Nat := if x0 2 < P then (if x3 (x0 2) ≤ 0 then fwC x3 P (x0 2) P 1 else x0 2) else fwC x3 P (x0 2) P 1
def loX0 (x0 x3 : Nat → Nat) (P p : Nat) : Nat → Nat := if acC (up (up (up x0 4 p) 3 4294967295) 2 p) (up x3 p (x3 p - 1)) P < 2147483648 then up (up (up (up x0 4 p) 3 4294967295) 2 p) 2 (acC (up (up (up x0 4 p) 3 4294967295) 2 p) (up x3 p (x3 p - 1)) P) else up (up (up x0 4 p) 3 4294967295) 2 p
theorem fwC_s {lv : Nat → Nat} {P p n : Nat} (h : n < P) (h2 : ¬ 0 < lv ((p + (n + 1)) % P)) : fwC lv P p (P - (n + 1)) (n + 1 + 1) = fwC lv P p (P - n) (n + 1) := by
  rw [show P - n = (P - (n + 1)) + 1 by omega]
  show _ = (if _ then _ else _)
  rw [if_neg h2]
theorem fwC_e {lv : Nat → Nat} {P p n : Nat} (h : n < P) (h2 : 0 < lv ((p + (n + 1)) % P)) : fwC lv P p (P - n) (n + 1) = (p + (n + 1)) % P := by
  rw [show P - n = (P - (n + 1)) + 1 by omega]
  show (if _ then _ else _) = _
  rw [if_pos h2]
theorem fwC_le (lv : Nat → Nat) (P p : Nat) : ∀ f k, 0 < P ∨ f = 0 → fwC lv P p f k < P ∨ fwC lv P p f k = 4294967295 := by
  intro f
  induction f with
  | zero => intro k _; exact Or.inr rfl
  | succ f ih =>
    intro k h
    have hP : 0 < P := by rcases h with h | h <;> omega
    unfold fwC
    split
    · exact Or.inl (Nat.mod_lt _ hP)
    · exact ih (k + 1) (Or.inl hP)
theorem fwC_l5 (lv : Nat → Nat) {P : Nat} (p : Nat) (hP : P ≤ 5) : fwC lv P p P 1 ≤ 4 ∨ fwC lv P p P 1 = 4294967295 := by
  have := fwC_le lv P p P 1 (by omega)
  omega
theorem acC_l5 (x0 x3 : Nat → Nat) {P : Nat} (hP : P ≤ 5) : acC x0 x3 P ≤ 4 ∨ acC x0 x3 P = 4294967295 := by
  unfold acC
  split
  · split
    · exact fwC_l5 _ _ hP
    · omega
  · exact fwC_l5 _ _ hP
theorem mx1 {a : Nat} (h : a ≤ 1000) : (if nI a - nI 1 < nI 0 then nI 0 else nI a - nI 1) = nI (a - 1) := by
  by_cases e : 1 ≤ a
  · rw [pk_sub (a := a) (b := 1) e, if_neg (fun z => by have := (nI_ltI (by omega) (by decide)).mp z; omega)]
  · rw [show a = 0 by omega]; decide +kernel
theorem K_hasPlayer2 {L : Nat} {xs : Nat → Int32} (d : Nat) (g : Nat → Nat → Nat) (hl : Nat → Nat → Int64) (rt : Nat × Nat × Nat × Nat) (hP5 : g 12 2 ≤ 5) (p : Nat) (hp : p < 2 ^ 32) {Q : Po} (hq : Q (some (.int (nI (bn (decide (p < g 12 2)))))) (HN g hl (RF rt))) : Ev L xs (d + 1) 22 0 [(0, .ref 12), (1, .int (nI p))] [] (HN g hl (RF rt)) Q := by
  refine Ev.run 6 (pc' := 8) (lv' := [(0, .ref 12), (1, .int (nI p))]) (st' := [.int (nI (g 12 2) - nI 1), .int (nI 0), .int (nI p)]) (h' := HN g hl (RF rt)) rfl ?_
  refine Ev.call (a := 118) (as := [.int (nI p), .int (nI 0), .int (nI (g 12 2) - nI 1)]) (rest := []) (lv0 := [(0, .int (nI p)), (1, .int (nI 0)), (2, .int (nI (g 12 2) - nI 1))]) (Q1 := (fun z0 h' => z0 = some (.int (nI (bn (decide (p < g 12 2))))) ∧ h' = HN g hl (RF rt))) rfl rfl (K_within _ _ _ _ (nI p) (nI 0) (nI (g 12 2) - nI 1) (by rw [in1 (by omega) (by omega)]; exact ⟨rfl, rfl⟩)) (fun r h' hr => ?_)
  obtain ⟨rfl, rfl⟩ := hr
  refine Ev_bn (fun hb11 => ?_) (fun hb11 => ?_)
  · have hhb11 : p < g 12 2 := of_decide_eq_true hb11
    refine Ev.ret (v := some (.int (nI 1))) rfl ?_
    rw [hb11] at hq
    exact hq
  · have hhb11 : ¬ (p < g 12 2) := of_decide_eq_false hb11
    refine Ev.ret (v := some (.int (nI 0))) rfl ?_
    rw [hb11] at hq
    exact hq
theorem K44_following {L : Nat} {xs : Nat → Int32} (d : Nat) (g : Nat → Nat → Nat) (hl : Nat → Nat → Int64) (rt : Nat × Nat × Nat × Nat) (hP5 : g 12 2 ≤ 5) (x0 x1 x2 x3 : Nat → Nat) (hx3 : ∀ j, j < 5 → x3 j ≤ 99) (p : Nat) (hp : p < 5) {Q : Po} (hq : Q (some (.int (nI (fwC x3 (g 12 2) p (g 12 2) 1)))) (HN (RO g 44 x0 x1 x2 x3) hl (RF rt))) : Ev L xs (d + 1) 33 0 [(0, .ref 12), (1, .ref 44), (2, .int (nI p))] [] (HN (RO g 44 x0 x1 x2 x3) hl (RF rt)) Q := by
  refine Ev.run 2 (pc' := 2) (lv' := [(3, .int (nI 1)), (0, .ref 12), (1, .ref 44), (2, .int (nI p))]) (st' := []) (h' := HN (RO g 44 x0 x1 x2 x3) hl (RF rt)) rfl ?_
  refine for_ind (g 12 2) (fun k => fwC x3 (g 12 2) p (g 12 2 - k) (k + 1) = fwC x3 (g 12 2) p (g 12 2) 1 → Ev L xs (d + 1) 33 2 [(3, .int (nI (k + 1))), (0, .ref 12), (1, .ref 44), (2, .int (nI p))] [] (HN (RO g 44 x0 x1 x2 x3) hl (RF rt)) Q) (fun k hk hnext ha => ?_) 0 (Nat.zero_le _) rfl
  refine Ev.run 4 (pc' := (if nI (g 12 2) < nI (k + 1) then 41 else 10)) (lv' := [(3, .int (nI (k + 1))), (0, .ref 12), (1, .ref 44), (2, .int (nI p))]) (st' := []) (h' := HN (RO g 44 x0 x1 x2 x3) hl (RF rt)) rfl ?_
  refine Ev.ite (fun hc7 => ?_) (fun hc7 => ?_)
  · have hc7 : (g 12 2) < (k + 1) := (nI_ltI (by omega) (by omega)).mp hc7
    refine Ev.run 1 (pc' := 42) (lv' := [(3, .int (nI (k + 1))), (0, .ref 12), (1, .ref 44), (2, .int (nI p))]) (st' := [.int (nI 4294967295)]) (h' := HN (RO g 44 x0 x1 x2 x3) hl (RF rt)) rfl ?_
    refine Ev.ret (v := some (.int (nI 4294967295))) rfl ?_
    rw [show g 12 2 - k = 0 by omega] at ha
    rw [← ha] at hq
    exact hq
  · have hc7 : ¬ ((g 12 2) < (k + 1)) := fun z => hc7 ((nI_ltI (by omega) (by omega)).mpr z)
    refine Ev.run 3 (pc' := 13) (lv' := [(3, .int (nI (k + 1))), (0, .ref 12), (1, .ref 44), (2, .int (nI p))]) (st' := [.int (nI p + nI (k + 1))]) (h' := HN (RO g 44 x0 x1 x2 x3) hl (RF rt)) rfl ?_
    refine Ev.topI (nI_add _ _) ?_
    refine Ev.run 2 (pc' := 17) (lv' := [(3, .int (nI (k + 1))), (0, .ref 12), (1, .ref 44), (2, .int (nI p))]) (st' := [.int (nI (g 12 2)), .int (nI (p + (k + 1)))]) (h' := HN (RO g 44 x0 x1 x2 x3) hl (RF rt)) rfl ?_
    refine Ev.call (a := 256) (as := [.int (nI (p + (k + 1))), .int (nI (g 12 2))]) (rest := []) (lv0 := [(0, .int (nI (p + (k + 1)))), (1, .int (nI (g 12 2)))]) (Q1 := (fun z0 h' => z0 = some (.int (nI ((p + (k + 1)) % (g 12 2)))) ∧ h' = HN (RO g 44 x0 x1 x2 x3) hl (RF rt))) rfl rfl (K_floorMod _ _ _ _ (p + (k + 1)) (g 12 2) (by omega) (by omega) (by omega) ⟨rfl, rfl⟩) (fun r h' hr => ?_)
    obtain ⟨rfl, rfl⟩ := hr
    refine Ev.run 1 (pc' := 22) (lv' := [(4, .int (nI ((p + (k + 1)) % (g 12 2)))), (3, .int (nI (k + 1))), (0, .ref 12), (1, .ref 44), (2, .int (nI p))]) (st' := []) (h' := HN (RO g 44 x0 x1 x2 x3) hl (RF rt)) rfl ?_
    have hmd := Nat.mod_lt (p + (k + 1)) (show 0 < g 12 2 by omega)
    have hx3m := hx3 ((p + (k + 1)) % g 12 2) (by omega)
    refine Ev.run 3 (pc' := 28) (lv' := [(4, .int (nI ((p + (k + 1)) % (g 12 2)))), (3, .int (nI (k + 1))), (0, .ref 12), (1, .ref 44), (2, .int (nI p))]) (st' := [.int (nI ((p + (k + 1)) % (g 12 2))), .ref 47]) (h' := HN (RO g 44 x0 x1 x2 x3) hl (RF rt)) rfl ?_
    refine Ev_iald rfl rfl (show (p + (k + 1)) % (g 12 2) < 5 by omega) (Nat.le_of_ble_eq_true rfl) ?_
    refine Ev.run 1 (pc' := (if nI (x3 ((p + (k + 1)) % (g 12 2))) ≤ 0 then 35 else 32)) (lv' := [(4, .int (nI ((p + (k + 1)) % (g 12 2)))), (3, .int (nI (k + 1))), (0, .ref 12), (1, .ref 44), (2, .int (nI p))]) (st' := []) (h' := HN (RO g 44 x0 x1 x2 x3) hl (RF rt)) rfl ?_
    refine Ev.ite (fun hc29 => ?_) (fun hc29 => ?_)
    · have hc29 : (x3 ((p + (k + 1)) % (g 12 2))) ≤ 0 := (nI_leI0 (by omega)).mp hc29
      refine Ev.run 1 (pc' := 38) (lv' := [(3, .int (nI (k + 1) + 1)), (4, .int (nI ((p + (k + 1)) % (g 12 2)))), (0, .ref 12), (1, .ref 44), (2, .int (nI p))]) (st' := []) (h' := HN (RO g 44 x0 x1 x2 x3) hl (RF rt)) rfl ?_
      refine Ev.lvE (congrArg (fun z => (3, Value.int z) :: [(4, .int (nI ((p + (k + 1)) % (g 12 2)))), (0, .ref 12), (1, .ref 44), (2, .int (nI p))]) (nI_1 _)) ?_
      refine Ev.run 1 (pc' := 2) (lv' := [(3, .int (nI (k + 1 + 1))), (4, .int (nI ((p + (k + 1)) % (g 12 2)))), (0, .ref 12), (1, .ref 44), (2, .int (nI p))]) (st' := []) (h' := HN (RO g 44 x0 x1 x2 x3) hl (RF rt)) rfl ?_
      have hx := hnext (by omega) (by rw [fwC_s (by omega) (by omega)]; exact ha)
      exact Ev.wk (Ext.cons rfl rfl (Ext.cons rfl rfl (Ext.cons rfl rfl (Ext.cons rfl rfl (Ext.nil rfl))))) hx
    · have hc29 : ¬ ((x3 ((p + (k + 1)) % (g 12 2))) ≤ 0) := fun z => hc29 ((nI_leI0 (by omega)).mpr z)
      refine Ev.run 1 (pc' := 34) (lv' := [(4, .int (nI ((p + (k + 1)) % (g 12 2)))), (3, .int (nI (k + 1))), (0, .ref 12), (1, .ref 44), (2, .int (nI p))]) (st' := [.int (nI ((p + (k + 1)) % (g 12 2)))]) (h' := HN (RO g 44 x0 x1 x2 x3) hl (RF rt)) rfl ?_
      refine Ev.ret (v := some (.int (nI ((p + (k + 1)) % (g 12 2))))) rfl ?_
      rw [fwC_e (by omega) (by omega)] at ha
      rw [← ha] at hq
      exact hq
theorem K44_acting {L : Nat} {xs : Nat → Int32} (d : Nat) (g : Nat → Nat → Nat) (hl : Nat → Nat → Int64) (rt : Nat × Nat × Nat × Nat) (hP5 : g 12 2 ≤ 5) (x0 x1 x2 x3 : Nat → Nat) (hx3 : ∀ j, j < 5 → x3 j ≤ 99) (hx0 : x0 2 ≤ 4) {Q : Po} (hq : Q (some (.int (nI (acC x0 x3 (g 12 2))))) (HN (RO g 44 x0 x1 x2 x3) hl (RF rt))) : Ev L xs (d + 2) 34 0 [(0, .ref 12), (1, .ref 44)] [] (HN (RO g 44 x0 x1 x2 x3) hl (RF rt)) Q := by
  refine Ev.run 3 (pc' := 5) (lv' := [(0, .ref 12), (1, .ref 44)]) (st' := [.int (nI (x0 2)), .ref 12]) (h' := HN (RO g 44 x0 x1 x2 x3) hl (RF rt)) rfl ?_
  refine Ev.call (a := 22) (as := [.ref 12, .int (nI (x0 2))]) (rest := []) (lv0 := [(0, .ref 12), (1, .int (nI (x0 2)))]) (Q1 := (fun z0 h' => z0 = some (.int (nI (bn (decide ((x0 2) < g 12 2))))) ∧ h' = HN (RO g 44 x0 x1 x2 x3) hl (RF rt))) rfl rfl (K_hasPlayer2 _ (RO g 44 x0 x1 x2 x3) _ _ hP5 (x0 2) (by omega) ⟨rfl, rfl⟩) (fun r h' hr => ?_)
  obtain ⟨rfl, rfl⟩ := hr
  refine Ev_bn (fun hb8 => ?_) (fun hb8 => ?_)
  · have hhb8 : (x0 2) < g 12 2 := of_decide_eq_true hb8
    refine Ev.run 1 (pc' := 11) (lv' := [(0, .ref 12), (1, .ref 44)]) (st' := []) (h' := HN (RO g 44 x0 x1 x2 x3) hl (RF rt)) rfl ?_
    have hx3n := hx3 (x0 2) (by omega)
    refine Ev.run 4 (pc' := 19) (lv' := [(0, .ref 12), (1, .ref 44)]) (st' := [.int (nI (x0 2)), .ref 47]) (h' := HN (RO g 44 x0 x1 x2 x3) hl (RF rt)) rfl ?_
    refine Ev_iald rfl rfl (show x0 2 < 5 by omega) (Nat.le_of_ble_eq_true rfl) ?_
    refine Ev.run 1 (pc' := (if nI (x3 (x0 2)) ≤ 0 then 30 else 23)) (lv' := [(0, .ref 12), (1, .ref 44)]) (st' := []) (h' := HN (RO g 44 x0 x1 x2 x3) hl (RF rt)) rfl ?_
    refine Ev.ite (fun hc20 => ?_) (fun hc20 => ?_)
    · have hc20 : (x3 (x0 2)) ≤ 0 := (nI_leI0 (by omega)).mp hc20
      refine Ev.run 4 (pc' := 36) (lv' := [(0, .ref 12), (1, .ref 44)]) (st' := [.int (nI (x0 2)), .ref 44, .ref 12]) (h' := HN (RO g 44 x0 x1 x2 x3) hl (RF rt)) rfl ?_
      refine Ev.call (a := 33) (as := [.ref 12, .ref 44, .int (nI (x0 2))]) (rest := []) (lv0 := [(0, .ref 12), (1, .ref 44), (2, .int (nI (x0 2)))]) (Q1 := (fun z0 h' => z0 = some (.int (nI (fwC x3 (g 12 2) (x0 2) (g 12 2) 1))) ∧ h' = HN (RO g 44 x0 x1 x2 x3) hl (RF rt))) rfl rfl (K44_following _ g _ _ hP5 x0 x1 x2 x3 hx3 (x0 2) (by omega) ⟨rfl, rfl⟩) (fun r h' hr => ?_)
      obtain ⟨rfl, rfl⟩ := hr
      have hfw := fwC_l5 x3 (x0 2) hP5
      refine Ev.ret (v := some (.int (nI (fwC x3 (g 12 2) (x0 2) (g 12 2) 1)))) rfl ?_
      unfold acC at hq
      first
        | (rw [if_neg (by omega)] at hq; exact hq)
        | (rw [if_pos (by omega), if_pos (by omega)] at hq; exact hq)
        | (rw [if_pos (by omega), if_neg (by omega)] at hq; exact hq)
    · have hc20 : ¬ ((x3 (x0 2)) ≤ 0) := fun z => hc20 ((nI_leI0 (by omega)).mpr z)
      refine Ev.run 3 (pc' := 39) (lv' := [(0, .ref 12), (1, .ref 44)]) (st' := [.int (nI (x0 2))]) (h' := HN (RO g 44 x0 x1 x2 x3) hl (RF rt)) rfl ?_
      refine Ev.ret (v := some (.int (nI (x0 2)))) rfl ?_
      unfold acC at hq
      first
        | (rw [if_neg (by omega)] at hq; exact hq)
        | (rw [if_pos (by omega), if_pos (by omega)] at hq; exact hq)
        | (rw [if_pos (by omega), if_neg (by omega)] at hq; exact hq)
  · have hhb8 : ¬ ((x0 2) < g 12 2) := of_decide_eq_false hb8
    refine Ev.run 5 (pc' := 36) (lv' := [(0, .ref 12), (1, .ref 44)]) (st' := [.int (nI (x0 2)), .ref 44, .ref 12]) (h' := HN (RO g 44 x0 x1 x2 x3) hl (RF rt)) rfl ?_
    refine Ev.call (a := 33) (as := [.ref 12, .ref 44, .int (nI (x0 2))]) (rest := []) (lv0 := [(0, .ref 12), (1, .ref 44), (2, .int (nI (x0 2)))]) (Q1 := (fun z0 h' => z0 = some (.int (nI (fwC x3 (g 12 2) (x0 2) (g 12 2) 1))) ∧ h' = HN (RO g 44 x0 x1 x2 x3) hl (RF rt))) rfl rfl (K44_following _ g _ _ hP5 x0 x1 x2 x3 hx3 (x0 2) (by omega) ⟨rfl, rfl⟩) (fun r h' hr => ?_)
    obtain ⟨rfl, rfl⟩ := hr
    have hfw := fwC_l5 x3 (x0 2) hP5
    refine Ev.ret (v := some (.int (nI (fwC x3 (g 12 2) (x0 2) (g 12 2) 1)))) rfl ?_
    unfold acC at hq
    first
      | (rw [if_neg (by omega)] at hq; exact hq)
      | (rw [if_pos (by omega), if_pos (by omega)] at hq; exact hq)
      | (rw [if_pos (by omega), if_neg (by omega)] at hq; exact hq)
theorem K44_restart {L : Nat} {xs : Nat → Int32} (d : Nat) (g : Nat → Nat → Nat) (hl : Nat → Nat → Int64) (rt : Nat × Nat × Nat × Nat) (x0 x1 x2 x3 : Nat → Nat) (p : Nat) {Q : Po} (hq : Q none (HN (RO g 44 (up (up x0 3 4294967295) 2 p) (up x1 1 0) x2 x3) hl (RF rt))) : Ev L xs (d + 1) 61 0 [(0, .ref 44), (1, .int (nI p))] [] (HN (RO g 44 x0 x1 x2 x3) hl (RF rt)) Q := by
  refine Ev.run 2 (pc' := 4) (lv' := [(0, .ref 44), (1, .int (nI p))]) (st' := [.ref 45]) (h' := HN (RO g 44 x0 x1 x2 x3) hl (RF rt)) rfl ?_
  refine Ev.call (a := 45) (as := [.ref 45]) (rest := []) (lv0 := [(0, .ref 45)]) (Q1 := (fun z0 h' => z0 = none ∧ h' = HN (RO g 44 x0 (up x1 1 0) x2 x3) hl (RF rt))) rfl rfl (K_clear _ _ _ _ 45 12 (ln45 rt) ⟨rfl, congrArg (fun z => HN z hl (RF rt)) (RO_1 _ _ _ _ _ _ _ _)⟩) (fun r h' hr => ?_)
  obtain ⟨rfl, rfl⟩ := hr
  refine Ev.run 3 (pc' := 12) (lv' := [(0, .ref 44), (1, .int (nI p))]) (st' := []) (h' := setI (HN (RO g 44 x0 (up x1 1 0) x2 x3) hl (RF rt)) 44 3 (nI 4294967295)) rfl ?_
  refine Ev.hp (HN_set _ _ _ _ _ _) ?_
  refine Ev.hp (congrArg (fun z => HN z hl (RF rt)) (RO_0 _ _ _ _ _ _ _ _)) ?_
  refine Ev.run 3 (pc' := 17) (lv' := [(0, .ref 44), (1, .int (nI p))]) (st' := []) (h' := setI (HN (RO g 44 (up x0 3 4294967295) (up x1 1 0) x2 x3) hl (RF rt)) 44 2 (nI p)) rfl ?_
  refine Ev.hp (HN_set _ _ _ _ _ _) ?_
  refine Ev.hp (congrArg (fun z => HN z hl (RF rt)) (RO_0 _ _ _ _ _ _ _ _)) ?_
  refine Ev.ret (v := none) rfl ?_
  exact hq
theorem K44_lose {L : Nat} {xs : Nat → Int32} (d : Nat) (g : Nat → Nat → Nat) (hl : Nat → Nat → Int64) (rt : Nat × Nat × Nat × Nat) (hP5 : g 12 2 ≤ 5) (x0 x1 x2 x3 : Nat → Nat) (hx3 : ∀ j, j < 5 → x3 j ≤ 99) (p : Nat) (hp : p < 5) {Q : Po} (hq : Q none (HN (RO g 44 (loX0 x0 x3 (g 12 2) p) (up x1 1 0) x2 (up x3 p (x3 p - 1))) hl (RF rt))) : Ev L xs (d + 3) 38 0 [(0, .ref 12), (1, .ref 44), (2, .int (nI p))] [] (HN (RO g 44 x0 x1 x2 x3) hl (RF rt)) Q := by
  refine Ev.run 3 (pc' := 5) (lv' := [(0, .ref 12), (1, .ref 44), (2, .int (nI p))]) (st' := []) (h' := setI (HN (RO g 44 x0 x1 x2 x3) hl (RF rt)) 44 4 (nI p)) rfl ?_
  refine Ev.hp (HN_set _ _ _ _ _ _) ?_
  refine Ev.hp (congrArg (fun z => HN z hl (RF rt)) (RO_0 _ _ _ _ _ _ _ _)) ?_
  refine Ev.run 6 (pc' := 15) (lv' := [(0, .ref 12), (1, .ref 44), (2, .int (nI p))]) (st' := [.int (nI p), .ref 47, .int (nI p), .ref 47]) (h' := HN (RO g 44 (up x0 4 p) x1 x2 x3) hl (RF rt)) rfl ?_
  refine Ev_iald rfl rfl (show p < 5 by omega) (Nat.le_of_ble_eq_true rfl) ?_
  refine Ev.run 3 (pc' := 19) (lv' := [(0, .ref 12), (1, .ref 44), (2, .int (nI p))]) (st' := [.int (nI 0), .int (nI (x3 p) - nI 1), .int (nI p), .ref 47]) (h' := HN (RO g 44 (up x0 4 p) x1 x2 x3) hl (RF rt)) rfl ?_
  refine Ev_max rfl rfl rfl (mx1 (by have := hx3 p hp; omega)) ?_
  refine Ev_iast rfl rfl (show p < 5 by omega) (Nat.le_of_ble_eq_true rfl) ?_
  refine Ev.hp (congrArg (fun z => HN z hl (RF rt)) (RO_3 _ _ _ _ _ _ _ _)) ?_
  refine Ev.run 2 (pc' := 25) (lv' := [(0, .ref 12), (1, .ref 44), (2, .int (nI p))]) (st' := [.int (nI p), .ref 44]) (h' := HN (RO g 44 (up x0 4 p) x1 x2 (up x3 p (x3 p - 1))) hl (RF rt)) rfl ?_
  refine Ev.call (a := 61) (as := [.ref 44, .int (nI p)]) (rest := []) (lv0 := [(0, .ref 44), (1, .int (nI p))]) (Q1 := (fun z0 h' => z0 = none ∧ h' = HN (RO g 44 (up (up (up x0 4 p) 3 4294967295) 2 p) (up x1 1 0) x2 (up x3 p (x3 p - 1))) hl (RF rt))) rfl rfl (K44_restart _ g _ _ (up x0 4 p) x1 x2 (up x3 p (x3 p - 1)) p ⟨rfl, rfl⟩) (fun r h' hr => ?_)
  obtain ⟨rfl, rfl⟩ := hr
  have hx3u : ∀ j, j < 5 → up x3 p (x3 p - 1) j ≤ 99 := up_le hx3 (by have := hx3 p hp; omega)
  have hx0u : up (up (up x0 4 p) 3 4294967295) 2 p 2 ≤ 4 := (show p ≤ 4 by omega)
  refine Ev.run 2 (pc' := 30) (lv' := [(0, .ref 12), (1, .ref 44), (2, .int (nI p))]) (st' := [.ref 44, .ref 12]) (h' := HN (RO g 44 (up (up (up x0 4 p) 3 4294967295) 2 p) (up x1 1 0) x2 (up x3 p (x3 p - 1))) hl (RF rt)) rfl ?_
  refine Ev.call (a := 34) (as := [.ref 12, .ref 44]) (rest := []) (lv0 := [(0, .ref 12), (1, .ref 44)]) (Q1 := (fun z0 h' => z0 = some (.int (nI (acC (up (up (up x0 4 p) 3 4294967295) 2 p) (up x3 p (x3 p - 1)) (g 12 2)))) ∧ h' = HN (RO g 44 (up (up (up x0 4 p) 3 4294967295) 2 p) (up x1 1 0) x2 (up x3 p (x3 p - 1))) hl (RF rt))) rfl rfl (K44_acting _ g _ _ hP5 (up (up (up x0 4 p) 3 4294967295) 2 p) (up x1 1 0) x2 (up x3 p (x3 p - 1)) hx3u hx0u ⟨rfl, rfl⟩) (fun r h' hr => ?_)
  obtain ⟨rfl, rfl⟩ := hr
  have hac := acC_l5 (up (up (up x0 4 p) 3 4294967295) 2 p) (up x3 p (x3 p - 1)) hP5
  refine Ev.run 3 (pc' := (if nI (acC (up (up (up x0 4 p) 3 4294967295) 2 p) (up x3 p (x3 p - 1)) (g 12 2)) < 0 then 43 else 38)) (lv' := [(3, .int (nI (acC (up (up (up x0 4 p) 3 4294967295) 2 p) (up x3 p (x3 p - 1)) (g 12 2)))), (0, .ref 12), (1, .ref 44), (2, .int (nI p))]) (st' := []) (h' := HN (RO g 44 (up (up (up x0 4 p) 3 4294967295) 2 p) (up x1 1 0) x2 (up x3 p (x3 p - 1))) hl (RF rt)) rfl ?_
  refine Ev.ite (fun hc35 => ?_) (fun hc35 => ?_)
  · have hc35 : 2147483648 ≤ (acC (up (up (up x0 4 p) 3 4294967295) 2 p) (up x3 p (x3 p - 1)) (g 12 2)) := (nI_ltU0 (by omega)).mp hc35
    refine Ev.ret (v := none) rfl ?_
    unfold loX0 at hq
    first | (rw [if_pos (by omega)] at hq; exact hq) | (rw [if_neg (by omega)] at hq; exact hq)
  · have hc35 : ¬ (2147483648 ≤ (acC (up (up (up x0 4 p) 3 4294967295) 2 p) (up x3 p (x3 p - 1)) (g 12 2))) := fun z => hc35 ((nI_ltU0 (by omega)).mpr z)
    refine Ev.run 3 (pc' := 43) (lv' := [(3, .int (nI (acC (up (up (up x0 4 p) 3 4294967295) 2 p) (up x3 p (x3 p - 1)) (g 12 2)))), (0, .ref 12), (1, .ref 44), (2, .int (nI p))]) (st' := []) (h' := setI (HN (RO g 44 (up (up (up x0 4 p) 3 4294967295) 2 p) (up x1 1 0) x2 (up x3 p (x3 p - 1))) hl (RF rt)) 44 2 (nI (acC (up (up (up x0 4 p) 3 4294967295) 2 p) (up x3 p (x3 p - 1)) (g 12 2)))) rfl ?_
    refine Ev.hp (HN_set _ _ _ _ _ _) ?_
    refine Ev.hp (congrArg (fun z => HN z hl (RF rt)) (RO_0 _ _ _ _ _ _ _ _)) ?_
    refine Ev.ret (v := none) rfl ?_
    unfold loX0 at hq
    first | (rw [if_pos (by omega)] at hq; exact hq) | (rw [if_neg (by omega)] at hq; exact hq)
theorem K128_following {L : Nat} {xs : Nat → Int32} (d : Nat) (g : Nat → Nat → Nat) (hl : Nat → Nat → Int64) (rt : Nat × Nat × Nat × Nat) (hP5 : g 12 2 ≤ 5) (x0 x1 x2 x3 : Nat → Nat) (hx3 : ∀ j, j < 5 → x3 j ≤ 99) (p : Nat) (hp : p < 5) {Q : Po} (hq : Q (some (.int (nI (fwC x3 (g 12 2) p (g 12 2) 1)))) (HN (RO g 128 x0 x1 x2 x3) hl (RF rt))) : Ev L xs (d + 1) 33 0 [(0, .ref 12), (1, .ref 128), (2, .int (nI p))] [] (HN (RO g 128 x0 x1 x2 x3) hl (RF rt)) Q := by
  refine Ev.run 2 (pc' := 2) (lv' := [(3, .int (nI 1)), (0, .ref 12), (1, .ref 128), (2, .int (nI p))]) (st' := []) (h' := HN (RO g 128 x0 x1 x2 x3) hl (RF rt)) rfl ?_
  refine for_ind (g 12 2) (fun k => fwC x3 (g 12 2) p (g 12 2 - k) (k + 1) = fwC x3 (g 12 2) p (g 12 2) 1 → Ev L xs (d + 1) 33 2 [(3, .int (nI (k + 1))), (0, .ref 12), (1, .ref 128), (2, .int (nI p))] [] (HN (RO g 128 x0 x1 x2 x3) hl (RF rt)) Q) (fun k hk hnext ha => ?_) 0 (Nat.zero_le _) rfl
  refine Ev.run 4 (pc' := (if nI (g 12 2) < nI (k + 1) then 41 else 10)) (lv' := [(3, .int (nI (k + 1))), (0, .ref 12), (1, .ref 128), (2, .int (nI p))]) (st' := []) (h' := HN (RO g 128 x0 x1 x2 x3) hl (RF rt)) rfl ?_
  refine Ev.ite (fun hc7 => ?_) (fun hc7 => ?_)
  · have hc7 : (g 12 2) < (k + 1) := (nI_ltI (by omega) (by omega)).mp hc7
    refine Ev.run 1 (pc' := 42) (lv' := [(3, .int (nI (k + 1))), (0, .ref 12), (1, .ref 128), (2, .int (nI p))]) (st' := [.int (nI 4294967295)]) (h' := HN (RO g 128 x0 x1 x2 x3) hl (RF rt)) rfl ?_
    refine Ev.ret (v := some (.int (nI 4294967295))) rfl ?_
    rw [show g 12 2 - k = 0 by omega] at ha
    rw [← ha] at hq
    exact hq
  · have hc7 : ¬ ((g 12 2) < (k + 1)) := fun z => hc7 ((nI_ltI (by omega) (by omega)).mpr z)
    refine Ev.run 3 (pc' := 13) (lv' := [(3, .int (nI (k + 1))), (0, .ref 12), (1, .ref 128), (2, .int (nI p))]) (st' := [.int (nI p + nI (k + 1))]) (h' := HN (RO g 128 x0 x1 x2 x3) hl (RF rt)) rfl ?_
    refine Ev.topI (nI_add _ _) ?_
    refine Ev.run 2 (pc' := 17) (lv' := [(3, .int (nI (k + 1))), (0, .ref 12), (1, .ref 128), (2, .int (nI p))]) (st' := [.int (nI (g 12 2)), .int (nI (p + (k + 1)))]) (h' := HN (RO g 128 x0 x1 x2 x3) hl (RF rt)) rfl ?_
    refine Ev.call (a := 256) (as := [.int (nI (p + (k + 1))), .int (nI (g 12 2))]) (rest := []) (lv0 := [(0, .int (nI (p + (k + 1)))), (1, .int (nI (g 12 2)))]) (Q1 := (fun z0 h' => z0 = some (.int (nI ((p + (k + 1)) % (g 12 2)))) ∧ h' = HN (RO g 128 x0 x1 x2 x3) hl (RF rt))) rfl rfl (K_floorMod _ _ _ _ (p + (k + 1)) (g 12 2) (by omega) (by omega) (by omega) ⟨rfl, rfl⟩) (fun r h' hr => ?_)
    obtain ⟨rfl, rfl⟩ := hr
    refine Ev.run 1 (pc' := 22) (lv' := [(4, .int (nI ((p + (k + 1)) % (g 12 2)))), (3, .int (nI (k + 1))), (0, .ref 12), (1, .ref 128), (2, .int (nI p))]) (st' := []) (h' := HN (RO g 128 x0 x1 x2 x3) hl (RF rt)) rfl ?_
    have hmd := Nat.mod_lt (p + (k + 1)) (show 0 < g 12 2 by omega)
    have hx3m := hx3 ((p + (k + 1)) % g 12 2) (by omega)
    refine Ev.run 3 (pc' := 28) (lv' := [(4, .int (nI ((p + (k + 1)) % (g 12 2)))), (3, .int (nI (k + 1))), (0, .ref 12), (1, .ref 128), (2, .int (nI p))]) (st' := [.int (nI ((p + (k + 1)) % (g 12 2))), .ref 131]) (h' := HN (RO g 128 x0 x1 x2 x3) hl (RF rt)) rfl ?_
    refine Ev_iald rfl rfl (show (p + (k + 1)) % (g 12 2) < 5 by omega) (Nat.le_of_ble_eq_true rfl) ?_
    refine Ev.run 1 (pc' := (if nI (x3 ((p + (k + 1)) % (g 12 2))) ≤ 0 then 35 else 32)) (lv' := [(4, .int (nI ((p + (k + 1)) % (g 12 2)))), (3, .int (nI (k + 1))), (0, .ref 12), (1, .ref 128), (2, .int (nI p))]) (st' := []) (h' := HN (RO g 128 x0 x1 x2 x3) hl (RF rt)) rfl ?_
    refine Ev.ite (fun hc29 => ?_) (fun hc29 => ?_)
    · have hc29 : (x3 ((p + (k + 1)) % (g 12 2))) ≤ 0 := (nI_leI0 (by omega)).mp hc29
      refine Ev.run 1 (pc' := 38) (lv' := [(3, .int (nI (k + 1) + 1)), (4, .int (nI ((p + (k + 1)) % (g 12 2)))), (0, .ref 12), (1, .ref 128), (2, .int (nI p))]) (st' := []) (h' := HN (RO g 128 x0 x1 x2 x3) hl (RF rt)) rfl ?_
      refine Ev.lvE (congrArg (fun z => (3, Value.int z) :: [(4, .int (nI ((p + (k + 1)) % (g 12 2)))), (0, .ref 12), (1, .ref 128), (2, .int (nI p))]) (nI_1 _)) ?_
      refine Ev.run 1 (pc' := 2) (lv' := [(3, .int (nI (k + 1 + 1))), (4, .int (nI ((p + (k + 1)) % (g 12 2)))), (0, .ref 12), (1, .ref 128), (2, .int (nI p))]) (st' := []) (h' := HN (RO g 128 x0 x1 x2 x3) hl (RF rt)) rfl ?_
      have hx := hnext (by omega) (by rw [fwC_s (by omega) (by omega)]; exact ha)
      exact Ev.wk (Ext.cons rfl rfl (Ext.cons rfl rfl (Ext.cons rfl rfl (Ext.cons rfl rfl (Ext.nil rfl))))) hx
    · have hc29 : ¬ ((x3 ((p + (k + 1)) % (g 12 2))) ≤ 0) := fun z => hc29 ((nI_leI0 (by omega)).mpr z)
      refine Ev.run 1 (pc' := 34) (lv' := [(4, .int (nI ((p + (k + 1)) % (g 12 2)))), (3, .int (nI (k + 1))), (0, .ref 12), (1, .ref 128), (2, .int (nI p))]) (st' := [.int (nI ((p + (k + 1)) % (g 12 2)))]) (h' := HN (RO g 128 x0 x1 x2 x3) hl (RF rt)) rfl ?_
      refine Ev.ret (v := some (.int (nI ((p + (k + 1)) % (g 12 2))))) rfl ?_
      rw [fwC_e (by omega) (by omega)] at ha
      rw [← ha] at hq
      exact hq
theorem K128_acting {L : Nat} {xs : Nat → Int32} (d : Nat) (g : Nat → Nat → Nat) (hl : Nat → Nat → Int64) (rt : Nat × Nat × Nat × Nat) (hP5 : g 12 2 ≤ 5) (x0 x1 x2 x3 : Nat → Nat) (hx3 : ∀ j, j < 5 → x3 j ≤ 99) (hx0 : x0 2 ≤ 4) {Q : Po} (hq : Q (some (.int (nI (acC x0 x3 (g 12 2))))) (HN (RO g 128 x0 x1 x2 x3) hl (RF rt))) : Ev L xs (d + 2) 34 0 [(0, .ref 12), (1, .ref 128)] [] (HN (RO g 128 x0 x1 x2 x3) hl (RF rt)) Q := by
  refine Ev.run 3 (pc' := 5) (lv' := [(0, .ref 12), (1, .ref 128)]) (st' := [.int (nI (x0 2)), .ref 12]) (h' := HN (RO g 128 x0 x1 x2 x3) hl (RF rt)) rfl ?_
  refine Ev.call (a := 22) (as := [.ref 12, .int (nI (x0 2))]) (rest := []) (lv0 := [(0, .ref 12), (1, .int (nI (x0 2)))]) (Q1 := (fun z0 h' => z0 = some (.int (nI (bn (decide ((x0 2) < g 12 2))))) ∧ h' = HN (RO g 128 x0 x1 x2 x3) hl (RF rt))) rfl rfl (K_hasPlayer2 _ (RO g 128 x0 x1 x2 x3) _ _ hP5 (x0 2) (by omega) ⟨rfl, rfl⟩) (fun r h' hr => ?_)
  obtain ⟨rfl, rfl⟩ := hr
  refine Ev_bn (fun hb8 => ?_) (fun hb8 => ?_)
  · have hhb8 : (x0 2) < g 12 2 := of_decide_eq_true hb8
    refine Ev.run 1 (pc' := 11) (lv' := [(0, .ref 12), (1, .ref 128)]) (st' := []) (h' := HN (RO g 128 x0 x1 x2 x3) hl (RF rt)) rfl ?_
    have hx3n := hx3 (x0 2) (by omega)
    refine Ev.run 4 (pc' := 19) (lv' := [(0, .ref 12), (1, .ref 128)]) (st' := [.int (nI (x0 2)), .ref 131]) (h' := HN (RO g 128 x0 x1 x2 x3) hl (RF rt)) rfl ?_
    refine Ev_iald rfl rfl (show x0 2 < 5 by omega) (Nat.le_of_ble_eq_true rfl) ?_
    refine Ev.run 1 (pc' := (if nI (x3 (x0 2)) ≤ 0 then 30 else 23)) (lv' := [(0, .ref 12), (1, .ref 128)]) (st' := []) (h' := HN (RO g 128 x0 x1 x2 x3) hl (RF rt)) rfl ?_
    refine Ev.ite (fun hc20 => ?_) (fun hc20 => ?_)
    · have hc20 : (x3 (x0 2)) ≤ 0 := (nI_leI0 (by omega)).mp hc20
      refine Ev.run 4 (pc' := 36) (lv' := [(0, .ref 12), (1, .ref 128)]) (st' := [.int (nI (x0 2)), .ref 128, .ref 12]) (h' := HN (RO g 128 x0 x1 x2 x3) hl (RF rt)) rfl ?_
      refine Ev.call (a := 33) (as := [.ref 12, .ref 128, .int (nI (x0 2))]) (rest := []) (lv0 := [(0, .ref 12), (1, .ref 128), (2, .int (nI (x0 2)))]) (Q1 := (fun z0 h' => z0 = some (.int (nI (fwC x3 (g 12 2) (x0 2) (g 12 2) 1))) ∧ h' = HN (RO g 128 x0 x1 x2 x3) hl (RF rt))) rfl rfl (K128_following _ g _ _ hP5 x0 x1 x2 x3 hx3 (x0 2) (by omega) ⟨rfl, rfl⟩) (fun r h' hr => ?_)
      obtain ⟨rfl, rfl⟩ := hr
      have hfw := fwC_l5 x3 (x0 2) hP5
      refine Ev.ret (v := some (.int (nI (fwC x3 (g 12 2) (x0 2) (g 12 2) 1)))) rfl ?_
      unfold acC at hq
      first
        | (rw [if_neg (by omega)] at hq; exact hq)
        | (rw [if_pos (by omega), if_pos (by omega)] at hq; exact hq)
        | (rw [if_pos (by omega), if_neg (by omega)] at hq; exact hq)
    · have hc20 : ¬ ((x3 (x0 2)) ≤ 0) := fun z => hc20 ((nI_leI0 (by omega)).mpr z)
      refine Ev.run 3 (pc' := 39) (lv' := [(0, .ref 12), (1, .ref 128)]) (st' := [.int (nI (x0 2))]) (h' := HN (RO g 128 x0 x1 x2 x3) hl (RF rt)) rfl ?_
      refine Ev.ret (v := some (.int (nI (x0 2)))) rfl ?_
      unfold acC at hq
      first
        | (rw [if_neg (by omega)] at hq; exact hq)
        | (rw [if_pos (by omega), if_pos (by omega)] at hq; exact hq)
        | (rw [if_pos (by omega), if_neg (by omega)] at hq; exact hq)
  · have hhb8 : ¬ ((x0 2) < g 12 2) := of_decide_eq_false hb8
    refine Ev.run 5 (pc' := 36) (lv' := [(0, .ref 12), (1, .ref 128)]) (st' := [.int (nI (x0 2)), .ref 128, .ref 12]) (h' := HN (RO g 128 x0 x1 x2 x3) hl (RF rt)) rfl ?_
    refine Ev.call (a := 33) (as := [.ref 12, .ref 128, .int (nI (x0 2))]) (rest := []) (lv0 := [(0, .ref 12), (1, .ref 128), (2, .int (nI (x0 2)))]) (Q1 := (fun z0 h' => z0 = some (.int (nI (fwC x3 (g 12 2) (x0 2) (g 12 2) 1))) ∧ h' = HN (RO g 128 x0 x1 x2 x3) hl (RF rt))) rfl rfl (K128_following _ g _ _ hP5 x0 x1 x2 x3 hx3 (x0 2) (by omega) ⟨rfl, rfl⟩) (fun r h' hr => ?_)
    obtain ⟨rfl, rfl⟩ := hr
    have hfw := fwC_l5 x3 (x0 2) hP5
    refine Ev.ret (v := some (.int (nI (fwC x3 (g 12 2) (x0 2) (g 12 2) 1)))) rfl ?_
    unfold acC at hq
    first
      | (rw [if_neg (by omega)] at hq; exact hq)
      | (rw [if_pos (by omega), if_pos (by omega)] at hq; exact hq)
      | (rw [if_pos (by omega), if_neg (by omega)] at hq; exact hq)
theorem K128_restart {L : Nat} {xs : Nat → Int32} (d : Nat) (g : Nat → Nat → Nat) (hl : Nat → Nat → Int64) (rt : Nat × Nat × Nat × Nat) (x0 x1 x2 x3 : Nat → Nat) (p : Nat) {Q : Po} (hq : Q none (HN (RO g 128 (up (up x0 3 4294967295) 2 p) (up x1 1 0) x2 x3) hl (RF rt))) : Ev L xs (d + 1) 61 0 [(0, .ref 128), (1, .int (nI p))] [] (HN (RO g 128 x0 x1 x2 x3) hl (RF rt)) Q := by
  refine Ev.run 2 (pc' := 4) (lv' := [(0, .ref 128), (1, .int (nI p))]) (st' := [.ref 129]) (h' := HN (RO g 128 x0 x1 x2 x3) hl (RF rt)) rfl ?_
  refine Ev.call (a := 45) (as := [.ref 129]) (rest := []) (lv0 := [(0, .ref 129)]) (Q1 := (fun z0 h' => z0 = none ∧ h' = HN (RO g 128 x0 (up x1 1 0) x2 x3) hl (RF rt))) rfl rfl (K_clear _ _ _ _ 129 12 (ln129 rt) ⟨rfl, congrArg (fun z => HN z hl (RF rt)) (RO_1 _ _ _ _ _ _ _ _)⟩) (fun r h' hr => ?_)
  obtain ⟨rfl, rfl⟩ := hr
  refine Ev.run 3 (pc' := 12) (lv' := [(0, .ref 128), (1, .int (nI p))]) (st' := []) (h' := setI (HN (RO g 128 x0 (up x1 1 0) x2 x3) hl (RF rt)) 128 3 (nI 4294967295)) rfl ?_
  refine Ev.hp (HN_set _ _ _ _ _ _) ?_
  refine Ev.hp (congrArg (fun z => HN z hl (RF rt)) (RO_0 _ _ _ _ _ _ _ _)) ?_
  refine Ev.run 3 (pc' := 17) (lv' := [(0, .ref 128), (1, .int (nI p))]) (st' := []) (h' := setI (HN (RO g 128 (up x0 3 4294967295) (up x1 1 0) x2 x3) hl (RF rt)) 128 2 (nI p)) rfl ?_
  refine Ev.hp (HN_set _ _ _ _ _ _) ?_
  refine Ev.hp (congrArg (fun z => HN z hl (RF rt)) (RO_0 _ _ _ _ _ _ _ _)) ?_
  refine Ev.ret (v := none) rfl ?_
  exact hq
theorem K128_lose {L : Nat} {xs : Nat → Int32} (d : Nat) (g : Nat → Nat → Nat) (hl : Nat → Nat → Int64) (rt : Nat × Nat × Nat × Nat) (hP5 : g 12 2 ≤ 5) (x0 x1 x2 x3 : Nat → Nat) (hx3 : ∀ j, j < 5 → x3 j ≤ 99) (p : Nat) (hp : p < 5) {Q : Po} (hq : Q none (HN (RO g 128 (loX0 x0 x3 (g 12 2) p) (up x1 1 0) x2 (up x3 p (x3 p - 1))) hl (RF rt))) : Ev L xs (d + 3) 38 0 [(0, .ref 12), (1, .ref 128), (2, .int (nI p))] [] (HN (RO g 128 x0 x1 x2 x3) hl (RF rt)) Q := by
  refine Ev.run 3 (pc' := 5) (lv' := [(0, .ref 12), (1, .ref 128), (2, .int (nI p))]) (st' := []) (h' := setI (HN (RO g 128 x0 x1 x2 x3) hl (RF rt)) 128 4 (nI p)) rfl ?_
  refine Ev.hp (HN_set _ _ _ _ _ _) ?_
  refine Ev.hp (congrArg (fun z => HN z hl (RF rt)) (RO_0 _ _ _ _ _ _ _ _)) ?_
  refine Ev.run 6 (pc' := 15) (lv' := [(0, .ref 12), (1, .ref 128), (2, .int (nI p))]) (st' := [.int (nI p), .ref 131, .int (nI p), .ref 131]) (h' := HN (RO g 128 (up x0 4 p) x1 x2 x3) hl (RF rt)) rfl ?_
  refine Ev_iald rfl rfl (show p < 5 by omega) (Nat.le_of_ble_eq_true rfl) ?_
  refine Ev.run 3 (pc' := 19) (lv' := [(0, .ref 12), (1, .ref 128), (2, .int (nI p))]) (st' := [.int (nI 0), .int (nI (x3 p) - nI 1), .int (nI p), .ref 131]) (h' := HN (RO g 128 (up x0 4 p) x1 x2 x3) hl (RF rt)) rfl ?_
  refine Ev_max rfl rfl rfl (mx1 (by have := hx3 p hp; omega)) ?_
  refine Ev_iast rfl rfl (show p < 5 by omega) (Nat.le_of_ble_eq_true rfl) ?_
  refine Ev.hp (congrArg (fun z => HN z hl (RF rt)) (RO_3 _ _ _ _ _ _ _ _)) ?_
  refine Ev.run 2 (pc' := 25) (lv' := [(0, .ref 12), (1, .ref 128), (2, .int (nI p))]) (st' := [.int (nI p), .ref 128]) (h' := HN (RO g 128 (up x0 4 p) x1 x2 (up x3 p (x3 p - 1))) hl (RF rt)) rfl ?_
  refine Ev.call (a := 61) (as := [.ref 128, .int (nI p)]) (rest := []) (lv0 := [(0, .ref 128), (1, .int (nI p))]) (Q1 := (fun z0 h' => z0 = none ∧ h' = HN (RO g 128 (up (up (up x0 4 p) 3 4294967295) 2 p) (up x1 1 0) x2 (up x3 p (x3 p - 1))) hl (RF rt))) rfl rfl (K128_restart _ g _ _ (up x0 4 p) x1 x2 (up x3 p (x3 p - 1)) p ⟨rfl, rfl⟩) (fun r h' hr => ?_)
  obtain ⟨rfl, rfl⟩ := hr
  have hx3u : ∀ j, j < 5 → up x3 p (x3 p - 1) j ≤ 99 := up_le hx3 (by have := hx3 p hp; omega)
  have hx0u : up (up (up x0 4 p) 3 4294967295) 2 p 2 ≤ 4 := (show p ≤ 4 by omega)
  refine Ev.run 2 (pc' := 30) (lv' := [(0, .ref 12), (1, .ref 128), (2, .int (nI p))]) (st' := [.ref 128, .ref 12]) (h' := HN (RO g 128 (up (up (up x0 4 p) 3 4294967295) 2 p) (up x1 1 0) x2 (up x3 p (x3 p - 1))) hl (RF rt)) rfl ?_
  refine Ev.call (a := 34) (as := [.ref 12, .ref 128]) (rest := []) (lv0 := [(0, .ref 12), (1, .ref 128)]) (Q1 := (fun z0 h' => z0 = some (.int (nI (acC (up (up (up x0 4 p) 3 4294967295) 2 p) (up x3 p (x3 p - 1)) (g 12 2)))) ∧ h' = HN (RO g 128 (up (up (up x0 4 p) 3 4294967295) 2 p) (up x1 1 0) x2 (up x3 p (x3 p - 1))) hl (RF rt))) rfl rfl (K128_acting _ g _ _ hP5 (up (up (up x0 4 p) 3 4294967295) 2 p) (up x1 1 0) x2 (up x3 p (x3 p - 1)) hx3u hx0u ⟨rfl, rfl⟩) (fun r h' hr => ?_)
  obtain ⟨rfl, rfl⟩ := hr
  have hac := acC_l5 (up (up (up x0 4 p) 3 4294967295) 2 p) (up x3 p (x3 p - 1)) hP5
  refine Ev.run 3 (pc' := (if nI (acC (up (up (up x0 4 p) 3 4294967295) 2 p) (up x3 p (x3 p - 1)) (g 12 2)) < 0 then 43 else 38)) (lv' := [(3, .int (nI (acC (up (up (up x0 4 p) 3 4294967295) 2 p) (up x3 p (x3 p - 1)) (g 12 2)))), (0, .ref 12), (1, .ref 128), (2, .int (nI p))]) (st' := []) (h' := HN (RO g 128 (up (up (up x0 4 p) 3 4294967295) 2 p) (up x1 1 0) x2 (up x3 p (x3 p - 1))) hl (RF rt)) rfl ?_
  refine Ev.ite (fun hc35 => ?_) (fun hc35 => ?_)
  · have hc35 : 2147483648 ≤ (acC (up (up (up x0 4 p) 3 4294967295) 2 p) (up x3 p (x3 p - 1)) (g 12 2)) := (nI_ltU0 (by omega)).mp hc35
    refine Ev.ret (v := none) rfl ?_
    unfold loX0 at hq
    first | (rw [if_pos (by omega)] at hq; exact hq) | (rw [if_neg (by omega)] at hq; exact hq)
  · have hc35 : ¬ (2147483648 ≤ (acC (up (up (up x0 4 p) 3 4294967295) 2 p) (up x3 p (x3 p - 1)) (g 12 2))) := fun z => hc35 ((nI_ltU0 (by omega)).mpr z)
    refine Ev.run 3 (pc' := 43) (lv' := [(3, .int (nI (acC (up (up (up x0 4 p) 3 4294967295) 2 p) (up x3 p (x3 p - 1)) (g 12 2)))), (0, .ref 12), (1, .ref 128), (2, .int (nI p))]) (st' := []) (h' := setI (HN (RO g 128 (up (up (up x0 4 p) 3 4294967295) 2 p) (up x1 1 0) x2 (up x3 p (x3 p - 1))) hl (RF rt)) 128 2 (nI (acC (up (up (up x0 4 p) 3 4294967295) 2 p) (up x3 p (x3 p - 1)) (g 12 2)))) rfl ?_
    refine Ev.hp (HN_set _ _ _ _ _ _) ?_
    refine Ev.hp (congrArg (fun z => HN z hl (RF rt)) (RO_0 _ _ _ _ _ _ _ _)) ?_
    refine Ev.ret (v := none) rfl ?_
    unfold loX0 at hq
    first | (rw [if_pos (by omega)] at hq; exact hq) | (rw [if_neg (by omega)] at hq; exact hq)
