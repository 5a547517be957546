/-! references that change; a game is copied -/
theorem cnd2 {α : Type} {c : Bool} {x y x' y' : α} (h1 : c = true → x = x') (h2 : c = false → y = y') : (bif c then x else y) = (bif c then x' else y') := by
  cases c with
  | true => exact h1 rfl
  | false => exact h2 rfl
theorem blt_ge {a b : Nat} (h : Nat.blt a b = false) : b ≤ a := by
  by_cases e : a < b
  · have : Nat.blt a b = true := Nat.ble_eq_true_of_le e
    rw [this] at h; cases h
  · omega
theorem beq_ne2 {a b : Nat} (h : Nat.beq a b = false) : a ≠ b := fun e => by
  rw [e, beq_t rfl] at h; cases h
theorem RF_c0 {a b c d q k j : Nat} (h : k ≠ 5 ∨ j ≠ 0) : RF (q, b, c, d) k j = RF (a, b, c, d) k j := by
  unfold RF
  repeat' (first | rfl | (refine cnd2 (fun h => ?_) (fun h => ?_) <;> (first | replace h := blt_lt h | replace h := blt_ge h | replace h := beq_e h | replace h := beq_ne2 h)))
  all_goals (exfalso; omega)
theorem HN_set0 (g : Nat → Nat → Nat) (hl : Nat → Nat → Int64) (t : Nat × Nat × Nat × Nat) (q : Nat) : setR (HN g hl (RF t)) 5 0 (some q) = HN g hl (RF (q, t.2.1, t.2.2.1, t.2.2.2)) := by
  obtain ⟨a, b, c, d⟩ := t
  unfold setR HN
  refine congrArg (fun z => ((210 : Nat), (fun k j => nI (g k j)), hl, z)) (funext fun k => funext fun j => ?_)
  show u2 (RF (a, b, c, d)) 5 0 (some q) k j = RF (q, b, c, d) k j
  unfold u2
  by_cases h1 : k = 5
  · rw [if_pos h1]
    by_cases h2 : j = 0
    · rw [if_pos h2, h1, h2]; rfl
    · rw [if_neg h2, RF_c0 (Or.inr h2)]
  · rw [if_neg h1, RF_c0 (Or.inl h1)]
theorem RF_c1 {a b c d q k j : Nat} (h : k ≠ 5 ∨ j ≠ 1) : RF (a, q, c, d) k j = RF (a, b, c, d) k j := by
  unfold RF
  repeat' (first | rfl | (refine cnd2 (fun h => ?_) (fun h => ?_) <;> (first | replace h := blt_lt h | replace h := blt_ge h | replace h := beq_e h | replace h := beq_ne2 h)))
  all_goals (exfalso; omega)
theorem HN_set1 (g : Nat → Nat → Nat) (hl : Nat → Nat → Int64) (t : Nat × Nat × Nat × Nat) (q : Nat) : setR (HN g hl (RF t)) 5 1 (some q) = HN g hl (RF (t.1, q, t.2.2.1, t.2.2.2)) := by
  obtain ⟨a, b, c, d⟩ := t
  unfold setR HN
  refine congrArg (fun z => ((210 : Nat), (fun k j => nI (g k j)), hl, z)) (funext fun k => funext fun j => ?_)
  show u2 (RF (a, b, c, d)) 5 1 (some q) k j = RF (a, q, c, d) k j
  unfold u2
  by_cases h1 : k = 5
  · rw [if_pos h1]
    by_cases h2 : j = 1
    · rw [if_pos h2, h1, h2]; rfl
    · rw [if_neg h2, RF_c1 (Or.inr h2)]
  · rw [if_neg h1, RF_c1 (Or.inl h1)]
theorem RF_c2 {a b c d q k j : Nat} (h : k ≠ 12 ∨ j ≠ 8) : RF (a, b, q, d) k j = RF (a, b, c, d) k j := by
  unfold RF
  repeat' (first | rfl | (refine cnd2 (fun h => ?_) (fun h => ?_) <;> (first | replace h := blt_lt h | replace h := blt_ge h | replace h := beq_e h | replace h := beq_ne2 h)))
  all_goals (exfalso; omega)
theorem HN_set2 (g : Nat → Nat → Nat) (hl : Nat → Nat → Int64) (t : Nat × Nat × Nat × Nat) (q : Nat) : setR (HN g hl (RF t)) 12 8 (some q) = HN g hl (RF (t.1, t.2.1, q, t.2.2.2)) := by
  obtain ⟨a, b, c, d⟩ := t
  unfold setR HN
  refine congrArg (fun z => ((210 : Nat), (fun k j => nI (g k j)), hl, z)) (funext fun k => funext fun j => ?_)
  show u2 (RF (a, b, c, d)) 12 8 (some q) k j = RF (a, b, q, d) k j
  unfold u2
  by_cases h1 : k = 12
  · rw [if_pos h1]
    by_cases h2 : j = 8
    · rw [if_pos h2, h1, h2]; rfl
    · rw [if_neg h2, RF_c2 (Or.inr h2)]
  · rw [if_neg h1, RF_c2 (Or.inl h1)]
theorem RF_c3 {a b c d q k j : Nat} (h : k ≠ 70 ∨ j ≠ 8) : RF (a, b, c, q) k j = RF (a, b, c, d) k j := by
  unfold RF
  repeat' (first | rfl | (refine cnd2 (fun h => ?_) (fun h => ?_) <;> (first | replace h := blt_lt h | replace h := blt_ge h | replace h := beq_e h | replace h := beq_ne2 h)))
  all_goals (exfalso; omega)
theorem HN_set3 (g : Nat → Nat → Nat) (hl : Nat → Nat → Int64) (t : Nat × Nat × Nat × Nat) (q : Nat) : setR (HN g hl (RF t)) 70 8 (some q) = HN g hl (RF (t.1, t.2.1, t.2.2.1, q)) := by
  obtain ⟨a, b, c, d⟩ := t
  unfold setR HN
  refine congrArg (fun z => ((210 : Nat), (fun k j => nI (g k j)), hl, z)) (funext fun k => funext fun j => ?_)
  show u2 (RF (a, b, c, d)) 70 8 (some q) k j = RF (a, b, c, q) k j
  unfold u2
  by_cases h1 : k = 70
  · rw [if_pos h1]
    by_cases h2 : j = 8
    · rw [if_pos h2, h1, h2]; rfl
    · rw [if_neg h2, RF_c3 (Or.inr h2)]
  · rw [if_neg h1, RF_c3 (Or.inl h1)]
theorem Ev_pfR {L : Nat} {xs : Nat → Int32} {d q pc : Nat} {lv : Lv} {st : List Value} {Q : Option Value → Hp → Prop} {g : Nat → Nat → Nat} {hl : Nat → Nat → Int64} {rf rf' : Nat → Nat → Option Nat} {i : Nat} {n a b p k N x : Nat} (he : fetch_ q pc = some (.putfield i, n, a, b, 2, p)) (hk : KC k a N) (hs : setR (HN g hl rf) k b (some x) = HN g hl rf') (kk : Ev L xs d q (pc + n) lv st (HN g hl rf') Q) : Ev L xs d q pc lv (.ref x :: .ref k :: st) (HN g hl rf) Q := by
  refine Ev.one he rfl (c := (pc + n, lv, st, HN g hl rf')) ?_ kk
  show (match putF a b 2 (.ref x :: .ref k :: st) (HN g hl rf) with | some c => some (pc + n, lv, c.1, c.2) | none => none) = _
  unfold putF
  dsimp only
  rw [hk.k, hs]
  rfl
theorem cpLn_f {g : Nat → Nat → Nat} {c0 c1 : Nat} (h : c0 + 1 ≠ c1) : (∀ c, c ≠ c1 → c ≠ c1 + 1 → cpLn g c0 c1 c = g c) ∧ cpLn g c0 c1 c1 1 = g c0 1 ∧ ∀ q, q < g c0 1 → cpLn g c0 c1 (c1 + 1) q = g (c0 + 1) q := by
  refine ⟨fun c h1 h2 => funext (fun j => cpLn_ne g c0 c1 j h1 h2), ?_, fun q hq => ?_⟩
  · unfold cpLn cpR
    rw [if_neg (by omega), u2_at]
  · unfold cpLn cpR
    rw [if_pos rfl, if_pos ⟨Nat.zero_le _, by omega⟩, Nat.sub_zero]
theorem cpR_f (g : Nat → Nat → Nat) (c n : Nat) (s : Nat → Nat) : (∀ a, a ≠ c → cpR g c 0 n s a = g a) ∧ ∀ j, j < n → cpR g c 0 n s c j = s j := by
  refine ⟨fun a h => funext (fun j => ?_), fun j hj => ?_⟩
  · unfold cpR
    rw [if_neg h]
  · unfold cpR
    rw [if_pos rfl, if_pos ⟨Nat.zero_le _, by omega⟩, Nat.sub_zero]
theorem u2_f (g : Nat → Nat → Nat) (c j x : Nat) : (∀ a, a ≠ c → u2 g c j x a = g a) ∧ u2 g c j x c j = x ∧ ∀ i, i ≠ j → u2 g c j x c i = g c i :=
  ⟨fun a h => funext (fun i => u2_ne g (Or.inl h)), u2_at g c j x, fun i h => u2_ne g (Or.inr h)⟩
theorem cpP_f {g : Nat → Nat → Nat} {c0 c1 : Nat} (h : c0 + 1 ≠ c1 ∧ c0 ≠ c1 ∧ c0 ≠ c1 + 1) : (∀ c, c ≠ c1 → c ≠ c1 + 1 → cpP g c0 c1 c = g c) ∧ (∀ j, 1 ≤ j → j ≤ 3 → cpP g c0 c1 c1 j = g c0 j) ∧ ∀ q, q < 4 → cpP g c0 c1 (c1 + 1) q = g (c0 + 1) q := by
  refine ⟨fun c h1 h2 => funext (fun j => ?_), fun j h1 h2 => ?_, fun q hq => ?_⟩
  · unfold cpP cpR
    rw [if_neg h2, bcP_ne _ _ _ _ h1 h2]
  · unfold cpP cpR
    rw [if_neg (by omega)]
    unfold bcP flR u2
    rw [if_neg (by omega)]
    simp only [if_true]
    rcases (show j = 1 ∨ j = 2 ∨ j = 3 by omega) with rfl | rfl | rfl <;> rfl
  · unfold cpP cpR
    rw [if_pos rfl, if_pos ⟨Nat.zero_le _, by omega⟩, Nat.sub_zero, bcP_ne _ _ _ _ (by omega) (by omega)]
theorem lnG12 (rt : Nat × Nat × Nat × Nat) {i : Nat} (h : i < 12) : LnC rt (19 + 2 * i) 6 ∧ RF rt 14 i = some (19 + 2 * i) := by
  rcases (show i = 0 ∨ i = 1 ∨ i = 2 ∨ i = 3 ∨ i = 4 ∨ i = 5 ∨ i = 6 ∨ i = 7 ∨ i = 8 ∨ i = 9 ∨ i = 10 ∨ i = 11 by omega) with rfl | rfl | rfl | rfl | rfl | rfl | rfl | rfl | rfl | rfl | rfl | rfl <;> exact ⟨⟨⟨by decide, rfl⟩, ⟨by decide, rfl⟩, rfl, by decide⟩, rfl⟩
theorem plG12 (rt : Nat × Nat × Nat × Nat) {i : Nat} (h : i < 5) : KC (60 + 2 * i) 4 4 ∧ KC (60 + 2 * i + 1) 11 4 ∧ RF rt 43 i = some (60 + 2 * i) ∧ RF rt (60 + 2 * i) 0 = some (60 + 2 * i + 1) := by
  rcases (show i = 0 ∨ i = 1 ∨ i = 2 ∨ i = 3 ∨ i = 4 by omega) with rfl | rfl | rfl | rfl | rfl <;> exact ⟨⟨by decide, rfl⟩, ⟨by decide, rfl⟩, rfl, rfl⟩
theorem lnG70 (rt : Nat × Nat × Nat × Nat) {i : Nat} (h : i < 12) : LnC rt (77 + 2 * i) 6 ∧ RF rt 72 i = some (77 + 2 * i) := by
  rcases (show i = 0 ∨ i = 1 ∨ i = 2 ∨ i = 3 ∨ i = 4 ∨ i = 5 ∨ i = 6 ∨ i = 7 ∨ i = 8 ∨ i = 9 ∨ i = 10 ∨ i = 11 by omega) with rfl | rfl | rfl | rfl | rfl | rfl | rfl | rfl | rfl | rfl | rfl | rfl <;> exact ⟨⟨⟨by decide, rfl⟩, ⟨by decide, rfl⟩, rfl, by decide⟩, rfl⟩
theorem plG70 (rt : Nat × Nat × Nat × Nat) {i : Nat} (h : i < 5) : KC (118 + 2 * i) 4 4 ∧ KC (118 + 2 * i + 1) 11 4 ∧ RF rt 101 i = some (118 + 2 * i) ∧ RF rt (118 + 2 * i) 0 = some (118 + 2 * i + 1) := by
  rcases (show i = 0 ∨ i = 1 ∨ i = 2 ∨ i = 3 ∨ i = 4 by omega) with rfl | rfl | rfl | rfl | rfl <;> exact ⟨⟨by decide, rfl⟩, ⟨by decide, rfl⟩, rfl, rfl⟩
/-- k lines of the book copied -/
def CpW70 (g W : Nat → Nat → Nat) (k : Nat) : Prop := (∀ c, ¬ (77 ≤ c ∧ c < 77 + 2 * k) → W c = g c) ∧ ∀ i, i < k → W (77 + 2 * i) 1 = g (19 + 2 * i) 1 ∧ ∀ q, q < g (19 + 2 * i) 1 → W (77 + 2 * i + 1) q = g (19 + 2 * i + 1) q
theorem CpW70.s {g W : Nat → Nat → Nat} {k : Nat} (h : CpW70 g W k) (hk : k < 12) : CpW70 g (cpLn W (19 + 2 * k) (77 + 2 * k)) (k + 1) := by
  obtain ⟨a, b, c⟩ := cpLn_f (g := W) (c0 := 19 + 2 * k) (c1 := 77 + 2 * k) (by omega)
  have e1 : W (19 + 2 * k) = g (19 + 2 * k) := h.1 _ (by omega)
  have e2 : W (19 + 2 * k + 1) = g (19 + 2 * k + 1) := h.1 _ (by omega)
  refine ⟨fun x hx => (a x (by omega) (by omega)).trans (h.1 x (by omega)), fun i hi => ?_⟩
  by_cases e : i = k
  · rw [e]
    rw [e1] at b c
    rw [e2] at c
    exact ⟨b, c⟩
  · have z := h.2 i (by omega)
    rw [a _ (by omega) (by omega), a _ (by omega) (by omega)]
    exact z
/-- the book copied -/
def CpB70 (g W : Nat → Nat → Nat) : Prop := (∀ c, c ≠ 71 → c ≠ 73 → c ≠ 74 → c ≠ 75 → ¬ (77 ≤ c ∧ c ≤ 77 + 23) → W c = g c) ∧ W 71 5 = g 13 5 ∧ (∀ i, i < 12 → W (77 + 2 * i) 1 = g (19 + 2 * i) 1) ∧ (∀ i q, i < 12 → q < g (19 + 2 * i) 1 → W (77 + 2 * i + 1) q = g (19 + 2 * i + 1) q) ∧ (∀ j, j < 12 → W 73 j = g 15 j) ∧ (∀ j, j < 24 → W 74 j = g 16 j) ∧ ∀ j, j < 7 → W 75 j = g 17 j
theorem K_bkc70 {L : Nat} {xs : Nat → Int32} (d : Nat) (g : Nat → Nat → Nat) (hl : Nat → Nat → Int64) (rt : Nat × Nat × Nat × Nat) (hS : ∀ i, i < 12 → g (19 + 2 * i) 1 ≤ 6) {Q : Po} (hq : ∀ W, CpB70 g W → Q none (HN W hl (RF rt))) : Ev L xs (d + 3) 9 0 [(0, .ref 71), (1, .ref 13)] [] (HN g hl (RF rt)) Q := by
  refine Ev.run 2 (pc' := 2) (lv' := [(2, .int (nI 0)), (0, .ref 71), (1, .ref 13)]) (st' := []) (h' := HN g hl (RF rt)) rfl ?_
  refine for_ind 12 (fun k => ∀ W, CpW70 g W k → Ev L xs (d + 3) 9 2 [(2, .int (nI k)), (0, .ref 71), (1, .ref 13)] [] (HN W hl (RF rt)) Q) (fun k hk hnext => ?_) 0 (Nat.zero_le _) g ⟨fun _ _ => rfl, fun i hi => absurd hi (Nat.not_lt_zero _)⟩
  intro W hW
  refine Ev.run 3 (pc' := (if nI 12 ≤ nI k then 29 else 8)) (lv' := [(2, .int (nI k)), (0, .ref 71), (1, .ref 13)]) (st' := []) (h' := HN W hl (RF rt)) rfl ?_
  refine Ev.ite (fun hc5 => ?_) (fun hc5 => ?_)
  · have hc5 : 12 ≤ k := (nI_leI (by omega) (by omega)).mp hc5
    refine Ev.run 7 (pc' := 41) (lv' := [(2, .int (nI k)), (0, .ref 71), (1, .ref 13)]) (st' := [.int (nI 12), .int (nI 0), .ref 73, .int (nI 0), .ref 15]) (h' := HN W hl (RF rt)) rfl ?_
    refine Ev_acpI rfl rfl rfl (⟨by decide, rfl⟩ : KC 15 11 12) (⟨by decide, rfl⟩ : KC 73 11 12) (by omega) (by omega) (by omega) ?_
    refine Ev.run 7 (pc' := 56) (lv' := [(2, .int (nI k)), (0, .ref 71), (1, .ref 13)]) (st' := [.int (nI 24), .int (nI 0), .ref 74, .int (nI 0), .ref 16]) (h' := HN (cpR W 73 0 12 (W 15)) hl (RF rt)) rfl ?_
    refine Ev_acpI rfl rfl rfl (⟨by decide, rfl⟩ : KC 16 11 24) (⟨by decide, rfl⟩ : KC 74 11 24) (by omega) (by omega) (by omega) ?_
    refine Ev.run 7 (pc' := 71) (lv' := [(2, .int (nI k)), (0, .ref 71), (1, .ref 13)]) (st' := [.int (nI 7), .int (nI 0), .ref 75, .int (nI 0), .ref 17]) (h' := HN (cpR (cpR W 73 0 12 (W 15)) 74 0 24 ((cpR W 73 0 12 (W 15)) 16)) hl (RF rt)) rfl ?_
    refine Ev_acpI rfl rfl rfl (⟨by decide, rfl⟩ : KC 17 11 7) (⟨by decide, rfl⟩ : KC 75 11 7) (by omega) (by omega) (by omega) ?_
    refine Ev.run 4 (pc' := 82) (lv' := [(2, .int (nI k)), (0, .ref 71), (1, .ref 13)]) (st' := []) (h' := setI (HN (cpR (cpR (cpR W 73 0 12 (W 15)) 74 0 24 ((cpR W 73 0 12 (W 15)) 16)) 75 0 7 ((cpR (cpR W 73 0 12 (W 15)) 74 0 24 ((cpR W 73 0 12 (W 15)) 16)) 17)) hl (RF rt)) 71 5 (nI (W 13 5))) rfl ?_
    refine Ev.hp (HN_set _ _ _ _ _ _) ?_
    refine Ev.ret (v := none) rfl ?_
    have hk12 : k = 12 := by omega
    subst hk12
    obtain ⟨V, hVe⟩ : ∃ V, V = u2 (cpR (cpR (cpR W 73 0 12 (W 15)) 74 0 24 ((cpR W 73 0 12 (W 15)) 16)) 75 0 7 ((cpR (cpR W 73 0 12 (W 15)) 74 0 24 ((cpR W 73 0 12 (W 15)) 16)) 17)) 71 5 (W 13 5) := ⟨_, rfl⟩
    rw [← hVe]
    have f1 := cpR_f W 73 12 (W 15)
    have f2 := cpR_f (cpR W 73 0 12 (W 15)) 74 24 ((cpR W 73 0 12 (W 15)) 16)
    have f3 := cpR_f (cpR (cpR W 73 0 12 (W 15)) 74 0 24 ((cpR W 73 0 12 (W 15)) 16)) 75 7 ((cpR (cpR W 73 0 12 (W 15)) 74 0 24 ((cpR W 73 0 12 (W 15)) 16)) 17)
    have f4 := u2_f (cpR (cpR (cpR W 73 0 12 (W 15)) 74 0 24 ((cpR W 73 0 12 (W 15)) 16)) 75 0 7 ((cpR (cpR W 73 0 12 (W 15)) 74 0 24 ((cpR W 73 0 12 (W 15)) 16)) 17)) 71 5 (W 13 5)
    refine hq V ⟨fun c h1 h2 h3 h4 h5 => ?_, ?_, fun i hi => ?_, fun i q hi hqq => ?_, fun j hj => ?_, fun j hj => ?_, fun j hj => ?_⟩
    · rw [hVe, f4.1 c h1, f3.1 c h4, f2.1 c h3, f1.1 c h2]; exact hW.1 c (by omega)
    · rw [hVe, f4.2.1, hW.1 13 (by omega)]
    · rw [hVe, f4.1 _ (by omega), f3.1 _ (by omega), f2.1 _ (by omega), f1.1 _ (by omega)]; exact (hW.2 i hi).1
    · rw [hVe, f4.1 _ (by omega), f3.1 _ (by omega), f2.1 _ (by omega), f1.1 _ (by omega)]; exact (hW.2 i hi).2 q hqq
    · rw [hVe, f4.1 _ (by decide), f3.1 _ (by decide), f2.1 _ (by decide), f1.2 j hj, hW.1 _ (by omega)]
    · rw [hVe, f4.1 _ (by decide), f3.1 _ (by decide), f2.2 j hj, f1.1 _ (by decide), hW.1 _ (by omega)]
    · rw [hVe, f4.1 _ (by decide), f3.2 j hj, f2.1 _ (by decide), f1.1 _ (by decide), hW.1 _ (by omega)]
  · have hc5 : ¬ (12 ≤ k) := fun z => hc5 ((nI_leI (by omega) (by omega)).mpr z)
    refine Ev.run 3 (pc' := 13) (lv' := [(2, .int (nI k)), (0, .ref 71), (1, .ref 13)]) (st' := [.int (nI k), .ref 72]) (h' := HN W hl (RF rt)) rfl ?_
    refine Ev_aald (c := (77 + 2 * k)) rfl (by decide) rfl (show k < 12 by omega) (Nat.le_of_ble_eq_true rfl) (lnG70 rt (show k < 12 by omega)).2 ?_
    refine Ev.run 3 (pc' := 19) (lv' := [(2, .int (nI k)), (0, .ref 71), (1, .ref 13)]) (st' := [.int (nI k), .ref 14, .ref (77 + 2 * k)]) (h' := HN W hl (RF rt)) rfl ?_
    refine Ev_aald (c := (19 + 2 * k)) rfl (by decide) rfl (show k < 12 by omega) (Nat.le_of_ble_eq_true rfl) (lnG12 rt (show k < 12 by omega)).2 ?_
    refine Ev_callV (a := 46) (as := [.ref (77 + 2 * k), .ref (19 + 2 * k)]) (rest := []) (lv0 := [(0, .ref (77 + 2 * k)), (1, .ref (19 + 2 * k))]) (Q1 := (fun z0 h' => z0 = none ∧ h' = HN (cpLn W (19 + 2 * k) (77 + 2 * k)) hl (RF rt))) rfl rfl rfl rfl rfl (lnG70 rt (show k < 12 by omega)).1.1.k rfl rfl rfl (K_copyLine _ W _ _ (19 + 2 * k) (77 + 2 * k) 6 6 (lnG12 rt (by omega)).1 (lnG70 rt (by omega)).1 (by rw [hW.1 _ (by omega)]; exact hS k (by omega)) (by rw [hW.1 _ (by omega)]; exact hS k (by omega)) (by omega) ⟨rfl, rfl⟩) (fun r h' hr => ?_)
    obtain ⟨rfl, rfl⟩ := hr
    refine Ev.run 1 (pc' := 26) (lv' := [(2, .int (nI k + 1)), (0, .ref 71), (1, .ref 13)]) (st' := []) (h' := HN (cpLn W (19 + 2 * k) (77 + 2 * k)) hl (RF rt)) rfl ?_
    refine Ev.lvE (congrArg (fun z => (2, Value.int z) :: [(0, .ref 71), (1, .ref 13)]) (nI_1 _)) ?_
    refine Ev.run 1 (pc' := 2) (lv' := [(2, .int (nI (k + 1))), (0, .ref 71), (1, .ref 13)]) (st' := []) (h' := HN (cpLn W (19 + 2 * k) (77 + 2 * k)) hl (RF rt)) rfl ?_
    have hx := hnext (by omega) _ (hW.s (by omega))
    exact Ev.wk (Ext.cons rfl rfl (Ext.cons rfl rfl (Ext.cons rfl rfl (Ext.nil rfl)))) hx
/-- a round copied -/
def CpR70 (g V : Nat → Nat → Nat) : Prop := (∀ c, c ≠ 102 → c ≠ 103 → c ≠ 104 → c ≠ 105 → V c = g c) ∧ V 102 2 = g 44 2 ∧ V 102 3 = g 44 3 ∧ V 103 1 = g 45 1 ∧ (∀ q, q < g 45 1 → V 104 q = g 46 q) ∧ ∀ j, j < 5 → V 105 j = g 47 j
/-- k players copied -/
def CpP70 (g W : Nat → Nat → Nat) (k : Nat) : Prop := (∀ c, ¬ (118 ≤ c ∧ c < 118 + 2 * k) → W c = g c) ∧ ∀ i, i < k → (∀ j, 1 ≤ j → j ≤ 3 → W (118 + 2 * i) j = g (60 + 2 * i) j) ∧ ∀ q, q < 4 → W (118 + 2 * i + 1) q = g (60 + 2 * i + 1) q
theorem CpP70.s {g W : Nat → Nat → Nat} {k : Nat} (h : CpP70 g W k) (hk : k < 5) : CpP70 g (cpP W (60 + 2 * k) (118 + 2 * k)) (k + 1) := by
  obtain ⟨a, b, c⟩ := cpP_f (g := W) (c0 := 60 + 2 * k) (c1 := 118 + 2 * k) (by omega)
  have e1 : W (60 + 2 * k) = g (60 + 2 * k) := h.1 _ (by omega)
  have e2 : W (60 + 2 * k + 1) = g (60 + 2 * k + 1) := h.1 _ (by omega)
  refine ⟨fun x hx => (a x (by omega) (by omega)).trans (h.1 x (by omega)), fun i hi => ?_⟩
  by_cases e : i = k
  · rw [e]
    rw [e1] at b
    rw [e2] at c
    exact ⟨b, c⟩
  · have z := h.2 i (by omega)
    rw [a _ (by omega) (by omega), a _ (by omega) (by omega)]
    exact z
/-- a line copied -/
def CpL70 (g V : Nat → Nat → Nat) (a : Nat) : Prop := (∀ c, c ≠ 70 + a → c ≠ 70 + a + 1 → V c = g c) ∧ V (70 + a) 1 = g (12 + a) 1 ∧ ∀ q, q < g (12 + a) 1 → V (70 + a + 1) q = g (12 + a + 1) q
/-- a game copied -/
def CpG70 (g V : Nat → Nat → Nat) : Prop := (∀ c, (c < 70 ∨ c = 70 + 2 ∨ c = 70 + 6 ∨ c = 70 + 31 ∨ (70 + 44 ≤ c ∧ c ≤ 70 + 47) ∨ 70 + 57 < c) → V c = g c) ∧ V 71 5 = g 13 5 ∧ (∀ i, i < 12 → V (77 + 2 * i) 1 = g (19 + 2 * i) 1) ∧ (∀ i q, i < 12 → q < g (19 + 2 * i) 1 → V (77 + 2 * i + 1) q = g (19 + 2 * i + 1) q) ∧ (∀ j, j < 12 → V 73 j = g 15 j) ∧ (∀ j, j < 24 → V 74 j = g 16 j) ∧ (∀ j, j < 7 → V 75 j = g 17 j) ∧ (∀ i j, i < 5 → 1 ≤ j → j ≤ 3 → V (118 + 2 * i) j = g (60 + 2 * i) j) ∧ (∀ i q, i < 5 → q < 4 → V (118 + 2 * i + 1) q = g (60 + 2 * i + 1) q) ∧ V 70 2 = g 12 2 ∧ V 102 2 = g 44 2 ∧ V 102 3 = g 44 3 ∧ V 103 1 = g 45 1 ∧ (∀ q, q < g 45 1 → V 104 q = g 46 q) ∧ (∀ j, j < 5 → V 105 j = g 47 j) ∧ ∀ a, a = 36 ∨ a = 38 ∨ a = 40 ∨ a = 42 → V (70 + a) 1 = g (12 + a) 1 ∧ ∀ q, q < g (12 + a) 1 → V (70 + a + 1) q = g (12 + a + 1) q
theorem K_rc70 {L : Nat} {xs : Nat → Int32} (d : Nat) (g : Nat → Nat → Nat) (hl : Nat → Nat → Int64) (rt : Nat × Nat × Nat × Nat) (h12 : g 45 1 ≤ 12) {Q : Po} (hq : ∀ V, CpR70 g V → Q none (HN V hl (RF rt))) : Ev L xs (d + 3) 62 0 [(0, .ref 102), (1, .ref 44)] [] (HN g hl (RF rt)) Q := by
  refine Ev.run 4 (pc' := 8) (lv' := [(0, .ref 102), (1, .ref 44)]) (st' := [.ref 45, .ref 103]) (h' := HN g hl (RF rt)) rfl ?_
  refine Ev.call (a := 46) (as := [.ref 103, .ref 45]) (rest := []) (lv0 := [(0, .ref 103), (1, .ref 45)]) (Q1 := (fun z0 h' => z0 = none ∧ h' = HN (cpLn g 45 103) hl (RF rt))) rfl rfl (K_copyLine _ _ _ _ 45 103 12 12 (⟨⟨by decide, rfl⟩, ⟨by decide, rfl⟩, rfl, by decide⟩ : LnC rt 45 12) (⟨⟨by decide, rfl⟩, ⟨by decide, rfl⟩, rfl, by decide⟩ : LnC rt 103 12) (by omega) (by omega) (by omega) ⟨rfl, rfl⟩) (fun r h' hr => ?_)
  obtain ⟨rfl, rfl⟩ := hr
  refine Ev.run 7 (pc' := 22) (lv' := [(0, .ref 102), (1, .ref 44)]) (st' := [.int (nI 5), .int (nI 0), .ref 105, .int (nI 0), .ref 47]) (h' := HN (cpLn g 45 103) hl (RF rt)) rfl ?_
  refine Ev_acpI rfl rfl rfl (⟨by decide, rfl⟩ : KC 47 11 5) (⟨by decide, rfl⟩ : KC 105 11 5) (by omega) (by omega) (by omega) ?_
  refine Ev.run 4 (pc' := 33) (lv' := [(0, .ref 102), (1, .ref 44)]) (st' := []) (h' := setI (HN (cpR (cpLn g 45 103) 105 0 5 ((cpLn g 45 103) 47)) hl (RF rt)) 102 2 (nI ((cpLn g 45 103) 44 2))) rfl ?_
  refine Ev.hp (HN_set _ _ _ _ _ _) ?_
  refine Ev.run 4 (pc' := 41) (lv' := [(0, .ref 102), (1, .ref 44)]) (st' := []) (h' := setI (HN (u2 (cpR (cpLn g 45 103) 105 0 5 ((cpLn g 45 103) 47)) 102 2 ((cpLn g 45 103) 44 2)) hl (RF rt)) 102 3 (nI ((cpLn g 45 103) 44 3))) rfl ?_
  refine Ev.hp (HN_set _ _ _ _ _ _) ?_
  refine Ev.run 3 (pc' := 46) (lv' := [(0, .ref 102), (1, .ref 44)]) (st' := []) (h' := setI (HN (u2 (u2 (cpR (cpLn g 45 103) 105 0 5 ((cpLn g 45 103) 47)) 102 2 ((cpLn g 45 103) 44 2)) 102 3 ((cpLn g 45 103) 44 3)) hl (RF rt)) 102 4 (nI 4294967295)) rfl ?_
  refine Ev.hp (HN_set _ _ _ _ _ _) ?_
  refine Ev.ret (v := none) rfl ?_
  have f0 := cpLn_f (g := g) (c0 := 45) (c1 := 103) (by decide)
  have f1 := cpR_f (cpLn g 45 103) 105 5 ((cpLn g 45 103) 47)
  have f2 := u2_f (cpR (cpLn g 45 103) 105 0 5 ((cpLn g 45 103) 47)) 102 2 ((cpLn g 45 103) 44 2)
  have f3 := u2_f (u2 (cpR (cpLn g 45 103) 105 0 5 ((cpLn g 45 103) 47)) 102 2 ((cpLn g 45 103) 44 2)) 102 3 ((cpLn g 45 103) 44 3)
  have f4 := u2_f (u2 (u2 (cpR (cpLn g 45 103) 105 0 5 ((cpLn g 45 103) 47)) 102 2 ((cpLn g 45 103) 44 2)) 102 3 ((cpLn g 45 103) 44 3)) 102 4 4294967295
  refine hq _ ⟨fun c h1 h2 h3 h4 => ?_, ?_, ?_, ?_, fun q hqq => ?_, fun j hj => ?_⟩
  · rw [f4.1 c h1, f3.1 c h1, f2.1 c h1, f1.1 c h4, f0.1 c h2 h3]
  · rw [f4.2.2 2 (by decide), f3.2.2 2 (by decide), f2.2.1, f0.1 _ (by decide) (by decide)]
  · rw [f4.2.2 3 (by decide), f3.2.1, f0.1 _ (by decide) (by decide)]
  · rw [f4.1 _ (by decide), f3.1 _ (by decide), f2.1 _ (by decide), f1.1 _ (by decide), f0.2.1]
  · rw [f4.1 _ (by decide), f3.1 _ (by decide), f2.1 _ (by decide), f1.1 _ (by decide)]; exact f0.2.2 q hqq
  · rw [f4.1 _ (by decide), f3.1 _ (by decide), f2.1 _ (by decide), f1.2 j hj, f0.1 _ (by decide) (by decide)]
theorem K_gc70 {L : Nat} {xs : Nat → Int32} (d : Nat) (g : Nat → Nat → Nat) (hl : Nat → Nat → Int64) (rt : Nat × Nat × Nat × Nat) (hS : ∀ i, i < 12 → g (19 + 2 * i) 1 ≤ 6) (h12 : g 45 1 ≤ 12) (h36 : g 48 1 ≤ 6) (h38 : g 50 1 ≤ 6) (h40 : g 52 1 ≤ 6) (h42 : g 54 1 ≤ 8) {Q : Po} (hq : ∀ V, CpG70 g V → Q none (HN V hl (RF (rt.1, rt.2.1, rt.2.2.1, rt.2.2.1)))) : Ev L xs (d + 4) 26 0 [(0, .ref 70), (1, .ref 12)] [] (HN g hl (RF rt)) Q := by
  refine Ev.run 4 (pc' := 8) (lv' := [(0, .ref 70), (1, .ref 12)]) (st' := [.ref 13, .ref 71]) (h' := HN g hl (RF rt)) rfl ?_
  refine Ev.call (a := 9) (as := [.ref 71, .ref 13]) (rest := []) (lv0 := [(0, .ref 71), (1, .ref 13)]) (Q1 := (fun z0 h' => z0 = none ∧ ∃ W0, CpB70 g W0 ∧ h' = HN W0 hl (RF rt))) rfl rfl (K_bkc70 _ _ _ _ hS (fun W0 hW0 => ⟨rfl, W0, hW0, rfl⟩)) (fun r h' hr => ?_)
  obtain ⟨rfl, W0, hW0, rfl⟩ := hr
  have hs0 : ∀ c, 12 ≤ c → c ≤ 69 → W0 c = g c := fun c h1 h2 => hW0.1 c (by omega) (by omega) (by omega) (by omega) (by omega)
  refine Ev.run 2 (pc' := 13) (lv' := [(2, .int (nI 0)), (0, .ref 70), (1, .ref 12)]) (st' := []) (h' := HN W0 hl (RF rt)) rfl ?_
  refine for_ind 5 (fun k => ∀ W, CpP70 W0 W k → Ev L xs (d + 4) 26 13 [(2, .int (nI k)), (0, .ref 70), (1, .ref 12)] [] (HN W hl (RF rt)) Q) (fun k hk hnext => ?_) 0 (Nat.zero_le _) W0 ⟨fun _ _ => rfl, fun i hi => absurd hi (Nat.not_lt_zero _)⟩
  intro W hW
  refine Ev.run 3 (pc' := (if nI 5 ≤ nI k then 39 else 18)) (lv' := [(2, .int (nI k)), (0, .ref 70), (1, .ref 12)]) (st' := []) (h' := HN W hl (RF rt)) rfl ?_
  refine Ev.ite (fun hc15 => ?_) (fun hc15 => ?_)
  · have hc15 : 5 ≤ k := (nI_leI (by omega) (by omega)).mp hc15
    have hk5 : k = 5 := by omega
    rw [hk5] at hW
    have hsU : ∀ c, 12 ≤ c → c ≤ 69 → u2 W 70 2 (W 12 2) c = g c := fun c h1 h2 => ((u2_f W 70 2 (W 12 2)).1 c (by omega)).trans ((hW.1 c (by omega)).trans (hs0 c h1 h2))
    refine Ev.run 4 (pc' := 47) (lv' := [(2, .int (nI k)), (0, .ref 70), (1, .ref 12)]) (st' := []) (h' := setI (HN W hl (RF rt)) 70 2 (nI (W 12 2))) rfl ?_
    refine Ev.hp (HN_set _ _ _ _ _ _) ?_
    refine Ev.run 4 (pc' := 55) (lv' := [(2, .int (nI k)), (0, .ref 70), (1, .ref 12)]) (st' := [.ref 44, .ref 102]) (h' := HN (u2 W 70 2 (W 12 2)) hl (RF rt)) rfl ?_
    refine Ev.call (a := 62) (as := [.ref 102, .ref 44]) (rest := []) (lv0 := [(0, .ref 102), (1, .ref 44)]) (Q1 := (fun z0 h' => z0 = none ∧ ∃ V0, CpR70 (u2 W 70 2 (W 12 2)) V0 ∧ h' = HN V0 hl (RF rt))) rfl rfl (K_rc70 _ _ _ _ (by rw [hsU _ (by decide) (by decide)]; exact h12) (fun V0 hV0 => ⟨rfl, V0, hV0, rfl⟩)) (fun r h' hr => ?_)
    obtain ⟨rfl, V0, hV0, rfl⟩ := hr
    have ht0 : ∀ c, 12 ≤ c → c ≤ 69 → V0 c = g c := fun c h1 h2 => (hV0.1 c (by omega) (by omega) (by omega) (by omega)).trans (hsU c h1 h2)
    refine Ev.run 4 (pc' := 66) (lv' := [(2, .int (nI k)), (0, .ref 70), (1, .ref 12)]) (st' := [.ref 48, .ref 106]) (h' := HN V0 hl (RF rt)) rfl ?_
    refine Ev.call (a := 46) (as := [.ref 106, .ref 48]) (rest := []) (lv0 := [(0, .ref 106), (1, .ref 48)]) (Q1 := (fun z0 h' => z0 = none ∧ ∃ V1, CpL70 V0 V1 36 ∧ h' = HN V1 hl (RF rt))) rfl rfl (K_copyLine _ V0 _ _ 48 106 6 6 (⟨⟨by decide, rfl⟩, ⟨by decide, rfl⟩, rfl, by decide⟩ : LnC rt 48 6) (⟨⟨by decide, rfl⟩, ⟨by decide, rfl⟩, rfl, by decide⟩ : LnC rt 106 6) (by rw [ht0 _ (by decide) (by decide)]; exact h36) (by rw [ht0 _ (by decide) (by decide)]; exact h36) (by decide) ⟨rfl, _, cpLn_f (c0 := 48) (c1 := 106) (by decide), rfl⟩) (fun r h' hr => ?_)
    obtain ⟨rfl, V1, hV1, rfl⟩ := hr
    have ht1 : ∀ c, 12 ≤ c → c ≤ 69 → V1 c = g c := fun c h1 h2 => (hV1.1 c (by omega) (by omega)).trans (ht0 c h1 h2)
    refine Ev.run 4 (pc' := 77) (lv' := [(2, .int (nI k)), (0, .ref 70), (1, .ref 12)]) (st' := [.ref 50, .ref 108]) (h' := HN V1 hl (RF rt)) rfl ?_
    refine Ev.call (a := 46) (as := [.ref 108, .ref 50]) (rest := []) (lv0 := [(0, .ref 108), (1, .ref 50)]) (Q1 := (fun z0 h' => z0 = none ∧ ∃ V2, CpL70 V1 V2 38 ∧ h' = HN V2 hl (RF rt))) rfl rfl (K_copyLine _ V1 _ _ 50 108 6 6 (⟨⟨by decide, rfl⟩, ⟨by decide, rfl⟩, rfl, by decide⟩ : LnC rt 50 6) (⟨⟨by decide, rfl⟩, ⟨by decide, rfl⟩, rfl, by decide⟩ : LnC rt 108 6) (by rw [ht1 _ (by decide) (by decide)]; exact h38) (by rw [ht1 _ (by decide) (by decide)]; exact h38) (by decide) ⟨rfl, _, cpLn_f (c0 := 50) (c1 := 108) (by decide), rfl⟩) (fun r h' hr => ?_)
    obtain ⟨rfl, V2, hV2, rfl⟩ := hr
    have ht2 : ∀ c, 12 ≤ c → c ≤ 69 → V2 c = g c := fun c h1 h2 => (hV2.1 c (by omega) (by omega)).trans (ht1 c h1 h2)
    refine Ev.run 4 (pc' := 88) (lv' := [(2, .int (nI k)), (0, .ref 70), (1, .ref 12)]) (st' := [.ref 52, .ref 110]) (h' := HN V2 hl (RF rt)) rfl ?_
    refine Ev.call (a := 46) (as := [.ref 110, .ref 52]) (rest := []) (lv0 := [(0, .ref 110), (1, .ref 52)]) (Q1 := (fun z0 h' => z0 = none ∧ ∃ V3, CpL70 V2 V3 40 ∧ h' = HN V3 hl (RF rt))) rfl rfl (K_copyLine _ V2 _ _ 52 110 6 6 (⟨⟨by decide, rfl⟩, ⟨by decide, rfl⟩, rfl, by decide⟩ : LnC rt 52 6) (⟨⟨by decide, rfl⟩, ⟨by decide, rfl⟩, rfl, by decide⟩ : LnC rt 110 6) (by rw [ht2 _ (by decide) (by decide)]; exact h40) (by rw [ht2 _ (by decide) (by decide)]; exact h40) (by decide) ⟨rfl, _, cpLn_f (c0 := 52) (c1 := 110) (by decide), rfl⟩) (fun r h' hr => ?_)
    obtain ⟨rfl, V3, hV3, rfl⟩ := hr
    have ht3 : ∀ c, 12 ≤ c → c ≤ 69 → V3 c = g c := fun c h1 h2 => (hV3.1 c (by omega) (by omega)).trans (ht2 c h1 h2)
    refine Ev.run 4 (pc' := 99) (lv' := [(2, .int (nI k)), (0, .ref 70), (1, .ref 12)]) (st' := [.ref 54, .ref 112]) (h' := HN V3 hl (RF rt)) rfl ?_
    refine Ev.call (a := 46) (as := [.ref 112, .ref 54]) (rest := []) (lv0 := [(0, .ref 112), (1, .ref 54)]) (Q1 := (fun z0 h' => z0 = none ∧ ∃ V4, CpL70 V3 V4 42 ∧ h' = HN V4 hl (RF rt))) rfl rfl (K_copyLine _ V3 _ _ 54 112 8 8 (⟨⟨by decide, rfl⟩, ⟨by decide, rfl⟩, rfl, by decide⟩ : LnC rt 54 8) (⟨⟨by decide, rfl⟩, ⟨by decide, rfl⟩, rfl, by decide⟩ : LnC rt 112 8) (by rw [ht3 _ (by decide) (by decide)]; exact h42) (by rw [ht3 _ (by decide) (by decide)]; exact h42) (by decide) ⟨rfl, _, cpLn_f (c0 := 54) (c1 := 112) (by decide), rfl⟩) (fun r h' hr => ?_)
    obtain ⟨rfl, V4, hV4, rfl⟩ := hr
    have ht4 : ∀ c, 12 ≤ c → c ≤ 69 → V4 c = g c := fun c h1 h2 => (hV4.1 c (by omega) (by omega)).trans (ht3 c h1 h2)
    refine Ev.run 3 (pc' := 107) (lv' := [(2, .int (nI k)), (0, .ref 70), (1, .ref 12)]) (st' := [.ref rt.2.2.1, .ref 70]) (h' := HN V4 hl (RF rt)) rfl ?_
    refine Ev_pfR rfl (⟨by decide, rfl⟩ : KC 70 2 10) (HN_set3 _ _ _ _) ?_
    refine Ev.ret (v := none) rfl ?_
    refine hq V4 ⟨fun c hc => ?_, ?_, fun i hi => ?_, fun i q hi hqq => ?_, fun j hj => ?_, fun j hj => ?_, fun j hj => ?_, fun i j hi h1 h2 => ?_, fun i q hi hqq => ?_, ?_, ?_, ?_, ?_, fun q hqq => ?_, fun j hj => ?_, fun a ha => ?_⟩
    · rw [hV4.1 _ (by omega) (by omega), hV3.1 _ (by omega) (by omega), hV2.1 _ (by omega) (by omega), hV1.1 _ (by omega) (by omega), hV0.1 _ (by omega) (by omega) (by omega) (by omega), (u2_f W 70 2 (W 12 2)).1 _ (by omega), hW.1 _ (by omega)]; exact hW0.1 c (by omega) (by omega) (by omega) (by omega) (by omega)
    · rw [hV4.1 _ (by omega) (by omega), hV3.1 _ (by omega) (by omega), hV2.1 _ (by omega) (by omega), hV1.1 _ (by omega) (by omega), hV0.1 _ (by omega) (by omega) (by omega) (by omega), (u2_f W 70 2 (W 12 2)).1 _ (by omega), hW.1 _ (by omega)]; exact hW0.2.1
    · rw [hV4.1 _ (by omega) (by omega), hV3.1 _ (by omega) (by omega), hV2.1 _ (by omega) (by omega), hV1.1 _ (by omega) (by omega), hV0.1 _ (by omega) (by omega) (by omega) (by omega), (u2_f W 70 2 (W 12 2)).1 _ (by omega), hW.1 _ (by omega)]; exact hW0.2.2.1 i hi
    · rw [hV4.1 _ (by omega) (by omega), hV3.1 _ (by omega) (by omega), hV2.1 _ (by omega) (by omega), hV1.1 _ (by omega) (by omega), hV0.1 _ (by omega) (by omega) (by omega) (by omega), (u2_f W 70 2 (W 12 2)).1 _ (by omega), hW.1 _ (by omega)]; exact hW0.2.2.2.1 i q hi hqq
    · rw [hV4.1 _ (by omega) (by omega), hV3.1 _ (by omega) (by omega), hV2.1 _ (by omega) (by omega), hV1.1 _ (by omega) (by omega), hV0.1 _ (by omega) (by omega) (by omega) (by omega), (u2_f W 70 2 (W 12 2)).1 _ (by omega), hW.1 _ (by omega)]; exact hW0.2.2.2.2.1 j hj
    · rw [hV4.1 _ (by omega) (by omega), hV3.1 _ (by omega) (by omega), hV2.1 _ (by omega) (by omega), hV1.1 _ (by omega) (by omega), hV0.1 _ (by omega) (by omega) (by omega) (by omega), (u2_f W 70 2 (W 12 2)).1 _ (by omega), hW.1 _ (by omega)]; exact hW0.2.2.2.2.2.1 j hj
    · rw [hV4.1 _ (by omega) (by omega), hV3.1 _ (by omega) (by omega), hV2.1 _ (by omega) (by omega), hV1.1 _ (by omega) (by omega), hV0.1 _ (by omega) (by omega) (by omega) (by omega), (u2_f W 70 2 (W 12 2)).1 _ (by omega), hW.1 _ (by omega)]; exact hW0.2.2.2.2.2.2 j hj
    · rw [hV4.1 _ (by omega) (by omega), hV3.1 _ (by omega) (by omega), hV2.1 _ (by omega) (by omega), hV1.1 _ (by omega) (by omega), hV0.1 _ (by omega) (by omega) (by omega) (by omega), (u2_f W 70 2 (W 12 2)).1 _ (by omega)]; exact ((hW.2 i hi).1 j h1 h2).trans (congrFun (hs0 _ (by omega) (by omega)) j)
    · rw [hV4.1 _ (by omega) (by omega), hV3.1 _ (by omega) (by omega), hV2.1 _ (by omega) (by omega), hV1.1 _ (by omega) (by omega), hV0.1 _ (by omega) (by omega) (by omega) (by omega), (u2_f W 70 2 (W 12 2)).1 _ (by omega)]; exact ((hW.2 i hi).2 q hqq).trans (congrFun (hs0 _ (by omega) (by omega)) q)
    · rw [hV4.1 _ (by omega) (by omega), hV3.1 _ (by omega) (by omega), hV2.1 _ (by omega) (by omega), hV1.1 _ (by omega) (by omega), hV0.1 _ (by omega) (by omega) (by omega) (by omega)]; exact (u2_f W 70 2 (W 12 2)).2.1.trans ((congrFun (hW.1 12 (by omega)) 2).trans (congrFun (hs0 _ (by decide) (by decide)) 2))
    · rw [hV4.1 _ (by omega) (by omega), hV3.1 _ (by omega) (by omega), hV2.1 _ (by omega) (by omega), hV1.1 _ (by omega) (by omega)]; exact hV0.2.1.trans (congrFun (hsU _ (by decide) (by decide)) 2)
    · rw [hV4.1 _ (by omega) (by omega), hV3.1 _ (by omega) (by omega), hV2.1 _ (by omega) (by omega), hV1.1 _ (by omega) (by omega)]; exact hV0.2.2.1.trans (congrFun (hsU _ (by decide) (by decide)) 3)
    · rw [hV4.1 _ (by omega) (by omega), hV3.1 _ (by omega) (by omega), hV2.1 _ (by omega) (by omega), hV1.1 _ (by omega) (by omega)]; exact hV0.2.2.2.1.trans (congrFun (hsU _ (by decide) (by decide)) 1)
    · rw [hV4.1 _ (by omega) (by omega), hV3.1 _ (by omega) (by omega), hV2.1 _ (by omega) (by omega), hV1.1 _ (by omega) (by omega)]; exact (hV0.2.2.2.2.1 q (by rw [hsU _ (by decide) (by decide)]; exact hqq)).trans (congrFun (hsU _ (by decide) (by decide)) q)
    · rw [hV4.1 _ (by omega) (by omega), hV3.1 _ (by omega) (by omega), hV2.1 _ (by omega) (by omega), hV1.1 _ (by omega) (by omega)]; exact (hV0.2.2.2.2.2 j hj).trans (congrFun (hsU _ (by decide) (by decide)) j)
    · rcases ha with rfl | rfl | rfl | rfl
      · rw [hV4.1 106 (by omega) (by omega), hV3.1 106 (by omega) (by omega), hV2.1 106 (by omega) (by omega), hV4.1 107 (by omega) (by omega), hV3.1 107 (by omega) (by omega), hV2.1 107 (by omega) (by omega)]
        exact ⟨hV1.2.1.trans (congrFun (ht0 48 (by decide) (by decide)) 1), fun q hqq => (hV1.2.2 q (by rw [ht0 48 (by decide) (by decide)]; exact hqq)).trans (congrFun (ht0 49 (by decide) (by decide)) q)⟩
      · rw [hV4.1 108 (by omega) (by omega), hV3.1 108 (by omega) (by omega), hV4.1 109 (by omega) (by omega), hV3.1 109 (by omega) (by omega)]
        exact ⟨hV2.2.1.trans (congrFun (ht1 50 (by decide) (by decide)) 1), fun q hqq => (hV2.2.2 q (by rw [ht1 50 (by decide) (by decide)]; exact hqq)).trans (congrFun (ht1 51 (by decide) (by decide)) q)⟩
      · rw [hV4.1 110 (by omega) (by omega), hV4.1 111 (by omega) (by omega)]
        exact ⟨hV3.2.1.trans (congrFun (ht2 52 (by decide) (by decide)) 1), fun q hqq => (hV3.2.2 q (by rw [ht2 52 (by decide) (by decide)]; exact hqq)).trans (congrFun (ht2 53 (by decide) (by decide)) q)⟩
      · skip
        exact ⟨hV4.2.1.trans (congrFun (ht3 54 (by decide) (by decide)) 1), fun q hqq => (hV4.2.2 q (by rw [ht3 54 (by decide) (by decide)]; exact hqq)).trans (congrFun (ht3 55 (by decide) (by decide)) q)⟩
  · have hc15 : ¬ (5 ≤ k) := fun z => hc15 ((nI_leI (by omega) (by omega)).mpr z)
    refine Ev.run 3 (pc' := 23) (lv' := [(2, .int (nI k)), (0, .ref 70), (1, .ref 12)]) (st' := [.int (nI k), .ref 101]) (h' := HN W hl (RF rt)) rfl ?_
    refine Ev_aald (c := (118 + 2 * k)) rfl (by decide) rfl (show k < 5 by omega) (Nat.le_of_ble_eq_true rfl) (plG70 rt (show k < 5 by omega)).2.2.1 ?_
    refine Ev.run 3 (pc' := 29) (lv' := [(2, .int (nI k)), (0, .ref 70), (1, .ref 12)]) (st' := [.int (nI k), .ref 43, .ref (118 + 2 * k)]) (h' := HN W hl (RF rt)) rfl ?_
    refine Ev_aald (c := (60 + 2 * k)) rfl (by decide) rfl (show k < 5 by omega) (Nat.le_of_ble_eq_true rfl) (plG12 rt (show k < 5 by omega)).2.2.1 ?_
    refine Ev_callV (a := 49) (as := [.ref (118 + 2 * k), .ref (60 + 2 * k)]) (rest := []) (lv0 := [(0, .ref (118 + 2 * k)), (1, .ref (60 + 2 * k))]) (Q1 := (fun z0 h' => z0 = none ∧ h' = HN (cpP W (60 + 2 * k) (118 + 2 * k)) hl (RF rt))) rfl rfl rfl rfl rfl (plG70 rt (show k < 5 by omega)).1.k rfl rfl rfl (K_copyPlayer _ W _ _ (60 + 2 * k) (118 + 2 * k) (plG12 rt (show k < 5 by omega)).1 (plG12 rt (show k < 5 by omega)).2.1 (plG12 rt (show k < 5 by omega)).2.2.2 (plG70 rt (show k < 5 by omega)).1 (plG70 rt (show k < 5 by omega)).2.1 (plG70 rt (show k < 5 by omega)).2.2.2 ⟨rfl, rfl⟩) (fun r h' hr => ?_)
    obtain ⟨rfl, rfl⟩ := hr
    refine Ev.run 1 (pc' := 36) (lv' := [(2, .int (nI k + 1)), (0, .ref 70), (1, .ref 12)]) (st' := []) (h' := HN (cpP W (60 + 2 * k) (118 + 2 * k)) hl (RF rt)) rfl ?_
    refine Ev.lvE (congrArg (fun z => (2, Value.int z) :: [(0, .ref 70), (1, .ref 12)]) (nI_1 _)) ?_
    refine Ev.run 1 (pc' := 13) (lv' := [(2, .int (nI (k + 1))), (0, .ref 70), (1, .ref 12)]) (st' := []) (h' := HN (cpP W (60 + 2 * k) (118 + 2 * k)) hl (RF rt)) rfl ?_
    have hx := hnext (by omega) _ (hW.s (by omega))
    exact Ev.wk (Ext.cons rfl rfl (Ext.cons rfl rfl (Ext.cons rfl rfl (Ext.nil rfl)))) hx
/-- k lines of the book copied -/
def CpW12 (g W : Nat → Nat → Nat) (k : Nat) : Prop := (∀ c, ¬ (19 ≤ c ∧ c < 19 + 2 * k) → W c = g c) ∧ ∀ i, i < k → W (19 + 2 * i) 1 = g (77 + 2 * i) 1 ∧ ∀ q, q < g (77 + 2 * i) 1 → W (19 + 2 * i + 1) q = g (77 + 2 * i + 1) q
theorem CpW12.s {g W : Nat → Nat → Nat} {k : Nat} (h : CpW12 g W k) (hk : k < 12) : CpW12 g (cpLn W (77 + 2 * k) (19 + 2 * k)) (k + 1) := by
  obtain ⟨a, b, c⟩ := cpLn_f (g := W) (c0 := 77 + 2 * k) (c1 := 19 + 2 * k) (by omega)
  have e1 : W (77 + 2 * k) = g (77 + 2 * k) := h.1 _ (by omega)
  have e2 : W (77 + 2 * k + 1) = g (77 + 2 * k + 1) := h.1 _ (by omega)
  refine ⟨fun x hx => (a x (by omega) (by omega)).trans (h.1 x (by omega)), fun i hi => ?_⟩
  by_cases e : i = k
  · rw [e]
    rw [e1] at b c
    rw [e2] at c
    exact ⟨b, c⟩
  · have z := h.2 i (by omega)
    rw [a _ (by omega) (by omega), a _ (by omega) (by omega)]
    exact z
/-- the book copied -/
def CpB12 (g W : Nat → Nat → Nat) : Prop := (∀ c, c ≠ 13 → c ≠ 15 → c ≠ 16 → c ≠ 17 → ¬ (19 ≤ c ∧ c ≤ 19 + 23) → W c = g c) ∧ W 13 5 = g 71 5 ∧ (∀ i, i < 12 → W (19 + 2 * i) 1 = g (77 + 2 * i) 1) ∧ (∀ i q, i < 12 → q < g (77 + 2 * i) 1 → W (19 + 2 * i + 1) q = g (77 + 2 * i + 1) q) ∧ (∀ j, j < 12 → W 15 j = g 73 j) ∧ (∀ j, j < 24 → W 16 j = g 74 j) ∧ ∀ j, j < 7 → W 17 j = g 75 j
theorem K_bkc12 {L : Nat} {xs : Nat → Int32} (d : Nat) (g : Nat → Nat → Nat) (hl : Nat → Nat → Int64) (rt : Nat × Nat × Nat × Nat) (hS : ∀ i, i < 12 → g (77 + 2 * i) 1 ≤ 6) {Q : Po} (hq : ∀ W, CpB12 g W → Q none (HN W hl (RF rt))) : Ev L xs (d + 3) 9 0 [(0, .ref 13), (1, .ref 71)] [] (HN g hl (RF rt)) Q := by
  refine Ev.run 2 (pc' := 2) (lv' := [(2, .int (nI 0)), (0, .ref 13), (1, .ref 71)]) (st' := []) (h' := HN g hl (RF rt)) rfl ?_
  refine for_ind 12 (fun k => ∀ W, CpW12 g W k → Ev L xs (d + 3) 9 2 [(2, .int (nI k)), (0, .ref 13), (1, .ref 71)] [] (HN W hl (RF rt)) Q) (fun k hk hnext => ?_) 0 (Nat.zero_le _) g ⟨fun _ _ => rfl, fun i hi => absurd hi (Nat.not_lt_zero _)⟩
  intro W hW
  refine Ev.run 3 (pc' := (if nI 12 ≤ nI k then 29 else 8)) (lv' := [(2, .int (nI k)), (0, .ref 13), (1, .ref 71)]) (st' := []) (h' := HN W hl (RF rt)) rfl ?_
  refine Ev.ite (fun hc5 => ?_) (fun hc5 => ?_)
  · have hc5 : 12 ≤ k := (nI_leI (by omega) (by omega)).mp hc5
    refine Ev.run 7 (pc' := 41) (lv' := [(2, .int (nI k)), (0, .ref 13), (1, .ref 71)]) (st' := [.int (nI 12), .int (nI 0), .ref 15, .int (nI 0), .ref 73]) (h' := HN W hl (RF rt)) rfl ?_
    refine Ev_acpI rfl rfl rfl (⟨by decide, rfl⟩ : KC 73 11 12) (⟨by decide, rfl⟩ : KC 15 11 12) (by omega) (by omega) (by omega) ?_
    refine Ev.run 7 (pc' := 56) (lv' := [(2, .int (nI k)), (0, .ref 13), (1, .ref 71)]) (st' := [.int (nI 24), .int (nI 0), .ref 16, .int (nI 0), .ref 74]) (h' := HN (cpR W 15 0 12 (W 73)) hl (RF rt)) rfl ?_
    refine Ev_acpI rfl rfl rfl (⟨by decide, rfl⟩ : KC 74 11 24) (⟨by decide, rfl⟩ : KC 16 11 24) (by omega) (by omega) (by omega) ?_
    refine Ev.run 7 (pc' := 71) (lv' := [(2, .int (nI k)), (0, .ref 13), (1, .ref 71)]) (st' := [.int (nI 7), .int (nI 0), .ref 17, .int (nI 0), .ref 75]) (h' := HN (cpR (cpR W 15 0 12 (W 73)) 16 0 24 ((cpR W 15 0 12 (W 73)) 74)) hl (RF rt)) rfl ?_
    refine Ev_acpI rfl rfl rfl (⟨by decide, rfl⟩ : KC 75 11 7) (⟨by decide, rfl⟩ : KC 17 11 7) (by omega) (by omega) (by omega) ?_
    refine Ev.run 4 (pc' := 82) (lv' := [(2, .int (nI k)), (0, .ref 13), (1, .ref 71)]) (st' := []) (h' := setI (HN (cpR (cpR (cpR W 15 0 12 (W 73)) 16 0 24 ((cpR W 15 0 12 (W 73)) 74)) 17 0 7 ((cpR (cpR W 15 0 12 (W 73)) 16 0 24 ((cpR W 15 0 12 (W 73)) 74)) 75)) hl (RF rt)) 13 5 (nI (W 71 5))) rfl ?_
    refine Ev.hp (HN_set _ _ _ _ _ _) ?_
    refine Ev.ret (v := none) rfl ?_
    have hk12 : k = 12 := by omega
    subst hk12
    obtain ⟨V, hVe⟩ : ∃ V, V = u2 (cpR (cpR (cpR W 15 0 12 (W 73)) 16 0 24 ((cpR W 15 0 12 (W 73)) 74)) 17 0 7 ((cpR (cpR W 15 0 12 (W 73)) 16 0 24 ((cpR W 15 0 12 (W 73)) 74)) 75)) 13 5 (W 71 5) := ⟨_, rfl⟩
    rw [← hVe]
    have f1 := cpR_f W 15 12 (W 73)
    have f2 := cpR_f (cpR W 15 0 12 (W 73)) 16 24 ((cpR W 15 0 12 (W 73)) 74)
    have f3 := cpR_f (cpR (cpR W 15 0 12 (W 73)) 16 0 24 ((cpR W 15 0 12 (W 73)) 74)) 17 7 ((cpR (cpR W 15 0 12 (W 73)) 16 0 24 ((cpR W 15 0 12 (W 73)) 74)) 75)
    have f4 := u2_f (cpR (cpR (cpR W 15 0 12 (W 73)) 16 0 24 ((cpR W 15 0 12 (W 73)) 74)) 17 0 7 ((cpR (cpR W 15 0 12 (W 73)) 16 0 24 ((cpR W 15 0 12 (W 73)) 74)) 75)) 13 5 (W 71 5)
    refine hq V ⟨fun c h1 h2 h3 h4 h5 => ?_, ?_, fun i hi => ?_, fun i q hi hqq => ?_, fun j hj => ?_, fun j hj => ?_, fun j hj => ?_⟩
    · rw [hVe, f4.1 c h1, f3.1 c h4, f2.1 c h3, f1.1 c h2]; exact hW.1 c (by omega)
    · rw [hVe, f4.2.1, hW.1 71 (by omega)]
    · rw [hVe, f4.1 _ (by omega), f3.1 _ (by omega), f2.1 _ (by omega), f1.1 _ (by omega)]; exact (hW.2 i hi).1
    · rw [hVe, f4.1 _ (by omega), f3.1 _ (by omega), f2.1 _ (by omega), f1.1 _ (by omega)]; exact (hW.2 i hi).2 q hqq
    · rw [hVe, f4.1 _ (by decide), f3.1 _ (by decide), f2.1 _ (by decide), f1.2 j hj, hW.1 _ (by omega)]
    · rw [hVe, f4.1 _ (by decide), f3.1 _ (by decide), f2.2 j hj, f1.1 _ (by decide), hW.1 _ (by omega)]
    · rw [hVe, f4.1 _ (by decide), f3.2 j hj, f2.1 _ (by decide), f1.1 _ (by decide), hW.1 _ (by omega)]
  · have hc5 : ¬ (12 ≤ k) := fun z => hc5 ((nI_leI (by omega) (by omega)).mpr z)
    refine Ev.run 3 (pc' := 13) (lv' := [(2, .int (nI k)), (0, .ref 13), (1, .ref 71)]) (st' := [.int (nI k), .ref 14]) (h' := HN W hl (RF rt)) rfl ?_
    refine Ev_aald (c := (19 + 2 * k)) rfl (by decide) rfl (show k < 12 by omega) (Nat.le_of_ble_eq_true rfl) (lnG12 rt (show k < 12 by omega)).2 ?_
    refine Ev.run 3 (pc' := 19) (lv' := [(2, .int (nI k)), (0, .ref 13), (1, .ref 71)]) (st' := [.int (nI k), .ref 72, .ref (19 + 2 * k)]) (h' := HN W hl (RF rt)) rfl ?_
    refine Ev_aald (c := (77 + 2 * k)) rfl (by decide) rfl (show k < 12 by omega) (Nat.le_of_ble_eq_true rfl) (lnG70 rt (show k < 12 by omega)).2 ?_
    refine Ev_callV (a := 46) (as := [.ref (19 + 2 * k), .ref (77 + 2 * k)]) (rest := []) (lv0 := [(0, .ref (19 + 2 * k)), (1, .ref (77 + 2 * k))]) (Q1 := (fun z0 h' => z0 = none ∧ h' = HN (cpLn W (77 + 2 * k) (19 + 2 * k)) hl (RF rt))) rfl rfl rfl rfl rfl (lnG12 rt (show k < 12 by omega)).1.1.k rfl rfl rfl (K_copyLine _ W _ _ (77 + 2 * k) (19 + 2 * k) 6 6 (lnG70 rt (by omega)).1 (lnG12 rt (by omega)).1 (by rw [hW.1 _ (by omega)]; exact hS k (by omega)) (by rw [hW.1 _ (by omega)]; exact hS k (by omega)) (by omega) ⟨rfl, rfl⟩) (fun r h' hr => ?_)
    obtain ⟨rfl, rfl⟩ := hr
    refine Ev.run 1 (pc' := 26) (lv' := [(2, .int (nI k + 1)), (0, .ref 13), (1, .ref 71)]) (st' := []) (h' := HN (cpLn W (77 + 2 * k) (19 + 2 * k)) hl (RF rt)) rfl ?_
    refine Ev.lvE (congrArg (fun z => (2, Value.int z) :: [(0, .ref 13), (1, .ref 71)]) (nI_1 _)) ?_
    refine Ev.run 1 (pc' := 2) (lv' := [(2, .int (nI (k + 1))), (0, .ref 13), (1, .ref 71)]) (st' := []) (h' := HN (cpLn W (77 + 2 * k) (19 + 2 * k)) hl (RF rt)) rfl ?_
    have hx := hnext (by omega) _ (hW.s (by omega))
    exact Ev.wk (Ext.cons rfl rfl (Ext.cons rfl rfl (Ext.cons rfl rfl (Ext.nil rfl)))) hx
/-- a round copied -/
def CpR12 (g V : Nat → Nat → Nat) : Prop := (∀ c, c ≠ 44 → c ≠ 45 → c ≠ 46 → c ≠ 47 → V c = g c) ∧ V 44 2 = g 102 2 ∧ V 44 3 = g 102 3 ∧ V 45 1 = g 103 1 ∧ (∀ q, q < g 103 1 → V 46 q = g 104 q) ∧ ∀ j, j < 5 → V 47 j = g 105 j
/-- k players copied -/
def CpP12 (g W : Nat → Nat → Nat) (k : Nat) : Prop := (∀ c, ¬ (60 ≤ c ∧ c < 60 + 2 * k) → W c = g c) ∧ ∀ i, i < k → (∀ j, 1 ≤ j → j ≤ 3 → W (60 + 2 * i) j = g (118 + 2 * i) j) ∧ ∀ q, q < 4 → W (60 + 2 * i + 1) q = g (118 + 2 * i + 1) q
theorem CpP12.s {g W : Nat → Nat → Nat} {k : Nat} (h : CpP12 g W k) (hk : k < 5) : CpP12 g (cpP W (118 + 2 * k) (60 + 2 * k)) (k + 1) := by
  obtain ⟨a, b, c⟩ := cpP_f (g := W) (c0 := 118 + 2 * k) (c1 := 60 + 2 * k) (by omega)
  have e1 : W (118 + 2 * k) = g (118 + 2 * k) := h.1 _ (by omega)
  have e2 : W (118 + 2 * k + 1) = g (118 + 2 * k + 1) := h.1 _ (by omega)
  refine ⟨fun x hx => (a x (by omega) (by omega)).trans (h.1 x (by omega)), fun i hi => ?_⟩
  by_cases e : i = k
  · rw [e]
    rw [e1] at b
    rw [e2] at c
    exact ⟨b, c⟩
  · have z := h.2 i (by omega)
    rw [a _ (by omega) (by omega), a _ (by omega) (by omega)]
    exact z
/-- a line copied -/
def CpL12 (g V : Nat → Nat → Nat) (a : Nat) : Prop := (∀ c, c ≠ 12 + a → c ≠ 12 + a + 1 → V c = g c) ∧ V (12 + a) 1 = g (70 + a) 1 ∧ ∀ q, q < g (70 + a) 1 → V (12 + a + 1) q = g (70 + a + 1) q
/-- a game copied -/
def CpG12 (g V : Nat → Nat → Nat) : Prop := (∀ c, (c < 12 ∨ c = 12 + 2 ∨ c = 12 + 6 ∨ c = 12 + 31 ∨ (12 + 44 ≤ c ∧ c ≤ 12 + 47) ∨ 12 + 57 < c) → V c = g c) ∧ V 13 5 = g 71 5 ∧ (∀ i, i < 12 → V (19 + 2 * i) 1 = g (77 + 2 * i) 1) ∧ (∀ i q, i < 12 → q < g (77 + 2 * i) 1 → V (19 + 2 * i + 1) q = g (77 + 2 * i + 1) q) ∧ (∀ j, j < 12 → V 15 j = g 73 j) ∧ (∀ j, j < 24 → V 16 j = g 74 j) ∧ (∀ j, j < 7 → V 17 j = g 75 j) ∧ (∀ i j, i < 5 → 1 ≤ j → j ≤ 3 → V (60 + 2 * i) j = g (118 + 2 * i) j) ∧ (∀ i q, i < 5 → q < 4 → V (60 + 2 * i + 1) q = g (118 + 2 * i + 1) q) ∧ V 12 2 = g 70 2 ∧ V 44 2 = g 102 2 ∧ V 44 3 = g 102 3 ∧ V 45 1 = g 103 1 ∧ (∀ q, q < g 103 1 → V 46 q = g 104 q) ∧ (∀ j, j < 5 → V 47 j = g 105 j) ∧ ∀ a, a = 36 ∨ a = 38 ∨ a = 40 ∨ a = 42 → V (12 + a) 1 = g (70 + a) 1 ∧ ∀ q, q < g (70 + a) 1 → V (12 + a + 1) q = g (70 + a + 1) q
theorem K_rc12 {L : Nat} {xs : Nat → Int32} (d : Nat) (g : Nat → Nat → Nat) (hl : Nat → Nat → Int64) (rt : Nat × Nat × Nat × Nat) (h12 : g 103 1 ≤ 12) {Q : Po} (hq : ∀ V, CpR12 g V → Q none (HN V hl (RF rt))) : Ev L xs (d + 3) 62 0 [(0, .ref 44), (1, .ref 102)] [] (HN g hl (RF rt)) Q := by
  refine Ev.run 4 (pc' := 8) (lv' := [(0, .ref 44), (1, .ref 102)]) (st' := [.ref 103, .ref 45]) (h' := HN g hl (RF rt)) rfl ?_
  refine Ev.call (a := 46) (as := [.ref 45, .ref 103]) (rest := []) (lv0 := [(0, .ref 45), (1, .ref 103)]) (Q1 := (fun z0 h' => z0 = none ∧ h' = HN (cpLn g 103 45) hl (RF rt))) rfl rfl (K_copyLine _ _ _ _ 103 45 12 12 (⟨⟨by decide, rfl⟩, ⟨by decide, rfl⟩, rfl, by decide⟩ : LnC rt 103 12) (⟨⟨by decide, rfl⟩, ⟨by decide, rfl⟩, rfl, by decide⟩ : LnC rt 45 12) (by omega) (by omega) (by omega) ⟨rfl, rfl⟩) (fun r h' hr => ?_)
  obtain ⟨rfl, rfl⟩ := hr
  refine Ev.run 7 (pc' := 22) (lv' := [(0, .ref 44), (1, .ref 102)]) (st' := [.int (nI 5), .int (nI 0), .ref 47, .int (nI 0), .ref 105]) (h' := HN (cpLn g 103 45) hl (RF rt)) rfl ?_
  refine Ev_acpI rfl rfl rfl (⟨by decide, rfl⟩ : KC 105 11 5) (⟨by decide, rfl⟩ : KC 47 11 5) (by omega) (by omega) (by omega) ?_
  refine Ev.run 4 (pc' := 33) (lv' := [(0, .ref 44), (1, .ref 102)]) (st' := []) (h' := setI (HN (cpR (cpLn g 103 45) 47 0 5 ((cpLn g 103 45) 105)) hl (RF rt)) 44 2 (nI ((cpLn g 103 45) 102 2))) rfl ?_
  refine Ev.hp (HN_set _ _ _ _ _ _) ?_
  refine Ev.run 4 (pc' := 41) (lv' := [(0, .ref 44), (1, .ref 102)]) (st' := []) (h' := setI (HN (u2 (cpR (cpLn g 103 45) 47 0 5 ((cpLn g 103 45) 105)) 44 2 ((cpLn g 103 45) 102 2)) hl (RF rt)) 44 3 (nI ((cpLn g 103 45) 102 3))) rfl ?_
  refine Ev.hp (HN_set _ _ _ _ _ _) ?_
  refine Ev.run 3 (pc' := 46) (lv' := [(0, .ref 44), (1, .ref 102)]) (st' := []) (h' := setI (HN (u2 (u2 (cpR (cpLn g 103 45) 47 0 5 ((cpLn g 103 45) 105)) 44 2 ((cpLn g 103 45) 102 2)) 44 3 ((cpLn g 103 45) 102 3)) hl (RF rt)) 44 4 (nI 4294967295)) rfl ?_
  refine Ev.hp (HN_set _ _ _ _ _ _) ?_
  refine Ev.ret (v := none) rfl ?_
  have f0 := cpLn_f (g := g) (c0 := 103) (c1 := 45) (by decide)
  have f1 := cpR_f (cpLn g 103 45) 47 5 ((cpLn g 103 45) 105)
  have f2 := u2_f (cpR (cpLn g 103 45) 47 0 5 ((cpLn g 103 45) 105)) 44 2 ((cpLn g 103 45) 102 2)
  have f3 := u2_f (u2 (cpR (cpLn g 103 45) 47 0 5 ((cpLn g 103 45) 105)) 44 2 ((cpLn g 103 45) 102 2)) 44 3 ((cpLn g 103 45) 102 3)
  have f4 := u2_f (u2 (u2 (cpR (cpLn g 103 45) 47 0 5 ((cpLn g 103 45) 105)) 44 2 ((cpLn g 103 45) 102 2)) 44 3 ((cpLn g 103 45) 102 3)) 44 4 4294967295
  refine hq _ ⟨fun c h1 h2 h3 h4 => ?_, ?_, ?_, ?_, fun q hqq => ?_, fun j hj => ?_⟩
  · rw [f4.1 c h1, f3.1 c h1, f2.1 c h1, f1.1 c h4, f0.1 c h2 h3]
  · rw [f4.2.2 2 (by decide), f3.2.2 2 (by decide), f2.2.1, f0.1 _ (by decide) (by decide)]
  · rw [f4.2.2 3 (by decide), f3.2.1, f0.1 _ (by decide) (by decide)]
  · rw [f4.1 _ (by decide), f3.1 _ (by decide), f2.1 _ (by decide), f1.1 _ (by decide), f0.2.1]
  · rw [f4.1 _ (by decide), f3.1 _ (by decide), f2.1 _ (by decide), f1.1 _ (by decide)]; exact f0.2.2 q hqq
  · rw [f4.1 _ (by decide), f3.1 _ (by decide), f2.1 _ (by decide), f1.2 j hj, f0.1 _ (by decide) (by decide)]
theorem K_gc12 {L : Nat} {xs : Nat → Int32} (d : Nat) (g : Nat → Nat → Nat) (hl : Nat → Nat → Int64) (rt : Nat × Nat × Nat × Nat) (hS : ∀ i, i < 12 → g (77 + 2 * i) 1 ≤ 6) (h12 : g 103 1 ≤ 12) (h36 : g 106 1 ≤ 6) (h38 : g 108 1 ≤ 6) (h40 : g 110 1 ≤ 6) (h42 : g 112 1 ≤ 8) {Q : Po} (hq : ∀ V, CpG12 g V → Q none (HN V hl (RF (rt.1, rt.2.1, rt.2.2.2, rt.2.2.2)))) : Ev L xs (d + 4) 26 0 [(0, .ref 12), (1, .ref 70)] [] (HN g hl (RF rt)) Q := by
  refine Ev.run 4 (pc' := 8) (lv' := [(0, .ref 12), (1, .ref 70)]) (st' := [.ref 71, .ref 13]) (h' := HN g hl (RF rt)) rfl ?_
  refine Ev.call (a := 9) (as := [.ref 13, .ref 71]) (rest := []) (lv0 := [(0, .ref 13), (1, .ref 71)]) (Q1 := (fun z0 h' => z0 = none ∧ ∃ W0, CpB12 g W0 ∧ h' = HN W0 hl (RF rt))) rfl rfl (K_bkc12 _ _ _ _ hS (fun W0 hW0 => ⟨rfl, W0, hW0, rfl⟩)) (fun r h' hr => ?_)
  obtain ⟨rfl, W0, hW0, rfl⟩ := hr
  have hs0 : ∀ c, 70 ≤ c → c ≤ 127 → W0 c = g c := fun c h1 h2 => hW0.1 c (by omega) (by omega) (by omega) (by omega) (by omega)
  refine Ev.run 2 (pc' := 13) (lv' := [(2, .int (nI 0)), (0, .ref 12), (1, .ref 70)]) (st' := []) (h' := HN W0 hl (RF rt)) rfl ?_
  refine for_ind 5 (fun k => ∀ W, CpP12 W0 W k → Ev L xs (d + 4) 26 13 [(2, .int (nI k)), (0, .ref 12), (1, .ref 70)] [] (HN W hl (RF rt)) Q) (fun k hk hnext => ?_) 0 (Nat.zero_le _) W0 ⟨fun _ _ => rfl, fun i hi => absurd hi (Nat.not_lt_zero _)⟩
  intro W hW
  refine Ev.run 3 (pc' := (if nI 5 ≤ nI k then 39 else 18)) (lv' := [(2, .int (nI k)), (0, .ref 12), (1, .ref 70)]) (st' := []) (h' := HN W hl (RF rt)) rfl ?_
  refine Ev.ite (fun hc15 => ?_) (fun hc15 => ?_)
  · have hc15 : 5 ≤ k := (nI_leI (by omega) (by omega)).mp hc15
    have hk5 : k = 5 := by omega
    rw [hk5] at hW
    have hsU : ∀ c, 70 ≤ c → c ≤ 127 → u2 W 12 2 (W 70 2) c = g c := fun c h1 h2 => ((u2_f W 12 2 (W 70 2)).1 c (by omega)).trans ((hW.1 c (by omega)).trans (hs0 c h1 h2))
    refine Ev.run 4 (pc' := 47) (lv' := [(2, .int (nI k)), (0, .ref 12), (1, .ref 70)]) (st' := []) (h' := setI (HN W hl (RF rt)) 12 2 (nI (W 70 2))) rfl ?_
    refine Ev.hp (HN_set _ _ _ _ _ _) ?_
    refine Ev.run 4 (pc' := 55) (lv' := [(2, .int (nI k)), (0, .ref 12), (1, .ref 70)]) (st' := [.ref 102, .ref 44]) (h' := HN (u2 W 12 2 (W 70 2)) hl (RF rt)) rfl ?_
    refine Ev.call (a := 62) (as := [.ref 44, .ref 102]) (rest := []) (lv0 := [(0, .ref 44), (1, .ref 102)]) (Q1 := (fun z0 h' => z0 = none ∧ ∃ V0, CpR12 (u2 W 12 2 (W 70 2)) V0 ∧ h' = HN V0 hl (RF rt))) rfl rfl (K_rc12 _ _ _ _ (by rw [hsU _ (by decide) (by decide)]; exact h12) (fun V0 hV0 => ⟨rfl, V0, hV0, rfl⟩)) (fun r h' hr => ?_)
    obtain ⟨rfl, V0, hV0, rfl⟩ := hr
    have ht0 : ∀ c, 70 ≤ c → c ≤ 127 → V0 c = g c := fun c h1 h2 => (hV0.1 c (by omega) (by omega) (by omega) (by omega)).trans (hsU c h1 h2)
    refine Ev.run 4 (pc' := 66) (lv' := [(2, .int (nI k)), (0, .ref 12), (1, .ref 70)]) (st' := [.ref 106, .ref 48]) (h' := HN V0 hl (RF rt)) rfl ?_
    refine Ev.call (a := 46) (as := [.ref 48, .ref 106]) (rest := []) (lv0 := [(0, .ref 48), (1, .ref 106)]) (Q1 := (fun z0 h' => z0 = none ∧ ∃ V1, CpL12 V0 V1 36 ∧ h' = HN V1 hl (RF rt))) rfl rfl (K_copyLine _ V0 _ _ 106 48 6 6 (⟨⟨by decide, rfl⟩, ⟨by decide, rfl⟩, rfl, by decide⟩ : LnC rt 106 6) (⟨⟨by decide, rfl⟩, ⟨by decide, rfl⟩, rfl, by decide⟩ : LnC rt 48 6) (by rw [ht0 _ (by decide) (by decide)]; exact h36) (by rw [ht0 _ (by decide) (by decide)]; exact h36) (by decide) ⟨rfl, _, cpLn_f (c0 := 106) (c1 := 48) (by decide), rfl⟩) (fun r h' hr => ?_)
    obtain ⟨rfl, V1, hV1, rfl⟩ := hr
    have ht1 : ∀ c, 70 ≤ c → c ≤ 127 → V1 c = g c := fun c h1 h2 => (hV1.1 c (by omega) (by omega)).trans (ht0 c h1 h2)
    refine Ev.run 4 (pc' := 77) (lv' := [(2, .int (nI k)), (0, .ref 12), (1, .ref 70)]) (st' := [.ref 108, .ref 50]) (h' := HN V1 hl (RF rt)) rfl ?_
    refine Ev.call (a := 46) (as := [.ref 50, .ref 108]) (rest := []) (lv0 := [(0, .ref 50), (1, .ref 108)]) (Q1 := (fun z0 h' => z0 = none ∧ ∃ V2, CpL12 V1 V2 38 ∧ h' = HN V2 hl (RF rt))) rfl rfl (K_copyLine _ V1 _ _ 108 50 6 6 (⟨⟨by decide, rfl⟩, ⟨by decide, rfl⟩, rfl, by decide⟩ : LnC rt 108 6) (⟨⟨by decide, rfl⟩, ⟨by decide, rfl⟩, rfl, by decide⟩ : LnC rt 50 6) (by rw [ht1 _ (by decide) (by decide)]; exact h38) (by rw [ht1 _ (by decide) (by decide)]; exact h38) (by decide) ⟨rfl, _, cpLn_f (c0 := 108) (c1 := 50) (by decide), rfl⟩) (fun r h' hr => ?_)
    obtain ⟨rfl, V2, hV2, rfl⟩ := hr
    have ht2 : ∀ c, 70 ≤ c → c ≤ 127 → V2 c = g c := fun c h1 h2 => (hV2.1 c (by omega) (by omega)).trans (ht1 c h1 h2)
    refine Ev.run 4 (pc' := 88) (lv' := [(2, .int (nI k)), (0, .ref 12), (1, .ref 70)]) (st' := [.ref 110, .ref 52]) (h' := HN V2 hl (RF rt)) rfl ?_
    refine Ev.call (a := 46) (as := [.ref 52, .ref 110]) (rest := []) (lv0 := [(0, .ref 52), (1, .ref 110)]) (Q1 := (fun z0 h' => z0 = none ∧ ∃ V3, CpL12 V2 V3 40 ∧ h' = HN V3 hl (RF rt))) rfl rfl (K_copyLine _ V2 _ _ 110 52 6 6 (⟨⟨by decide, rfl⟩, ⟨by decide, rfl⟩, rfl, by decide⟩ : LnC rt 110 6) (⟨⟨by decide, rfl⟩, ⟨by decide, rfl⟩, rfl, by decide⟩ : LnC rt 52 6) (by rw [ht2 _ (by decide) (by decide)]; exact h40) (by rw [ht2 _ (by decide) (by decide)]; exact h40) (by decide) ⟨rfl, _, cpLn_f (c0 := 110) (c1 := 52) (by decide), rfl⟩) (fun r h' hr => ?_)
    obtain ⟨rfl, V3, hV3, rfl⟩ := hr
    have ht3 : ∀ c, 70 ≤ c → c ≤ 127 → V3 c = g c := fun c h1 h2 => (hV3.1 c (by omega) (by omega)).trans (ht2 c h1 h2)
    refine Ev.run 4 (pc' := 99) (lv' := [(2, .int (nI k)), (0, .ref 12), (1, .ref 70)]) (st' := [.ref 112, .ref 54]) (h' := HN V3 hl (RF rt)) rfl ?_
    refine Ev.call (a := 46) (as := [.ref 54, .ref 112]) (rest := []) (lv0 := [(0, .ref 54), (1, .ref 112)]) (Q1 := (fun z0 h' => z0 = none ∧ ∃ V4, CpL12 V3 V4 42 ∧ h' = HN V4 hl (RF rt))) rfl rfl (K_copyLine _ V3 _ _ 112 54 8 8 (⟨⟨by decide, rfl⟩, ⟨by decide, rfl⟩, rfl, by decide⟩ : LnC rt 112 8) (⟨⟨by decide, rfl⟩, ⟨by decide, rfl⟩, rfl, by decide⟩ : LnC rt 54 8) (by rw [ht3 _ (by decide) (by decide)]; exact h42) (by rw [ht3 _ (by decide) (by decide)]; exact h42) (by decide) ⟨rfl, _, cpLn_f (c0 := 112) (c1 := 54) (by decide), rfl⟩) (fun r h' hr => ?_)
    obtain ⟨rfl, V4, hV4, rfl⟩ := hr
    have ht4 : ∀ c, 70 ≤ c → c ≤ 127 → V4 c = g c := fun c h1 h2 => (hV4.1 c (by omega) (by omega)).trans (ht3 c h1 h2)
    refine Ev.run 3 (pc' := 107) (lv' := [(2, .int (nI k)), (0, .ref 12), (1, .ref 70)]) (st' := [.ref rt.2.2.2, .ref 12]) (h' := HN V4 hl (RF rt)) rfl ?_
    refine Ev_pfR rfl (⟨by decide, rfl⟩ : KC 12 2 10) (HN_set2 _ _ _ _) ?_
    refine Ev.ret (v := none) rfl ?_
    refine hq V4 ⟨fun c hc => ?_, ?_, fun i hi => ?_, fun i q hi hqq => ?_, fun j hj => ?_, fun j hj => ?_, fun j hj => ?_, fun i j hi h1 h2 => ?_, fun i q hi hqq => ?_, ?_, ?_, ?_, ?_, fun q hqq => ?_, fun j hj => ?_, fun a ha => ?_⟩
    · rw [hV4.1 _ (by omega) (by omega), hV3.1 _ (by omega) (by omega), hV2.1 _ (by omega) (by omega), hV1.1 _ (by omega) (by omega), hV0.1 _ (by omega) (by omega) (by omega) (by omega), (u2_f W 12 2 (W 70 2)).1 _ (by omega), hW.1 _ (by omega)]; exact hW0.1 c (by omega) (by omega) (by omega) (by omega) (by omega)
    · rw [hV4.1 _ (by omega) (by omega), hV3.1 _ (by omega) (by omega), hV2.1 _ (by omega) (by omega), hV1.1 _ (by omega) (by omega), hV0.1 _ (by omega) (by omega) (by omega) (by omega), (u2_f W 12 2 (W 70 2)).1 _ (by omega), hW.1 _ (by omega)]; exact hW0.2.1
    · rw [hV4.1 _ (by omega) (by omega), hV3.1 _ (by omega) (by omega), hV2.1 _ (by omega) (by omega), hV1.1 _ (by omega) (by omega), hV0.1 _ (by omega) (by omega) (by omega) (by omega), (u2_f W 12 2 (W 70 2)).1 _ (by omega), hW.1 _ (by omega)]; exact hW0.2.2.1 i hi
    · rw [hV4.1 _ (by omega) (by omega), hV3.1 _ (by omega) (by omega), hV2.1 _ (by omega) (by omega), hV1.1 _ (by omega) (by omega), hV0.1 _ (by omega) (by omega) (by omega) (by omega), (u2_f W 12 2 (W 70 2)).1 _ (by omega), hW.1 _ (by omega)]; exact hW0.2.2.2.1 i q hi hqq
    · rw [hV4.1 _ (by omega) (by omega), hV3.1 _ (by omega) (by omega), hV2.1 _ (by omega) (by omega), hV1.1 _ (by omega) (by omega), hV0.1 _ (by omega) (by omega) (by omega) (by omega), (u2_f W 12 2 (W 70 2)).1 _ (by omega), hW.1 _ (by omega)]; exact hW0.2.2.2.2.1 j hj
    · rw [hV4.1 _ (by omega) (by omega), hV3.1 _ (by omega) (by omega), hV2.1 _ (by omega) (by omega), hV1.1 _ (by omega) (by omega), hV0.1 _ (by omega) (by omega) (by omega) (by omega), (u2_f W 12 2 (W 70 2)).1 _ (by omega), hW.1 _ (by omega)]; exact hW0.2.2.2.2.2.1 j hj
    · rw [hV4.1 _ (by omega) (by omega), hV3.1 _ (by omega) (by omega), hV2.1 _ (by omega) (by omega), hV1.1 _ (by omega) (by omega), hV0.1 _ (by omega) (by omega) (by omega) (by omega), (u2_f W 12 2 (W 70 2)).1 _ (by omega), hW.1 _ (by omega)]; exact hW0.2.2.2.2.2.2 j hj
    · rw [hV4.1 _ (by omega) (by omega), hV3.1 _ (by omega) (by omega), hV2.1 _ (by omega) (by omega), hV1.1 _ (by omega) (by omega), hV0.1 _ (by omega) (by omega) (by omega) (by omega), (u2_f W 12 2 (W 70 2)).1 _ (by omega)]; exact ((hW.2 i hi).1 j h1 h2).trans (congrFun (hs0 _ (by omega) (by omega)) j)
    · rw [hV4.1 _ (by omega) (by omega), hV3.1 _ (by omega) (by omega), hV2.1 _ (by omega) (by omega), hV1.1 _ (by omega) (by omega), hV0.1 _ (by omega) (by omega) (by omega) (by omega), (u2_f W 12 2 (W 70 2)).1 _ (by omega)]; exact ((hW.2 i hi).2 q hqq).trans (congrFun (hs0 _ (by omega) (by omega)) q)
    · rw [hV4.1 _ (by omega) (by omega), hV3.1 _ (by omega) (by omega), hV2.1 _ (by omega) (by omega), hV1.1 _ (by omega) (by omega), hV0.1 _ (by omega) (by omega) (by omega) (by omega)]; exact (u2_f W 12 2 (W 70 2)).2.1.trans ((congrFun (hW.1 70 (by omega)) 2).trans (congrFun (hs0 _ (by decide) (by decide)) 2))
    · rw [hV4.1 _ (by omega) (by omega), hV3.1 _ (by omega) (by omega), hV2.1 _ (by omega) (by omega), hV1.1 _ (by omega) (by omega)]; exact hV0.2.1.trans (congrFun (hsU _ (by decide) (by decide)) 2)
    · rw [hV4.1 _ (by omega) (by omega), hV3.1 _ (by omega) (by omega), hV2.1 _ (by omega) (by omega), hV1.1 _ (by omega) (by omega)]; exact hV0.2.2.1.trans (congrFun (hsU _ (by decide) (by decide)) 3)
    · rw [hV4.1 _ (by omega) (by omega), hV3.1 _ (by omega) (by omega), hV2.1 _ (by omega) (by omega), hV1.1 _ (by omega) (by omega)]; exact hV0.2.2.2.1.trans (congrFun (hsU _ (by decide) (by decide)) 1)
    · rw [hV4.1 _ (by omega) (by omega), hV3.1 _ (by omega) (by omega), hV2.1 _ (by omega) (by omega), hV1.1 _ (by omega) (by omega)]; exact (hV0.2.2.2.2.1 q (by rw [hsU _ (by decide) (by decide)]; exact hqq)).trans (congrFun (hsU _ (by decide) (by decide)) q)
    · rw [hV4.1 _ (by omega) (by omega), hV3.1 _ (by omega) (by omega), hV2.1 _ (by omega) (by omega), hV1.1 _ (by omega) (by omega)]; exact (hV0.2.2.2.2.2 j hj).trans (congrFun (hsU _ (by decide) (by decide)) j)
    · rcases ha with rfl | rfl | rfl | rfl
      · rw [hV4.1 48 (by omega) (by omega), hV3.1 48 (by omega) (by omega), hV2.1 48 (by omega) (by omega), hV4.1 49 (by omega) (by omega), hV3.1 49 (by omega) (by omega), hV2.1 49 (by omega) (by omega)]
        exact ⟨hV1.2.1.trans (congrFun (ht0 106 (by decide) (by decide)) 1), fun q hqq => (hV1.2.2 q (by rw [ht0 106 (by decide) (by decide)]; exact hqq)).trans (congrFun (ht0 107 (by decide) (by decide)) q)⟩
      · rw [hV4.1 50 (by omega) (by omega), hV3.1 50 (by omega) (by omega), hV4.1 51 (by omega) (by omega), hV3.1 51 (by omega) (by omega)]
        exact ⟨hV2.2.1.trans (congrFun (ht1 108 (by decide) (by decide)) 1), fun q hqq => (hV2.2.2 q (by rw [ht1 108 (by decide) (by decide)]; exact hqq)).trans (congrFun (ht1 109 (by decide) (by decide)) q)⟩
      · rw [hV4.1 52 (by omega) (by omega), hV4.1 53 (by omega) (by omega)]
        exact ⟨hV3.2.1.trans (congrFun (ht2 110 (by decide) (by decide)) 1), fun q hqq => (hV3.2.2 q (by rw [ht2 110 (by decide) (by decide)]; exact hqq)).trans (congrFun (ht2 111 (by decide) (by decide)) q)⟩
      · skip
        exact ⟨hV4.2.1.trans (congrFun (ht3 112 (by decide) (by decide)) 1), fun q hqq => (hV4.2.2 q (by rw [ht3 112 (by decide) (by decide)]; exact hqq)).trans (congrFun (ht3 113 (by decide) (by decide)) q)⟩
  · have hc15 : ¬ (5 ≤ k) := fun z => hc15 ((nI_leI (by omega) (by omega)).mpr z)
    refine Ev.run 3 (pc' := 23) (lv' := [(2, .int (nI k)), (0, .ref 12), (1, .ref 70)]) (st' := [.int (nI k), .ref 43]) (h' := HN W hl (RF rt)) rfl ?_
    refine Ev_aald (c := (60 + 2 * k)) rfl (by decide) rfl (show k < 5 by omega) (Nat.le_of_ble_eq_true rfl) (plG12 rt (show k < 5 by omega)).2.2.1 ?_
    refine Ev.run 3 (pc' := 29) (lv' := [(2, .int (nI k)), (0, .ref 12), (1, .ref 70)]) (st' := [.int (nI k), .ref 101, .ref (60 + 2 * k)]) (h' := HN W hl (RF rt)) rfl ?_
    refine Ev_aald (c := (118 + 2 * k)) rfl (by decide) rfl (show k < 5 by omega) (Nat.le_of_ble_eq_true rfl) (plG70 rt (show k < 5 by omega)).2.2.1 ?_
    refine Ev_callV (a := 49) (as := [.ref (60 + 2 * k), .ref (118 + 2 * k)]) (rest := []) (lv0 := [(0, .ref (60 + 2 * k)), (1, .ref (118 + 2 * k))]) (Q1 := (fun z0 h' => z0 = none ∧ h' = HN (cpP W (118 + 2 * k) (60 + 2 * k)) hl (RF rt))) rfl rfl rfl rfl rfl (plG12 rt (show k < 5 by omega)).1.k rfl rfl rfl (K_copyPlayer _ W _ _ (118 + 2 * k) (60 + 2 * k) (plG70 rt (show k < 5 by omega)).1 (plG70 rt (show k < 5 by omega)).2.1 (plG70 rt (show k < 5 by omega)).2.2.2 (plG12 rt (show k < 5 by omega)).1 (plG12 rt (show k < 5 by omega)).2.1 (plG12 rt (show k < 5 by omega)).2.2.2 ⟨rfl, rfl⟩) (fun r h' hr => ?_)
    obtain ⟨rfl, rfl⟩ := hr
    refine Ev.run 1 (pc' := 36) (lv' := [(2, .int (nI k + 1)), (0, .ref 12), (1, .ref 70)]) (st' := []) (h' := HN (cpP W (118 + 2 * k) (60 + 2 * k)) hl (RF rt)) rfl ?_
    refine Ev.lvE (congrArg (fun z => (2, Value.int z) :: [(0, .ref 12), (1, .ref 70)]) (nI_1 _)) ?_
    refine Ev.run 1 (pc' := 13) (lv' := [(2, .int (nI (k + 1))), (0, .ref 12), (1, .ref 70)]) (st' := []) (h' := HN (cpP W (118 + 2 * k) (60 + 2 * k)) hl (RF rt)) rfl ?_
    have hx := hnext (by omega) _ (hW.s (by omega))
    exact Ev.wk (Ext.cons rfl rfl (Ext.cons rfl rfl (Ext.cons rfl rfl (Ext.nil rfl)))) hx
