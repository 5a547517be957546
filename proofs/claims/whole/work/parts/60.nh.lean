/-! both sides: what one does -/
theorem wrS_tb {g : Nat → Nat → Nat} (h : MI g) (hB : CB g) (r : Nat → Nat) {n y : Nat} (hy : (goG g r n (allS g)).testBit y = true) (hne : endS g (lwS g 1) (up r n y) (n + 1) = false) : (wrS g r n (allS g)).testBit y = decide (wrS g (up r n y) (n + 1) (allS g) = 0) := by
  have hW := h.hW
  obtain ⟨i, i1, i2, i3⟩ := (gset_tb _ _ _ _).mp hy
  rw [Bool.and_eq_true, Bool.and_eq_true, Bool.not_eq_true', decide_eq_false_iff_not] at i2
  have hi6 := h.hsz i (by omega)
  have hi3 := h.hgl (6 * i + n) (by omega)
  have hy4 : y < 4 := by omega
  have hn6 : n < 6 := by omega
  have hfi : ft g (up r n y) (n + 1) i = true := by
    rw [ft_s, show up r n y n = y from if_pos rfl, ft_cg (r := up r n y) (r' := r) (fun k hk => if_neg (by omega)), i2.2.2, plB_t.mpr ⟨by omega, i3⟩]; rfl
  have hF' : fitA g (up r n y) (n + 1) (allS g) ≠ 0 := by
    refine nz_tb (k := i) ?_
    unfold fitA
    rw [bset_tb, allS_tb, hfi, decide_eq_true i1]; rfl
  rw [← wr_eq h hB r n (allS g) (lsW g (allS g) (lwS g 1) (6 - n)) (fun _ => rfl) (fun z => by omega)]
  unfold wiF
  rw [bset_tb, decide_eq_true hy4, Bool.true_and, goG_eq h, fit_all, neS_eq, bset_tb, decide_eq_true hy4, Bool.true_and, hy, hne, fit_pl, dcn0]
  show (true && dc _) = _
  rw [Bool.true_and]
  obtain ⟨e1, e2, e3⟩ := fitA_least h hF'
  have e4 := dc_p e3
  -- all that fit the longer row are alike
  have hkey : ∀ o, o < g 166 0 → ft g (up r n y) (n + 1) o = true → ((lsW g (allS g) (lwS g 1) (6 - n)).testBit o = true ↔ wrS g (up r n y) (n + 1) (allS g) = 0) := fun o o1 o2 => by
    have o3 := dc_p o2
    have e5 := ls_eq h hB (allS g) (6 - (n + 1)) (by omega) o o1
    rw [show 6 - (n + 1) + 1 = 6 - n by omega] at e5
    rw [e5, allS_tb, decide_eq_true o1, decide_eq_true (show 6 - (6 - (n + 1)) ≤ g 168 o by omega), Bool.true_and, Bool.true_and, Bool.not_eq_true']
    unfold wrS
    rw [if_neg hF']
    by_cases h6 : 6 ≤ n + 1
    · rw [if_pos h6, show 6 - (n + 1) = 0 by omega]
      exact ⟨fun _ => rfl, fun _ => rfl⟩
    · rw [if_neg h6, wB_p (show 6 - (n + 1) ≠ 0 by omega), allS_tb, decide_eq_true o1, decide_eq_false (show ¬ g 168 o < 6 - (6 - (n + 1)) by omega), Bool.true_and, Bool.not_false, Bool.true_and, Bool.not_eq_false', decide_eq_true_iff, show 6 - (n + 1) - 1 = 6 - (n + 1 + 1) by omega, show 6 - (6 - (n + 1)) = n + 1 by omega]
      have e6 : winF g (allS g) (wB g (allS g) (6 - (n + 1 + 1))) o (n + 1) = winF g (allS g) (wB g (allS g) (6 - (n + 1 + 1))) (least (fitA g (up r n y) (n + 1) (allS g))) (n + 1) := by
        unfold winF
        have e7 : al g o = fun q m => al g o q m := rfl
        have e8 : (fun q => (allS g).testBit q && (!decide (g 168 q ≤ n + 1) && (al g o q (n + 1) && (!eW g (allS g) q (n + 1 + 1) && !wB g (allS g) (6 - (n + 1 + 1)) q)))) = (fun q => (allS g).testBit q && (!decide (g 168 q ≤ n + 1) && (al g (least (fitA g (up r n y) (n + 1) (allS g))) q (n + 1) && (!eW g (allS g) q (n + 1 + 1) && !wB g (allS g) (6 - (n + 1 + 1)) q)))) := by
          funext q
          have e9 : al g o q (n + 1) = al g (least (fitA g (up r n y) (n + 1) (allS g))) q (n + 1) := dc_c ⟨fun z => ⟨e4.1, z.2.1, fun k hk => (e4.2 k hk).trans ((o3.2 k hk).symm.trans (z.2.2 k hk))⟩, fun z => ⟨o3.1, z.2.1, fun k hk => (o3.2 k hk).trans ((e4.2 k hk).symm.trans (z.2.2 k hk))⟩⟩
          rw [e9]
        rw [e8]
      rw [e6]
  by_cases hz : wrS g (up r n y) (n + 1) (allS g) = 0
  · rw [decide_eq_true hz]
    refine dc_t ⟨i, ?_, (hkey i i1 hfi).mpr hz⟩
    rw [bset_tb, hfi, decide_eq_true i1]; rfl
  · rw [decide_eq_false hz]
    refine dc_f (fun ⟨o, o1, o2⟩ => ?_)
    rw [bset_tb, Bool.and_eq_true, decide_eq_true_iff] at o1
    exact hz ((hkey o o1.1 o1.2).mp o2)
-- the least of a set, by looking from 0 on
theorem frS_nz {s : Nat} (h : s ≠ 0) : frS s = least s := if_neg h
theorem fst_least {q : Nat → Bool} {e s : Nat} (hs : s < 16) (h : ∀ y, y < 4 → q y = s.testBit y) : fstF q e 4 0 = if s = 0 then e else least s := by
  have hc : ∀ y, y < 4 → s.testBit y = true → (∀ i, i < y → s.testBit i = false) → least s = y := fun y hy h1 h2 => least_eq (by omega) h1 h2
  by_cases h0 : s = 0
  · rw [if_pos h0]
    have hq : ∀ y, y < 4 → q y = false := fun y hy => by rw [h y hy, h0, Nat.zero_testBit]
    unfold fstF fstF fstF fstF fstF
    rw [hq 0 (by decide), hq (0 + 1) (by decide), hq (0 + 1 + 1) (by decide), hq (0 + 1 + 1 + 1) (by decide)]
    rfl
  · rw [if_neg h0]
    obtain ⟨j, j1, j2, j3⟩ := least_ex (N := 4) h0 hs
    rw [hc j j1 j2 j3]
    have hq : ∀ y, y < j → q y = false := fun y hy => by rw [h y (by omega), j3 y hy]
    have hj : q j = true := by rw [h j j1]; exact j2
    rcases (show j = 0 ∨ j = 1 ∨ j = 2 ∨ j = 3 by omega) with rfl | rfl | rfl | rfl
    · unfold fstF; rw [hj]; rfl
    · unfold fstF fstF; rw [hq 0 (by decide), show q (0 + 1) = true from hj]; rfl
    · unfold fstF fstF fstF; rw [hq 0 (by decide), show q (0 + 1) = false from hq 1 (by decide), show q (0 + 1 + 1) = true from hj]; rfl
    · unfold fstF fstF fstF fstF; rw [hq 0 (by decide), show q (0 + 1) = false from hq 1 (by decide), show q (0 + 1 + 1) = false from hq 2 (by decide), show q (0 + 1 + 1 + 1) = true from hj]; rfl
/-- the class's way to the fewest -/
def slC (f : Nat → Nat) (s : Nat) : Nat → Nat × Nat
  | 0 => (10, 5)
  | n + 1 => if s.testBit n = true then (if f n < (slC f s n).2 then (n, f n) else slC f s n) else slC f s n
theorem sl_eq {f : Nat → Nat} (hf : ∀ y, f y ≤ 4) (s : Nat) : ∀ n, n ≤ 100 → ((∀ i, i < n → s.testBit i = false) ∧ slC f s n = (10, 5) ∧ slL f s n = (4294967295, 0)) ∨ (slC f s n = slL f s n ∧ (slL f s n).1 < 100 ∧ (slL f s n).2 ≤ 4) := by
  intro n
  induction n with
  | zero => intro _; exact Or.inl ⟨fun i hi => absurd hi (Nat.not_lt_zero _), rfl, rfl⟩
  | succ n ih =>
    intro hn
    have h4 := hf n
    cases e : s.testBit n with
    | false =>
      have a1 : slC f s (n + 1) = slC f s n := by rw [slC, if_neg (by rw [e]; decide)]
      rw [a1, slL_0 e]
      rcases ih (by omega) with ⟨b1, b2, b3⟩ | b
      · exact Or.inl ⟨fun i hi => by
          by_cases z : i = n
          · rw [z]; exact e
          · exact b1 i (by omega), b2, b3⟩
      · exact Or.inr b
    | true =>
      rcases ih (by omega) with ⟨b1, b2, b3⟩ | ⟨b1, b2, b3⟩
      · have a1 : slC f s (n + 1) = (n, f n) := by rw [slC, if_pos e, b2, if_pos (show f n < 5 by omega)]
        rw [a1, slL_n e (by rw [b3]; intro z; have := z.1; omega)]
        exact Or.inr ⟨rfl, show n < 100 by omega, h4⟩
      · by_cases z : f n < (slL f s n).2
        · have a1 : slC f s (n + 1) = (n, f n) := by rw [slC, if_pos e, b1, if_pos z]
          rw [a1, slL_n e (fun y => by omega)]
          exact Or.inr ⟨rfl, show n < 100 by omega, h4⟩
        · have a1 : slC f s (n + 1) = slC f s n := by rw [slC, if_pos e, b1, if_neg z]
          rw [a1, slL_k e ⟨by omega, by omega⟩]
          exact Or.inr ⟨b1, b2, b3⟩
theorem sl_eq4 {f : Nat → Nat} (hf : ∀ y, f y ≤ 4) {s : Nat} (h0 : s ≠ 0) (hs : s < 16) : (slC f s 4).1 = (slL f s 4).1 := by
  rcases sl_eq hf s 4 (by decide) with ⟨h1, _⟩ | ⟨h1, _⟩
  · obtain ⟨j, j1, j2⟩ := tb_ex (N := 4) h0 hs
    rw [h1 j j1] at j2
    cases j2
  · rw [h1]
theorem ones16 {s : Nat} (h : s < 16) : ones12 s ≤ 4 := by
  have h1 : ∀ s, s < 16 → ones12 s ≤ 4 := by decide
  exact h1 s h
/-- the class's way to the next one -/
def fwC (lv : Nat → Nat) (P p : Nat) : Nat → Nat → Nat
  | 0, _ => 4294967295
  | f + 1, k => if 0 < lv ((p + k) % P) then (p + k) % P else fwC lv P p f (k + 1)
theorem fw_eq (lv : Nat → Nat) (P p : Nat) : ∀ f k, (fwC lv P p f k = nxF lv P p f k ∧ ∃ j, k ≤ j ∧ j < k + f ∧ 0 < lv ((p + j) % P)) ∨ (fwC lv P p f k = 4294967295 ∧ nxF lv P p f k = p ∧ ∀ j, k ≤ j → j < k + f → lv ((p + j) % P) = 0) := by
  intro f
  induction f with
  | zero => intro k; exact Or.inr ⟨rfl, rfl, fun j h1 h2 => by omega⟩
  | succ f ih =>
    intro k
    unfold fwC nxF
    by_cases h : 0 < lv ((p + k) % P)
    · rw [if_pos h, if_pos h]
      exact Or.inl ⟨rfl, k, Nat.le_refl _, by omega, h⟩
    · rw [if_neg h, if_neg h]
      rcases ih (k + 1) with ⟨a, j, b, c, e⟩ | ⟨a, b, c⟩
      · exact Or.inl ⟨a, j, by omega, by omega, e⟩
      · refine Or.inr ⟨a, b, fun j h1 h2 => ?_⟩
        by_cases e : j = k
        · rw [e]; omega
        · exact c j (by omega) (by omega)
/-- somebody has lives -/
def aliv (lv : Nat → Nat) (P : Nat) : Prop := ∃ p, p < P ∧ 0 < lv p
theorem fw_al {lv : Nat → Nat} {P p : Nat} (hp : p < P) : (aliv lv P ∧ fwC lv P p P 1 = nxS lv P p ∧ nxS lv P p < P ∧ 0 < lv (nxS lv P p)) ∨ (¬ aliv lv P ∧ fwC lv P p P 1 = 4294967295 ∧ nxS lv P p = p) := by
  rcases fw_eq lv P p P 1 with ⟨a, j, b, c, e⟩ | ⟨a, b, c⟩
  · have hlt : ∀ f k, (∃ j, k ≤ j ∧ j < k + f ∧ 0 < lv ((p + j) % P)) → nxF lv P p f k < P ∧ 0 < lv (nxF lv P p f k) := by
      intro f
      induction f with
      | zero => rintro k ⟨j, h1, h2, _⟩; omega
      | succ f ih =>
        rintro k ⟨j, h1, h2, h3⟩
        unfold nxF
        by_cases h : 0 < lv ((p + k) % P)
        · rw [if_pos h]; exact ⟨Nat.mod_lt _ (by omega), h⟩
        · rw [if_neg h]
          refine ih (k + 1) ⟨j, ?_, by omega, h3⟩
          refine Classical.byContradiction fun z => h ?_
          rw [show k = j by omega]; exact h3
    have h9 := hlt P 1 ⟨j, b, c, e⟩
    exact Or.inl ⟨⟨_, h9.1, h9.2⟩, a, h9.1, h9.2⟩
  · refine Or.inr ⟨fun ⟨q, q1, q2⟩ => ?_, a, b⟩
    have h9 : ∃ j, 1 ≤ j ∧ j < 1 + P ∧ (p + j) % P = q := by
      by_cases h : p < q
      · exact ⟨q - p, by omega, by omega, by rw [show p + (q - p) = q by omega]; exact Nat.mod_eq_of_lt q1⟩
      · refine ⟨P - p + q, by omega, by omega, ?_⟩
        rw [show p + (P - p + q) = q + P by omega, Nat.add_mod_right]
        exact Nat.mod_eq_of_lt q1
    obtain ⟨j, j1, j2, j3⟩ := h9
    have h10 := c j j1 j2
    rw [j3] at h10
    omega
theorem alS_al {g : Nat → Nat → Nat} : alS g ≠ 0 ↔ aliv (g 173) (g 166 6) := by
  unfold alS aliv
  constructor
  · intro h
    obtain ⟨k, hk⟩ : ∃ k, (bset (fun p => !decide (g 173 p ≤ 0)) (g 166 6)).testBit k = true := by
      refine Classical.byContradiction fun z => h (nat_tb_ext fun k => ?_)
      rw [Nat.zero_testBit, ← Bool.not_eq_true]
      exact fun y => z ⟨k, y⟩
    rw [bset_tb, Bool.and_eq_true, decide_eq_true_iff, Bool.not_eq_true', decide_eq_false_iff_not] at hk
    exact ⟨k, hk.1, by omega⟩
  · rintro ⟨p, h1, h2⟩
    refine nz_tb (k := p) ?_
    rw [bset_tb, decide_eq_true h1, decide_eq_false (by omega)]; rfl
