theorem for_ind (N : Nat) (P : Nat → Prop) (step : ∀ n, n ≤ N → (n < N → P (n + 1)) → P n) : ∀ n, n ≤ N → P n := by
  have h : ∀ k n, n + k = N → P n := by
    intro k
    induction k with
    | zero => intro n hn; exact step n (by omega) (fun h => absurd h (by omega))
    | succ k ih => intro n hn; exact step n (by omega) (fun _ => ih (n + 1) (by omega))
  intro n hn
  exact h (N - n) n (by omega)
/-- the set of the numbers below n of which p holds, as bits -/
def bset (p : Nat → Bool) : Nat → Nat
  | 0 => 0
  | n + 1 => bset p n ||| (bif p n then nSh 1 n else 0)
theorem nSh_tb (a b : Nat) : (nSh 1 a).testBit b = decide (a = b) := by
  unfold nSh
  rw [Nat.shiftLeft_eq, Nat.one_mul, Nat.testBit_two_pow]
theorem bset_tb (p : Nat → Bool) (n k : Nat) : (bset p n).testBit k = (decide (k < n) && p k) := by
  induction n with
  | zero => simp [bset]
  | succ n ih =>
    rw [bset, Nat.testBit_or, ih]
    cases hp : p n with
    | true =>
      rw [cond_true, nSh_tb]
      by_cases e : n = k
      · subst e; simp [hp]
      · by_cases h : k < n
        · simp [h, e, show k < n + 1 by omega]
        · simp [h, e, show ¬ k < n + 1 by omega]
    | false =>
      rw [cond_false, Nat.zero_testBit, Bool.or_false]
      by_cases e : n = k
      · subst e; simp [hp]
      · by_cases h : k < n
        · simp [h, show k < n + 1 by omega]
        · simp [h, show ¬ k < n + 1 by omega]
theorem bset_lt (p : Nat → Bool) (n : Nat) : bset p n < 2 ^ n := by
  refine Nat.lt_pow_two_of_testBit _ fun i hi => ?_
  rw [bset_tb]
  simp [show ¬ i < n by omega]
theorem bset_lt' (p : Nat → Bool) {n m : Nat} (h : n ≤ m) : bset p n < 2 ^ m := Nat.lt_of_lt_of_le (bset_lt p n) (Nat.pow_le_pow_right (by decide) h)
theorem nat_tb_ext {a b : Nat} (h : ∀ k, a.testBit k = b.testBit k) : a = b := Nat.eq_of_testBit_eq h
/-- the set of what f is at the numbers below n of which p holds -/
def gset (p : Nat → Bool) (f : Nat → Nat) : Nat → Nat
  | 0 => 0
  | n + 1 => gset p f n ||| (bif p n then nSh 1 (f n) else 0)
theorem gset_tb (p : Nat → Bool) (f : Nat → Nat) (n k : Nat) : (gset p f n).testBit k = true ↔ ∃ i, i < n ∧ p i = true ∧ f i = k := by
  induction n with
  | zero => simp [gset]
  | succ n ih =>
    rw [gset, Nat.testBit_or, Bool.or_eq_true, ih]
    constructor
    · rintro (⟨i, h1, h2, h3⟩ | h)
      · exact ⟨i, by omega, h2, h3⟩
      · cases hp : p n with
        | true =>
          rw [hp, cond_true, nSh_tb] at h
          exact ⟨n, by omega, hp, of_decide_eq_true h⟩
        | false => rw [hp, cond_false, Nat.zero_testBit] at h; cases h
    · rintro ⟨i, h1, h2, h3⟩
      by_cases e : i = n
      · subst e
        right
        rw [h2, cond_true, nSh_tb]
        exact decide_eq_true h3
      · exact Or.inl ⟨i, by omega, h2, h3⟩
theorem gset_lt (p : Nat → Bool) (f : Nat → Nat) {n m : Nat} (h : ∀ i, i < n → p i = true → f i < m) : gset p f n < 2 ^ m := by
  refine Nat.lt_pow_two_of_testBit _ fun i hi => ?_
  rw [← Bool.not_eq_true, gset_tb]
  rintro ⟨k, h1, h2, h3⟩
  have := h k h1 h2
  omega
/-- how many bits, of twelve -/
def pcn (s : Nat) : Nat → Nat
  | 0 => 0
  | n + 1 => pcn s n + bn (s.testBit n)
def ones12 (s : Nat) : Nat := pcn s 12
theorem ones12_0 : ones12 0 = 0 := by decide
set_option maxRecDepth 100000 in
theorem ones12_s : ∀ s, s < 4096 → s ≠ 0 → ones12 s = ones12 (s &&& (s - 1)) + 1 := by decide +kernel
theorem and_pred_lt {s : Nat} (h : s ≠ 0) : s &&& (s - 1) < s := Nat.lt_of_le_of_lt Nat.and_le_right (by omega)
/-- the least of a set -/
def lst (s : Nat) : Nat → Nat → Nat
  | 0, k => k
  | n + 1, k => bif s.testBit k then k else lst s n (k + 1)
def least (s : Nat) : Nat := lst s 32 0
theorem lst_spec {s : Nat} : ∀ {n k j : Nat}, k ≤ j → j < k + n → s.testBit j = true → (∀ i, k ≤ i → i < j → s.testBit i = false) → lst s n k = j := by
  intro n
  induction n with
  | zero => intro k j h1 h2; omega
  | succ n ih =>
    intro k j h1 h2 h3 h4
    by_cases e : k = j
    · subst e
      rw [lst, h3, cond_true]
    · rw [lst, h4 k (Nat.le_refl _) (by omega), cond_false]
      exact ih (by omega) (by omega) h3 (fun i a b => h4 i (by omega) b)
theorem least_eq {s j : Nat} (hj : j < 32) (h : s.testBit j = true) (hl : ∀ i, i < j → s.testBit i = false) : least s = j := lst_spec (Nat.zero_le _) (by omega) h (fun i _ h2 => hl i h2)
theorem least_ex {s : Nat} {N : Nat} (h0 : s ≠ 0) (hs : s < 2 ^ N) : ∃ j, j < N ∧ s.testBit j = true ∧ ∀ i, i < j → s.testBit i = false := by
  obtain ⟨i, hi⟩ : ∃ i, s.testBit i = true := by
    refine Classical.byContradiction fun h => h0 (Nat.eq_of_testBit_eq fun i => ?_)
    rw [Nat.zero_testBit, ← Bool.not_eq_true]
    exact fun z => h ⟨i, z⟩
  obtain ⟨k, h1, h2⟩ := pk_least (fun k => s.testBit k = true) ⟨i, hi⟩
  refine ⟨k, ?_, h1, fun j hj => by rw [← Bool.not_eq_true]; exact h2 j hj⟩
  refine Classical.byContradiction fun hk => ?_
  have h3 := Nat.testBit_lt_two_pow (x := s) (i := k) (Nat.lt_of_lt_of_le hs (Nat.pow_le_pow_right (by decide) (by omega)))
  rw [h3] at h1
  cases h1
