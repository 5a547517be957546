/-! copies of rows -/
/-- n places of a cell from lo on, as src has them -/
def cpR (g : Nat → Nat → Nat) (c lo n : Nat) (src : Nat → Nat) : Nat → Nat → Nat := fun a b => if a = c then (if lo ≤ b ∧ b < lo + n then src (b - lo) else g c b) else g a b
theorem cpR_s (g : Nat → Nat → Nat) (c lo n : Nat) (src : Nat → Nat) : u2 (cpR g c lo n src) c (lo + n) (src n) = cpR g c lo (n + 1) src := by
  funext a b
  unfold u2 cpR
  by_cases ha : a = c
  · subst ha
    simp only [if_true]
    by_cases hb : b = lo + n
    · subst hb
      rw [if_pos rfl, if_pos (by omega), Nat.add_sub_cancel_left]
    · rw [if_neg hb]
      by_cases h1 : lo ≤ b ∧ b < lo + n
      · rw [if_pos h1, if_pos (by omega)]
      · rw [if_neg h1, if_neg (by omega)]
  · simp only [if_neg ha]
theorem cpR_0 (g : Nat → Nat → Nat) (c lo : Nat) (src : Nat → Nat) : cpR g c lo 0 src = g := by
  funext a b
  unfold cpR
  by_cases ha : a = c
  · subst ha
    rw [if_pos rfl, if_neg (by omega)]
  · rw [if_neg ha]
