/-! references that change -/
theorem cnd2 {α : Type} {c : Bool} {x y x' y' : α} (h1 : c = true → x = x') (h2 : c = false → y = y') : (bif c then x else y) = (bif c then x' else y') := by
  cases c with
  | true => exact h1 rfl
  | false => exact h2 rfl
theorem blt_ge {a b : Nat} (h : Nat.blt a b = false) : b ≤ a := by
  by_cases e : a < b
  · have : Nat.blt a b = true := Nat.ble_eq_true_of_le e
    rw [this] at h; cases h
  · omega
theorem beq_ne2 {a b : Nat} (h : Nat.beq a b = false) : a ≠ b := fun e => by
  rw [e, beq_t rfl] at h; cases h
theorem RF_c {a b c d q k j : Nat} (h : k ≠ 12 ∨ j ≠ 8) : RF (a, b, q, d) k j = RF (a, b, c, d) k j := by
  unfold RF
  repeat' (first | rfl | (refine cnd2 (fun h => ?_) (fun h => ?_) <;> (first | replace h := blt_lt h | replace h := blt_ge h | replace h := beq_e h | replace h := beq_ne2 h)))
  all_goals (exfalso; omega)
theorem HN_setR (g : Nat → Nat → Nat) (hl : Nat → Nat → Int64) (a b c d q : Nat) : setR (HN g hl (RF (a, b, c, d))) 12 8 (some q) = HN g hl (RF (a, b, q, d)) := by
  unfold setR HN
  refine congrArg (fun z => ((210 : Nat), (fun k j => nI (g k j)), hl, z)) (funext fun k => funext fun j => ?_)
  show u2 (RF (a, b, c, d)) 12 8 (some q) k j = RF (a, b, q, d) k j
  unfold u2
  by_cases h1 : k = 12
  · rw [if_pos h1]
    by_cases h2 : j = 8
    · rw [if_pos h2, h1, h2]; rfl
    · rw [if_neg h2, RF_c (Or.inr h2)]
  · rw [if_neg h1, RF_c (Or.inl h1)]
