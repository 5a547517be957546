/-! the class: a letter is added; the sly one -/
def atX (x1 x2 : Nat → Nat) (k : Nat) : Nat := if k < x1 1 then x2 k else 4294967295
/-- the words that fit n letters of a round's row -/
noncomputable def ftX (g : Nat → Nat → Nat) (x1 x2 : Nat → Nat) (n : Nat) : Nat := bset (ft g (atX x1 x2) n) (g 166 0)
/-- the table that holds: a cell of its own, least in its place 3 -/
def TbC (g : Nat → Nat → Nat) (rt : Nat × Nat × Nat × Nat) (y : Nat) : Prop := KC rt.2.2.1 7 5 ∧ y ≤ 99 ∧ g rt.2.2.1 3 = y ∧ ∀ c, c < 4 → rt.2.2.1 ≠ 44 + c ∧ rt.2.2.1 ≠ 128 + c
theorem RO_ne (g : Nat → Nat → Nat) (c : Nat) (x0 x1 x2 x3 : Nat → Nat) {a : Nat} (h : ∀ k, k < 4 → a ≠ c + k) (j : Nat) : RO g c x0 x1 x2 x3 a j = g a j := by
  unfold RO ur
  have h0 := h 0 (by decide)
  have h1 := h 1 (by decide)
  have h2 := h 2 (by decide)
  have h3 := h 3 (by decide)
  rw [if_neg h3, if_neg h2, if_neg h1, if_neg (by omega)]
section RC
variable {g : Nat → Nat → Nat} {c : Nat} {x0 x1 x2 x3 : Nat → Nat}
theorem MI.mRO (h : MI g) (hc : c = 44 ∨ c = 128) : MI (RO g c x0 x1 x2 x3) := by
  rcases hc with rfl | rfl <;> exact h
theorem CB.cRO (h : CB g) (hc : c = 44 ∨ c = 128) : CB (RO g c x0 x1 x2 x3) := by
  obtain ⟨h1, h2, h3, h4, h5, h6⟩ := h
  have e : ∀ a j, a < 44 → RO g c x0 x1 x2 x3 a j = g a j := fun a j ha => RO_ne g c x0 x1 x2 x3 (fun k hk => by omega) j
  have e2 : ∀ j, RO g c x0 x1 x2 x3 166 j = g 166 j := fun j => RO_ne g c x0 x1 x2 x3 (fun k hk => by omega) j
  have e3 : ∀ j, RO g c x0 x1 x2 x3 168 j = g 168 j := fun j => RO_ne g c x0 x1 x2 x3 (fun k hk => by omega) j
  have e4 : ∀ j, RO g c x0 x1 x2 x3 167 j = g 167 j := fun j => RO_ne g c x0 x1 x2 x3 (fun k hk => by omega) j
  have e5 : ∀ j, RO g c x0 x1 x2 x3 169 j = g 169 j := fun j => RO_ne g c x0 x1 x2 x3 (fun k hk => by omega) j
  refine ⟨by rw [e 13 5 (by decide), e2]; exact h1, fun i hi => by rw [e _ _ (by omega), e3]; exact h2 i hi, fun i k hi hk => ?_, fun i hi => by rw [e _ _ (by decide), e5]; exact h4 i hi, fun p y hp hy => ?_, fun n hn => ?_⟩
  · rw [e3] at hk
    rw [e _ _ (by omega), e4]
    exact h3 i k hi hk
  · rw [e _ _ (by decide), h5 p y hp hy, e2]
    refine bset_cg (fun i _ => ?_)
    unfold plB
    rw [e3, e4]
  · rw [e _ _ (by decide), h6 n hn, e2]
    refine bset_cg (fun i _ => ?_)
    unfold lnB
    rw [e3]
end RC
/-- what add leaves -/
noncomputable def enX (g : Nat → Nat → Nat) (x1 x2 : Nat → Nat) (p y : Nat) : Bool := enB g (ftX g (up x1 1 (x1 1 + 1)) (up x2 (x1 1) p) (x1 1 + 1)) (x1 1 + 1) y
