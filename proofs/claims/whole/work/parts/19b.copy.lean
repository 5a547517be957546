/-! copies of rows -/
/-- n places of a cell from lo on, as src has them -/
def cpR (g : Nat → Nat → Nat) (c lo n : Nat) (src : Nat → Nat) : Nat → Nat → Nat := fun a b => if a = c then (if lo ≤ b ∧ b < lo + n then src (b - lo) else g c b) else g a b
theorem cpR_s (g : Nat → Nat → Nat) (c lo n : Nat) (src : Nat → Nat) : u2 (cpR g c lo n src) c (lo + n) (src n) = cpR g c lo (n + 1) src := by
  funext a b
  unfold u2 cpR
  by_cases ha : a = c
  · subst ha
    simp only [if_true]
    by_cases hb : b = lo + n
    · subst hb
      rw [if_pos rfl, if_pos (by omega), Nat.add_sub_cancel_left]
    · rw [if_neg hb]
      by_cases h1 : lo ≤ b ∧ b < lo + n
      · rw [if_pos h1, if_pos (by omega)]
      · rw [if_neg h1, if_neg (by omega)]
  · simp only [if_neg ha]
theorem cpR_0 (g : Nat → Nat → Nat) (c lo : Nat) (src : Nat → Nat) : cpR g c lo 0 src = g := by
  funext a b
  unfold cpR
  by_cases ha : a = c
  · subst ha
    rw [if_pos rfl, if_neg (by omega)]
  · rw [if_neg ha]
theorem nI_tI {a : Nat} (ha : a < 2 ^ 32) : (nI a).toInt = if a < 2 ^ 31 then (a : Int) else (a : Int) - 2 ^ 32 := by
  have h2 : (nI a).toInt = (nI a).toBitVec.toInt := rfl
  rw [h2, BitVec.toInt_eq_toNat_cond, nI_toN, Nat.mod_eq_of_lt ha]
  by_cases h : a < 2 ^ 31
  · rw [if_pos (by omega), if_pos h]
  · rw [if_neg (by omega), if_neg h]
    rfl
theorem nI_ltU0 {a : Nat} (ha : a < 2 ^ 32) : nI a < 0 ↔ 2147483648 ≤ a := by
  rw [Int32.lt_iff_toInt_lt, nI_tI ha, Int32.toInt_zero]
  split <;> omega
theorem nI_geU0 {a : Nat} (ha : a < 2 ^ 32) : 0 ≤ nI a ↔ a < 2147483648 := by
  rw [Int32.le_iff_toInt_le, nI_tI ha, Int32.toInt_zero]
  split <;> omega
theorem sw_out {x hi : Nat} (hx : x < 2 ^ 32) (hh : hi < 2 ^ 31) (h : hi < x) : (nI x).toInt < 0 ∨ (hi : Int) < (nI x).toInt := by
  rw [nI_tI hx]
  split <;> omega
theorem Ev_tsOut {L : Nat} {xs : Nat → Int32} {d q pc : Nat} {lv : Lv} {st : List Value} {h : Hp} {Q : Option Value → Hp → Prop} {x : Int32} {dflt lo hi : Int} {offs : Array Int} {n tgt : Nat} (he : atI q pc = some (.tableswitch dflt lo hi offs, n)) (hx : x.toInt < lo ∨ hi < x.toInt) (ht : (pc : Int) + dflt = (tgt : Int)) (kk : Ev L xs d q tgt lv st h Q) : Ev L xs d q pc lv (.int x :: st) h Q := by
  refine Ev.at1 he (fun _ => rfl) (c := (tgt, lv, st, h)) (fun a b t p => ?_) kk
  have e1 : tsw pc dflt lo hi offs x = some ((pc : Int) + dflt) := if_pos hx
  show (match (match tsw pc dflt lo hi offs x with | some t => if 0 ≤ t then some (t.toNat, st) else none | none => none) with | some c => some (c.1, lv, c.2, h) | none => (match stD L xs d (.tableswitch dflt lo hi offs) a b t p (.int x :: st) h with | some c => some (pc + n, lv, c.1, c.2) | none => none)) = _
  rw [e1, ht]
  dsimp only
  rw [if_pos (Int.natCast_nonneg tgt)]
  rfl
