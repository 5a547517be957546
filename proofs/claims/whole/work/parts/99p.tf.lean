/-! the whole text: clauses one after another -/
/-- c clauses are read, the next begins at p -/
def ST (g : Nat → Nat → Nat) (b c p : Nat) (l0 : List Nat) (cs : List C4) (lk : List Nat) (le li : Nat) : Prop := c < 10 ∧ cs.length = c ∧ CSR b l0 cs lk le li ∧ p ≤ g 166 17 ∧ lk.length ≤ p ∧ goF g b 10 0 [] [] = goF g b (10 - c) p l0 cs
/-- c clauses are read, the last ended at q -/
def AS (g : Nat → Nat → Nat) (b c q : Nat) (l0 : List Nat) (cs : List C4) (lk : List Nat) (le li : Nat) : Prop := 1 ≤ c ∧ c ≤ 10 ∧ cs.length = c ∧ CSR b l0 cs lk le li ∧ q ≤ g 166 17 ∧ lk.length ≤ q ∧ goF g b 10 0 [] [] = if q = g 166 17 then (true, q, l0, cs) else if c = 10 then (false, q, l0, cs) else if pkS g q = 59 then goF g b (10 - c) (q + 1) l0 cs else (false, q, l0, cs)
theorem ST.nil (g : Nat → Nat → Nat) (b : Nat) : ST g b 0 0 [] [] [] 3 3 := ⟨by decide, rfl, CSR.nil b, Nat.zero_le _, Nat.le_refl _, rfl⟩
theorem goF_ok {g : Nat → Nat → Nat} {b m p q kd mm : Nat} {l l2 : List Nat} (cs : List C4) (h : clS g p l = (true, q, l2, kd, mm)) : goF g b (m + 1) p l cs = if q = g 166 17 then (true, q, l2, cs ++ [(kd, mm, b + l.length, b + l2.length)]) else if m = 0 then (false, q, l2, cs ++ [(kd, mm, b + l.length, b + l2.length)]) else if pkS g q = 59 then goF g b m (q + 1) l2 (cs ++ [(kd, mm, b + l.length, b + l2.length)]) else (false, q, l2, cs ++ [(kd, mm, b + l.length, b + l2.length)]) := by
  rw [goF, h]
  exact if_pos rfl
theorem goF_no {g : Nat → Nat → Nat} {b m p q kd mm : Nat} {l l2 : List Nat} (cs : List C4) (h : clS g p l = (false, q, l2, kd, mm)) : goF g b (m + 1) p l cs = (false, q, l2, cs) := by
  rw [goF, h]
  exact if_neg (by decide)
section GO
variable {g : Nat → Nat → Nat} {b c p q : Nat} {l0 : List Nat} {cs : List C4} {lk : List Nat} {le li : Nat}
theorem ST.as {kd mm : Nat} {l2 lk2 : List Nat} {le2 li2 : Nat} (h : ST g b c p l0 cs lk le li) (e : clS g p l0 = (true, q, l2, kd, mm)) (hq : q ≤ g 166 17) (k : CSR b l2 (cs ++ [(kd, mm, b + l0.length, b + l2.length)]) lk2 le2 li2) (hl : lk2.length ≤ q) : AS g b (c + 1) q l2 (cs ++ [(kd, mm, b + l0.length, b + l2.length)]) lk2 le2 li2 := by
  obtain ⟨h1, h2, h3, h4, h5, h6⟩ := h
  refine ⟨by omega, by omega, by rw [List.length_append, h2]; rfl, k, hq, hl, ?_⟩
  rw [h6, show 10 - c = (10 - (c + 1)) + 1 by omega, goF_ok cs e]
  by_cases z : c + 1 = 10
  · rw [if_pos z, if_pos (show 10 - (c + 1) = 0 by omega)]
  · rw [if_neg z, if_neg (show ¬ 10 - (c + 1) = 0 by omega)]
theorem ST.x (h : ST g b c p l0 cs lk le li) (k : KFx g p q) : ∃ l2 cs2, goF g b 10 0 [] [] = (false, q, l2, cs2) := by
  obtain ⟨h1, h2, h3, h4, h5, h6⟩ := h
  obtain ⟨l2, kd, mm, e⟩ := k.1 l0
  exact ⟨l2, cs, by rw [h6, show 10 - c = (9 - c) + 1 by omega, goF_no cs e]⟩
theorem AS.go (h : AS g b c q l0 cs lk le li) (h1 : q < g 166 17) (h2 : c < 10) (h3 : pkS g q = 59) : ST g b c (q + 1) l0 cs lk le li := by
  obtain ⟨a1, a2, a3, a4, a5, a6, a7⟩ := h
  refine ⟨h2, a3, a4, by omega, by omega, ?_⟩
  rw [a7, if_neg (by omega), if_neg (by omega), if_pos h3]
theorem AS.fin (h : AS g b c q l0 cs lk le li) (h1 : q = g 166 17) : goF g b 10 0 [] [] = (true, q, l0, cs) := by
  rw [h.2.2.2.2.2.2, if_pos h1]
theorem AS.x (h : AS g b c q l0 cs lk le li) (h1 : q < g 166 17) (h2 : c = 10 ∨ ¬ pkS g q = 59) : goF g b 10 0 [] [] = (false, q, l0, cs) := by
  rw [h.2.2.2.2.2.2, if_neg (by omega)]
  by_cases z : c = 10
  · rw [if_pos z]
  · rcases h2 with y | y
    · exact absurd y z
    · rw [if_neg z, if_neg y]
theorem ST.kn {lx : List Nat} (h : ST g b c p l0 cs lk le li) (k : KKn g p q lx) (lk2 : List Nat) (e : lk2 = if lk.isEmpty = true then lx else lk ++ (lx ++ [4294967172])) : AS g b (c + 1) q (l0 ++ lx) (cs ++ [(0, 0, b + l0.length, b + (l0 ++ lx).length)]) lk2 le li := by
  obtain ⟨k1, k2, k3, k4, k5⟩ := k
  have h5 := h.2.2.2.2.1
  have sr : SR lk2 := by
    rw [e]
    split
    · exact k3
    · exact h.2.2.1.2.2.2.2.app (k3.app (SR.one (fun z => by omega)))
  refine h.as (k1 l0) k5 (h.2.2.1.more (0, 0, b + l0.length, b + (l0 ++ lx).length) lx (fun _ => ⟨rfl, rfl, k2⟩) lk2 (by rw [e]; exact (if_pos rfl).symm) sr) ?_
  rw [e]
  split
  · omega
  · rw [List.length_append, List.length_append]
    show lk.length + (lx.length + 1) ≤ q
    omega
theorem ST.nu {kd m : Nat} (h : ST g b c p l0 cs lk le li) (h0 : kd ≠ 0) (k : KNu g p q kd m) : AS g b (c + 1) q l0 (cs ++ [(kd, m, b + l0.length, b + l0.length)]) lk (if kd = 1 then m else le) (if kd = 2 then m else li) := by
  have h5 := h.2.2.2.2.1
  have z := h.2.2.1.more (kd, m, b + l0.length, b + l0.length) [] (fun z => absurd z h0) lk (if_neg h0).symm h.2.2.1.2.2.2.2
  rw [List.append_nil] at z
  exact h.as (k.1 l0) k.2.2.1 z (by have := k.2.1; omega)
end GO
theorem isE {lk lx : List Nat} (h : lk.length = 0) : lk ++ lx = if lk.isEmpty = true then lx else lk ++ (lx ++ [4294967172]) := by
  cases lk with
  | nil => rfl
  | cons a t => cases h
theorem isE2 {lk lx : List Nat} (h : ¬ lk.length = 0) (h2 : (lk ++ lx).length < 100) : plT (lk ++ lx) 4294967172 = if lk.isEmpty = true then lx else lk ++ (lx ++ [4294967172]) := by
  rw [plT_lt h2, List.append_assoc]
  cases lk with
  | nil => exact absurd rfl h
  | cons a t => rfl
