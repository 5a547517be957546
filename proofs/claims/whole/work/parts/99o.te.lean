/-! clauses one after another: what the class keeps of them, what the reference keeps -/
abbrev C4 : Type := Nat × Nat × Nat × Nat
def c4 (cs : List C4) (n : Nat) : C4 := cs.getD n (0, 0, 0, 0)
theorem c4_app (cs ds : List C4) {n : Nat} (h : n < cs.length) : c4 (cs ++ ds) n = c4 cs n := by
  unfold c4
  exact getD_apl _ _ h
theorem c4_new (cs : List C4) (x : C4) : c4 (cs ++ [x]) cs.length = x := by
  unfold c4
  exact getD_apr _ _ _
def sgN (cs : List C4) (l0 : List Nat) (b n : Nat) : List Nat := (l0.drop ((c4 cs n).2.2.1 - b)).take ((c4 cs n).2.2.2 - (c4 cs n).2.2.1)
def kcN (cs : List C4) (l0 : List Nat) (b : Nat) : Nat → List Nat
  | 0 => []
  | n + 1 => if (c4 cs n).1 = 0 then (if (kcN cs l0 b n).isEmpty = true then sgN cs l0 b n else kcN cs l0 b n ++ (sgN cs l0 b n ++ [4294967172])) else kcN cs l0 b n
def lwN (cs : List C4) (k : Nat) : Nat → Nat
  | 0 => 3
  | n + 1 => if (c4 cs n).1 = k then (c4 cs n).2.1 else lwN cs k n
def CSR (b : Nat) (l0 : List Nat) (cs : List C4) (lk : List Nat) (le li : Nat) : Prop := lk = kcN cs l0 b cs.length ∧ le = lwN cs 1 cs.length ∧ li = lwN cs 2 cs.length ∧ (∀ n, n < cs.length → (c4 cs n).1 = 0 → b ≤ (c4 cs n).2.2.1 ∧ (c4 cs n).2.2.1 ≤ (c4 cs n).2.2.2 ∧ (c4 cs n).2.2.2 ≤ b + l0.length ∧ HB (sgN cs l0 b n) 0 1 11) ∧ SR lk
theorem CSR.nil (b : Nat) : CSR b [] [] [] 3 3 := ⟨rfl, rfl, rfl, fun n hn => absurd hn (Nat.not_lt_zero _), SR.nil⟩
theorem sgN_app {cs : List C4} {l0 : List Nat} {b n : Nat} (ds : List C4) (lx : List Nat) (hn : n < cs.length) (h1 : b ≤ (c4 cs n).2.2.1) (h3 : (c4 cs n).2.2.2 ≤ b + l0.length) (h2 : (c4 cs n).2.2.1 ≤ (c4 cs n).2.2.2) : sgN (cs ++ ds) (l0 ++ lx) b n = sgN cs l0 b n := by
  unfold sgN
  rw [c4_app cs ds hn, List.drop_append_of_le_length (by omega), List.take_append_of_le_length (by rw [List.length_drop]; omega)]
theorem kcN_app {b : Nat} {l0 : List Nat} {cs : List C4} {lk : List Nat} {le li : Nat} (h : CSR b l0 cs lk le li) (ds : List C4) (lx : List Nat) : ∀ n, n ≤ cs.length → kcN (cs ++ ds) (l0 ++ lx) b n = kcN cs l0 b n := by
  intro n
  induction n with
  | zero => intro _; rfl
  | succ n ih =>
    intro hn
    have e := ih (by omega)
    unfold kcN
    rw [c4_app cs ds (by omega), e]
    by_cases h0 : (c4 cs n).1 = 0
    · obtain ⟨a1, a2, a3, _⟩ := h.2.2.2.1 n (by omega) h0
      rw [if_pos h0, if_pos h0, sgN_app ds lx (by omega) a1 a3 a2]
    · rw [if_neg h0, if_neg h0]
theorem lwN_app (cs ds : List C4) (k : Nat) : ∀ n, n ≤ cs.length → lwN (cs ++ ds) k n = lwN cs k n := by
  intro n
  induction n with
  | zero => intro _; rfl
  | succ n ih =>
    intro hn
    unfold lwN
    rw [c4_app cs ds (by omega), ih (by omega)]
theorem CSR.more {b : Nat} {l0 : List Nat} {cs : List C4} {lk : List Nat} {le li : Nat} (h : CSR b l0 cs lk le li) (x : C4) (lx : List Nat) (hs : x.1 = 0 → x.2.2.1 = b + l0.length ∧ x.2.2.2 = b + (l0 ++ lx).length ∧ HB lx 0 1 11) (lk2 : List Nat) (h2 : lk2 = if x.1 = 0 then (if lk.isEmpty = true then lx else lk ++ (lx ++ [4294967172])) else lk) (h3 : SR lk2) : CSR b (l0 ++ lx) (cs ++ [x]) lk2 (if x.1 = 1 then x.2.1 else le) (if x.1 = 2 then x.2.1 else li) := by
  have el : (cs ++ [x]).length = cs.length + 1 := by rw [List.length_append]; rfl
  have sg : x.1 = 0 → sgN (cs ++ [x]) (l0 ++ lx) b cs.length = lx := fun z => by
    obtain ⟨a1, a2, _⟩ := hs z
    unfold sgN
    rw [c4_new, a1, a2, List.length_append, show b + l0.length - b = l0.length by omega, List.drop_append_of_le_length (Nat.le_refl _), List.drop_length, List.nil_append, show b + (l0.length + lx.length) - (b + l0.length) = lx.length by omega, List.take_length]
  obtain ⟨k1, k2, k3, k4, k5⟩ := h
  have hh : CSR b l0 cs lk le li := ⟨k1, k2, k3, k4, k5⟩
  refine ⟨?_, ?_, ?_, fun n hn h0 => ?_, h3⟩
  · rw [el, h2]
    unfold kcN
    rw [c4_new, kcN_app hh [x] lx _ (Nat.le_refl _), ← k1]
    by_cases z : x.1 = 0
    · rw [if_pos z, if_pos z, sg z]
    · rw [if_neg z, if_neg z]
  · rw [el]
    unfold lwN
    rw [c4_new, lwN_app cs [x] 1 _ (Nat.le_refl _), ← k2]
  · rw [el]
    unfold lwN
    rw [c4_new, lwN_app cs [x] 2 _ (Nat.le_refl _), ← k3]
  · rw [el] at hn
    by_cases e : n = cs.length
    · subst e
      rw [c4_new] at h0 ⊢
      obtain ⟨a1, a2, a3⟩ := hs h0
      rw [sg h0, a1, a2, List.length_append]
      exact ⟨by omega, by omega, by omega, a3⟩
    · have hn2 : n < cs.length := by omega
      rw [c4_app cs [x] hn2] at h0 ⊢
      obtain ⟨a1, a2, a3, a4⟩ := k4 n hn2 h0
      rw [sgN_app [x] lx hn2 a1 a3 a2, List.length_append]
      exact ⟨a1, a2, by omega, a4⟩
