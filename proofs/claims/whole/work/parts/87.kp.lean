/-! who knows what: sets of words by the signs, all clauses behind one another -/
def evL (g : Nat → Nat → Nat) (p i : Nat) : List Nat → List Bool → Option (List Bool)
  | [], st => some st
  | t :: r, st => (evT g p i t st).bind (evL g p i r)
theorem evL_app (g : Nat → Nat → Nat) (p i : Nat) : ∀ (a b : List Nat) (st : List Bool), evL g p i (a ++ b) st = (evL g p i a st).bind (evL g p i b) := by
  intro a
  induction a with
  | nil => intro b st; rfl
  | cons t a ih =>
    intro b st
    show (evT g p i t st).bind (evL g p i (a ++ b)) = ((evT g p i t st).bind (evL g p i a)).bind (evL g p i b)
    cases evT g p i t st with
    | none => rfl
    | some s => exact ih b s
def sgR (s : Nat → Nat) (lo k : Nat) : List Nat := (List.range k).map (fun j => s (lo + j))
theorem sgR_s (s : Nat → Nat) (lo k : Nat) : sgR s lo (k + 1) = sgR s lo k ++ [s (lo + k)] := by
  unfold sgR
  rw [List.range_succ, List.map_append]
  rfl
theorem sgR_len (s : Nat → Nat) (lo k : Nat) : (sgR s lo k).length = k := by
  unfold sgR
  rw [List.length_map, List.length_range]
theorem evF_L (g : Nat → Nat → Nat) (p i lo : Nat) : ∀ k, evF g p i lo k = evL g p i (sgR (g 182) lo k) [] := by
  intro k
  induction k with
  | zero => rfl
  | succ k ih =>
    rw [sgR_s, evL_app, ← ih]
    show (evF g p i lo k).bind (evT g p i (g 182 (lo + k))) = (evF g p i lo k).bind (evL g p i [g 182 (lo + k)])
    cases evF g p i lo k with
    | none => rfl
    | some s =>
      show evT g p i (g 182 (lo + k)) s = (evT g p i (g 182 (lo + k)) s).bind (fun st => some st)
      cases evT g p i (g 182 (lo + k)) s <;> rfl
theorem evT_fr {g : Nat → Nat → Nat} {p i t : Nat} {st st' r : List Bool} (h : evT g p i t st = some st') : evT g p i t (st ++ r) = some (st' ++ r) := by
  unfold evT at h ⊢
  by_cases h1 : t = 4294967263
  · rw [if_pos h1] at h ⊢
    cases st with
    | nil => cases h
    | cons b u => cases h; rfl
  · rw [if_neg h1] at h ⊢
    by_cases h2 : t < 2147483648
    · rw [if_pos h2] at h ⊢
      cases h; rfl
    · rw [if_neg h2] at h ⊢
      cases st with
      | nil => cases h
      | cons b u =>
        cases u with
        | nil => cases h
        | cons a u => cases h; rfl
theorem evL_fr {g : Nat → Nat → Nat} {p i : Nat} {r : List Bool} : ∀ {l : List Nat} {st st' : List Bool}, evL g p i l st = some st' → evL g p i l (st ++ r) = some (st' ++ r) := by
  intro l
  induction l with
  | nil => intro st st' h; cases h; rfl
  | cons t l ih =>
    intro st st' h
    unfold evL at h ⊢
    cases e : evT g p i t st with
    | none => rw [e] at h; cases h
    | some s =>
      rw [e] at h
      rw [evT_fr e]
      exact ih h
def htL : List Nat → Nat → Option Nat
  | [], h => some h
  | t :: r, h => (htT t h).bind (htL r)
theorem htL_app : ∀ (a b : List Nat) (h : Nat), htL (a ++ b) h = (htL a h).bind (htL b) := by
  intro a
  induction a with
  | nil => intro b h; rfl
  | cons t a ih =>
    intro b h
    show (htT t h).bind (htL (a ++ b)) = ((htT t h).bind (htL a)).bind (htL b)
    cases htT t h with
    | none => rfl
    | some s => exact ih b s
theorem htF_L (s : Nat → Nat) (lo : Nat) : ∀ k, htF s lo k = htL (sgR s lo k) 0 := by
  intro k
  induction k with
  | zero => rfl
  | succ k ih =>
    rw [sgR_s, htL_app, ← ih]
    show (htF s lo k).bind (htT (s (lo + k))) = (htF s lo k).bind (htL [s (lo + k)])
    cases htF s lo k with
    | none => rfl
    | some h =>
      show htT (s (lo + k)) h = (htT (s (lo + k)) h).bind (fun x => some x)
      cases htT (s (lo + k)) h <;> rfl
theorem htT_sh {t h h' : Nat} (b : Nat) (e : htT t h = some h') : htT t (h + b) = some (h' + b) := by
  unfold htT at e ⊢
  by_cases h1 : t = 4294967263
  · rw [if_pos h1] at e ⊢
    by_cases h2 : 1 ≤ h
    · rw [if_pos h2] at e; cases e; rw [if_pos (by omega)]
    · rw [if_neg h2] at e; cases e
  · rw [if_neg h1] at e ⊢
    by_cases h2 : t = 4294967258 ∨ t = 4294967172
    · rw [if_pos h2] at e ⊢
      by_cases h3 : 2 ≤ h
      · rw [if_pos h3] at e; cases e; rw [if_pos (by omega)]; congr 1; omega
      · rw [if_neg h3] at e; cases e
    · rw [if_neg h2] at e ⊢
      by_cases h3 : t < 6000
      · rw [if_pos h3] at e ⊢; cases e; congr 1; omega
      · rw [if_neg h3] at e; cases e
theorem htL_sh (b : Nat) : ∀ {l : List Nat} {h h' : Nat}, htL l h = some h' → htL l (h + b) = some (h' + b) := by
  intro l
  induction l with
  | nil => intro h h' e; cases e; rfl
  | cons t l ih =>
    intro h h' e
    unfold htL at e ⊢
    cases e1 : htT t h with
    | none => rw [e1] at e; cases e
    | some s =>
      rw [e1] at e
      rw [htT_sh b e1]
      exact ih e
theorem htL_to {l : List Nat} {h m : Nat} (e : htL l h = some m) (k : Nat) : ∃ h', htL (l.take k) h = some h' := by
  have e2 : htL (l.take k ++ l.drop k) h = some m := by rw [List.take_append_drop]; exact e
  rw [htL_app] at e2
  cases e3 : htL (l.take k) h with
  | none => rw [e3] at e2; cases e2
  | some x => exact ⟨x, rfl⟩
theorem evL_ht {g : Nat → Nat → Nat} {p i : Nat} : ∀ {l : List Nat} {st : List Bool} {m : Nat}, htL l st.length = some m → ∃ st', evL g p i l st = some st' ∧ st'.length = m := by
  intro l
  induction l with
  | nil => intro st m e; cases e; exact ⟨st, rfl, rfl⟩
  | cons t l ih =>
    intro st m e
    unfold htL at e
    cases e1 : htT t st.length with
    | none => rw [e1] at e; cases e
    | some h' =>
      rw [e1] at e
      obtain ⟨s, h1, h2⟩ := evT_ht (g := g) (p := p) (i := i) e1
      have e : htL l h' = some m := e
      rw [← h2] at e
      obtain ⟨st', h3, h4⟩ := ih e
      refine ⟨st', ?_, h4⟩
      unfold evL
      rw [h1]
      exact h3
/-- from height h the signs lead to height m, never above b -/
def HB (l : List Nat) (h m b : Nat) : Prop := htL l h = some m ∧ ∀ k h', htL (l.take k) h = some h' → h' ≤ b
theorem HB.app {l1 l2 : List Nat} {h m n b : Nat} (e1 : HB l1 h m b) (e2 : HB l2 m n b) : HB (l1 ++ l2) h n b := by
  refine ⟨by rw [htL_app, e1.1]; exact e2.1, fun k h' e => ?_⟩
  rw [List.take_append, htL_app] at e
  by_cases hk : k ≤ l1.length
  · rw [show k - l1.length = 0 by omega, List.take_zero] at e
    cases e3 : htL (l1.take k) h with
    | none => rw [e3] at e; cases e
    | some x =>
      rw [e3] at e
      cases e
      exact e1.2 k _ e3
  · rw [List.take_of_length_le (by omega : l1.length ≤ k), e1.1] at e
    exact e2.2 _ _ e
theorem HB.sh {l : List Nat} {h m b : Nat} (e : HB l h m b) (c : Nat) : HB l (h + c) (m + c) (b + c) := by
  refine ⟨htL_sh c e.1, fun k h' e2 => ?_⟩
  obtain ⟨x, hx⟩ := htL_to e.1 k
  have := htL_sh c hx
  rw [this] at e2
  cases e2
  have := e.2 k x hx
  omega
theorem HB.up {l : List Nat} {h m b c : Nat} (e : HB l h m b) (hc : b ≤ c) : HB l h m c := ⟨e.1, fun k h' e2 => Nat.le_trans (e.2 k h' e2) hc⟩
theorem HB.or (b : Nat) (hb : 2 ≤ b) : HB [4294967172] 2 1 b := by
  have e : htL [4294967172] 2 = some 1 := by decide
  refine ⟨e, fun k h' e2 => ?_⟩
  cases k with
  | zero => cases e2; exact hb
  | succ k =>
    rw [List.take_succ_cons, List.take_nil, e] at e2
    cases e2
    omega
theorem sgL_R (g : Nat → Nat → Nat) (c : Nat) : sgL g c = sgR (g 182) (g 180 c) (g 181 c - g 180 c) := rfl
theorem sgR_take (s : Nat → Nat) (lo n k : Nat) (h : k ≤ n) : (sgR s lo n).take k = sgR s lo k := by
  unfold sgR
  rw [← List.map_take, List.take_range, Nat.min_eq_left h]
theorem WFc.hb {g : Nat → Nat → Nat} {c : Nat} (h : WFc g c) : HB (sgL g c) 0 1 18 := by
  obtain ⟨_, _, _, h4, h5⟩ := h
  rw [sgL_R]
  refine ⟨by rw [← htF_L]; exact h4, fun k h' e => ?_⟩
  by_cases hk : k ≤ g 181 c - g 180 c
  · rw [sgR_take _ _ _ _ hk, ← htF_L] at e
    exact h5 k h' hk e
  · rw [List.take_of_length_le (by rw [sgR_len]; omega), ← htF_L, h4] at e
    cases e
    omega
theorem HB.ne {l : List Nat} {b : Nat} (h : HB l 0 1 b) : l ≠ [] := fun e => by
  rw [e] at h
  have := h.1
  cases this
/-- the clauses behind one another -/
theorem kcL_hb {g : Nat → Nat → Nat} {o : Nat} : ∀ n, (∀ j, j < n → g 178 (o + j) = 0 → WFc g (o + j)) → (kcL g o n = [] ∧ ∀ j, j < n → g 178 (o + j) ≠ 0) ∨ HB (kcL g o n) 0 1 19 := by
  intro n
  induction n with
  | zero => intro _; exact Or.inl ⟨rfl, fun j hj => absurd hj (Nat.not_lt_zero _)⟩
  | succ n ih =>
    intro hw
    have hi := ih (fun j hj => hw j (by omega))
    unfold kcL
    by_cases h : g 178 (o + n) = 0
    · rw [if_pos h]
      have hb := (hw n (by omega) h).hb
      rcases hi with ⟨e, _⟩ | e
      · rw [e, if_pos (show ([] : List Nat).isEmpty = true from rfl)]
        exact Or.inr (hb.up (by decide))
      · right
        have : (kcL g o n).isEmpty = false := by
          cases e2 : kcL g o n with
          | nil => exact absurd e2 e.ne
          | cons x y => rfl
        rw [this, if_neg (by decide)]
        exact e.app ((hb.sh 1).app (HB.or 19 (by decide)))
    · rw [if_neg h]
      rcases hi with ⟨e, e2⟩ | e
      · exact Or.inl ⟨e, fun j hj => by
          by_cases q : j = n
          · rw [q]; exact h
          · exact e2 j (by omega)⟩
      · exact Or.inr e
theorem kcL_no {g : Nat → Nat → Nat} {o : Nat} : ∀ {n : Nat}, (∀ j, j < n → g 178 (o + j) ≠ 0) → kcL g o n = [] := by
  intro n
  induction n with
  | zero => intro _; rfl
  | succ n ih =>
    intro h
    unfold kcL
    rw [if_neg (h n (by omega))]
    exact ih (fun j hj => h j (by omega))
theorem hld_ev {g : Nat → Nat → Nat} {c p i : Nat} (h : WFc g c) : evL g p i (sgL g c) [] = some [hldS g c p i] := by
  have h4 := h.2.2.2.1
  obtain ⟨st, h1, h2⟩ := evF_ht (g := g) (p := p) (i := i) h4
  rw [sgL_R, ← evF_L, h1]
  unfold hldS
  rw [h1]
  cases st with
  | nil => cases h2
  | cons b r =>
    cases r with
    | nil => rfl
    | cons a r => exact absurd h2 (by show ¬ (r.length + 1 + 1 = 1); omega)
theorem kcL_ev {g : Nat → Nat → Nat} {o p i : Nat} : ∀ n, (∀ j, j < n → g 178 (o + j) = 0 → WFc g (o + j)) → kcL g o n ≠ [] → ∃ b, evL g p i (kcL g o n) [] = some [b] ∧ (b = true ↔ ∃ j, j < n ∧ g 178 (o + j) = 0 ∧ hldS g (o + j) p i = true) := by
  intro n
  induction n with
  | zero => intro _ h; exact absurd rfl h
  | succ n ih =>
    intro hw hne
    have hwn : ∀ j, j < n → g 178 (o + j) = 0 → WFc g (o + j) := fun j hj => hw j (by omega)
    unfold kcL at hne ⊢
    by_cases h : g 178 (o + n) = 0
    · rw [if_pos h]
      have hev := hld_ev (p := p) (i := i) (hw n (by omega) h)
      rcases kcL_hb n hwn with ⟨e, e2⟩ | e
      · rw [e, if_pos (show ([] : List Nat).isEmpty = true from rfl)]
        refine ⟨_, hev, fun z => ⟨n, by omega, h, z⟩, fun z => ?_⟩
        obtain ⟨j, h1, h2, h3⟩ := z
        by_cases q : j = n
        · rw [q] at h3; exact h3
        · exact absurd h2 (e2 j (by omega))
      · have : (kcL g o n).isEmpty = false := by
          cases e2 : kcL g o n with
          | nil => exact absurd e2 e.ne
          | cons x y => rfl
        rw [this, if_neg (by decide)]
        obtain ⟨b, h1, h2⟩ := ih hwn e.ne
        refine ⟨b || hldS g (o + n) p i, ?_, ?_⟩
        · rw [evL_app, h1]
          show evL g p i (sgL g (o + n) ++ [4294967172]) [b] = _
          have := evL_fr (r := [b]) hev
          rw [evL_app, show ([b] : List Bool) = [] ++ [b] from rfl, this]
          rfl
        · rw [Bool.or_eq_true, h2]
          refine ⟨fun z => ?_, fun z => ?_⟩
          · rcases z with ⟨j, a, b', c⟩ | z
            · exact ⟨j, by omega, b', c⟩
            · exact ⟨n, by omega, h, z⟩
          · obtain ⟨j, a, b', c⟩ := z
            by_cases q : j = n
            · right; rw [q] at c; exact c
            · left; exact ⟨j, by omega, b', c⟩
    · rw [if_neg h] at hne ⊢
      obtain ⟨b, h1, h2⟩ := ih hwn hne
      refine ⟨b, h1, h2.trans ⟨fun z => ?_, fun z => ?_⟩⟩
      · obtain ⟨j, a, b', c⟩ := z
        exact ⟨j, by omega, b', c⟩
      · obtain ⟨j, a, b', c⟩ := z
        by_cases q : j = n
        · rw [q] at b'; exact absurd b' h
        · exact ⟨j, by omega, b', c⟩
/-- the same on sets of words -/
def tsS (g : Nat → Nat → Nat) (p t : Nat) : Nat := bset (fun i => tstS (factS g (t / 1000) p i) t) (g 166 0)
def seT (g : Nat → Nat → Nat) (p t : Nat) (st : List Nat) : Option (List Nat) :=
  if t = 4294967263 then (match st with
    | b :: r => some ((allS g &&& (b ^^^ 4294967295)) :: r)
    | [] => none)
  else if t < 2147483648 then some (tsS g p t :: st)
  else match st with
    | b :: a :: r => some ((if t = 4294967258 then a &&& b else a ||| b) :: r)
    | _ => none
def seL (g : Nat → Nat → Nat) (p : Nat) : List Nat → List Nat → Option (List Nat)
  | [], st => some st
  | t :: r, st => (seT g p t st).bind (seL g p r)
theorem seL_app (g : Nat → Nat → Nat) (p : Nat) : ∀ (a b : List Nat) (st : List Nat), seL g p (a ++ b) st = (seL g p a st).bind (seL g p b) := by
  intro a
  induction a with
  | nil => intro b st; rfl
  | cons t a ih =>
    intro b st
    show (seT g p t st).bind (seL g p (a ++ b)) = ((seT g p t st).bind (seL g p a)).bind (seL g p b)
    cases seT g p t st with
    | none => rfl
    | some s => exact ih b s
theorem all1_tb : ∀ i, i < 32 → (4294967295 : Nat).testBit i = true := by decide
theorem seT_tb {g : Nat → Nat → Nat} (hW : g 166 0 ≤ 12) {p t : Nat} {S S' : List Nat} (h : seT g p t S = some S') {i : Nat} (hi : i < g 166 0) : evT g p i t (S.map (fun s => s.testBit i)) = some (S'.map (fun s => s.testBit i)) := by
  unfold seT at h
  unfold evT
  by_cases h1 : t = 4294967263
  · rw [if_pos h1] at h ⊢
    cases S with
    | nil => cases h
    | cons b r =>
      cases h
      show some ((!b.testBit i) :: r.map (fun s => s.testBit i)) = some ((allS g &&& (b ^^^ 4294967295)).testBit i :: r.map (fun s => s.testBit i))
      rw [Nat.testBit_and, Nat.testBit_xor, allS_tb, decide_eq_true hi, all1_tb i (by omega), Bool.true_and, Bool.xor_true]
  · rw [if_neg h1] at h ⊢
    by_cases h2 : t < 2147483648
    · rw [if_pos h2] at h ⊢
      cases h
      show some (tstS (factS g (t / 1000) p i) t :: S.map (fun s => s.testBit i)) = some ((tsS g p t).testBit i :: S.map (fun s => s.testBit i))
      unfold tsS
      rw [bset_tb, decide_eq_true hi, Bool.true_and]
    · rw [if_neg h2] at h ⊢
      cases S with
      | nil => cases h
      | cons b r =>
        cases r with
        | nil => cases h
        | cons a r =>
          cases h
          show some ((if t = 4294967258 then a.testBit i && b.testBit i else a.testBit i || b.testBit i) :: r.map (fun s => s.testBit i)) = some ((if t = 4294967258 then a &&& b else a ||| b).testBit i :: r.map (fun s => s.testBit i))
          split
          · rw [Nat.testBit_and]
          · rw [Nat.testBit_or]
theorem seL_tb {g : Nat → Nat → Nat} (hW : g 166 0 ≤ 12) {p i : Nat} (hi : i < g 166 0) : ∀ {l S S' : List Nat}, seL g p l S = some S' → evL g p i l (S.map (fun s => s.testBit i)) = some (S'.map (fun s => s.testBit i)) := by
  intro l
  induction l with
  | nil => intro S S' h; cases h; rfl
  | cons t l ih =>
    intro S S' h
    unfold seL at h
    unfold evL
    cases e : seT g p t S with
    | none => rw [e] at h; cases h
    | some s =>
      rw [e] at h
      rw [seT_tb hW e hi]
      exact ih h
theorem seT_ht {g : Nat → Nat → Nat} {p t h : Nat} {S : List Nat} (e : htT t S.length = some h) : ∃ S', seT g p t S = some S' ∧ S'.length = h := by
  unfold htT at e
  unfold seT
  by_cases h1 : t = 4294967263
  · rw [if_pos h1] at e ⊢
    cases S with
    | nil => cases e
    | cons b r =>
      rw [if_pos (by show 1 ≤ r.length + 1; omega)] at e
      cases e
      exact ⟨_, rfl, rfl⟩
  · rw [if_neg h1] at e ⊢
    by_cases h2 : t = 4294967258 ∨ t = 4294967172
    · rw [if_pos h2] at e
      rw [if_neg (by omega)]
      cases S with
      | nil => cases e
      | cons b r =>
        cases r with
        | nil => cases e
        | cons a r =>
          rw [if_pos (by show 2 ≤ r.length + 1 + 1; omega)] at e
          cases e
          exact ⟨_, rfl, rfl⟩
    · rw [if_neg h2] at e
      by_cases h3 : t < 6000
      · rw [if_pos h3] at e
        rw [if_pos (by omega)]
        cases e
        exact ⟨_, rfl, rfl⟩
      · rw [if_neg h3] at e; cases e
/-- sets of words alone -/
def SW (W : Nat) (S : List Nat) : Prop := ∀ s ∈ S, s < 2 ^ W
theorem seT_w {g : Nat → Nat → Nat} {p t : Nat} {S S' : List Nat} (h : seT g p t S = some S') (hw : SW (g 166 0) S) : SW (g 166 0) S' := by
  unfold seT at h
  by_cases h1 : t = 4294967263
  · rw [if_pos h1] at h
    cases S with
    | nil => cases h
    | cons b r =>
      cases h
      intro s hs
      rw [List.mem_cons] at hs
      rcases hs with rfl | hs
      · have h1 : allS g < 2 ^ g 166 0 := by unfold allS; have := Nat.two_pow_pos (g 166 0); omega
        exact Nat.lt_of_le_of_lt Nat.and_le_left h1
      · exact hw s (List.mem_cons_of_mem _ hs)
  · rw [if_neg h1] at h
    by_cases h2 : t < 2147483648
    · rw [if_pos h2] at h
      cases h
      intro s hs
      rw [List.mem_cons] at hs
      rcases hs with rfl | hs
      · exact bset_lt _ _
      · exact hw s hs
    · rw [if_neg h2] at h
      cases S with
      | nil => cases h
      | cons b r =>
        cases r with
        | nil => cases h
        | cons a r =>
          cases h
          have ha := hw a (List.mem_cons_of_mem _ List.mem_cons_self)
          have hb := hw b List.mem_cons_self
          intro s hs
          rw [List.mem_cons] at hs
          rcases hs with rfl | hs
          · split
            · exact Nat.lt_of_le_of_lt Nat.and_le_left ha
            · exact Nat.or_lt_two_pow ha hb
          · exact hw s (List.mem_cons_of_mem _ (List.mem_cons_of_mem _ hs))
theorem seL_w {g : Nat → Nat → Nat} {p : Nat} : ∀ {l S S' : List Nat}, seL g p l S = some S' → SW (g 166 0) S → SW (g 166 0) S' := by
  intro l
  induction l with
  | nil => intro S S' h hw; cases h; exact hw
  | cons t l ih =>
    intro S S' h hw
    unfold seL at h
    cases e : seT g p t S with
    | none => rw [e] at h; cases h
    | some s =>
      rw [e] at h
      exact ih h (seT_w e hw)
/-- the set that the signs of a table tell is what is known -/
theorem kn_eq {g : Nat → Nat → Nat} (hI : MI g) (hlr : g 166 33 = 4294967295) (hK : KW g) {p s : Nat} (hp : p < 5) (hk : g 171 p ≠ 5) (hne : kcL g (fC g) (nC g) ≠ []) (h : seL g p (kcL g (fC g) (nC g)) [] = some [s]) : s = knS g p := by
  have hW := hI.hW
  refine nat_tb_ext fun i => ?_
  unfold knS
  rw [bset_tb]
  by_cases hi : i < g 166 0
  · rw [decide_eq_true hi, Bool.true_and]
    have h1 := seL_tb hW hi h
    obtain ⟨b, h2, h3⟩ := kcL_ev (p := p) (i := i) (nC g) hK hne
    have h1 : evL g p i (kcL g (fC g) (nC g)) [] = some [s.testBit i] := h1
    rw [h2] at h1
    cases h1
    have hno : ¬ ∀ j, j < nC g → g 178 (fC g + j) ≠ 0 := fun z => by
      rcases kcL_hb (g := g) (o := fC g) (nC g) hK with ⟨e, _⟩ | e
      · exact hne e
      · exact hne (kcL_no z)
    unfold kwS
    by_cases q : ∃ j, j < nC g ∧ g 178 (fC g + j) = 0 ∧ hldS g (fC g + j) p i = true
    · rw [h3.mpr q]
      exact (dc_t (Or.inr (Or.inr (Or.inl q)))).symm
    · have : s.testBit i = false := by
        cases e : s.testBit i with
        | false => rfl
        | true => exact absurd (h3.mp e) q
      rw [this]
      refine (dc_f (fun z => ?_)).symm
      rcases z with z | z | z | z
      · exact hk z
      · omega
      · exact q z
      · exact hno z
  · rw [decide_eq_false hi, Bool.false_and]
    have hs : s < 2 ^ g 166 0 := seL_w h (fun s hs => by cases hs) s List.mem_cons_self
    exact Nat.testBit_lt_two_pow (Nat.lt_of_lt_of_le hs (Nat.pow_le_pow_right (by decide) (by omega)))
theorem kn_all {g : Nat → Nat → Nat} {p : Nat} (h : g 171 p = 5 ∨ kcL g (fC g) (nC g) = [] ∧ KW g) : knS g p = allS g := by
  refine nat_tb_ext fun i => ?_
  unfold knS
  rw [bset_tb, allS_tb]
  by_cases hi : i < g 166 0
  · rw [decide_eq_true hi, Bool.true_and]
    unfold kwS
    refine dc_t ?_
    rcases h with h | ⟨h, hK⟩
    · exact Or.inl h
    · rcases kcL_hb (g := g) (o := fC g) (nC g) hK with ⟨_, e⟩ | e
      · exact Or.inr (Or.inr (Or.inr e))
      · exact absurd h e.ne
  · rw [decide_eq_false hi]; rfl
