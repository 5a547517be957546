/-! both sides' books: the same rows fit, go on, end, are won -/
theorem and_ne0 {a b : Nat} : a &&& b ≠ 0 ↔ ∃ k, a.testBit k = true ∧ b.testBit k = true := by
  constructor
  · intro h
    obtain ⟨k, hk⟩ : ∃ k, (a &&& b).testBit k = true := by
      refine Classical.byContradiction fun z => h (nat_tb_ext fun k => ?_)
      rw [Nat.zero_testBit, ← Bool.not_eq_true]
      exact fun y => z ⟨k, y⟩
    rw [Nat.testBit_and, Bool.and_eq_true] at hk
    exact ⟨k, hk⟩
  · rintro ⟨k, h1, h2⟩ z
    have h3 : (a &&& b).testBit k = true := by rw [Nat.testBit_and, h1, h2]; rfl
    rw [z, Nat.zero_testBit] at h3
    cases h3
theorem dcn0 {a b : Nat} : (!decide (a &&& b = 0)) = dc (∃ k, a.testBit k = true ∧ b.testBit k = true) := by
  by_cases h : a &&& b = 0
  · rw [decide_eq_true h, dc_f (fun z => and_ne0.mpr z h)]; rfl
  · rw [decide_eq_false h, dc_t (and_ne0.mp h)]; rfl
theorem dc_e {p : Prop} {b : Bool} (h : p ↔ b = true) : dc p = b := by
  cases b with
  | true => exact dc_t (h.mpr rfl)
  | false => exact dc_f (fun z => Bool.false_ne_true (h.mp z))
theorem bool_ext {a b : Bool} (h : a = true ↔ b = true) : a = b := by
  cases a <;> cases b
  · rfl
  · exact (h.mpr rfl)
  · exact (h.mp rfl).symm
  · rfl
theorem fit_and (g : Nat → Nat → Nat) (r : Nat → Nat) (n s : Nat) : bset (ft g r n) (g 166 0) &&& s = fitA g r n s := by
  refine nat_tb_ext fun k => ?_
  unfold fitA
  rw [Nat.testBit_and, bset_tb, bset_tb]
  cases decide (k < g 166 0) <;> cases ft g r n k <;> cases s.testBit k <;> rfl
theorem fit_all (g : Nat → Nat → Nat) (r : Nat → Nat) (n : Nat) : fitA g r n (allS g) = bset (ft g r n) (g 166 0) := by
  rw [← fit_and]
  refine nat_tb_ext fun k => ?_
  rw [Nat.testBit_and, bset_tb, allS_tb]
  cases decide (k < g 166 0) <;> cases ft g r n k <;> rfl
theorem fit_pl (g : Nat → Nat → Nat) (r : Nat → Nat) (n y : Nat) : bset (ft g r n) (g 166 0) &&& bset (plB g n y) (g 166 0) = bset (ft g (up r n y) (n + 1)) (g 166 0) := by
  rw [bset_and]
  refine bset_cg (fun i _ => ?_)
  rw [ft_s, show up r n y n = y from if_pos rfl, ft_cg (r := up r n y) (r' := r) (fun k hk => if_neg (by omega))]
theorem plB_t {g : Nat → Nat → Nat} {p y i : Nat} : plB g p y i = true ↔ p < g 168 i ∧ g 167 (6 * i + p) = y := by
  unfold plB
  rw [Bool.and_eq_true, decide_eq_true_iff, decide_eq_true_iff]
theorem goG_eq {g : Nat → Nat → Nat} (h : MI g) (r : Nat → Nat) (n s : Nat) : goB g (fitA g r n s) n = goG g r n s := by
  refine nat_tb_ext fun y => bool_ext ?_
  unfold goB goG
  rw [bset_tb, gset_tb, Bool.and_eq_true, decide_eq_true_iff, dcn0]
  constructor
  · rintro ⟨h1, h2⟩
    obtain ⟨k, h3, h4⟩ := dc_p h2
    unfold fitA at h3
    rw [bset_tb, Bool.and_eq_true, Bool.and_eq_true, decide_eq_true_iff] at h3
    rw [bset_tb, Bool.and_eq_true, plB_t] at h4
    refine ⟨k, h3.1, ?_, h4.2.2⟩
    rw [Bool.and_eq_true, Bool.and_eq_true]
    exact ⟨h3.2.1, by rw [Bool.not_eq_true', decide_eq_false_iff_not]; omega, h3.2.2⟩
  · rintro ⟨k, h1, h2, h3⟩
    rw [Bool.and_eq_true, Bool.and_eq_true, Bool.not_eq_true', decide_eq_false_iff_not] at h2
    have h4 := h.hW
    have h5 := h.hsz k (by omega)
    have h6 := h.hgl (6 * k + n) (by omega)
    refine ⟨by omega, dc_t ⟨k, ?_, ?_⟩⟩
    · unfold fitA
      rw [bset_tb, Bool.and_eq_true, Bool.and_eq_true, decide_eq_true_iff]
      exact ⟨h1, h2.1, h2.2.2⟩
    · rw [bset_tb, Bool.and_eq_true, plB_t, decide_eq_true_iff]
      exact ⟨h1, by omega, h3⟩
theorem enS_eq (g : Nat → Nat → Nat) (r : Nat → Nat) (n l : Nat) : enB g (bset (ft g r n) (g 166 0)) n l = endS g l r n := by
  refine bool_ext ?_
  unfold enB endS
  rw [Bool.and_eq_true, decide_eq_true_iff, dcn0]
  constructor
  · rintro ⟨h1, h2⟩
    obtain ⟨k, h3, h4⟩ := dc_p h2
    rw [bset_tb, Bool.and_eq_true, decide_eq_true_iff] at h3 h4
    exact dc_t ⟨k, h3.1, of_decide_eq_true h4.2, h1, h3.2⟩
  · intro h
    obtain ⟨k, h1, h2, h3, h4⟩ := dc_p h
    refine ⟨h3, dc_t ⟨k, ?_, ?_⟩⟩
    · rw [bset_tb, Bool.and_eq_true, decide_eq_true_iff]; exact ⟨h1, h4⟩
    · rw [bset_tb, Bool.and_eq_true, decide_eq_true_iff]; exact ⟨h1, decide_eq_true h2⟩
theorem neS_eq (g : Nat → Nat → Nat) (r : Nat → Nat) (n s l : Nat) : neB g (bset (ft g r n) (g 166 0)) n s l = bset (fun y => s.testBit y && !endS g l (up r n y) (n + 1)) 4 := by
  unfold neB
  refine bset_cg (fun y _ => ?_)
  rw [fit_pl, enS_eq]
theorem al_t {g : Nat → Nat → Nat} {i o n : Nat} : al g i o n = true ↔ n ≤ g 168 i ∧ n ≤ g 168 o ∧ ∀ k, k < n → g 167 (6 * i + k) = g 167 (6 * o + k) := ⟨dc_p, dc_t⟩
/-- rows of which the words of A begin alike, one of them i0 -/
def AlK (g : Nat → Nat → Nat) (A s i0 n : Nat) : Prop := n ≤ g 168 i0 ∧ ∀ i, A.testBit i = (decide (i < g 166 0) && (s.testBit i && al g i0 i n))
theorem wi_eq {g : Nat → Nat → Nat} (h : MI g) {A s i0 n X : Nat} {wb : Nat → Bool} (hA : AlK g A s i0 n) (hX : ∀ o, o < g 166 0 → s.testBit o = true → n + 1 ≤ g 168 o → X.testBit o = !wb o) : wiF g A n (lwS g 1) X = winF g s wb i0 n := by
  have hT : ∀ i, A.testBit i = true ↔ i < g 166 0 ∧ s.testBit i = true ∧ al g i0 i n = true := fun i => by
    rw [hA.2 i, Bool.and_eq_true, Bool.and_eq_true, decide_eq_true_iff]
  have hal1 : ∀ o i, al g i0 o n = true → al g i0 i n = true → n < g 168 o → n < g 168 i → g 167 (6 * o + n) = g 167 (6 * i + n) → al g o i (n + 1) = true := fun o i h1 h2 h3 h4 h5 => by
    rw [al_t] at h1 h2 ⊢
    exact ⟨by omega, by omega, all_s (p := fun k => g 167 (6 * o + k) = g 167 (6 * i + k)) (fun k hk => (h1.2.2 k hk).symm.trans (h2.2.2 k hk)) h5⟩
  have hal2 : ∀ o i, al g i0 o n = true → al g o i (n + 1) = true → al g i0 i n = true ∧ n < g 168 i ∧ g 167 (6 * o + n) = g 167 (6 * i + n) := fun o i h1 h2 => by
    rw [al_t] at h1 h2 ⊢
    exact ⟨⟨h1.1, by omega, fun k hk => (h1.2.2 k hk).trans (h2.2.2 k (by omega))⟩, by omega, h2.2.2 n (Nat.lt_succ_self _)⟩
  have hE : ∀ o, o < g 166 0 → s.testBit o = true → al g i0 o n = true → n < g 168 o → enB g (A &&& bset (plB g n (g 167 (6 * o + n))) (g 166 0)) (n + 1) (lwS g 1) = eW g s o (n + 1) := fun o h1 h2 h3 h4 => by
    refine bool_ext ?_
    unfold enB eW
    rw [Bool.and_eq_true, decide_eq_true_iff, dcn0]
    constructor
    · rintro ⟨e1, e2⟩
      obtain ⟨i, e3, e4⟩ := dc_p e2
      rw [Nat.testBit_and, Bool.and_eq_true, hT, bset_tb, Bool.and_eq_true, plB_t] at e3
      rw [bset_tb, Bool.and_eq_true] at e4
      have e5 : g 168 i = n + 1 := of_decide_eq_true e4.2
      exact dc_t ⟨e1, i, e3.1.1, e3.1.2.1, e5, hal1 o i h3 e3.1.2.2 h4 e3.2.2.1 e3.2.2.2.symm⟩
    · intro e
      obtain ⟨e1, i, e2, e3, e4, e5⟩ := dc_p e
      have e6 := hal2 o i h3 e5
      refine ⟨e1, dc_t ⟨i, ?_, ?_⟩⟩
      · rw [Nat.testBit_and, Bool.and_eq_true, hT, bset_tb, Bool.and_eq_true, plB_t, decide_eq_true_iff]
        exact ⟨⟨e2, e3, e6.1⟩, e2, e6.2.1, e6.2.2.symm⟩
      · rw [bset_tb, Bool.and_eq_true, decide_eq_true_iff]
        exact ⟨e2, decide_eq_true e4⟩
  refine nat_tb_ext fun y => bool_ext ?_
  unfold wiF winF
  rw [bset_tb, gset_tb, Bool.and_eq_true, Bool.and_eq_true, decide_eq_true_iff, dcn0]
  constructor
  · rintro ⟨h1, h2, h3⟩
    obtain ⟨o, h4, h5⟩ := dc_p h3
    rw [Nat.testBit_and, Bool.and_eq_true, hT, bset_tb, Bool.and_eq_true, plB_t] at h4
    obtain ⟨⟨o1, o2, o3⟩, _, o4, o5⟩ := h4
    unfold neB at h2
    rw [bset_tb, Bool.and_eq_true, Bool.and_eq_true, Bool.not_eq_true'] at h2
    refine ⟨o, o1, ?_, o5⟩
    have h6 := hX o o1 o2 (by omega)
    rw [h5] at h6
    have h7 := hE o o1 o2 o3 o4
    rw [o5, h2.2.2] at h7
    rw [o2, decide_eq_false (show ¬ g 168 o ≤ n by omega), o3, ← h7, ← h6]
    rfl
  · rintro ⟨o, o1, o2, o5⟩
    rw [Bool.and_eq_true, Bool.and_eq_true, Bool.and_eq_true, Bool.and_eq_true, Bool.not_eq_true', decide_eq_false_iff_not, Bool.not_eq_true', Bool.not_eq_true'] at o2
    obtain ⟨p1, p2, p3, p4, p5⟩ := o2
    have h4 := h.hW
    have h5 := h.hsz o (by omega)
    have h6 := h.hgl (6 * o + n) (by omega)
    have hAo : A.testBit o = true := (hT o).mpr ⟨o1, p1, p3⟩
    have hpo : (bset (plB g n y) (g 166 0)).testBit o = true := by
      rw [bset_tb, Bool.and_eq_true, plB_t, decide_eq_true_iff]; exact ⟨o1, by omega, o5⟩
    refine ⟨by omega, ?_, dc_t ⟨o, ?_, ?_⟩⟩
    · unfold neB goB
      rw [bset_tb, Bool.and_eq_true, Bool.and_eq_true, decide_eq_true_iff, bset_tb, Bool.and_eq_true, decide_eq_true_iff, dcn0, Bool.not_eq_true']
      refine ⟨by omega, ⟨by omega, dc_t ⟨o, hAo, hpo⟩⟩, ?_⟩
      rw [← o5, hE o o1 p1 p3 (by omega)]
      exact p4
    · rw [Nat.testBit_and, hAo, hpo]; rfl
    · rw [hX o o1 p1 (by omega), p5]; rfl
theorem ftL_t {g : Nat → Nat → Nat} (h : MI g) (hB : CB g) {o m : Nat} (ho : o < 12) (i : Nat) : (ftL g o m).testBit i = (decide (i < g 166 0) && al g o i m) := by
  unfold ftL ftB
  rw [bset_tb]
  by_cases hi : i < g 166 0
  · rw [decide_eq_true hi, Bool.true_and, Bool.true_and]
    have h4 := h.hW
    have h5 := h.hsz i (by omega)
    unfold ft al
    refine dc_c ⟨fun z => ?_, fun z => ⟨z.2.1, fun k hk => ?_⟩⟩
    · have h8 : m ≤ g 168 o := by
        refine Classical.byContradiction fun y => ?_
        have h9 := z.2 (g 168 o) (by omega)
        unfold atLn at h9
        rw [hB.2.1 o ho, if_neg (Nat.lt_irrefl _)] at h9
        have h10 := h.hsz o ho
        have h11 := h.hgl (6 * i + g 168 o) (by omega)
        omega
      refine ⟨h8, z.1, fun k hk => ?_⟩
      have h9 := z.2 k hk
      unfold atLn at h9
      rw [hB.2.1 o ho, if_pos (by omega), hB.2.2.1 o k ho (by omega)] at h9
      exact h9.symm
    · unfold atLn
      rw [hB.2.1 o ho, if_pos (by omega), hB.2.2.1 o k ho (by omega)]
      exact (z.2.2 k hk).symm
  · rw [decide_eq_false hi]; rfl
theorem wiF_0 (g : Nat → Nat → Nat) (A n l : Nat) : wiF g A n l 0 = 0 := by
  unfold wiF
  refine bset_0 (fun y _ => ?_)
  rw [Nat.and_zero]
  exact Bool.and_false _
theorem ls_eq {g : Nat → Nat → Nat} (h : MI g) (hB : CB g) (s : Nat) : ∀ f, f ≤ 6 → ∀ o, o < g 166 0 → (lsW g s (lwS g 1) (f + 1)).testBit o = (s.testBit o && (decide (6 - f ≤ g 168 o) && !wB g s f o)) := by
  intro f
  induction f with
  | zero =>
    intro _ o ho
    have h4 := h.hW
    show (bset _ (g 166 0)).testBit o = _
    rw [bset_tb, decide_eq_true ho, Bool.true_and]
    show ((s &&& ftL g o 6).testBit o && decide (wiF g (s &&& ftL g o 6) 6 (lwS g 1) 0 = 0)) = _
    rw [wiF_0, decide_eq_true rfl, Bool.and_true, Nat.testBit_and, ftL_t h hB (by omega), decide_eq_true ho, Bool.true_and]
    have e : al g o o 6 = decide (6 - 0 ≤ g 168 o) := dc_e (by rw [decide_eq_true_iff]; exact ⟨fun z => z.1, fun z => ⟨z, z, fun _ _ => rfl⟩⟩)
    rw [e]
    show _ = (s.testBit o && (decide (6 - 0 ≤ g 168 o) && !false))
    rw [Bool.not_false, Bool.and_true]
  | succ f ih =>
    intro hf o ho
    have h4 := h.hW
    show (bset _ (g 166 0)).testBit o = _
    rw [bset_tb, decide_eq_true ho, Bool.true_and, Nat.testBit_and, ftL_t h hB (by omega), decide_eq_true ho, Bool.true_and]
    cases hs : s.testBit o with
    | false => rfl
    | true =>
      rw [Bool.true_and, Bool.true_and]
      by_cases hm : 6 - (f + 1) ≤ g 168 o
      · have e : al g o o (6 - (f + 1)) = true := al_t.mpr ⟨hm, hm, fun _ _ => rfl⟩
        have hA : AlK g (s &&& ftL g o (6 - (f + 1))) s o (6 - (f + 1)) := ⟨hm, fun i => by
          rw [Nat.testBit_and, ftL_t h hB (by omega)]
          cases s.testBit i <;> cases decide (i < g 166 0) <;> rfl⟩
        rw [e, decide_eq_true hm, Bool.true_and, Bool.true_and, wi_eq h (wb := wB g s f) hA (fun q q1 q2 q3 => by
          rw [ih (by omega) q q1, q2, decide_eq_true (by omega)]; rfl), wB_p (Nat.succ_ne_zero f), hs, decide_eq_false (show ¬ g 168 o < 6 - (f + 1) by omega)]
        rw [show f + 1 - 1 = f from rfl]
        cases decide (winF g s (wB g s f) o (6 - (f + 1)) = 0) <;> rfl
      · have e : al g o o (6 - (f + 1)) = false := dc_f (fun z => hm z.1)
        rw [e, decide_eq_false hm]; rfl
theorem wr_eq {g : Nat → Nat → Nat} (h : MI g) (hB : CB g) (r : Nat → Nat) (n s X : Nat) (hX : n < 6 → X = lsW g s (lwS g 1) (6 - n)) (hX0 : 6 ≤ n → X = 0) : wiF g (fitA g r n s) n (lwS g 1) X = wrS g r n s := by
  unfold wrS
  by_cases h0 : fitA g r n s = 0
  · rw [if_pos h0, h0]
    unfold wiF
    refine bset_0 (fun y _ => ?_)
    rw [Nat.zero_and, Nat.zero_and, decide_eq_true rfl]
    exact Bool.and_false _
  · rw [if_neg h0]
    by_cases h6 : 6 ≤ n
    · rw [if_pos h6, hX0 h6, wiF_0]
    · rw [if_neg h6, hX (by omega)]
      obtain ⟨e1, e2, e3⟩ := fitA_least h h0
      have e4 := dc_p e3
      refine wi_eq h (wb := wB g s (6 - (n + 1))) ⟨e4.1, fun i => ?_⟩ (fun o o1 o2 o3 => ?_)
      · unfold fitA at *
        rw [bset_tb]
        have e5 : ft g r n i = al g (least (bset (fun i => s.testBit i && ft g r n i) (g 166 0))) i n := dc_c ⟨fun z => ⟨e4.1, z.1, fun k hk => (e4.2 k hk).trans (z.2 k hk).symm⟩, fun z => ⟨z.2.1, fun k hk => (z.2.2 k hk).symm.trans (e4.2 k hk)⟩⟩
        rw [e5]
      · have e5 := ls_eq h hB s (6 - (n + 1)) (by omega) o o1
        rw [show 6 - (n + 1) + 1 = 6 - n by omega] at e5
        rw [e5, o2, decide_eq_true (show 6 - (6 - (n + 1)) ≤ g 168 o by omega)]
        rfl
