/-! the text of a table: read by descent, read with a pile of signs: the same -/
theorem HB.and (b : Nat) (hb : 2 ≤ b) : HB [4294967258] 2 1 b := by
  refine ⟨rfl, fun k h' e => ?_⟩
  cases k with
  | zero => cases e; omega
  | succ k =>
    rw [List.take_succ_cons, List.take_nil] at e
    cases e
    omega
theorem HB.not (b : Nat) (hb : 1 ≤ b) : HB [4294967263] 1 1 b := by
  refine ⟨rfl, fun k h' e => ?_⟩
  cases k with
  | zero => cases e; omega
  | succ k =>
    rw [List.take_succ_cons, List.take_nil] at e
    cases e
    omega
theorem HB.tst {t : Nat} (h : t < 6000) (b : Nat) (hb : 1 ≤ b) : HB [t] 0 1 b := by
  have e0 : htL [t] 0 = some 1 := by
    unfold htL htT
    rw [if_neg (by omega), if_neg (by omega), if_pos h]
    rfl
  refine ⟨e0, fun k h' e => ?_⟩
  cases k with
  | zero => cases e; omega
  | succ k =>
    rw [List.take_succ_cons, List.take_nil, e0] at e
    cases e
    omega
theorem HB.one {l : List Nat} {b : Nat} (h : HB l 0 1 b) : 1 ≤ b := h.2 l.length 1 (by rw [List.take_length]; exact h.1)
theorem HB.op2 {la lb : List Nat} {a b m x : Nat} (h1 : HB la 0 1 a) (h2 : HB lb 0 1 b) (hx : x = 4294967258 ∨ x = 4294967172) (ha : a ≤ m) (hb : b + 1 ≤ m) : HB (la ++ (lb ++ [x])) 0 1 m := by
  have h3 := h2.one
  refine (h1.up ha).app (((h2.sh 1).up hb).app ?_)
  rcases hx with rfl | rfl
  · exact HB.and m (by omega)
  · exact HB.or m (by omega)
def SR (l : List Nat) : Prop := ∀ t ∈ l, t < 6000 → t / 100 % 10 ≤ 2
theorem SR.app {a b : List Nat} (h1 : SR a) (h2 : SR b) : SR (a ++ b) := fun t ht => by
  rcases List.mem_append.mp ht with z | z
  · exact h1 t z
  · exact h2 t z
theorem SR.one {x : Nat} (h : x < 6000 → x / 100 % 10 ≤ 2) : SR [x] := fun t ht => by
  rw [List.mem_singleton.mp ht]
  exact h
theorem SR.nil : SR [] := fun t ht => by cases ht
def mF (n : Nat) : Nat := 1 + 2 * (4 - n)
def aL (a : Bool) : List Nat := bif a then [4294967258] else []
def oL (a : Bool) : List Nat := bif a then [4294967172] else []
def aP (a : Bool) : List Nat := bif a then [38] else []
def oP (a : Bool) : List Nat := bif a then [124] else []
def bsB (B : List Nat) : Prop := B = [] ∨ ∃ t, B = 40 :: t
theorem bsB.st {B : List Nat} (h : bsB B) (s : Nat) : stL s B = [] ∧ stW s B = B := by
  rcases h with rfl | ⟨t, rfl⟩
  · exact ⟨rfl, rfl⟩
  · unfold stL stW
    rw [if_neg (by omega), if_neg (by omega)]
    exact ⟨rfl, rfl⟩
theorem bsB.wh {B : List Nat} (h : bsB B) : whL B = [] ∧ whW B = B := by
  rcases h with rfl | ⟨t, rfl⟩
  · exact ⟨rfl, rfl⟩
  · unfold whL whW
    rw [if_neg (by omega), if_neg (by omega)]
    exact ⟨rfl, rfl⟩
theorem stL_y (s x : Nat) (t : List Nat) (h : x = 38 ∨ (x = 124 ∧ ¬ s = 38)) : stL s (x :: t) = (4294967296 - x) :: stL s t := if_pos h
theorem stW_y (s x : Nat) (t : List Nat) (h : x = 38 ∨ (x = 124 ∧ ¬ s = 38)) : stW s (x :: t) = stW s t := if_pos h
theorem stL_n (s x : Nat) (t : List Nat) (h : ¬ (x = 38 ∨ (x = 124 ∧ ¬ s = 38))) : stL s (x :: t) = [] := if_neg h
theorem stW_n (s x : Nat) (t : List Nat) (h : ¬ (x = 38 ∨ (x = 124 ∧ ¬ s = 38))) : stW s (x :: t) = x :: t := if_neg h
theorem st38 {B : List Nat} (h : bsB B) (a o : Bool) : stL 38 (aP a ++ (oP o ++ B)) = aL a ∧ stW 38 (aP a ++ (oP o ++ B)) = oP o ++ B := by
  have z : stL 38 (oP o ++ B) = [] ∧ stW 38 (oP o ++ B) = oP o ++ B := by
    cases o with
    | false => exact h.st 38
    | true => exact ⟨stL_n 38 124 B (by omega), stW_n 38 124 B (by omega)⟩
  cases a with
  | false => exact z
  | true => exact ⟨(stL_y 38 38 _ (Or.inl rfl)).trans (congrArg (List.cons 4294967258) z.1), (stW_y 38 38 _ (Or.inl rfl)).trans z.2⟩
theorem st124 {B : List Nat} (h : bsB B) (a o : Bool) : stL 124 (aP a ++ (oP o ++ B)) = aL a ++ oL o ∧ stW 124 (aP a ++ (oP o ++ B)) = B := by
  have z : stL 124 (oP o ++ B) = oL o ∧ stW 124 (oP o ++ B) = B := by
    cases o with
    | false => exact h.st 124
    | true => exact ⟨(stL_y 124 124 B (by omega)).trans (by rw [(h.st 124).1]; rfl), (stW_y 124 124 B (by omega)).trans (h.st 124).2⟩
  cases a with
  | false => exact z
  | true => exact ⟨(stL_y 124 38 _ (Or.inl rfl)).trans (congrArg (List.cons 4294967258) z.1), (stW_y 124 38 _ (Or.inl rfl)).trans z.2⟩
theorem opn_aP {B : List Nat} (a : Bool) : opn (aP a ++ B) = opn B := by
  cases a with
  | false => rfl
  | true => exact opn_op B (Or.inl rfl)
theorem opn_oP {B : List Nat} (a : Bool) : opn (oP a ++ B) = opn B := by
  cases a with
  | false => rfl
  | true => exact opn_op B (Or.inr rfl)
theorem wh_n {x : Nat} (t : List Nat) (h : x ≠ 33) : whL (x :: t) = [] ∧ whW (x :: t) = x :: t := ⟨if_neg h, if_neg h⟩
section RD
variable {g : Nat → Nat → Nat}
theorem eF_t (f p : Nat) (l W : List Nat) : eF g (f + 1) p l W true = if pkS g p = 33 ∨ pkS g p = 40 then (if opn W = 4 then (false, p, l) else eF g f (p + 1) l (pkS g p :: W) true) else if (teS g p).1 = true then eF g f (teS g p).2.2 (l ++ ([(teS g p).2.1] ++ whL W)) (whW W) false else (false, (teS g p).2.2, l) := rfl
theorem eF_o (f p : Nat) (l W : List Nat) (h : pkS g p = 38 ∨ pkS g p = 124) : eF g (f + 1) p l W false = eF g f (p + 1) (l ++ stL (pkS g p) W) (pkS g p :: stW (pkS g p) W) true := if_pos h
theorem eF_e (f p : Nat) (l W : List Nat) (h : ¬ (pkS g p = 38 ∨ pkS g p = 124)) (e : stW 124 W = []) : eF g (f + 1) p l W false = (true, p, l ++ stL 124 W) := by
  unfold eF
  rw [if_neg h, e]
theorem eF_c (f p : Nat) (l W t : List Nat) (x : Nat) (h : ¬ (pkS g p = 38 ∨ pkS g p = 124)) (e : stW 124 W = x :: t) : eF g (f + 1) p l W false = if pkS g p = 41 then eF g f (p + 1) ((l ++ stL 124 W) ++ whL t) (whW t) false else (false, p, l ++ stL 124 W) := by
  rw [eF, if_neg h, e]
/-- a factor read -/
def FK (g : Nat → Nat → Nat) (n p q : Nat) (lf : List Nat) : Prop := p + 3 ≤ q ∧ q ≤ g 166 17 ∧ lf.length + p ≤ q ∧ HB lf 0 1 (mF n) ∧ SR lf ∧ ∀ F l W, opn W = n → g 166 17 + 1 ≤ F + p → ∃ F', g 166 17 + 1 ≤ F' + q ∧ eF g F p l W true = eF g F' q (l ++ (lf ++ whL W)) (whW W) false
/-- a fault in a factor -/
def FX (g : Nat → Nat → Nat) (n p q : Nat) : Prop := p ≤ q ∧ q ≤ g 166 17 ∧ ∀ F l W, opn W = n → g 166 17 + 1 ≤ F + p → ∃ l', eF g F p l W true = (false, q, l')
/-- heights while an expression is read -/
def HO (n : Nat) (o : Bool) (lc : List Nat) : Prop := bif o then (∃ la lb, lc = la ++ lb ∧ HB la 0 1 (mF n + 2) ∧ HB lb 0 1 (mF n + 1)) else HB lc 0 1 (mF n + 1)
/-- an expression read so far -/
def EK (g : Nat → Nat → Nat) (n p0 p : Nat) (o : Bool) (lc : List Nat) : Prop := p0 + 3 ≤ p ∧ p ≤ g 166 17 ∧ lc.length + (oL o).length + p0 ≤ p ∧ HO n o lc ∧ SR lc ∧ ∃ a lr, lc = lr ++ aL a ∧ ∀ F l B, opn B = n → bsB B → g 166 17 + 1 ≤ F + p0 → ∃ F', g 166 17 + 1 ≤ F' + p ∧ eF g F p0 l B true = eF g F' p (l ++ lr) (aP a ++ (oP o ++ B)) false
/-- a fault in an expression -/
def EX (g : Nat → Nat → Nat) (n p0 q : Nat) : Prop := p0 ≤ q ∧ q ≤ g 166 17 ∧ ∀ F l B, opn B = n → bsB B → g 166 17 + 1 ≤ F + p0 → ∃ l', eF g F p0 l B true = (false, q, l')
theorem teS_pl {p c q : Nat} (h : teS g p = (true, c, q)) : ¬ (pkS g p = 33 ∨ pkS g p = 40) := fun z => by
  unfold teS at h
  have e : plcS (pkS g p) = 4294967295 := by
    rcases z with z | z <;> rw [z] <;> rfl
  rw [if_pos e] at h
  cases h
theorem teS_ok {p c q : Nat} (h : teS g p = (true, c, q)) : c < 6000 ∧ c / 100 % 10 ≤ 2 := by
  unfold teS at h
  by_cases h1 : plcS (pkS g p) = 4294967295
  · rw [if_pos h1] at h; cases h
  · rw [if_neg h1] at h
    have h5 : plcS (pkS g p) ≤ 5 := by
      rcases plcS_le (pkS g p) with z | z
      · exact z.1
      · exact absurd z h1
    by_cases h2 : 60 ≤ pkS g (p + 1) ∧ pkS g (p + 1) ≤ 62
    · rw [if_pos h2] at h
      by_cases h3 : (nuS g (p + 2)).1 = true
      · rw [if_pos h3] at h
        have hn := nuS_le (g := g) (p := p + 2) (d := (nuS g (p + 2)).2.1) (q := (nuS g (p + 2)).2.2) (by rw [← h3])
        injection h with _ h
        injection h with h _
        omega
      · rw [if_neg h3] at h; cases h
    · rw [if_neg h2] at h; cases h
theorem teS_q3 {p c q : Nat} (h : teS g p = (true, c, q)) : p + 3 ≤ q := by
  unfold teS at h
  by_cases h1 : plcS (pkS g p) = 4294967295
  · rw [if_pos h1] at h; cases h
  · rw [if_neg h1] at h
    by_cases h2 : 60 ≤ pkS g (p + 1) ∧ pkS g (p + 1) ≤ 62
    · rw [if_pos h2] at h
      by_cases h3 : (nuS g (p + 2)).1 = true
      · rw [if_pos h3] at h
        have hn := nuS_le (g := g) (p := p + 2) (d := (nuS g (p + 2)).2.1) (q := (nuS g (p + 2)).2.2) (by rw [← h3])
        injection h with _ h
        injection h with _ h
        omega
      · rw [if_neg h3] at h; cases h
    · rw [if_neg h2] at h; cases h
theorem FK.t {n p c q : Nat} (hp : p ≤ g 166 17) (h : teS g p = (true, c, q)) : FK g n p q [c] := by
  have h1 := teS_le h
  have h2 := teS_ok h
  have h3 := teS_q3 h
  refine ⟨h3, h1.2, by show 1 + p ≤ q; omega, HB.tst h2.1 _ (by unfold mF; omega), SR.one (fun _ => h2.2), fun F l W _ hF => ?_⟩
  obtain ⟨F1, rfl⟩ : ∃ F1, F = F1 + 1 := ⟨F - 1, by omega⟩
  refine ⟨F1, by omega, ?_⟩
  rw [eF_t, if_neg (teS_pl h), h]
  rfl
theorem FX.t {n p c q : Nat} (hp : p ≤ g 166 17) (h : teS g p = (false, c, q)) (hn : n ≤ 4) (h4 : n < 4 → ¬ (pkS g p = 33 ∨ pkS g p = 40)) : FX g n p q := by
  have h1 := teS_le0 h hp
  refine ⟨h1.1, h1.2, fun F l W hW hF => ?_⟩
  obtain ⟨F1, rfl⟩ : ∃ F1, F = F1 + 1 := ⟨F - 1, by omega⟩
  rw [eF_t]
  by_cases z : pkS g p = 33 ∨ pkS g p = 40
  · have e4 : n = 4 := by
      by_cases e : n < 4
      · exact absurd z (h4 e)
      · omega
    rw [if_pos z, if_pos (hW.trans e4)]
    have e : plcS (pkS g p) = 4294967295 := by
      rcases z with z | z <;> rw [z] <;> rfl
    unfold teS at h
    rw [if_pos e] at h
    injection h with _ h
    injection h with _ h
    exact ⟨l, by rw [h]⟩
  · rw [if_neg z, h]
    exact ⟨l, rfl⟩
theorem eF_push {n p F : Nat} {l W : List Nat} (hp : p ≤ g 166 17) (hn : n < 4) (h : pkS g p = 33 ∨ pkS g p = 40) (hW : opn W = n) (hF : g 166 17 + 1 ≤ F + p) : ∃ F1, g 166 17 + 1 ≤ F1 + (p + 1) ∧ eF g F p l W true = eF g F1 (p + 1) l (pkS g p :: W) true := by
  obtain ⟨F1, rfl⟩ : ∃ F1, F = F1 + 1 := ⟨F - 1, by omega⟩
  refine ⟨F1, by omega, ?_⟩
  rw [eF_t, if_pos h, if_neg (by omega)]
theorem FK.n {n p q : Nat} {lf : List Nat} (hp : p ≤ g 166 17) (hn : n < 4) (hk : pkS g p = 33) (h : FK g (n + 1) (p + 1) q lf) : FK g n p q (lf ++ [4294967263]) := by
  obtain ⟨a, b, c, d, e, f⟩ := h
  refine ⟨by omega, b, by rw [List.length_append]; show lf.length + 1 + p ≤ q; omega, (d.up (by unfold mF; omega)).app (HB.not _ (by unfold mF; omega)), e.app (SR.one (fun z => by omega)), fun F l W hW hF => ?_⟩
  obtain ⟨F1, g1, e1⟩ := eF_push (l := l) hp hn (Or.inl hk) hW hF
  obtain ⟨F2, g2, e2⟩ := f F1 l (33 :: W) (by rw [opn_33, hW]) g1
  refine ⟨F2, g2, ?_⟩
  rw [e1, hk, e2]
  show eF g F2 q (l ++ (lf ++ (4294967263 :: whL W))) (whW W) false = _
  rw [List.append_assoc]
  rfl
theorem FX.n {n p q : Nat} (hp : p ≤ g 166 17) (hn : n < 4) (hk : pkS g p = 33) (h : FX g (n + 1) (p + 1) q) : FX g n p q := by
  obtain ⟨a, b, f⟩ := h
  refine ⟨by omega, b, fun F l W hW hF => ?_⟩
  obtain ⟨F1, g1, e1⟩ := eF_push (l := l) hp hn (Or.inl hk) hW hF
  obtain ⟨l', e2⟩ := f F1 l (33 :: W) (by rw [opn_33, hW]) g1
  exact ⟨l', by rw [e1, hk, e2]⟩
theorem FX.p {n p q : Nat} (hp : p ≤ g 166 17) (hn : n < 4) (hk : pkS g p = 40) (h : EX g (n + 1) (p + 1) q) : FX g n p q := by
  obtain ⟨a, b, f⟩ := h
  refine ⟨by omega, b, fun F l W hW hF => ?_⟩
  obtain ⟨F1, g1, e1⟩ := eF_push (l := l) hp hn (Or.inr hk) hW hF
  obtain ⟨l', e2⟩ := f F1 l (40 :: W) (by rw [opn_o _ (Or.inr rfl), hW]) (Or.inr ⟨W, rfl⟩) g1
  exact ⟨l', by rw [e1, hk, e2]⟩
theorem FX.p2 {n p q : Nat} {o : Bool} {lc : List Nat} (hp : p ≤ g 166 17) (hn : n < 4) (hk : pkS g p = 40) (h : EK g (n + 1) (p + 1) q o lc) (h1 : ¬ (pkS g q = 38 ∨ pkS g q = 124)) (h2 : pkS g q ≠ 41) : FX g n p q := by
  obtain ⟨a, b, c, d, e, ab, lr, e0, f⟩ := h
  refine ⟨by omega, b, fun F l W hW hF => ?_⟩
  obtain ⟨F1, g1, e1⟩ := eF_push (l := l) hp hn (Or.inr hk) hW hF
  obtain ⟨F2, g2, e2⟩ := f F1 l (40 :: W) (by rw [opn_o _ (Or.inr rfl), hW]) (Or.inr ⟨W, rfl⟩) g1
  obtain ⟨F3, rfl⟩ : ∃ F3, F2 = F3 + 1 := ⟨F2 - 1, by omega⟩
  have s := st124 (B := 40 :: W) (Or.inr ⟨W, rfl⟩) ab o
  rw [e1, hk, e2, eF_c F3 q _ _ W 40 h1 s.2, if_neg h2]
  exact ⟨_, rfl⟩
theorem EK.hb {n p0 p : Nat} {o : Bool} {lc : List Nat} (h : EK g n p0 p o lc) : HB (lc ++ oL o) 0 1 (mF n + 2) ∧ SR (lc ++ oL o) := by
  obtain ⟨a, b, c, d, e, f⟩ := h
  cases o with
  | false =>
    have d : HB lc 0 1 (mF n + 1) := d
    show HB (lc ++ []) 0 1 (mF n + 2) ∧ SR (lc ++ [])
    rw [List.append_nil]
    exact ⟨d.up (by omega), e⟩
  | true =>
    obtain ⟨la, lb, rfl, h1, h2⟩ := d
    refine ⟨?_, e.app (SR.one (fun z => by omega))⟩
    show HB ((la ++ lb) ++ [4294967172]) 0 1 (mF n + 2)
    rw [List.append_assoc]
    exact h1.op2 h2 (Or.inr rfl) (by omega) (by omega)
theorem FK.p {n p q : Nat} {o : Bool} {lc : List Nat} (hp : p ≤ g 166 17) (hn : n < 4) (hk : pkS g p = 40) (h : EK g (n + 1) (p + 1) q o lc) (h1 : ¬ (pkS g q = 38 ∨ pkS g q = 124)) (h2 : pkS g q = 41) : FK g n p (q + 1) (lc ++ oL o) := by
  have hb := h.hb
  have hq : q < g 166 17 := pkS_lt (by rw [h2]; decide)
  obtain ⟨a, b, c, d, e, ab, lr, e0, f⟩ := h
  refine ⟨by omega, by omega, by rw [List.length_append]; omega, hb.1.up (by unfold mF; omega), hb.2, fun F l W hW hF => ?_⟩
  obtain ⟨F1, g1, e1⟩ := eF_push (l := l) hp hn (Or.inr hk) hW hF
  obtain ⟨F2, g2, e2⟩ := f F1 l (40 :: W) (by rw [opn_o _ (Or.inr rfl), hW]) (Or.inr ⟨W, rfl⟩) g1
  obtain ⟨F3, rfl⟩ : ∃ F3, F2 = F3 + 1 := ⟨F2 - 1, by omega⟩
  have s := st124 (B := 40 :: W) (Or.inr ⟨W, rfl⟩) ab o
  refine ⟨F3, by omega, ?_⟩
  rw [e1, hk, e2, eF_c F3 q _ _ W 40 h1 s.2, if_pos h2, s.1, e0]
  simp only [List.append_assoc]
theorem EK.s {n p q : Nat} {lf : List Nat} (h : FK g n p q lf) : EK g n p q false lf := by
  obtain ⟨a, b, c, d, e, f⟩ := h
  refine ⟨a, b, c, d.up (by omega), e, false, lf, (List.append_nil lf).symm, fun F l B hB hs hF => ?_⟩
  obtain ⟨F1, g1, e1⟩ := f F l B hB hF
  refine ⟨F1, g1, ?_⟩
  rw [e1, hs.wh.1, hs.wh.2, List.append_nil]
  rfl
theorem EX.s {n p q : Nat} (h : FX g n p q) : EX g n p q := ⟨h.1, h.2.1, fun F l B hB _ hF => h.2.2 F l B hB hF⟩
theorem EK.and {n p0 p q : Nat} {o : Bool} {lc lf : List Nat} (h : EK g n p0 p o lc) (hk : pkS g p = 38) (k : FK g n (p + 1) q lf) : EK g n p0 q o (lc ++ (lf ++ [4294967258])) := by
  obtain ⟨a, b, c, d, e, ab, lr, e0, f⟩ := h
  obtain ⟨a', b', c', d', e', f'⟩ := k
  refine ⟨by omega, b', by rw [List.length_append, List.length_append]; show lc.length + (lf.length + 1) + _ + p0 ≤ q; omega, ?_, e.app (e'.app (SR.one (fun z => by omega))), true, lc ++ lf, by rw [List.append_assoc]; rfl, fun F l B hB hs hF => ?_⟩
  · cases o with
    | false =>
      have d : HB lc 0 1 (mF n + 1) := d
      exact d.op2 d' (Or.inl rfl) (by omega) (by omega)
    | true =>
      obtain ⟨la, lb, rfl, h1, h2⟩ := d
      exact ⟨la, lb ++ (lf ++ [4294967258]), by rw [List.append_assoc], h1, h2.op2 d' (Or.inl rfl) (by omega) (by omega)⟩
  · obtain ⟨F1, g1, e1⟩ := f F l B hB hs hF
    obtain ⟨F2, rfl⟩ : ∃ F2, F1 = F2 + 1 := ⟨F1 - 1, by omega⟩
    have s := st38 hs ab o
    obtain ⟨F3, g3, e3⟩ := f' F2 (l ++ lr ++ aL ab) (38 :: (oP o ++ B)) (by rw [opn_op _ (Or.inl rfl), opn_oP, hB]) (by omega)
    refine ⟨F3, g3, ?_⟩
    have w := wh_n (x := 38) (oP o ++ B) (by omega)
    rw [e1, eF_o F2 p _ _ (Or.inl hk), hk, s.1, s.2, e3, w.1, w.2, e0, List.append_nil]
    simp only [List.append_assoc]
    rfl
theorem EX.and {n p0 p q : Nat} {o : Bool} {lc : List Nat} (h : EK g n p0 p o lc) (hk : pkS g p = 38) (k : FX g n (p + 1) q) : EX g n p0 q := by
  obtain ⟨a, b, c, d, e, ab, lr, e0, f⟩ := h
  obtain ⟨a', b', f'⟩ := k
  refine ⟨by omega, b', fun F l B hB hs hF => ?_⟩
  obtain ⟨F1, g1, e1⟩ := f F l B hB hs hF
  obtain ⟨F2, rfl⟩ : ∃ F2, F1 = F2 + 1 := ⟨F1 - 1, by omega⟩
  have s := st38 hs ab o
  obtain ⟨l', e3⟩ := f' F2 (l ++ lr ++ aL ab) (38 :: (oP o ++ B)) (by rw [opn_op _ (Or.inl rfl), opn_oP, hB]) (by omega)
  exact ⟨l', by rw [e1, eF_o F2 p _ _ (Or.inl hk), hk, s.1, s.2, e3]⟩
theorem EK.or {n p0 p q : Nat} {o : Bool} {lc lf : List Nat} (h : EK g n p0 p o lc) (hk : pkS g p = 124) (k : FK g n (p + 1) q lf) : EK g n p0 q true ((lc ++ oL o) ++ lf) := by
  have hb := h.hb
  obtain ⟨a, b, c, d, e, ab, lr, e0, f⟩ := h
  obtain ⟨a', b', c', d', e', f'⟩ := k
  refine ⟨by omega, b', by rw [List.length_append, List.length_append]; show lc.length + _ + lf.length + 1 + p0 ≤ q; omega, ⟨lc ++ oL o, lf, rfl, hb.1, d'.up (by omega)⟩, hb.2.app e', false, (lc ++ oL o) ++ lf, (List.append_nil _).symm, fun F l B hB hs hF => ?_⟩
  obtain ⟨F1, g1, e1⟩ := f F l B hB hs hF
  obtain ⟨F2, rfl⟩ : ∃ F2, F1 = F2 + 1 := ⟨F1 - 1, by omega⟩
  have s := st124 hs ab o
  obtain ⟨F3, g3, e3⟩ := f' F2 (l ++ lr ++ (aL ab ++ oL o)) (124 :: B) (by rw [opn_op _ (Or.inr rfl), hB]) (by omega)
  refine ⟨F3, g3, ?_⟩
  have w := wh_n (x := 124) B (by omega)
  rw [e1, eF_o F2 p _ _ (Or.inr hk), hk, s.1, s.2, e3, w.1, w.2, e0, List.append_nil]
  simp only [List.append_assoc]
  rfl
theorem EX.or {n p0 p q : Nat} {o : Bool} {lc : List Nat} (h : EK g n p0 p o lc) (hk : pkS g p = 124) (k : FX g n (p + 1) q) : EX g n p0 q := by
  obtain ⟨a, b, c, d, e, ab, lr, e0, f⟩ := h
  obtain ⟨a', b', f'⟩ := k
  refine ⟨by omega, b', fun F l B hB hs hF => ?_⟩
  obtain ⟨F1, g1, e1⟩ := f F l B hB hs hF
  obtain ⟨F2, rfl⟩ : ∃ F2, F1 = F2 + 1 := ⟨F1 - 1, by omega⟩
  have s := st124 hs ab o
  obtain ⟨l', e3⟩ := f' F2 (l ++ lr ++ (aL ab ++ oL o)) (124 :: B) (by rw [opn_op _ (Or.inr rfl), hB]) (by omega)
  exact ⟨l', by rw [e1, eF_o F2 p _ _ (Or.inr hk), hk, s.1, s.2, e3]⟩
theorem EK.top {p0 q : Nat} {o : Bool} {lc : List Nat} (hN : g 166 17 ≤ 100) (h : EK g 0 p0 q o lc) (h1 : ¬ (pkS g q = 38 ∨ pkS g q = 124)) (l : List Nat) : eF g 101 p0 l [] true = (true, q, l ++ (lc ++ oL o)) := by
  obtain ⟨a, b, c, d, e, ab, lr, e0, f⟩ := h
  obtain ⟨F1, g1, e1⟩ := f 101 l [] rfl (Or.inl rfl) (by omega)
  obtain ⟨F2, rfl⟩ : ∃ F2, F1 = F2 + 1 := ⟨F1 - 1, by omega⟩
  have s := st124 (B := []) (Or.inl rfl) ab o
  rw [e1, eF_e F2 q _ _ h1 s.2, s.1, e0]
  simp only [List.append_assoc]
theorem EX.top {p0 q : Nat} (hN : g 166 17 ≤ 100) (h : EX g 0 p0 q) (l : List Nat) : ∃ l', eF g 101 p0 l [] true = (false, q, l') := h.2.2 101 l [] rfl (Or.inl rfl) (by omega)
end RD
