/-! both sides: a turn -/
def RZ (G : Nat → Nat → Nat) : Prop := G 166 7 < G 166 6 ∧ (G 166 8 < G 166 6 ∨ G 166 8 = 4294967295)
section TURN
variable {g G : Nat → Nat → Nat} {y : Nat} {x0 x1 x2 x3 : Nat → Nat}
theorem Cw.t {G2 : Nat → Nat → Nat} (h : Cw g G) (k : Ct G G2) : Cw g G2 := ⟨fun c h1 h2 h3 h4 h5 h6 h7 => (k.1 c h1 h2 h3 h4 h5).trans (h.1 c h1 h2 h3 h4 h5 h6 h7), fun j h1 h2 h3 h4 h5 h6 h7 h8 h9 h10 h11 => (k.2 j h1 h2 h3 h6).trans (h.2 j h1 h2 h3 h4 h5 h6 h7 h8 h9 h10 h11)⟩
theorem GX.t {G2 : Nat → Nat → Nat} (h : GX g G y) (k : Ct G G2) (hI : MI G2) : GX g G2 y := ⟨h.1, hI, h.2.2.1, h.2.2.2.1.t k, h.2.2.2.2.1, h.2.2.2.2.2.1, fun p hp => by rw [k.cx.xknS]; exact h.2.2.2.2.2.2.1 p hp, h.2.2.2.2.2.2.2⟩
theorem fwC_cg {a b : Nat → Nat} {P : Nat} (hP : P ≤ 5) (h : ∀ j, j < 5 → a j = b j) (p : Nat) : ∀ f k, 0 < P ∨ f = 0 → fwC a P p f k = fwC b P p f k := by
  intro f
  induction f with
  | zero => intro k _; rfl
  | succ f ih =>
    intro k h0
    have hP0 : 0 < P := by rcases h0 with z | z <;> omega
    unfold fwC
    rw [ih (k + 1) (Or.inl hP0), h _ (by have := Nat.mod_lt (p + k) hP0; omega)]
theorem ac_eq {P : Nat} (hP : P ≤ 5) (hx : ∀ j, j < 5 → x3 j = G 173 j) (hP6 : G 166 6 = P) (h2 : x0 2 = G 166 7) (hn : G 166 7 < P) : (aliv (G 173) P ∧ acC x0 x3 P = tnS G ∧ tnS G < P ∧ 0 < G 173 (tnS G)) ∨ (¬ aliv (G 173) P ∧ acC x0 x3 P = 4294967295) := by
  have hf : fwC x3 P (G 166 7) P 1 = fwC (G 173) P (G 166 7) P 1 := fwC_cg hP hx _ _ _ (by omega)
  unfold acC tnS
  rw [h2, if_pos hn, hx _ (by omega), hf, hP6]
  by_cases e : G 173 (G 166 7) ≤ 0
  · rw [if_pos e, if_pos e]
    rcases fw_al (lv := G 173) hn with ⟨a1, a2, a3, a4⟩ | ⟨a1, a2, _⟩
    · exact Or.inl ⟨a1, a2, a3, a4⟩
    · exact Or.inr ⟨a1, a2⟩
  · rw [if_neg e, if_neg e]
    exact Or.inl ⟨⟨_, hn, by omega⟩, rfl, hn, by omega⟩
theorem lo_eq {P p : Nat} {xa : Nat → Nat} (hP : P ≤ 5) (hP6 : G 166 6 = P) (h : RX xa x1 x2 x3 G) (hp : p < P) : RX (loX0 x0 x3 P p) (up x1 1 0) x2 (up x3 p (x3 p - 1)) (loS (u2 G 166 36 p) p) ∧ loX0 x0 x3 P p 4 = p ∧ RZ (loS (u2 G 166 36 p) p) := by
  have hx : ∀ j, j < 5 → x3 j = G 173 j := h.2.2.1
  have hxp := hx p (by omega)
  have hlv : ∀ j, j < 5 → up x3 p (x3 p - 1) j = up (G 173) p (G 173 p - 1) j := fun j hj => by
    unfold up
    split
    · rw [hxp]
    · exact hx j hj
  have hl2 : loS (u2 G 166 36 p) p 173 = up (G 173) p (G 173 p - 1) := u2_up G 173 p (G 173 p - 1)
  have hl7 : loS (u2 G 166 36 p) p 166 7 = if 0 < G 173 p - 1 then p else nxS (up (G 173) p (G 173 p - 1)) P p := by
    have e : loS (u2 G 166 36 p) p 166 7 = if 0 < G 173 p - 1 then p else nxS (up (G 173) p (G 173 p - 1)) (G 166 6) p := rfl
    rw [e, hP6]
  have hl6 : loS (u2 G 166 36 p) p 166 6 = P := hP6
  have hac : acC (up (up (up x0 4 p) 3 4294967295) 2 p) (up x3 p (x3 p - 1)) P = if up (G 173) p (G 173 p - 1) p ≤ 0 then fwC (up (G 173) p (G 173 p - 1)) P p P 1 else p := by
    have e2 : up (up (up x0 4 p) 3 4294967295) 2 p 2 = p := rfl
    unfold acC
    rw [e2, if_pos hp, hlv p (by omega), fwC_cg hP hlv p P 1 (by omega)]
  have hupp : up (G 173) p (G 173 p - 1) p = G 173 p - 1 := if_pos rfl
  have hnx : loX0 x0 x3 P p 2 = (if 0 < G 173 p - 1 then p else nxS (up (G 173) p (G 173 p - 1)) P p) ∧ (if 0 < G 173 p - 1 then p else nxS (up (G 173) p (G 173 p - 1)) P p) < P ∧ loX0 x0 x3 P p 3 = 4294967295 ∧ loX0 x0 x3 P p 4 = p := by
    unfold loX0
    rw [hac, hupp]
    by_cases e : G 173 p - 1 ≤ 0
    · rw [if_pos e, if_neg (show ¬ 0 < G 173 p - 1 by omega)]
      rcases fw_al (lv := up (G 173) p (G 173 p - 1)) hp with ⟨_, a2, a3, _⟩ | ⟨_, a2, a3⟩
      · rw [a2, if_pos (by omega)]
        exact ⟨rfl, a3, rfl, rfl⟩
      · rw [a2, if_neg (by decide), a3]
        exact ⟨rfl, hp, rfl, rfl⟩
    · rw [if_neg e, if_pos (show p < 2147483648 by omega), if_pos (show 0 < G 173 p - 1 by omega)]
      exact ⟨rfl, hp, rfl, rfl⟩
  refine ⟨⟨rfl, fun k hk => ?_, fun j hj => ?_, ?_, hnx.2.2.1⟩, hnx.2.2.2, ?_⟩
  · have e : loS (u2 G 166 36 p) p 166 9 = 0 := rfl
    omega
  · rw [hl2]; exact hlv j hj
  · rw [hl7]; exact hnx.1
  · unfold RZ
    rw [hl7, hl6]
    exact ⟨hnx.2.1, Or.inr rfl⟩
theorem en_eq (hg : GX g G y) (h : RX x0 x1 x2 x3 G) (c : Nat) : enX g x1 x2 c y = !sfS G c := by
  obtain ⟨hI, hJ, hB, hC, hy, hP, hk, hl⟩ := hg
  unfold enX sfS ftX
  rw [Bool.not_not, enS_eq, h.1, hC.yendS, hC.ylwS, hy]
  refine endS_cg (fun k hk => ?_) _
  have e : up x1 1 (G 166 9 + 1) 1 = G 166 9 + 1 := rfl
  unfold atX
  rw [e, if_pos hk]
  exact up_cg h.2.1 c k hk
theorem ad_eq {xa : Nat → Nat} (hg : GX g G y) (h : RX xa x1 x2 x3 G) {c : Nat} (hal : aliv (G 173) (g 166 6)) (hw : x0 2 < g 166 6) (h36 : x0 4 = G 166 36) : (plXa g y x0 x1 x2 x3 c).1 = adV G c ∧ RX (plXa g y x0 x1 x2 x3 c).2.1 (plXa g y x0 x1 x2 x3 c).2.2.1 (plXa g y x0 x1 x2 x3 c).2.2.2.1 (plXa g y x0 x1 x2 x3 c).2.2.2.2 (adG G (x0 2) c) ∧ (plXa g y x0 x1 x2 x3 c).2.1 4 = adG G (x0 2) c 166 36 ∧ RZ (adG G (x0 2) c) := by
  have hen := en_eq hg h c
  have hPl := hg.1.hPl
  have hP := hg.2.2.2.2.2.1
  have h6 := hg.2.2.2.1.z6
  have hA : RX (up xa 3 (x0 2)) (up x1 1 (x1 1 + 1)) (up x2 (x1 1) c) x3 (A1 G (x0 2) c) := ⟨by
      have e : A1 G (x0 2) c 166 9 = G 166 9 + 1 := rfl
      rw [e, ← h.1]; rfl, fun k hk => by
      have e : A1 G (x0 2) c 166 9 = G 166 9 + 1 := rfl
      have e2 : A1 G (x0 2) c 175 = up (G 175) (G 166 9) c := R1_175 G c
      rw [e] at hk
      rw [e2, h.1]
      exact up_cg h.2.1 c k hk, h.2.2.1, h.2.2.2.1, rfl⟩
  unfold plXa adV adG
  rw [hen, hP]
  cases hs : sfS G c with
  | true =>
    have hf : fwC x3 (g 166 6) (x0 2) (g 166 6) 1 = fwC (G 173) (g 166 6) (x0 2) (g 166 6) 1 := fwC_cg hPl h.2.2.1 _ _ _ (by omega)
    rcases fw_al (lv := G 173) hw with ⟨_, a2, a3, _⟩ | ⟨na, _⟩
    · refine ⟨rfl, ⟨hA.1, hA.2.1, hA.2.2.1, ?_, rfl⟩, h36, ?_, ?_⟩
      · show fwC x3 (g 166 6) (x0 2) (g 166 6) 1 = nxS (G 173) (G 166 6) (x0 2)
        rw [h6, hf, a2]
      · show nxS (G 173) (G 166 6) (x0 2) < G 166 6
        rw [h6]
        exact a3
      · exact Or.inl (show x0 2 < G 166 6 by omega)
    · exact absurd hal na
  | false =>
    have L := lo_eq (x0 := up x0 3 (x0 2)) (G := A1 G (x0 2) c) hPl (show A1 G (x0 2) c 166 6 = g 166 6 from h6) hA hw
    exact ⟨Nat.add_comm 100 c, L.1, L.2.1.trans rfl, L.2.2⟩
/-- a turn's result: its answer, its round -/
def TR (v : Nat) (G : Nat → Nat → Nat) (r : Rx) : Prop := r.1 = v ∧ RX r.2.1 r.2.2.1 r.2.2.2.1 r.2.2.2.2 G ∧ r.2.1 4 = G 166 36 ∧ RZ G
theorem as_eq {xa w0 : Nat → Nat} (hg : GX g G y) (h : RX xa x1 x2 x3 G) (hz : RZ G) {who : Nat} (hw : who < g 166 6) (h3 : w0 3 = G 166 8) : TR (asV G) (asG G who) (if w0 3 < 2147483648 then plXl g 110 w0 x1 x2 x3 (if ftX g x1 x2 (x1 1) &&& g 59 (w0 3) = 0 then w0 3 else who) else plXl g 120 w0 x1 x2 x3 who) := by
  have hPl := hg.1.hPl
  have hP := hg.2.2.2.2.2.1
  have hk := hg.2.2.2.2.2.2.1
  have hC := hg.2.2.2.1
  have h6 := hC.z6
  unfold asV asG asL
  rw [h3]
  by_cases e : G 166 8 < 2147483648
  · have hq : G 166 8 < g 166 6 := by rcases hz.2 with z | z <;> omega
    rw [if_pos e, if_pos e, if_pos e, hk _ hq, ftX_eq h, fit_and, hC.yfitA]
    have hq' : (if fitA g (G 175) (G 166 9) (knS G (G 166 8)) = 0 then G 166 8 else who) < g 166 6 := by split <;> assumption
    generalize (if fitA g (G 175) (G 166 9) (knS G (G 166 8)) = 0 then G 166 8 else who) = q at *
    have L := lo_eq (x0 := w0) hPl h6 h hq'
    unfold plXl
    rw [hP]
    exact ⟨rfl, L.1, L.2.1.trans rfl, L.2.2⟩
  · rw [if_neg e, if_neg e, if_neg e]
    have L := lo_eq (x0 := w0) hPl h6 h hw
    unfold plXl
    rw [hP]
    exact ⟨rfl, L.1, L.2.1.trans rfl, L.2.2⟩
theorem chC_2 (v who : Nat) : chC g (up x0 2 v) x1 x2 x3 who y = chC g x0 x1 x2 x3 who y := rfl
theorem turn_eq (hg : GX g G y) (h : RX x0 x1 x2 x3 G) (hz : RZ G) (hal : aliv (G 173) (g 166 6)) : TR (plV G 4294967295) (plG G 4294967295) (plX g y x0 x1 x2 x3) := by
  have hg' : GX g (cl36 G) y := GX.t hg (Ct.f (by omega)) (MI.f36 hg.2.1)
  have h' : RX (up x0 4 4294967295) x1 x2 x3 (cl36 G) := h
  have hz' : RZ (cl36 G) := hz
  have hal' : aliv (cl36 G 173) (g 166 6) := hal
  have h36 : cl36 G 166 36 = 4294967295 := rfl
  show TR (plV0 (cl36 G) 4294967295) (plG0 (cl36 G) 4294967295) (plX g y x0 x1 x2 x3)
  generalize cl36 G = H at hg' h' hz' hal' h36 ⊢
  have hP := hg'.2.2.2.2.2.1
  have h6 := hg'.2.2.2.1.z6
  unfold plX
  rw [hP]
  rcases ac_eq (P := g 166 6) (x0 := up x0 4 4294967295) hg'.1.hPl h'.2.2.1 h6 h'.2.2.2.1 (h6 ▸ hz'.1) with ⟨_, e1, e2, e3⟩ | ⟨na, _⟩
  · have hPl := hg'.1.hPl
    have htu : tuD H 4294967295 = doS H (tnS H) := if_neg (by decide)
    rw [e1, if_pos (by omega)]
    unfold plV0 plG0 plX1
    rw [htu, chC_2, ch_eq hg' h' e2 e3]
    by_cases e : doS H (tnS H) = 10
    · rw [if_pos e, if_pos e, if_pos e]
      exact as_eq hg' h' hz' e2 h'.2.2.2.2
    · rw [if_neg e, if_neg e, if_neg e]
      exact ad_eq (x0 := up (up x0 4 4294967295) 2 (tnS H)) hg' h' hal' e2 h36.symm
  · exact absurd hal' na
theorem turn_no (hg : GX g G y) (h : RX x0 x1 x2 x3 G) (hz : RZ G) (hal : ¬ aliv (G 173) (g 166 6)) : plX g y x0 x1 x2 x3 = (4294967293, up x0 4 4294967295, x1, x2, x3) := by
  have h6 := hg.2.2.2.1.z6
  unfold plX
  rw [hg.2.2.2.2.2.1]
  rcases ac_eq (P := g 166 6) (x0 := up x0 4 4294967295) (x3 := x3) (G := G) hg.1.hPl h.2.2.1 h6 h.2.2.2.1 (h6 ▸ hz.1) with ⟨a, _⟩ | ⟨_, e⟩
  · exact absurd a hal
  · rw [e, if_neg (by decide)]
end TURN
