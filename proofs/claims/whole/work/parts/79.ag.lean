/-! what a call changes, and what stays by that -/
def Ag (X J : Nat → Prop) (g g1 : Nat → Nat → Nat) : Prop := (∀ c, c ≠ 166 → ¬ X c → g1 c = g c) ∧ ∀ j, ¬ J j → g1 166 j = g 166 j
def gmC (c : Nat) : Prop := (12 ≤ c ∧ c ≤ 55 ∧ c ≠ 18) ∨ (60 ≤ c ∧ c ≤ 69) ∨ (167 ≤ c ∧ c ≤ 169) ∨ (171 ≤ c ∧ c ≤ 175) ∨ (189 ≤ c ∧ c ≤ 192)
def gmJ (j : Nat) : Prop := j = 0 ∨ j = 6 ∨ j = 7 ∨ j = 8 ∨ j = 9 ∨ j = 44 ∨ j = 48
def imC (c : Nat) : Prop := (70 ≤ c ∧ c ≤ 127) ∨ (193 ≤ c ∧ c ≤ 204)
section AG
variable {X J : Nat → Prop} {g g1 : Nat → Nat → Nat} {hl : Nat → Nat → Int64} {rt : Nat × Nat × Nat × Nat}
theorem Ag.nil (X J : Nat → Prop) (g : Nat → Nat → Nat) : Ag X J g g := ⟨fun _ _ _ => rfl, fun _ _ => rfl⟩
theorem Ag.u {h : Nat → Nat → Nat} (k : Ag X J g h) {c : Nat} (hc : X c) (hn : c ≠ 166) (j x : Nat) : Ag X J g (u2 h c j x) := ⟨fun a ha hx => by
  funext b
  unfold u2
  rw [if_neg (fun z : a = c => hx (z ▸ hc)), k.1 a ha hx], fun b hb => by
  unfold u2
  rw [if_neg (fun z : 166 = c => hn z.symm)]
  exact k.2 b hb⟩
theorem Ag.f {h : Nat → Nat → Nat} (k : Ag X J g h) {j : Nat} (hj : J j) (x : Nat) : Ag X J g (u2 h 166 j x) := ⟨fun a ha hx => by
  funext b
  unfold u2
  rw [if_neg ha, k.1 a ha hx], fun b hb => by
  unfold u2
  rw [if_pos rfl, if_neg (fun z : b = j => hb (z ▸ hj))]
  exact k.2 b hb⟩
theorem Ag.cp {h : Nat → Nat → Nat} (k : Ag X J g h) {c : Nat} (hc : X c) (hn : c ≠ 166) (lo n : Nat) (s : Nat → Nat) : Ag X J g (cpR h c lo n s) := ⟨fun a ha hx => by
  funext b
  unfold cpR
  rw [if_neg (fun z : a = c => hx (z ▸ hc)), k.1 a ha hx], fun b hb => by
  unfold cpR
  rw [if_neg (fun z : 166 = c => hn z.symm)]
  exact k.2 b hb⟩
theorem Ag.r {h : Nat → Nat → Nat} (k : Ag X J g h) {c : Nat} (hc : X c) (hn : c ≠ 166) (w : Nat → Nat) : Ag X J g (ur h c w) := ⟨fun a ha hx => by
  funext b
  unfold ur
  rw [if_neg (fun z : a = c => hx (z ▸ hc)), k.1 a ha hx], fun b hb => by
  unfold ur
  rw [if_neg (fun z : 166 = c => hn z.symm)]
  exact k.2 b hb⟩
theorem Ag.fl {h : Nat → Nat → Nat} (k : Ag X J g h) {c : Nat} (hc : X c) (hn : c ≠ 166) (v n : Nat) : Ag X J g (flR h c v n) := ⟨fun a ha hx => by
  funext b
  unfold flR
  rw [if_neg (fun z : a = c => hx (z ▸ hc)), k.1 a ha hx], fun b hb => by
  unfold flR
  rw [if_neg (fun z : 166 = c => hn z.symm)]
  exact k.2 b hb⟩
theorem Ag.em (k : Ag X J g g1) (h : ∀ c, 166 ≤ c → ¬ X c) (hj : ∀ j, ¬ J j) : Em g g1 := fun c hc => by
  by_cases e : c = 166
  · subst e; funext j; exact k.2 j (hj j)
  · exact k.1 c e (h c hc)
theorem Ag.lt (k : Ag X J g g1) (h : HLt g) (h1 : ¬ X 184) : HLt g1 := fun j hj => by rw [k.1 184 (by decide) h1]; exact h j hj
theorem Ag.ka (k : Ag X J g g1) (h : KA g) (h1 : ¬ X 177 ∧ ¬ X 178 ∧ ¬ X 180 ∧ ¬ X 181 ∧ ¬ X 182 ∧ ¬ J 15) : KA g1 := by
  obtain ⟨a, b, c, d, e, f⟩ := h1
  unfold KA WFc
  rw [k.1 177 (by decide) a, k.1 178 (by decide) b, k.1 180 (by decide) c, k.1 181 (by decide) d, k.1 182 (by decide) e, k.2 15 f]
  exact h
theorem Ag.ln (k : Ag X J g g1) {c m j : Nat} (h : LnE g c (g 166 j) (g m)) (h1 : ¬ X c ∧ ¬ X (c + 1) ∧ ¬ X m ∧ ¬ J j) (h2 : c ≠ 166 ∧ c + 1 ≠ 166 ∧ m ≠ 166) : LnE g1 c (g1 166 j) (g1 m) := by
  unfold LnE
  rw [k.1 c h2.1 h1.1, k.1 _ h2.2.1 h1.2.1, k.1 m h2.2.2 h1.2.2.1, k.2 j h1.2.2.2]
  exact h
theorem Ag.ac (k : Ag X J g g1) (h : AcE g) (h1 : ¬ X 132 ∧ ¬ X 133 ∧ ¬ X 134 ∧ ¬ X 205 ∧ ¬ J 71) : AcE g1 := by
  obtain ⟨a, b, c, d, e⟩ := h1
  unfold AcE
  rw [k.1 132 (by decide) a, k.1 133 (by decide) b, k.1 134 (by decide) c, k.1 205 (by decide) d, k.2 71 e]
  exact h
theorem Ag.tp (k : Ag X J g g1) (h : TpE g hl) (h1 : (∀ t, t < 6 → ¬ X (154 + 2 * t)) ∧ ¬ X 206 ∧ ¬ X 207) : TpE g1 hl := fun t ht => by
  rw [k.1 (154 + 2 * t) (by omega) (h1.1 t ht), k.1 206 (by decide) h1.2.1, k.1 207 (by decide) h1.2.2]
  exact h t ht
theorem Ag.tb (k : Ag X J g g1) (h : TbE g) (h6 : g 166 15 ≤ 6) (h1 : ¬ X 0 ∧ ¬ X 56 ∧ (∀ f, f < 6 → ¬ X (136 + 3 * f) ∧ ¬ X (136 + 3 * f + 1)) ∧ (¬ X 177 ∧ ¬ X 178 ∧ ¬ X 179 ∧ ¬ X 180 ∧ ¬ X 181 ∧ ¬ X 182) ∧ ¬ J 15) : TbE g1 := by
  obtain ⟨a, b, c, ⟨d1, d2, d3, d4, d5, d6⟩, e⟩ := h1
  have e178 := k.1 178 (by decide) d2
  have e179 := k.1 179 (by decide) d3
  have e180 := k.1 180 (by decide) d4
  have e181 := k.1 181 (by decide) d5
  have e182 := k.1 182 (by decide) d6
  have e177 := k.1 177 (by decide) d1
  refine ⟨by rw [k.1 0 (by decide) a, k.2 15 e]; exact h.1, by rw [k.1 56 (by decide) b]; exact h.2.1, fun f hf => ?_⟩
  rw [k.2 15 e] at hf
  unfold TbK
  rw [e177, kcL_cg e178 e180 e181 e182, lwF_cg e178 e179, lwF_cg e178 e179, k.1 (136 + 3 * f) (by omega) (c f (by omega)).1, k.1 (136 + 3 * f + 1) (by omega) (c f (by omega)).2]
  exact h.2.2 f hf
theorem Ag.ga (k : Ag X J g g1) (mi : MG g) (hx : ∀ c, gmC c → ¬ X c) (hj : ∀ j, gmJ j → ¬ J j) : GA g g1 := ⟨congrFun (k.1 13 (by omega) (hx _ (by unfold gmC; omega))) 5, fun i hi => by rw [k.1 (19 + 2 * i) (by omega) (hx _ (by unfold gmC; omega))], fun i q hi hq => by rw [k.1 (19 + 2 * i + 1) (by omega) (hx _ (by unfold gmC; omega))], fun i _ => congrFun (k.1 15 (by omega) (hx _ (by unfold gmC; omega))) i, fun i _ => congrFun (k.1 16 (by omega) (hx _ (by unfold gmC; omega))) i, fun i _ => congrFun (k.1 17 (by omega) (hx _ (by unfold gmC; omega))) i, fun i j hi h1 h2 => by rw [k.1 (60 + 2 * i) (by omega) (hx _ (by unfold gmC; omega))], fun i q hi hq => by rw [k.1 (60 + 2 * i + 1) (by omega) (hx _ (by unfold gmC; omega))], congrFun (k.1 12 (by omega) (hx _ (by unfold gmC; omega))) 2, congrFun (k.1 44 (by omega) (hx _ (by unfold gmC; omega))) 2, congrFun (k.1 44 (by omega) (hx _ (by unfold gmC; omega))) 3, congrFun (k.1 45 (by omega) (hx _ (by unfold gmC; omega))) 1, fun q _ => congrFun (k.1 46 (by omega) (hx _ (by unfold gmC; omega))) q, fun j _ => congrFun (k.1 47 (by omega) (hx _ (by unfold gmC; omega))) j, congrFun (k.1 48 (by omega) (hx _ (by unfold gmC; omega))) 1, fun q _ => congrFun (k.1 49 (by omega) (hx _ (by unfold gmC; omega))) q, congrFun (k.1 50 (by omega) (hx _ (by unfold gmC; omega))) 1, fun q _ => congrFun (k.1 51 (by omega) (hx _ (by unfold gmC; omega))) q, congrFun (k.1 52 (by omega) (hx _ (by unfold gmC; omega))) 1, fun q _ => congrFun (k.1 53 (by omega) (hx _ (by unfold gmC; omega))) q, congrFun (k.1 54 (by omega) (hx _ (by unfold gmC; omega))) 1, fun q _ => congrFun (k.1 55 (by omega) (hx _ (by unfold gmC; omega))) q, (k.2 0 (hj 0 (by unfold gmJ; omega)) : g1 166 0 = g 166 0), (k.2 6 (hj 6 (by unfold gmJ; omega)) : g1 166 6 = g 166 6), (k.2 7 (hj 7 (by unfold gmJ; omega)) : g1 166 7 = g 166 7), (k.2 8 (hj 8 (by unfold gmJ; omega)) : g1 166 8 = g 166 8), (k.2 9 (hj 9 (by unfold gmJ; omega)) : g1 166 9 = g 166 9), (k.2 44 (hj 44 (by unfold gmJ; omega)) : g1 166 44 = g 166 44), (k.2 48 (hj 48 (by unfold gmJ; omega)) : g1 166 48 = g 166 48), fun j _ => congrFun (k.1 167 (by omega) (hx _ (by unfold gmC; omega))) j, fun j _ => congrFun (k.1 168 (by omega) (hx _ (by unfold gmC; omega))) j, fun j _ => congrFun (k.1 169 (by omega) (hx _ (by unfold gmC; omega))) j, fun j _ => congrFun (k.1 171 (by omega) (hx _ (by unfold gmC; omega))) j, fun j _ => congrFun (k.1 172 (by omega) (hx _ (by unfold gmC; omega))) j, fun j _ => congrFun (k.1 173 (by omega) (hx _ (by unfold gmC; omega))) j, fun j _ => congrFun (k.1 174 (by omega) (hx _ (by unfold gmC; omega))) j, fun j _ => congrFun (k.1 189 (by omega) (hx _ (by unfold gmC; omega))) j, fun j _ => congrFun (k.1 190 (by omega) (hx _ (by unfold gmC; omega))) j, fun j _ => congrFun (k.1 191 (by omega) (hx _ (by unfold gmC; omega))) j, fun j _ => congrFun (k.1 192 (by omega) (hx _ (by unfold gmC; omega))) j, fun j _ => congrFun (k.1 175 (by omega) (hx _ (by unfold gmC; omega))) j, fun j hj => by
    have z : g1 175 j = g 175 j := congrFun (k.1 175 (by omega) (hx _ (by unfold gmC; omega))) j
    rw [z]
    exact mi.b175 j hj⟩
theorem Ag.gai (k : Ag X J g g1) (mi : MG (imV g)) (hx : ∀ c, imC c → ¬ X c) (hj : ∀ j, 50 ≤ j ∧ j ≤ 58 → ¬ J j) : GA (imV g) (imV g1) := ⟨congrFun (k.1 71 (by omega) (hx _ (by unfold imC; omega))) 5, fun i hi => by rw [imV_c _ (by omega), imV_c _ (by omega), k.1 (19 + 2 * i + 58) (by omega) (hx _ (by unfold imC; omega))], fun i q hi hq => by rw [imV_c _ (by omega), imV_c _ (by omega), k.1 (19 + 2 * i + 1 + 58) (by omega) (hx _ (by unfold imC; omega))], fun i _ => congrFun (k.1 73 (by omega) (hx _ (by unfold imC; omega))) i, fun i _ => congrFun (k.1 74 (by omega) (hx _ (by unfold imC; omega))) i, fun i _ => congrFun (k.1 75 (by omega) (hx _ (by unfold imC; omega))) i, fun i j hi h1 h2 => by rw [imV_c _ (by omega), imV_c _ (by omega), k.1 (60 + 2 * i + 58) (by omega) (hx _ (by unfold imC; omega))], fun i q hi hq => by rw [imV_c _ (by omega), imV_c _ (by omega), k.1 (60 + 2 * i + 1 + 58) (by omega) (hx _ (by unfold imC; omega))], congrFun (k.1 70 (by omega) (hx _ (by unfold imC; omega))) 2, congrFun (k.1 102 (by omega) (hx _ (by unfold imC; omega))) 2, congrFun (k.1 102 (by omega) (hx _ (by unfold imC; omega))) 3, congrFun (k.1 103 (by omega) (hx _ (by unfold imC; omega))) 1, fun q _ => congrFun (k.1 104 (by omega) (hx _ (by unfold imC; omega))) q, fun j _ => congrFun (k.1 105 (by omega) (hx _ (by unfold imC; omega))) j, congrFun (k.1 106 (by omega) (hx _ (by unfold imC; omega))) 1, fun q _ => congrFun (k.1 107 (by omega) (hx _ (by unfold imC; omega))) q, congrFun (k.1 108 (by omega) (hx _ (by unfold imC; omega))) 1, fun q _ => congrFun (k.1 109 (by omega) (hx _ (by unfold imC; omega))) q, congrFun (k.1 110 (by omega) (hx _ (by unfold imC; omega))) 1, fun q _ => congrFun (k.1 111 (by omega) (hx _ (by unfold imC; omega))) q, congrFun (k.1 112 (by omega) (hx _ (by unfold imC; omega))) 1, fun q _ => congrFun (k.1 113 (by omega) (hx _ (by unfold imC; omega))) q, (k.2 52 (hj 52 (by omega)) : g1 166 52 = g 166 52), (k.2 53 (hj 53 (by omega)) : g1 166 53 = g 166 53), (k.2 54 (hj 54 (by omega)) : g1 166 54 = g 166 54), (k.2 55 (hj 55 (by omega)) : g1 166 55 = g 166 55), (k.2 56 (hj 56 (by omega)) : g1 166 56 = g 166 56), (k.2 57 (hj 57 (by omega)) : g1 166 57 = g 166 57), (k.2 58 (hj 58 (by omega)) : g1 166 58 = g 166 58), fun j _ => congrFun (k.1 193 (by omega) (hx _ (by unfold imC; omega))) j, fun j _ => congrFun (k.1 194 (by omega) (hx _ (by unfold imC; omega))) j, fun j _ => congrFun (k.1 195 (by omega) (hx _ (by unfold imC; omega))) j, fun j _ => congrFun (k.1 196 (by omega) (hx _ (by unfold imC; omega))) j, fun j _ => congrFun (k.1 197 (by omega) (hx _ (by unfold imC; omega))) j, fun j _ => congrFun (k.1 198 (by omega) (hx _ (by unfold imC; omega))) j, fun j _ => congrFun (k.1 199 (by omega) (hx _ (by unfold imC; omega))) j, fun j _ => congrFun (k.1 201 (by omega) (hx _ (by unfold imC; omega))) j, fun j _ => congrFun (k.1 202 (by omega) (hx _ (by unfold imC; omega))) j, fun j _ => congrFun (k.1 203 (by omega) (hx _ (by unfold imC; omega))) j, fun j _ => congrFun (k.1 204 (by omega) (hx _ (by unfold imC; omega))) j, fun j _ => congrFun (k.1 200 (by omega) (hx _ (by unfold imC; omega))) j, fun j hj => by
    have z : imV g1 175 j = g 200 j := congrFun (k.1 200 (by omega) (hx _ (by unfold imC; omega))) j
    rw [z]
    exact mi.b175 j hj⟩
theorem Ag.gm (k : Ag X J g g1) (m : MI g) (h : GMC g) (hx : ∀ c, gmC c → ¬ X c) (hj : ∀ j, gmJ j → ¬ J j) : GMC g1 := GMC.cg m.mg h (k.ga m.mg hx hj)
theorem Ag.im (k : Ag X J g g1) (h : Inv g hl rt) (hx : ∀ c, imC c → ¬ X c) (hj : ∀ j, 50 ≤ j ∧ j ≤ 58 → ¬ J j) (h15 : g 166 15 ≤ g1 166 15) : g1 166 50 = 1 → MG (imV g1) ∧ GMC (imV g1) ∧ THo (g1 166 15) (g1 166 51) rt.2.2.2 := fun z => by
  rw [k.2 50 (hj 50 (by omega))] at z
  obtain ⟨a, b, c⟩ := h.im z
  have e := k.gai a hx hj
  refine ⟨a.cg e, GMC.cg a b e, ?_⟩
  rw [k.2 51 (hj 51 (by omega))]
  rcases c with c | c
  · exact Or.inl c
  · exact Or.inr ⟨by omega, c.2⟩
/-- all but what is named stays -/
theorem Ag.inv (k : Ag X J g g1) (h : Inv g hl rt) (m : MI g1) (h1 : ¬ X 184 ∧ ¬ J 33) (ht : (¬ X 177 ∧ ¬ X 178 ∧ ¬ X 179 ∧ ¬ X 180 ∧ ¬ X 181 ∧ ¬ X 182) ∧ ¬ J 15 ∧ ¬ X 0 ∧ ¬ X 56 ∧ (∀ f, f < 6 → ¬ X (136 + 3 * f) ∧ ¬ X (136 + 3 * f + 1))) (h16 : ¬ J 16) (hi : (∀ c, imC c → ¬ X c) ∧ ∀ j, 50 ≤ j ∧ j ≤ 58 → ¬ J j) (sp : LnE g1 1 (g1 166 1) (g1 170)) (tx : LnE g1 3 (g1 166 17) (g1 176)) (gm : GMC g1) (ac : AcE g1) (tp : TpE g1 hl) (k59 : ∀ j, j < 5 → g1 59 j < 4096) (k18 : ∀ j, j < 7 → g1 18 j < 4096) : Inv g1 hl rt := by
  obtain ⟨t1, t2, t3, t4, t5⟩ := ht
  have e15 := k.2 15 t2
  exact ⟨m, k.lt h.lt h1.1, (k.2 33 h1.2).trans h.lr, k.ka h.ka ⟨t1.1, t1.2.1, t1.2.2.2.1, t1.2.2.2.2.1, t1.2.2.2.2.2, t2⟩, by rw [e15, k.2 16 h16]; exact h.th, sp, tx, gm, ac, tp, k.tb h.tb h.mi.hTb ⟨t3, t4, t5, t1, t2⟩, (by rw [k.2 50 (hi.2 50 (by omega))]; exact h.i1), (by rw [k.1 0 (by decide) t3, k.2 50 (hi.2 50 (by omega))]; exact h.i2), k.im h hi.1 hi.2 (by omega), k59, k18⟩
end AG
