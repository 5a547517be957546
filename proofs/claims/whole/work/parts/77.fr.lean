/-! what no call's answer hangs on may change -/
def okC (c : Nat) : Prop := c < 18 ∨ (19 ≤ c ∧ c ≤ 57) ∨ (60 ≤ c ∧ c ≤ 127) ∨ (132 ≤ c ∧ c ≤ 137) ∨ c = 139 ∨ c = 140 ∨ c = 142 ∨ c = 143 ∨ c = 145 ∨ c = 146 ∨ c = 148 ∨ c = 149 ∨ c = 151 ∨ c = 152 ∨ (154 ≤ c ∧ c ≤ 165) ∨ (167 ≤ c ∧ c ≤ 172) ∨ c = 174 ∨ (176 ≤ c ∧ c ≤ 184) ∨ 189 ≤ c
def Fr (g g1 : Nat → Nat → Nat) : Prop := (∀ c, okC c → g1 c = g c) ∧ (∀ j, j ≠ 34 → j ≠ 36 → j ≠ 37 → j ≠ 38 → j ≠ 39 → j ≠ 42 → j ≠ 43 → g1 166 j = g 166 j) ∧ (∀ b, b < 5 → g1 173 b = g 173 b) ∧ ∀ k, k < g 166 9 → g1 175 k = g 175 k
section FR
variable {g g1 : Nat → Nat → Nat} {hl : Nat → Nat → Int64} {rt : Nat × Nat × Nat × Nat}
theorem Fr.refl (g : Nat → Nat → Nat) : Fr g g := ⟨fun _ _ => rfl, fun _ _ _ _ _ _ _ _ => rfl, fun _ _ => rfl, fun _ _ => rfl⟩
theorem Fr.trans {a b c : Nat → Nat → Nat} (h : Fr a b) (k : Fr b c) : Fr a c := ⟨fun x hx => (k.1 x hx).trans (h.1 x hx), fun j h1 h2 h3 h4 h5 h6 h7 => (k.2.1 j h1 h2 h3 h4 h5 h6 h7).trans (h.2.1 j h1 h2 h3 h4 h5 h6 h7), fun j hj => (k.2.2.1 j hj).trans (h.2.2.1 j hj), fun j hj => (k.2.2.2 j (by rw [h.2.1 9 (by decide) (by decide) (by decide) (by decide) (by decide) (by decide) (by decide)]; exact hj)).trans (h.2.2.2 j hj)⟩
theorem Fr.f (k : Fr g g1) {j : Nat} (h : (j < 34 ∨ j = 35 ∨ j = 40 ∨ j = 41 ∨ 44 ≤ j)) : g1 166 j = g 166 j := k.2.1 j (by omega) (by omega) (by omega) (by omega) (by omega) (by omega) (by omega)
theorem imV_c (g : Nat → Nat → Nat) {a : Nat} (h : a < 70) (b : Nat) : imV g a b = g (a + 58) b := if_pos h
theorem Fr.ga (k : Fr g g1) (m : MI g1) : GA g g1 := ⟨by rw [k.1 13 (by unfold okC; omega)], fun i hi => by rw [k.1 (19 + 2 * i) (by unfold okC; omega)], fun i q hi hq => by rw [k.1 (19 + 2 * i + 1) (by unfold okC; omega)], fun i hi => by rw [k.1 15 (by unfold okC; omega)], fun i hi => by rw [k.1 16 (by unfold okC; omega)], fun i hi => by rw [k.1 17 (by unfold okC; omega)], fun i j hi h1 h2 => by rw [k.1 (60 + 2 * i) (by unfold okC; omega)], fun i q hi hq => by rw [k.1 (60 + 2 * i + 1) (by unfold okC; omega)], by rw [k.1 12 (by unfold okC; omega)], by rw [k.1 44 (by unfold okC; omega)], by rw [k.1 44 (by unfold okC; omega)], by rw [k.1 45 (by unfold okC; omega)], fun q hq => by rw [k.1 46 (by unfold okC; omega)], fun j hj => by rw [k.1 47 (by unfold okC; omega)], by rw [k.1 48 (by unfold okC; omega)], fun q hq => by rw [k.1 49 (by unfold okC; omega)], by rw [k.1 50 (by unfold okC; omega)], fun q hq => by rw [k.1 51 (by unfold okC; omega)], by rw [k.1 52 (by unfold okC; omega)], fun q hq => by rw [k.1 53 (by unfold okC; omega)], by rw [k.1 54 (by unfold okC; omega)], fun q hq => by rw [k.1 55 (by unfold okC; omega)], k.f (by decide), k.f (by decide), k.f (by decide), k.f (by decide), k.f (by decide), k.f (by decide), k.f (by decide), fun j hj => by rw [k.1 167 (by unfold okC; omega)], fun j hj => by rw [k.1 168 (by unfold okC; omega)], fun j hj => by rw [k.1 169 (by unfold okC; omega)], fun j hj => by rw [k.1 171 (by unfold okC; omega)], fun j hj => by rw [k.1 172 (by unfold okC; omega)], k.2.2.1, fun j hj => by rw [k.1 174 (by unfold okC; omega)], fun j hj => by rw [k.1 189 (by unfold okC; omega)], fun j hj => by rw [k.1 190 (by unfold okC; omega)], fun j hj => by rw [k.1 191 (by unfold okC; omega)], fun j hj => by rw [k.1 192 (by unfold okC; omega)], k.2.2.2, m.hrw⟩
theorem Fr.gai (k : Fr g g1) (mi : MG (imV g)) : GA (imV g) (imV g1) := ⟨congrFun (k.1 71 (by unfold okC; omega)) 5, fun i hi => by rw [imV_c _ (by omega), imV_c _ (by omega), k.1 (19 + 2 * i + 58) (by unfold okC; omega)], fun i q hi hq => by rw [imV_c _ (by omega), imV_c _ (by omega), k.1 (19 + 2 * i + 1 + 58) (by unfold okC; omega)], fun i _ => congrFun (k.1 73 (by unfold okC; omega)) i, fun i _ => congrFun (k.1 74 (by unfold okC; omega)) i, fun i _ => congrFun (k.1 75 (by unfold okC; omega)) i, fun i j hi h1 h2 => by rw [imV_c _ (by omega), imV_c _ (by omega), k.1 (60 + 2 * i + 58) (by unfold okC; omega)], fun i q hi hq => by rw [imV_c _ (by omega), imV_c _ (by omega), k.1 (60 + 2 * i + 1 + 58) (by unfold okC; omega)], congrFun (k.1 70 (by unfold okC; omega)) 2, congrFun (k.1 102 (by unfold okC; omega)) 2, congrFun (k.1 102 (by unfold okC; omega)) 3, congrFun (k.1 103 (by unfold okC; omega)) 1, fun q _ => congrFun (k.1 104 (by unfold okC; omega)) q, fun j _ => congrFun (k.1 105 (by unfold okC; omega)) j, congrFun (k.1 106 (by unfold okC; omega)) 1, fun q _ => congrFun (k.1 107 (by unfold okC; omega)) q, congrFun (k.1 108 (by unfold okC; omega)) 1, fun q _ => congrFun (k.1 109 (by unfold okC; omega)) q, congrFun (k.1 110 (by unfold okC; omega)) 1, fun q _ => congrFun (k.1 111 (by unfold okC; omega)) q, congrFun (k.1 112 (by unfold okC; omega)) 1, fun q _ => congrFun (k.1 113 (by unfold okC; omega)) q, (k.f (by decide) : g1 166 52 = g 166 52), (k.f (by decide) : g1 166 53 = g 166 53), (k.f (by decide) : g1 166 54 = g 166 54), (k.f (by decide) : g1 166 55 = g 166 55), (k.f (by decide) : g1 166 56 = g 166 56), (k.f (by decide) : g1 166 57 = g 166 57), (k.f (by decide) : g1 166 58 = g 166 58), fun j _ => congrFun (k.1 193 (by unfold okC; omega)) j, fun j _ => congrFun (k.1 194 (by unfold okC; omega)) j, fun j _ => congrFun (k.1 195 (by unfold okC; omega)) j, fun j _ => congrFun (k.1 196 (by unfold okC; omega)) j, fun j _ => congrFun (k.1 197 (by unfold okC; omega)) j, fun j _ => congrFun (k.1 198 (by unfold okC; omega)) j, fun j _ => congrFun (k.1 199 (by unfold okC; omega)) j, fun j _ => congrFun (k.1 201 (by unfold okC; omega)) j, fun j _ => congrFun (k.1 202 (by unfold okC; omega)) j, fun j _ => congrFun (k.1 203 (by unfold okC; omega)) j, fun j _ => congrFun (k.1 204 (by unfold okC; omega)) j, fun j _ => congrFun (k.1 200 (by unfold okC; omega)) j, fun j hj => by
    have z : imV g1 175 j = g 200 j := congrFun (k.1 200 (by unfold okC; omega)) j
    rw [z]
    exact mi.b175 j hj⟩
theorem kcL_cg (h1 : g1 178 = g 178) (h2 : g1 180 = g 180) (h3 : g1 181 = g 181) (h4 : g1 182 = g 182) (o : Nat) : ∀ n, kcL g1 o n = kcL g o n := by
  intro n
  induction n with
  | zero => rfl
  | succ n ih =>
    unfold kcL sgL
    rw [ih, h1, h2, h3, h4]
theorem lwF_cg (h1 : g1 178 = g 178) (h2 : g1 179 = g 179) (o w : Nat) : ∀ n, lwF g1 o w n = lwF g o w n := by
  intro n
  induction n with
  | zero => rfl
  | succ n ih =>
    unfold lwF
    rw [ih, h1, h2]
theorem TbE.fr (h : TbE g) (k : Fr g g1) (h6 : g 166 15 ≤ 6) : TbE g1 := by
  have e178 := k.1 178 (by unfold okC; omega)
  have e179 := k.1 179 (by unfold okC; omega)
  have e180 := k.1 180 (by unfold okC; omega)
  have e181 := k.1 181 (by unfold okC; omega)
  have e182 := k.1 182 (by unfold okC; omega)
  have e177 := k.1 177 (by unfold okC; omega)
  refine ⟨by rw [k.1 0 (by unfold okC; omega), k.f (by decide)]; exact h.1, by rw [k.1 56 (by unfold okC; omega)]; exact h.2.1, fun f hf => ?_⟩
  rw [k.f (by decide)] at hf
  unfold TbK
  rw [e177, kcL_cg e178 e180 e181 e182, lwF_cg e178 e179, lwF_cg e178 e179, k.1 (136 + 3 * f) (by unfold okC; omega), k.1 (136 + 3 * f + 1) (by unfold okC; omega)]
  exact h.2.2 f hf
theorem Inv.fr (h : Inv g hl rt) (k : Fr g g1) (m : MI g1) (h59 : ∀ j, j < 5 → g1 59 j < 4096) (h18 : ∀ j, j < 7 → g1 18 j < 4096) : Inv g1 hl rt := by
  have hm := h.mi
  refine ⟨m, fun j hj => by rw [k.1 184 (by unfold okC; omega)]; exact h.lt j hj, by rw [k.f (by decide)]; exact h.lr, ?_, by rw [k.f (by decide), k.f (by decide)]; exact h.th, h.sp.cg (k.f (by decide)) (by rw [k.1 1 (by unfold okC; omega)]) (fun i _ => by rw [k.1 2 (by unfold okC; omega)]) (fun i _ => by rw [k.1 170 (by unfold okC; omega)]), h.tx.cg (k.f (by decide)) (by rw [k.1 3 (by unfold okC; omega)]) (fun i _ => by rw [k.1 4 (by unfold okC; omega)]) (fun i _ => by rw [k.1 176 (by unfold okC; omega)]), GMC.cg hm.mg h.gm (k.ga m), ?_, ?_, h.tb.fr k hm.hTb, by rw [k.f (by decide)]; exact h.i1, by rw [k.1 0 (by unfold okC; omega), k.f (by decide)]; exact h.i2, fun z => ?_, h59, h18⟩
  · unfold KA WFc
    rw [k.f (by decide), k.1 177 (by unfold okC; omega), k.1 178 (by unfold okC; omega), k.1 180 (by unfold okC; omega), k.1 181 (by unfold okC; omega), k.1 182 (by unfold okC; omega)]
    exact h.ka
  · unfold AcE
    rw [k.1 132 (by unfold okC; omega), k.1 133 (by unfold okC; omega), k.1 134 (by unfold okC; omega), k.1 205 (by unfold okC; omega), k.f (by decide)]
    exact h.ac
  · intro t ht
    rw [k.1 (154 + 2 * t) (by unfold okC; omega), k.1 206 (by unfold okC; omega), k.1 207 (by unfold okC; omega)]
    exact h.tp t ht
  · rw [k.f (by decide)] at z
    obtain ⟨a, b, c⟩ := h.im z
    refine ⟨a.cg (k.gai a), GMC.cg a b (k.gai a), ?_⟩
    rw [k.f (by decide), k.f (by decide)]
    exact c
end FR
