/-! a table made: the old ones stay, the new one is the same on both sides -/
theorem sgR_cg {s s' : Nat → Nat} {lo k : Nat} (h : ∀ i, i < k → s' (lo + i) = s (lo + i)) : sgR s' lo k = sgR s lo k := by
  unfold sgR
  exact List.map_congr_left (fun i hi => h i (List.mem_range.mp hi))
theorem WFc.cg {g F : Nat → Nat → Nat} {c : Nat} (h : WFc g c) (e0 : F 180 c = g 180 c) (e1 : F 181 c = g 181 c) (e2 : ∀ i, g 180 c ≤ i → i < g 181 c → F 182 i = g 182 i) : WFc F c := by
  obtain ⟨a1, a2, a3, a4, a5⟩ := h
  have key : ∀ k, k ≤ g 181 c - g 180 c → htF (F 182) (g 180 c) k = htF (g 182) (g 180 c) k := fun k hk => by
    rw [htF_L, htF_L, sgR_cg (fun i hi => e2 _ (by omega) (by omega))]
  unfold WFc
  rw [e0, e1]
  exact ⟨a1, a2, a3, by rw [key _ (Nat.le_refl _)]; exact a4, fun k h hk e => a5 k h hk (by rw [← key k hk]; exact e)⟩
theorem sgL_cgp {g F : Nat → Nat → Nat} {c : Nat} (e0 : F 180 c = g 180 c) (e1 : F 181 c = g 181 c) (e2 : ∀ i, g 180 c ≤ i → i < g 181 c → F 182 i = g 182 i) : sgL F c = sgL g c := by
  unfold sgL
  rw [e0, e1]
  exact List.map_congr_left (fun i hi => e2 _ (by omega) (by have := List.mem_range.mp hi; omega))
theorem kcL_cgp {g F : Nat → Nat → Nat} {o : Nat} : ∀ n, (∀ j, j < n → F 178 (o + j) = g 178 (o + j)) → (∀ j, j < n → g 178 (o + j) = 0 → sgL F (o + j) = sgL g (o + j)) → kcL F o n = kcL g o n := by
  intro n
  induction n with
  | zero => intro _ _; rfl
  | succ n ih =>
    intro h1 h2
    unfold kcL
    rw [ih (fun j hj => h1 j (by omega)) (fun j hj => h2 j (by omega)), h1 n (by omega)]
    by_cases z : g 178 (o + n) = 0
    · rw [if_pos z, if_pos z, h2 n (by omega) z]
    · rw [if_neg z, if_neg z]
theorem lwF_cgp {g F : Nat → Nat → Nat} {o w : Nat} : ∀ n, (∀ j, j < n → F 178 (o + j) = g 178 (o + j)) → (∀ j, j < n → F 179 (o + j) = g 179 (o + j)) → lwF F o w n = lwF g o w n := by
  intro n
  induction n with
  | zero => intro _ _; rfl
  | succ n ih =>
    intro h1 h2
    unfold lwF
    rw [ih (fun j hj => h1 j (by omega)) (fun j hj => h2 j (by omega)), h1 n (by omega), h2 n (by omega)]
/-- the tables before table n are the same -/
def OLD (g F : Nat → Nat → Nat) (n : Nat) : Prop := (∀ f, f < n → F 177 f = g 177 f) ∧ (∀ a j, 178 ≤ a → a ≤ 181 → j < 10 * n → F a j = g a j) ∧ (∀ i, i < 100 * n → F 182 i = g 182 i) ∧ ∀ f, f < n → F (136 + 3 * f) = g (136 + 3 * f) ∧ F (136 + 3 * f + 1) = g (136 + 3 * f + 1)
section OL
variable {g F : Nat → Nat → Nat} {n : Nat}
theorem OLD.wf (o : OLD g F n) (hm : MI g) (hn : n ≤ g 166 15) (ka : KA g) {f j : Nat} (hf : f < n) (hj : j < g 177 f) (h0 : g 178 (10 * f + j) = 0) : WFc F (10 * f + j) ∧ 100 * f ≤ F 180 (10 * f + j) ∧ F 181 (10 * f + j) ≤ 100 * f + 100 := by
  obtain ⟨o1, o2, o3, o4⟩ := o
  have h15 := hm.hTb
  have hj10 := hm.hcl f (by omega)
  obtain ⟨a, b, c⟩ := ka f (by omega) j hj h0
  have e0 := o2 180 (10 * f + j) (by decide) (by decide) (by omega)
  have e1 := o2 181 (10 * f + j) (by decide) (by decide) (by omega)
  exact ⟨a.cg e0 e1 (fun i _ hi => o3 i (by omega)), by rw [e0]; exact b, by rw [e1]; exact c⟩
theorem OLD.tb (o : OLD g F n) (hm : MI g) (hn : n ≤ g 166 15) (ka : KA g) (tb : TbE g) {f : Nat} (hf : f < n) : TbK F f := by
  obtain ⟨o1, o2, o3, o4⟩ := o
  have h15 := hm.hTb
  have hj10 := hm.hcl f (by omega)
  have e8 : ∀ j, j < g 177 f → F 178 (10 * f + j) = g 178 (10 * f + j) := fun j hj => o2 178 _ (by decide) (by decide) (by omega)
  have e9 : ∀ j, j < g 177 f → F 179 (10 * f + j) = g 179 (10 * f + j) := fun j hj => o2 179 _ (by decide) (by decide) (by omega)
  have es : ∀ j, j < g 177 f → g 178 (10 * f + j) = 0 → sgL F (10 * f + j) = sgL g (10 * f + j) := fun j hj z => by
    obtain ⟨a, b, c⟩ := ka f (by omega) j hj z
    exact sgL_cgp (o2 180 _ (by decide) (by decide) (by omega)) (o2 181 _ (by decide) (by decide) (by omega)) (fun i _ hi => o3 i (by omega))
  unfold TbK
  rw [o1 f hf, kcL_cgp _ e8 es, lwF_cgp _ e8 e9, lwF_cgp _ e8 e9, (o4 f hf).1, (o4 f hf).2]
  exact tb.2.2 f (by omega)
theorem sgR_new {s : Nat → Nat} {l0 : List Nat} {b lo hi : Nat} (e : ∀ i, b ≤ i → i < b + l0.length → s i = l0.getD (i - b) 0) (h1 : b ≤ lo) (h2 : lo ≤ hi) (h3 : hi ≤ b + l0.length) : sgR s lo (hi - lo) = (l0.drop (lo - b)).take (hi - lo) := by
  unfold sgR
  apply List.ext_getElem
  · rw [List.length_map, List.length_range, List.length_take, List.length_drop]; omega
  · intro i hi1 hi2
    have hi3 := hi1
    rw [List.length_map, List.length_range] at hi3
    rw [List.getElem_map, List.getElem_range, List.getElem_take, List.getElem_drop, e _ (by omega) (by omega), show lo + i - b = lo - b + i by omega, List.getD_eq_getElem?_getD, List.getElem?_eq_getElem (by omega)]
    rfl
/-- the new table -/
def NEW (F : Nat → Nat → Nat) (n : Nat) (l0 : List Nat) (cs : List C4) : Prop := F 177 n = cs.length ∧ (∀ j, j < cs.length → CLD F (10 * n + j) (c4 cs j)) ∧ (∀ i, 100 * n ≤ i → i < 100 * n + l0.length → F 182 i = l0.getD (i - 100 * n) 0) ∧ l0.length ≤ 100
theorem NEW.sg {l0 lk : List Nat} {cs : List C4} {le li : Nat} (w : NEW F n l0 cs) (h : CSR (100 * n) l0 cs lk le li) {j : Nat} (hj : j < cs.length) (h0 : (c4 cs j).1 = 0) : sgL F (10 * n + j) = sgN cs l0 (100 * n) j := by
  obtain ⟨_, w2, w3, _⟩ := w
  obtain ⟨a1, a2, a3, _⟩ := h.2.2.2.1 j hj h0
  obtain ⟨c1, c2⟩ := (w2 j hj).2.2 h0
  show sgR (F 182) (F 180 (10 * n + j)) (F 181 (10 * n + j) - F 180 (10 * n + j)) = _
  rw [c1, c2]
  exact sgR_new w3 a1 a2 a3
theorem NEW.kc {l0 lk : List Nat} {cs : List C4} {le li : Nat} (w : NEW F n l0 cs) (h : CSR (100 * n) l0 cs lk le li) : ∀ m, m ≤ cs.length → kcL F (10 * n) m = kcN cs l0 (100 * n) m := by
  intro m
  induction m with
  | zero => intro _; rfl
  | succ m ih =>
    intro hm
    unfold kcL kcN
    rw [ih (by omega), (w.2.1 m (by omega)).1]
    by_cases z : (c4 cs m).1 = 0
    · rw [if_pos z, if_pos z, w.sg h (by omega) z]
    · rw [if_neg z, if_neg z]
theorem NEW.lw {l0 : List Nat} {cs : List C4} (w : NEW F n l0 cs) {v : Nat} (hv : v ≠ 0) : ∀ m, m ≤ cs.length → lwF F (10 * n) v m = lwN cs v m := by
  intro m
  induction m with
  | zero => intro _; rfl
  | succ m ih =>
    intro hm
    have c := w.2.1 m (by omega)
    unfold lwF lwN
    rw [ih (by omega), c.1]
    by_cases z : (c4 cs m).1 = v
    · rw [if_pos z, if_pos z, c.2.1 (by rw [z]; exact hv)]
    · rw [if_neg z, if_neg z]
theorem NEW.wf {l0 lk : List Nat} {cs : List C4} {le li : Nat} (w : NEW F n l0 cs) (hn : n < 6) (h : CSR (100 * n) l0 cs lk le li) {j : Nat} (hj : j < cs.length) (h0 : F 178 (10 * n + j) = 0) : WFc F (10 * n + j) ∧ 100 * n ≤ F 180 (10 * n + j) ∧ F 181 (10 * n + j) ≤ 100 * n + 100 := by
  have cd := w.2.1 j hj
  have hl := w.2.2.2
  rw [cd.1] at h0
  obtain ⟨a1, a2, a3, a4⟩ := h.2.2.2.1 j hj h0
  obtain ⟨c1, c2⟩ := cd.2.2 h0
  have s := w.sg h hj h0
  have s : sgR (F 182) (F 180 (10 * n + j)) (F 181 (10 * n + j) - F 180 (10 * n + j)) = _ := s
  refine ⟨⟨by omega, by omega, by omega, ?_, fun k x hk e => ?_⟩, by omega, by omega⟩
  · rw [htF_L, s]; exact a4.1
  · rw [htF_L, ← sgR_take _ _ _ _ hk, s] at e
    have := a4.2 k x e
    omega
theorem NEW.tb {l0 lk : List Nat} {cs : List C4} {le li : Nat} (w : NEW F n l0 cs) (h : CSR (100 * n) l0 cs lk le li) (hk : lk.length ≤ 100) (e3 : F (136 + 3 * n) 3 = le) (e4 : F (136 + 3 * n) 4 = li) (e2 : F (136 + 3 * n) 2 = lk.length) (ek : ∀ k, k < lk.length → F (136 + 3 * n + 1) k = trS (lk.getD k 0)) : TbK F n := by
  unfold TbK
  rw [w.1, w.kc h _ (Nat.le_refl _), w.lw (by decide) _ (Nat.le_refl _), w.lw (by decide) _ (Nat.le_refl _), ← h.1, ← h.2.1, ← h.2.2.1]
  exact ⟨e3, e4, e2, hk, ek, h.2.2.2.2⟩
end OL
section PF
variable (g : Nat → Nat → Nat) (p dg b : Nat) (l : List Nat) (w : Nat → Nat) (n op : Nat)
theorem PT_c {a : Nat} (h1 : a ≠ 166) (h2 : a ≠ 182) (h3 : a ≠ 183) : PT g p dg b l w n op a = g a := by
  funext c
  unfold PT
  rw [if_neg h1, if_neg h2, if_neg h3]
theorem PT_6 {j : Nat} (h : ¬ (j = 18 ∨ j = 19 ∨ j = 28 ∨ j = 29 ∨ j = 30)) : PT g p dg b l w n op 166 j = g 166 j := by
  unfold PT
  rw [if_pos rfl, if_neg (by omega), if_neg (by omega), if_neg (by omega), if_neg (by omega), if_neg (by omega)]
theorem PT_82 {c : Nat} (h : ¬ (b ≤ c ∧ c < b + l.length)) : PT g p dg b l w n op 182 c = g 182 c := by
  unfold PT
  rw [if_neg (by decide), if_pos rfl, if_neg h]
theorem PT_82y {c : Nat} (h : b ≤ c ∧ c < b + l.length) : PT g p dg b l w n op 182 c = l.getD (c - b) 0 := by
  unfold PT
  rw [if_neg (by decide), if_pos rfl, if_pos h]
end PF
/-- what table() may write -/
def tX (T c : Nat) : Prop := c = 0 ∨ c = 3 ∨ c = 5 ∨ c = T ∨ c = T + 1 ∨ (177 ≤ c ∧ c ≤ 183)
def tJ (j : Nat) : Prop := (15 ≤ j ∧ j ≤ 19) ∨ (28 ≤ j ∧ j ≤ 30)
section TI
variable {g W G H F : Nat → Nat → Nat} {hl : Nat → Nat → Int64} {rt : Nat × Nat × Nat × Nat} {T n : Nat} {cs : List C4}
theorem tab_ag (hT : T ≤ 151) (eW : ∀ c, c ≠ 0 → c ≠ 3 → c ≠ 5 → c ≠ T → c ≠ T + 1 → W c = g c) (hG : GR W G n cs) (h1 : ∀ a, a ≠ 166 → H a = G a) (h6 : ∀ j, ¬ (15 ≤ j ∧ j ≤ 17) → H 166 j = G 166 j) (p dg b : Nat) (l : List Nat) (w : Nat → Nat) (n2 op : Nat) (hF : F = PT H p dg b l w n2 op) : Ag (tX T) tJ g F := by
  subst hF
  refine ⟨fun c hc hx => ?_, fun j hj => ?_⟩
  · unfold tX at hx
    rw [PT_c H p dg b l w n2 op hc (by omega) (by omega), h1 c hc, hG.1 c (by omega) (by omega) (by omega) (by omega) (by omega), eW c (by omega) (by omega) (by omega) (by omega) (by omega)]
  · unfold tJ at hj
    rw [PT_6 H p dg b l w n2 op (by omega), h6 j (by omega), hG.1 166 (by decide) (by decide) (by decide) (by decide) (by decide), eW 166 (by decide) (by decide) (by decide) (by omega) (by omega)]
theorem tab_old (hT : T = 136 + 3 * n) (hn : n < 6) (eW : ∀ c, c ≠ 0 → c ≠ 3 → c ≠ 5 → c ≠ T → c ≠ T + 1 → W c = g c) (hG : GR W G n cs) (h1 : ∀ a, a ≠ 166 → H a = G a) (p dg : Nat) (l : List Nat) (w : Nat → Nat) (n2 op : Nat) (hF : F = PT H p dg (100 * n) l w n2 op) : OLD g F n := by
  subst hF
  refine ⟨fun f hf => ?_, fun a j h8 h9 hj => ?_, fun i hi => ?_, fun f hf => ⟨?_, ?_⟩⟩
  · rw [PT_c H p dg (100 * n) l w n2 op (by decide) (by decide) (by decide), h1 177 (by decide), hG.2.1 f (by omega), eW 177 (by decide) (by decide) (by decide) (by omega) (by omega)]
  · rw [PT_c H p dg (100 * n) l w n2 op (by omega) (by omega) (by omega), h1 a (by omega), hG.2.2.1 a j (by omega) (Or.inl hj), eW a (by omega) (by omega) (by omega) (by omega) (by omega)]
  · rw [PT_82 H p dg (100 * n) l w n2 op (by omega), h1 182 (by decide), hG.1 182 (by decide) (by decide) (by decide) (by decide) (by decide), eW 182 (by decide) (by decide) (by decide) (by omega) (by omega)]
  · rw [PT_c H p dg (100 * n) l w n2 op (by omega) (by omega) (by omega), h1 _ (by omega), hG.1 _ (by omega) (by omega) (by omega) (by omega) (by omega), eW _ (by omega) (by omega) (by omega) (by omega) (by omega)]
  · rw [PT_c H p dg (100 * n) l w n2 op (by omega) (by omega) (by omega), h1 _ (by omega), hG.1 _ (by omega) (by omega) (by omega) (by omega) (by omega), eW _ (by omega) (by omega) (by omega) (by omega) (by omega)]
theorem tab_new (hG : GR W G n cs) (e177 : G 177 n = cs.length) (h1 : ∀ a, a ≠ 166 → H a = G a) (p dg : Nat) (l : List Nat) (hl : l.length ≤ 100) (w : Nat → Nat) (n2 op : Nat) (hF : F = PT H p dg (100 * n) l w n2 op) : NEW F n l cs := by
  subst hF
  have e : ∀ a, a ≠ 166 → a ≠ 182 → a ≠ 183 → PT H p dg (100 * n) l w n2 op a = G a := fun a x1 x2 x3 => (PT_c H p dg (100 * n) l w n2 op x1 x2 x3).trans (h1 a x1)
  refine ⟨by rw [e 177 (by decide) (by decide) (by decide)]; exact e177, fun j hj => ?_, fun i hi1 hi2 => PT_82y H p dg (100 * n) l w n2 op ⟨hi1, hi2⟩, hl⟩
  refine CLD_eq (G := G) (fun a ha => ?_) (hG.2.2.2.2.2.2 j hj)
  rw [e a (by omega) (by omega) (by omega)]
theorem tab_mi (hI : MI g) (k : Ag (tX T) tJ g F) (hT : 136 ≤ T ∧ T ≤ 151) (m15 : F 166 15 ≤ 6) (m16 : F 166 16 ≤ 5 ∨ F 166 16 = 4294967295) (m17 : F 166 17 ≤ 100) (m177 : ∀ j, j < 6 → F 177 j ≤ 10) (m178 : ∀ j, j < 60 → F 178 j ≤ 2) (m179 : ∀ j, j < 60 → F 179 j ≤ 99) : MI F := ⟨(by rw [k.2 0 (by unfold tJ; omega)]; exact hI.hW), (by rw [k.2 1 (by unfold tJ; omega)]; exact hI.hS), (by rw [k.2 6 (by unfold tJ; omega)]; exact hI.hPl), (by rw [k.2 7 (by unfold tJ; omega)]; exact hI.hNx), (by rw [k.2 8 (by unfold tJ; omega)]; exact hI.hLa), (by rw [k.2 9 (by unfold tJ; omega)]; exact hI.hLo), m15, m16, m17, (by rw [k.2 44 (by unfold tJ; omega)]; exact hI.hSn), (by rw [k.2 48 (by unfold tJ; omega)]; exact hI.hSh), (by rw [k.2 71 (by unfold tJ; omega)]; exact hI.hRan), (by rw [k.2 33 (by unfold tJ; omega)]; exact hI.hLr), (by rw [k.2 34 (by unfold tJ; omega)]; exact hI.hLt), (by rw [k.1 167 (by decide) (by unfold tX; omega)]; exact hI.hgl), (by rw [k.1 168 (by decide) (by unfold tX; omega)]; exact hI.hsz), (by rw [k.1 169 (by decide) (by unfold tX; omega)]; exact hI.hcm), (by rw [k.1 170 (by decide) (by unfold tX; omega)]; exact hI.hsl), (by rw [k.1 171 (by decide) (by unfold tX; omega)]; exact hI.hkd), (by rw [k.1 172 (by decide) (by unfold tX; omega)]; exact hI.hvv), (by rw [k.1 173 (by decide) (by unfold tX; omega)]; exact hI.hli), (by rw [k.1 174 (by decide) (by unfold tX; omega)]; exact hI.hro), (by rw [k.1 175 (by decide) (by unfold tX; omega)]; exact hI.hrw), (by rw [k.1 176 (by decide) (by unfold tX; omega)]; exact hI.htx), (by rw [k.1 189 (by decide) (by unfold tX; omega)]; exact hI.hsw), (by rw [k.1 190 (by decide) (by unfold tX; omega)]; exact hI.hsx), (by rw [k.1 191 (by decide) (by unfold tX; omega)]; exact hI.hsy), (by rw [k.1 192 (by decide) (by unfold tX; omega)]; exact hI.hsh), (by rw [k.1 207 (by decide) (by unfold tX; omega)]; exact hI.hle), m177, m178, m179, (by rw [k.1 186 (by decide) (by unfold tX; omega)]; exact hI.hwn), (by rw [k.2 0 (by unfold tJ; omega), k.1 168 (by decide) (by unfold tX; omega)]; exact hI.hs1), (by rw [k.1 206 (by decide) (by unfold tX; omega)]; exact hI.hso)⟩
theorem tab_inv (hV : Inv g hl rt) (k : Ag (tX T) tJ g F) (hT : 136 ≤ T ∧ T ≤ 151) (m : MI F) (h15 : g 166 15 ≤ F 166 15) (h17 : F 3 1 = F 166 17) (h170 : F 166 17 = 0) (h04 : F 0 4 = F 166 15) (h07 : F 0 7 = g 0 7) (ka : KA F) (tb : ∀ f, f < F 166 15 → TbK F f) (c1 : Nat) (th : THo (F 166 15) (F 166 16) c1) : Inv F hl (3, T, c1, rt.2.2.2) := by
  have him := k.im hV (fun c hc => by unfold imC at hc; unfold tX; omega) (fun j hj => by unfold tJ; omega) h15
  exact ⟨m, k.lt hV.lt (by unfold tX; omega), (k.2 33 (by unfold tJ; omega)).trans hV.lr, ka, th, k.ln hV.sp (by unfold tX tJ; omega) (by omega), ⟨h17, fun i hi => absurd hi (by omega)⟩, k.gm hV.mi hV.gm (fun c hc => by unfold gmC at hc; unfold tX; omega) (fun j hj => by unfold gmJ at hj; unfold tJ; omega), k.ac hV.ac (by unfold tX tJ; omega), k.tp hV.tp ⟨fun t ht => by unfold tX; omega, by unfold tX; omega, by unfold tX; omega⟩, ⟨h04, by rw [k.1 56 (by decide) (by unfold tX; omega)]; exact hV.tb.2.1, tb⟩, by rw [k.2 50 (by unfold tJ; omega)]; exact hV.i1, h07.trans (hV.i2.trans (k.2 50 (by unfold tJ; omega)).symm), him, by rw [k.1 59 (by decide) (by unfold tX; omega)]; exact hV.k59, by rw [k.1 18 (by decide) (by unfold tX; omega)]; exact hV.k18⟩
end TI
section ST
variable {L : Nat} {xs : Nat → Int32}
theorem RT_x (g : Nat → Nat → Nat) (T p fl le li : Nat) (l : List Nat) {c : Nat} (h5 : c ≠ 5) (h1 : c ≠ T) (h2 : c ≠ T + 1) : RT g T p fl le li l c = g c := by
  funext b
  unfold RT
  rw [if_neg h5, if_neg h1, if_neg h2]
theorem tab_ok {g G : Nat → Nat → Nat} {hl : Nat → Nat → Int64} {rt : Nat × Nat × Nat × Nat} {T n : Nat} {l0 lk : List Nat} {cs : List C4} {le li q dd : Nat} {w2 : Nat → Nat} {n2 op2 : Nat} (hV : Inv g hl rt) (hn : n = g 166 15) (h15 : n < 6) (hT : T = 136 + 3 * n) (hc : CSR (100 * n) l0 cs lk le li) (hk : lk.length ≤ 100) (hl0 : l0.length ≤ 100) (hG : GR (u2 (u2 (RT g T (g 166 17) 0 le li lk) 3 1 0) 0 4 (n + 1)) G n cs) (e177 : G 177 n = cs.length) : Inv (PT (u2 (u2 (u2 G 166 17 0) 166 16 n) 166 15 (n + 1)) q dd (100 * n) l0 w2 n2 op2) hl (3, T, T, rt.2.2.2) := by
  have hI := hV.mi
  have hT2 : 136 ≤ T ∧ T ≤ 151 := by omega
  obtain ⟨H, hH⟩ : ∃ H, H = u2 (u2 (u2 G 166 17 0) 166 16 n) 166 15 (n + 1) := ⟨_, rfl⟩
  obtain ⟨W, hW⟩ : ∃ W, W = u2 (u2 (RT g T (g 166 17) 0 le li lk) 3 1 0) 0 4 (n + 1) := ⟨_, rfl⟩
  rw [← hW] at hG
  rw [← hH]
  obtain ⟨F, hF⟩ : ∃ F, F = PT H q dd (100 * n) l0 w2 n2 op2 := ⟨_, rfl⟩
  rw [← hF]
  have eW : ∀ c, c ≠ 0 → c ≠ 3 → c ≠ 5 → c ≠ T → c ≠ T + 1 → W c = g c := fun c h0 h3 h5 h1 h2 => by
    rw [hW, (u2_f _ 0 4 _).1 c h0, (u2_f _ 3 1 _).1 c h3, RT_x g T _ _ _ _ _ h5 h1 h2]
  have h1 : ∀ a, a ≠ 166 → H a = G a := fun a ha => by
    rw [hH, (u2_f _ 166 15 _).1 a ha, (u2_f _ 166 16 _).1 a ha, (u2_f _ 166 17 _).1 a ha]
  have h6 : ∀ j, ¬ (15 ≤ j ∧ j ≤ 17) → H 166 j = G 166 j := fun j hj => by
    rw [hH, u2_ne _ (Or.inr (by omega)), u2_ne _ (Or.inr (by omega)), u2_ne _ (Or.inr (by omega))]
  have k := tab_ag hT2.2 eW hG h1 h6 q dd (100 * n) l0 w2 n2 op2 hF
  have o := tab_old hT h15 eW hG h1 q dd l0 w2 n2 op2 hF
  have w := tab_new hG e177 h1 q dd l0 hl0 w2 n2 op2 hF
  have eF : ∀ a, a ≠ 166 → a ≠ 182 → a ≠ 183 → F a = G a := fun a x1 x2 x3 => by rw [hF, PT_c _ _ _ _ _ _ _ _ x1 x2 x3, h1 a x1]
  have eG : ∀ a, a ≠ 166 → a ≠ 182 → a ≠ 183 → a < 177 ∨ 181 < a → F a = W a := fun a x1 x2 x3 x4 => by rw [eF a x1 x2 x3, hG.1 a (by omega) (by omega) (by omega) (by omega) (by omega)]
  have f15 : F 166 15 = n + 1 := by rw [hF, PT_6 _ _ _ _ _ _ _ _ (by omega), hH, u2_at]
  have f16 : F 166 16 = n := by rw [hF, PT_6 _ _ _ _ _ _ _ _ (by omega), hH, u2_ne _ (Or.inr (by decide)), u2_at]
  have f17 : F 166 17 = 0 := by rw [hF, PT_6 _ _ _ _ _ _ _ _ (by omega), hH, u2_ne _ (Or.inr (by decide)), u2_ne _ (Or.inr (by decide)), u2_at]
  have f31 : F 3 1 = 0 := by rw [eG 3 (by decide) (by decide) (by decide) (by decide), hW, u2_ne _ (Or.inl (by decide)), u2_at]
  have f04 : F 0 4 = n + 1 := by rw [eG 0 (by decide) (by decide) (by decide) (by decide), hW, u2_at]
  have f07 : F 0 7 = g 0 7 := by rw [eG 0 (by decide) (by decide) (by decide) (by decide), hW, u2_ne _ (Or.inr (by decide)), u2_ne _ (Or.inl (by decide)), RT_x g T _ _ _ _ _ (by decide) (by omega) (by omega)]
  have fT : ∀ x, F T x = RT g T (g 166 17) 0 le li lk T x := fun x => by rw [eG T (by omega) (by omega) (by omega) (by omega), hW, u2_ne _ (Or.inl (by omega)), u2_ne _ (Or.inl (by omega))]
  have fT1 : ∀ x, F (T + 1) x = RT g T (g 166 17) 0 le li lk (T + 1) x := fun x => by rw [eG (T + 1) (by omega) (by omega) (by omega) (by omega), hW, u2_ne _ (Or.inl (by omega)), u2_ne _ (Or.inl (by omega))]
  have mi : MI F := tab_mi hI k hT2 (by omega) (by omega) (by omega) (fun j hj => by
    rw [eF 177 (by decide) (by decide) (by decide)]
    by_cases z : j = n
    · rw [z]; exact hG.2.2.2.2.2.1
    · rw [hG.2.1 j z, eW 177 (by decide) (by decide) (by decide) (by omega) (by omega)]; exact hI.hcl j hj) (fun j hj => by rw [eF 178 (by decide) (by decide) (by decide)]; exact hG.2.2.2.1 j hj) (fun j hj => by rw [eF 179 (by decide) (by decide) (by decide)]; exact hG.2.2.2.2.1 j hj)
  refine tab_inv hV k hT2 mi (by omega) (by omega) f17 (by omega) f07 (fun f hf j hj h0 => ?_) (fun f hf => ?_) T (Or.inr ⟨by omega, by omega⟩)
  · rw [f15] at hf
    by_cases z : f = n
    · subst z
      rw [w.1] at hj
      exact w.wf h15 hc hj h0
    · have hfn : f < n := by omega
      rw [o.1 f hfn] at hj
      have h10 := hI.hcl f (by omega)
      rw [o.2.1 178 (10 * f + j) (by decide) (by decide) (by omega)] at h0
      exact o.wf hI (by omega) hV.ka hfn hj h0
  · rw [f15] at hf
    by_cases z : f = n
    · subst z
      refine w.tb hc hk ?_ ?_ ?_ (fun x hx => ?_)
      · rw [← hT, fT]; unfold RT; rw [if_neg (by omega), if_pos rfl, if_neg (by decide), if_pos rfl]
      · rw [← hT, fT]; unfold RT; rw [if_neg (by omega), if_pos rfl, if_neg (by decide), if_neg (by decide), if_pos rfl]
      · rw [← hT, fT]; unfold RT; rw [if_neg (by omega), if_pos rfl, if_pos rfl]
      · rw [← hT, fT1]; unfold RT; rw [if_neg (by omega), if_neg (by omega), if_pos rfl, if_pos hx]
    · exact o.tb hI (by omega) hV.ka hV.tb (by omega)
theorem tab_no {g G : Nat → Nat → Nat} {hl : Nat → Nat → Int64} {rt : Nat × Nat × Nat × Nat} {T n : Nat} {l2 lk : List Nat} {cs : List C4} {pp fl le li q dd : Nat} {w2 : Nat → Nat} {n2 op2 : Nat} (hV : Inv g hl rt) (hn : n = g 166 15) (h15 : n < 6) (hT : T = 136 + 3 * n) (hG : GR (u2 (RT g T pp fl le li lk) 3 1 0) G n cs) : Inv (PT (u2 G 166 17 0) q dd (100 * n) l2 w2 n2 op2) hl (3, T, rt.2.2.1, rt.2.2.2) := by
  have hI := hV.mi
  have hT2 : 136 ≤ T ∧ T ≤ 151 := by omega
  obtain ⟨H, hH⟩ : ∃ H, H = u2 G 166 17 0 := ⟨_, rfl⟩
  obtain ⟨W, hW⟩ : ∃ W, W = u2 (RT g T pp fl le li lk) 3 1 0 := ⟨_, rfl⟩
  rw [← hW] at hG
  rw [← hH]
  obtain ⟨F, hF⟩ : ∃ F, F = PT H q dd (100 * n) l2 w2 n2 op2 := ⟨_, rfl⟩
  rw [← hF]
  have eW : ∀ c, c ≠ 0 → c ≠ 3 → c ≠ 5 → c ≠ T → c ≠ T + 1 → W c = g c := fun c h0 h3 h5 h1 h2 => by
    rw [hW, (u2_f _ 3 1 _).1 c h3, RT_x g T _ _ _ _ _ h5 h1 h2]
  have h1 : ∀ a, a ≠ 166 → H a = G a := fun a ha => by
    rw [hH, (u2_f _ 166 17 _).1 a ha]
  have h6a : ∀ j, j ≠ 17 → H 166 j = G 166 j := fun j hj => by
    rw [hH, u2_ne _ (Or.inr hj)]
  have k := tab_ag hT2.2 eW hG h1 (fun j hj => h6a j (by omega)) q dd (100 * n) l2 w2 n2 op2 hF
  have o := tab_old hT h15 eW hG h1 q dd l2 w2 n2 op2 hF
  have eF : ∀ a, a ≠ 166 → a ≠ 182 → a ≠ 183 → F a = G a := fun a x1 x2 x3 => by rw [hF, PT_c _ _ _ _ _ _ _ _ x1 x2 x3, h1 a x1]
  have eG : ∀ a, a ≠ 166 → a ≠ 182 → a ≠ 183 → a < 177 ∨ 181 < a → F a = W a := fun a x1 x2 x3 x4 => by rw [eF a x1 x2 x3, hG.1 a (by omega) (by omega) (by omega) (by omega) (by omega)]
  have f6 : ∀ j, j = 15 ∨ j = 16 → F 166 j = g 166 j := fun j hj => by rw [hF, PT_6 _ _ _ _ _ _ _ _ (by omega), h6a j (by omega), hG.1 166 (by decide) (by decide) (by decide) (by decide) (by decide), eW 166 (by decide) (by decide) (by decide) (by omega) (by omega)]
  have f15 := f6 15 (Or.inl rfl)
  have f16 := f6 16 (Or.inr rfl)
  have f17 : F 166 17 = 0 := by rw [hF, PT_6 _ _ _ _ _ _ _ _ (by omega), hH, u2_at]
  have f31 : F 3 1 = 0 := by rw [eG 3 (by decide) (by decide) (by decide) (by decide), hW, u2_at]
  have f0 : F 0 = g 0 := by rw [eG 0 (by decide) (by decide) (by decide) (by decide), hW, (u2_f _ 3 1 _).1 0 (by decide), RT_x g T _ _ _ _ _ (by decide) (by omega) (by omega)]
  have mi : MI F := tab_mi hI k hT2 (by rw [f15]; exact hI.hTb) (by rw [f16]; exact hI.hTh) (by omega) (fun j hj => by
    rw [eF 177 (by decide) (by decide) (by decide)]
    by_cases z : j = n
    · rw [z]; exact hG.2.2.2.2.2.1
    · rw [hG.2.1 j z, eW 177 (by decide) (by decide) (by decide) (by omega) (by omega)]; exact hI.hcl j hj) (fun j hj => by rw [eF 178 (by decide) (by decide) (by decide)]; exact hG.2.2.2.1 j hj) (fun j hj => by rw [eF 179 (by decide) (by decide) (by decide)]; exact hG.2.2.2.2.1 j hj)
  refine tab_inv hV k hT2 mi (by omega) (by omega) f17 (by rw [f0, f15]; exact hV.tb.1) (by rw [f0]) (fun f hf j hj h0 => ?_) (fun f hf => ?_) rt.2.2.1 (by rw [f15, f16]; exact hV.th)
  · have hfn : f < n := by omega
    rw [o.1 f hfn] at hj
    have h10 := hI.hcl f (by omega)
    rw [o.2.1 178 (10 * f + j) (by decide) (by decide) (by omega)] at h0
    exact o.wf hI (by omega) hV.ka hfn hj h0
  · exact o.tb hI (by omega) hV.ka hV.tb (by omega)
theorem S_table (d : Nat) : StepC L xs (d + 20) 84 155 [] := by
  intro g hl rt hV
  have hI := hV.mi
  have h6 := hI.hTb
  have h17 := hI.hFd
  refine K_table (d + 1) g hl rt hV ⟨fun h15 => ?_, fun T l0 cs lk le li h15 hT hg hc hk hn => ?_, fun T q l2 cs2 fl' le' li' l' h15 hT hg hq => ?_⟩
  · refine ⟨_, _, _, _, rfl, rfl, ?_⟩
    refine C_table (d + 13) g hl rt hI hV.lt ⟨fun _ => ⟨rfl, _, _, _, rfl, hV⟩, fun G q l2 cs dd w2 n2 op2 h => absurd h (by omega), fun G q l2 cs dd w2 n2 op2 h => absurd h (by omega)⟩
  · refine ⟨_, _, _, _, rfl, rfl, ?_⟩
    have em : Em g (u2 (u2 (RT g T (g 166 17) 0 le li lk) 3 1 0) 0 4 (g 166 15 + 1)) := fun c h => by
      rw [(u2_f _ 0 4 _).1 c (by omega), (u2_f _ 3 1 _).1 c (by omega), RT_x g T _ _ _ _ _ (by omega) (by omega) (by omega)]
    have e15 := em.f15
    have egoF : ∀ b, goF (u2 (u2 (RT g T (g 166 17) 0 le li lk) 3 1 0) 0 4 (g 166 15 + 1)) b 10 0 [] [] = goF g b 10 0 [] [] := fun b => goF_cg (pkS_cg em.f17 em.r176) em.f17 b 10 0 [] []
    refine C_table (d + 13) _ hl _ (em.mI hI) (fun j hj => by rw [em.r184]; exact hV.lt j hj) ⟨fun z => ?_, fun G q l2 cs2 dd w2 n2 op2 _ e hG e177 hl2 hq => ?_, fun G q l2 cs2 dd w2 n2 op2 _ e hG hl2 hq => ?_⟩
    · rw [e15] at z; omega
    · rw [egoF, e15, hg] at e
      rw [e15] at hG e177
      rw [em.f17] at hq
      injection e with _ e
      injection e with e1 e
      injection e with e2 e3
      subst e2
      subst e3
      refine ⟨by rw [e15], _, _, _, rfl, ?_⟩
      rw [e15]
      exact tab_ok hV rfl h15 hT hc hk (by omega) hG e177
    · rw [egoF, e15, hg] at e
      cases e
  · refine ⟨_, _, _, _, rfl, rfl, ?_⟩
    have em : Em g (u2 (RT g T q fl' le' li' l') 3 1 0) := fun c h => by
      rw [(u2_f _ 3 1 _).1 c (by omega), RT_x g T _ _ _ _ _ (by omega) (by omega) (by omega)]
    have e15 := em.f15
    have egoF : ∀ b, goF (u2 (RT g T q fl' le' li' l') 3 1 0) b 10 0 [] [] = goF g b 10 0 [] [] := fun b => goF_cg (pkS_cg em.f17 em.r176) em.f17 b 10 0 [] []
    refine C_table (d + 13) _ hl _ (em.mI hI) (fun j hj => by rw [em.r184]; exact hV.lt j hj) ⟨fun z => ?_, fun G q3 l3 cs3 dd w2 n2 op2 _ e hG e177 hl2 hq3 => ?_, fun G q3 l3 cs3 dd w2 n2 op2 _ e hG hl2 hq3 => ?_⟩
    · rw [e15] at z; omega
    · rw [egoF, e15, hg] at e
      cases e
    · rw [egoF, e15, hg] at e
      rw [e15] at hG
      injection e with _ e
      injection e with e1 e
      subst e1
      refine ⟨rfl, _, _, _, rfl, ?_⟩
      rw [e15]
      exact tab_no hV rfl h15 hT hG
end ST
