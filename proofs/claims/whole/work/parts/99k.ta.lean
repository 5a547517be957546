/-! the class's reader: signs -/
theorem getD_apl {α : Type} {l : List α} {n : Nat} (r : List α) (x : α) (h : n < l.length) : (l ++ r).getD n x = l.getD n x := by
  rw [List.getD_eq_getElem?_getD, List.getD_eq_getElem?_getD, List.getElem?_append_left h]
theorem getD_apr {α : Type} (l : List α) (s x : α) : (l ++ [s]).getD l.length x = s := by
  rw [List.getD_eq_getElem?_getD, List.getElem?_append_right (Nat.le_refl _), Nat.sub_self]
  rfl
theorem nar_c {y : Nat} (h : y < 128) : nar3 2 (nI y) = true := (show ∀ y, y < 128 → nar3 2 (nI y) = true by decide +kernel) y h
theorem ret59 {y : Nat} (h : y < 128) : retI 59 31 [.int (nI y)] = some (some (.int (nI y))) := by
  show (bif true && nar3 2 (nI y) then some (some (Value.int (nI y))) else none) = _
  rw [nar_c h]
  rfl
theorem nI_i2b {c : Nat} (h : c < 128) : (nI c).toInt8.toInt32 = nI c :=
  (show ∀ c, c < 128 → (nI c).toInt8.toInt32 = nI c by decide +kernel) c h
theorem nI_i2c {c : Nat} (h : c < 128) : ((nI c).toUInt32 % 65536).toInt32 = nI c :=
  (show ∀ c, c < 128 → ((nI c).toUInt32 % 65536).toInt32 = nI c by decide +kernel) c h
/-- the class's reader at position p, fl: it failed; the table in the making has the signs l -/
def RT (g : Nat → Nat → Nat) (T p fl le li : Nat) (l : List Nat) : Nat → Nat → Nat := fun a c => if a = 5 then (if c = 2 then p else if c = 3 then fl else g 5 c) else if a = T then (if c = 2 then l.length else if c = 3 then le else if c = 4 then li else g T c) else if a = T + 1 then (if c < l.length then trS (l.getD c 0) else g (T + 1) c) else g a c
/-- T is a cell of a table -/
def TbT (T : Nat) : Prop := KC T 7 5 ∧ KC (T + 1) 11 100 ∧ (∀ c e, RF (3, T, c, e) T 0 = some (T + 1)) ∧ 136 ≤ T ∧ T ≤ 151
theorem TbT.mk {f : Nat} (h : f < 6) : TbT (136 + 3 * f) := by
  rcases (show f = 0 ∨ f = 1 ∨ f = 2 ∨ f = 3 ∨ f = 4 ∨ f = 5 by omega) with rfl | rfl | rfl | rfl | rfl | rfl <;> exact ⟨⟨by decide, rfl⟩, ⟨by decide, rfl⟩, fun _ _ => rfl, by decide, by decide⟩
/-- the text -/
def TX (g : Nat → Nat → Nat) : Prop := g 166 17 ≤ 100 ∧ (∀ j, j < 100 → g 176 j ≤ 127) ∧ g 3 1 = g 166 17 ∧ ∀ k, k < g 166 17 → g 4 k = g 176 k
section RT
variable (g : Nat → Nat → Nat) {T : Nat} (p fl le li : Nat) (l : List Nat)
theorem RT_52 (x : Nat) : u2 (RT g T p fl le li l) 5 2 x = RT g T x fl le li l := by
  funext a c
  unfold u2 RT
  by_cases h1 : a = 5
  · rw [if_pos h1, if_pos h1, if_pos h1]
    by_cases h2 : c = 2
    · rw [if_pos h2, if_pos h2]
    · rw [if_neg h2, if_neg h2, if_neg h2]
  · rw [if_neg h1, if_neg h1, if_neg h1]
theorem RT_53 (x : Nat) : u2 (RT g T p fl le li l) 5 3 x = RT g T p x le li l := by
  funext a c
  unfold u2 RT
  by_cases h1 : a = 5
  · rw [if_pos h1, if_pos h1, if_pos h1]
    by_cases h2 : c = 3
    · rw [if_pos h2, h2, if_neg (by decide), if_pos rfl]
    · rw [if_neg h2]
      by_cases h3 : c = 2
      · rw [h3, if_pos rfl, if_pos rfl]
      · rw [if_neg h3, if_neg h2, if_neg h3, if_neg h2]
  · rw [if_neg h1, if_neg h1, if_neg h1]
theorem RT_3 (x : Nat) (hT : TbT T) : u2 (RT g T p fl le li l) T 3 x = RT g T p fl x li l := by
  obtain ⟨_, _, _, h5, h6⟩ := hT
  funext a c
  unfold u2 RT
  by_cases h0 : a = 5
  · rw [if_neg (by omega), if_pos h0, if_pos h0]
  · by_cases h1 : a = T
    · subst h1
      by_cases h3 : c = 3
      · subst h3
        simp [h0]
      · simp [h0, h3]
    · simp [h0, h1]
theorem RT_4 (x : Nat) (hT : TbT T) : u2 (RT g T p fl le li l) T 4 x = RT g T p fl le x l := by
  obtain ⟨_, _, _, h5, h6⟩ := hT
  funext a c
  unfold u2 RT
  by_cases h0 : a = 5
  · rw [if_neg (by omega), if_pos h0, if_pos h0]
  · by_cases h1 : a = T
    · subst h1
      by_cases h3 : c = 4
      · subst h3
        simp [h0]
      · simp [h0, h3]
    · simp [h0, h1]
theorem RT_o (hT : TbT T) {a : Nat} (h : a < 136 ∧ a ≠ 5) (c : Nat) : RT g T p fl le li l a c = g a c := by
  obtain ⟨_, _, _, h5, h6⟩ := hT
  unfold RT
  rw [if_neg (by omega), if_neg (by omega), if_neg (by omega)]
theorem RT_n (hT : TbT T) : RT g T p fl le li l T 2 = l.length := by
  obtain ⟨_, _, _, h5, h6⟩ := hT
  unfold RT
  rw [if_neg (by omega), if_pos rfl, if_pos rfl]
theorem RT_put (hT : TbT T) (s : Nat) : u2 (u2 (RT g T p fl le li l) (T + 1) l.length (trS s)) T 2 (l.length + 1) = RT g T p fl le li (l ++ [s]) := by
  obtain ⟨_, _, _, h5, h6⟩ := hT
  funext a c
  have e : (l ++ [s]).length = l.length + 1 := by rw [List.length_append]; rfl
  have n1 : ¬ T + 1 = T := by omega
  have n2 : ¬ T = T + 1 := by omega
  have n3 : ¬ T + 1 = 5 := by omega
  have n4 : ¬ (5 : Nat) = T := by omega
  have n5 : ¬ (5 : Nat) = T + 1 := by omega
  have n6 : ¬ T = 5 := by omega
  unfold u2 RT
  rw [e]
  by_cases h0 : a = 5
  · rw [h0, if_neg n4, if_neg n5, if_pos rfl, if_pos rfl]
  · by_cases h1 : a = T
    · rw [h1]
      by_cases h2 : c = 2
      · simp only [n2, n6, h2, if_true, if_false]
      · simp only [n2, n6, h2, if_true, if_false]
    · by_cases h2 : a = T + 1
      · rw [h2]
        by_cases h3 : c = l.length
        · have g1 : (l ++ [s]).getD l.length 0 = s := by
            exact getD_apr _ _ _
          rw [h3]
          simp only [n1, n3, if_true, if_false, Nat.lt_add_one, g1]
        · by_cases h4 : c < l.length
          · have h7 : c < l.length + 1 := by omega
            have g2 : (l ++ [s]).getD c 0 = l.getD c 0 := getD_apl _ _ h4
            simp only [n1, n3, h3, h4, h7, if_true, if_false, g2]
          · have h7 : ¬ c < l.length + 1 := by omega
            simp only [n1, n3, h3, h4, h7, if_true, if_false]
      · simp only [h0, h1, h2, if_false]
end RT
def nxC (g : Nat → Nat → Nat) (p : Nat) : Nat := if p < g 166 17 then g 176 p else 0
theorem nx_le {g : Nat → Nat → Nat} (hX : TX g) (p : Nat) : nxC g p ≤ 127 := by
  have := hX.1
  unfold nxC
  split
  · exact hX.2.1 p (by omega)
  · omega
theorem nx_pk {g : Nat → Nat → Nat} (p : Nat) {c : Nat} (h0 : c ≠ 0) (h1 : c < 4294967295) : nxC g p = c ↔ pkS g p = c := by
  unfold nxC pkS
  by_cases h : p < g 166 17
  · rw [if_pos h, if_neg (by omega)]
  · rw [if_neg h, if_pos (by omega)]
    omega
theorem K_next {L : Nat} {xs : Nat → Int32} (d : Nat) (g : Nat → Nat → Nat) (hl : Nat → Nat → Int64) (T c e : Nat) (hT : TbT T) (hX : TX g) (p le li : Nat) (l : List Nat) (fl : Nat) (hp : p < 2 ^ 31) {Q : Po} (hq : Q (some (.int (nI (nxC g p)))) (HN (RT g T p fl le li l) hl (RF (3, T, c, e)))) : Ev L xs (d) 59 0 [(0, .ref 5)] [] (HN (RT g T p fl le li l) hl (RF (3, T, c, e))) Q := by
  have hN := hX.1
  have h31 := hX.2.2.1
  refine Ev.run 5 (pc' := 11) (lv' := [(0, .ref 5)]) (st' := [.int (nI ((RT g T p fl le li l) 3 1)), .int (nI p)]) (h' := HN (RT g T p fl le li l) hl (RF (3, T, c, e))) rfl ?_
  refine Ev.topI (congrArg nI (RT_o _ _ _ _ _ _ hT (show 3 < 136 ∧ 3 ≠ 5 by decide) _)) ?_
  refine Ev.run 1 (pc' := (if nI (g 3 1) ≤ nI p then 30 else 14)) (lv' := [(0, .ref 5)]) (st' := []) (h' := HN (RT g T p fl le li l) hl (RF (3, T, c, e))) rfl ?_
  refine Ev.ite (fun hc11 => ?_) (fun hc11 => ?_)
  · have hc11 : (g 3 1) ≤ p := (nI_leI (by omega) (by omega)).mp hc11
    refine Ev.run 1 (pc' := 31) (lv' := [(0, .ref 5)]) (st' := [.int (nI 0)]) (h' := HN (RT g T p fl le li l) hl (RF (3, T, c, e))) rfl ?_
    refine Ev.ret (v := some (.int (nI 0))) rfl ?_
    unfold nxC at hq
    first
      | (rw [if_neg (by omega)] at hq; exact hq)
      | (rw [if_pos (by omega), ← hX.2.2.2 p (by omega)] at hq; exact hq)
  · have hc11 : ¬ ((g 3 1) ≤ p) := fun z => hc11 ((nI_leI (by omega) (by omega)).mpr z)
    refine Ev.run 5 (pc' := 25) (lv' := [(0, .ref 5)]) (st' := [.int (nI p), .ref 4]) (h' := HN (RT g T p fl le li l) hl (RF (3, T, c, e))) rfl ?_
    refine Ev_iald rfl rfl (show p < 100 by omega) (Nat.le_of_ble_eq_true rfl) ?_
    refine Ev.topI (congrArg nI (RT_o _ _ _ _ _ _ hT (show 4 < 136 ∧ 4 ≠ 5 by decide) _)) ?_
    refine Ev.run 1 (pc' := 27) (lv' := [(0, .ref 5)]) (st' := [.int (((nI (g 4 p)).toUInt32 % 65536).toInt32)]) (h' := HN (RT g T p fl le li l) hl (RF (3, T, c, e))) rfl ?_
    refine Ev.topI (nI_i2c (by have := hX.2.2.2 p (by omega); have := hX.2.1 p (by omega); omega)) ?_
    refine Ev.run 1 (pc' := 31) (lv' := [(0, .ref 5)]) (st' := [.int (nI (g 4 p))]) (h' := HN (RT g T p fl le li l) hl (RF (3, T, c, e))) rfl ?_
    refine Ev.ret (v := some (.int (nI (g 4 p)))) (ret59 (by have := hX.2.2.2 p (by omega); have := hX.2.1 p (by omega); omega)) ?_
    unfold nxC at hq
    first
      | (rw [if_neg (by omega)] at hq; exact hq)
      | (rw [if_pos (by omega), ← hX.2.2.2 p (by omega)] at hq; exact hq)
