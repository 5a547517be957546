/-! the class's reader: signs -/
theorem nI_i2b {c : Nat} (h : c < 128) : (nI c).toInt8.toInt32 = nI c :=
  (show ∀ c, c < 128 → (nI c).toInt8.toInt32 = nI c by decide +kernel) c h
theorem nI_i2c {c : Nat} (h : c < 128) : ((nI c).toUInt32 % 65536).toInt32 = nI c :=
  (show ∀ c, c < 128 → ((nI c).toUInt32 % 65536).toInt32 = nI c by decide +kernel) c h
/-- the class's reader at position p, fl: it failed; the table in the making has the signs l -/
def RT (g : Nat → Nat → Nat) (T p fl le li : Nat) (l : List Nat) : Nat → Nat → Nat := fun a c => if a = 5 then (if c = 2 then p else if c = 3 then fl else g 5 c) else if a = T then (if c = 2 then l.length else if c = 3 then le else if c = 4 then li else g T c) else if a = T + 1 then (if c < l.length then trS (l.getD c 0) else g (T + 1) c) else g a c
/-- T is a cell of a table -/
def TT (T : Nat) : Prop := KC T 7 5 ∧ KC (T + 1) 11 100 ∧ (∀ c e, RF (3, T, c, e) T 0 = some (T + 1)) ∧ 136 ≤ T ∧ T ≤ 151
theorem TT.mk {f : Nat} (h : f < 6) : TT (136 + 3 * f) := by
  rcases (show f = 0 ∨ f = 1 ∨ f = 2 ∨ f = 3 ∨ f = 4 ∨ f = 5 by omega) with rfl | rfl | rfl | rfl | rfl | rfl <;> exact ⟨⟨by decide, rfl⟩, ⟨by decide, rfl⟩, fun _ _ => rfl, by decide, by decide⟩
/-- the text -/
def TX (g : Nat → Nat → Nat) : Prop := g 166 17 ≤ 100 ∧ (∀ j, j < 100 → g 176 j ≤ 127) ∧ g 3 1 = g 166 17 ∧ ∀ k, k < g 166 17 → g 4 k = g 176 k
section RT
variable (g : Nat → Nat → Nat) {T : Nat} (p fl le li : Nat) (l : List Nat)
theorem RT_52 (x : Nat) : u2 (RT g T p fl le li l) 5 2 x = RT g T x fl le li l := by
  funext a c
  unfold u2 RT
  by_cases h1 : a = 5
  · rw [if_pos h1, if_pos h1, if_pos h1]
    by_cases h2 : c = 2
    · rw [if_pos h2, if_pos h2]
    · rw [if_neg h2, if_neg h2, h1, if_pos rfl, if_neg h2]
  · rw [if_neg h1, if_neg h1, if_neg h1]
theorem RT_53 (x : Nat) : u2 (RT g T p fl le li l) 5 3 x = RT g T p x le li l := by
  funext a c
  unfold u2 RT
  by_cases h1 : a = 5
  · rw [if_pos h1, if_pos h1, if_pos h1]
    by_cases h2 : c = 3
    · rw [if_pos h2, h2, if_neg (by decide), if_pos rfl]
    · rw [if_neg h2]
      by_cases h3 : c = 2
      · rw [h3, h1, if_pos rfl, if_pos rfl]
      · rw [if_neg h3, if_neg h2, h1, if_pos rfl, if_neg h3, if_neg h2]
  · rw [if_neg h1, if_neg h1, if_neg h1]
theorem RT_3 (x : Nat) (hT : TT T) : u2 (RT g T p fl le li l) T 3 x = RT g T p fl x li l := by
  obtain ⟨_, _, _, h5, h6⟩ := hT
  funext a c
  unfold u2 RT
  by_cases h0 : a = 5
  · rw [if_neg (by omega), if_pos h0, if_pos h0]
  · rw [if_neg h0, if_neg h0]
    by_cases h1 : a = T
    · subst h1
      rw [if_pos rfl, if_pos rfl, if_pos rfl]
      by_cases h2 : c = 3
      · rw [if_pos h2, h2, if_neg (by decide), if_pos rfl]
      · rw [if_neg h2, if_neg h0, if_pos rfl]
        by_cases h3 : c = 2
        · rw [if_pos h3, if_pos h3]
        · rw [if_neg h3, if_neg h2, if_neg h3, if_neg h2]
    · rw [if_neg h1, if_neg h1, if_neg h1]
theorem RT_4 (x : Nat) (hT : TT T) : u2 (RT g T p fl le li l) T 4 x = RT g T p fl le x l := by
  obtain ⟨_, _, _, h5, h6⟩ := hT
  funext a c
  unfold u2 RT
  by_cases h0 : a = 5
  · rw [if_neg (by omega), if_pos h0, if_pos h0]
  · rw [if_neg h0, if_neg h0]
    by_cases h1 : a = T
    · subst h1
      rw [if_pos rfl, if_pos rfl, if_pos rfl]
      by_cases h2 : c = 4
      · rw [if_pos h2, h2, if_neg (by decide), if_neg (by decide), if_pos rfl]
      · rw [if_neg h2, if_neg h0, if_pos rfl]
        by_cases h3 : c = 2
        · rw [if_pos h3, if_pos h3]
        · rw [if_neg h3, if_neg h3]
          by_cases h4 : c = 3
          · rw [if_pos h4, if_pos h4]
          · rw [if_neg h4, if_neg h2, if_neg h4, if_neg h2]
    · rw [if_neg h1, if_neg h1, if_neg h1]
theorem RT_o (hT : TT T) {a : Nat} (h : a < 136 ∧ a ≠ 5) (c : Nat) : RT g T p fl le li l a c = g a c := by
  obtain ⟨_, _, _, h5, h6⟩ := hT
  unfold RT
  rw [if_neg (by omega), if_neg (by omega), if_neg (by omega)]
theorem RT_n (hT : TT T) : RT g T p fl le li l T 2 = l.length := by
  obtain ⟨_, _, _, h5, h6⟩ := hT
  unfold RT
  rw [if_neg (by omega), if_pos rfl, if_pos rfl]
theorem RT_put (hT : TT T) (s : Nat) : u2 (u2 (RT g T p fl le li l) (T + 1) l.length (trS s)) T 2 (l.length + 1) = RT g T p fl le li (l ++ [s]) := by
  obtain ⟨_, _, _, h5, h6⟩ := hT
  funext a c
  have e : (l ++ [s]).length = l.length + 1 := by rw [List.length_append]; rfl
  unfold u2 RT
  rw [e]
  by_cases h0 : a = 5
  · rw [if_neg (by omega), if_neg (by omega), if_pos h0, if_pos h0]
  · rw [if_neg h0, if_neg h0]
    by_cases h1 : a = T
    · subst h1
      rw [if_pos rfl, if_neg (by omega), if_pos rfl, if_pos rfl]
      by_cases h2 : c = 2
      · rw [if_pos h2, if_pos h2]
      · rw [if_neg h2, if_neg h2, if_neg h0, if_neg h2]
        rw [if_pos rfl]
    · rw [if_neg h1, if_neg h1, if_neg h1]
      by_cases h2 : a = T + 1
      · rw [if_pos h2, if_pos h2, if_pos h2, if_neg (by omega), if_neg (by omega), if_pos rfl]
        by_cases h3 : c = l.length
        · rw [if_pos h3, if_pos (by omega), h3, List.getD_append_right _ _ _ _ (Nat.le_refl _), Nat.sub_self]
          rfl
        · rw [if_neg h3]
          by_cases h4 : c < l.length
          · rw [if_pos h4, if_pos (by omega), List.getD_append _ _ _ _ h4]
          · rw [if_neg h4, if_neg (by omega)]
      · rw [if_neg h2, if_neg h2, if_neg h2]
end RT
def nxS (g : Nat → Nat → Nat) (p : Nat) : Nat := if p < g 166 17 then g 176 p else 0
theorem nx_le {g : Nat → Nat → Nat} (hX : TX g) (p : Nat) : nxS g p ≤ 127 := by
  have := hX.1
  unfold nxS
  split
  · exact hX.2.1 p (by omega)
  · omega
theorem nx_pk {g : Nat → Nat → Nat} (p : Nat) {c : Nat} (h0 : c ≠ 0) (h1 : c < 4294967295) : nxS g p = c ↔ pkS g p = c := by
  unfold nxS pkS
  by_cases h : p < g 166 17
  · rw [if_pos h, if_neg (by omega)]
  · rw [if_neg h, if_pos (by omega)]
    omega
theorem K_next {L : Nat} {xs : Nat → Int32} (d : Nat) (g : Nat → Nat → Nat) (hl : Nat → Nat → Int64) (T c e : Nat) (hT : TT T) (hX : TX g) (p le li : Nat) (l : List Nat) (fl : Nat) (hp : p < 2 ^ 31) {Q : Po} (hq : Q (some (.int (nI (nxS g p)))) (HN (RT g T p fl le li l) hl (RF (3, T, c, e)))) : Ev L xs (d) 59 0 [(0, .ref 5)] [] (HN (RT g T p fl le li l) hl (RF (3, T, c, e))) Q := by
  have hN := hX.1
  have h31 := hX.2.2.1
  refine Ev.run 5 (pc' := 11) (lv' := [(0, .ref 5)]) (st' := [.int (nI ((RT g T p fl le li l) 3 1)), .int (nI p)]) (h' := HN (RT g T p fl le li l) hl (RF (3, T, c, e))) rfl ?_
  refine Ev.topI (congrArg nI (RT_o _ _ _ _ _ _ _ hT (show 3 < 136 ∧ 3 ≠ 5 by decide) _)) ?_
  refine Ev.run 1 (pc' := (if nI (g 3 1) ≤ nI p then 30 else 14)) (lv' := [(0, .ref 5)]) (st' := []) (h' := HN (RT g T p fl le li l) hl (RF (3, T, c, e))) rfl ?_
  refine Ev.ite (fun hc11 => ?_) (fun hc11 => ?_)
  · have hc11 : (g 3 1) ≤ p := (nI_leI (by omega) (by omega)).mp hc11
    refine Ev.run 1 (pc' := 31) (lv' := [(0, .ref 5)]) (st' := [.int (nI 0)]) (h' := HN (RT g T p fl le li l) hl (RF (3, T, c, e))) rfl ?_
    refine Ev.ret (v := some (.int (nI 0))) rfl ?_
    unfold nxS at hq
    first
      | (rw [if_neg (by omega)] at hq; exact hq)
      | (rw [if_pos (by omega), ← hX.2.2.2 p (by omega)] at hq; exact hq)
  · have hc11 : ¬ ((g 3 1) ≤ p) := fun z => hc11 ((nI_leI (by omega) (by omega)).mpr z)
    refine Ev.run 5 (pc' := 25) (lv' := [(0, .ref 5)]) (st' := [.int (nI p), .ref 4]) (h' := HN (RT g T p fl le li l) hl (RF (3, T, c, e))) rfl ?_
    refine Ev_iald rfl rfl (show p < 100 by omega) (Nat.le_of_ble_eq_true rfl) ?_
    refine Ev.topI (congrArg nI (RT_o _ _ _ _ _ _ _ hT (show 4 < 136 ∧ 4 ≠ 5 by decide) _)) ?_
    refine Ev.run 1 (pc' := 27) (lv' := [(0, .ref 5)]) (st' := [.int (((nI (g 4 p)).toUInt32 % 65536).toInt32)]) (h' := HN (RT g T p fl le li l) hl (RF (3, T, c, e))) rfl ?_
    refine Ev.topI (nI_i2c (by have := hX.2.2.2 p (by omega); have := hX.2.1 p (by omega); omega)) ?_
    refine Ev.run 1 (pc' := 31) (lv' := [(0, .ref 5)]) (st' := [.int (nI (g 4 p))]) (h' := HN (RT g T p fl le li l) hl (RF (3, T, c, e))) rfl ?_
    refine Ev.ret (v := some (.int (nI (g 4 p)))) rfl ?_
    unfold nxS at hq
    first
      | (rw [if_neg (by omega)] at hq; exact hq)
      | (rw [if_pos (by omega), ← hX.2.2.2 p (by omega)] at hq; exact hq)
section ST
variable {L : Nat} {xs : Nat → Int32} (d : Nat) (h : Hp) {Q : Po}
theorem K_len3 (hq : Q (some (.int (nI 5))) h) : Ev L xs (d + 3) 241 0 [(0, .retAddr 3)] [] h Q := ⟨60, _, rfl, hq⟩
theorem K_chr3_0 (hq : Q (some (.int (nI 107))) h) : Ev L xs (d + 5) 242 0 [(0, .retAddr 3), (1, .int (nI 0))] [] h Q := ⟨90, _, rfl, hq⟩
theorem K_chr3_1 (hq : Q (some (.int (nI 110))) h) : Ev L xs (d + 5) 242 0 [(0, .retAddr 3), (1, .int (nI 1))] [] h Q := ⟨90, _, rfl, hq⟩
theorem K_chr3_2 (hq : Q (some (.int (nI 111))) h) : Ev L xs (d + 5) 242 0 [(0, .retAddr 3), (1, .int (nI 2))] [] h Q := ⟨90, _, rfl, hq⟩
theorem K_chr3_3 (hq : Q (some (.int (nI 119))) h) : Ev L xs (d + 5) 242 0 [(0, .retAddr 3), (1, .int (nI 3))] [] h Q := ⟨90, _, rfl, hq⟩
theorem K_chr3_4 (hq : Q (some (.int (nI 32))) h) : Ev L xs (d + 5) 242 0 [(0, .retAddr 3), (1, .int (nI 4))] [] h Q := ⟨90, _, rfl, hq⟩
theorem K_len7 (hq : Q (some (.int (nI 5))) h) : Ev L xs (d + 3) 241 0 [(0, .retAddr 7)] [] h Q := ⟨60, _, rfl, hq⟩
theorem K_chr7_0 (hq : Q (some (.int (nI 101))) h) : Ev L xs (d + 5) 242 0 [(0, .retAddr 7), (1, .int (nI 0))] [] h Q := ⟨90, _, rfl, hq⟩
theorem K_chr7_1 (hq : Q (some (.int (nI 97))) h) : Ev L xs (d + 5) 242 0 [(0, .retAddr 7), (1, .int (nI 1))] [] h Q := ⟨90, _, rfl, hq⟩
theorem K_chr7_2 (hq : Q (some (.int (nI 115))) h) : Ev L xs (d + 5) 242 0 [(0, .retAddr 7), (1, .int (nI 2))] [] h Q := ⟨90, _, rfl, hq⟩
theorem K_chr7_3 (hq : Q (some (.int (nI 116))) h) : Ev L xs (d + 5) 242 0 [(0, .retAddr 7), (1, .int (nI 3))] [] h Q := ⟨90, _, rfl, hq⟩
theorem K_chr7_4 (hq : Q (some (.int (nI 32))) h) : Ev L xs (d + 5) 242 0 [(0, .retAddr 7), (1, .int (nI 4))] [] h Q := ⟨90, _, rfl, hq⟩
theorem K_len8 (hq : Q (some (.int (nI 5))) h) : Ev L xs (d + 3) 241 0 [(0, .retAddr 8)] [] h Q := ⟨60, _, rfl, hq⟩
theorem K_chr8_0 (hq : Q (some (.int (nI 105))) h) : Ev L xs (d + 5) 242 0 [(0, .retAddr 8), (1, .int (nI 0))] [] h Q := ⟨90, _, rfl, hq⟩
theorem K_chr8_1 (hq : Q (some (.int (nI 118))) h) : Ev L xs (d + 5) 242 0 [(0, .retAddr 8), (1, .int (nI 1))] [] h Q := ⟨90, _, rfl, hq⟩
theorem K_chr8_2 (hq : Q (some (.int (nI 101))) h) : Ev L xs (d + 5) 242 0 [(0, .retAddr 8), (1, .int (nI 2))] [] h Q := ⟨90, _, rfl, hq⟩
theorem K_chr8_3 (hq : Q (some (.int (nI 115))) h) : Ev L xs (d + 5) 242 0 [(0, .retAddr 8), (1, .int (nI 3))] [] h Q := ⟨90, _, rfl, hq⟩
theorem K_chr8_4 (hq : Q (some (.int (nI 32))) h) : Ev L xs (d + 5) 242 0 [(0, .retAddr 8), (1, .int (nI 4))] [] h Q := ⟨90, _, rfl, hq⟩
end ST
def rlS (c : Nat) : Nat := if c = 60 then 0 else if c = 61 then 1 else if c = 62 then 2 else 4294967295
def dgS (c : Nat) : Nat := if c = 48 then 0 else if c = 49 then 1 else if c = 50 then 2 else if c = 51 then 3 else if c = 52 then 4 else if c = 53 then 5 else if c = 54 then 6 else if c = 55 then 7 else if c = 56 then 8 else if c = 57 then 9 else 4294967295
theorem K_ioc4 {L : Nat} {xs : Nat → Int32} (d : Nat) (g : Nat → Nat → Nat) (hl : Nat → Nat → Int64) (rt : Nat × Nat × Nat × Nat) (c : Nat) (hc : c < 128) {Q : Po} (hq : Q (some (.int (nI (plcS c)))) (HN g hl (RF rt))) : Ev L xs (d) 251 0 [(0, .retAddr 10), (1, .int (nI c)), (2, .int (nI 0)), (3, .int (nI 6))] [] (HN g hl (RF rt)) Q := by
  refine Ev.run 2 (pc' := 2) (lv' := [(0, .retAddr 10), (1, .int (nI c)), (2, .int (nI 0)), (3, .int (nI 6))]) (st' := [.int ((nI c).toInt8.toInt32)]) (h' := HN g hl (RF rt)) rfl ?_
  refine Ev.topI (nI_i2b (by omega)) ?_
  refine Ev.run 8 (pc' := 16) (lv' := [(5, .int (nI 0)), (4, .int (nI c)), (0, .retAddr 10), (1, .int (nI c)), (2, .int (nI 0)), (3, .int (nI 6))]) (st' := [.int (nI 0), .retAddr 10]) (h' := HN g hl (RF rt)) rfl ?_
  refine Ev.run 1 (pc' := 17) (lv' := [(5, .int (nI 0)), (4, .int (nI c)), (0, .retAddr 10), (1, .int (nI c)), (2, .int (nI 0)), (3, .int (nI 6))]) (st' := [.int (nI 112)]) (h' := HN g hl (RF rt)) rfl ?_
  refine Ev.run 2 (pc' := (if nI 112 = nI c then 22 else 25)) (lv' := [(5, .int (nI 0)), (4, .int (nI c)), (0, .retAddr 10), (1, .int (nI c)), (2, .int (nI 0)), (3, .int (nI 6))]) (st' := []) (h' := HN g hl (RF rt)) rfl ?_
  refine Ev.ite (fun hc19 => ?_) (fun hc19 => ?_)
  · have hc19 : 112 = c := (nI_eqU (by omega) (by omega)).mp hc19
    refine Ev.run 1 (pc' := 24) (lv' := [(5, .int (nI 0)), (4, .int (nI c)), (0, .retAddr 10), (1, .int (nI c)), (2, .int (nI 0)), (3, .int (nI 6))]) (st' := [.int (nI 0)]) (h' := HN g hl (RF rt)) rfl ?_
    refine Ev.ret (v := some (.int (nI 0))) rfl ?_
    unfold plcS at hq
    repeat (first | rw [if_neg (by omega)] at hq | rw [if_pos (by omega)] at hq)
    exact hq
  · have hc19 : ¬ (112 = c) := fun z => hc19 ((nI_eqU (by omega) (by omega)).mpr z)
    refine Ev.run 7 (pc' := 16) (lv' := [(5, .int (nI 1)), (4, .int (nI c)), (0, .retAddr 10), (1, .int (nI c)), (2, .int (nI 0)), (3, .int (nI 6))]) (st' := [.int (nI 1), .retAddr 10]) (h' := HN g hl (RF rt)) rfl ?_
    refine Ev.run 1 (pc' := 17) (lv' := [(5, .int (nI 1)), (4, .int (nI c)), (0, .retAddr 10), (1, .int (nI c)), (2, .int (nI 0)), (3, .int (nI 6))]) (st' := [.int (nI 107)]) (h' := HN g hl (RF rt)) rfl ?_
    refine Ev.run 2 (pc' := (if nI 107 = nI c then 22 else 25)) (lv' := [(5, .int (nI 1)), (4, .int (nI c)), (0, .retAddr 10), (1, .int (nI c)), (2, .int (nI 0)), (3, .int (nI 6))]) (st' := []) (h' := HN g hl (RF rt)) rfl ?_
    refine Ev.ite (fun hc19 => ?_) (fun hc19 => ?_)
    · have hc19 : 107 = c := (nI_eqU (by omega) (by omega)).mp hc19
      refine Ev.run 1 (pc' := 24) (lv' := [(5, .int (nI 1)), (4, .int (nI c)), (0, .retAddr 10), (1, .int (nI c)), (2, .int (nI 0)), (3, .int (nI 6))]) (st' := [.int (nI 1)]) (h' := HN g hl (RF rt)) rfl ?_
      refine Ev.ret (v := some (.int (nI 1))) rfl ?_
      unfold plcS at hq
      repeat (first | rw [if_neg (by omega)] at hq | rw [if_pos (by omega)] at hq)
      exact hq
    · have hc19 : ¬ (107 = c) := fun z => hc19 ((nI_eqU (by omega) (by omega)).mpr z)
      refine Ev.run 7 (pc' := 16) (lv' := [(5, .int (nI 2)), (4, .int (nI c)), (0, .retAddr 10), (1, .int (nI c)), (2, .int (nI 0)), (3, .int (nI 6))]) (st' := [.int (nI 2), .retAddr 10]) (h' := HN g hl (RF rt)) rfl ?_
      refine Ev.run 1 (pc' := 17) (lv' := [(5, .int (nI 2)), (4, .int (nI c)), (0, .retAddr 10), (1, .int (nI c)), (2, .int (nI 0)), (3, .int (nI 6))]) (st' := [.int (nI 118)]) (h' := HN g hl (RF rt)) rfl ?_
      refine Ev.run 2 (pc' := (if nI 118 = nI c then 22 else 25)) (lv' := [(5, .int (nI 2)), (4, .int (nI c)), (0, .retAddr 10), (1, .int (nI c)), (2, .int (nI 0)), (3, .int (nI 6))]) (st' := []) (h' := HN g hl (RF rt)) rfl ?_
      refine Ev.ite (fun hc19 => ?_) (fun hc19 => ?_)
      · have hc19 : 118 = c := (nI_eqU (by omega) (by omega)).mp hc19
        refine Ev.run 1 (pc' := 24) (lv' := [(5, .int (nI 2)), (4, .int (nI c)), (0, .retAddr 10), (1, .int (nI c)), (2, .int (nI 0)), (3, .int (nI 6))]) (st' := [.int (nI 2)]) (h' := HN g hl (RF rt)) rfl ?_
        refine Ev.ret (v := some (.int (nI 2))) rfl ?_
        unfold plcS at hq
        repeat (first | rw [if_neg (by omega)] at hq | rw [if_pos (by omega)] at hq)
        exact hq
      · have hc19 : ¬ (118 = c) := fun z => hc19 ((nI_eqU (by omega) (by omega)).mpr z)
        refine Ev.run 7 (pc' := 16) (lv' := [(5, .int (nI 3)), (4, .int (nI c)), (0, .retAddr 10), (1, .int (nI c)), (2, .int (nI 0)), (3, .int (nI 6))]) (st' := [.int (nI 3), .retAddr 10]) (h' := HN g hl (RF rt)) rfl ?_
        refine Ev.run 1 (pc' := 17) (lv' := [(5, .int (nI 3)), (4, .int (nI c)), (0, .retAddr 10), (1, .int (nI c)), (2, .int (nI 0)), (3, .int (nI 6))]) (st' := [.int (nI 99)]) (h' := HN g hl (RF rt)) rfl ?_
        refine Ev.run 2 (pc' := (if nI 99 = nI c then 22 else 25)) (lv' := [(5, .int (nI 3)), (4, .int (nI c)), (0, .retAddr 10), (1, .int (nI c)), (2, .int (nI 0)), (3, .int (nI 6))]) (st' := []) (h' := HN g hl (RF rt)) rfl ?_
        refine Ev.ite (fun hc19 => ?_) (fun hc19 => ?_)
        · have hc19 : 99 = c := (nI_eqU (by omega) (by omega)).mp hc19
          refine Ev.run 1 (pc' := 24) (lv' := [(5, .int (nI 3)), (4, .int (nI c)), (0, .retAddr 10), (1, .int (nI c)), (2, .int (nI 0)), (3, .int (nI 6))]) (st' := [.int (nI 3)]) (h' := HN g hl (RF rt)) rfl ?_
          refine Ev.ret (v := some (.int (nI 3))) rfl ?_
          unfold plcS at hq
          repeat (first | rw [if_neg (by omega)] at hq | rw [if_pos (by omega)] at hq)
          exact hq
        · have hc19 : ¬ (99 = c) := fun z => hc19 ((nI_eqU (by omega) (by omega)).mpr z)
          refine Ev.run 7 (pc' := 16) (lv' := [(5, .int (nI 4)), (4, .int (nI c)), (0, .retAddr 10), (1, .int (nI c)), (2, .int (nI 0)), (3, .int (nI 6))]) (st' := [.int (nI 4), .retAddr 10]) (h' := HN g hl (RF rt)) rfl ?_
          refine Ev.run 1 (pc' := 17) (lv' := [(5, .int (nI 4)), (4, .int (nI c)), (0, .retAddr 10), (1, .int (nI c)), (2, .int (nI 0)), (3, .int (nI 6))]) (st' := [.int (nI 108)]) (h' := HN g hl (RF rt)) rfl ?_
          refine Ev.run 2 (pc' := (if nI 108 = nI c then 22 else 25)) (lv' := [(5, .int (nI 4)), (4, .int (nI c)), (0, .retAddr 10), (1, .int (nI c)), (2, .int (nI 0)), (3, .int (nI 6))]) (st' := []) (h' := HN g hl (RF rt)) rfl ?_
          refine Ev.ite (fun hc19 => ?_) (fun hc19 => ?_)
          · have hc19 : 108 = c := (nI_eqU (by omega) (by omega)).mp hc19
            refine Ev.run 1 (pc' := 24) (lv' := [(5, .int (nI 4)), (4, .int (nI c)), (0, .retAddr 10), (1, .int (nI c)), (2, .int (nI 0)), (3, .int (nI 6))]) (st' := [.int (nI 4)]) (h' := HN g hl (RF rt)) rfl ?_
            refine Ev.ret (v := some (.int (nI 4))) rfl ?_
            unfold plcS at hq
            repeat (first | rw [if_neg (by omega)] at hq | rw [if_pos (by omega)] at hq)
            exact hq
          · have hc19 : ¬ (108 = c) := fun z => hc19 ((nI_eqU (by omega) (by omega)).mpr z)
            refine Ev.run 7 (pc' := 16) (lv' := [(5, .int (nI 5)), (4, .int (nI c)), (0, .retAddr 10), (1, .int (nI c)), (2, .int (nI 0)), (3, .int (nI 6))]) (st' := [.int (nI 5), .retAddr 10]) (h' := HN g hl (RF rt)) rfl ?_
            refine Ev.run 1 (pc' := 17) (lv' := [(5, .int (nI 5)), (4, .int (nI c)), (0, .retAddr 10), (1, .int (nI c)), (2, .int (nI 0)), (3, .int (nI 6))]) (st' := [.int (nI 102)]) (h' := HN g hl (RF rt)) rfl ?_
            refine Ev.run 2 (pc' := (if nI 102 = nI c then 22 else 25)) (lv' := [(5, .int (nI 5)), (4, .int (nI c)), (0, .retAddr 10), (1, .int (nI c)), (2, .int (nI 0)), (3, .int (nI 6))]) (st' := []) (h' := HN g hl (RF rt)) rfl ?_
            refine Ev.ite (fun hc19 => ?_) (fun hc19 => ?_)
            · have hc19 : 102 = c := (nI_eqU (by omega) (by omega)).mp hc19
              refine Ev.run 1 (pc' := 24) (lv' := [(5, .int (nI 5)), (4, .int (nI c)), (0, .retAddr 10), (1, .int (nI c)), (2, .int (nI 0)), (3, .int (nI 6))]) (st' := [.int (nI 5)]) (h' := HN g hl (RF rt)) rfl ?_
              refine Ev.ret (v := some (.int (nI 5))) rfl ?_
              unfold plcS at hq
              repeat (first | rw [if_neg (by omega)] at hq | rw [if_pos (by omega)] at hq)
              exact hq
            · have hc19 : ¬ (102 = c) := fun z => hc19 ((nI_eqU (by omega) (by omega)).mpr z)
              refine Ev.run 6 (pc' := 32) (lv' := [(5, .int (nI 6)), (4, .int (nI c)), (0, .retAddr 10), (1, .int (nI c)), (2, .int (nI 0)), (3, .int (nI 6))]) (st' := [.int (nI 4294967295)]) (h' := HN g hl (RF rt)) rfl ?_
              refine Ev.ret (v := some (.int (nI 4294967295))) rfl ?_
              unfold plcS at hq
              repeat (first | rw [if_neg (by omega)] at hq | rw [if_pos (by omega)] at hq)
              exact hq
theorem K_canE {L : Nat} {xs : Nat → Int32} (d : Nat) (g : Nat → Nat → Nat) (hl : Nat → Nat → Int64) (rt : Nat × Nat × Nat × Nat) (c : Nat) (hc : c < 128) {Q : Po} (hq : Q (some (.int (nI 1))) (HN g hl (RF rt))) : Ev L xs d 249 0 [(0, .int (nI c))] [] (HN g hl (RF rt)) Q := by
  refine Ev.run 2 (pc' := (if nI c < 0 then 15 else 4)) (lv' := [(0, .int (nI c))]) (st' := []) (h' := HN g hl (RF rt)) rfl ?_
  refine Ev.ite (fun hc1 => ?_) (fun hc1 => ?_)
  · have hc1 : 2147483648 ≤ c := (nI_ltU0 (by omega)).mp hc1
    refine Ev.run 1 (pc' := 16) (lv' := [(0, .int (nI c))]) (st' := [.int (nI 0)]) (h' := HN g hl (RF rt)) rfl ?_
    refine Ev.ret (v := some (.int (nI 0))) rfl ?_
    first
      | exact hq
      | (exfalso; omega)
  · have hc1 : ¬ (2147483648 ≤ c) := fun z => hc1 ((nI_ltU0 (by omega)).mpr z)
    refine Ev.run 3 (pc' := (if nI 255 < nI c then 15 else 11)) (lv' := [(0, .int (nI c))]) (st' := []) (h' := HN g hl (RF rt)) rfl ?_
    refine Ev.ite (fun hc8 => ?_) (fun hc8 => ?_)
    · have hc8 : 255 < c := (nI_ltI (by omega) (by omega)).mp hc8
      refine Ev.run 1 (pc' := 16) (lv' := [(0, .int (nI c))]) (st' := [.int (nI 0)]) (h' := HN g hl (RF rt)) rfl ?_
      refine Ev.ret (v := some (.int (nI 0))) rfl ?_
      first
        | exact hq
        | (exfalso; omega)
    · have hc8 : ¬ (255 < c) := fun z => hc8 ((nI_ltI (by omega) (by omega)).mpr z)
      refine Ev.run 2 (pc' := 16) (lv' := [(0, .int (nI c))]) (st' := [.int (nI 1)]) (h' := HN g hl (RF rt)) rfl ?_
      refine Ev.ret (v := some (.int (nI 1))) rfl ?_
      first
        | exact hq
        | (exfalso; omega)
theorem K_iob4 {L : Nat} {xs : Nat → Int32} (d : Nat) (g : Nat → Nat → Nat) (hl : Nat → Nat → Int64) (rt : Nat × Nat × Nat × Nat) (c : Nat) (hc : c < 128) {Q : Po} (hq : Q (some (.int (nI (plcS c)))) (HN g hl (RF rt))) : Ev L xs (d + 2) 250 0 [(0, .retAddr 10), (1, .int (nI c)), (2, .int (nI 0)), (3, .int (nI 6))] [] (HN g hl (RF rt)) Q := by
  refine Ev.run 1 (pc' := 1) (lv' := [(0, .retAddr 10), (1, .int (nI c)), (2, .int (nI 0)), (3, .int (nI 6))]) (st' := [.int (nI c)]) (h' := HN g hl (RF rt)) rfl ?_
  refine Ev.call (a := 249) (as := [.int (nI c)]) (rest := []) (lv0 := [(0, .int (nI c))]) (Q1 := (fun z0 h' => z0 = some (.int (nI 1)) ∧ h' = HN g hl (RF rt))) rfl rfl (K_canE _ _ _ _ c hc ⟨rfl, rfl⟩) (fun r h' hr => ?_)
  obtain ⟨rfl, rfl⟩ := hr
  refine Ev.run 3 (pc' := 11) (lv' := [(0, .retAddr 10), (1, .int (nI c)), (2, .int (nI 0)), (3, .int (nI 6))]) (st' := [.int (nI 0), .int (nI 0)]) (h' := HN g hl (RF rt)) rfl ?_
  refine Ev_max rfl rfl rfl (show (if nI 0 < nI 0 then nI 0 else nI 0) = nI 0 from rfl) ?_
  refine Ev.run 4 (pc' := 18) (lv' := [(2, .int (nI 0)), (0, .retAddr 10), (1, .int (nI c)), (3, .int (nI 6))]) (st' := [.int (Int32.ofNat (xLen L 10)), .int (nI 6)]) (h' := HN g hl (RF rt)) rfl ?_
  refine Ev.topI (show Int32.ofNat (xLen L 10) = nI 6 from rfl) ?_
  refine Ev_min rfl (by omega) (by omega) rfl rfl ?_
  refine Ev.run 4 (pc' := (if nI 0 < nI (if 6 < 6 then 6 else 6) then 29 else 27)) (lv' := [(3, .int (nI (if 6 < 6 then 6 else 6))), (2, .int (nI 0)), (0, .retAddr 10), (1, .int (nI c))]) (st' := []) (h' := HN g hl (RF rt)) rfl ?_
  refine Ev.ite (fun hc24 => ?_) (fun hc24 => ?_)
  · have hc24 : 0 < (if 6 < 6 then 6 else 6) := (nI_ltI (by omega) (by omega)).mp hc24
    refine Ev.run 4 (pc' := 33) (lv' := [(3, .int (nI (if 6 < 6 then 6 else 6))), (2, .int (nI 0)), (0, .retAddr 10), (1, .int (nI c))]) (st' := [.int (nI (if 6 < 6 then 6 else 6)), .int (nI 0), .int (nI c), .retAddr 10]) (h' := HN g hl (RF rt)) rfl ?_
    refine Ev.call (a := 251) (as := [.retAddr 10, .int (nI c), .int (nI 0), .int (nI (if 6 < 6 then 6 else 6))]) (rest := []) (lv0 := [(0, .retAddr 10), (1, .int (nI c)), (2, .int (nI 0)), (3, .int (nI (if 6 < 6 then 6 else 6)))]) (Q1 := (fun z0 h' => z0 = some (.int (nI (plcS c))) ∧ h' = HN g hl (RF rt))) rfl rfl (K_ioc4 _ _ _ _ c hc ⟨rfl, rfl⟩) (fun r h' hr => ?_)
    obtain ⟨rfl, rfl⟩ := hr
    refine Ev.ret (v := some (.int (nI (plcS c)))) rfl ?_
    exact hq
  · have hc24 : ¬ (0 < (if 6 < 6 then 6 else 6)) := fun z => hc24 ((nI_ltI (by omega) (by omega)).mpr z)
    refine Ev.run 1 (pc' := 28) (lv' := [(3, .int (nI (if 6 < 6 then 6 else 6))), (2, .int (nI 0)), (0, .retAddr 10), (1, .int (nI c))]) (st' := [.int (nI 4294967295)]) (h' := HN g hl (RF rt)) rfl ?_
    refine Ev.ret (v := some (.int (nI 4294967295))) rfl ?_
    exact hq
theorem K_ioa4 {L : Nat} {xs : Nat → Int32} (d : Nat) (g : Nat → Nat → Nat) (hl : Nat → Nat → Int64) (rt : Nat × Nat × Nat × Nat) (c : Nat) (hc : c < 128) {Q : Po} (hq : Q (some (.int (nI (plcS c)))) (HN g hl (RF rt))) : Ev L xs (d + 3) 244 0 [(0, .retAddr 4), (1, .int (nI c)), (2, .int (nI 0))] [] (HN g hl (RF rt)) Q := by
  refine Ev.run 1 (pc' := 1) (lv' := [(0, .retAddr 4), (1, .int (nI c)), (2, .int (nI 0))]) (st' := [.retAddr 4]) (h' := HN g hl (RF rt)) rfl ?_
  refine Ev.call (a := 246) (as := [.retAddr 4]) (rest := []) (lv0 := [(0, .retAddr 4)]) (Q1 := (fun z0 h' => z0 = some (.int (nI 1)) ∧ h' = HN g hl (RF rt))) rfl rfl (⟨30, _, rfl, rfl, rfl⟩) (fun r h' hr => ?_)
  obtain ⟨rfl, rfl⟩ := hr
  refine Ev.run 6 (pc' := 14) (lv' := [(0, .retAddr 4), (1, .int (nI c)), (2, .int (nI 0))]) (st' := [.retAddr 4, .int (nI 0), .int (nI c), .retAddr 10]) (h' := HN g hl (RF rt)) rfl ?_
  refine Ev.call (a := 241) (as := [.retAddr 4]) (rest := [.int (nI 0), .int (nI c), .retAddr 10]) (lv0 := [(0, .retAddr 4)]) (Q1 := (fun z0 h' => z0 = some (.int (nI 6)) ∧ h' = HN g hl (RF rt))) rfl rfl (⟨60, _, rfl, rfl, rfl⟩) (fun r h' hr => ?_)
  obtain ⟨rfl, rfl⟩ := hr
  refine Ev.call (a := 250) (as := [.retAddr 10, .int (nI c), .int (nI 0), .int (nI 6)]) (rest := []) (lv0 := [(0, .retAddr 10), (1, .int (nI c)), (2, .int (nI 0)), (3, .int (nI 6))]) (Q1 := (fun z0 h' => z0 = some (.int (nI (plcS c))) ∧ h' = HN g hl (RF rt))) rfl rfl (K_iob4 _ _ _ _ c hc ⟨rfl, rfl⟩) (fun r h' hr => ?_)
  obtain ⟨rfl, rfl⟩ := hr
  refine Ev.run 1 (pc' := 36) (lv' := [(0, .retAddr 4), (1, .int (nI c)), (2, .int (nI 0))]) (st' := [.int (nI (plcS c))]) (h' := HN g hl (RF rt)) rfl ?_
  refine Ev.ret (v := some (.int (nI (plcS c)))) rfl ?_
  exact hq
theorem K_io4 {L : Nat} {xs : Nat → Int32} (d : Nat) (g : Nat → Nat → Nat) (hl : Nat → Nat → Int64) (rt : Nat × Nat × Nat × Nat) (c : Nat) (hc : c < 128) {Q : Po} (hq : Q (some (.int (nI (plcS c)))) (HN g hl (RF rt))) : Ev L xs (d + 4) 243 0 [(0, .retAddr 4), (1, .int (nI c))] [] (HN g hl (RF rt)) Q := by
  refine Ev.run 3 (pc' := 3) (lv' := [(0, .retAddr 4), (1, .int (nI c))]) (st' := [.int (nI 0), .int (nI c), .retAddr 4]) (h' := HN g hl (RF rt)) rfl ?_
  refine Ev.call (a := 244) (as := [.retAddr 4, .int (nI c), .int (nI 0)]) (rest := []) (lv0 := [(0, .retAddr 4), (1, .int (nI c)), (2, .int (nI 0))]) (Q1 := (fun z0 h' => z0 = some (.int (nI (plcS c))) ∧ h' = HN g hl (RF rt))) rfl rfl (K_ioa4 _ _ _ _ c hc ⟨rfl, rfl⟩) (fun r h' hr => ?_)
  obtain ⟨rfl, rfl⟩ := hr
  refine Ev.ret (v := some (.int (nI (plcS c)))) rfl ?_
  exact hq
theorem K_ioc5 {L : Nat} {xs : Nat → Int32} (d : Nat) (g : Nat → Nat → Nat) (hl : Nat → Nat → Int64) (rt : Nat × Nat × Nat × Nat) (c : Nat) (hc : c < 128) {Q : Po} (hq : Q (some (.int (nI (rlS c)))) (HN g hl (RF rt))) : Ev L xs (d) 251 0 [(0, .retAddr 11), (1, .int (nI c)), (2, .int (nI 0)), (3, .int (nI 3))] [] (HN g hl (RF rt)) Q := by
  refine Ev.run 2 (pc' := 2) (lv' := [(0, .retAddr 11), (1, .int (nI c)), (2, .int (nI 0)), (3, .int (nI 3))]) (st' := [.int ((nI c).toInt8.toInt32)]) (h' := HN g hl (RF rt)) rfl ?_
  refine Ev.topI (nI_i2b (by omega)) ?_
  refine Ev.run 8 (pc' := 16) (lv' := [(5, .int (nI 0)), (4, .int (nI c)), (0, .retAddr 11), (1, .int (nI c)), (2, .int (nI 0)), (3, .int (nI 3))]) (st' := [.int (nI 0), .retAddr 11]) (h' := HN g hl (RF rt)) rfl ?_
  refine Ev.run 1 (pc' := 17) (lv' := [(5, .int (nI 0)), (4, .int (nI c)), (0, .retAddr 11), (1, .int (nI c)), (2, .int (nI 0)), (3, .int (nI 3))]) (st' := [.int (nI 60)]) (h' := HN g hl (RF rt)) rfl ?_
  refine Ev.run 2 (pc' := (if nI 60 = nI c then 22 else 25)) (lv' := [(5, .int (nI 0)), (4, .int (nI c)), (0, .retAddr 11), (1, .int (nI c)), (2, .int (nI 0)), (3, .int (nI 3))]) (st' := []) (h' := HN g hl (RF rt)) rfl ?_
  refine Ev.ite (fun hc19 => ?_) (fun hc19 => ?_)
  · have hc19 : 60 = c := (nI_eqU (by omega) (by omega)).mp hc19
    refine Ev.run 1 (pc' := 24) (lv' := [(5, .int (nI 0)), (4, .int (nI c)), (0, .retAddr 11), (1, .int (nI c)), (2, .int (nI 0)), (3, .int (nI 3))]) (st' := [.int (nI 0)]) (h' := HN g hl (RF rt)) rfl ?_
    refine Ev.ret (v := some (.int (nI 0))) rfl ?_
    unfold rlS at hq
    repeat (first | rw [if_neg (by omega)] at hq | rw [if_pos (by omega)] at hq)
    exact hq
  · have hc19 : ¬ (60 = c) := fun z => hc19 ((nI_eqU (by omega) (by omega)).mpr z)
    refine Ev.run 7 (pc' := 16) (lv' := [(5, .int (nI 1)), (4, .int (nI c)), (0, .retAddr 11), (1, .int (nI c)), (2, .int (nI 0)), (3, .int (nI 3))]) (st' := [.int (nI 1), .retAddr 11]) (h' := HN g hl (RF rt)) rfl ?_
    refine Ev.run 1 (pc' := 17) (lv' := [(5, .int (nI 1)), (4, .int (nI c)), (0, .retAddr 11), (1, .int (nI c)), (2, .int (nI 0)), (3, .int (nI 3))]) (st' := [.int (nI 61)]) (h' := HN g hl (RF rt)) rfl ?_
    refine Ev.run 2 (pc' := (if nI 61 = nI c then 22 else 25)) (lv' := [(5, .int (nI 1)), (4, .int (nI c)), (0, .retAddr 11), (1, .int (nI c)), (2, .int (nI 0)), (3, .int (nI 3))]) (st' := []) (h' := HN g hl (RF rt)) rfl ?_
    refine Ev.ite (fun hc19 => ?_) (fun hc19 => ?_)
    · have hc19 : 61 = c := (nI_eqU (by omega) (by omega)).mp hc19
      refine Ev.run 1 (pc' := 24) (lv' := [(5, .int (nI 1)), (4, .int (nI c)), (0, .retAddr 11), (1, .int (nI c)), (2, .int (nI 0)), (3, .int (nI 3))]) (st' := [.int (nI 1)]) (h' := HN g hl (RF rt)) rfl ?_
      refine Ev.ret (v := some (.int (nI 1))) rfl ?_
      unfold rlS at hq
      repeat (first | rw [if_neg (by omega)] at hq | rw [if_pos (by omega)] at hq)
      exact hq
    · have hc19 : ¬ (61 = c) := fun z => hc19 ((nI_eqU (by omega) (by omega)).mpr z)
      refine Ev.run 7 (pc' := 16) (lv' := [(5, .int (nI 2)), (4, .int (nI c)), (0, .retAddr 11), (1, .int (nI c)), (2, .int (nI 0)), (3, .int (nI 3))]) (st' := [.int (nI 2), .retAddr 11]) (h' := HN g hl (RF rt)) rfl ?_
      refine Ev.run 1 (pc' := 17) (lv' := [(5, .int (nI 2)), (4, .int (nI c)), (0, .retAddr 11), (1, .int (nI c)), (2, .int (nI 0)), (3, .int (nI 3))]) (st' := [.int (nI 62)]) (h' := HN g hl (RF rt)) rfl ?_
      refine Ev.run 2 (pc' := (if nI 62 = nI c then 22 else 25)) (lv' := [(5, .int (nI 2)), (4, .int (nI c)), (0, .retAddr 11), (1, .int (nI c)), (2, .int (nI 0)), (3, .int (nI 3))]) (st' := []) (h' := HN g hl (RF rt)) rfl ?_
      refine Ev.ite (fun hc19 => ?_) (fun hc19 => ?_)
      · have hc19 : 62 = c := (nI_eqU (by omega) (by omega)).mp hc19
        refine Ev.run 1 (pc' := 24) (lv' := [(5, .int (nI 2)), (4, .int (nI c)), (0, .retAddr 11), (1, .int (nI c)), (2, .int (nI 0)), (3, .int (nI 3))]) (st' := [.int (nI 2)]) (h' := HN g hl (RF rt)) rfl ?_
        refine Ev.ret (v := some (.int (nI 2))) rfl ?_
        unfold rlS at hq
        repeat (first | rw [if_neg (by omega)] at hq | rw [if_pos (by omega)] at hq)
        exact hq
      · have hc19 : ¬ (62 = c) := fun z => hc19 ((nI_eqU (by omega) (by omega)).mpr z)
        refine Ev.run 6 (pc' := 32) (lv' := [(5, .int (nI 3)), (4, .int (nI c)), (0, .retAddr 11), (1, .int (nI c)), (2, .int (nI 0)), (3, .int (nI 3))]) (st' := [.int (nI 4294967295)]) (h' := HN g hl (RF rt)) rfl ?_
        refine Ev.ret (v := some (.int (nI 4294967295))) rfl ?_
        unfold rlS at hq
        repeat (first | rw [if_neg (by omega)] at hq | rw [if_pos (by omega)] at hq)
        exact hq
theorem K_iob5 {L : Nat} {xs : Nat → Int32} (d : Nat) (g : Nat → Nat → Nat) (hl : Nat → Nat → Int64) (rt : Nat × Nat × Nat × Nat) (c : Nat) (hc : c < 128) {Q : Po} (hq : Q (some (.int (nI (rlS c)))) (HN g hl (RF rt))) : Ev L xs (d + 2) 250 0 [(0, .retAddr 11), (1, .int (nI c)), (2, .int (nI 0)), (3, .int (nI 3))] [] (HN g hl (RF rt)) Q := by
  refine Ev.run 1 (pc' := 1) (lv' := [(0, .retAddr 11), (1, .int (nI c)), (2, .int (nI 0)), (3, .int (nI 3))]) (st' := [.int (nI c)]) (h' := HN g hl (RF rt)) rfl ?_
  refine Ev.call (a := 249) (as := [.int (nI c)]) (rest := []) (lv0 := [(0, .int (nI c))]) (Q1 := (fun z0 h' => z0 = some (.int (nI 1)) ∧ h' = HN g hl (RF rt))) rfl rfl (K_canE _ _ _ _ c hc ⟨rfl, rfl⟩) (fun r h' hr => ?_)
  obtain ⟨rfl, rfl⟩ := hr
  refine Ev.run 3 (pc' := 11) (lv' := [(0, .retAddr 11), (1, .int (nI c)), (2, .int (nI 0)), (3, .int (nI 3))]) (st' := [.int (nI 0), .int (nI 0)]) (h' := HN g hl (RF rt)) rfl ?_
  refine Ev_max rfl rfl rfl (show (if nI 0 < nI 0 then nI 0 else nI 0) = nI 0 from rfl) ?_
  refine Ev.run 4 (pc' := 18) (lv' := [(2, .int (nI 0)), (0, .retAddr 11), (1, .int (nI c)), (3, .int (nI 3))]) (st' := [.int (Int32.ofNat (xLen L 11)), .int (nI 3)]) (h' := HN g hl (RF rt)) rfl ?_
  refine Ev.topI (show Int32.ofNat (xLen L 11) = nI 3 from rfl) ?_
  refine Ev_min rfl (by omega) (by omega) rfl rfl ?_
  refine Ev.run 4 (pc' := (if nI 0 < nI (if 3 < 3 then 3 else 3) then 29 else 27)) (lv' := [(3, .int (nI (if 3 < 3 then 3 else 3))), (2, .int (nI 0)), (0, .retAddr 11), (1, .int (nI c))]) (st' := []) (h' := HN g hl (RF rt)) rfl ?_
  refine Ev.ite (fun hc24 => ?_) (fun hc24 => ?_)
  · have hc24 : 0 < (if 3 < 3 then 3 else 3) := (nI_ltI (by omega) (by omega)).mp hc24
    refine Ev.run 4 (pc' := 33) (lv' := [(3, .int (nI (if 3 < 3 then 3 else 3))), (2, .int (nI 0)), (0, .retAddr 11), (1, .int (nI c))]) (st' := [.int (nI (if 3 < 3 then 3 else 3)), .int (nI 0), .int (nI c), .retAddr 11]) (h' := HN g hl (RF rt)) rfl ?_
    refine Ev.call (a := 251) (as := [.retAddr 11, .int (nI c), .int (nI 0), .int (nI (if 3 < 3 then 3 else 3))]) (rest := []) (lv0 := [(0, .retAddr 11), (1, .int (nI c)), (2, .int (nI 0)), (3, .int (nI (if 3 < 3 then 3 else 3)))]) (Q1 := (fun z0 h' => z0 = some (.int (nI (rlS c))) ∧ h' = HN g hl (RF rt))) rfl rfl (K_ioc5 _ _ _ _ c hc ⟨rfl, rfl⟩) (fun r h' hr => ?_)
    obtain ⟨rfl, rfl⟩ := hr
    refine Ev.ret (v := some (.int (nI (rlS c)))) rfl ?_
    exact hq
  · have hc24 : ¬ (0 < (if 3 < 3 then 3 else 3)) := fun z => hc24 ((nI_ltI (by omega) (by omega)).mpr z)
    refine Ev.run 1 (pc' := 28) (lv' := [(3, .int (nI (if 3 < 3 then 3 else 3))), (2, .int (nI 0)), (0, .retAddr 11), (1, .int (nI c))]) (st' := [.int (nI 4294967295)]) (h' := HN g hl (RF rt)) rfl ?_
    refine Ev.ret (v := some (.int (nI 4294967295))) rfl ?_
    exact hq
theorem K_ioa5 {L : Nat} {xs : Nat → Int32} (d : Nat) (g : Nat → Nat → Nat) (hl : Nat → Nat → Int64) (rt : Nat × Nat × Nat × Nat) (c : Nat) (hc : c < 128) {Q : Po} (hq : Q (some (.int (nI (rlS c)))) (HN g hl (RF rt))) : Ev L xs (d + 3) 244 0 [(0, .retAddr 5), (1, .int (nI c)), (2, .int (nI 0))] [] (HN g hl (RF rt)) Q := by
  refine Ev.run 1 (pc' := 1) (lv' := [(0, .retAddr 5), (1, .int (nI c)), (2, .int (nI 0))]) (st' := [.retAddr 5]) (h' := HN g hl (RF rt)) rfl ?_
  refine Ev.call (a := 246) (as := [.retAddr 5]) (rest := []) (lv0 := [(0, .retAddr 5)]) (Q1 := (fun z0 h' => z0 = some (.int (nI 1)) ∧ h' = HN g hl (RF rt))) rfl rfl (⟨30, _, rfl, rfl, rfl⟩) (fun r h' hr => ?_)
  obtain ⟨rfl, rfl⟩ := hr
  refine Ev.run 6 (pc' := 14) (lv' := [(0, .retAddr 5), (1, .int (nI c)), (2, .int (nI 0))]) (st' := [.retAddr 5, .int (nI 0), .int (nI c), .retAddr 11]) (h' := HN g hl (RF rt)) rfl ?_
  refine Ev.call (a := 241) (as := [.retAddr 5]) (rest := [.int (nI 0), .int (nI c), .retAddr 11]) (lv0 := [(0, .retAddr 5)]) (Q1 := (fun z0 h' => z0 = some (.int (nI 3)) ∧ h' = HN g hl (RF rt))) rfl rfl (⟨60, _, rfl, rfl, rfl⟩) (fun r h' hr => ?_)
  obtain ⟨rfl, rfl⟩ := hr
  refine Ev.call (a := 250) (as := [.retAddr 11, .int (nI c), .int (nI 0), .int (nI 3)]) (rest := []) (lv0 := [(0, .retAddr 11), (1, .int (nI c)), (2, .int (nI 0)), (3, .int (nI 3))]) (Q1 := (fun z0 h' => z0 = some (.int (nI (rlS c))) ∧ h' = HN g hl (RF rt))) rfl rfl (K_iob5 _ _ _ _ c hc ⟨rfl, rfl⟩) (fun r h' hr => ?_)
  obtain ⟨rfl, rfl⟩ := hr
  refine Ev.run 1 (pc' := 36) (lv' := [(0, .retAddr 5), (1, .int (nI c)), (2, .int (nI 0))]) (st' := [.int (nI (rlS c))]) (h' := HN g hl (RF rt)) rfl ?_
  refine Ev.ret (v := some (.int (nI (rlS c)))) rfl ?_
  exact hq
theorem K_io5 {L : Nat} {xs : Nat → Int32} (d : Nat) (g : Nat → Nat → Nat) (hl : Nat → Nat → Int64) (rt : Nat × Nat × Nat × Nat) (c : Nat) (hc : c < 128) {Q : Po} (hq : Q (some (.int (nI (rlS c)))) (HN g hl (RF rt))) : Ev L xs (d + 4) 243 0 [(0, .retAddr 5), (1, .int (nI c))] [] (HN g hl (RF rt)) Q := by
  refine Ev.run 3 (pc' := 3) (lv' := [(0, .retAddr 5), (1, .int (nI c))]) (st' := [.int (nI 0), .int (nI c), .retAddr 5]) (h' := HN g hl (RF rt)) rfl ?_
  refine Ev.call (a := 244) (as := [.retAddr 5, .int (nI c), .int (nI 0)]) (rest := []) (lv0 := [(0, .retAddr 5), (1, .int (nI c)), (2, .int (nI 0))]) (Q1 := (fun z0 h' => z0 = some (.int (nI (rlS c))) ∧ h' = HN g hl (RF rt))) rfl rfl (K_ioa5 _ _ _ _ c hc ⟨rfl, rfl⟩) (fun r h' hr => ?_)
  obtain ⟨rfl, rfl⟩ := hr
  refine Ev.ret (v := some (.int (nI (rlS c)))) rfl ?_
  exact hq
theorem K_ioc6 {L : Nat} {xs : Nat → Int32} (d : Nat) (g : Nat → Nat → Nat) (hl : Nat → Nat → Int64) (rt : Nat × Nat × Nat × Nat) (c : Nat) (hc : c < 128) {Q : Po} (hq : Q (some (.int (nI (dgS c)))) (HN g hl (RF rt))) : Ev L xs (d) 251 0 [(0, .retAddr 12), (1, .int (nI c)), (2, .int (nI 0)), (3, .int (nI 10))] [] (HN g hl (RF rt)) Q := by
  refine Ev.run 2 (pc' := 2) (lv' := [(0, .retAddr 12), (1, .int (nI c)), (2, .int (nI 0)), (3, .int (nI 10))]) (st' := [.int ((nI c).toInt8.toInt32)]) (h' := HN g hl (RF rt)) rfl ?_
  refine Ev.topI (nI_i2b (by omega)) ?_
  refine Ev.run 8 (pc' := 16) (lv' := [(5, .int (nI 0)), (4, .int (nI c)), (0, .retAddr 12), (1, .int (nI c)), (2, .int (nI 0)), (3, .int (nI 10))]) (st' := [.int (nI 0), .retAddr 12]) (h' := HN g hl (RF rt)) rfl ?_
  refine Ev.run 1 (pc' := 17) (lv' := [(5, .int (nI 0)), (4, .int (nI c)), (0, .retAddr 12), (1, .int (nI c)), (2, .int (nI 0)), (3, .int (nI 10))]) (st' := [.int (nI 48)]) (h' := HN g hl (RF rt)) rfl ?_
  refine Ev.run 2 (pc' := (if nI 48 = nI c then 22 else 25)) (lv' := [(5, .int (nI 0)), (4, .int (nI c)), (0, .retAddr 12), (1, .int (nI c)), (2, .int (nI 0)), (3, .int (nI 10))]) (st' := []) (h' := HN g hl (RF rt)) rfl ?_
  refine Ev.ite (fun hc19 => ?_) (fun hc19 => ?_)
  · have hc19 : 48 = c := (nI_eqU (by omega) (by omega)).mp hc19
    refine Ev.run 1 (pc' := 24) (lv' := [(5, .int (nI 0)), (4, .int (nI c)), (0, .retAddr 12), (1, .int (nI c)), (2, .int (nI 0)), (3, .int (nI 10))]) (st' := [.int (nI 0)]) (h' := HN g hl (RF rt)) rfl ?_
    refine Ev.ret (v := some (.int (nI 0))) rfl ?_
    unfold dgS at hq
    repeat (first | rw [if_neg (by omega)] at hq | rw [if_pos (by omega)] at hq)
    exact hq
  · have hc19 : ¬ (48 = c) := fun z => hc19 ((nI_eqU (by omega) (by omega)).mpr z)
    refine Ev.run 7 (pc' := 16) (lv' := [(5, .int (nI 1)), (4, .int (nI c)), (0, .retAddr 12), (1, .int (nI c)), (2, .int (nI 0)), (3, .int (nI 10))]) (st' := [.int (nI 1), .retAddr 12]) (h' := HN g hl (RF rt)) rfl ?_
    refine Ev.run 1 (pc' := 17) (lv' := [(5, .int (nI 1)), (4, .int (nI c)), (0, .retAddr 12), (1, .int (nI c)), (2, .int (nI 0)), (3, .int (nI 10))]) (st' := [.int (nI 49)]) (h' := HN g hl (RF rt)) rfl ?_
    refine Ev.run 2 (pc' := (if nI 49 = nI c then 22 else 25)) (lv' := [(5, .int (nI 1)), (4, .int (nI c)), (0, .retAddr 12), (1, .int (nI c)), (2, .int (nI 0)), (3, .int (nI 10))]) (st' := []) (h' := HN g hl (RF rt)) rfl ?_
    refine Ev.ite (fun hc19 => ?_) (fun hc19 => ?_)
    · have hc19 : 49 = c := (nI_eqU (by omega) (by omega)).mp hc19
      refine Ev.run 1 (pc' := 24) (lv' := [(5, .int (nI 1)), (4, .int (nI c)), (0, .retAddr 12), (1, .int (nI c)), (2, .int (nI 0)), (3, .int (nI 10))]) (st' := [.int (nI 1)]) (h' := HN g hl (RF rt)) rfl ?_
      refine Ev.ret (v := some (.int (nI 1))) rfl ?_
      unfold dgS at hq
      repeat (first | rw [if_neg (by omega)] at hq | rw [if_pos (by omega)] at hq)
      exact hq
    · have hc19 : ¬ (49 = c) := fun z => hc19 ((nI_eqU (by omega) (by omega)).mpr z)
      refine Ev.run 7 (pc' := 16) (lv' := [(5, .int (nI 2)), (4, .int (nI c)), (0, .retAddr 12), (1, .int (nI c)), (2, .int (nI 0)), (3, .int (nI 10))]) (st' := [.int (nI 2), .retAddr 12]) (h' := HN g hl (RF rt)) rfl ?_
      refine Ev.run 1 (pc' := 17) (lv' := [(5, .int (nI 2)), (4, .int (nI c)), (0, .retAddr 12), (1, .int (nI c)), (2, .int (nI 0)), (3, .int (nI 10))]) (st' := [.int (nI 50)]) (h' := HN g hl (RF rt)) rfl ?_
      refine Ev.run 2 (pc' := (if nI 50 = nI c then 22 else 25)) (lv' := [(5, .int (nI 2)), (4, .int (nI c)), (0, .retAddr 12), (1, .int (nI c)), (2, .int (nI 0)), (3, .int (nI 10))]) (st' := []) (h' := HN g hl (RF rt)) rfl ?_
      refine Ev.ite (fun hc19 => ?_) (fun hc19 => ?_)
      · have hc19 : 50 = c := (nI_eqU (by omega) (by omega)).mp hc19
        refine Ev.run 1 (pc' := 24) (lv' := [(5, .int (nI 2)), (4, .int (nI c)), (0, .retAddr 12), (1, .int (nI c)), (2, .int (nI 0)), (3, .int (nI 10))]) (st' := [.int (nI 2)]) (h' := HN g hl (RF rt)) rfl ?_
        refine Ev.ret (v := some (.int (nI 2))) rfl ?_
        unfold dgS at hq
        repeat (first | rw [if_neg (by omega)] at hq | rw [if_pos (by omega)] at hq)
        exact hq
      · have hc19 : ¬ (50 = c) := fun z => hc19 ((nI_eqU (by omega) (by omega)).mpr z)
        refine Ev.run 7 (pc' := 16) (lv' := [(5, .int (nI 3)), (4, .int (nI c)), (0, .retAddr 12), (1, .int (nI c)), (2, .int (nI 0)), (3, .int (nI 10))]) (st' := [.int (nI 3), .retAddr 12]) (h' := HN g hl (RF rt)) rfl ?_
        refine Ev.run 1 (pc' := 17) (lv' := [(5, .int (nI 3)), (4, .int (nI c)), (0, .retAddr 12), (1, .int (nI c)), (2, .int (nI 0)), (3, .int (nI 10))]) (st' := [.int (nI 51)]) (h' := HN g hl (RF rt)) rfl ?_
        refine Ev.run 2 (pc' := (if nI 51 = nI c then 22 else 25)) (lv' := [(5, .int (nI 3)), (4, .int (nI c)), (0, .retAddr 12), (1, .int (nI c)), (2, .int (nI 0)), (3, .int (nI 10))]) (st' := []) (h' := HN g hl (RF rt)) rfl ?_
        refine Ev.ite (fun hc19 => ?_) (fun hc19 => ?_)
        · have hc19 : 51 = c := (nI_eqU (by omega) (by omega)).mp hc19
          refine Ev.run 1 (pc' := 24) (lv' := [(5, .int (nI 3)), (4, .int (nI c)), (0, .retAddr 12), (1, .int (nI c)), (2, .int (nI 0)), (3, .int (nI 10))]) (st' := [.int (nI 3)]) (h' := HN g hl (RF rt)) rfl ?_
          refine Ev.ret (v := some (.int (nI 3))) rfl ?_
          unfold dgS at hq
          repeat (first | rw [if_neg (by omega)] at hq | rw [if_pos (by omega)] at hq)
          exact hq
        · have hc19 : ¬ (51 = c) := fun z => hc19 ((nI_eqU (by omega) (by omega)).mpr z)
          refine Ev.run 7 (pc' := 16) (lv' := [(5, .int (nI 4)), (4, .int (nI c)), (0, .retAddr 12), (1, .int (nI c)), (2, .int (nI 0)), (3, .int (nI 10))]) (st' := [.int (nI 4), .retAddr 12]) (h' := HN g hl (RF rt)) rfl ?_
          refine Ev.run 1 (pc' := 17) (lv' := [(5, .int (nI 4)), (4, .int (nI c)), (0, .retAddr 12), (1, .int (nI c)), (2, .int (nI 0)), (3, .int (nI 10))]) (st' := [.int (nI 52)]) (h' := HN g hl (RF rt)) rfl ?_
          refine Ev.run 2 (pc' := (if nI 52 = nI c then 22 else 25)) (lv' := [(5, .int (nI 4)), (4, .int (nI c)), (0, .retAddr 12), (1, .int (nI c)), (2, .int (nI 0)), (3, .int (nI 10))]) (st' := []) (h' := HN g hl (RF rt)) rfl ?_
          refine Ev.ite (fun hc19 => ?_) (fun hc19 => ?_)
          · have hc19 : 52 = c := (nI_eqU (by omega) (by omega)).mp hc19
            refine Ev.run 1 (pc' := 24) (lv' := [(5, .int (nI 4)), (4, .int (nI c)), (0, .retAddr 12), (1, .int (nI c)), (2, .int (nI 0)), (3, .int (nI 10))]) (st' := [.int (nI 4)]) (h' := HN g hl (RF rt)) rfl ?_
            refine Ev.ret (v := some (.int (nI 4))) rfl ?_
            unfold dgS at hq
            repeat (first | rw [if_neg (by omega)] at hq | rw [if_pos (by omega)] at hq)
            exact hq
          · have hc19 : ¬ (52 = c) := fun z => hc19 ((nI_eqU (by omega) (by omega)).mpr z)
            refine Ev.run 7 (pc' := 16) (lv' := [(5, .int (nI 5)), (4, .int (nI c)), (0, .retAddr 12), (1, .int (nI c)), (2, .int (nI 0)), (3, .int (nI 10))]) (st' := [.int (nI 5), .retAddr 12]) (h' := HN g hl (RF rt)) rfl ?_
            refine Ev.run 1 (pc' := 17) (lv' := [(5, .int (nI 5)), (4, .int (nI c)), (0, .retAddr 12), (1, .int (nI c)), (2, .int (nI 0)), (3, .int (nI 10))]) (st' := [.int (nI 53)]) (h' := HN g hl (RF rt)) rfl ?_
            refine Ev.run 2 (pc' := (if nI 53 = nI c then 22 else 25)) (lv' := [(5, .int (nI 5)), (4, .int (nI c)), (0, .retAddr 12), (1, .int (nI c)), (2, .int (nI 0)), (3, .int (nI 10))]) (st' := []) (h' := HN g hl (RF rt)) rfl ?_
            refine Ev.ite (fun hc19 => ?_) (fun hc19 => ?_)
            · have hc19 : 53 = c := (nI_eqU (by omega) (by omega)).mp hc19
              refine Ev.run 1 (pc' := 24) (lv' := [(5, .int (nI 5)), (4, .int (nI c)), (0, .retAddr 12), (1, .int (nI c)), (2, .int (nI 0)), (3, .int (nI 10))]) (st' := [.int (nI 5)]) (h' := HN g hl (RF rt)) rfl ?_
              refine Ev.ret (v := some (.int (nI 5))) rfl ?_
              unfold dgS at hq
              repeat (first | rw [if_neg (by omega)] at hq | rw [if_pos (by omega)] at hq)
              exact hq
            · have hc19 : ¬ (53 = c) := fun z => hc19 ((nI_eqU (by omega) (by omega)).mpr z)
              refine Ev.run 7 (pc' := 16) (lv' := [(5, .int (nI 6)), (4, .int (nI c)), (0, .retAddr 12), (1, .int (nI c)), (2, .int (nI 0)), (3, .int (nI 10))]) (st' := [.int (nI 6), .retAddr 12]) (h' := HN g hl (RF rt)) rfl ?_
              refine Ev.run 1 (pc' := 17) (lv' := [(5, .int (nI 6)), (4, .int (nI c)), (0, .retAddr 12), (1, .int (nI c)), (2, .int (nI 0)), (3, .int (nI 10))]) (st' := [.int (nI 54)]) (h' := HN g hl (RF rt)) rfl ?_
              refine Ev.run 2 (pc' := (if nI 54 = nI c then 22 else 25)) (lv' := [(5, .int (nI 6)), (4, .int (nI c)), (0, .retAddr 12), (1, .int (nI c)), (2, .int (nI 0)), (3, .int (nI 10))]) (st' := []) (h' := HN g hl (RF rt)) rfl ?_
              refine Ev.ite (fun hc19 => ?_) (fun hc19 => ?_)
              · have hc19 : 54 = c := (nI_eqU (by omega) (by omega)).mp hc19
                refine Ev.run 1 (pc' := 24) (lv' := [(5, .int (nI 6)), (4, .int (nI c)), (0, .retAddr 12), (1, .int (nI c)), (2, .int (nI 0)), (3, .int (nI 10))]) (st' := [.int (nI 6)]) (h' := HN g hl (RF rt)) rfl ?_
                refine Ev.ret (v := some (.int (nI 6))) rfl ?_
                unfold dgS at hq
                repeat (first | rw [if_neg (by omega)] at hq | rw [if_pos (by omega)] at hq)
                exact hq
              · have hc19 : ¬ (54 = c) := fun z => hc19 ((nI_eqU (by omega) (by omega)).mpr z)
                refine Ev.run 7 (pc' := 16) (lv' := [(5, .int (nI 7)), (4, .int (nI c)), (0, .retAddr 12), (1, .int (nI c)), (2, .int (nI 0)), (3, .int (nI 10))]) (st' := [.int (nI 7), .retAddr 12]) (h' := HN g hl (RF rt)) rfl ?_
                refine Ev.run 1 (pc' := 17) (lv' := [(5, .int (nI 7)), (4, .int (nI c)), (0, .retAddr 12), (1, .int (nI c)), (2, .int (nI 0)), (3, .int (nI 10))]) (st' := [.int (nI 55)]) (h' := HN g hl (RF rt)) rfl ?_
                refine Ev.run 2 (pc' := (if nI 55 = nI c then 22 else 25)) (lv' := [(5, .int (nI 7)), (4, .int (nI c)), (0, .retAddr 12), (1, .int (nI c)), (2, .int (nI 0)), (3, .int (nI 10))]) (st' := []) (h' := HN g hl (RF rt)) rfl ?_
                refine Ev.ite (fun hc19 => ?_) (fun hc19 => ?_)
                · have hc19 : 55 = c := (nI_eqU (by omega) (by omega)).mp hc19
                  refine Ev.run 1 (pc' := 24) (lv' := [(5, .int (nI 7)), (4, .int (nI c)), (0, .retAddr 12), (1, .int (nI c)), (2, .int (nI 0)), (3, .int (nI 10))]) (st' := [.int (nI 7)]) (h' := HN g hl (RF rt)) rfl ?_
                  refine Ev.ret (v := some (.int (nI 7))) rfl ?_
                  unfold dgS at hq
                  repeat (first | rw [if_neg (by omega)] at hq | rw [if_pos (by omega)] at hq)
                  exact hq
                · have hc19 : ¬ (55 = c) := fun z => hc19 ((nI_eqU (by omega) (by omega)).mpr z)
                  refine Ev.run 7 (pc' := 16) (lv' := [(5, .int (nI 8)), (4, .int (nI c)), (0, .retAddr 12), (1, .int (nI c)), (2, .int (nI 0)), (3, .int (nI 10))]) (st' := [.int (nI 8), .retAddr 12]) (h' := HN g hl (RF rt)) rfl ?_
                  refine Ev.run 1 (pc' := 17) (lv' := [(5, .int (nI 8)), (4, .int (nI c)), (0, .retAddr 12), (1, .int (nI c)), (2, .int (nI 0)), (3, .int (nI 10))]) (st' := [.int (nI 56)]) (h' := HN g hl (RF rt)) rfl ?_
                  refine Ev.run 2 (pc' := (if nI 56 = nI c then 22 else 25)) (lv' := [(5, .int (nI 8)), (4, .int (nI c)), (0, .retAddr 12), (1, .int (nI c)), (2, .int (nI 0)), (3, .int (nI 10))]) (st' := []) (h' := HN g hl (RF rt)) rfl ?_
                  refine Ev.ite (fun hc19 => ?_) (fun hc19 => ?_)
                  · have hc19 : 56 = c := (nI_eqU (by omega) (by omega)).mp hc19
                    refine Ev.run 1 (pc' := 24) (lv' := [(5, .int (nI 8)), (4, .int (nI c)), (0, .retAddr 12), (1, .int (nI c)), (2, .int (nI 0)), (3, .int (nI 10))]) (st' := [.int (nI 8)]) (h' := HN g hl (RF rt)) rfl ?_
                    refine Ev.ret (v := some (.int (nI 8))) rfl ?_
                    unfold dgS at hq
                    repeat (first | rw [if_neg (by omega)] at hq | rw [if_pos (by omega)] at hq)
                    exact hq
                  · have hc19 : ¬ (56 = c) := fun z => hc19 ((nI_eqU (by omega) (by omega)).mpr z)
                    refine Ev.run 7 (pc' := 16) (lv' := [(5, .int (nI 9)), (4, .int (nI c)), (0, .retAddr 12), (1, .int (nI c)), (2, .int (nI 0)), (3, .int (nI 10))]) (st' := [.int (nI 9), .retAddr 12]) (h' := HN g hl (RF rt)) rfl ?_
                    refine Ev.run 1 (pc' := 17) (lv' := [(5, .int (nI 9)), (4, .int (nI c)), (0, .retAddr 12), (1, .int (nI c)), (2, .int (nI 0)), (3, .int (nI 10))]) (st' := [.int (nI 57)]) (h' := HN g hl (RF rt)) rfl ?_
                    refine Ev.run 2 (pc' := (if nI 57 = nI c then 22 else 25)) (lv' := [(5, .int (nI 9)), (4, .int (nI c)), (0, .retAddr 12), (1, .int (nI c)), (2, .int (nI 0)), (3, .int (nI 10))]) (st' := []) (h' := HN g hl (RF rt)) rfl ?_
                    refine Ev.ite (fun hc19 => ?_) (fun hc19 => ?_)
                    · have hc19 : 57 = c := (nI_eqU (by omega) (by omega)).mp hc19
                      refine Ev.run 1 (pc' := 24) (lv' := [(5, .int (nI 9)), (4, .int (nI c)), (0, .retAddr 12), (1, .int (nI c)), (2, .int (nI 0)), (3, .int (nI 10))]) (st' := [.int (nI 9)]) (h' := HN g hl (RF rt)) rfl ?_
                      refine Ev.ret (v := some (.int (nI 9))) rfl ?_
                      unfold dgS at hq
                      repeat (first | rw [if_neg (by omega)] at hq | rw [if_pos (by omega)] at hq)
                      exact hq
                    · have hc19 : ¬ (57 = c) := fun z => hc19 ((nI_eqU (by omega) (by omega)).mpr z)
                      refine Ev.run 6 (pc' := 32) (lv' := [(5, .int (nI 10)), (4, .int (nI c)), (0, .retAddr 12), (1, .int (nI c)), (2, .int (nI 0)), (3, .int (nI 10))]) (st' := [.int (nI 4294967295)]) (h' := HN g hl (RF rt)) rfl ?_
                      refine Ev.ret (v := some (.int (nI 4294967295))) rfl ?_
                      unfold dgS at hq
                      repeat (first | rw [if_neg (by omega)] at hq | rw [if_pos (by omega)] at hq)
                      exact hq
theorem K_iob6 {L : Nat} {xs : Nat → Int32} (d : Nat) (g : Nat → Nat → Nat) (hl : Nat → Nat → Int64) (rt : Nat × Nat × Nat × Nat) (c : Nat) (hc : c < 128) {Q : Po} (hq : Q (some (.int (nI (dgS c)))) (HN g hl (RF rt))) : Ev L xs (d + 2) 250 0 [(0, .retAddr 12), (1, .int (nI c)), (2, .int (nI 0)), (3, .int (nI 10))] [] (HN g hl (RF rt)) Q := by
  refine Ev.run 1 (pc' := 1) (lv' := [(0, .retAddr 12), (1, .int (nI c)), (2, .int (nI 0)), (3, .int (nI 10))]) (st' := [.int (nI c)]) (h' := HN g hl (RF rt)) rfl ?_
  refine Ev.call (a := 249) (as := [.int (nI c)]) (rest := []) (lv0 := [(0, .int (nI c))]) (Q1 := (fun z0 h' => z0 = some (.int (nI 1)) ∧ h' = HN g hl (RF rt))) rfl rfl (K_canE _ _ _ _ c hc ⟨rfl, rfl⟩) (fun r h' hr => ?_)
  obtain ⟨rfl, rfl⟩ := hr
  refine Ev.run 3 (pc' := 11) (lv' := [(0, .retAddr 12), (1, .int (nI c)), (2, .int (nI 0)), (3, .int (nI 10))]) (st' := [.int (nI 0), .int (nI 0)]) (h' := HN g hl (RF rt)) rfl ?_
  refine Ev_max rfl rfl rfl (show (if nI 0 < nI 0 then nI 0 else nI 0) = nI 0 from rfl) ?_
  refine Ev.run 4 (pc' := 18) (lv' := [(2, .int (nI 0)), (0, .retAddr 12), (1, .int (nI c)), (3, .int (nI 10))]) (st' := [.int (Int32.ofNat (xLen L 12)), .int (nI 10)]) (h' := HN g hl (RF rt)) rfl ?_
  refine Ev.topI (show Int32.ofNat (xLen L 12) = nI 10 from rfl) ?_
  refine Ev_min rfl (by omega) (by omega) rfl rfl ?_
  refine Ev.run 4 (pc' := (if nI 0 < nI (if 10 < 10 then 10 else 10) then 29 else 27)) (lv' := [(3, .int (nI (if 10 < 10 then 10 else 10))), (2, .int (nI 0)), (0, .retAddr 12), (1, .int (nI c))]) (st' := []) (h' := HN g hl (RF rt)) rfl ?_
  refine Ev.ite (fun hc24 => ?_) (fun hc24 => ?_)
  · have hc24 : 0 < (if 10 < 10 then 10 else 10) := (nI_ltI (by omega) (by omega)).mp hc24
    refine Ev.run 4 (pc' := 33) (lv' := [(3, .int (nI (if 10 < 10 then 10 else 10))), (2, .int (nI 0)), (0, .retAddr 12), (1, .int (nI c))]) (st' := [.int (nI (if 10 < 10 then 10 else 10)), .int (nI 0), .int (nI c), .retAddr 12]) (h' := HN g hl (RF rt)) rfl ?_
    refine Ev.call (a := 251) (as := [.retAddr 12, .int (nI c), .int (nI 0), .int (nI (if 10 < 10 then 10 else 10))]) (rest := []) (lv0 := [(0, .retAddr 12), (1, .int (nI c)), (2, .int (nI 0)), (3, .int (nI (if 10 < 10 then 10 else 10)))]) (Q1 := (fun z0 h' => z0 = some (.int (nI (dgS c))) ∧ h' = HN g hl (RF rt))) rfl rfl (K_ioc6 _ _ _ _ c hc ⟨rfl, rfl⟩) (fun r h' hr => ?_)
    obtain ⟨rfl, rfl⟩ := hr
    refine Ev.ret (v := some (.int (nI (dgS c)))) rfl ?_
    exact hq
  · have hc24 : ¬ (0 < (if 10 < 10 then 10 else 10)) := fun z => hc24 ((nI_ltI (by omega) (by omega)).mpr z)
    refine Ev.run 1 (pc' := 28) (lv' := [(3, .int (nI (if 10 < 10 then 10 else 10))), (2, .int (nI 0)), (0, .retAddr 12), (1, .int (nI c))]) (st' := [.int (nI 4294967295)]) (h' := HN g hl (RF rt)) rfl ?_
    refine Ev.ret (v := some (.int (nI 4294967295))) rfl ?_
    exact hq
theorem K_ioa6 {L : Nat} {xs : Nat → Int32} (d : Nat) (g : Nat → Nat → Nat) (hl : Nat → Nat → Int64) (rt : Nat × Nat × Nat × Nat) (c : Nat) (hc : c < 128) {Q : Po} (hq : Q (some (.int (nI (dgS c)))) (HN g hl (RF rt))) : Ev L xs (d + 3) 244 0 [(0, .retAddr 6), (1, .int (nI c)), (2, .int (nI 0))] [] (HN g hl (RF rt)) Q := by
  refine Ev.run 1 (pc' := 1) (lv' := [(0, .retAddr 6), (1, .int (nI c)), (2, .int (nI 0))]) (st' := [.retAddr 6]) (h' := HN g hl (RF rt)) rfl ?_
  refine Ev.call (a := 246) (as := [.retAddr 6]) (rest := []) (lv0 := [(0, .retAddr 6)]) (Q1 := (fun z0 h' => z0 = some (.int (nI 1)) ∧ h' = HN g hl (RF rt))) rfl rfl (⟨30, _, rfl, rfl, rfl⟩) (fun r h' hr => ?_)
  obtain ⟨rfl, rfl⟩ := hr
  refine Ev.run 6 (pc' := 14) (lv' := [(0, .retAddr 6), (1, .int (nI c)), (2, .int (nI 0))]) (st' := [.retAddr 6, .int (nI 0), .int (nI c), .retAddr 12]) (h' := HN g hl (RF rt)) rfl ?_
  refine Ev.call (a := 241) (as := [.retAddr 6]) (rest := [.int (nI 0), .int (nI c), .retAddr 12]) (lv0 := [(0, .retAddr 6)]) (Q1 := (fun z0 h' => z0 = some (.int (nI 10)) ∧ h' = HN g hl (RF rt))) rfl rfl (⟨60, _, rfl, rfl, rfl⟩) (fun r h' hr => ?_)
  obtain ⟨rfl, rfl⟩ := hr
  refine Ev.call (a := 250) (as := [.retAddr 12, .int (nI c), .int (nI 0), .int (nI 10)]) (rest := []) (lv0 := [(0, .retAddr 12), (1, .int (nI c)), (2, .int (nI 0)), (3, .int (nI 10))]) (Q1 := (fun z0 h' => z0 = some (.int (nI (dgS c))) ∧ h' = HN g hl (RF rt))) rfl rfl (K_iob6 _ _ _ _ c hc ⟨rfl, rfl⟩) (fun r h' hr => ?_)
  obtain ⟨rfl, rfl⟩ := hr
  refine Ev.run 1 (pc' := 36) (lv' := [(0, .retAddr 6), (1, .int (nI c)), (2, .int (nI 0))]) (st' := [.int (nI (dgS c))]) (h' := HN g hl (RF rt)) rfl ?_
  refine Ev.ret (v := some (.int (nI (dgS c)))) rfl ?_
  exact hq
theorem K_io6 {L : Nat} {xs : Nat → Int32} (d : Nat) (g : Nat → Nat → Nat) (hl : Nat → Nat → Int64) (rt : Nat × Nat × Nat × Nat) (c : Nat) (hc : c < 128) {Q : Po} (hq : Q (some (.int (nI (dgS c)))) (HN g hl (RF rt))) : Ev L xs (d + 4) 243 0 [(0, .retAddr 6), (1, .int (nI c))] [] (HN g hl (RF rt)) Q := by
  refine Ev.run 3 (pc' := 3) (lv' := [(0, .retAddr 6), (1, .int (nI c))]) (st' := [.int (nI 0), .int (nI c), .retAddr 6]) (h' := HN g hl (RF rt)) rfl ?_
  refine Ev.call (a := 244) (as := [.retAddr 6, .int (nI c), .int (nI 0)]) (rest := []) (lv0 := [(0, .retAddr 6), (1, .int (nI c)), (2, .int (nI 0))]) (Q1 := (fun z0 h' => z0 = some (.int (nI (dgS c))) ∧ h' = HN g hl (RF rt))) rfl rfl (K_ioa6 _ _ _ _ c hc ⟨rfl, rfl⟩) (fun r h' hr => ?_)
  obtain ⟨rfl, rfl⟩ := hr
  refine Ev.ret (v := some (.int (nI (dgS c)))) rfl ?_
  exact hq
theorem plcS_le2 (c : Nat) : plcS c ≤ 5 ∨ plcS c = 4294967295 := (plcS_le c).imp (fun z => z.1) id
theorem rlS_le2 (c : Nat) : rlS c ≤ 2 ∨ rlS c = 4294967295 := by
  unfold rlS
  repeat' split
  all_goals omega
theorem dgS_le2 (c : Nat) : dgS c ≤ 9 ∨ dgS c = 4294967295 := by
  unfold dgS
  repeat' split
  all_goals omega
theorem K_exp1 {L : Nat} {xs : Nat → Int32} (d : Nat) (g : Nat → Nat → Nat) (hl : Nat → Nat → Int64) (T c e : Nat) (hT : TT T) (hX : TX g) (p le li : Nat) (l : List Nat) (s : Nat) {Q : Po} (hq : Q none (HN (RT g T p 1 le li l) hl (RF (3, T, c, e)))) : Ev L xs (d) 58 0 [(0, .ref 5), (1, .int (nI s))] [] (HN (RT g T p 1 le li l) hl (RF (3, T, c, e))) Q := by
  have hN := hX.1
  refine Ev.run 6 (pc' := 20) (lv' := [(0, .ref 5), (1, .int (nI s))]) (st' := []) (h' := setI (HN (RT g T p 1 le li l) hl (RF (3, T, c, e))) 5 3 (nI 1)) rfl ?_
  refine Ev.hp (HN_set _ _ _ _ _ _) ?_
  refine Ev.hp (congrArg (fun z => HN z hl (RF (3, T, c, e))) (RT_53 _ _ _ _ _ _ _ _)) ?_
  refine Ev.ret (v := none) rfl ?_
  exact hq
theorem K_exp0 {L : Nat} {xs : Nat → Int32} (d : Nat) (g : Nat → Nat → Nat) (hl : Nat → Nat → Int64) (T c e : Nat) (hT : TT T) (hX : TX g) (p le li : Nat) (l : List Nat) (s : Nat) (hp : p < 2 ^ 31) (hs0 : s ≠ 0) (hs : s < 128) {Q : Po} (hq : (pkS g p = s → Q none (HN (RT g T (p + 1) 0 le li l) hl (RF (3, T, c, e)))) ∧ (¬ pkS g p = s → Q none (HN (RT g T p 1 le li l) hl (RF (3, T, c, e))))) : Ev L xs (d + 1) 58 0 [(0, .ref 5), (1, .int (nI s))] [] (HN (RT g T p 0 le li l) hl (RF (3, T, c, e))) Q := by
  have hN := hX.1
  have hn := nx_le hX p
  refine Ev.run 4 (pc' := 8) (lv' := [(0, .ref 5), (1, .int (nI s))]) (st' := [.ref 5]) (h' := HN (RT g T p 0 le li l) hl (RF (3, T, c, e))) rfl ?_
  refine Ev.call (a := 59) (as := [.ref 5]) (rest := []) (lv0 := [(0, .ref 5)]) (Q1 := (fun z0 h' => z0 = some (.int (nI (nxS g p))) ∧ h' = HN (RT g T p 0 le li l) hl (RF (3, T, c, e)))) rfl rfl (K_next _ _ _ _ _ _ hT hX p _ _ l 0 (by omega) ⟨rfl, rfl⟩) (fun r h' hr => ?_)
  obtain ⟨rfl, rfl⟩ := hr
  refine Ev.run 2 (pc' := (if nI (nxS g p) = nI s then 21 else 15)) (lv' := [(0, .ref 5), (1, .int (nI s))]) (st' := []) (h' := HN (RT g T p 0 le li l) hl (RF (3, T, c, e))) rfl ?_
  refine Ev.ite (fun hc12 => ?_) (fun hc12 => ?_)
  · have hc12 : (nxS g p) = s := (nI_eqU (by omega) (by omega)).mp hc12
    refine Ev.run 5 (pc' := 28) (lv' := [(0, .ref 5), (1, .int (nI s))]) (st' := [.int (nI p + nI 1), .ref 5]) (h' := HN (RT g T p 0 le li l) hl (RF (3, T, c, e))) rfl ?_
    refine Ev.topI (nI_add _ _) ?_
    refine Ev.run 1 (pc' := 31) (lv' := [(0, .ref 5), (1, .int (nI s))]) (st' := []) (h' := setI (HN (RT g T p 0 le li l) hl (RF (3, T, c, e))) 5 2 (nI (p + 1))) rfl ?_
    refine Ev.hp (HN_set _ _ _ _ _ _) ?_
    refine Ev.hp (congrArg (fun z => HN z hl (RF (3, T, c, e))) (RT_52 _ _ _ _ _ _ _ _)) ?_
    refine Ev.ret (v := none) rfl ?_
    first
      | exact hq.1 ((nx_pk p hs0 (by omega)).mp hc12)
      | exact hq.2 (fun z => hc12 ((nx_pk p hs0 (by omega)).mpr z))
  · have hc12 : ¬ ((nxS g p) = s) := fun z => hc12 ((nI_eqU (by omega) (by omega)).mpr z)
    refine Ev.run 3 (pc' := 20) (lv' := [(0, .ref 5), (1, .int (nI s))]) (st' := []) (h' := setI (HN (RT g T p 0 le li l) hl (RF (3, T, c, e))) 5 3 (nI 1)) rfl ?_
    refine Ev.hp (HN_set _ _ _ _ _ _) ?_
    refine Ev.hp (congrArg (fun z => HN z hl (RF (3, T, c, e))) (RT_53 _ _ _ _ _ _ _ _)) ?_
    refine Ev.ret (v := none) rfl ?_
    first
      | exact hq.1 ((nx_pk p hs0 (by omega)).mp hc12)
      | exact hq.2 (fun z => hc12 ((nx_pk p hs0 (by omega)).mpr z))
theorem K_one1_4 {L : Nat} {xs : Nat → Int32} (d : Nat) (g : Nat → Nat → Nat) (hl : Nat → Nat → Int64) (T c e : Nat) (hT : TT T) (hX : TX g) (p le li : Nat) (l : List Nat) {Q : Po} (hq : Q (some (.int (nI 0))) (HN (RT g T p 1 le li l) hl (RF (3, T, c, e)))) : Ev L xs (d) 56 0 [(0, .ref 5), (1, .retAddr 4)] [] (HN (RT g T p 1 le li l) hl (RF (3, T, c, e))) Q := by
  have hN := hX.1
  refine Ev.run 11 (pc' := 29) (lv' := [(2, .int (nI 4294967295)), (0, .ref 5), (1, .retAddr 4)]) (st' := []) (h' := setI (HN (RT g T p 1 le li l) hl (RF (3, T, c, e))) 5 3 (nI 1)) rfl ?_
  refine Ev.hp (HN_set _ _ _ _ _ _) ?_
  refine Ev.hp (congrArg (fun z => HN z hl (RF (3, T, c, e))) (RT_53 _ _ _ _ _ _ _ _)) ?_
  refine Ev.run 1 (pc' := 30) (lv' := [(2, .int (nI 4294967295)), (0, .ref 5), (1, .retAddr 4)]) (st' := [.int (nI 0)]) (h' := HN (RT g T p 1 le li l) hl (RF (3, T, c, e))) rfl ?_
  refine Ev.ret (v := some (.int (nI 0))) rfl ?_
  exact hq
theorem K_one0_4 {L : Nat} {xs : Nat → Int32} (d : Nat) (g : Nat → Nat → Nat) (hl : Nat → Nat → Int64) (T c e : Nat) (hT : TT T) (hX : TX g) (p le li : Nat) (l : List Nat) (hp : p < 2 ^ 31) {Q : Po} (hq : (plcS (nxS g p) < 4294967295 → Q (some (.int (nI (plcS (nxS g p))))) (HN (RT g T (p + 1) 0 le li l) hl (RF (3, T, c, e)))) ∧ (plcS (nxS g p) = 4294967295 → Q (some (.int (nI 0))) (HN (RT g T p 1 le li l) hl (RF (3, T, c, e))))) : Ev L xs (d + 5) 56 0 [(0, .ref 5), (1, .retAddr 4)] [] (HN (RT g T p 0 le li l) hl (RF (3, T, c, e))) Q := by
  have hN := hX.1
  have hn := nx_le hX p
  have hf := plcS_le2 (nxS g p)
  refine Ev.run 5 (pc' := 13) (lv' := [(0, .ref 5), (1, .retAddr 4)]) (st' := [.ref 5, .retAddr 4]) (h' := HN (RT g T p 0 le li l) hl (RF (3, T, c, e))) rfl ?_
  refine Ev.call (a := 59) (as := [.ref 5]) (rest := [.retAddr 4]) (lv0 := [(0, .ref 5)]) (Q1 := (fun z0 h' => z0 = some (.int (nI (nxS g p))) ∧ h' = HN (RT g T p 0 le li l) hl (RF (3, T, c, e)))) rfl rfl (K_next _ _ _ _ _ _ hT hX p _ _ l 0 (by omega) ⟨rfl, rfl⟩) (fun r h' hr => ?_)
  obtain ⟨rfl, rfl⟩ := hr
  refine Ev.call (a := 243) (as := [.retAddr 4, .int (nI (nxS g p))]) (rest := []) (lv0 := [(0, .retAddr 4), (1, .int (nI (nxS g p)))]) (Q1 := (fun z0 h' => z0 = some (.int (nI (plcS (nxS g p)))) ∧ h' = HN (RT g T p 0 le li l) hl (RF (3, T, c, e)))) rfl rfl (K_io4 _ _ _ _ (nxS g p) (by omega) ⟨rfl, rfl⟩) (fun r h' hr => ?_)
  obtain ⟨rfl, rfl⟩ := hr
  refine Ev.run 3 (pc' := (if 0 ≤ nI (plcS (nxS g p)) then 31 else 24)) (lv' := [(2, .int (nI (plcS (nxS g p)))), (0, .ref 5), (1, .retAddr 4)]) (st' := []) (h' := HN (RT g T p 0 le li l) hl (RF (3, T, c, e))) rfl ?_
  refine Ev.ite (fun hc21 => ?_) (fun hc21 => ?_)
  · have hc21 : (plcS (nxS g p)) < 2147483648 := (nI_geU0 (by omega)).mp hc21
    refine Ev.run 5 (pc' := 38) (lv' := [(2, .int (nI (plcS (nxS g p)))), (0, .ref 5), (1, .retAddr 4)]) (st' := [.int (nI p + nI 1), .ref 5]) (h' := HN (RT g T p 0 le li l) hl (RF (3, T, c, e))) rfl ?_
    refine Ev.topI (nI_add _ _) ?_
    refine Ev.run 1 (pc' := 41) (lv' := [(2, .int (nI (plcS (nxS g p)))), (0, .ref 5), (1, .retAddr 4)]) (st' := []) (h' := setI (HN (RT g T p 0 le li l) hl (RF (3, T, c, e))) 5 2 (nI (p + 1))) rfl ?_
    refine Ev.hp (HN_set _ _ _ _ _ _) ?_
    refine Ev.hp (congrArg (fun z => HN z hl (RF (3, T, c, e))) (RT_52 _ _ _ _ _ _ _ _)) ?_
    refine Ev.run 1 (pc' := 42) (lv' := [(2, .int (nI (plcS (nxS g p)))), (0, .ref 5), (1, .retAddr 4)]) (st' := [.int (nI (plcS (nxS g p)))]) (h' := HN (RT g T (p + 1) 0 le li l) hl (RF (3, T, c, e))) rfl ?_
    refine Ev.ret (v := some (.int (nI (plcS (nxS g p))))) rfl ?_
    first
      | exact hq.1 (by omega)
      | exact hq.2 (by omega)
  · have hc21 : ¬ ((plcS (nxS g p)) < 2147483648) := fun z => hc21 ((nI_geU0 (by omega)).mpr z)
    refine Ev.run 3 (pc' := 29) (lv' := [(2, .int (nI (plcS (nxS g p)))), (0, .ref 5), (1, .retAddr 4)]) (st' := []) (h' := setI (HN (RT g T p 0 le li l) hl (RF (3, T, c, e))) 5 3 (nI 1)) rfl ?_
    refine Ev.hp (HN_set _ _ _ _ _ _) ?_
    refine Ev.hp (congrArg (fun z => HN z hl (RF (3, T, c, e))) (RT_53 _ _ _ _ _ _ _ _)) ?_
    refine Ev.run 1 (pc' := 30) (lv' := [(2, .int (nI (plcS (nxS g p)))), (0, .ref 5), (1, .retAddr 4)]) (st' := [.int (nI 0)]) (h' := HN (RT g T p 1 le li l) hl (RF (3, T, c, e))) rfl ?_
    refine Ev.ret (v := some (.int (nI 0))) rfl ?_
    first
      | exact hq.1 (by omega)
      | exact hq.2 (by omega)
theorem K_one1_5 {L : Nat} {xs : Nat → Int32} (d : Nat) (g : Nat → Nat → Nat) (hl : Nat → Nat → Int64) (T c e : Nat) (hT : TT T) (hX : TX g) (p le li : Nat) (l : List Nat) {Q : Po} (hq : Q (some (.int (nI 0))) (HN (RT g T p 1 le li l) hl (RF (3, T, c, e)))) : Ev L xs (d) 56 0 [(0, .ref 5), (1, .retAddr 5)] [] (HN (RT g T p 1 le li l) hl (RF (3, T, c, e))) Q := by
  have hN := hX.1
  refine Ev.run 11 (pc' := 29) (lv' := [(2, .int (nI 4294967295)), (0, .ref 5), (1, .retAddr 5)]) (st' := []) (h' := setI (HN (RT g T p 1 le li l) hl (RF (3, T, c, e))) 5 3 (nI 1)) rfl ?_
  refine Ev.hp (HN_set _ _ _ _ _ _) ?_
  refine Ev.hp (congrArg (fun z => HN z hl (RF (3, T, c, e))) (RT_53 _ _ _ _ _ _ _ _)) ?_
  refine Ev.run 1 (pc' := 30) (lv' := [(2, .int (nI 4294967295)), (0, .ref 5), (1, .retAddr 5)]) (st' := [.int (nI 0)]) (h' := HN (RT g T p 1 le li l) hl (RF (3, T, c, e))) rfl ?_
  refine Ev.ret (v := some (.int (nI 0))) rfl ?_
  exact hq
theorem K_one0_5 {L : Nat} {xs : Nat → Int32} (d : Nat) (g : Nat → Nat → Nat) (hl : Nat → Nat → Int64) (T c e : Nat) (hT : TT T) (hX : TX g) (p le li : Nat) (l : List Nat) (hp : p < 2 ^ 31) {Q : Po} (hq : (rlS (nxS g p) < 4294967295 → Q (some (.int (nI (rlS (nxS g p))))) (HN (RT g T (p + 1) 0 le li l) hl (RF (3, T, c, e)))) ∧ (rlS (nxS g p) = 4294967295 → Q (some (.int (nI 0))) (HN (RT g T p 1 le li l) hl (RF (3, T, c, e))))) : Ev L xs (d + 5) 56 0 [(0, .ref 5), (1, .retAddr 5)] [] (HN (RT g T p 0 le li l) hl (RF (3, T, c, e))) Q := by
  have hN := hX.1
  have hn := nx_le hX p
  have hf := rlS_le2 (nxS g p)
  refine Ev.run 5 (pc' := 13) (lv' := [(0, .ref 5), (1, .retAddr 5)]) (st' := [.ref 5, .retAddr 5]) (h' := HN (RT g T p 0 le li l) hl (RF (3, T, c, e))) rfl ?_
  refine Ev.call (a := 59) (as := [.ref 5]) (rest := [.retAddr 5]) (lv0 := [(0, .ref 5)]) (Q1 := (fun z0 h' => z0 = some (.int (nI (nxS g p))) ∧ h' = HN (RT g T p 0 le li l) hl (RF (3, T, c, e)))) rfl rfl (K_next _ _ _ _ _ _ hT hX p _ _ l 0 (by omega) ⟨rfl, rfl⟩) (fun r h' hr => ?_)
  obtain ⟨rfl, rfl⟩ := hr
  refine Ev.call (a := 243) (as := [.retAddr 5, .int (nI (nxS g p))]) (rest := []) (lv0 := [(0, .retAddr 5), (1, .int (nI (nxS g p)))]) (Q1 := (fun z0 h' => z0 = some (.int (nI (rlS (nxS g p)))) ∧ h' = HN (RT g T p 0 le li l) hl (RF (3, T, c, e)))) rfl rfl (K_io5 _ _ _ _ (nxS g p) (by omega) ⟨rfl, rfl⟩) (fun r h' hr => ?_)
  obtain ⟨rfl, rfl⟩ := hr
  refine Ev.run 3 (pc' := (if 0 ≤ nI (rlS (nxS g p)) then 31 else 24)) (lv' := [(2, .int (nI (rlS (nxS g p)))), (0, .ref 5), (1, .retAddr 5)]) (st' := []) (h' := HN (RT g T p 0 le li l) hl (RF (3, T, c, e))) rfl ?_
  refine Ev.ite (fun hc21 => ?_) (fun hc21 => ?_)
  · have hc21 : (rlS (nxS g p)) < 2147483648 := (nI_geU0 (by omega)).mp hc21
    refine Ev.run 5 (pc' := 38) (lv' := [(2, .int (nI (rlS (nxS g p)))), (0, .ref 5), (1, .retAddr 5)]) (st' := [.int (nI p + nI 1), .ref 5]) (h' := HN (RT g T p 0 le li l) hl (RF (3, T, c, e))) rfl ?_
    refine Ev.topI (nI_add _ _) ?_
    refine Ev.run 1 (pc' := 41) (lv' := [(2, .int (nI (rlS (nxS g p)))), (0, .ref 5), (1, .retAddr 5)]) (st' := []) (h' := setI (HN (RT g T p 0 le li l) hl (RF (3, T, c, e))) 5 2 (nI (p + 1))) rfl ?_
    refine Ev.hp (HN_set _ _ _ _ _ _) ?_
    refine Ev.hp (congrArg (fun z => HN z hl (RF (3, T, c, e))) (RT_52 _ _ _ _ _ _ _ _)) ?_
    refine Ev.run 1 (pc' := 42) (lv' := [(2, .int (nI (rlS (nxS g p)))), (0, .ref 5), (1, .retAddr 5)]) (st' := [.int (nI (rlS (nxS g p)))]) (h' := HN (RT g T (p + 1) 0 le li l) hl (RF (3, T, c, e))) rfl ?_
    refine Ev.ret (v := some (.int (nI (rlS (nxS g p))))) rfl ?_
    first
      | exact hq.1 (by omega)
      | exact hq.2 (by omega)
  · have hc21 : ¬ ((rlS (nxS g p)) < 2147483648) := fun z => hc21 ((nI_geU0 (by omega)).mpr z)
    refine Ev.run 3 (pc' := 29) (lv' := [(2, .int (nI (rlS (nxS g p)))), (0, .ref 5), (1, .retAddr 5)]) (st' := []) (h' := setI (HN (RT g T p 0 le li l) hl (RF (3, T, c, e))) 5 3 (nI 1)) rfl ?_
    refine Ev.hp (HN_set _ _ _ _ _ _) ?_
    refine Ev.hp (congrArg (fun z => HN z hl (RF (3, T, c, e))) (RT_53 _ _ _ _ _ _ _ _)) ?_
    refine Ev.run 1 (pc' := 30) (lv' := [(2, .int (nI (rlS (nxS g p)))), (0, .ref 5), (1, .retAddr 5)]) (st' := [.int (nI 0)]) (h' := HN (RT g T p 1 le li l) hl (RF (3, T, c, e))) rfl ?_
    refine Ev.ret (v := some (.int (nI 0))) rfl ?_
    first
      | exact hq.1 (by omega)
      | exact hq.2 (by omega)
theorem K_one1_6 {L : Nat} {xs : Nat → Int32} (d : Nat) (g : Nat → Nat → Nat) (hl : Nat → Nat → Int64) (T c e : Nat) (hT : TT T) (hX : TX g) (p le li : Nat) (l : List Nat) {Q : Po} (hq : Q (some (.int (nI 0))) (HN (RT g T p 1 le li l) hl (RF (3, T, c, e)))) : Ev L xs (d) 56 0 [(0, .ref 5), (1, .retAddr 6)] [] (HN (RT g T p 1 le li l) hl (RF (3, T, c, e))) Q := by
  have hN := hX.1
  refine Ev.run 11 (pc' := 29) (lv' := [(2, .int (nI 4294967295)), (0, .ref 5), (1, .retAddr 6)]) (st' := []) (h' := setI (HN (RT g T p 1 le li l) hl (RF (3, T, c, e))) 5 3 (nI 1)) rfl ?_
  refine Ev.hp (HN_set _ _ _ _ _ _) ?_
  refine Ev.hp (congrArg (fun z => HN z hl (RF (3, T, c, e))) (RT_53 _ _ _ _ _ _ _ _)) ?_
  refine Ev.run 1 (pc' := 30) (lv' := [(2, .int (nI 4294967295)), (0, .ref 5), (1, .retAddr 6)]) (st' := [.int (nI 0)]) (h' := HN (RT g T p 1 le li l) hl (RF (3, T, c, e))) rfl ?_
  refine Ev.ret (v := some (.int (nI 0))) rfl ?_
  exact hq
theorem K_one0_6 {L : Nat} {xs : Nat → Int32} (d : Nat) (g : Nat → Nat → Nat) (hl : Nat → Nat → Int64) (T c e : Nat) (hT : TT T) (hX : TX g) (p le li : Nat) (l : List Nat) (hp : p < 2 ^ 31) {Q : Po} (hq : (dgS (nxS g p) < 4294967295 → Q (some (.int (nI (dgS (nxS g p))))) (HN (RT g T (p + 1) 0 le li l) hl (RF (3, T, c, e)))) ∧ (dgS (nxS g p) = 4294967295 → Q (some (.int (nI 0))) (HN (RT g T p 1 le li l) hl (RF (3, T, c, e))))) : Ev L xs (d + 5) 56 0 [(0, .ref 5), (1, .retAddr 6)] [] (HN (RT g T p 0 le li l) hl (RF (3, T, c, e))) Q := by
  have hN := hX.1
  have hn := nx_le hX p
  have hf := dgS_le2 (nxS g p)
  refine Ev.run 5 (pc' := 13) (lv' := [(0, .ref 5), (1, .retAddr 6)]) (st' := [.ref 5, .retAddr 6]) (h' := HN (RT g T p 0 le li l) hl (RF (3, T, c, e))) rfl ?_
  refine Ev.call (a := 59) (as := [.ref 5]) (rest := [.retAddr 6]) (lv0 := [(0, .ref 5)]) (Q1 := (fun z0 h' => z0 = some (.int (nI (nxS g p))) ∧ h' = HN (RT g T p 0 le li l) hl (RF (3, T, c, e)))) rfl rfl (K_next _ _ _ _ _ _ hT hX p _ _ l 0 (by omega) ⟨rfl, rfl⟩) (fun r h' hr => ?_)
  obtain ⟨rfl, rfl⟩ := hr
  refine Ev.call (a := 243) (as := [.retAddr 6, .int (nI (nxS g p))]) (rest := []) (lv0 := [(0, .retAddr 6), (1, .int (nI (nxS g p)))]) (Q1 := (fun z0 h' => z0 = some (.int (nI (dgS (nxS g p)))) ∧ h' = HN (RT g T p 0 le li l) hl (RF (3, T, c, e)))) rfl rfl (K_io6 _ _ _ _ (nxS g p) (by omega) ⟨rfl, rfl⟩) (fun r h' hr => ?_)
  obtain ⟨rfl, rfl⟩ := hr
  refine Ev.run 3 (pc' := (if 0 ≤ nI (dgS (nxS g p)) then 31 else 24)) (lv' := [(2, .int (nI (dgS (nxS g p)))), (0, .ref 5), (1, .retAddr 6)]) (st' := []) (h' := HN (RT g T p 0 le li l) hl (RF (3, T, c, e))) rfl ?_
  refine Ev.ite (fun hc21 => ?_) (fun hc21 => ?_)
  · have hc21 : (dgS (nxS g p)) < 2147483648 := (nI_geU0 (by omega)).mp hc21
    refine Ev.run 5 (pc' := 38) (lv' := [(2, .int (nI (dgS (nxS g p)))), (0, .ref 5), (1, .retAddr 6)]) (st' := [.int (nI p + nI 1), .ref 5]) (h' := HN (RT g T p 0 le li l) hl (RF (3, T, c, e))) rfl ?_
    refine Ev.topI (nI_add _ _) ?_
    refine Ev.run 1 (pc' := 41) (lv' := [(2, .int (nI (dgS (nxS g p)))), (0, .ref 5), (1, .retAddr 6)]) (st' := []) (h' := setI (HN (RT g T p 0 le li l) hl (RF (3, T, c, e))) 5 2 (nI (p + 1))) rfl ?_
    refine Ev.hp (HN_set _ _ _ _ _ _) ?_
    refine Ev.hp (congrArg (fun z => HN z hl (RF (3, T, c, e))) (RT_52 _ _ _ _ _ _ _ _)) ?_
    refine Ev.run 1 (pc' := 42) (lv' := [(2, .int (nI (dgS (nxS g p)))), (0, .ref 5), (1, .retAddr 6)]) (st' := [.int (nI (dgS (nxS g p)))]) (h' := HN (RT g T (p + 1) 0 le li l) hl (RF (3, T, c, e))) rfl ?_
    refine Ev.ret (v := some (.int (nI (dgS (nxS g p))))) rfl ?_
    first
      | exact hq.1 (by omega)
      | exact hq.2 (by omega)
  · have hc21 : ¬ ((dgS (nxS g p)) < 2147483648) := fun z => hc21 ((nI_geU0 (by omega)).mpr z)
    refine Ev.run 3 (pc' := 29) (lv' := [(2, .int (nI (dgS (nxS g p)))), (0, .ref 5), (1, .retAddr 6)]) (st' := []) (h' := setI (HN (RT g T p 0 le li l) hl (RF (3, T, c, e))) 5 3 (nI 1)) rfl ?_
    refine Ev.hp (HN_set _ _ _ _ _ _) ?_
    refine Ev.hp (congrArg (fun z => HN z hl (RF (3, T, c, e))) (RT_53 _ _ _ _ _ _ _ _)) ?_
    refine Ev.run 1 (pc' := 30) (lv' := [(2, .int (nI (dgS (nxS g p)))), (0, .ref 5), (1, .retAddr 6)]) (st' := [.int (nI 0)]) (h' := HN (RT g T p 1 le li l) hl (RF (3, T, c, e))) rfl ?_
    refine Ev.ret (v := some (.int (nI 0))) rfl ?_
    first
      | exact hq.1 (by omega)
      | exact hq.2 (by omega)
