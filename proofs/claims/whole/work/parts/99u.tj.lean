/-! the law: one call on both sides, the loop -/
def Yn (xs : Nat → Int32) (j : Nat) : Nat := (xs j).toBitVec.toNat
theorem Yn_lt (xs : Nat → Int32) (j : Nat) : Yn xs j < 2 ^ 32 := BitVec.isLt _
theorem Yn_eq (xs : Nat → Int32) (j : Nat) : xVal xs 0 j = nI (Yn xs j) := nI_ext (Nat.mod_eq_of_lt (Yn_lt xs j)).symm
theorem lg_self (x : Int64) : lg_cmp x x = 0 := by
  unfold lg_cmp
  rw [if_neg (by simp [Int64.lt_iff_toInt_lt]), if_pos rfl]
/-- behind one call on both sides -/
def LE (L : Nat) (xs : Nat → Int32) (d i : Nat) (Q : Po) : Prop := ∀ (g : Nat → Nat → Nat) (hl : Nat → Nat → Int64) (rt : Nat × Nat × Nat × Nat), Inv g hl rt → Ev L xs (d + 21) 0 1354 [(3, .int (nI i)), (2, .ref 166), (1, .ref 0), (0, .retAddr 0)] [] (HN g hl (RF rt)) Q
theorem lp_lt {L i : Nat} (hL : L ≤ 3072) (hi : i ≤ L) : nI L - nI 6 < nI i ↔ L < i + 6 := by
  rw [Int32.lt_iff_toInt_lt, pk_sub_toInt (by omega) (by omega), nI_toInt (by omega)]
  omega
theorem LC_spell {L : Nat} {xs : Nat → Int32} (d i : Nat) (hi : i + 6 ≤ L) (hL : L ≤ 3072) {g : Nat → Nat → Nat} {hl : Nat → Nat → Int64} {rt : Nat × Nat × Nat × Nat} (hV : Inv g hl rt) {Q : Po} (hT : LE L xs d i Q) : Ev L xs (d + 21) 0 204 [(3, .int (nI i)), (2, .ref 166), (1, .ref 0), (0, .retAddr 0)] [] (HN g hl (RF rt)) Q := by
  have h31 : xLen L 0 < 2 ^ 31 := by show L < 2 ^ 31; omega
  refine Ev.run 1 (pc' := 205) (lv' := [(3, .int (nI i)), (2, .ref 166), (1, .ref 0), (0, .retAddr 0)]) (st' := [.ref 0]) (h' := HN g hl (RF rt)) rfl ?_
  refine Ev.run 4 (pc' := 209) (lv' := [(3, .int (nI i)), (2, .ref 166), (1, .ref 0), (0, .retAddr 0)]) (st' := [.int (nI i + nI 1), .retAddr 0, .ref 0]) (h' := HN g hl (RF rt)) rfl ?_
  refine Ev.topI (nI_add _ _) ?_
  refine Ev_xald rfl (by decide) (show i + 1 < L by omega) h31 ?_
  refine Ev.topI (Yn_eq xs (i + 1)) ?_
  refine Ev.call (a := 76) (as := [.ref 0, .int (nI (Yn xs (i + 1)))]) (rest := []) (lv0 := [(0, .ref 0), (1, .int (nI (Yn xs (i + 1))))]) (Q1 := (fun r h' => (∃ (v : Value) (g1 : Nat → Nat → Nat) (hl1 : Nat → Nat → Int64) (rt1 : Nat × Nat × Nat × Nat), r = some v ∧ h' = HN g1 hl1 (RF rt1) ∧ Ev L xs (d + 20) 131 0 [(0, .ref 166), (1, .int (nI (Yn xs (i + 1))))] [] (HN g1 hl1 (RF rt1)) (fun r2 h2 => r2 = some v ∧ ∃ (g2 : Nat → Nat → Nat) (hl2 : Nat → Nat → Int64) (rt2 : Nat × Nat × Nat × Nat), h2 = HN g2 hl2 (RF rt2) ∧ Inv g2 hl2 rt2)) ∧ ∃ x, r = some (.int x))) rfl rfl (Ev.int (by decide) (Or.inl rfl) (S_spell d (Yn xs (i + 1)) (Yn_lt xs (i + 1)) g hl rt hV)) (fun r h' hr => ?_)
  obtain ⟨⟨v, g1, hl1, rt1, rfl, rfl, k2⟩, x1, e1⟩ := hr
  injection e1 with e1
  subst e1
  refine Ev.run 1 (pc' := 214) (lv' := [(3, .int (nI i)), (2, .ref 166), (1, .ref 0), (0, .retAddr 0)]) (st' := [.ref 166, .int x1]) (h' := HN g1 hl1 (RF rt1)) rfl ?_
  refine Ev.run 4 (pc' := 218) (lv' := [(3, .int (nI i)), (2, .ref 166), (1, .ref 0), (0, .retAddr 0)]) (st' := [.int (nI i + nI 1), .retAddr 0, .ref 166, .int x1]) (h' := HN g1 hl1 (RF rt1)) rfl ?_
  refine Ev.topI (nI_add _ _) ?_
  refine Ev_xald rfl (by decide) (show i + 1 < L by omega) h31 ?_
  refine Ev.topI (Yn_eq xs (i + 1)) ?_
  refine Ev.call (a := 131) (as := [.ref 166, .int (nI (Yn xs (i + 1)))]) (rest := [.int x1]) (lv0 := [(0, .ref 166), (1, .int (nI (Yn xs (i + 1))))]) (Q1 := (fun r2 h2 => r2 = some (.int x1) ∧ ∃ (g2 : Nat → Nat → Nat) (hl2 : Nat → Nat → Int64) (rt2 : Nat × Nat × Nat × Nat), h2 = HN g2 hl2 (RF rt2) ∧ Inv g2 hl2 rt2)) rfl rfl k2 (fun r h' hr => ?_)
  obtain ⟨rfl, g2, hl2, rt2, rfl, hV2⟩ := hr
  refine Ev.run 1 (pc' := (if x1 = x1 then 1354 else 225)) (lv' := [(3, .int (nI i)), (2, .ref 166), (1, .ref 0), (0, .retAddr 0)]) (st' := []) (h' := HN g2 hl2 (RF rt2)) rfl ?_
  exact Ev.ite (fun _ => hT g2 hl2 rt2 hV2) (fun z => absurd rfl z)
theorem LC_word {L : Nat} {xs : Nat → Int32} (d i : Nat) (hi : i + 6 ≤ L) (hL : L ≤ 3072) {g : Nat → Nat → Nat} {hl : Nat → Nat → Int64} {rt : Nat × Nat × Nat × Nat} (hV : Inv g hl rt) {Q : Po} (hT : LE L xs d i Q) : Ev L xs (d + 21) 0 227 [(3, .int (nI i)), (2, .ref 166), (1, .ref 0), (0, .retAddr 0)] [] (HN g hl (RF rt)) Q := by
  have h31 : xLen L 0 < 2 ^ 31 := by show L < 2 ^ 31; omega
  refine Ev.run 1 (pc' := 228) (lv' := [(3, .int (nI i)), (2, .ref 166), (1, .ref 0), (0, .retAddr 0)]) (st' := [.ref 0]) (h' := HN g hl (RF rt)) rfl ?_
  refine Ev.run 4 (pc' := 232) (lv' := [(3, .int (nI i)), (2, .ref 166), (1, .ref 0), (0, .retAddr 0)]) (st' := [.int (nI i + nI 1), .retAddr 0, .ref 0]) (h' := HN g hl (RF rt)) rfl ?_
  refine Ev.topI (nI_add _ _) ?_
  refine Ev_xald rfl (by decide) (show i + 1 < L by omega) h31 ?_
  refine Ev.topI (Yn_eq xs (i + 1)) ?_
  refine Ev.call (a := 77) (as := [.ref 0, .int (nI (Yn xs (i + 1)))]) (rest := []) (lv0 := [(0, .ref 0), (1, .int (nI (Yn xs (i + 1))))]) (Q1 := (fun r h' => (∃ (v : Value) (g1 : Nat → Nat → Nat) (hl1 : Nat → Nat → Int64) (rt1 : Nat × Nat × Nat × Nat), r = some v ∧ h' = HN g1 hl1 (RF rt1) ∧ Ev L xs (d + 20) 133 0 [(0, .ref 166), (1, .int (nI (Yn xs (i + 1))))] [] (HN g1 hl1 (RF rt1)) (fun r2 h2 => r2 = some v ∧ ∃ (g2 : Nat → Nat → Nat) (hl2 : Nat → Nat → Int64) (rt2 : Nat × Nat × Nat × Nat), h2 = HN g2 hl2 (RF rt2) ∧ Inv g2 hl2 rt2)) ∧ ∃ x, r = some (.int x))) rfl rfl (Ev.int (by decide) (Or.inl rfl) (S_word d (Yn xs (i + 1)) (Yn_lt xs (i + 1)) g hl rt hV)) (fun r h' hr => ?_)
  obtain ⟨⟨v, g1, hl1, rt1, rfl, rfl, k2⟩, x1, e1⟩ := hr
  injection e1 with e1
  subst e1
  refine Ev.run 1 (pc' := 237) (lv' := [(3, .int (nI i)), (2, .ref 166), (1, .ref 0), (0, .retAddr 0)]) (st' := [.ref 166, .int x1]) (h' := HN g1 hl1 (RF rt1)) rfl ?_
  refine Ev.run 4 (pc' := 241) (lv' := [(3, .int (nI i)), (2, .ref 166), (1, .ref 0), (0, .retAddr 0)]) (st' := [.int (nI i + nI 1), .retAddr 0, .ref 166, .int x1]) (h' := HN g1 hl1 (RF rt1)) rfl ?_
  refine Ev.topI (nI_add _ _) ?_
  refine Ev_xald rfl (by decide) (show i + 1 < L by omega) h31 ?_
  refine Ev.topI (Yn_eq xs (i + 1)) ?_
  refine Ev.call (a := 133) (as := [.ref 166, .int (nI (Yn xs (i + 1)))]) (rest := [.int x1]) (lv0 := [(0, .ref 166), (1, .int (nI (Yn xs (i + 1))))]) (Q1 := (fun r2 h2 => r2 = some (.int x1) ∧ ∃ (g2 : Nat → Nat → Nat) (hl2 : Nat → Nat → Int64) (rt2 : Nat × Nat × Nat × Nat), h2 = HN g2 hl2 (RF rt2) ∧ Inv g2 hl2 rt2)) rfl rfl k2 (fun r h' hr => ?_)
  obtain ⟨rfl, g2, hl2, rt2, rfl, hV2⟩ := hr
  refine Ev.run 1 (pc' := (if x1 = x1 then 1354 else 248)) (lv' := [(3, .int (nI i)), (2, .ref 166), (1, .ref 0), (0, .retAddr 0)]) (st' := []) (h' := HN g2 hl2 (RF rt2)) rfl ?_
  exact Ev.ite (fun _ => hT g2 hl2 rt2 hV2) (fun z => absurd rfl z)
theorem LC_letter {L : Nat} {xs : Nat → Int32} (d i : Nat) (hi : i + 6 ≤ L) (hL : L ≤ 3072) {g : Nat → Nat → Nat} {hl : Nat → Nat → Int64} {rt : Nat × Nat × Nat × Nat} (hV : Inv g hl rt) {Q : Po} (hT : LE L xs d i Q) : Ev L xs (d + 21) 0 250 [(3, .int (nI i)), (2, .ref 166), (1, .ref 0), (0, .retAddr 0)] [] (HN g hl (RF rt)) Q := by
  have h31 : xLen L 0 < 2 ^ 31 := by show L < 2 ^ 31; omega
  refine Ev.run 1 (pc' := 251) (lv' := [(3, .int (nI i)), (2, .ref 166), (1, .ref 0), (0, .retAddr 0)]) (st' := [.ref 0]) (h' := HN g hl (RF rt)) rfl ?_
  refine Ev.run 4 (pc' := 255) (lv' := [(3, .int (nI i)), (2, .ref 166), (1, .ref 0), (0, .retAddr 0)]) (st' := [.int (nI i + nI 1), .retAddr 0, .ref 0]) (h' := HN g hl (RF rt)) rfl ?_
  refine Ev.topI (nI_add _ _) ?_
  refine Ev_xald rfl (by decide) (show i + 1 < L by omega) h31 ?_
  refine Ev.topI (Yn_eq xs (i + 1)) ?_
  refine Ev.run 4 (pc' := 260) (lv' := [(3, .int (nI i)), (2, .ref 166), (1, .ref 0), (0, .retAddr 0)]) (st' := [.int (nI i + nI 2), .retAddr 0, .int (nI (Yn xs (i + 1))), .ref 0]) (h' := HN g hl (RF rt)) rfl ?_
  refine Ev.topI (nI_add _ _) ?_
  refine Ev_xald rfl (by decide) (show i + 2 < L by omega) h31 ?_
  refine Ev.topI (Yn_eq xs (i + 2)) ?_
  refine Ev.call (a := 78) (as := [.ref 0, .int (nI (Yn xs (i + 1))), .int (nI (Yn xs (i + 2)))]) (rest := []) (lv0 := [(0, .ref 0), (1, .int (nI (Yn xs (i + 1)))), (2, .int (nI (Yn xs (i + 2))))]) (Q1 := (fun r h' => (∃ (v : Value) (g1 : Nat → Nat → Nat) (hl1 : Nat → Nat → Int64) (rt1 : Nat × Nat × Nat × Nat), r = some v ∧ h' = HN g1 hl1 (RF rt1) ∧ Ev L xs (d + 20) 134 0 [(0, .ref 166), (1, .int (nI (Yn xs (i + 1)))), (2, .int (nI (Yn xs (i + 2))))] [] (HN g1 hl1 (RF rt1)) (fun r2 h2 => r2 = some v ∧ ∃ (g2 : Nat → Nat → Nat) (hl2 : Nat → Nat → Int64) (rt2 : Nat × Nat × Nat × Nat), h2 = HN g2 hl2 (RF rt2) ∧ Inv g2 hl2 rt2)) ∧ ∃ x, r = some (.int x))) rfl rfl (Ev.int (by decide) (Or.inl rfl) (S_letter d (Yn xs (i + 1)) (Yn xs (i + 2)) (Yn_lt xs (i + 1)) (Yn_lt xs (i + 2)) g hl rt hV)) (fun r h' hr => ?_)
  obtain ⟨⟨v, g1, hl1, rt1, rfl, rfl, k2⟩, x1, e1⟩ := hr
  injection e1 with e1
  subst e1
  refine Ev.run 1 (pc' := 265) (lv' := [(3, .int (nI i)), (2, .ref 166), (1, .ref 0), (0, .retAddr 0)]) (st' := [.ref 166, .int x1]) (h' := HN g1 hl1 (RF rt1)) rfl ?_
  refine Ev.run 4 (pc' := 269) (lv' := [(3, .int (nI i)), (2, .ref 166), (1, .ref 0), (0, .retAddr 0)]) (st' := [.int (nI i + nI 1), .retAddr 0, .ref 166, .int x1]) (h' := HN g1 hl1 (RF rt1)) rfl ?_
  refine Ev.topI (nI_add _ _) ?_
  refine Ev_xald rfl (by decide) (show i + 1 < L by omega) h31 ?_
  refine Ev.topI (Yn_eq xs (i + 1)) ?_
  refine Ev.run 4 (pc' := 274) (lv' := [(3, .int (nI i)), (2, .ref 166), (1, .ref 0), (0, .retAddr 0)]) (st' := [.int (nI i + nI 2), .retAddr 0, .int (nI (Yn xs (i + 1))), .ref 166, .int x1]) (h' := HN g1 hl1 (RF rt1)) rfl ?_
  refine Ev.topI (nI_add _ _) ?_
  refine Ev_xald rfl (by decide) (show i + 2 < L by omega) h31 ?_
  refine Ev.topI (Yn_eq xs (i + 2)) ?_
  refine Ev.call (a := 134) (as := [.ref 166, .int (nI (Yn xs (i + 1))), .int (nI (Yn xs (i + 2)))]) (rest := [.int x1]) (lv0 := [(0, .ref 166), (1, .int (nI (Yn xs (i + 1)))), (2, .int (nI (Yn xs (i + 2))))]) (Q1 := (fun r2 h2 => r2 = some (.int x1) ∧ ∃ (g2 : Nat → Nat → Nat) (hl2 : Nat → Nat → Int64) (rt2 : Nat × Nat × Nat × Nat), h2 = HN g2 hl2 (RF rt2) ∧ Inv g2 hl2 rt2)) rfl rfl k2 (fun r h' hr => ?_)
  obtain ⟨rfl, g2, hl2, rt2, rfl, hV2⟩ := hr
  refine Ev.run 1 (pc' := (if x1 = x1 then 1354 else 281)) (lv' := [(3, .int (nI i)), (2, .ref 166), (1, .ref 0), (0, .retAddr 0)]) (st' := []) (h' := HN g2 hl2 (RF rt2)) rfl ?_
  exact Ev.ite (fun _ => hT g2 hl2 rt2 hV2) (fun z => absurd rfl z)
theorem LC_player {L : Nat} {xs : Nat → Int32} (d i : Nat) (hi : i + 6 ≤ L) (hL : L ≤ 3072) {g : Nat → Nat → Nat} {hl : Nat → Nat → Int64} {rt : Nat × Nat × Nat × Nat} (hV : Inv g hl rt) {Q : Po} (hT : LE L xs d i Q) : Ev L xs (d + 21) 0 283 [(3, .int (nI i)), (2, .ref 166), (1, .ref 0), (0, .retAddr 0)] [] (HN g hl (RF rt)) Q := by
  have h31 : xLen L 0 < 2 ^ 31 := by show L < 2 ^ 31; omega
  refine Ev.run 1 (pc' := 284) (lv' := [(3, .int (nI i)), (2, .ref 166), (1, .ref 0), (0, .retAddr 0)]) (st' := [.ref 0]) (h' := HN g hl (RF rt)) rfl ?_
  refine Ev.run 4 (pc' := 288) (lv' := [(3, .int (nI i)), (2, .ref 166), (1, .ref 0), (0, .retAddr 0)]) (st' := [.int (nI i + nI 1), .retAddr 0, .ref 0]) (h' := HN g hl (RF rt)) rfl ?_
  refine Ev.topI (nI_add _ _) ?_
  refine Ev_xald rfl (by decide) (show i + 1 < L by omega) h31 ?_
  refine Ev.topI (Yn_eq xs (i + 1)) ?_
  refine Ev.run 4 (pc' := 293) (lv' := [(3, .int (nI i)), (2, .ref 166), (1, .ref 0), (0, .retAddr 0)]) (st' := [.int (nI i + nI 2), .retAddr 0, .int (nI (Yn xs (i + 1))), .ref 0]) (h' := HN g hl (RF rt)) rfl ?_
  refine Ev.topI (nI_add _ _) ?_
  refine Ev_xald rfl (by decide) (show i + 2 < L by omega) h31 ?_
  refine Ev.topI (Yn_eq xs (i + 2)) ?_
  refine Ev.call (a := 79) (as := [.ref 0, .int (nI (Yn xs (i + 1))), .int (nI (Yn xs (i + 2)))]) (rest := []) (lv0 := [(0, .ref 0), (1, .int (nI (Yn xs (i + 1)))), (2, .int (nI (Yn xs (i + 2))))]) (Q1 := (fun r h' => (∃ (v : Value) (g1 : Nat → Nat → Nat) (hl1 : Nat → Nat → Int64) (rt1 : Nat × Nat × Nat × Nat), r = some v ∧ h' = HN g1 hl1 (RF rt1) ∧ Ev L xs (d + 20) 136 0 [(0, .ref 166), (1, .int (nI (Yn xs (i + 1)))), (2, .int (nI (Yn xs (i + 2))))] [] (HN g1 hl1 (RF rt1)) (fun r2 h2 => r2 = some v ∧ ∃ (g2 : Nat → Nat → Nat) (hl2 : Nat → Nat → Int64) (rt2 : Nat × Nat × Nat × Nat), h2 = HN g2 hl2 (RF rt2) ∧ Inv g2 hl2 rt2)) ∧ ∃ x, r = some (.int x))) rfl rfl (Ev.int (by decide) (Or.inl rfl) (S_player d (Yn xs (i + 1)) (Yn xs (i + 2)) (Yn_lt xs (i + 1)) (Yn_lt xs (i + 2)) g hl rt hV)) (fun r h' hr => ?_)
  obtain ⟨⟨v, g1, hl1, rt1, rfl, rfl, k2⟩, x1, e1⟩ := hr
  injection e1 with e1
  subst e1
  refine Ev.run 1 (pc' := 298) (lv' := [(3, .int (nI i)), (2, .ref 166), (1, .ref 0), (0, .retAddr 0)]) (st' := [.ref 166, .int x1]) (h' := HN g1 hl1 (RF rt1)) rfl ?_
  refine Ev.run 4 (pc' := 302) (lv' := [(3, .int (nI i)), (2, .ref 166), (1, .ref 0), (0, .retAddr 0)]) (st' := [.int (nI i + nI 1), .retAddr 0, .ref 166, .int x1]) (h' := HN g1 hl1 (RF rt1)) rfl ?_
  refine Ev.topI (nI_add _ _) ?_
  refine Ev_xald rfl (by decide) (show i + 1 < L by omega) h31 ?_
  refine Ev.topI (Yn_eq xs (i + 1)) ?_
  refine Ev.run 4 (pc' := 307) (lv' := [(3, .int (nI i)), (2, .ref 166), (1, .ref 0), (0, .retAddr 0)]) (st' := [.int (nI i + nI 2), .retAddr 0, .int (nI (Yn xs (i + 1))), .ref 166, .int x1]) (h' := HN g1 hl1 (RF rt1)) rfl ?_
  refine Ev.topI (nI_add _ _) ?_
  refine Ev_xald rfl (by decide) (show i + 2 < L by omega) h31 ?_
  refine Ev.topI (Yn_eq xs (i + 2)) ?_
  refine Ev.call (a := 136) (as := [.ref 166, .int (nI (Yn xs (i + 1))), .int (nI (Yn xs (i + 2)))]) (rest := [.int x1]) (lv0 := [(0, .ref 166), (1, .int (nI (Yn xs (i + 1)))), (2, .int (nI (Yn xs (i + 2))))]) (Q1 := (fun r2 h2 => r2 = some (.int x1) ∧ ∃ (g2 : Nat → Nat → Nat) (hl2 : Nat → Nat → Int64) (rt2 : Nat × Nat × Nat × Nat), h2 = HN g2 hl2 (RF rt2) ∧ Inv g2 hl2 rt2)) rfl rfl k2 (fun r h' hr => ?_)
  obtain ⟨rfl, g2, hl2, rt2, rfl, hV2⟩ := hr
  refine Ev.run 1 (pc' := (if x1 = x1 then 1354 else 314)) (lv' := [(3, .int (nI i)), (2, .ref 166), (1, .ref 0), (0, .retAddr 0)]) (st' := []) (h' := HN g2 hl2 (RF rt2)) rfl ?_
  exact Ev.ite (fun _ => hT g2 hl2 rt2 hV2) (fun z => absurd rfl z)
theorem LC_of {L : Nat} {xs : Nat → Int32} (d i : Nat) (hi : i + 6 ≤ L) (hL : L ≤ 3072) {g : Nat → Nat → Nat} {hl : Nat → Nat → Int64} {rt : Nat × Nat × Nat × Nat} (hV : Inv g hl rt) {Q : Po} (hT : LE L xs d i Q) : Ev L xs (d + 21) 0 316 [(3, .int (nI i)), (2, .ref 166), (1, .ref 0), (0, .retAddr 0)] [] (HN g hl (RF rt)) Q := by
  have h31 : xLen L 0 < 2 ^ 31 := by show L < 2 ^ 31; omega
  refine Ev.run 1 (pc' := 317) (lv' := [(3, .int (nI i)), (2, .ref 166), (1, .ref 0), (0, .retAddr 0)]) (st' := [.ref 0]) (h' := HN g hl (RF rt)) rfl ?_
  refine Ev.run 4 (pc' := 321) (lv' := [(3, .int (nI i)), (2, .ref 166), (1, .ref 0), (0, .retAddr 0)]) (st' := [.int (nI i + nI 1), .retAddr 0, .ref 0]) (h' := HN g hl (RF rt)) rfl ?_
  refine Ev.topI (nI_add _ _) ?_
  refine Ev_xald rfl (by decide) (show i + 1 < L by omega) h31 ?_
  refine Ev.topI (Yn_eq xs (i + 1)) ?_
  refine Ev.run 4 (pc' := 326) (lv' := [(3, .int (nI i)), (2, .ref 166), (1, .ref 0), (0, .retAddr 0)]) (st' := [.int (nI i + nI 2), .retAddr 0, .int (nI (Yn xs (i + 1))), .ref 0]) (h' := HN g hl (RF rt)) rfl ?_
  refine Ev.topI (nI_add _ _) ?_
  refine Ev_xald rfl (by decide) (show i + 2 < L by omega) h31 ?_
  refine Ev.topI (Yn_eq xs (i + 2)) ?_
  refine Ev.call (a := 80) (as := [.ref 0, .int (nI (Yn xs (i + 1))), .int (nI (Yn xs (i + 2)))]) (rest := []) (lv0 := [(0, .ref 0), (1, .int (nI (Yn xs (i + 1)))), (2, .int (nI (Yn xs (i + 2))))]) (Q1 := (fun r h' => (∃ (v : Value) (g1 : Nat → Nat → Nat) (hl1 : Nat → Nat → Int64) (rt1 : Nat × Nat × Nat × Nat), r = some v ∧ h' = HN g1 hl1 (RF rt1) ∧ Ev L xs (d + 20) 195 0 [(0, .ref 166), (1, .int (nI (Yn xs (i + 1)))), (2, .int (nI (Yn xs (i + 2))))] [] (HN g1 hl1 (RF rt1)) (fun r2 h2 => r2 = some v ∧ ∃ (g2 : Nat → Nat → Nat) (hl2 : Nat → Nat → Int64) (rt2 : Nat × Nat × Nat × Nat), h2 = HN g2 hl2 (RF rt2) ∧ Inv g2 hl2 rt2)) ∧ ∃ x, r = some (.int x))) rfl rfl (Ev.int (by decide) (Or.inl rfl) (S_of d (Yn xs (i + 1)) (Yn xs (i + 2)) (Yn_lt xs (i + 1)) (Yn_lt xs (i + 2)) g hl rt hV)) (fun r h' hr => ?_)
  obtain ⟨⟨v, g1, hl1, rt1, rfl, rfl, k2⟩, x1, e1⟩ := hr
  injection e1 with e1
  subst e1
  refine Ev.run 1 (pc' := 331) (lv' := [(3, .int (nI i)), (2, .ref 166), (1, .ref 0), (0, .retAddr 0)]) (st' := [.ref 166, .int x1]) (h' := HN g1 hl1 (RF rt1)) rfl ?_
  refine Ev.run 4 (pc' := 335) (lv' := [(3, .int (nI i)), (2, .ref 166), (1, .ref 0), (0, .retAddr 0)]) (st' := [.int (nI i + nI 1), .retAddr 0, .ref 166, .int x1]) (h' := HN g1 hl1 (RF rt1)) rfl ?_
  refine Ev.topI (nI_add _ _) ?_
  refine Ev_xald rfl (by decide) (show i + 1 < L by omega) h31 ?_
  refine Ev.topI (Yn_eq xs (i + 1)) ?_
  refine Ev.run 4 (pc' := 340) (lv' := [(3, .int (nI i)), (2, .ref 166), (1, .ref 0), (0, .retAddr 0)]) (st' := [.int (nI i + nI 2), .retAddr 0, .int (nI (Yn xs (i + 1))), .ref 166, .int x1]) (h' := HN g1 hl1 (RF rt1)) rfl ?_
  refine Ev.topI (nI_add _ _) ?_
  refine Ev_xald rfl (by decide) (show i + 2 < L by omega) h31 ?_
  refine Ev.topI (Yn_eq xs (i + 2)) ?_
  refine Ev.call (a := 195) (as := [.ref 166, .int (nI (Yn xs (i + 1))), .int (nI (Yn xs (i + 2)))]) (rest := [.int x1]) (lv0 := [(0, .ref 166), (1, .int (nI (Yn xs (i + 1)))), (2, .int (nI (Yn xs (i + 2))))]) (Q1 := (fun r2 h2 => r2 = some (.int x1) ∧ ∃ (g2 : Nat → Nat → Nat) (hl2 : Nat → Nat → Int64) (rt2 : Nat × Nat × Nat × Nat), h2 = HN g2 hl2 (RF rt2) ∧ Inv g2 hl2 rt2)) rfl rfl k2 (fun r h' hr => ?_)
  obtain ⟨rfl, g2, hl2, rt2, rfl, hV2⟩ := hr
  refine Ev.run 1 (pc' := (if x1 = x1 then 1354 else 347)) (lv' := [(3, .int (nI i)), (2, .ref 166), (1, .ref 0), (0, .retAddr 0)]) (st' := []) (h' := HN g2 hl2 (RF rt2)) rfl ?_
  exact Ev.ite (fun _ => hT g2 hl2 rt2 hV2) (fun z => absurd rfl z)
theorem LC_live {L : Nat} {xs : Nat → Int32} (d i : Nat) (hi : i + 6 ≤ L) (hL : L ≤ 3072) {g : Nat → Nat → Nat} {hl : Nat → Nat → Int64} {rt : Nat × Nat × Nat × Nat} (hV : Inv g hl rt) {Q : Po} (hT : LE L xs d i Q) : Ev L xs (d + 21) 0 349 [(3, .int (nI i)), (2, .ref 166), (1, .ref 0), (0, .retAddr 0)] [] (HN g hl (RF rt)) Q := by
  have h31 : xLen L 0 < 2 ^ 31 := by show L < 2 ^ 31; omega
  refine Ev.run 1 (pc' := 350) (lv' := [(3, .int (nI i)), (2, .ref 166), (1, .ref 0), (0, .retAddr 0)]) (st' := [.ref 0]) (h' := HN g hl (RF rt)) rfl ?_
  refine Ev.run 4 (pc' := 354) (lv' := [(3, .int (nI i)), (2, .ref 166), (1, .ref 0), (0, .retAddr 0)]) (st' := [.int (nI i + nI 1), .retAddr 0, .ref 0]) (h' := HN g hl (RF rt)) rfl ?_
  refine Ev.topI (nI_add _ _) ?_
  refine Ev_xald rfl (by decide) (show i + 1 < L by omega) h31 ?_
  refine Ev.topI (Yn_eq xs (i + 1)) ?_
  refine Ev.run 4 (pc' := 359) (lv' := [(3, .int (nI i)), (2, .ref 166), (1, .ref 0), (0, .retAddr 0)]) (st' := [.int (nI i + nI 2), .retAddr 0, .int (nI (Yn xs (i + 1))), .ref 0]) (h' := HN g hl (RF rt)) rfl ?_
  refine Ev.topI (nI_add _ _) ?_
  refine Ev_xald rfl (by decide) (show i + 2 < L by omega) h31 ?_
  refine Ev.topI (Yn_eq xs (i + 2)) ?_
  refine Ev.call (a := 81) (as := [.ref 0, .int (nI (Yn xs (i + 1))), .int (nI (Yn xs (i + 2)))]) (rest := []) (lv0 := [(0, .ref 0), (1, .int (nI (Yn xs (i + 1)))), (2, .int (nI (Yn xs (i + 2))))]) (Q1 := (fun r h' => (∃ (v : Value) (g1 : Nat → Nat → Nat) (hl1 : Nat → Nat → Int64) (rt1 : Nat × Nat × Nat × Nat), r = some v ∧ h' = HN g1 hl1 (RF rt1) ∧ Ev L xs (d + 20) 137 0 [(0, .ref 166), (1, .int (nI (Yn xs (i + 1)))), (2, .int (nI (Yn xs (i + 2))))] [] (HN g1 hl1 (RF rt1)) (fun r2 h2 => r2 = some v ∧ ∃ (g2 : Nat → Nat → Nat) (hl2 : Nat → Nat → Int64) (rt2 : Nat × Nat × Nat × Nat), h2 = HN g2 hl2 (RF rt2) ∧ Inv g2 hl2 rt2)) ∧ ∃ x, r = some (.int x))) rfl rfl (Ev.int (by decide) (Or.inl rfl) (S_live d (Yn xs (i + 1)) (Yn xs (i + 2)) (Yn_lt xs (i + 1)) (Yn_lt xs (i + 2)) g hl rt hV)) (fun r h' hr => ?_)
  obtain ⟨⟨v, g1, hl1, rt1, rfl, rfl, k2⟩, x1, e1⟩ := hr
  injection e1 with e1
  subst e1
  refine Ev.run 1 (pc' := 364) (lv' := [(3, .int (nI i)), (2, .ref 166), (1, .ref 0), (0, .retAddr 0)]) (st' := [.ref 166, .int x1]) (h' := HN g1 hl1 (RF rt1)) rfl ?_
  refine Ev.run 4 (pc' := 368) (lv' := [(3, .int (nI i)), (2, .ref 166), (1, .ref 0), (0, .retAddr 0)]) (st' := [.int (nI i + nI 1), .retAddr 0, .ref 166, .int x1]) (h' := HN g1 hl1 (RF rt1)) rfl ?_
  refine Ev.topI (nI_add _ _) ?_
  refine Ev_xald rfl (by decide) (show i + 1 < L by omega) h31 ?_
  refine Ev.topI (Yn_eq xs (i + 1)) ?_
  refine Ev.run 4 (pc' := 373) (lv' := [(3, .int (nI i)), (2, .ref 166), (1, .ref 0), (0, .retAddr 0)]) (st' := [.int (nI i + nI 2), .retAddr 0, .int (nI (Yn xs (i + 1))), .ref 166, .int x1]) (h' := HN g1 hl1 (RF rt1)) rfl ?_
  refine Ev.topI (nI_add _ _) ?_
  refine Ev_xald rfl (by decide) (show i + 2 < L by omega) h31 ?_
  refine Ev.topI (Yn_eq xs (i + 2)) ?_
  refine Ev.call (a := 137) (as := [.ref 166, .int (nI (Yn xs (i + 1))), .int (nI (Yn xs (i + 2)))]) (rest := [.int x1]) (lv0 := [(0, .ref 166), (1, .int (nI (Yn xs (i + 1)))), (2, .int (nI (Yn xs (i + 2))))]) (Q1 := (fun r2 h2 => r2 = some (.int x1) ∧ ∃ (g2 : Nat → Nat → Nat) (hl2 : Nat → Nat → Int64) (rt2 : Nat × Nat × Nat × Nat), h2 = HN g2 hl2 (RF rt2) ∧ Inv g2 hl2 rt2)) rfl rfl k2 (fun r h' hr => ?_)
  obtain ⟨rfl, g2, hl2, rt2, rfl, hV2⟩ := hr
  refine Ev.run 1 (pc' := (if x1 = x1 then 1354 else 380)) (lv' := [(3, .int (nI i)), (2, .ref 166), (1, .ref 0), (0, .retAddr 0)]) (st' := []) (h' := HN g2 hl2 (RF rt2)) rfl ?_
  exact Ev.ite (fun _ => hT g2 hl2 rt2 hV2) (fun z => absurd rfl z)
theorem LC_row {L : Nat} {xs : Nat → Int32} (d i : Nat) (hi : i + 6 ≤ L) (hL : L ≤ 3072) {g : Nat → Nat → Nat} {hl : Nat → Nat → Int64} {rt : Nat × Nat × Nat × Nat} (hV : Inv g hl rt) {Q : Po} (hT : LE L xs d i Q) : Ev L xs (d + 21) 0 382 [(3, .int (nI i)), (2, .ref 166), (1, .ref 0), (0, .retAddr 0)] [] (HN g hl (RF rt)) Q := by
  have h31 : xLen L 0 < 2 ^ 31 := by show L < 2 ^ 31; omega
  refine Ev.run 1 (pc' := 383) (lv' := [(3, .int (nI i)), (2, .ref 166), (1, .ref 0), (0, .retAddr 0)]) (st' := [.ref 0]) (h' := HN g hl (RF rt)) rfl ?_
  refine Ev.run 4 (pc' := 387) (lv' := [(3, .int (nI i)), (2, .ref 166), (1, .ref 0), (0, .retAddr 0)]) (st' := [.int (nI i + nI 1), .retAddr 0, .ref 0]) (h' := HN g hl (RF rt)) rfl ?_
  refine Ev.topI (nI_add _ _) ?_
  refine Ev_xald rfl (by decide) (show i + 1 < L by omega) h31 ?_
  refine Ev.topI (Yn_eq xs (i + 1)) ?_
  refine Ev.run 4 (pc' := 392) (lv' := [(3, .int (nI i)), (2, .ref 166), (1, .ref 0), (0, .retAddr 0)]) (st' := [.int (nI i + nI 2), .retAddr 0, .int (nI (Yn xs (i + 1))), .ref 0]) (h' := HN g hl (RF rt)) rfl ?_
  refine Ev.topI (nI_add _ _) ?_
  refine Ev_xald rfl (by decide) (show i + 2 < L by omega) h31 ?_
  refine Ev.topI (Yn_eq xs (i + 2)) ?_
  refine Ev.run 4 (pc' := 397) (lv' := [(3, .int (nI i)), (2, .ref 166), (1, .ref 0), (0, .retAddr 0)]) (st' := [.int (nI i + nI 3), .retAddr 0, .int (nI (Yn xs (i + 2))), .int (nI (Yn xs (i + 1))), .ref 0]) (h' := HN g hl (RF rt)) rfl ?_
  refine Ev.topI (nI_add _ _) ?_
  refine Ev_xald rfl (by decide) (show i + 3 < L by omega) h31 ?_
  refine Ev.topI (Yn_eq xs (i + 3)) ?_
  refine Ev.call (a := 82) (as := [.ref 0, .int (nI (Yn xs (i + 1))), .int (nI (Yn xs (i + 2))), .int (nI (Yn xs (i + 3)))]) (rest := []) (lv0 := [(0, .ref 0), (1, .int (nI (Yn xs (i + 1)))), (2, .int (nI (Yn xs (i + 2)))), (3, .int (nI (Yn xs (i + 3))))]) (Q1 := (fun r h' => (∃ (v : Value) (g1 : Nat → Nat → Nat) (hl1 : Nat → Nat → Int64) (rt1 : Nat × Nat × Nat × Nat), r = some v ∧ h' = HN g1 hl1 (RF rt1) ∧ Ev L xs (d + 20) 138 0 [(0, .ref 166), (1, .int (nI (Yn xs (i + 1)))), (2, .int (nI (Yn xs (i + 2)))), (3, .int (nI (Yn xs (i + 3))))] [] (HN g1 hl1 (RF rt1)) (fun r2 h2 => r2 = some v ∧ ∃ (g2 : Nat → Nat → Nat) (hl2 : Nat → Nat → Int64) (rt2 : Nat × Nat × Nat × Nat), h2 = HN g2 hl2 (RF rt2) ∧ Inv g2 hl2 rt2)) ∧ ∃ x, r = some (.int x))) rfl rfl (Ev.int (by decide) (Or.inl rfl) (S_row d (Yn xs (i + 1)) (Yn xs (i + 2)) (Yn xs (i + 3)) (Yn_lt xs (i + 1)) (Yn_lt xs (i + 2)) (Yn_lt xs (i + 3)) g hl rt hV)) (fun r h' hr => ?_)
  obtain ⟨⟨v, g1, hl1, rt1, rfl, rfl, k2⟩, x1, e1⟩ := hr
  injection e1 with e1
  subst e1
  refine Ev.run 1 (pc' := 402) (lv' := [(3, .int (nI i)), (2, .ref 166), (1, .ref 0), (0, .retAddr 0)]) (st' := [.ref 166, .int x1]) (h' := HN g1 hl1 (RF rt1)) rfl ?_
  refine Ev.run 4 (pc' := 406) (lv' := [(3, .int (nI i)), (2, .ref 166), (1, .ref 0), (0, .retAddr 0)]) (st' := [.int (nI i + nI 1), .retAddr 0, .ref 166, .int x1]) (h' := HN g1 hl1 (RF rt1)) rfl ?_
  refine Ev.topI (nI_add _ _) ?_
  refine Ev_xald rfl (by decide) (show i + 1 < L by omega) h31 ?_
  refine Ev.topI (Yn_eq xs (i + 1)) ?_
  refine Ev.run 4 (pc' := 411) (lv' := [(3, .int (nI i)), (2, .ref 166), (1, .ref 0), (0, .retAddr 0)]) (st' := [.int (nI i + nI 2), .retAddr 0, .int (nI (Yn xs (i + 1))), .ref 166, .int x1]) (h' := HN g1 hl1 (RF rt1)) rfl ?_
  refine Ev.topI (nI_add _ _) ?_
  refine Ev_xald rfl (by decide) (show i + 2 < L by omega) h31 ?_
  refine Ev.topI (Yn_eq xs (i + 2)) ?_
  refine Ev.run 4 (pc' := 416) (lv' := [(3, .int (nI i)), (2, .ref 166), (1, .ref 0), (0, .retAddr 0)]) (st' := [.int (nI i + nI 3), .retAddr 0, .int (nI (Yn xs (i + 2))), .int (nI (Yn xs (i + 1))), .ref 166, .int x1]) (h' := HN g1 hl1 (RF rt1)) rfl ?_
  refine Ev.topI (nI_add _ _) ?_
  refine Ev_xald rfl (by decide) (show i + 3 < L by omega) h31 ?_
  refine Ev.topI (Yn_eq xs (i + 3)) ?_
  refine Ev.call (a := 138) (as := [.ref 166, .int (nI (Yn xs (i + 1))), .int (nI (Yn xs (i + 2))), .int (nI (Yn xs (i + 3)))]) (rest := [.int x1]) (lv0 := [(0, .ref 166), (1, .int (nI (Yn xs (i + 1)))), (2, .int (nI (Yn xs (i + 2)))), (3, .int (nI (Yn xs (i + 3))))]) (Q1 := (fun r2 h2 => r2 = some (.int x1) ∧ ∃ (g2 : Nat → Nat → Nat) (hl2 : Nat → Nat → Int64) (rt2 : Nat × Nat × Nat × Nat), h2 = HN g2 hl2 (RF rt2) ∧ Inv g2 hl2 rt2)) rfl rfl k2 (fun r h' hr => ?_)
  obtain ⟨rfl, g2, hl2, rt2, rfl, hV2⟩ := hr
  refine Ev.run 1 (pc' := (if x1 = x1 then 1354 else 423)) (lv' := [(3, .int (nI i)), (2, .ref 166), (1, .ref 0), (0, .retAddr 0)]) (st' := []) (h' := HN g2 hl2 (RF rt2)) rfl ?_
  exact Ev.ite (fun _ => hT g2 hl2 rt2 hV2) (fun z => absurd rfl z)
theorem LC_feed {L : Nat} {xs : Nat → Int32} (d i : Nat) (hi : i + 6 ≤ L) (hL : L ≤ 3072) {g : Nat → Nat → Nat} {hl : Nat → Nat → Int64} {rt : Nat × Nat × Nat × Nat} (hV : Inv g hl rt) {Q : Po} (hT : LE L xs d i Q) : Ev L xs (d + 21) 0 425 [(3, .int (nI i)), (2, .ref 166), (1, .ref 0), (0, .retAddr 0)] [] (HN g hl (RF rt)) Q := by
  have h31 : xLen L 0 < 2 ^ 31 := by show L < 2 ^ 31; omega
  refine Ev.run 1 (pc' := 426) (lv' := [(3, .int (nI i)), (2, .ref 166), (1, .ref 0), (0, .retAddr 0)]) (st' := [.ref 0]) (h' := HN g hl (RF rt)) rfl ?_
  refine Ev.run 4 (pc' := 430) (lv' := [(3, .int (nI i)), (2, .ref 166), (1, .ref 0), (0, .retAddr 0)]) (st' := [.int (nI i + nI 1), .retAddr 0, .ref 0]) (h' := HN g hl (RF rt)) rfl ?_
  refine Ev.topI (nI_add _ _) ?_
  refine Ev_xald rfl (by decide) (show i + 1 < L by omega) h31 ?_
  refine Ev.topI (Yn_eq xs (i + 1)) ?_
  refine Ev.call (a := 83) (as := [.ref 0, .int (nI (Yn xs (i + 1)))]) (rest := []) (lv0 := [(0, .ref 0), (1, .int (nI (Yn xs (i + 1))))]) (Q1 := (fun r h' => (∃ (v : Value) (g1 : Nat → Nat → Nat) (hl1 : Nat → Nat → Int64) (rt1 : Nat × Nat × Nat × Nat), r = some v ∧ h' = HN g1 hl1 (RF rt1) ∧ Ev L xs (d + 20) 139 0 [(0, .ref 166), (1, .int (nI (Yn xs (i + 1))))] [] (HN g1 hl1 (RF rt1)) (fun r2 h2 => r2 = some v ∧ ∃ (g2 : Nat → Nat → Nat) (hl2 : Nat → Nat → Int64) (rt2 : Nat × Nat × Nat × Nat), h2 = HN g2 hl2 (RF rt2) ∧ Inv g2 hl2 rt2)) ∧ ∃ x, r = some (.int x))) rfl rfl (Ev.int (by decide) (Or.inl rfl) (S_feed d (Yn xs (i + 1)) (Yn_lt xs (i + 1)) g hl rt hV)) (fun r h' hr => ?_)
  obtain ⟨⟨v, g1, hl1, rt1, rfl, rfl, k2⟩, x1, e1⟩ := hr
  injection e1 with e1
  subst e1
  refine Ev.run 1 (pc' := 435) (lv' := [(3, .int (nI i)), (2, .ref 166), (1, .ref 0), (0, .retAddr 0)]) (st' := [.ref 166, .int x1]) (h' := HN g1 hl1 (RF rt1)) rfl ?_
  refine Ev.run 4 (pc' := 439) (lv' := [(3, .int (nI i)), (2, .ref 166), (1, .ref 0), (0, .retAddr 0)]) (st' := [.int (nI i + nI 1), .retAddr 0, .ref 166, .int x1]) (h' := HN g1 hl1 (RF rt1)) rfl ?_
  refine Ev.topI (nI_add _ _) ?_
  refine Ev_xald rfl (by decide) (show i + 1 < L by omega) h31 ?_
  refine Ev.topI (Yn_eq xs (i + 1)) ?_
  refine Ev.call (a := 139) (as := [.ref 166, .int (nI (Yn xs (i + 1)))]) (rest := [.int x1]) (lv0 := [(0, .ref 166), (1, .int (nI (Yn xs (i + 1))))]) (Q1 := (fun r2 h2 => r2 = some (.int x1) ∧ ∃ (g2 : Nat → Nat → Nat) (hl2 : Nat → Nat → Int64) (rt2 : Nat × Nat × Nat × Nat), h2 = HN g2 hl2 (RF rt2) ∧ Inv g2 hl2 rt2)) rfl rfl k2 (fun r h' hr => ?_)
  obtain ⟨rfl, g2, hl2, rt2, rfl, hV2⟩ := hr
  refine Ev.run 1 (pc' := (if x1 = x1 then 1354 else 446)) (lv' := [(3, .int (nI i)), (2, .ref 166), (1, .ref 0), (0, .retAddr 0)]) (st' := []) (h' := HN g2 hl2 (RF rt2)) rfl ?_
  exact Ev.ite (fun _ => hT g2 hl2 rt2 hV2) (fun z => absurd rfl z)
theorem LC_table {L : Nat} {xs : Nat → Int32} (d i : Nat) (hi : i + 6 ≤ L) (hL : L ≤ 3072) {g : Nat → Nat → Nat} {hl : Nat → Nat → Int64} {rt : Nat × Nat × Nat × Nat} (hV : Inv g hl rt) {Q : Po} (hT : LE L xs d i Q) : Ev L xs (d + 21) 0 448 [(3, .int (nI i)), (2, .ref 166), (1, .ref 0), (0, .retAddr 0)] [] (HN g hl (RF rt)) Q := by
  have h31 : xLen L 0 < 2 ^ 31 := by show L < 2 ^ 31; omega
  refine Ev.run 1 (pc' := 449) (lv' := [(3, .int (nI i)), (2, .ref 166), (1, .ref 0), (0, .retAddr 0)]) (st' := [.ref 0]) (h' := HN g hl (RF rt)) rfl ?_
  refine Ev.call (a := 84) (as := [.ref 0]) (rest := []) (lv0 := [(0, .ref 0)]) (Q1 := (fun r h' => (∃ (v : Value) (g1 : Nat → Nat → Nat) (hl1 : Nat → Nat → Int64) (rt1 : Nat × Nat × Nat × Nat), r = some v ∧ h' = HN g1 hl1 (RF rt1) ∧ Ev L xs (d + 20) 155 0 [(0, .ref 166)] [] (HN g1 hl1 (RF rt1)) (fun r2 h2 => r2 = some v ∧ ∃ (g2 : Nat → Nat → Nat) (hl2 : Nat → Nat → Int64) (rt2 : Nat × Nat × Nat × Nat), h2 = HN g2 hl2 (RF rt2) ∧ Inv g2 hl2 rt2)) ∧ ∃ x, r = some (.int x))) rfl rfl (Ev.int (by decide) (Or.inl rfl) (S_table d   g hl rt hV)) (fun r h' hr => ?_)
  obtain ⟨⟨v, g1, hl1, rt1, rfl, rfl, k2⟩, x1, e1⟩ := hr
  injection e1 with e1
  subst e1
  refine Ev.run 1 (pc' := 453) (lv' := [(3, .int (nI i)), (2, .ref 166), (1, .ref 0), (0, .retAddr 0)]) (st' := [.ref 166, .int x1]) (h' := HN g1 hl1 (RF rt1)) rfl ?_
  refine Ev.call (a := 155) (as := [.ref 166]) (rest := [.int x1]) (lv0 := [(0, .ref 166)]) (Q1 := (fun r2 h2 => r2 = some (.int x1) ∧ ∃ (g2 : Nat → Nat → Nat) (hl2 : Nat → Nat → Int64) (rt2 : Nat × Nat × Nat × Nat), h2 = HN g2 hl2 (RF rt2) ∧ Inv g2 hl2 rt2)) rfl rfl k2 (fun r h' hr => ?_)
  obtain ⟨rfl, g2, hl2, rt2, rfl, hV2⟩ := hr
  refine Ev.run 1 (pc' := (if x1 = x1 then 1354 else 459)) (lv' := [(3, .int (nI i)), (2, .ref 166), (1, .ref 0), (0, .retAddr 0)]) (st' := []) (h' := HN g2 hl2 (RF rt2)) rfl ?_
  exact Ev.ite (fun _ => hT g2 hl2 rt2 hV2) (fun z => absurd rfl z)
theorem LC_told {L : Nat} {xs : Nat → Int32} (d i : Nat) (hi : i + 6 ≤ L) (hL : L ≤ 3072) {g : Nat → Nat → Nat} {hl : Nat → Nat → Int64} {rt : Nat × Nat × Nat × Nat} (hV : Inv g hl rt) {Q : Po} (hT : LE L xs d i Q) : Ev L xs (d + 21) 0 461 [(3, .int (nI i)), (2, .ref 166), (1, .ref 0), (0, .retAddr 0)] [] (HN g hl (RF rt)) Q := by
  have h31 : xLen L 0 < 2 ^ 31 := by show L < 2 ^ 31; omega
  refine Ev.run 1 (pc' := 462) (lv' := [(3, .int (nI i)), (2, .ref 166), (1, .ref 0), (0, .retAddr 0)]) (st' := [.ref 0]) (h' := HN g hl (RF rt)) rfl ?_
  refine Ev.run 4 (pc' := 466) (lv' := [(3, .int (nI i)), (2, .ref 166), (1, .ref 0), (0, .retAddr 0)]) (st' := [.int (nI i + nI 1), .retAddr 0, .ref 0]) (h' := HN g hl (RF rt)) rfl ?_
  refine Ev.topI (nI_add _ _) ?_
  refine Ev_xald rfl (by decide) (show i + 1 < L by omega) h31 ?_
  refine Ev.topI (Yn_eq xs (i + 1)) ?_
  refine Ev.call (a := 85) (as := [.ref 0, .int (nI (Yn xs (i + 1)))]) (rest := []) (lv0 := [(0, .ref 0), (1, .int (nI (Yn xs (i + 1))))]) (Q1 := (fun r h' => (∃ (v : Value) (g1 : Nat → Nat → Nat) (hl1 : Nat → Nat → Int64) (rt1 : Nat × Nat × Nat × Nat), r = some v ∧ h' = HN g1 hl1 (RF rt1) ∧ Ev L xs (d + 20) 196 0 [(0, .ref 166), (1, .int (nI (Yn xs (i + 1))))] [] (HN g1 hl1 (RF rt1)) (fun r2 h2 => r2 = some v ∧ ∃ (g2 : Nat → Nat → Nat) (hl2 : Nat → Nat → Int64) (rt2 : Nat × Nat × Nat × Nat), h2 = HN g2 hl2 (RF rt2) ∧ Inv g2 hl2 rt2)) ∧ ∃ x, r = some (.int x))) rfl rfl (Ev.int (by decide) (Or.inl rfl) (S_told d (Yn xs (i + 1)) (Yn_lt xs (i + 1)) g hl rt hV)) (fun r h' hr => ?_)
  obtain ⟨⟨v, g1, hl1, rt1, rfl, rfl, k2⟩, x1, e1⟩ := hr
  injection e1 with e1
  subst e1
  refine Ev.run 1 (pc' := 471) (lv' := [(3, .int (nI i)), (2, .ref 166), (1, .ref 0), (0, .retAddr 0)]) (st' := [.ref 166, .int x1]) (h' := HN g1 hl1 (RF rt1)) rfl ?_
  refine Ev.run 4 (pc' := 475) (lv' := [(3, .int (nI i)), (2, .ref 166), (1, .ref 0), (0, .retAddr 0)]) (st' := [.int (nI i + nI 1), .retAddr 0, .ref 166, .int x1]) (h' := HN g1 hl1 (RF rt1)) rfl ?_
  refine Ev.topI (nI_add _ _) ?_
  refine Ev_xald rfl (by decide) (show i + 1 < L by omega) h31 ?_
  refine Ev.topI (Yn_eq xs (i + 1)) ?_
  refine Ev.call (a := 196) (as := [.ref 166, .int (nI (Yn xs (i + 1)))]) (rest := [.int x1]) (lv0 := [(0, .ref 166), (1, .int (nI (Yn xs (i + 1))))]) (Q1 := (fun r2 h2 => r2 = some (.int x1) ∧ ∃ (g2 : Nat → Nat → Nat) (hl2 : Nat → Nat → Int64) (rt2 : Nat × Nat × Nat × Nat), h2 = HN g2 hl2 (RF rt2) ∧ Inv g2 hl2 rt2)) rfl rfl k2 (fun r h' hr => ?_)
  obtain ⟨rfl, g2, hl2, rt2, rfl, hV2⟩ := hr
  refine Ev.run 1 (pc' := (if x1 = x1 then 1354 else 482)) (lv' := [(3, .int (nI i)), (2, .ref 166), (1, .ref 0), (0, .retAddr 0)]) (st' := []) (h' := HN g2 hl2 (RF rt2)) rfl ?_
  exact Ev.ite (fun _ => hT g2 hl2 rt2 hV2) (fun z => absurd rfl z)
theorem LC_turn {L : Nat} {xs : Nat → Int32} (d i : Nat) (hi : i + 6 ≤ L) (hL : L ≤ 3072) {g : Nat → Nat → Nat} {hl : Nat → Nat → Int64} {rt : Nat × Nat × Nat × Nat} (hV : Inv g hl rt) {Q : Po} (hT : LE L xs d i Q) : Ev L xs (d + 21) 0 484 [(3, .int (nI i)), (2, .ref 166), (1, .ref 0), (0, .retAddr 0)] [] (HN g hl (RF rt)) Q := by
  have h31 : xLen L 0 < 2 ^ 31 := by show L < 2 ^ 31; omega
  refine Ev.run 1 (pc' := 485) (lv' := [(3, .int (nI i)), (2, .ref 166), (1, .ref 0), (0, .retAddr 0)]) (st' := [.ref 0]) (h' := HN g hl (RF rt)) rfl ?_
  refine Ev.call (a := 86) (as := [.ref 0]) (rest := []) (lv0 := [(0, .ref 0)]) (Q1 := (fun r h' => (∃ (v : Value) (g1 : Nat → Nat → Nat) (hl1 : Nat → Nat → Int64) (rt1 : Nat × Nat × Nat × Nat), r = some v ∧ h' = HN g1 hl1 (RF rt1) ∧ Ev L xs (d + 20) 193 0 [(0, .ref 166)] [] (HN g1 hl1 (RF rt1)) (fun r2 h2 => r2 = some v ∧ ∃ (g2 : Nat → Nat → Nat) (hl2 : Nat → Nat → Int64) (rt2 : Nat × Nat × Nat × Nat), h2 = HN g2 hl2 (RF rt2) ∧ Inv g2 hl2 rt2)) ∧ ∃ x, r = some (.int x))) rfl rfl (Ev.int (by decide) (Or.inl rfl) (S_turn d   g hl rt hV)) (fun r h' hr => ?_)
  obtain ⟨⟨v, g1, hl1, rt1, rfl, rfl, k2⟩, x1, e1⟩ := hr
  injection e1 with e1
  subst e1
  refine Ev.run 1 (pc' := 489) (lv' := [(3, .int (nI i)), (2, .ref 166), (1, .ref 0), (0, .retAddr 0)]) (st' := [.ref 166, .int x1]) (h' := HN g1 hl1 (RF rt1)) rfl ?_
  refine Ev.call (a := 193) (as := [.ref 166]) (rest := [.int x1]) (lv0 := [(0, .ref 166)]) (Q1 := (fun r2 h2 => r2 = some (.int x1) ∧ ∃ (g2 : Nat → Nat → Nat) (hl2 : Nat → Nat → Int64) (rt2 : Nat × Nat × Nat × Nat), h2 = HN g2 hl2 (RF rt2) ∧ Inv g2 hl2 rt2)) rfl rfl k2 (fun r h' hr => ?_)
  obtain ⟨rfl, g2, hl2, rt2, rfl, hV2⟩ := hr
  refine Ev.run 1 (pc' := (if x1 = x1 then 1354 else 495)) (lv' := [(3, .int (nI i)), (2, .ref 166), (1, .ref 0), (0, .retAddr 0)]) (st' := []) (h' := HN g2 hl2 (RF rt2)) rfl ?_
  exact Ev.ite (fun _ => hT g2 hl2 rt2 hV2) (fun z => absurd rfl z)
theorem LC_begin {L : Nat} {xs : Nat → Int32} (d i : Nat) (hi : i + 6 ≤ L) (hL : L ≤ 3072) {g : Nat → Nat → Nat} {hl : Nat → Nat → Int64} {rt : Nat × Nat × Nat × Nat} (hV : Inv g hl rt) {Q : Po} (hT : LE L xs d i Q) : Ev L xs (d + 21) 0 497 [(3, .int (nI i)), (2, .ref 166), (1, .ref 0), (0, .retAddr 0)] [] (HN g hl (RF rt)) Q := by
  have h31 : xLen L 0 < 2 ^ 31 := by show L < 2 ^ 31; omega
  refine Ev.run 1 (pc' := 498) (lv' := [(3, .int (nI i)), (2, .ref 166), (1, .ref 0), (0, .retAddr 0)]) (st' := [.ref 0]) (h' := HN g hl (RF rt)) rfl ?_
  refine Ev.run 4 (pc' := 502) (lv' := [(3, .int (nI i)), (2, .ref 166), (1, .ref 0), (0, .retAddr 0)]) (st' := [.int (nI i + nI 1), .retAddr 0, .ref 0]) (h' := HN g hl (RF rt)) rfl ?_
  refine Ev.topI (nI_add _ _) ?_
  refine Ev_xald rfl (by decide) (show i + 1 < L by omega) h31 ?_
  refine Ev.topI (Yn_eq xs (i + 1)) ?_
  refine Ev.call (a := 87) (as := [.ref 0, .int (nI (Yn xs (i + 1)))]) (rest := []) (lv0 := [(0, .ref 0), (1, .int (nI (Yn xs (i + 1))))]) (Q1 := (fun r h' => (∃ (v : Value) (g1 : Nat → Nat → Nat) (hl1 : Nat → Nat → Int64) (rt1 : Nat × Nat × Nat × Nat), r = some v ∧ h' = HN g1 hl1 (RF rt1) ∧ Ev L xs (d + 20) 194 0 [(0, .ref 166), (1, .int (nI (Yn xs (i + 1))))] [] (HN g1 hl1 (RF rt1)) (fun r2 h2 => r2 = some v ∧ ∃ (g2 : Nat → Nat → Nat) (hl2 : Nat → Nat → Int64) (rt2 : Nat × Nat × Nat × Nat), h2 = HN g2 hl2 (RF rt2) ∧ Inv g2 hl2 rt2)) ∧ ∃ x, r = some (.int x))) rfl rfl (Ev.int (by decide) (Or.inl rfl) (S_begin d (Yn xs (i + 1)) (Yn_lt xs (i + 1)) g hl rt hV)) (fun r h' hr => ?_)
  obtain ⟨⟨v, g1, hl1, rt1, rfl, rfl, k2⟩, x1, e1⟩ := hr
  injection e1 with e1
  subst e1
  refine Ev.run 1 (pc' := 507) (lv' := [(3, .int (nI i)), (2, .ref 166), (1, .ref 0), (0, .retAddr 0)]) (st' := [.ref 166, .int x1]) (h' := HN g1 hl1 (RF rt1)) rfl ?_
  refine Ev.run 4 (pc' := 511) (lv' := [(3, .int (nI i)), (2, .ref 166), (1, .ref 0), (0, .retAddr 0)]) (st' := [.int (nI i + nI 1), .retAddr 0, .ref 166, .int x1]) (h' := HN g1 hl1 (RF rt1)) rfl ?_
  refine Ev.topI (nI_add _ _) ?_
  refine Ev_xald rfl (by decide) (show i + 1 < L by omega) h31 ?_
  refine Ev.topI (Yn_eq xs (i + 1)) ?_
  refine Ev.call (a := 194) (as := [.ref 166, .int (nI (Yn xs (i + 1)))]) (rest := [.int x1]) (lv0 := [(0, .ref 166), (1, .int (nI (Yn xs (i + 1))))]) (Q1 := (fun r2 h2 => r2 = some (.int x1) ∧ ∃ (g2 : Nat → Nat → Nat) (hl2 : Nat → Nat → Int64) (rt2 : Nat × Nat × Nat × Nat), h2 = HN g2 hl2 (RF rt2) ∧ Inv g2 hl2 rt2)) rfl rfl k2 (fun r h' hr => ?_)
  obtain ⟨rfl, g2, hl2, rt2, rfl, hV2⟩ := hr
  refine Ev.run 1 (pc' := (if x1 = x1 then 1354 else 518)) (lv' := [(3, .int (nI i)), (2, .ref 166), (1, .ref 0), (0, .retAddr 0)]) (st' := []) (h' := HN g2 hl2 (RF rt2)) rfl ?_
  exact Ev.ite (fun _ => hT g2 hl2 rt2 hV2) (fun z => absurd rfl z)
theorem LC_on {L : Nat} {xs : Nat → Int32} (d i : Nat) (hi : i + 6 ≤ L) (hL : L ≤ 3072) {g : Nat → Nat → Nat} {hl : Nat → Nat → Int64} {rt : Nat × Nat × Nat × Nat} (hV : Inv g hl rt) {Q : Po} (hT : LE L xs d i Q) : Ev L xs (d + 21) 0 520 [(3, .int (nI i)), (2, .ref 166), (1, .ref 0), (0, .retAddr 0)] [] (HN g hl (RF rt)) Q := by
  have h31 : xLen L 0 < 2 ^ 31 := by show L < 2 ^ 31; omega
  refine Ev.run 1 (pc' := 521) (lv' := [(3, .int (nI i)), (2, .ref 166), (1, .ref 0), (0, .retAddr 0)]) (st' := [.ref 0]) (h' := HN g hl (RF rt)) rfl ?_
  refine Ev.run 4 (pc' := 525) (lv' := [(3, .int (nI i)), (2, .ref 166), (1, .ref 0), (0, .retAddr 0)]) (st' := [.int (nI i + nI 1), .retAddr 0, .ref 0]) (h' := HN g hl (RF rt)) rfl ?_
  refine Ev.topI (nI_add _ _) ?_
  refine Ev_xald rfl (by decide) (show i + 1 < L by omega) h31 ?_
  refine Ev.topI (Yn_eq xs (i + 1)) ?_
  refine Ev.run 4 (pc' := 530) (lv' := [(3, .int (nI i)), (2, .ref 166), (1, .ref 0), (0, .retAddr 0)]) (st' := [.int (nI i + nI 2), .retAddr 0, .int (nI (Yn xs (i + 1))), .ref 0]) (h' := HN g hl (RF rt)) rfl ?_
  refine Ev.topI (nI_add _ _) ?_
  refine Ev_xald rfl (by decide) (show i + 2 < L by omega) h31 ?_
  refine Ev.topI (Yn_eq xs (i + 2)) ?_
  refine Ev.call (a := 88) (as := [.ref 0, .int (nI (Yn xs (i + 1))), .int (nI (Yn xs (i + 2)))]) (rest := []) (lv0 := [(0, .ref 0), (1, .int (nI (Yn xs (i + 1)))), (2, .int (nI (Yn xs (i + 2))))]) (Q1 := (fun r h' => (∃ (v : Value) (g1 : Nat → Nat → Nat) (hl1 : Nat → Nat → Int64) (rt1 : Nat × Nat × Nat × Nat), r = some v ∧ h' = HN g1 hl1 (RF rt1) ∧ Ev L xs (d + 20) 200 0 [(0, .ref 166), (1, .int (nI (Yn xs (i + 1)))), (2, .int (nI (Yn xs (i + 2))))] [] (HN g1 hl1 (RF rt1)) (fun r2 h2 => r2 = some v ∧ ∃ (g2 : Nat → Nat → Nat) (hl2 : Nat → Nat → Int64) (rt2 : Nat × Nat × Nat × Nat), h2 = HN g2 hl2 (RF rt2) ∧ Inv g2 hl2 rt2)) ∧ ∃ x, r = some (.int x))) rfl rfl (Ev.int (by decide) (Or.inl rfl) (S_on d (Yn xs (i + 1)) (Yn xs (i + 2)) (Yn_lt xs (i + 1)) (Yn_lt xs (i + 2)) g hl rt hV)) (fun r h' hr => ?_)
  obtain ⟨⟨v, g1, hl1, rt1, rfl, rfl, k2⟩, x1, e1⟩ := hr
  injection e1 with e1
  subst e1
  refine Ev.run 1 (pc' := 535) (lv' := [(3, .int (nI i)), (2, .ref 166), (1, .ref 0), (0, .retAddr 0)]) (st' := [.ref 166, .int x1]) (h' := HN g1 hl1 (RF rt1)) rfl ?_
  refine Ev.run 4 (pc' := 539) (lv' := [(3, .int (nI i)), (2, .ref 166), (1, .ref 0), (0, .retAddr 0)]) (st' := [.int (nI i + nI 1), .retAddr 0, .ref 166, .int x1]) (h' := HN g1 hl1 (RF rt1)) rfl ?_
  refine Ev.topI (nI_add _ _) ?_
  refine Ev_xald rfl (by decide) (show i + 1 < L by omega) h31 ?_
  refine Ev.topI (Yn_eq xs (i + 1)) ?_
  refine Ev.run 4 (pc' := 544) (lv' := [(3, .int (nI i)), (2, .ref 166), (1, .ref 0), (0, .retAddr 0)]) (st' := [.int (nI i + nI 2), .retAddr 0, .int (nI (Yn xs (i + 1))), .ref 166, .int x1]) (h' := HN g1 hl1 (RF rt1)) rfl ?_
  refine Ev.topI (nI_add _ _) ?_
  refine Ev_xald rfl (by decide) (show i + 2 < L by omega) h31 ?_
  refine Ev.topI (Yn_eq xs (i + 2)) ?_
  refine Ev.call (a := 200) (as := [.ref 166, .int (nI (Yn xs (i + 1))), .int (nI (Yn xs (i + 2)))]) (rest := [.int x1]) (lv0 := [(0, .ref 166), (1, .int (nI (Yn xs (i + 1)))), (2, .int (nI (Yn xs (i + 2))))]) (Q1 := (fun r2 h2 => r2 = some (.int x1) ∧ ∃ (g2 : Nat → Nat → Nat) (hl2 : Nat → Nat → Int64) (rt2 : Nat × Nat × Nat × Nat), h2 = HN g2 hl2 (RF rt2) ∧ Inv g2 hl2 rt2)) rfl rfl k2 (fun r h' hr => ?_)
  obtain ⟨rfl, g2, hl2, rt2, rfl, hV2⟩ := hr
  refine Ev.run 1 (pc' := (if x1 = x1 then 1354 else 551)) (lv' := [(3, .int (nI i)), (2, .ref 166), (1, .ref 0), (0, .retAddr 0)]) (st' := []) (h' := HN g2 hl2 (RF rt2)) rfl ?_
  exact Ev.ite (fun _ => hT g2 hl2 rt2 hV2) (fun z => absurd rfl z)
theorem LC_ends {L : Nat} {xs : Nat → Int32} (d i : Nat) (hi : i + 6 ≤ L) (hL : L ≤ 3072) {g : Nat → Nat → Nat} {hl : Nat → Nat → Int64} {rt : Nat × Nat × Nat × Nat} (hV : Inv g hl rt) {Q : Po} (hT : LE L xs d i Q) : Ev L xs (d + 21) 0 553 [(3, .int (nI i)), (2, .ref 166), (1, .ref 0), (0, .retAddr 0)] [] (HN g hl (RF rt)) Q := by
  have h31 : xLen L 0 < 2 ^ 31 := by show L < 2 ^ 31; omega
  refine Ev.run 1 (pc' := 554) (lv' := [(3, .int (nI i)), (2, .ref 166), (1, .ref 0), (0, .retAddr 0)]) (st' := [.ref 0]) (h' := HN g hl (RF rt)) rfl ?_
  refine Ev.run 4 (pc' := 558) (lv' := [(3, .int (nI i)), (2, .ref 166), (1, .ref 0), (0, .retAddr 0)]) (st' := [.int (nI i + nI 1), .retAddr 0, .ref 0]) (h' := HN g hl (RF rt)) rfl ?_
  refine Ev.topI (nI_add _ _) ?_
  refine Ev_xald rfl (by decide) (show i + 1 < L by omega) h31 ?_
  refine Ev.topI (Yn_eq xs (i + 1)) ?_
  refine Ev.call (a := 89) (as := [.ref 0, .int (nI (Yn xs (i + 1)))]) (rest := []) (lv0 := [(0, .ref 0), (1, .int (nI (Yn xs (i + 1))))]) (Q1 := (fun r h' => (∃ (v : Value) (g1 : Nat → Nat → Nat) (hl1 : Nat → Nat → Int64) (rt1 : Nat × Nat × Nat × Nat), r = some v ∧ h' = HN g1 hl1 (RF rt1) ∧ Ev L xs (d + 20) 202 0 [(0, .ref 166), (1, .int (nI (Yn xs (i + 1))))] [] (HN g1 hl1 (RF rt1)) (fun r2 h2 => r2 = some v ∧ ∃ (g2 : Nat → Nat → Nat) (hl2 : Nat → Nat → Int64) (rt2 : Nat × Nat × Nat × Nat), h2 = HN g2 hl2 (RF rt2) ∧ Inv g2 hl2 rt2)) ∧ ∃ x, r = some (.int x))) rfl rfl (Ev.int (by decide) (Or.inl rfl) (S_endsQ d (Yn xs (i + 1)) (Yn_lt xs (i + 1)) g hl rt hV)) (fun r h' hr => ?_)
  obtain ⟨⟨v, g1, hl1, rt1, rfl, rfl, k2⟩, x1, e1⟩ := hr
  injection e1 with e1
  subst e1
  refine Ev.run 1 (pc' := 563) (lv' := [(3, .int (nI i)), (2, .ref 166), (1, .ref 0), (0, .retAddr 0)]) (st' := [.ref 166, .int x1]) (h' := HN g1 hl1 (RF rt1)) rfl ?_
  refine Ev.run 4 (pc' := 567) (lv' := [(3, .int (nI i)), (2, .ref 166), (1, .ref 0), (0, .retAddr 0)]) (st' := [.int (nI i + nI 1), .retAddr 0, .ref 166, .int x1]) (h' := HN g1 hl1 (RF rt1)) rfl ?_
  refine Ev.topI (nI_add _ _) ?_
  refine Ev_xald rfl (by decide) (show i + 1 < L by omega) h31 ?_
  refine Ev.topI (Yn_eq xs (i + 1)) ?_
  refine Ev.call (a := 202) (as := [.ref 166, .int (nI (Yn xs (i + 1)))]) (rest := [.int x1]) (lv0 := [(0, .ref 166), (1, .int (nI (Yn xs (i + 1))))]) (Q1 := (fun r2 h2 => r2 = some (.int x1) ∧ ∃ (g2 : Nat → Nat → Nat) (hl2 : Nat → Nat → Int64) (rt2 : Nat × Nat × Nat × Nat), h2 = HN g2 hl2 (RF rt2) ∧ Inv g2 hl2 rt2)) rfl rfl k2 (fun r h' hr => ?_)
  obtain ⟨rfl, g2, hl2, rt2, rfl, hV2⟩ := hr
  refine Ev.run 1 (pc' := (if x1 = x1 then 1354 else 574)) (lv' := [(3, .int (nI i)), (2, .ref 166), (1, .ref 0), (0, .retAddr 0)]) (st' := []) (h' := HN g2 hl2 (RF rt2)) rfl ?_
  exact Ev.ite (fun _ => hT g2 hl2 rt2 hV2) (fun z => absurd rfl z)
theorem LC_won {L : Nat} {xs : Nat → Int32} (d i : Nat) (hi : i + 6 ≤ L) (hL : L ≤ 3072) {g : Nat → Nat → Nat} {hl : Nat → Nat → Int64} {rt : Nat × Nat × Nat × Nat} (hV : Inv g hl rt) {Q : Po} (hT : LE L xs d i Q) : Ev L xs (d + 21) 0 576 [(3, .int (nI i)), (2, .ref 166), (1, .ref 0), (0, .retAddr 0)] [] (HN g hl (RF rt)) Q := by
  have h31 : xLen L 0 < 2 ^ 31 := by show L < 2 ^ 31; omega
  refine Ev.run 1 (pc' := 577) (lv' := [(3, .int (nI i)), (2, .ref 166), (1, .ref 0), (0, .retAddr 0)]) (st' := [.ref 0]) (h' := HN g hl (RF rt)) rfl ?_
  refine Ev.run 4 (pc' := 581) (lv' := [(3, .int (nI i)), (2, .ref 166), (1, .ref 0), (0, .retAddr 0)]) (st' := [.int (nI i + nI 1), .retAddr 0, .ref 0]) (h' := HN g hl (RF rt)) rfl ?_
  refine Ev.topI (nI_add _ _) ?_
  refine Ev_xald rfl (by decide) (show i + 1 < L by omega) h31 ?_
  refine Ev.topI (Yn_eq xs (i + 1)) ?_
  refine Ev.call (a := 90) (as := [.ref 0, .int (nI (Yn xs (i + 1)))]) (rest := []) (lv0 := [(0, .ref 0), (1, .int (nI (Yn xs (i + 1))))]) (Q1 := (fun r h' => (∃ (v : Value) (g1 : Nat → Nat → Nat) (hl1 : Nat → Nat → Int64) (rt1 : Nat × Nat × Nat × Nat), r = some v ∧ h' = HN g1 hl1 (RF rt1) ∧ Ev L xs (d + 20) 176 0 [(0, .ref 166), (1, .int (nI (Yn xs (i + 1))))] [] (HN g1 hl1 (RF rt1)) (fun r2 h2 => r2 = some v ∧ ∃ (g2 : Nat → Nat → Nat) (hl2 : Nat → Nat → Int64) (rt2 : Nat × Nat × Nat × Nat), h2 = HN g2 hl2 (RF rt2) ∧ Inv g2 hl2 rt2)) ∧ ∃ x, r = some (.int x))) rfl rfl (Ev.int (by decide) (Or.inl rfl) (S_won d (Yn xs (i + 1)) (Yn_lt xs (i + 1)) g hl rt hV)) (fun r h' hr => ?_)
  obtain ⟨⟨v, g1, hl1, rt1, rfl, rfl, k2⟩, x1, e1⟩ := hr
  injection e1 with e1
  subst e1
  refine Ev.run 1 (pc' := 586) (lv' := [(3, .int (nI i)), (2, .ref 166), (1, .ref 0), (0, .retAddr 0)]) (st' := [.ref 166, .int x1]) (h' := HN g1 hl1 (RF rt1)) rfl ?_
  refine Ev.run 4 (pc' := 590) (lv' := [(3, .int (nI i)), (2, .ref 166), (1, .ref 0), (0, .retAddr 0)]) (st' := [.int (nI i + nI 1), .retAddr 0, .ref 166, .int x1]) (h' := HN g1 hl1 (RF rt1)) rfl ?_
  refine Ev.topI (nI_add _ _) ?_
  refine Ev_xald rfl (by decide) (show i + 1 < L by omega) h31 ?_
  refine Ev.topI (Yn_eq xs (i + 1)) ?_
  refine Ev.call (a := 176) (as := [.ref 166, .int (nI (Yn xs (i + 1)))]) (rest := [.int x1]) (lv0 := [(0, .ref 166), (1, .int (nI (Yn xs (i + 1))))]) (Q1 := (fun r2 h2 => r2 = some (.int x1) ∧ ∃ (g2 : Nat → Nat → Nat) (hl2 : Nat → Nat → Int64) (rt2 : Nat × Nat × Nat × Nat), h2 = HN g2 hl2 (RF rt2) ∧ Inv g2 hl2 rt2)) rfl rfl k2 (fun r h' hr => ?_)
  obtain ⟨rfl, g2, hl2, rt2, rfl, hV2⟩ := hr
  refine Ev.run 1 (pc' := (if x1 = x1 then 1354 else 597)) (lv' := [(3, .int (nI i)), (2, .ref 166), (1, .ref 0), (0, .retAddr 0)]) (st' := []) (h' := HN g2 hl2 (RF rt2)) rfl ?_
  exact Ev.ite (fun _ => hT g2 hl2 rt2 hV2) (fun z => absurd rfl z)
theorem LC_by {L : Nat} {xs : Nat → Int32} (d i : Nat) (hi : i + 6 ≤ L) (hL : L ≤ 3072) {g : Nat → Nat → Nat} {hl : Nat → Nat → Int64} {rt : Nat × Nat × Nat × Nat} (hV : Inv g hl rt) {Q : Po} (hT : LE L xs d i Q) : Ev L xs (d + 21) 0 599 [(3, .int (nI i)), (2, .ref 166), (1, .ref 0), (0, .retAddr 0)] [] (HN g hl (RF rt)) Q := by
  have h31 : xLen L 0 < 2 ^ 31 := by show L < 2 ^ 31; omega
  refine Ev.run 1 (pc' := 600) (lv' := [(3, .int (nI i)), (2, .ref 166), (1, .ref 0), (0, .retAddr 0)]) (st' := [.ref 0]) (h' := HN g hl (RF rt)) rfl ?_
  refine Ev.run 4 (pc' := 604) (lv' := [(3, .int (nI i)), (2, .ref 166), (1, .ref 0), (0, .retAddr 0)]) (st' := [.int (nI i + nI 1), .retAddr 0, .ref 0]) (h' := HN g hl (RF rt)) rfl ?_
  refine Ev.topI (nI_add _ _) ?_
  refine Ev_xald rfl (by decide) (show i + 1 < L by omega) h31 ?_
  refine Ev.topI (Yn_eq xs (i + 1)) ?_
  refine Ev.call (a := 91) (as := [.ref 0, .int (nI (Yn xs (i + 1)))]) (rest := []) (lv0 := [(0, .ref 0), (1, .int (nI (Yn xs (i + 1))))]) (Q1 := (fun r h' => (∃ (v : Value) (g1 : Nat → Nat → Nat) (hl1 : Nat → Nat → Int64) (rt1 : Nat × Nat × Nat × Nat), r = some v ∧ h' = HN g1 hl1 (RF rt1) ∧ Ev L xs (d + 20) 203 0 [(0, .ref 166), (1, .int (nI (Yn xs (i + 1))))] [] (HN g1 hl1 (RF rt1)) (fun r2 h2 => r2 = some v ∧ ∃ (g2 : Nat → Nat → Nat) (hl2 : Nat → Nat → Int64) (rt2 : Nat × Nat × Nat × Nat), h2 = HN g2 hl2 (RF rt2) ∧ Inv g2 hl2 rt2)) ∧ ∃ x, r = some (.int x))) rfl rfl (Ev.int (by decide) (Or.inl rfl) (S_by d (Yn xs (i + 1)) (Yn_lt xs (i + 1)) g hl rt hV)) (fun r h' hr => ?_)
  obtain ⟨⟨v, g1, hl1, rt1, rfl, rfl, k2⟩, x1, e1⟩ := hr
  injection e1 with e1
  subst e1
  refine Ev.run 1 (pc' := 609) (lv' := [(3, .int (nI i)), (2, .ref 166), (1, .ref 0), (0, .retAddr 0)]) (st' := [.ref 166, .int x1]) (h' := HN g1 hl1 (RF rt1)) rfl ?_
  refine Ev.run 4 (pc' := 613) (lv' := [(3, .int (nI i)), (2, .ref 166), (1, .ref 0), (0, .retAddr 0)]) (st' := [.int (nI i + nI 1), .retAddr 0, .ref 166, .int x1]) (h' := HN g1 hl1 (RF rt1)) rfl ?_
  refine Ev.topI (nI_add _ _) ?_
  refine Ev_xald rfl (by decide) (show i + 1 < L by omega) h31 ?_
  refine Ev.topI (Yn_eq xs (i + 1)) ?_
  refine Ev.call (a := 203) (as := [.ref 166, .int (nI (Yn xs (i + 1)))]) (rest := [.int x1]) (lv0 := [(0, .ref 166), (1, .int (nI (Yn xs (i + 1))))]) (Q1 := (fun r2 h2 => r2 = some (.int x1) ∧ ∃ (g2 : Nat → Nat → Nat) (hl2 : Nat → Nat → Int64) (rt2 : Nat × Nat × Nat × Nat), h2 = HN g2 hl2 (RF rt2) ∧ Inv g2 hl2 rt2)) rfl rfl k2 (fun r h' hr => ?_)
  obtain ⟨rfl, g2, hl2, rt2, rfl, hV2⟩ := hr
  refine Ev.run 1 (pc' := (if x1 = x1 then 1354 else 620)) (lv' := [(3, .int (nI i)), (2, .ref 166), (1, .ref 0), (0, .retAddr 0)]) (st' := []) (h' := HN g2 hl2 (RF rt2)) rfl ?_
  exact Ev.ite (fun _ => hT g2 hl2 rt2 hV2) (fun z => absurd rfl z)
theorem LC_has {L : Nat} {xs : Nat → Int32} (d i : Nat) (hi : i + 6 ≤ L) (hL : L ≤ 3072) {g : Nat → Nat → Nat} {hl : Nat → Nat → Int64} {rt : Nat × Nat × Nat × Nat} (hV : Inv g hl rt) {Q : Po} (hT : LE L xs d i Q) : Ev L xs (d + 21) 0 622 [(3, .int (nI i)), (2, .ref 166), (1, .ref 0), (0, .retAddr 0)] [] (HN g hl (RF rt)) Q := by
  have h31 : xLen L 0 < 2 ^ 31 := by show L < 2 ^ 31; omega
  refine Ev.run 1 (pc' := 623) (lv' := [(3, .int (nI i)), (2, .ref 166), (1, .ref 0), (0, .retAddr 0)]) (st' := [.ref 0]) (h' := HN g hl (RF rt)) rfl ?_
  refine Ev.run 4 (pc' := 627) (lv' := [(3, .int (nI i)), (2, .ref 166), (1, .ref 0), (0, .retAddr 0)]) (st' := [.int (nI i + nI 1), .retAddr 0, .ref 0]) (h' := HN g hl (RF rt)) rfl ?_
  refine Ev.topI (nI_add _ _) ?_
  refine Ev_xald rfl (by decide) (show i + 1 < L by omega) h31 ?_
  refine Ev.topI (Yn_eq xs (i + 1)) ?_
  refine Ev.run 4 (pc' := 632) (lv' := [(3, .int (nI i)), (2, .ref 166), (1, .ref 0), (0, .retAddr 0)]) (st' := [.int (nI i + nI 2), .retAddr 0, .int (nI (Yn xs (i + 1))), .ref 0]) (h' := HN g hl (RF rt)) rfl ?_
  refine Ev.topI (nI_add _ _) ?_
  refine Ev_xald rfl (by decide) (show i + 2 < L by omega) h31 ?_
  refine Ev.topI (Yn_eq xs (i + 2)) ?_
  refine Ev.call (a := 92) (as := [.ref 0, .int (nI (Yn xs (i + 1))), .int (nI (Yn xs (i + 2)))]) (rest := []) (lv0 := [(0, .ref 0), (1, .int (nI (Yn xs (i + 1)))), (2, .int (nI (Yn xs (i + 2))))]) (Q1 := (fun r h' => (∃ (v : Value) (g1 : Nat → Nat → Nat) (hl1 : Nat → Nat → Int64) (rt1 : Nat × Nat × Nat × Nat), r = some v ∧ h' = HN g1 hl1 (RF rt1) ∧ Ev L xs (d + 20) 204 0 [(0, .ref 166), (1, .int (nI (Yn xs (i + 1)))), (2, .int (nI (Yn xs (i + 2))))] [] (HN g1 hl1 (RF rt1)) (fun r2 h2 => r2 = some v ∧ ∃ (g2 : Nat → Nat → Nat) (hl2 : Nat → Nat → Int64) (rt2 : Nat × Nat × Nat × Nat), h2 = HN g2 hl2 (RF rt2) ∧ Inv g2 hl2 rt2)) ∧ ∃ x, r = some (.int x))) rfl rfl (Ev.int (by decide) (Or.inl rfl) (S_has d (Yn xs (i + 1)) (Yn xs (i + 2)) (Yn_lt xs (i + 1)) (Yn_lt xs (i + 2)) g hl rt hV)) (fun r h' hr => ?_)
  obtain ⟨⟨v, g1, hl1, rt1, rfl, rfl, k2⟩, x1, e1⟩ := hr
  injection e1 with e1
  subst e1
  refine Ev.run 1 (pc' := 637) (lv' := [(3, .int (nI i)), (2, .ref 166), (1, .ref 0), (0, .retAddr 0)]) (st' := [.ref 166, .int x1]) (h' := HN g1 hl1 (RF rt1)) rfl ?_
  refine Ev.run 4 (pc' := 641) (lv' := [(3, .int (nI i)), (2, .ref 166), (1, .ref 0), (0, .retAddr 0)]) (st' := [.int (nI i + nI 1), .retAddr 0, .ref 166, .int x1]) (h' := HN g1 hl1 (RF rt1)) rfl ?_
  refine Ev.topI (nI_add _ _) ?_
  refine Ev_xald rfl (by decide) (show i + 1 < L by omega) h31 ?_
  refine Ev.topI (Yn_eq xs (i + 1)) ?_
  refine Ev.run 4 (pc' := 646) (lv' := [(3, .int (nI i)), (2, .ref 166), (1, .ref 0), (0, .retAddr 0)]) (st' := [.int (nI i + nI 2), .retAddr 0, .int (nI (Yn xs (i + 1))), .ref 166, .int x1]) (h' := HN g1 hl1 (RF rt1)) rfl ?_
  refine Ev.topI (nI_add _ _) ?_
  refine Ev_xald rfl (by decide) (show i + 2 < L by omega) h31 ?_
  refine Ev.topI (Yn_eq xs (i + 2)) ?_
  refine Ev.call (a := 204) (as := [.ref 166, .int (nI (Yn xs (i + 1))), .int (nI (Yn xs (i + 2)))]) (rest := [.int x1]) (lv0 := [(0, .ref 166), (1, .int (nI (Yn xs (i + 1)))), (2, .int (nI (Yn xs (i + 2))))]) (Q1 := (fun r2 h2 => r2 = some (.int x1) ∧ ∃ (g2 : Nat → Nat → Nat) (hl2 : Nat → Nat → Int64) (rt2 : Nat × Nat × Nat × Nat), h2 = HN g2 hl2 (RF rt2) ∧ Inv g2 hl2 rt2)) rfl rfl k2 (fun r h' hr => ?_)
  obtain ⟨rfl, g2, hl2, rt2, rfl, hV2⟩ := hr
  refine Ev.run 1 (pc' := (if x1 = x1 then 1354 else 653)) (lv' := [(3, .int (nI i)), (2, .ref 166), (1, .ref 0), (0, .retAddr 0)]) (st' := []) (h' := HN g2 hl2 (RF rt2)) rfl ?_
  exact Ev.ite (fun _ => hT g2 hl2 rt2 hV2) (fun z => absurd rfl z)
theorem LC_learn {L : Nat} {xs : Nat → Int32} (d i : Nat) (hi : i + 6 ≤ L) (hL : L ≤ 3072) {g : Nat → Nat → Nat} {hl : Nat → Nat → Int64} {rt : Nat × Nat × Nat × Nat} (hV : Inv g hl rt) {Q : Po} (hT : LE L xs d i Q) : Ev L xs (d + 21) 0 655 [(3, .int (nI i)), (2, .ref 166), (1, .ref 0), (0, .retAddr 0)] [] (HN g hl (RF rt)) Q := by
  have h31 : xLen L 0 < 2 ^ 31 := by show L < 2 ^ 31; omega
  refine Ev.run 1 (pc' := 656) (lv' := [(3, .int (nI i)), (2, .ref 166), (1, .ref 0), (0, .retAddr 0)]) (st' := [.ref 0]) (h' := HN g hl (RF rt)) rfl ?_
  refine Ev.run 4 (pc' := 660) (lv' := [(3, .int (nI i)), (2, .ref 166), (1, .ref 0), (0, .retAddr 0)]) (st' := [.int (nI i + nI 1), .retAddr 0, .ref 0]) (h' := HN g hl (RF rt)) rfl ?_
  refine Ev.topI (nI_add _ _) ?_
  refine Ev_xald rfl (by decide) (show i + 1 < L by omega) h31 ?_
  refine Ev.topI (Yn_eq xs (i + 1)) ?_
  refine Ev.run 4 (pc' := 665) (lv' := [(3, .int (nI i)), (2, .ref 166), (1, .ref 0), (0, .retAddr 0)]) (st' := [.int (nI i + nI 2), .retAddr 0, .int (nI (Yn xs (i + 1))), .ref 0]) (h' := HN g hl (RF rt)) rfl ?_
  refine Ev.topI (nI_add _ _) ?_
  refine Ev_xald rfl (by decide) (show i + 2 < L by omega) h31 ?_
  refine Ev.topI (Yn_eq xs (i + 2)) ?_
  refine Ev.call (a := 93) (as := [.ref 0, .int (nI (Yn xs (i + 1))), .int (nI (Yn xs (i + 2)))]) (rest := []) (lv0 := [(0, .ref 0), (1, .int (nI (Yn xs (i + 1)))), (2, .int (nI (Yn xs (i + 2))))]) (Q1 := (fun r h' => (∃ (v : Value) (g1 : Nat → Nat → Nat) (hl1 : Nat → Nat → Int64) (rt1 : Nat × Nat × Nat × Nat), r = some v ∧ h' = HN g1 hl1 (RF rt1) ∧ Ev L xs (d + 20) 206 0 [(0, .ref 166), (1, .int (nI (Yn xs (i + 1)))), (2, .int (nI (Yn xs (i + 2))))] [] (HN g1 hl1 (RF rt1)) (fun r2 h2 => r2 = some v ∧ ∃ (g2 : Nat → Nat → Nat) (hl2 : Nat → Nat → Int64) (rt2 : Nat × Nat × Nat × Nat), h2 = HN g2 hl2 (RF rt2) ∧ Inv g2 hl2 rt2)) ∧ ∃ x, r = some (.int x))) rfl rfl (Ev.int (by decide) (Or.inl rfl) (S_learn d (Yn xs (i + 1)) (Yn xs (i + 2)) (Yn_lt xs (i + 1)) (Yn_lt xs (i + 2)) g hl rt hV)) (fun r h' hr => ?_)
  obtain ⟨⟨v, g1, hl1, rt1, rfl, rfl, k2⟩, x1, e1⟩ := hr
  injection e1 with e1
  subst e1
  refine Ev.run 1 (pc' := 670) (lv' := [(3, .int (nI i)), (2, .ref 166), (1, .ref 0), (0, .retAddr 0)]) (st' := [.ref 166, .int x1]) (h' := HN g1 hl1 (RF rt1)) rfl ?_
  refine Ev.run 4 (pc' := 674) (lv' := [(3, .int (nI i)), (2, .ref 166), (1, .ref 0), (0, .retAddr 0)]) (st' := [.int (nI i + nI 1), .retAddr 0, .ref 166, .int x1]) (h' := HN g1 hl1 (RF rt1)) rfl ?_
  refine Ev.topI (nI_add _ _) ?_
  refine Ev_xald rfl (by decide) (show i + 1 < L by omega) h31 ?_
  refine Ev.topI (Yn_eq xs (i + 1)) ?_
  refine Ev.run 4 (pc' := 679) (lv' := [(3, .int (nI i)), (2, .ref 166), (1, .ref 0), (0, .retAddr 0)]) (st' := [.int (nI i + nI 2), .retAddr 0, .int (nI (Yn xs (i + 1))), .ref 166, .int x1]) (h' := HN g1 hl1 (RF rt1)) rfl ?_
  refine Ev.topI (nI_add _ _) ?_
  refine Ev_xald rfl (by decide) (show i + 2 < L by omega) h31 ?_
  refine Ev.topI (Yn_eq xs (i + 2)) ?_
  refine Ev.call (a := 206) (as := [.ref 166, .int (nI (Yn xs (i + 1))), .int (nI (Yn xs (i + 2)))]) (rest := [.int x1]) (lv0 := [(0, .ref 166), (1, .int (nI (Yn xs (i + 1)))), (2, .int (nI (Yn xs (i + 2))))]) (Q1 := (fun r2 h2 => r2 = some (.int x1) ∧ ∃ (g2 : Nat → Nat → Nat) (hl2 : Nat → Nat → Int64) (rt2 : Nat × Nat × Nat × Nat), h2 = HN g2 hl2 (RF rt2) ∧ Inv g2 hl2 rt2)) rfl rfl k2 (fun r h' hr => ?_)
  obtain ⟨rfl, g2, hl2, rt2, rfl, hV2⟩ := hr
  refine Ev.run 1 (pc' := (if x1 = x1 then 1354 else 686)) (lv' := [(3, .int (nI i)), (2, .ref 166), (1, .ref 0), (0, .retAddr 0)]) (st' := []) (h' := HN g2 hl2 (RF rt2)) rfl ?_
  exact Ev.ite (fun _ => hT g2 hl2 rt2 hV2) (fun z => absurd rfl z)
theorem LC_out {L : Nat} {xs : Nat → Int32} (d i : Nat) (hi : i + 6 ≤ L) (hL : L ≤ 3072) {g : Nat → Nat → Nat} {hl : Nat → Nat → Int64} {rt : Nat × Nat × Nat × Nat} (hV : Inv g hl rt) {Q : Po} (hT : LE L xs d i Q) : Ev L xs (d + 21) 0 688 [(3, .int (nI i)), (2, .ref 166), (1, .ref 0), (0, .retAddr 0)] [] (HN g hl (RF rt)) Q := by
  have h31 : xLen L 0 < 2 ^ 31 := by show L < 2 ^ 31; omega
  refine Ev.run 1 (pc' := 689) (lv' := [(3, .int (nI i)), (2, .ref 166), (1, .ref 0), (0, .retAddr 0)]) (st' := [.ref 0]) (h' := HN g hl (RF rt)) rfl ?_
  refine Ev.run 4 (pc' := 693) (lv' := [(3, .int (nI i)), (2, .ref 166), (1, .ref 0), (0, .retAddr 0)]) (st' := [.int (nI i + nI 1), .retAddr 0, .ref 0]) (h' := HN g hl (RF rt)) rfl ?_
  refine Ev.topI (nI_add _ _) ?_
  refine Ev_xald rfl (by decide) (show i + 1 < L by omega) h31 ?_
  refine Ev.topI (Yn_eq xs (i + 1)) ?_
  refine Ev.call (a := 94) (as := [.ref 0, .int (nI (Yn xs (i + 1)))]) (rest := []) (lv0 := [(0, .ref 0), (1, .int (nI (Yn xs (i + 1))))]) (Q1 := (fun r h' => (∃ (v : Value) (g1 : Nat → Nat → Nat) (hl1 : Nat → Nat → Int64) (rt1 : Nat × Nat × Nat × Nat), r = some v ∧ h' = HN g1 hl1 (RF rt1) ∧ Ev L xs (d + 20) 208 0 [(0, .ref 166), (1, .int (nI (Yn xs (i + 1))))] [] (HN g1 hl1 (RF rt1)) (fun r2 h2 => r2 = some v ∧ ∃ (g2 : Nat → Nat → Nat) (hl2 : Nat → Nat → Int64) (rt2 : Nat × Nat × Nat × Nat), h2 = HN g2 hl2 (RF rt2) ∧ Inv g2 hl2 rt2)) ∧ ∃ x, r = some (.int x))) rfl rfl (Ev.int (by decide) (Or.inl rfl) (S_out d (Yn xs (i + 1)) (Yn_lt xs (i + 1)) g hl rt hV)) (fun r h' hr => ?_)
  obtain ⟨⟨v, g1, hl1, rt1, rfl, rfl, k2⟩, x1, e1⟩ := hr
  injection e1 with e1
  subst e1
  refine Ev.run 1 (pc' := 698) (lv' := [(3, .int (nI i)), (2, .ref 166), (1, .ref 0), (0, .retAddr 0)]) (st' := [.ref 166, .int x1]) (h' := HN g1 hl1 (RF rt1)) rfl ?_
  refine Ev.run 4 (pc' := 702) (lv' := [(3, .int (nI i)), (2, .ref 166), (1, .ref 0), (0, .retAddr 0)]) (st' := [.int (nI i + nI 1), .retAddr 0, .ref 166, .int x1]) (h' := HN g1 hl1 (RF rt1)) rfl ?_
  refine Ev.topI (nI_add _ _) ?_
  refine Ev_xald rfl (by decide) (show i + 1 < L by omega) h31 ?_
  refine Ev.topI (Yn_eq xs (i + 1)) ?_
  refine Ev.call (a := 208) (as := [.ref 166, .int (nI (Yn xs (i + 1)))]) (rest := [.int x1]) (lv0 := [(0, .ref 166), (1, .int (nI (Yn xs (i + 1))))]) (Q1 := (fun r2 h2 => r2 = some (.int x1) ∧ ∃ (g2 : Nat → Nat → Nat) (hl2 : Nat → Nat → Int64) (rt2 : Nat × Nat × Nat × Nat), h2 = HN g2 hl2 (RF rt2) ∧ Inv g2 hl2 rt2)) rfl rfl k2 (fun r h' hr => ?_)
  obtain ⟨rfl, g2, hl2, rt2, rfl, hV2⟩ := hr
  refine Ev.run 1 (pc' := (if x1 = x1 then 1354 else 709)) (lv' := [(3, .int (nI i)), (2, .ref 166), (1, .ref 0), (0, .retAddr 0)]) (st' := []) (h' := HN g2 hl2 (RF rt2)) rfl ?_
  exact Ev.ite (fun _ => hT g2 hl2 rt2 hV2) (fun z => absurd rfl z)
theorem LC_rank {L : Nat} {xs : Nat → Int32} (d i : Nat) (hi : i + 6 ≤ L) (hL : L ≤ 3072) {g : Nat → Nat → Nat} {hl : Nat → Nat → Int64} {rt : Nat × Nat × Nat × Nat} (hV : Inv g hl rt) {Q : Po} (hT : LE L xs d i Q) : Ev L xs (d + 21) 0 711 [(3, .int (nI i)), (2, .ref 166), (1, .ref 0), (0, .retAddr 0)] [] (HN g hl (RF rt)) Q := by
  have h31 : xLen L 0 < 2 ^ 31 := by show L < 2 ^ 31; omega
  refine Ev.run 1 (pc' := 712) (lv' := [(3, .int (nI i)), (2, .ref 166), (1, .ref 0), (0, .retAddr 0)]) (st' := [.ref 0]) (h' := HN g hl (RF rt)) rfl ?_
  refine Ev.run 4 (pc' := 716) (lv' := [(3, .int (nI i)), (2, .ref 166), (1, .ref 0), (0, .retAddr 0)]) (st' := [.int (nI i + nI 1), .retAddr 0, .ref 0]) (h' := HN g hl (RF rt)) rfl ?_
  refine Ev.topI (nI_add _ _) ?_
  refine Ev_xald rfl (by decide) (show i + 1 < L by omega) h31 ?_
  refine Ev.topI (Yn_eq xs (i + 1)) ?_
  refine Ev.call (a := 95) (as := [.ref 0, .int (nI (Yn xs (i + 1)))]) (rest := []) (lv0 := [(0, .ref 0), (1, .int (nI (Yn xs (i + 1))))]) (Q1 := (fun r h' => (∃ (v : Value) (g1 : Nat → Nat → Nat) (hl1 : Nat → Nat → Int64) (rt1 : Nat × Nat × Nat × Nat), r = some v ∧ h' = HN g1 hl1 (RF rt1) ∧ Ev L xs (d + 20) 209 0 [(0, .ref 166), (1, .int (nI (Yn xs (i + 1))))] [] (HN g1 hl1 (RF rt1)) (fun r2 h2 => r2 = some v ∧ ∃ (g2 : Nat → Nat → Nat) (hl2 : Nat → Nat → Int64) (rt2 : Nat × Nat × Nat × Nat), h2 = HN g2 hl2 (RF rt2) ∧ Inv g2 hl2 rt2)) ∧ ∃ x, r = some (.int x))) rfl rfl (Ev.int (by decide) (Or.inl rfl) (S_rank d (Yn xs (i + 1)) (Yn_lt xs (i + 1)) g hl rt hV)) (fun r h' hr => ?_)
  obtain ⟨⟨v, g1, hl1, rt1, rfl, rfl, k2⟩, x1, e1⟩ := hr
  injection e1 with e1
  subst e1
  refine Ev.run 1 (pc' := 721) (lv' := [(3, .int (nI i)), (2, .ref 166), (1, .ref 0), (0, .retAddr 0)]) (st' := [.ref 166, .int x1]) (h' := HN g1 hl1 (RF rt1)) rfl ?_
  refine Ev.run 4 (pc' := 725) (lv' := [(3, .int (nI i)), (2, .ref 166), (1, .ref 0), (0, .retAddr 0)]) (st' := [.int (nI i + nI 1), .retAddr 0, .ref 166, .int x1]) (h' := HN g1 hl1 (RF rt1)) rfl ?_
  refine Ev.topI (nI_add _ _) ?_
  refine Ev_xald rfl (by decide) (show i + 1 < L by omega) h31 ?_
  refine Ev.topI (Yn_eq xs (i + 1)) ?_
  refine Ev.call (a := 209) (as := [.ref 166, .int (nI (Yn xs (i + 1)))]) (rest := [.int x1]) (lv0 := [(0, .ref 166), (1, .int (nI (Yn xs (i + 1))))]) (Q1 := (fun r2 h2 => r2 = some (.int x1) ∧ ∃ (g2 : Nat → Nat → Nat) (hl2 : Nat → Nat → Int64) (rt2 : Nat × Nat × Nat × Nat), h2 = HN g2 hl2 (RF rt2) ∧ Inv g2 hl2 rt2)) rfl rfl k2 (fun r h' hr => ?_)
  obtain ⟨rfl, g2, hl2, rt2, rfl, hV2⟩ := hr
  refine Ev.run 1 (pc' := (if x1 = x1 then 1354 else 732)) (lv' := [(3, .int (nI i)), (2, .ref 166), (1, .ref 0), (0, .retAddr 0)]) (st' := []) (h' := HN g2 hl2 (RF rt2)) rfl ?_
  exact Ev.ite (fun _ => hT g2 hl2 rt2 hV2) (fun z => absurd rfl z)
theorem LC_see {L : Nat} {xs : Nat → Int32} (d i : Nat) (hi : i + 6 ≤ L) (hL : L ≤ 3072) {g : Nat → Nat → Nat} {hl : Nat → Nat → Int64} {rt : Nat × Nat × Nat × Nat} (hV : Inv g hl rt) {Q : Po} (hT : LE L xs d i Q) : Ev L xs (d + 21) 0 734 [(3, .int (nI i)), (2, .ref 166), (1, .ref 0), (0, .retAddr 0)] [] (HN g hl (RF rt)) Q := by
  have h31 : xLen L 0 < 2 ^ 31 := by show L < 2 ^ 31; omega
  refine Ev.run 1 (pc' := 735) (lv' := [(3, .int (nI i)), (2, .ref 166), (1, .ref 0), (0, .retAddr 0)]) (st' := [.ref 0]) (h' := HN g hl (RF rt)) rfl ?_
  refine Ev.run 4 (pc' := 739) (lv' := [(3, .int (nI i)), (2, .ref 166), (1, .ref 0), (0, .retAddr 0)]) (st' := [.int (nI i + nI 1), .retAddr 0, .ref 0]) (h' := HN g hl (RF rt)) rfl ?_
  refine Ev.topI (nI_add _ _) ?_
  refine Ev_xald rfl (by decide) (show i + 1 < L by omega) h31 ?_
  refine Ev.topI (Yn_eq xs (i + 1)) ?_
  refine Ev.run 4 (pc' := 744) (lv' := [(3, .int (nI i)), (2, .ref 166), (1, .ref 0), (0, .retAddr 0)]) (st' := [.int (nI i + nI 2), .retAddr 0, .int (nI (Yn xs (i + 1))), .ref 0]) (h' := HN g hl (RF rt)) rfl ?_
  refine Ev.topI (nI_add _ _) ?_
  refine Ev_xald rfl (by decide) (show i + 2 < L by omega) h31 ?_
  refine Ev.topI (Yn_eq xs (i + 2)) ?_
  refine Ev.run 4 (pc' := 749) (lv' := [(3, .int (nI i)), (2, .ref 166), (1, .ref 0), (0, .retAddr 0)]) (st' := [.int (nI i + nI 3), .retAddr 0, .int (nI (Yn xs (i + 2))), .int (nI (Yn xs (i + 1))), .ref 0]) (h' := HN g hl (RF rt)) rfl ?_
  refine Ev.topI (nI_add _ _) ?_
  refine Ev_xald rfl (by decide) (show i + 3 < L by omega) h31 ?_
  refine Ev.topI (Yn_eq xs (i + 3)) ?_
  refine Ev.call (a := 96) (as := [.ref 0, .int (nI (Yn xs (i + 1))), .int (nI (Yn xs (i + 2))), .int (nI (Yn xs (i + 3)))]) (rest := []) (lv0 := [(0, .ref 0), (1, .int (nI (Yn xs (i + 1)))), (2, .int (nI (Yn xs (i + 2)))), (3, .int (nI (Yn xs (i + 3))))]) (Q1 := (fun r h' => (∃ (v : Value) (g1 : Nat → Nat → Nat) (hl1 : Nat → Nat → Int64) (rt1 : Nat × Nat × Nat × Nat), r = some v ∧ h' = HN g1 hl1 (RF rt1) ∧ Ev L xs (d + 20) 210 0 [(0, .ref 166), (1, .int (nI (Yn xs (i + 1)))), (2, .int (nI (Yn xs (i + 2)))), (3, .int (nI (Yn xs (i + 3))))] [] (HN g1 hl1 (RF rt1)) (fun r2 h2 => r2 = some v ∧ ∃ (g2 : Nat → Nat → Nat) (hl2 : Nat → Nat → Int64) (rt2 : Nat × Nat × Nat × Nat), h2 = HN g2 hl2 (RF rt2) ∧ Inv g2 hl2 rt2)) ∧ ∃ x, r = some (.int x))) rfl rfl (Ev.int (by decide) (Or.inl rfl) (S_see d (Yn xs (i + 1)) (Yn xs (i + 2)) (Yn xs (i + 3)) (Yn_lt xs (i + 1)) (Yn_lt xs (i + 2)) (Yn_lt xs (i + 3)) g hl rt hV)) (fun r h' hr => ?_)
  obtain ⟨⟨v, g1, hl1, rt1, rfl, rfl, k2⟩, x1, e1⟩ := hr
  injection e1 with e1
  subst e1
  refine Ev.run 1 (pc' := 754) (lv' := [(3, .int (nI i)), (2, .ref 166), (1, .ref 0), (0, .retAddr 0)]) (st' := [.ref 166, .int x1]) (h' := HN g1 hl1 (RF rt1)) rfl ?_
  refine Ev.run 4 (pc' := 758) (lv' := [(3, .int (nI i)), (2, .ref 166), (1, .ref 0), (0, .retAddr 0)]) (st' := [.int (nI i + nI 1), .retAddr 0, .ref 166, .int x1]) (h' := HN g1 hl1 (RF rt1)) rfl ?_
  refine Ev.topI (nI_add _ _) ?_
  refine Ev_xald rfl (by decide) (show i + 1 < L by omega) h31 ?_
  refine Ev.topI (Yn_eq xs (i + 1)) ?_
  refine Ev.run 4 (pc' := 763) (lv' := [(3, .int (nI i)), (2, .ref 166), (1, .ref 0), (0, .retAddr 0)]) (st' := [.int (nI i + nI 2), .retAddr 0, .int (nI (Yn xs (i + 1))), .ref 166, .int x1]) (h' := HN g1 hl1 (RF rt1)) rfl ?_
  refine Ev.topI (nI_add _ _) ?_
  refine Ev_xald rfl (by decide) (show i + 2 < L by omega) h31 ?_
  refine Ev.topI (Yn_eq xs (i + 2)) ?_
  refine Ev.run 4 (pc' := 768) (lv' := [(3, .int (nI i)), (2, .ref 166), (1, .ref 0), (0, .retAddr 0)]) (st' := [.int (nI i + nI 3), .retAddr 0, .int (nI (Yn xs (i + 2))), .int (nI (Yn xs (i + 1))), .ref 166, .int x1]) (h' := HN g1 hl1 (RF rt1)) rfl ?_
  refine Ev.topI (nI_add _ _) ?_
  refine Ev_xald rfl (by decide) (show i + 3 < L by omega) h31 ?_
  refine Ev.topI (Yn_eq xs (i + 3)) ?_
  refine Ev.call (a := 210) (as := [.ref 166, .int (nI (Yn xs (i + 1))), .int (nI (Yn xs (i + 2))), .int (nI (Yn xs (i + 3)))]) (rest := [.int x1]) (lv0 := [(0, .ref 166), (1, .int (nI (Yn xs (i + 1)))), (2, .int (nI (Yn xs (i + 2)))), (3, .int (nI (Yn xs (i + 3))))]) (Q1 := (fun r2 h2 => r2 = some (.int x1) ∧ ∃ (g2 : Nat → Nat → Nat) (hl2 : Nat → Nat → Int64) (rt2 : Nat × Nat × Nat × Nat), h2 = HN g2 hl2 (RF rt2) ∧ Inv g2 hl2 rt2)) rfl rfl k2 (fun r h' hr => ?_)
  obtain ⟨rfl, g2, hl2, rt2, rfl, hV2⟩ := hr
  refine Ev.run 1 (pc' := (if x1 = x1 then 1354 else 775)) (lv' := [(3, .int (nI i)), (2, .ref 166), (1, .ref 0), (0, .retAddr 0)]) (st' := []) (h' := HN g2 hl2 (RF rt2)) rfl ?_
  exact Ev.ite (fun _ => hT g2 hl2 rt2 hV2) (fun z => absurd rfl z)
theorem LC_could {L : Nat} {xs : Nat → Int32} (d i : Nat) (hi : i + 6 ≤ L) (hL : L ≤ 3072) {g : Nat → Nat → Nat} {hl : Nat → Nat → Int64} {rt : Nat × Nat × Nat × Nat} (hV : Inv g hl rt) {Q : Po} (hT : LE L xs d i Q) : Ev L xs (d + 21) 0 777 [(3, .int (nI i)), (2, .ref 166), (1, .ref 0), (0, .retAddr 0)] [] (HN g hl (RF rt)) Q := by
  have h31 : xLen L 0 < 2 ^ 31 := by show L < 2 ^ 31; omega
  refine Ev.run 1 (pc' := 778) (lv' := [(3, .int (nI i)), (2, .ref 166), (1, .ref 0), (0, .retAddr 0)]) (st' := [.ref 0]) (h' := HN g hl (RF rt)) rfl ?_
  refine Ev.run 4 (pc' := 782) (lv' := [(3, .int (nI i)), (2, .ref 166), (1, .ref 0), (0, .retAddr 0)]) (st' := [.int (nI i + nI 1), .retAddr 0, .ref 0]) (h' := HN g hl (RF rt)) rfl ?_
  refine Ev.topI (nI_add _ _) ?_
  refine Ev_xald rfl (by decide) (show i + 1 < L by omega) h31 ?_
  refine Ev.topI (Yn_eq xs (i + 1)) ?_
  refine Ev.call (a := 97) (as := [.ref 0, .int (nI (Yn xs (i + 1)))]) (rest := []) (lv0 := [(0, .ref 0), (1, .int (nI (Yn xs (i + 1))))]) (Q1 := (fun r h' => (∃ (v : Value) (g1 : Nat → Nat → Nat) (hl1 : Nat → Nat → Int64) (rt1 : Nat × Nat × Nat × Nat), r = some v ∧ h' = HN g1 hl1 (RF rt1) ∧ Ev L xs (d + 20) 212 0 [(0, .ref 166), (1, .int (nI (Yn xs (i + 1))))] [] (HN g1 hl1 (RF rt1)) (fun r2 h2 => r2 = some v ∧ ∃ (g2 : Nat → Nat → Nat) (hl2 : Nat → Nat → Int64) (rt2 : Nat × Nat × Nat × Nat), h2 = HN g2 hl2 (RF rt2) ∧ Inv g2 hl2 rt2)) ∧ ∃ x, r = some (.int x))) rfl rfl (Ev.int (by decide) (Or.inl rfl) (S_could d (Yn xs (i + 1)) (Yn_lt xs (i + 1)) g hl rt hV)) (fun r h' hr => ?_)
  obtain ⟨⟨v, g1, hl1, rt1, rfl, rfl, k2⟩, x1, e1⟩ := hr
  injection e1 with e1
  subst e1
  refine Ev.run 1 (pc' := 787) (lv' := [(3, .int (nI i)), (2, .ref 166), (1, .ref 0), (0, .retAddr 0)]) (st' := [.ref 166, .int x1]) (h' := HN g1 hl1 (RF rt1)) rfl ?_
  refine Ev.run 4 (pc' := 791) (lv' := [(3, .int (nI i)), (2, .ref 166), (1, .ref 0), (0, .retAddr 0)]) (st' := [.int (nI i + nI 1), .retAddr 0, .ref 166, .int x1]) (h' := HN g1 hl1 (RF rt1)) rfl ?_
  refine Ev.topI (nI_add _ _) ?_
  refine Ev_xald rfl (by decide) (show i + 1 < L by omega) h31 ?_
  refine Ev.topI (Yn_eq xs (i + 1)) ?_
  refine Ev.call (a := 212) (as := [.ref 166, .int (nI (Yn xs (i + 1)))]) (rest := [.int x1]) (lv0 := [(0, .ref 166), (1, .int (nI (Yn xs (i + 1))))]) (Q1 := (fun r2 h2 => r2 = some (.int x1) ∧ ∃ (g2 : Nat → Nat → Nat) (hl2 : Nat → Nat → Int64) (rt2 : Nat × Nat × Nat × Nat), h2 = HN g2 hl2 (RF rt2) ∧ Inv g2 hl2 rt2)) rfl rfl k2 (fun r h' hr => ?_)
  obtain ⟨rfl, g2, hl2, rt2, rfl, hV2⟩ := hr
  refine Ev.run 1 (pc' := (if x1 = x1 then 1354 else 798)) (lv' := [(3, .int (nI i)), (2, .ref 166), (1, .ref 0), (0, .retAddr 0)]) (st' := []) (h' := HN g2 hl2 (RF rt2)) rfl ?_
  exact Ev.ite (fun _ => hT g2 hl2 rt2 hV2) (fun z => absurd rfl z)
theorem LC_can {L : Nat} {xs : Nat → Int32} (d i : Nat) (hi : i + 6 ≤ L) (hL : L ≤ 3072) {g : Nat → Nat → Nat} {hl : Nat → Nat → Int64} {rt : Nat × Nat × Nat × Nat} (hV : Inv g hl rt) {Q : Po} (hT : LE L xs d i Q) : Ev L xs (d + 21) 0 800 [(3, .int (nI i)), (2, .ref 166), (1, .ref 0), (0, .retAddr 0)] [] (HN g hl (RF rt)) Q := by
  have h31 : xLen L 0 < 2 ^ 31 := by show L < 2 ^ 31; omega
  refine Ev.run 1 (pc' := 801) (lv' := [(3, .int (nI i)), (2, .ref 166), (1, .ref 0), (0, .retAddr 0)]) (st' := [.ref 0]) (h' := HN g hl (RF rt)) rfl ?_
  refine Ev.run 4 (pc' := 805) (lv' := [(3, .int (nI i)), (2, .ref 166), (1, .ref 0), (0, .retAddr 0)]) (st' := [.int (nI i + nI 1), .retAddr 0, .ref 0]) (h' := HN g hl (RF rt)) rfl ?_
  refine Ev.topI (nI_add _ _) ?_
  refine Ev_xald rfl (by decide) (show i + 1 < L by omega) h31 ?_
  refine Ev.topI (Yn_eq xs (i + 1)) ?_
  refine Ev.run 4 (pc' := 810) (lv' := [(3, .int (nI i)), (2, .ref 166), (1, .ref 0), (0, .retAddr 0)]) (st' := [.int (nI i + nI 2), .retAddr 0, .int (nI (Yn xs (i + 1))), .ref 0]) (h' := HN g hl (RF rt)) rfl ?_
  refine Ev.topI (nI_add _ _) ?_
  refine Ev_xald rfl (by decide) (show i + 2 < L by omega) h31 ?_
  refine Ev.topI (Yn_eq xs (i + 2)) ?_
  refine Ev.call (a := 98) (as := [.ref 0, .int (nI (Yn xs (i + 1))), .int (nI (Yn xs (i + 2)))]) (rest := []) (lv0 := [(0, .ref 0), (1, .int (nI (Yn xs (i + 1)))), (2, .int (nI (Yn xs (i + 2))))]) (Q1 := (fun r h' => (∃ (v : Value) (g1 : Nat → Nat → Nat) (hl1 : Nat → Nat → Int64) (rt1 : Nat × Nat × Nat × Nat), r = some v ∧ h' = HN g1 hl1 (RF rt1) ∧ Ev L xs (d + 20) 213 0 [(0, .ref 166), (1, .int (nI (Yn xs (i + 1)))), (2, .int (nI (Yn xs (i + 2))))] [] (HN g1 hl1 (RF rt1)) (fun r2 h2 => r2 = some v ∧ ∃ (g2 : Nat → Nat → Nat) (hl2 : Nat → Nat → Int64) (rt2 : Nat × Nat × Nat × Nat), h2 = HN g2 hl2 (RF rt2) ∧ Inv g2 hl2 rt2)) ∧ ∃ x, r = some (.int x))) rfl rfl (Ev.int (by decide) (Or.inl rfl) (S_can d (Yn xs (i + 1)) (Yn xs (i + 2)) (Yn_lt xs (i + 1)) (Yn_lt xs (i + 2)) g hl rt hV)) (fun r h' hr => ?_)
  obtain ⟨⟨v, g1, hl1, rt1, rfl, rfl, k2⟩, x1, e1⟩ := hr
  injection e1 with e1
  subst e1
  refine Ev.run 1 (pc' := 815) (lv' := [(3, .int (nI i)), (2, .ref 166), (1, .ref 0), (0, .retAddr 0)]) (st' := [.ref 166, .int x1]) (h' := HN g1 hl1 (RF rt1)) rfl ?_
  refine Ev.run 4 (pc' := 819) (lv' := [(3, .int (nI i)), (2, .ref 166), (1, .ref 0), (0, .retAddr 0)]) (st' := [.int (nI i + nI 1), .retAddr 0, .ref 166, .int x1]) (h' := HN g1 hl1 (RF rt1)) rfl ?_
  refine Ev.topI (nI_add _ _) ?_
  refine Ev_xald rfl (by decide) (show i + 1 < L by omega) h31 ?_
  refine Ev.topI (Yn_eq xs (i + 1)) ?_
  refine Ev.run 4 (pc' := 824) (lv' := [(3, .int (nI i)), (2, .ref 166), (1, .ref 0), (0, .retAddr 0)]) (st' := [.int (nI i + nI 2), .retAddr 0, .int (nI (Yn xs (i + 1))), .ref 166, .int x1]) (h' := HN g1 hl1 (RF rt1)) rfl ?_
  refine Ev.topI (nI_add _ _) ?_
  refine Ev_xald rfl (by decide) (show i + 2 < L by omega) h31 ?_
  refine Ev.topI (Yn_eq xs (i + 2)) ?_
  refine Ev.call (a := 213) (as := [.ref 166, .int (nI (Yn xs (i + 1))), .int (nI (Yn xs (i + 2)))]) (rest := [.int x1]) (lv0 := [(0, .ref 166), (1, .int (nI (Yn xs (i + 1)))), (2, .int (nI (Yn xs (i + 2))))]) (Q1 := (fun r2 h2 => r2 = some (.int x1) ∧ ∃ (g2 : Nat → Nat → Nat) (hl2 : Nat → Nat → Int64) (rt2 : Nat × Nat × Nat × Nat), h2 = HN g2 hl2 (RF rt2) ∧ Inv g2 hl2 rt2)) rfl rfl k2 (fun r h' hr => ?_)
  obtain ⟨rfl, g2, hl2, rt2, rfl, hV2⟩ := hr
  refine Ev.run 1 (pc' := (if x1 = x1 then 1354 else 831)) (lv' := [(3, .int (nI i)), (2, .ref 166), (1, .ref 0), (0, .retAddr 0)]) (st' := []) (h' := HN g2 hl2 (RF rt2)) rfl ?_
  exact Ev.ite (fun _ => hT g2 hl2 rt2 hV2) (fun z => absurd rfl z)
theorem LC_begins {L : Nat} {xs : Nat → Int32} (d i : Nat) (hi : i + 6 ≤ L) (hL : L ≤ 3072) {g : Nat → Nat → Nat} {hl : Nat → Nat → Int64} {rt : Nat × Nat × Nat × Nat} (hV : Inv g hl rt) {Q : Po} (hT : LE L xs d i Q) : Ev L xs (d + 21) 0 833 [(3, .int (nI i)), (2, .ref 166), (1, .ref 0), (0, .retAddr 0)] [] (HN g hl (RF rt)) Q := by
  have h31 : xLen L 0 < 2 ^ 31 := by show L < 2 ^ 31; omega
  refine Ev.run 1 (pc' := 834) (lv' := [(3, .int (nI i)), (2, .ref 166), (1, .ref 0), (0, .retAddr 0)]) (st' := [.ref 0]) (h' := HN g hl (RF rt)) rfl ?_
  refine Ev.run 4 (pc' := 838) (lv' := [(3, .int (nI i)), (2, .ref 166), (1, .ref 0), (0, .retAddr 0)]) (st' := [.int (nI i + nI 1), .retAddr 0, .ref 0]) (h' := HN g hl (RF rt)) rfl ?_
  refine Ev.topI (nI_add _ _) ?_
  refine Ev_xald rfl (by decide) (show i + 1 < L by omega) h31 ?_
  refine Ev.topI (Yn_eq xs (i + 1)) ?_
  refine Ev.call (a := 99) (as := [.ref 0, .int (nI (Yn xs (i + 1)))]) (rest := []) (lv0 := [(0, .ref 0), (1, .int (nI (Yn xs (i + 1))))]) (Q1 := (fun r h' => (∃ (v : Value) (g1 : Nat → Nat → Nat) (hl1 : Nat → Nat → Int64) (rt1 : Nat × Nat × Nat × Nat), r = some v ∧ h' = HN g1 hl1 (RF rt1) ∧ Ev L xs (d + 20) 177 0 [(0, .ref 166), (1, .int (nI (Yn xs (i + 1))))] [] (HN g1 hl1 (RF rt1)) (fun r2 h2 => r2 = some v ∧ ∃ (g2 : Nat → Nat → Nat) (hl2 : Nat → Nat → Int64) (rt2 : Nat × Nat × Nat × Nat), h2 = HN g2 hl2 (RF rt2) ∧ Inv g2 hl2 rt2)) ∧ ∃ x, r = some (.int x))) rfl rfl (Ev.int (by decide) (Or.inl rfl) (S_begins d (Yn xs (i + 1)) (Yn_lt xs (i + 1)) g hl rt hV)) (fun r h' hr => ?_)
  obtain ⟨⟨v, g1, hl1, rt1, rfl, rfl, k2⟩, x1, e1⟩ := hr
  injection e1 with e1
  subst e1
  refine Ev.run 1 (pc' := 843) (lv' := [(3, .int (nI i)), (2, .ref 166), (1, .ref 0), (0, .retAddr 0)]) (st' := [.ref 166, .int x1]) (h' := HN g1 hl1 (RF rt1)) rfl ?_
  refine Ev.run 4 (pc' := 847) (lv' := [(3, .int (nI i)), (2, .ref 166), (1, .ref 0), (0, .retAddr 0)]) (st' := [.int (nI i + nI 1), .retAddr 0, .ref 166, .int x1]) (h' := HN g1 hl1 (RF rt1)) rfl ?_
  refine Ev.topI (nI_add _ _) ?_
  refine Ev_xald rfl (by decide) (show i + 1 < L by omega) h31 ?_
  refine Ev.topI (Yn_eq xs (i + 1)) ?_
  refine Ev.call (a := 177) (as := [.ref 166, .int (nI (Yn xs (i + 1)))]) (rest := [.int x1]) (lv0 := [(0, .ref 166), (1, .int (nI (Yn xs (i + 1))))]) (Q1 := (fun r2 h2 => r2 = some (.int x1) ∧ ∃ (g2 : Nat → Nat → Nat) (hl2 : Nat → Nat → Int64) (rt2 : Nat × Nat × Nat × Nat), h2 = HN g2 hl2 (RF rt2) ∧ Inv g2 hl2 rt2)) rfl rfl k2 (fun r h' hr => ?_)
  obtain ⟨rfl, g2, hl2, rt2, rfl, hV2⟩ := hr
  refine Ev.run 1 (pc' := (if x1 = x1 then 1354 else 854)) (lv' := [(3, .int (nI i)), (2, .ref 166), (1, .ref 0), (0, .retAddr 0)]) (st' := []) (h' := HN g2 hl2 (RF rt2)) rfl ?_
  exact Ev.ite (fun _ => hT g2 hl2 rt2 hV2) (fun z => absurd rfl z)
theorem LC_odds {L : Nat} {xs : Nat → Int32} (d i : Nat) (hi : i + 6 ≤ L) (hL : L ≤ 3072) {g : Nat → Nat → Nat} {hl : Nat → Nat → Int64} {rt : Nat × Nat × Nat × Nat} (hV : Inv g hl rt) {Q : Po} (hT : LE L xs d i Q) : Ev L xs (d + 21) 0 856 [(3, .int (nI i)), (2, .ref 166), (1, .ref 0), (0, .retAddr 0)] [] (HN g hl (RF rt)) Q := by
  have h31 : xLen L 0 < 2 ^ 31 := by show L < 2 ^ 31; omega
  refine Ev.run 1 (pc' := 857) (lv' := [(3, .int (nI i)), (2, .ref 166), (1, .ref 0), (0, .retAddr 0)]) (st' := [.ref 0]) (h' := HN g hl (RF rt)) rfl ?_
  refine Ev.run 4 (pc' := 861) (lv' := [(3, .int (nI i)), (2, .ref 166), (1, .ref 0), (0, .retAddr 0)]) (st' := [.int (nI i + nI 1), .retAddr 0, .ref 0]) (h' := HN g hl (RF rt)) rfl ?_
  refine Ev.topI (nI_add _ _) ?_
  refine Ev_xald rfl (by decide) (show i + 1 < L by omega) h31 ?_
  refine Ev.topI (Yn_eq xs (i + 1)) ?_
  refine Ev.run 4 (pc' := 866) (lv' := [(3, .int (nI i)), (2, .ref 166), (1, .ref 0), (0, .retAddr 0)]) (st' := [.int (nI i + nI 2), .retAddr 0, .int (nI (Yn xs (i + 1))), .ref 0]) (h' := HN g hl (RF rt)) rfl ?_
  refine Ev.topI (nI_add _ _) ?_
  refine Ev_xald rfl (by decide) (show i + 2 < L by omega) h31 ?_
  refine Ev.topI (Yn_eq xs (i + 2)) ?_
  refine Ev.call (a := 100) (as := [.ref 0, .int (nI (Yn xs (i + 1))), .int (nI (Yn xs (i + 2)))]) (rest := []) (lv0 := [(0, .ref 0), (1, .int (nI (Yn xs (i + 1)))), (2, .int (nI (Yn xs (i + 2))))]) (Q1 := (fun r h' => (∃ (v : Value) (g1 : Nat → Nat → Nat) (hl1 : Nat → Nat → Int64) (rt1 : Nat × Nat × Nat × Nat), r = some v ∧ h' = HN g1 hl1 (RF rt1) ∧ Ev L xs (d + 20) 216 0 [(0, .ref 166), (1, .int (nI (Yn xs (i + 1)))), (2, .int (nI (Yn xs (i + 2))))] [] (HN g1 hl1 (RF rt1)) (fun r2 h2 => r2 = some v ∧ ∃ (g2 : Nat → Nat → Nat) (hl2 : Nat → Nat → Int64) (rt2 : Nat × Nat × Nat × Nat), h2 = HN g2 hl2 (RF rt2) ∧ Inv g2 hl2 rt2)) ∧ ∃ x, r = some (.long x))) rfl rfl (Ev.long (by decide) rfl (S_odds d (Yn xs (i + 1)) (Yn xs (i + 2)) (Yn_lt xs (i + 1)) (Yn_lt xs (i + 2)) g hl rt hV)) (fun r h' hr => ?_)
  obtain ⟨⟨v, g1, hl1, rt1, rfl, rfl, k2⟩, x1, e1⟩ := hr
  injection e1 with e1
  subst e1
  refine Ev.run 1 (pc' := 871) (lv' := [(3, .int (nI i)), (2, .ref 166), (1, .ref 0), (0, .retAddr 0)]) (st' := [.ref 166, .long x1]) (h' := HN g1 hl1 (RF rt1)) rfl ?_
  refine Ev.run 4 (pc' := 875) (lv' := [(3, .int (nI i)), (2, .ref 166), (1, .ref 0), (0, .retAddr 0)]) (st' := [.int (nI i + nI 1), .retAddr 0, .ref 166, .long x1]) (h' := HN g1 hl1 (RF rt1)) rfl ?_
  refine Ev.topI (nI_add _ _) ?_
  refine Ev_xald rfl (by decide) (show i + 1 < L by omega) h31 ?_
  refine Ev.topI (Yn_eq xs (i + 1)) ?_
  refine Ev.run 4 (pc' := 880) (lv' := [(3, .int (nI i)), (2, .ref 166), (1, .ref 0), (0, .retAddr 0)]) (st' := [.int (nI i + nI 2), .retAddr 0, .int (nI (Yn xs (i + 1))), .ref 166, .long x1]) (h' := HN g1 hl1 (RF rt1)) rfl ?_
  refine Ev.topI (nI_add _ _) ?_
  refine Ev_xald rfl (by decide) (show i + 2 < L by omega) h31 ?_
  refine Ev.topI (Yn_eq xs (i + 2)) ?_
  refine Ev.call (a := 216) (as := [.ref 166, .int (nI (Yn xs (i + 1))), .int (nI (Yn xs (i + 2)))]) (rest := [.long x1]) (lv0 := [(0, .ref 166), (1, .int (nI (Yn xs (i + 1)))), (2, .int (nI (Yn xs (i + 2))))]) (Q1 := (fun r2 h2 => r2 = some (.long x1) ∧ ∃ (g2 : Nat → Nat → Nat) (hl2 : Nat → Nat → Int64) (rt2 : Nat × Nat × Nat × Nat), h2 = HN g2 hl2 (RF rt2) ∧ Inv g2 hl2 rt2)) rfl rfl k2 (fun r h' hr => ?_)
  obtain ⟨rfl, g2, hl2, rt2, rfl, hV2⟩ := hr
  refine Ev.run 2 (pc' := (if lg_cmp x1 x1 = 0 then 1354 else 888)) (lv' := [(3, .int (nI i)), (2, .ref 166), (1, .ref 0), (0, .retAddr 0)]) (st' := []) (h' := HN g2 hl2 (RF rt2)) rfl ?_
  exact Ev.ite (fun _ => hT g2 hl2 rt2 hV2) (fun z => absurd (lg_self x1) z)
theorem LC_mean {L : Nat} {xs : Nat → Int32} (d i : Nat) (hi : i + 6 ≤ L) (hL : L ≤ 3072) {g : Nat → Nat → Nat} {hl : Nat → Nat → Int64} {rt : Nat × Nat × Nat × Nat} (hV : Inv g hl rt) {Q : Po} (hT : LE L xs d i Q) : Ev L xs (d + 21) 0 890 [(3, .int (nI i)), (2, .ref 166), (1, .ref 0), (0, .retAddr 0)] [] (HN g hl (RF rt)) Q := by
  have h31 : xLen L 0 < 2 ^ 31 := by show L < 2 ^ 31; omega
  refine Ev.run 1 (pc' := 891) (lv' := [(3, .int (nI i)), (2, .ref 166), (1, .ref 0), (0, .retAddr 0)]) (st' := [.ref 0]) (h' := HN g hl (RF rt)) rfl ?_
  refine Ev.run 4 (pc' := 895) (lv' := [(3, .int (nI i)), (2, .ref 166), (1, .ref 0), (0, .retAddr 0)]) (st' := [.int (nI i + nI 1), .retAddr 0, .ref 0]) (h' := HN g hl (RF rt)) rfl ?_
  refine Ev.topI (nI_add _ _) ?_
  refine Ev_xald rfl (by decide) (show i + 1 < L by omega) h31 ?_
  refine Ev.topI (Yn_eq xs (i + 1)) ?_
  refine Ev.run 4 (pc' := 900) (lv' := [(3, .int (nI i)), (2, .ref 166), (1, .ref 0), (0, .retAddr 0)]) (st' := [.int (nI i + nI 2), .retAddr 0, .int (nI (Yn xs (i + 1))), .ref 0]) (h' := HN g hl (RF rt)) rfl ?_
  refine Ev.topI (nI_add _ _) ?_
  refine Ev_xald rfl (by decide) (show i + 2 < L by omega) h31 ?_
  refine Ev.topI (Yn_eq xs (i + 2)) ?_
  refine Ev.call (a := 101) (as := [.ref 0, .int (nI (Yn xs (i + 1))), .int (nI (Yn xs (i + 2)))]) (rest := []) (lv0 := [(0, .ref 0), (1, .int (nI (Yn xs (i + 1)))), (2, .int (nI (Yn xs (i + 2))))]) (Q1 := (fun r h' => (∃ (v : Value) (g1 : Nat → Nat → Nat) (hl1 : Nat → Nat → Int64) (rt1 : Nat × Nat × Nat × Nat), r = some v ∧ h' = HN g1 hl1 (RF rt1) ∧ Ev L xs (d + 20) 217 0 [(0, .ref 166), (1, .int (nI (Yn xs (i + 1)))), (2, .int (nI (Yn xs (i + 2))))] [] (HN g1 hl1 (RF rt1)) (fun r2 h2 => r2 = some v ∧ ∃ (g2 : Nat → Nat → Nat) (hl2 : Nat → Nat → Int64) (rt2 : Nat × Nat × Nat × Nat), h2 = HN g2 hl2 (RF rt2) ∧ Inv g2 hl2 rt2)) ∧ ∃ x, r = some (.long x))) rfl rfl (Ev.long (by decide) rfl (S_mean d (Yn xs (i + 1)) (Yn xs (i + 2)) (Yn_lt xs (i + 1)) (Yn_lt xs (i + 2)) g hl rt hV)) (fun r h' hr => ?_)
  obtain ⟨⟨v, g1, hl1, rt1, rfl, rfl, k2⟩, x1, e1⟩ := hr
  injection e1 with e1
  subst e1
  refine Ev.run 1 (pc' := 905) (lv' := [(3, .int (nI i)), (2, .ref 166), (1, .ref 0), (0, .retAddr 0)]) (st' := [.ref 166, .long x1]) (h' := HN g1 hl1 (RF rt1)) rfl ?_
  refine Ev.run 4 (pc' := 909) (lv' := [(3, .int (nI i)), (2, .ref 166), (1, .ref 0), (0, .retAddr 0)]) (st' := [.int (nI i + nI 1), .retAddr 0, .ref 166, .long x1]) (h' := HN g1 hl1 (RF rt1)) rfl ?_
  refine Ev.topI (nI_add _ _) ?_
  refine Ev_xald rfl (by decide) (show i + 1 < L by omega) h31 ?_
  refine Ev.topI (Yn_eq xs (i + 1)) ?_
  refine Ev.run 4 (pc' := 914) (lv' := [(3, .int (nI i)), (2, .ref 166), (1, .ref 0), (0, .retAddr 0)]) (st' := [.int (nI i + nI 2), .retAddr 0, .int (nI (Yn xs (i + 1))), .ref 166, .long x1]) (h' := HN g1 hl1 (RF rt1)) rfl ?_
  refine Ev.topI (nI_add _ _) ?_
  refine Ev_xald rfl (by decide) (show i + 2 < L by omega) h31 ?_
  refine Ev.topI (Yn_eq xs (i + 2)) ?_
  refine Ev.call (a := 217) (as := [.ref 166, .int (nI (Yn xs (i + 1))), .int (nI (Yn xs (i + 2)))]) (rest := [.long x1]) (lv0 := [(0, .ref 166), (1, .int (nI (Yn xs (i + 1)))), (2, .int (nI (Yn xs (i + 2))))]) (Q1 := (fun r2 h2 => r2 = some (.long x1) ∧ ∃ (g2 : Nat → Nat → Nat) (hl2 : Nat → Nat → Int64) (rt2 : Nat × Nat × Nat × Nat), h2 = HN g2 hl2 (RF rt2) ∧ Inv g2 hl2 rt2)) rfl rfl k2 (fun r h' hr => ?_)
  obtain ⟨rfl, g2, hl2, rt2, rfl, hV2⟩ := hr
  refine Ev.run 2 (pc' := (if lg_cmp x1 x1 = 0 then 1354 else 922)) (lv' := [(3, .int (nI i)), (2, .ref 166), (1, .ref 0), (0, .retAddr 0)]) (st' := []) (h' := HN g2 hl2 (RF rt2)) rfl ?_
  exact Ev.ite (fun _ => hT g2 hl2 rt2 hV2) (fun z => absurd (lg_self x1) z)
theorem LC_sheet {L : Nat} {xs : Nat → Int32} (d i : Nat) (hi : i + 6 ≤ L) (hL : L ≤ 3072) {g : Nat → Nat → Nat} {hl : Nat → Nat → Int64} {rt : Nat × Nat × Nat × Nat} (hV : Inv g hl rt) {Q : Po} (hT : LE L xs d i Q) : Ev L xs (d + 21) 0 924 [(3, .int (nI i)), (2, .ref 166), (1, .ref 0), (0, .retAddr 0)] [] (HN g hl (RF rt)) Q := by
  have h31 : xLen L 0 < 2 ^ 31 := by show L < 2 ^ 31; omega
  refine Ev.run 1 (pc' := 925) (lv' := [(3, .int (nI i)), (2, .ref 166), (1, .ref 0), (0, .retAddr 0)]) (st' := [.ref 0]) (h' := HN g hl (RF rt)) rfl ?_
  refine Ev.run 4 (pc' := 929) (lv' := [(3, .int (nI i)), (2, .ref 166), (1, .ref 0), (0, .retAddr 0)]) (st' := [.int (nI i + nI 1), .retAddr 0, .ref 0]) (h' := HN g hl (RF rt)) rfl ?_
  refine Ev.topI (nI_add _ _) ?_
  refine Ev_xald rfl (by decide) (show i + 1 < L by omega) h31 ?_
  refine Ev.topI (Yn_eq xs (i + 1)) ?_
  refine Ev.call (a := 102) (as := [.ref 0, .int (nI (Yn xs (i + 1)))]) (rest := []) (lv0 := [(0, .ref 0), (1, .int (nI (Yn xs (i + 1))))]) (Q1 := (fun r h' => (∃ (v : Value) (g1 : Nat → Nat → Nat) (hl1 : Nat → Nat → Int64) (rt1 : Nat × Nat × Nat × Nat), r = some v ∧ h' = HN g1 hl1 (RF rt1) ∧ Ev L xs (d + 20) 218 0 [(0, .ref 166), (1, .int (nI (Yn xs (i + 1))))] [] (HN g1 hl1 (RF rt1)) (fun r2 h2 => r2 = some v ∧ ∃ (g2 : Nat → Nat → Nat) (hl2 : Nat → Nat → Int64) (rt2 : Nat × Nat × Nat × Nat), h2 = HN g2 hl2 (RF rt2) ∧ Inv g2 hl2 rt2)) ∧ ∃ x, r = some (.int x))) rfl rfl (Ev.int (by decide) (Or.inl rfl) (S_sheet d (Yn xs (i + 1)) (Yn_lt xs (i + 1)) g hl rt hV)) (fun r h' hr => ?_)
  obtain ⟨⟨v, g1, hl1, rt1, rfl, rfl, k2⟩, x1, e1⟩ := hr
  injection e1 with e1
  subst e1
  refine Ev.run 1 (pc' := 934) (lv' := [(3, .int (nI i)), (2, .ref 166), (1, .ref 0), (0, .retAddr 0)]) (st' := [.ref 166, .int x1]) (h' := HN g1 hl1 (RF rt1)) rfl ?_
  refine Ev.run 4 (pc' := 938) (lv' := [(3, .int (nI i)), (2, .ref 166), (1, .ref 0), (0, .retAddr 0)]) (st' := [.int (nI i + nI 1), .retAddr 0, .ref 166, .int x1]) (h' := HN g1 hl1 (RF rt1)) rfl ?_
  refine Ev.topI (nI_add _ _) ?_
  refine Ev_xald rfl (by decide) (show i + 1 < L by omega) h31 ?_
  refine Ev.topI (Yn_eq xs (i + 1)) ?_
  refine Ev.call (a := 218) (as := [.ref 166, .int (nI (Yn xs (i + 1)))]) (rest := [.int x1]) (lv0 := [(0, .ref 166), (1, .int (nI (Yn xs (i + 1))))]) (Q1 := (fun r2 h2 => r2 = some (.int x1) ∧ ∃ (g2 : Nat → Nat → Nat) (hl2 : Nat → Nat → Int64) (rt2 : Nat × Nat × Nat × Nat), h2 = HN g2 hl2 (RF rt2) ∧ Inv g2 hl2 rt2)) rfl rfl k2 (fun r h' hr => ?_)
  obtain ⟨rfl, g2, hl2, rt2, rfl, hV2⟩ := hr
  refine Ev.run 1 (pc' := (if x1 = x1 then 1354 else 945)) (lv' := [(3, .int (nI i)), (2, .ref 166), (1, .ref 0), (0, .retAddr 0)]) (st' := []) (h' := HN g2 hl2 (RF rt2)) rfl ?_
  exact Ev.ite (fun _ => hT g2 hl2 rt2 hV2) (fun z => absurd rfl z)
theorem LC_looked {L : Nat} {xs : Nat → Int32} (d i : Nat) (hi : i + 6 ≤ L) (hL : L ≤ 3072) {g : Nat → Nat → Nat} {hl : Nat → Nat → Int64} {rt : Nat × Nat × Nat × Nat} (hV : Inv g hl rt) {Q : Po} (hT : LE L xs d i Q) : Ev L xs (d + 21) 0 947 [(3, .int (nI i)), (2, .ref 166), (1, .ref 0), (0, .retAddr 0)] [] (HN g hl (RF rt)) Q := by
  have h31 : xLen L 0 < 2 ^ 31 := by show L < 2 ^ 31; omega
  refine Ev.run 1 (pc' := 948) (lv' := [(3, .int (nI i)), (2, .ref 166), (1, .ref 0), (0, .retAddr 0)]) (st' := [.ref 0]) (h' := HN g hl (RF rt)) rfl ?_
  refine Ev.call (a := 103) (as := [.ref 0]) (rest := []) (lv0 := [(0, .ref 0)]) (Q1 := (fun r h' => (∃ (v : Value) (g1 : Nat → Nat → Nat) (hl1 : Nat → Nat → Int64) (rt1 : Nat × Nat × Nat × Nat), r = some v ∧ h' = HN g1 hl1 (RF rt1) ∧ Ev L xs (d + 20) 219 0 [(0, .ref 166)] [] (HN g1 hl1 (RF rt1)) (fun r2 h2 => r2 = some v ∧ ∃ (g2 : Nat → Nat → Nat) (hl2 : Nat → Nat → Int64) (rt2 : Nat × Nat × Nat × Nat), h2 = HN g2 hl2 (RF rt2) ∧ Inv g2 hl2 rt2)) ∧ ∃ x, r = some (.int x))) rfl rfl (Ev.int (by decide) (Or.inl rfl) (S_looked d   g hl rt hV)) (fun r h' hr => ?_)
  obtain ⟨⟨v, g1, hl1, rt1, rfl, rfl, k2⟩, x1, e1⟩ := hr
  injection e1 with e1
  subst e1
  refine Ev.run 1 (pc' := 952) (lv' := [(3, .int (nI i)), (2, .ref 166), (1, .ref 0), (0, .retAddr 0)]) (st' := [.ref 166, .int x1]) (h' := HN g1 hl1 (RF rt1)) rfl ?_
  refine Ev.call (a := 219) (as := [.ref 166]) (rest := [.int x1]) (lv0 := [(0, .ref 166)]) (Q1 := (fun r2 h2 => r2 = some (.int x1) ∧ ∃ (g2 : Nat → Nat → Nat) (hl2 : Nat → Nat → Int64) (rt2 : Nat × Nat × Nat × Nat), h2 = HN g2 hl2 (RF rt2) ∧ Inv g2 hl2 rt2)) rfl rfl k2 (fun r h' hr => ?_)
  obtain ⟨rfl, g2, hl2, rt2, rfl, hV2⟩ := hr
  refine Ev.run 1 (pc' := (if x1 = x1 then 1354 else 958)) (lv' := [(3, .int (nI i)), (2, .ref 166), (1, .ref 0), (0, .retAddr 0)]) (st' := []) (h' := HN g2 hl2 (RF rt2)) rfl ?_
  exact Ev.ite (fun _ => hT g2 hl2 rt2 hV2) (fun z => absurd rfl z)
theorem LC_judge {L : Nat} {xs : Nat → Int32} (d i : Nat) (hi : i + 6 ≤ L) (hL : L ≤ 3072) {g : Nat → Nat → Nat} {hl : Nat → Nat → Int64} {rt : Nat × Nat × Nat × Nat} (hV : Inv g hl rt) {Q : Po} (hT : LE L xs d i Q) : Ev L xs (d + 21) 0 960 [(3, .int (nI i)), (2, .ref 166), (1, .ref 0), (0, .retAddr 0)] [] (HN g hl (RF rt)) Q := by
  have h31 : xLen L 0 < 2 ^ 31 := by show L < 2 ^ 31; omega
  refine Ev.run 1 (pc' := 961) (lv' := [(3, .int (nI i)), (2, .ref 166), (1, .ref 0), (0, .retAddr 0)]) (st' := [.ref 0]) (h' := HN g hl (RF rt)) rfl ?_
  refine Ev.run 4 (pc' := 965) (lv' := [(3, .int (nI i)), (2, .ref 166), (1, .ref 0), (0, .retAddr 0)]) (st' := [.int (nI i + nI 1), .retAddr 0, .ref 0]) (h' := HN g hl (RF rt)) rfl ?_
  refine Ev.topI (nI_add _ _) ?_
  refine Ev_xald rfl (by decide) (show i + 1 < L by omega) h31 ?_
  refine Ev.topI (Yn_eq xs (i + 1)) ?_
  refine Ev.run 4 (pc' := 970) (lv' := [(3, .int (nI i)), (2, .ref 166), (1, .ref 0), (0, .retAddr 0)]) (st' := [.int (nI i + nI 2), .retAddr 0, .int (nI (Yn xs (i + 1))), .ref 0]) (h' := HN g hl (RF rt)) rfl ?_
  refine Ev.topI (nI_add _ _) ?_
  refine Ev_xald rfl (by decide) (show i + 2 < L by omega) h31 ?_
  refine Ev.topI (Yn_eq xs (i + 2)) ?_
  refine Ev.call (a := 104) (as := [.ref 0, .int (nI (Yn xs (i + 1))), .int (nI (Yn xs (i + 2)))]) (rest := []) (lv0 := [(0, .ref 0), (1, .int (nI (Yn xs (i + 1)))), (2, .int (nI (Yn xs (i + 2))))]) (Q1 := (fun r h' => (∃ (v : Value) (g1 : Nat → Nat → Nat) (hl1 : Nat → Nat → Int64) (rt1 : Nat × Nat × Nat × Nat), r = some v ∧ h' = HN g1 hl1 (RF rt1) ∧ Ev L xs (d + 20) 220 0 [(0, .ref 166), (1, .int (nI (Yn xs (i + 1)))), (2, .int (nI (Yn xs (i + 2))))] [] (HN g1 hl1 (RF rt1)) (fun r2 h2 => r2 = some v ∧ ∃ (g2 : Nat → Nat → Nat) (hl2 : Nat → Nat → Int64) (rt2 : Nat × Nat × Nat × Nat), h2 = HN g2 hl2 (RF rt2) ∧ Inv g2 hl2 rt2)) ∧ ∃ x, r = some (.int x))) rfl rfl (Ev.int (by decide) (Or.inl rfl) (S_judge d (Yn xs (i + 1)) (Yn xs (i + 2)) (Yn_lt xs (i + 1)) (Yn_lt xs (i + 2)) g hl rt hV)) (fun r h' hr => ?_)
  obtain ⟨⟨v, g1, hl1, rt1, rfl, rfl, k2⟩, x1, e1⟩ := hr
  injection e1 with e1
  subst e1
  refine Ev.run 1 (pc' := 975) (lv' := [(3, .int (nI i)), (2, .ref 166), (1, .ref 0), (0, .retAddr 0)]) (st' := [.ref 166, .int x1]) (h' := HN g1 hl1 (RF rt1)) rfl ?_
  refine Ev.run 4 (pc' := 979) (lv' := [(3, .int (nI i)), (2, .ref 166), (1, .ref 0), (0, .retAddr 0)]) (st' := [.int (nI i + nI 1), .retAddr 0, .ref 166, .int x1]) (h' := HN g1 hl1 (RF rt1)) rfl ?_
  refine Ev.topI (nI_add _ _) ?_
  refine Ev_xald rfl (by decide) (show i + 1 < L by omega) h31 ?_
  refine Ev.topI (Yn_eq xs (i + 1)) ?_
  refine Ev.run 4 (pc' := 984) (lv' := [(3, .int (nI i)), (2, .ref 166), (1, .ref 0), (0, .retAddr 0)]) (st' := [.int (nI i + nI 2), .retAddr 0, .int (nI (Yn xs (i + 1))), .ref 166, .int x1]) (h' := HN g1 hl1 (RF rt1)) rfl ?_
  refine Ev.topI (nI_add _ _) ?_
  refine Ev_xald rfl (by decide) (show i + 2 < L by omega) h31 ?_
  refine Ev.topI (Yn_eq xs (i + 2)) ?_
  refine Ev.call (a := 220) (as := [.ref 166, .int (nI (Yn xs (i + 1))), .int (nI (Yn xs (i + 2)))]) (rest := [.int x1]) (lv0 := [(0, .ref 166), (1, .int (nI (Yn xs (i + 1)))), (2, .int (nI (Yn xs (i + 2))))]) (Q1 := (fun r2 h2 => r2 = some (.int x1) ∧ ∃ (g2 : Nat → Nat → Nat) (hl2 : Nat → Nat → Int64) (rt2 : Nat × Nat × Nat × Nat), h2 = HN g2 hl2 (RF rt2) ∧ Inv g2 hl2 rt2)) rfl rfl k2 (fun r h' hr => ?_)
  obtain ⟨rfl, g2, hl2, rt2, rfl, hV2⟩ := hr
  refine Ev.run 1 (pc' := (if x1 = x1 then 1354 else 991)) (lv' := [(3, .int (nI i)), (2, .ref 166), (1, .ref 0), (0, .retAddr 0)]) (st' := []) (h' := HN g2 hl2 (RF rt2)) rfl ?_
  exact Ev.ite (fun _ => hT g2 hl2 rt2 hV2) (fun z => absurd rfl z)
theorem LC_image {L : Nat} {xs : Nat → Int32} (d i : Nat) (hi : i + 6 ≤ L) (hL : L ≤ 3072) {g : Nat → Nat → Nat} {hl : Nat → Nat → Int64} {rt : Nat × Nat × Nat × Nat} (hV : Inv g hl rt) {Q : Po} (hT : LE L xs d i Q) : Ev L xs (d + 21) 0 993 [(3, .int (nI i)), (2, .ref 166), (1, .ref 0), (0, .retAddr 0)] [] (HN g hl (RF rt)) Q := by
  have h31 : xLen L 0 < 2 ^ 31 := by show L < 2 ^ 31; omega
  refine Ev.run 1 (pc' := 994) (lv' := [(3, .int (nI i)), (2, .ref 166), (1, .ref 0), (0, .retAddr 0)]) (st' := [.ref 0]) (h' := HN g hl (RF rt)) rfl ?_
  refine Ev.call (a := 105) (as := [.ref 0]) (rest := []) (lv0 := [(0, .ref 0)]) (Q1 := (fun r h' => (∃ (v : Value) (g1 : Nat → Nat → Nat) (hl1 : Nat → Nat → Int64) (rt1 : Nat × Nat × Nat × Nat), r = some v ∧ h' = HN g1 hl1 (RF rt1) ∧ Ev L xs (d + 20) 221 0 [(0, .ref 166)] [] (HN g1 hl1 (RF rt1)) (fun r2 h2 => r2 = some v ∧ ∃ (g2 : Nat → Nat → Nat) (hl2 : Nat → Nat → Int64) (rt2 : Nat × Nat × Nat × Nat), h2 = HN g2 hl2 (RF rt2) ∧ Inv g2 hl2 rt2)) ∧ ∃ x, r = some (.int x))) rfl rfl (Ev.int (by decide) (Or.inl rfl) (S_image d   g hl rt hV)) (fun r h' hr => ?_)
  obtain ⟨⟨v, g1, hl1, rt1, rfl, rfl, k2⟩, x1, e1⟩ := hr
  injection e1 with e1
  subst e1
  refine Ev.run 1 (pc' := 998) (lv' := [(3, .int (nI i)), (2, .ref 166), (1, .ref 0), (0, .retAddr 0)]) (st' := [.ref 166, .int x1]) (h' := HN g1 hl1 (RF rt1)) rfl ?_
  refine Ev.call (a := 221) (as := [.ref 166]) (rest := [.int x1]) (lv0 := [(0, .ref 166)]) (Q1 := (fun r2 h2 => r2 = some (.int x1) ∧ ∃ (g2 : Nat → Nat → Nat) (hl2 : Nat → Nat → Int64) (rt2 : Nat × Nat × Nat × Nat), h2 = HN g2 hl2 (RF rt2) ∧ Inv g2 hl2 rt2)) rfl rfl k2 (fun r h' hr => ?_)
  obtain ⟨rfl, g2, hl2, rt2, rfl, hV2⟩ := hr
  refine Ev.run 1 (pc' := (if x1 = x1 then 1354 else 1004)) (lv' := [(3, .int (nI i)), (2, .ref 166), (1, .ref 0), (0, .retAddr 0)]) (st' := []) (h' := HN g2 hl2 (RF rt2)) rfl ?_
  exact Ev.ite (fun _ => hT g2 hl2 rt2 hV2) (fun z => absurd rfl z)
theorem LC_undo {L : Nat} {xs : Nat → Int32} (d i : Nat) (hi : i + 6 ≤ L) (hL : L ≤ 3072) {g : Nat → Nat → Nat} {hl : Nat → Nat → Int64} {rt : Nat × Nat × Nat × Nat} (hV : Inv g hl rt) {Q : Po} (hT : LE L xs d i Q) : Ev L xs (d + 21) 0 1006 [(3, .int (nI i)), (2, .ref 166), (1, .ref 0), (0, .retAddr 0)] [] (HN g hl (RF rt)) Q := by
  have h31 : xLen L 0 < 2 ^ 31 := by show L < 2 ^ 31; omega
  refine Ev.run 1 (pc' := 1007) (lv' := [(3, .int (nI i)), (2, .ref 166), (1, .ref 0), (0, .retAddr 0)]) (st' := [.ref 0]) (h' := HN g hl (RF rt)) rfl ?_
  refine Ev.call (a := 106) (as := [.ref 0]) (rest := []) (lv0 := [(0, .ref 0)]) (Q1 := (fun r h' => (∃ (v : Value) (g1 : Nat → Nat → Nat) (hl1 : Nat → Nat → Int64) (rt1 : Nat × Nat × Nat × Nat), r = some v ∧ h' = HN g1 hl1 (RF rt1) ∧ Ev L xs (d + 20) 222 0 [(0, .ref 166)] [] (HN g1 hl1 (RF rt1)) (fun r2 h2 => r2 = some v ∧ ∃ (g2 : Nat → Nat → Nat) (hl2 : Nat → Nat → Int64) (rt2 : Nat × Nat × Nat × Nat), h2 = HN g2 hl2 (RF rt2) ∧ Inv g2 hl2 rt2)) ∧ ∃ x, r = some (.int x))) rfl rfl (Ev.int (by decide) (Or.inl rfl) (S_undo d   g hl rt hV)) (fun r h' hr => ?_)
  obtain ⟨⟨v, g1, hl1, rt1, rfl, rfl, k2⟩, x1, e1⟩ := hr
  injection e1 with e1
  subst e1
  refine Ev.run 1 (pc' := 1011) (lv' := [(3, .int (nI i)), (2, .ref 166), (1, .ref 0), (0, .retAddr 0)]) (st' := [.ref 166, .int x1]) (h' := HN g1 hl1 (RF rt1)) rfl ?_
  refine Ev.call (a := 222) (as := [.ref 166]) (rest := [.int x1]) (lv0 := [(0, .ref 166)]) (Q1 := (fun r2 h2 => r2 = some (.int x1) ∧ ∃ (g2 : Nat → Nat → Nat) (hl2 : Nat → Nat → Int64) (rt2 : Nat × Nat × Nat × Nat), h2 = HN g2 hl2 (RF rt2) ∧ Inv g2 hl2 rt2)) rfl rfl k2 (fun r h' hr => ?_)
  obtain ⟨rfl, g2, hl2, rt2, rfl, hV2⟩ := hr
  refine Ev.run 1 (pc' := (if x1 = x1 then 1354 else 1017)) (lv' := [(3, .int (nI i)), (2, .ref 166), (1, .ref 0), (0, .retAddr 0)]) (st' := []) (h' := HN g2 hl2 (RF rt2)) rfl ?_
  exact Ev.ite (fun _ => hT g2 hl2 rt2 hV2) (fun z => absurd rfl z)
theorem LC_act {L : Nat} {xs : Nat → Int32} (d i : Nat) (hi : i + 6 ≤ L) (hL : L ≤ 3072) {g : Nat → Nat → Nat} {hl : Nat → Nat → Int64} {rt : Nat × Nat × Nat × Nat} (hV : Inv g hl rt) {Q : Po} (hT : LE L xs d i Q) : Ev L xs (d + 21) 0 1019 [(3, .int (nI i)), (2, .ref 166), (1, .ref 0), (0, .retAddr 0)] [] (HN g hl (RF rt)) Q := by
  have h31 : xLen L 0 < 2 ^ 31 := by show L < 2 ^ 31; omega
  refine Ev.run 1 (pc' := 1020) (lv' := [(3, .int (nI i)), (2, .ref 166), (1, .ref 0), (0, .retAddr 0)]) (st' := [.ref 0]) (h' := HN g hl (RF rt)) rfl ?_
  refine Ev.run 4 (pc' := 1024) (lv' := [(3, .int (nI i)), (2, .ref 166), (1, .ref 0), (0, .retAddr 0)]) (st' := [.int (nI i + nI 1), .retAddr 0, .ref 0]) (h' := HN g hl (RF rt)) rfl ?_
  refine Ev.topI (nI_add _ _) ?_
  refine Ev_xald rfl (by decide) (show i + 1 < L by omega) h31 ?_
  refine Ev.topI (Yn_eq xs (i + 1)) ?_
  refine Ev.run 4 (pc' := 1029) (lv' := [(3, .int (nI i)), (2, .ref 166), (1, .ref 0), (0, .retAddr 0)]) (st' := [.int (nI i + nI 2), .retAddr 0, .int (nI (Yn xs (i + 1))), .ref 0]) (h' := HN g hl (RF rt)) rfl ?_
  refine Ev.topI (nI_add _ _) ?_
  refine Ev_xald rfl (by decide) (show i + 2 < L by omega) h31 ?_
  refine Ev.topI (Yn_eq xs (i + 2)) ?_
  refine Ev.run 4 (pc' := 1034) (lv' := [(3, .int (nI i)), (2, .ref 166), (1, .ref 0), (0, .retAddr 0)]) (st' := [.int (nI i + nI 3), .retAddr 0, .int (nI (Yn xs (i + 2))), .int (nI (Yn xs (i + 1))), .ref 0]) (h' := HN g hl (RF rt)) rfl ?_
  refine Ev.topI (nI_add _ _) ?_
  refine Ev_xald rfl (by decide) (show i + 3 < L by omega) h31 ?_
  refine Ev.topI (Yn_eq xs (i + 3)) ?_
  refine Ev.call (a := 107) (as := [.ref 0, .int (nI (Yn xs (i + 1))), .int (nI (Yn xs (i + 2))), .int (nI (Yn xs (i + 3)))]) (rest := []) (lv0 := [(0, .ref 0), (1, .int (nI (Yn xs (i + 1)))), (2, .int (nI (Yn xs (i + 2)))), (3, .int (nI (Yn xs (i + 3))))]) (Q1 := (fun r h' => (∃ (v : Value) (g1 : Nat → Nat → Nat) (hl1 : Nat → Nat → Int64) (rt1 : Nat × Nat × Nat × Nat), r = some v ∧ h' = HN g1 hl1 (RF rt1) ∧ Ev L xs (d + 20) 231 0 [(0, .ref 166), (1, .int (nI (Yn xs (i + 1)))), (2, .int (nI (Yn xs (i + 2)))), (3, .int (nI (Yn xs (i + 3))))] [] (HN g1 hl1 (RF rt1)) (fun r2 h2 => r2 = some v ∧ ∃ (g2 : Nat → Nat → Nat) (hl2 : Nat → Nat → Int64) (rt2 : Nat × Nat × Nat × Nat), h2 = HN g2 hl2 (RF rt2) ∧ Inv g2 hl2 rt2)) ∧ ∃ x, r = some (.int x))) rfl rfl (Ev.int (by decide) (Or.inl rfl) (S_act d (Yn xs (i + 1)) (Yn xs (i + 2)) (nI (Yn xs (i + 3))) (Yn_lt xs (i + 1)) (Yn_lt xs (i + 2)) g hl rt hV)) (fun r h' hr => ?_)
  obtain ⟨⟨v, g1, hl1, rt1, rfl, rfl, k2⟩, x1, e1⟩ := hr
  injection e1 with e1
  subst e1
  refine Ev.run 1 (pc' := 1039) (lv' := [(3, .int (nI i)), (2, .ref 166), (1, .ref 0), (0, .retAddr 0)]) (st' := [.ref 166, .int x1]) (h' := HN g1 hl1 (RF rt1)) rfl ?_
  refine Ev.run 4 (pc' := 1043) (lv' := [(3, .int (nI i)), (2, .ref 166), (1, .ref 0), (0, .retAddr 0)]) (st' := [.int (nI i + nI 1), .retAddr 0, .ref 166, .int x1]) (h' := HN g1 hl1 (RF rt1)) rfl ?_
  refine Ev.topI (nI_add _ _) ?_
  refine Ev_xald rfl (by decide) (show i + 1 < L by omega) h31 ?_
  refine Ev.topI (Yn_eq xs (i + 1)) ?_
  refine Ev.run 4 (pc' := 1048) (lv' := [(3, .int (nI i)), (2, .ref 166), (1, .ref 0), (0, .retAddr 0)]) (st' := [.int (nI i + nI 2), .retAddr 0, .int (nI (Yn xs (i + 1))), .ref 166, .int x1]) (h' := HN g1 hl1 (RF rt1)) rfl ?_
  refine Ev.topI (nI_add _ _) ?_
  refine Ev_xald rfl (by decide) (show i + 2 < L by omega) h31 ?_
  refine Ev.topI (Yn_eq xs (i + 2)) ?_
  refine Ev.run 4 (pc' := 1053) (lv' := [(3, .int (nI i)), (2, .ref 166), (1, .ref 0), (0, .retAddr 0)]) (st' := [.int (nI i + nI 3), .retAddr 0, .int (nI (Yn xs (i + 2))), .int (nI (Yn xs (i + 1))), .ref 166, .int x1]) (h' := HN g1 hl1 (RF rt1)) rfl ?_
  refine Ev.topI (nI_add _ _) ?_
  refine Ev_xald rfl (by decide) (show i + 3 < L by omega) h31 ?_
  refine Ev.topI (Yn_eq xs (i + 3)) ?_
  refine Ev.call (a := 231) (as := [.ref 166, .int (nI (Yn xs (i + 1))), .int (nI (Yn xs (i + 2))), .int (nI (Yn xs (i + 3)))]) (rest := [.int x1]) (lv0 := [(0, .ref 166), (1, .int (nI (Yn xs (i + 1)))), (2, .int (nI (Yn xs (i + 2)))), (3, .int (nI (Yn xs (i + 3))))]) (Q1 := (fun r2 h2 => r2 = some (.int x1) ∧ ∃ (g2 : Nat → Nat → Nat) (hl2 : Nat → Nat → Int64) (rt2 : Nat × Nat × Nat × Nat), h2 = HN g2 hl2 (RF rt2) ∧ Inv g2 hl2 rt2)) rfl rfl k2 (fun r h' hr => ?_)
  obtain ⟨rfl, g2, hl2, rt2, rfl, hV2⟩ := hr
  refine Ev.run 1 (pc' := (if x1 = x1 then 1354 else 1060)) (lv' := [(3, .int (nI i)), (2, .ref 166), (1, .ref 0), (0, .retAddr 0)]) (st' := []) (h' := HN g2 hl2 (RF rt2)) rfl ?_
  exact Ev.ite (fun _ => hT g2 hl2 rt2 hV2) (fun z => absurd rfl z)
theorem LC_trace {L : Nat} {xs : Nat → Int32} (d i : Nat) (hi : i + 6 ≤ L) (hL : L ≤ 3072) {g : Nat → Nat → Nat} {hl : Nat → Nat → Int64} {rt : Nat × Nat × Nat × Nat} (hV : Inv g hl rt) {Q : Po} (hT : LE L xs d i Q) : Ev L xs (d + 21) 0 1062 [(3, .int (nI i)), (2, .ref 166), (1, .ref 0), (0, .retAddr 0)] [] (HN g hl (RF rt)) Q := by
  have h31 : xLen L 0 < 2 ^ 31 := by show L < 2 ^ 31; omega
  refine Ev.run 1 (pc' := 1063) (lv' := [(3, .int (nI i)), (2, .ref 166), (1, .ref 0), (0, .retAddr 0)]) (st' := [.ref 0]) (h' := HN g hl (RF rt)) rfl ?_
  refine Ev.run 4 (pc' := 1067) (lv' := [(3, .int (nI i)), (2, .ref 166), (1, .ref 0), (0, .retAddr 0)]) (st' := [.int (nI i + nI 1), .retAddr 0, .ref 0]) (h' := HN g hl (RF rt)) rfl ?_
  refine Ev.topI (nI_add _ _) ?_
  refine Ev_xald rfl (by decide) (show i + 1 < L by omega) h31 ?_
  refine Ev.topI (Yn_eq xs (i + 1)) ?_
  refine Ev.call (a := 108) (as := [.ref 0, .int (nI (Yn xs (i + 1)))]) (rest := []) (lv0 := [(0, .ref 0), (1, .int (nI (Yn xs (i + 1))))]) (Q1 := (fun r h' => (∃ (v : Value) (g1 : Nat → Nat → Nat) (hl1 : Nat → Nat → Int64) (rt1 : Nat × Nat × Nat × Nat), r = some v ∧ h' = HN g1 hl1 (RF rt1) ∧ Ev L xs (d + 20) 232 0 [(0, .ref 166), (1, .int (nI (Yn xs (i + 1))))] [] (HN g1 hl1 (RF rt1)) (fun r2 h2 => r2 = some v ∧ ∃ (g2 : Nat → Nat → Nat) (hl2 : Nat → Nat → Int64) (rt2 : Nat × Nat × Nat × Nat), h2 = HN g2 hl2 (RF rt2) ∧ Inv g2 hl2 rt2)) ∧ ∃ x, r = some (.int x))) rfl rfl (Ev.int (by decide) (Or.inl rfl) (S_trace d (Yn xs (i + 1)) (Yn_lt xs (i + 1)) g hl rt hV)) (fun r h' hr => ?_)
  obtain ⟨⟨v, g1, hl1, rt1, rfl, rfl, k2⟩, x1, e1⟩ := hr
  injection e1 with e1
  subst e1
  refine Ev.run 1 (pc' := 1072) (lv' := [(3, .int (nI i)), (2, .ref 166), (1, .ref 0), (0, .retAddr 0)]) (st' := [.ref 166, .int x1]) (h' := HN g1 hl1 (RF rt1)) rfl ?_
  refine Ev.run 4 (pc' := 1076) (lv' := [(3, .int (nI i)), (2, .ref 166), (1, .ref 0), (0, .retAddr 0)]) (st' := [.int (nI i + nI 1), .retAddr 0, .ref 166, .int x1]) (h' := HN g1 hl1 (RF rt1)) rfl ?_
  refine Ev.topI (nI_add _ _) ?_
  refine Ev_xald rfl (by decide) (show i + 1 < L by omega) h31 ?_
  refine Ev.topI (Yn_eq xs (i + 1)) ?_
  refine Ev.call (a := 232) (as := [.ref 166, .int (nI (Yn xs (i + 1)))]) (rest := [.int x1]) (lv0 := [(0, .ref 166), (1, .int (nI (Yn xs (i + 1))))]) (Q1 := (fun r2 h2 => r2 = some (.int x1) ∧ ∃ (g2 : Nat → Nat → Nat) (hl2 : Nat → Nat → Int64) (rt2 : Nat × Nat × Nat × Nat), h2 = HN g2 hl2 (RF rt2) ∧ Inv g2 hl2 rt2)) rfl rfl k2 (fun r h' hr => ?_)
  obtain ⟨rfl, g2, hl2, rt2, rfl, hV2⟩ := hr
  refine Ev.run 1 (pc' := (if x1 = x1 then 1354 else 1083)) (lv' := [(3, .int (nI i)), (2, .ref 166), (1, .ref 0), (0, .retAddr 0)]) (st' := []) (h' := HN g2 hl2 (RF rt2)) rfl ?_
  exact Ev.ite (fun _ => hT g2 hl2 rt2 hV2) (fun z => absurd rfl z)
theorem LC_taken {L : Nat} {xs : Nat → Int32} (d i : Nat) (hi : i + 6 ≤ L) (hL : L ≤ 3072) {g : Nat → Nat → Nat} {hl : Nat → Nat → Int64} {rt : Nat × Nat × Nat × Nat} (hV : Inv g hl rt) {Q : Po} (hT : LE L xs d i Q) : Ev L xs (d + 21) 0 1085 [(3, .int (nI i)), (2, .ref 166), (1, .ref 0), (0, .retAddr 0)] [] (HN g hl (RF rt)) Q := by
  have h31 : xLen L 0 < 2 ^ 31 := by show L < 2 ^ 31; omega
  refine Ev.run 1 (pc' := 1086) (lv' := [(3, .int (nI i)), (2, .ref 166), (1, .ref 0), (0, .retAddr 0)]) (st' := [.ref 0]) (h' := HN g hl (RF rt)) rfl ?_
  refine Ev.run 4 (pc' := 1090) (lv' := [(3, .int (nI i)), (2, .ref 166), (1, .ref 0), (0, .retAddr 0)]) (st' := [.int (nI i + nI 1), .retAddr 0, .ref 0]) (h' := HN g hl (RF rt)) rfl ?_
  refine Ev.topI (nI_add _ _) ?_
  refine Ev_xald rfl (by decide) (show i + 1 < L by omega) h31 ?_
  refine Ev.topI (Yn_eq xs (i + 1)) ?_
  refine Ev.run 4 (pc' := 1095) (lv' := [(3, .int (nI i)), (2, .ref 166), (1, .ref 0), (0, .retAddr 0)]) (st' := [.int (nI i + nI 2), .retAddr 0, .int (nI (Yn xs (i + 1))), .ref 0]) (h' := HN g hl (RF rt)) rfl ?_
  refine Ev.topI (nI_add _ _) ?_
  refine Ev_xald rfl (by decide) (show i + 2 < L by omega) h31 ?_
  refine Ev.topI (Yn_eq xs (i + 2)) ?_
  refine Ev.call (a := 109) (as := [.ref 0, .int (nI (Yn xs (i + 1))), .int (nI (Yn xs (i + 2)))]) (rest := []) (lv0 := [(0, .ref 0), (1, .int (nI (Yn xs (i + 1)))), (2, .int (nI (Yn xs (i + 2))))]) (Q1 := (fun r h' => (∃ (v : Value) (g1 : Nat → Nat → Nat) (hl1 : Nat → Nat → Int64) (rt1 : Nat × Nat × Nat × Nat), r = some v ∧ h' = HN g1 hl1 (RF rt1) ∧ Ev L xs (d + 20) 233 0 [(0, .ref 166), (1, .int (nI (Yn xs (i + 1)))), (2, .int (nI (Yn xs (i + 2))))] [] (HN g1 hl1 (RF rt1)) (fun r2 h2 => r2 = some v ∧ ∃ (g2 : Nat → Nat → Nat) (hl2 : Nat → Nat → Int64) (rt2 : Nat × Nat × Nat × Nat), h2 = HN g2 hl2 (RF rt2) ∧ Inv g2 hl2 rt2)) ∧ ∃ x, r = some (.int x))) rfl rfl (Ev.int (by decide) (Or.inl rfl) (S_taken d (Yn xs (i + 1)) (Yn xs (i + 2)) (Yn_lt xs (i + 1)) (Yn_lt xs (i + 2)) g hl rt hV)) (fun r h' hr => ?_)
  obtain ⟨⟨v, g1, hl1, rt1, rfl, rfl, k2⟩, x1, e1⟩ := hr
  injection e1 with e1
  subst e1
  refine Ev.run 1 (pc' := 1100) (lv' := [(3, .int (nI i)), (2, .ref 166), (1, .ref 0), (0, .retAddr 0)]) (st' := [.ref 166, .int x1]) (h' := HN g1 hl1 (RF rt1)) rfl ?_
  refine Ev.run 4 (pc' := 1104) (lv' := [(3, .int (nI i)), (2, .ref 166), (1, .ref 0), (0, .retAddr 0)]) (st' := [.int (nI i + nI 1), .retAddr 0, .ref 166, .int x1]) (h' := HN g1 hl1 (RF rt1)) rfl ?_
  refine Ev.topI (nI_add _ _) ?_
  refine Ev_xald rfl (by decide) (show i + 1 < L by omega) h31 ?_
  refine Ev.topI (Yn_eq xs (i + 1)) ?_
  refine Ev.run 4 (pc' := 1109) (lv' := [(3, .int (nI i)), (2, .ref 166), (1, .ref 0), (0, .retAddr 0)]) (st' := [.int (nI i + nI 2), .retAddr 0, .int (nI (Yn xs (i + 1))), .ref 166, .int x1]) (h' := HN g1 hl1 (RF rt1)) rfl ?_
  refine Ev.topI (nI_add _ _) ?_
  refine Ev_xald rfl (by decide) (show i + 2 < L by omega) h31 ?_
  refine Ev.topI (Yn_eq xs (i + 2)) ?_
  refine Ev.call (a := 233) (as := [.ref 166, .int (nI (Yn xs (i + 1))), .int (nI (Yn xs (i + 2)))]) (rest := [.int x1]) (lv0 := [(0, .ref 166), (1, .int (nI (Yn xs (i + 1)))), (2, .int (nI (Yn xs (i + 2))))]) (Q1 := (fun r2 h2 => r2 = some (.int x1) ∧ ∃ (g2 : Nat → Nat → Nat) (hl2 : Nat → Nat → Int64) (rt2 : Nat × Nat × Nat × Nat), h2 = HN g2 hl2 (RF rt2) ∧ Inv g2 hl2 rt2)) rfl rfl k2 (fun r h' hr => ?_)
  obtain ⟨rfl, g2, hl2, rt2, rfl, hV2⟩ := hr
  refine Ev.run 1 (pc' := (if x1 = x1 then 1354 else 1116)) (lv' := [(3, .int (nI i)), (2, .ref 166), (1, .ref 0), (0, .retAddr 0)]) (st' := []) (h' := HN g2 hl2 (RF rt2)) rfl ?_
  exact Ev.ite (fun _ => hT g2 hl2 rt2 hV2) (fun z => absurd rfl z)
theorem LC_count {L : Nat} {xs : Nat → Int32} (d i : Nat) (hi : i + 6 ≤ L) (hL : L ≤ 3072) {g : Nat → Nat → Nat} {hl : Nat → Nat → Int64} {rt : Nat × Nat × Nat × Nat} (hV : Inv g hl rt) {Q : Po} (hT : LE L xs d i Q) : Ev L xs (d + 21) 0 1118 [(3, .int (nI i)), (2, .ref 166), (1, .ref 0), (0, .retAddr 0)] [] (HN g hl (RF rt)) Q := by
  have h31 : xLen L 0 < 2 ^ 31 := by show L < 2 ^ 31; omega
  refine Ev.run 1 (pc' := 1119) (lv' := [(3, .int (nI i)), (2, .ref 166), (1, .ref 0), (0, .retAddr 0)]) (st' := [.ref 0]) (h' := HN g hl (RF rt)) rfl ?_
  refine Ev.run 4 (pc' := 1123) (lv' := [(3, .int (nI i)), (2, .ref 166), (1, .ref 0), (0, .retAddr 0)]) (st' := [.int (nI i + nI 1), .retAddr 0, .ref 0]) (h' := HN g hl (RF rt)) rfl ?_
  refine Ev.topI (nI_add _ _) ?_
  refine Ev_xald rfl (by decide) (show i + 1 < L by omega) h31 ?_
  refine Ev.topI (Yn_eq xs (i + 1)) ?_
  refine Ev.call (a := 110) (as := [.ref 0, .int (nI (Yn xs (i + 1)))]) (rest := []) (lv0 := [(0, .ref 0), (1, .int (nI (Yn xs (i + 1))))]) (Q1 := (fun r h' => (∃ (v : Value) (g1 : Nat → Nat → Nat) (hl1 : Nat → Nat → Int64) (rt1 : Nat × Nat × Nat × Nat), r = some v ∧ h' = HN g1 hl1 (RF rt1) ∧ Ev L xs (d + 20) 234 0 [(0, .ref 166), (1, .int (nI (Yn xs (i + 1))))] [] (HN g1 hl1 (RF rt1)) (fun r2 h2 => r2 = some v ∧ ∃ (g2 : Nat → Nat → Nat) (hl2 : Nat → Nat → Int64) (rt2 : Nat × Nat × Nat × Nat), h2 = HN g2 hl2 (RF rt2) ∧ Inv g2 hl2 rt2)) ∧ ∃ x, r = some (.int x))) rfl rfl (Ev.int (by decide) (Or.inl rfl) (S_count d (Yn xs (i + 1)) (Yn_lt xs (i + 1)) g hl rt hV)) (fun r h' hr => ?_)
  obtain ⟨⟨v, g1, hl1, rt1, rfl, rfl, k2⟩, x1, e1⟩ := hr
  injection e1 with e1
  subst e1
  refine Ev.run 1 (pc' := 1128) (lv' := [(3, .int (nI i)), (2, .ref 166), (1, .ref 0), (0, .retAddr 0)]) (st' := [.ref 166, .int x1]) (h' := HN g1 hl1 (RF rt1)) rfl ?_
  refine Ev.run 4 (pc' := 1132) (lv' := [(3, .int (nI i)), (2, .ref 166), (1, .ref 0), (0, .retAddr 0)]) (st' := [.int (nI i + nI 1), .retAddr 0, .ref 166, .int x1]) (h' := HN g1 hl1 (RF rt1)) rfl ?_
  refine Ev.topI (nI_add _ _) ?_
  refine Ev_xald rfl (by decide) (show i + 1 < L by omega) h31 ?_
  refine Ev.topI (Yn_eq xs (i + 1)) ?_
  refine Ev.call (a := 234) (as := [.ref 166, .int (nI (Yn xs (i + 1)))]) (rest := [.int x1]) (lv0 := [(0, .ref 166), (1, .int (nI (Yn xs (i + 1))))]) (Q1 := (fun r2 h2 => r2 = some (.int x1) ∧ ∃ (g2 : Nat → Nat → Nat) (hl2 : Nat → Nat → Int64) (rt2 : Nat × Nat × Nat × Nat), h2 = HN g2 hl2 (RF rt2) ∧ Inv g2 hl2 rt2)) rfl rfl k2 (fun r h' hr => ?_)
  obtain ⟨rfl, g2, hl2, rt2, rfl, hV2⟩ := hr
  refine Ev.run 1 (pc' := (if x1 = x1 then 1354 else 1139)) (lv' := [(3, .int (nI i)), (2, .ref 166), (1, .ref 0), (0, .retAddr 0)]) (st' := []) (h' := HN g2 hl2 (RF rt2)) rfl ?_
  exact Ev.ite (fun _ => hT g2 hl2 rt2 hV2) (fun z => absurd rfl z)
theorem LC_tape {L : Nat} {xs : Nat → Int32} (d i : Nat) (hi : i + 6 ≤ L) (hL : L ≤ 3072) {g : Nat → Nat → Nat} {hl : Nat → Nat → Int64} {rt : Nat × Nat × Nat × Nat} (hV : Inv g hl rt) {Q : Po} (hT : LE L xs d i Q) : Ev L xs (d + 21) 0 1141 [(3, .int (nI i)), (2, .ref 166), (1, .ref 0), (0, .retAddr 0)] [] (HN g hl (RF rt)) Q := by
  have h31 : xLen L 0 < 2 ^ 31 := by show L < 2 ^ 31; omega
  refine Ev.run 1 (pc' := 1142) (lv' := [(3, .int (nI i)), (2, .ref 166), (1, .ref 0), (0, .retAddr 0)]) (st' := [.ref 0]) (h' := HN g hl (RF rt)) rfl ?_
  refine Ev.run 4 (pc' := 1146) (lv' := [(3, .int (nI i)), (2, .ref 166), (1, .ref 0), (0, .retAddr 0)]) (st' := [.int (nI i + nI 1), .retAddr 0, .ref 0]) (h' := HN g hl (RF rt)) rfl ?_
  refine Ev.topI (nI_add _ _) ?_
  refine Ev_xald rfl (by decide) (show i + 1 < L by omega) h31 ?_
  refine Ev.topI (Yn_eq xs (i + 1)) ?_
  refine Ev.run 4 (pc' := 1151) (lv' := [(3, .int (nI i)), (2, .ref 166), (1, .ref 0), (0, .retAddr 0)]) (st' := [.int (nI i + nI 2), .retAddr 0, .int (nI (Yn xs (i + 1))), .ref 0]) (h' := HN g hl (RF rt)) rfl ?_
  refine Ev.topI (nI_add _ _) ?_
  refine Ev_xald rfl (by decide) (show i + 2 < L by omega) h31 ?_
  refine Ev.topI (Yn_eq xs (i + 2)) ?_
  refine Ev.run 4 (pc' := 1156) (lv' := [(3, .int (nI i)), (2, .ref 166), (1, .ref 0), (0, .retAddr 0)]) (st' := [.int (nI i + nI 3), .retAddr 0, .int (nI (Yn xs (i + 2))), .int (nI (Yn xs (i + 1))), .ref 0]) (h' := HN g hl (RF rt)) rfl ?_
  refine Ev.topI (nI_add _ _) ?_
  refine Ev_xald rfl (by decide) (show i + 3 < L by omega) h31 ?_
  refine Ev.topI (Yn_eq xs (i + 3)) ?_
  refine Ev.call (a := 111) (as := [.ref 0, .int (nI (Yn xs (i + 1))), .int (nI (Yn xs (i + 2))), .int (nI (Yn xs (i + 3)))]) (rest := []) (lv0 := [(0, .ref 0), (1, .int (nI (Yn xs (i + 1)))), (2, .int (nI (Yn xs (i + 2)))), (3, .int (nI (Yn xs (i + 3))))]) (Q1 := (fun r h' => (∃ (v : Value) (g1 : Nat → Nat → Nat) (hl1 : Nat → Nat → Int64) (rt1 : Nat × Nat × Nat × Nat), r = some v ∧ h' = HN g1 hl1 (RF rt1) ∧ Ev L xs (d + 20) 236 0 [(0, .ref 166), (1, .int (nI (Yn xs (i + 1)))), (2, .int (nI (Yn xs (i + 2)))), (3, .int (nI (Yn xs (i + 3))))] [] (HN g1 hl1 (RF rt1)) (fun r2 h2 => r2 = some v ∧ ∃ (g2 : Nat → Nat → Nat) (hl2 : Nat → Nat → Int64) (rt2 : Nat × Nat × Nat × Nat), h2 = HN g2 hl2 (RF rt2) ∧ Inv g2 hl2 rt2)) ∧ ∃ x, r = some (.int x))) rfl rfl (Ev.int (by decide) (Or.inl rfl) (S_tape d (Yn xs (i + 1)) (Yn xs (i + 2)) (Yn xs (i + 3)) (Yn_lt xs (i + 1)) (Yn_lt xs (i + 2)) (Yn_lt xs (i + 3)) g hl rt hV)) (fun r h' hr => ?_)
  obtain ⟨⟨v, g1, hl1, rt1, rfl, rfl, k2⟩, x1, e1⟩ := hr
  injection e1 with e1
  subst e1
  refine Ev.run 1 (pc' := 1161) (lv' := [(3, .int (nI i)), (2, .ref 166), (1, .ref 0), (0, .retAddr 0)]) (st' := [.ref 166, .int x1]) (h' := HN g1 hl1 (RF rt1)) rfl ?_
  refine Ev.run 4 (pc' := 1165) (lv' := [(3, .int (nI i)), (2, .ref 166), (1, .ref 0), (0, .retAddr 0)]) (st' := [.int (nI i + nI 1), .retAddr 0, .ref 166, .int x1]) (h' := HN g1 hl1 (RF rt1)) rfl ?_
  refine Ev.topI (nI_add _ _) ?_
  refine Ev_xald rfl (by decide) (show i + 1 < L by omega) h31 ?_
  refine Ev.topI (Yn_eq xs (i + 1)) ?_
  refine Ev.run 4 (pc' := 1170) (lv' := [(3, .int (nI i)), (2, .ref 166), (1, .ref 0), (0, .retAddr 0)]) (st' := [.int (nI i + nI 2), .retAddr 0, .int (nI (Yn xs (i + 1))), .ref 166, .int x1]) (h' := HN g1 hl1 (RF rt1)) rfl ?_
  refine Ev.topI (nI_add _ _) ?_
  refine Ev_xald rfl (by decide) (show i + 2 < L by omega) h31 ?_
  refine Ev.topI (Yn_eq xs (i + 2)) ?_
  refine Ev.run 4 (pc' := 1175) (lv' := [(3, .int (nI i)), (2, .ref 166), (1, .ref 0), (0, .retAddr 0)]) (st' := [.int (nI i + nI 3), .retAddr 0, .int (nI (Yn xs (i + 2))), .int (nI (Yn xs (i + 1))), .ref 166, .int x1]) (h' := HN g1 hl1 (RF rt1)) rfl ?_
  refine Ev.topI (nI_add _ _) ?_
  refine Ev_xald rfl (by decide) (show i + 3 < L by omega) h31 ?_
  refine Ev.topI (Yn_eq xs (i + 3)) ?_
  refine Ev.call (a := 236) (as := [.ref 166, .int (nI (Yn xs (i + 1))), .int (nI (Yn xs (i + 2))), .int (nI (Yn xs (i + 3)))]) (rest := [.int x1]) (lv0 := [(0, .ref 166), (1, .int (nI (Yn xs (i + 1)))), (2, .int (nI (Yn xs (i + 2)))), (3, .int (nI (Yn xs (i + 3))))]) (Q1 := (fun r2 h2 => r2 = some (.int x1) ∧ ∃ (g2 : Nat → Nat → Nat) (hl2 : Nat → Nat → Int64) (rt2 : Nat × Nat × Nat × Nat), h2 = HN g2 hl2 (RF rt2) ∧ Inv g2 hl2 rt2)) rfl rfl k2 (fun r h' hr => ?_)
  obtain ⟨rfl, g2, hl2, rt2, rfl, hV2⟩ := hr
  refine Ev.run 1 (pc' := (if x1 = x1 then 1354 else 1182)) (lv' := [(3, .int (nI i)), (2, .ref 166), (1, .ref 0), (0, .retAddr 0)]) (st' := []) (h' := HN g2 hl2 (RF rt2)) rfl ?_
  exact Ev.ite (fun _ => hT g2 hl2 rt2 hV2) (fun z => absurd rfl z)
theorem LC_item {L : Nat} {xs : Nat → Int32} (d i : Nat) (hi : i + 6 ≤ L) (hL : L ≤ 3072) {g : Nat → Nat → Nat} {hl : Nat → Nat → Int64} {rt : Nat × Nat × Nat × Nat} (hV : Inv g hl rt) {Q : Po} (hT : LE L xs d i Q) : Ev L xs (d + 21) 0 1184 [(3, .int (nI i)), (2, .ref 166), (1, .ref 0), (0, .retAddr 0)] [] (HN g hl (RF rt)) Q := by
  have h31 : xLen L 0 < 2 ^ 31 := by show L < 2 ^ 31; omega
  refine Ev.run 1 (pc' := 1185) (lv' := [(3, .int (nI i)), (2, .ref 166), (1, .ref 0), (0, .retAddr 0)]) (st' := [.ref 0]) (h' := HN g hl (RF rt)) rfl ?_
  refine Ev.run 4 (pc' := 1189) (lv' := [(3, .int (nI i)), (2, .ref 166), (1, .ref 0), (0, .retAddr 0)]) (st' := [.int (nI i + nI 1), .retAddr 0, .ref 0]) (h' := HN g hl (RF rt)) rfl ?_
  refine Ev.topI (nI_add _ _) ?_
  refine Ev_xald rfl (by decide) (show i + 1 < L by omega) h31 ?_
  refine Ev.topI (Yn_eq xs (i + 1)) ?_
  refine Ev.run 4 (pc' := 1194) (lv' := [(3, .int (nI i)), (2, .ref 166), (1, .ref 0), (0, .retAddr 0)]) (st' := [.int (nI i + nI 2), .retAddr 0, .int (nI (Yn xs (i + 1))), .ref 0]) (h' := HN g hl (RF rt)) rfl ?_
  refine Ev.topI (nI_add _ _) ?_
  refine Ev_xald rfl (by decide) (show i + 2 < L by omega) h31 ?_
  refine Ev.topI (Yn_eq xs (i + 2)) ?_
  refine Ev.run 4 (pc' := 1199) (lv' := [(3, .int (nI i)), (2, .ref 166), (1, .ref 0), (0, .retAddr 0)]) (st' := [.int (nI i + nI 3), .retAddr 0, .int (nI (Yn xs (i + 2))), .int (nI (Yn xs (i + 1))), .ref 0]) (h' := HN g hl (RF rt)) rfl ?_
  refine Ev.topI (nI_add _ _) ?_
  refine Ev_xald rfl (by decide) (show i + 3 < L by omega) h31 ?_
  refine Ev.topI (Yn_eq xs (i + 3)) ?_
  refine Ev.run 3 (pc' := 1204) (lv' := [(3, .int (nI i)), (2, .ref 166), (1, .ref 0), (0, .retAddr 0)]) (st' := [.long ((nI (Yn xs (i + 3))).toInt64 <<< ((nI 32).toInt64 &&& 63)), .int (nI (Yn xs (i + 2))), .int (nI (Yn xs (i + 1))), .ref 0]) (h' := HN g hl (RF rt)) rfl ?_
  refine Ev.run 4 (pc' := 1208) (lv' := [(3, .int (nI i)), (2, .ref 166), (1, .ref 0), (0, .retAddr 0)]) (st' := [.int (nI i + nI 4), .retAddr 0, .long ((nI (Yn xs (i + 3))).toInt64 <<< ((nI 32).toInt64 &&& 63)), .int (nI (Yn xs (i + 2))), .int (nI (Yn xs (i + 1))), .ref 0]) (h' := HN g hl (RF rt)) rfl ?_
  refine Ev.topI (nI_add _ _) ?_
  refine Ev_xald rfl (by decide) (show i + 4 < L by omega) h31 ?_
  refine Ev.topI (Yn_eq xs (i + 4)) ?_
  refine Ev.run 4 (pc' := 1215) (lv' := [(3, .int (nI i)), (2, .ref 166), (1, .ref 0), (0, .retAddr 0)]) (st' := [.long (((nI (Yn xs (i + 3))).toInt64 <<< ((nI 32).toInt64 &&& 63)) ||| ((nI (Yn xs (i + 4))).toInt64 &&& Int64.ofNat 4294967295)), .int (nI (Yn xs (i + 2))), .int (nI (Yn xs (i + 1))), .ref 0]) (h' := HN g hl (RF rt)) rfl ?_
  refine Ev.call (a := 112) (as := [.ref 0, .int (nI (Yn xs (i + 1))), .int (nI (Yn xs (i + 2))), .long (((nI (Yn xs (i + 3))).toInt64 <<< ((nI 32).toInt64 &&& 63)) ||| ((nI (Yn xs (i + 4))).toInt64 &&& Int64.ofNat 4294967295))]) (rest := []) (lv0 := [(0, .ref 0), (1, .int (nI (Yn xs (i + 1)))), (2, .int (nI (Yn xs (i + 2)))), (3, .long (((nI (Yn xs (i + 3))).toInt64 <<< ((nI 32).toInt64 &&& 63)) ||| ((nI (Yn xs (i + 4))).toInt64 &&& Int64.ofNat 4294967295)))]) (Q1 := (fun r h' => (∃ (v : Value) (g1 : Nat → Nat → Nat) (hl1 : Nat → Nat → Int64) (rt1 : Nat × Nat × Nat × Nat), r = some v ∧ h' = HN g1 hl1 (RF rt1) ∧ Ev L xs (d + 20) 238 0 [(0, .ref 166), (1, .int (nI (Yn xs (i + 1)))), (2, .int (nI (Yn xs (i + 2)))), (3, .long (((nI (Yn xs (i + 3))).toInt64 <<< ((nI 32).toInt64 &&& 63)) ||| ((nI (Yn xs (i + 4))).toInt64 &&& Int64.ofNat 4294967295)))] [] (HN g1 hl1 (RF rt1)) (fun r2 h2 => r2 = some v ∧ ∃ (g2 : Nat → Nat → Nat) (hl2 : Nat → Nat → Int64) (rt2 : Nat × Nat × Nat × Nat), h2 = HN g2 hl2 (RF rt2) ∧ Inv g2 hl2 rt2)) ∧ ∃ x, r = some (.int x))) rfl rfl (Ev.int (by decide) (Or.inl rfl) (S_item d (Yn xs (i + 1)) (Yn xs (i + 2)) (Yn_lt xs (i + 1)) (Yn_lt xs (i + 2)) _ g hl rt hV)) (fun r h' hr => ?_)
  obtain ⟨⟨v, g1, hl1, rt1, rfl, rfl, k2⟩, x1, e1⟩ := hr
  injection e1 with e1
  subst e1
  refine Ev.run 1 (pc' := 1219) (lv' := [(3, .int (nI i)), (2, .ref 166), (1, .ref 0), (0, .retAddr 0)]) (st' := [.ref 166, .int x1]) (h' := HN g1 hl1 (RF rt1)) rfl ?_
  refine Ev.run 4 (pc' := 1223) (lv' := [(3, .int (nI i)), (2, .ref 166), (1, .ref 0), (0, .retAddr 0)]) (st' := [.int (nI i + nI 1), .retAddr 0, .ref 166, .int x1]) (h' := HN g1 hl1 (RF rt1)) rfl ?_
  refine Ev.topI (nI_add _ _) ?_
  refine Ev_xald rfl (by decide) (show i + 1 < L by omega) h31 ?_
  refine Ev.topI (Yn_eq xs (i + 1)) ?_
  refine Ev.run 4 (pc' := 1228) (lv' := [(3, .int (nI i)), (2, .ref 166), (1, .ref 0), (0, .retAddr 0)]) (st' := [.int (nI i + nI 2), .retAddr 0, .int (nI (Yn xs (i + 1))), .ref 166, .int x1]) (h' := HN g1 hl1 (RF rt1)) rfl ?_
  refine Ev.topI (nI_add _ _) ?_
  refine Ev_xald rfl (by decide) (show i + 2 < L by omega) h31 ?_
  refine Ev.topI (Yn_eq xs (i + 2)) ?_
  refine Ev.run 4 (pc' := 1233) (lv' := [(3, .int (nI i)), (2, .ref 166), (1, .ref 0), (0, .retAddr 0)]) (st' := [.int (nI i + nI 3), .retAddr 0, .int (nI (Yn xs (i + 2))), .int (nI (Yn xs (i + 1))), .ref 166, .int x1]) (h' := HN g1 hl1 (RF rt1)) rfl ?_
  refine Ev.topI (nI_add _ _) ?_
  refine Ev_xald rfl (by decide) (show i + 3 < L by omega) h31 ?_
  refine Ev.topI (Yn_eq xs (i + 3)) ?_
  refine Ev.run 3 (pc' := 1238) (lv' := [(3, .int (nI i)), (2, .ref 166), (1, .ref 0), (0, .retAddr 0)]) (st' := [.long ((nI (Yn xs (i + 3))).toInt64 <<< ((nI 32).toInt64 &&& 63)), .int (nI (Yn xs (i + 2))), .int (nI (Yn xs (i + 1))), .ref 166, .int x1]) (h' := HN g1 hl1 (RF rt1)) rfl ?_
  refine Ev.run 4 (pc' := 1242) (lv' := [(3, .int (nI i)), (2, .ref 166), (1, .ref 0), (0, .retAddr 0)]) (st' := [.int (nI i + nI 4), .retAddr 0, .long ((nI (Yn xs (i + 3))).toInt64 <<< ((nI 32).toInt64 &&& 63)), .int (nI (Yn xs (i + 2))), .int (nI (Yn xs (i + 1))), .ref 166, .int x1]) (h' := HN g1 hl1 (RF rt1)) rfl ?_
  refine Ev.topI (nI_add _ _) ?_
  refine Ev_xald rfl (by decide) (show i + 4 < L by omega) h31 ?_
  refine Ev.topI (Yn_eq xs (i + 4)) ?_
  refine Ev.run 4 (pc' := 1249) (lv' := [(3, .int (nI i)), (2, .ref 166), (1, .ref 0), (0, .retAddr 0)]) (st' := [.long (((nI (Yn xs (i + 3))).toInt64 <<< ((nI 32).toInt64 &&& 63)) ||| ((nI (Yn xs (i + 4))).toInt64 &&& Int64.ofNat 4294967295)), .int (nI (Yn xs (i + 2))), .int (nI (Yn xs (i + 1))), .ref 166, .int x1]) (h' := HN g1 hl1 (RF rt1)) rfl ?_
  refine Ev.call (a := 238) (as := [.ref 166, .int (nI (Yn xs (i + 1))), .int (nI (Yn xs (i + 2))), .long (((nI (Yn xs (i + 3))).toInt64 <<< ((nI 32).toInt64 &&& 63)) ||| ((nI (Yn xs (i + 4))).toInt64 &&& Int64.ofNat 4294967295))]) (rest := [.int x1]) (lv0 := [(0, .ref 166), (1, .int (nI (Yn xs (i + 1)))), (2, .int (nI (Yn xs (i + 2)))), (3, .long (((nI (Yn xs (i + 3))).toInt64 <<< ((nI 32).toInt64 &&& 63)) ||| ((nI (Yn xs (i + 4))).toInt64 &&& Int64.ofNat 4294967295)))]) (Q1 := (fun r2 h2 => r2 = some (.int x1) ∧ ∃ (g2 : Nat → Nat → Nat) (hl2 : Nat → Nat → Int64) (rt2 : Nat × Nat × Nat × Nat), h2 = HN g2 hl2 (RF rt2) ∧ Inv g2 hl2 rt2)) rfl rfl k2 (fun r h' hr => ?_)
  obtain ⟨rfl, g2, hl2, rt2, rfl, hV2⟩ := hr
  refine Ev.run 1 (pc' := (if x1 = x1 then 1354 else 1255)) (lv' := [(3, .int (nI i)), (2, .ref 166), (1, .ref 0), (0, .retAddr 0)]) (st' := []) (h' := HN g2 hl2 (RF rt2)) rfl ?_
  exact Ev.ite (fun _ => hT g2 hl2 rt2 hV2) (fun z => absurd rfl z)
theorem LC_read {L : Nat} {xs : Nat → Int32} (d i : Nat) (hi : i + 6 ≤ L) (hL : L ≤ 3072) {g : Nat → Nat → Nat} {hl : Nat → Nat → Int64} {rt : Nat × Nat × Nat × Nat} (hV : Inv g hl rt) {Q : Po} (hT : LE L xs d i Q) : Ev L xs (d + 21) 0 1257 [(3, .int (nI i)), (2, .ref 166), (1, .ref 0), (0, .retAddr 0)] [] (HN g hl (RF rt)) Q := by
  have h31 : xLen L 0 < 2 ^ 31 := by show L < 2 ^ 31; omega
  refine Ev.run 1 (pc' := 1258) (lv' := [(3, .int (nI i)), (2, .ref 166), (1, .ref 0), (0, .retAddr 0)]) (st' := [.ref 0]) (h' := HN g hl (RF rt)) rfl ?_
  refine Ev.run 4 (pc' := 1262) (lv' := [(3, .int (nI i)), (2, .ref 166), (1, .ref 0), (0, .retAddr 0)]) (st' := [.int (nI i + nI 1), .retAddr 0, .ref 0]) (h' := HN g hl (RF rt)) rfl ?_
  refine Ev.topI (nI_add _ _) ?_
  refine Ev_xald rfl (by decide) (show i + 1 < L by omega) h31 ?_
  refine Ev.topI (Yn_eq xs (i + 1)) ?_
  refine Ev.run 4 (pc' := 1267) (lv' := [(3, .int (nI i)), (2, .ref 166), (1, .ref 0), (0, .retAddr 0)]) (st' := [.int (nI i + nI 2), .retAddr 0, .int (nI (Yn xs (i + 1))), .ref 0]) (h' := HN g hl (RF rt)) rfl ?_
  refine Ev.topI (nI_add _ _) ?_
  refine Ev_xald rfl (by decide) (show i + 2 < L by omega) h31 ?_
  refine Ev.topI (Yn_eq xs (i + 2)) ?_
  refine Ev.call (a := 113) (as := [.ref 0, .int (nI (Yn xs (i + 1))), .int (nI (Yn xs (i + 2)))]) (rest := []) (lv0 := [(0, .ref 0), (1, .int (nI (Yn xs (i + 1)))), (2, .int (nI (Yn xs (i + 2))))]) (Q1 := (fun r h' => (∃ (v : Value) (g1 : Nat → Nat → Nat) (hl1 : Nat → Nat → Int64) (rt1 : Nat × Nat × Nat × Nat), r = some v ∧ h' = HN g1 hl1 (RF rt1) ∧ Ev L xs (d + 20) 239 0 [(0, .ref 166), (1, .int (nI (Yn xs (i + 1)))), (2, .int (nI (Yn xs (i + 2))))] [] (HN g1 hl1 (RF rt1)) (fun r2 h2 => r2 = some v ∧ ∃ (g2 : Nat → Nat → Nat) (hl2 : Nat → Nat → Int64) (rt2 : Nat × Nat × Nat × Nat), h2 = HN g2 hl2 (RF rt2) ∧ Inv g2 hl2 rt2)) ∧ ∃ x, r = some (.long x))) rfl rfl (Ev.long (by decide) rfl (S_read d (Yn xs (i + 1)) (Yn xs (i + 2)) (Yn_lt xs (i + 1)) (Yn_lt xs (i + 2)) g hl rt hV)) (fun r h' hr => ?_)
  obtain ⟨⟨v, g1, hl1, rt1, rfl, rfl, k2⟩, x1, e1⟩ := hr
  injection e1 with e1
  subst e1
  refine Ev.run 1 (pc' := 1272) (lv' := [(3, .int (nI i)), (2, .ref 166), (1, .ref 0), (0, .retAddr 0)]) (st' := [.ref 166, .long x1]) (h' := HN g1 hl1 (RF rt1)) rfl ?_
  refine Ev.run 4 (pc' := 1276) (lv' := [(3, .int (nI i)), (2, .ref 166), (1, .ref 0), (0, .retAddr 0)]) (st' := [.int (nI i + nI 1), .retAddr 0, .ref 166, .long x1]) (h' := HN g1 hl1 (RF rt1)) rfl ?_
  refine Ev.topI (nI_add _ _) ?_
  refine Ev_xald rfl (by decide) (show i + 1 < L by omega) h31 ?_
  refine Ev.topI (Yn_eq xs (i + 1)) ?_
  refine Ev.run 4 (pc' := 1281) (lv' := [(3, .int (nI i)), (2, .ref 166), (1, .ref 0), (0, .retAddr 0)]) (st' := [.int (nI i + nI 2), .retAddr 0, .int (nI (Yn xs (i + 1))), .ref 166, .long x1]) (h' := HN g1 hl1 (RF rt1)) rfl ?_
  refine Ev.topI (nI_add _ _) ?_
  refine Ev_xald rfl (by decide) (show i + 2 < L by omega) h31 ?_
  refine Ev.topI (Yn_eq xs (i + 2)) ?_
  refine Ev.call (a := 239) (as := [.ref 166, .int (nI (Yn xs (i + 1))), .int (nI (Yn xs (i + 2)))]) (rest := [.long x1]) (lv0 := [(0, .ref 166), (1, .int (nI (Yn xs (i + 1)))), (2, .int (nI (Yn xs (i + 2))))]) (Q1 := (fun r2 h2 => r2 = some (.long x1) ∧ ∃ (g2 : Nat → Nat → Nat) (hl2 : Nat → Nat → Int64) (rt2 : Nat × Nat × Nat × Nat), h2 = HN g2 hl2 (RF rt2) ∧ Inv g2 hl2 rt2)) rfl rfl k2 (fun r h' hr => ?_)
  obtain ⟨rfl, g2, hl2, rt2, rfl, hV2⟩ := hr
  refine Ev.run 2 (pc' := (if lg_cmp x1 x1 = 0 then 1354 else 1289)) (lv' := [(3, .int (nI i)), (2, .ref 166), (1, .ref 0), (0, .retAddr 0)]) (st' := []) (h' := HN g2 hl2 (RF rt2)) rfl ?_
  exact Ev.ite (fun _ => hT g2 hl2 rt2 hV2) (fun z => absurd (lg_self x1) z)
theorem LC_shift {L : Nat} {xs : Nat → Int32} (d i : Nat) (hi : i + 6 ≤ L) (hL : L ≤ 3072) {g : Nat → Nat → Nat} {hl : Nat → Nat → Int64} {rt : Nat × Nat × Nat × Nat} (hV : Inv g hl rt) {Q : Po} (hT : LE L xs d i Q) : Ev L xs (d + 21) 0 1291 [(3, .int (nI i)), (2, .ref 166), (1, .ref 0), (0, .retAddr 0)] [] (HN g hl (RF rt)) Q := by
  have h31 : xLen L 0 < 2 ^ 31 := by show L < 2 ^ 31; omega
  refine Ev.run 1 (pc' := 1292) (lv' := [(3, .int (nI i)), (2, .ref 166), (1, .ref 0), (0, .retAddr 0)]) (st' := [.ref 0]) (h' := HN g hl (RF rt)) rfl ?_
  refine Ev.run 4 (pc' := 1296) (lv' := [(3, .int (nI i)), (2, .ref 166), (1, .ref 0), (0, .retAddr 0)]) (st' := [.int (nI i + nI 1), .retAddr 0, .ref 0]) (h' := HN g hl (RF rt)) rfl ?_
  refine Ev.topI (nI_add _ _) ?_
  refine Ev_xald rfl (by decide) (show i + 1 < L by omega) h31 ?_
  refine Ev.topI (Yn_eq xs (i + 1)) ?_
  refine Ev.run 4 (pc' := 1301) (lv' := [(3, .int (nI i)), (2, .ref 166), (1, .ref 0), (0, .retAddr 0)]) (st' := [.int (nI i + nI 2), .retAddr 0, .int (nI (Yn xs (i + 1))), .ref 0]) (h' := HN g hl (RF rt)) rfl ?_
  refine Ev.topI (nI_add _ _) ?_
  refine Ev_xald rfl (by decide) (show i + 2 < L by omega) h31 ?_
  refine Ev.topI (Yn_eq xs (i + 2)) ?_
  refine Ev.run 4 (pc' := 1306) (lv' := [(3, .int (nI i)), (2, .ref 166), (1, .ref 0), (0, .retAddr 0)]) (st' := [.int (nI i + nI 3), .retAddr 0, .int (nI (Yn xs (i + 2))), .int (nI (Yn xs (i + 1))), .ref 0]) (h' := HN g hl (RF rt)) rfl ?_
  refine Ev.topI (nI_add _ _) ?_
  refine Ev_xald rfl (by decide) (show i + 3 < L by omega) h31 ?_
  refine Ev.topI (Yn_eq xs (i + 3)) ?_
  refine Ev.run 4 (pc' := 1311) (lv' := [(3, .int (nI i)), (2, .ref 166), (1, .ref 0), (0, .retAddr 0)]) (st' := [.int (nI i + nI 4), .retAddr 0, .int (nI (Yn xs (i + 3))), .int (nI (Yn xs (i + 2))), .int (nI (Yn xs (i + 1))), .ref 0]) (h' := HN g hl (RF rt)) rfl ?_
  refine Ev.topI (nI_add _ _) ?_
  refine Ev_xald rfl (by decide) (show i + 4 < L by omega) h31 ?_
  refine Ev.topI (Yn_eq xs (i + 4)) ?_
  refine Ev.run 4 (pc' := 1316) (lv' := [(3, .int (nI i)), (2, .ref 166), (1, .ref 0), (0, .retAddr 0)]) (st' := [.int (nI i + nI 5), .retAddr 0, .int (nI (Yn xs (i + 4))), .int (nI (Yn xs (i + 3))), .int (nI (Yn xs (i + 2))), .int (nI (Yn xs (i + 1))), .ref 0]) (h' := HN g hl (RF rt)) rfl ?_
  refine Ev.topI (nI_add _ _) ?_
  refine Ev_xald rfl (by decide) (show i + 5 < L by omega) h31 ?_
  refine Ev.topI (Yn_eq xs (i + 5)) ?_
  refine Ev.call (a := 114) (as := [.ref 0, .int (nI (Yn xs (i + 1))), .int (nI (Yn xs (i + 2))), .int (nI (Yn xs (i + 3))), .int (nI (Yn xs (i + 4))), .int (nI (Yn xs (i + 5)))]) (rest := []) (lv0 := [(0, .ref 0), (1, .int (nI (Yn xs (i + 1)))), (2, .int (nI (Yn xs (i + 2)))), (3, .int (nI (Yn xs (i + 3)))), (4, .int (nI (Yn xs (i + 4)))), (5, .int (nI (Yn xs (i + 5))))]) (Q1 := (fun r h' => (∃ (v : Value) (g1 : Nat → Nat → Nat) (hl1 : Nat → Nat → Int64) (rt1 : Nat × Nat × Nat × Nat), r = some v ∧ h' = HN g1 hl1 (RF rt1) ∧ Ev L xs (d + 20) 240 0 [(0, .ref 166), (1, .int (nI (Yn xs (i + 1)))), (2, .int (nI (Yn xs (i + 2)))), (3, .int (nI (Yn xs (i + 3)))), (4, .int (nI (Yn xs (i + 4)))), (5, .int (nI (Yn xs (i + 5))))] [] (HN g1 hl1 (RF rt1)) (fun r2 h2 => r2 = some v ∧ ∃ (g2 : Nat → Nat → Nat) (hl2 : Nat → Nat → Int64) (rt2 : Nat × Nat × Nat × Nat), h2 = HN g2 hl2 (RF rt2) ∧ Inv g2 hl2 rt2)) ∧ ∃ x, r = some (.int x))) rfl rfl (Ev.int (by decide) (Or.inl rfl) (S_shift d (Yn xs (i + 1)) (Yn xs (i + 2)) (Yn xs (i + 3)) (Yn xs (i + 4)) (Yn xs (i + 5)) (Yn_lt xs (i + 1)) (Yn_lt xs (i + 2)) (Yn_lt xs (i + 3)) (Yn_lt xs (i + 4)) (Yn_lt xs (i + 5)) g hl rt hV)) (fun r h' hr => ?_)
  obtain ⟨⟨v, g1, hl1, rt1, rfl, rfl, k2⟩, x1, e1⟩ := hr
  injection e1 with e1
  subst e1
  refine Ev.run 1 (pc' := 1321) (lv' := [(3, .int (nI i)), (2, .ref 166), (1, .ref 0), (0, .retAddr 0)]) (st' := [.ref 166, .int x1]) (h' := HN g1 hl1 (RF rt1)) rfl ?_
  refine Ev.run 4 (pc' := 1325) (lv' := [(3, .int (nI i)), (2, .ref 166), (1, .ref 0), (0, .retAddr 0)]) (st' := [.int (nI i + nI 1), .retAddr 0, .ref 166, .int x1]) (h' := HN g1 hl1 (RF rt1)) rfl ?_
  refine Ev.topI (nI_add _ _) ?_
  refine Ev_xald rfl (by decide) (show i + 1 < L by omega) h31 ?_
  refine Ev.topI (Yn_eq xs (i + 1)) ?_
  refine Ev.run 4 (pc' := 1330) (lv' := [(3, .int (nI i)), (2, .ref 166), (1, .ref 0), (0, .retAddr 0)]) (st' := [.int (nI i + nI 2), .retAddr 0, .int (nI (Yn xs (i + 1))), .ref 166, .int x1]) (h' := HN g1 hl1 (RF rt1)) rfl ?_
  refine Ev.topI (nI_add _ _) ?_
  refine Ev_xald rfl (by decide) (show i + 2 < L by omega) h31 ?_
  refine Ev.topI (Yn_eq xs (i + 2)) ?_
  refine Ev.run 4 (pc' := 1335) (lv' := [(3, .int (nI i)), (2, .ref 166), (1, .ref 0), (0, .retAddr 0)]) (st' := [.int (nI i + nI 3), .retAddr 0, .int (nI (Yn xs (i + 2))), .int (nI (Yn xs (i + 1))), .ref 166, .int x1]) (h' := HN g1 hl1 (RF rt1)) rfl ?_
  refine Ev.topI (nI_add _ _) ?_
  refine Ev_xald rfl (by decide) (show i + 3 < L by omega) h31 ?_
  refine Ev.topI (Yn_eq xs (i + 3)) ?_
  refine Ev.run 4 (pc' := 1340) (lv' := [(3, .int (nI i)), (2, .ref 166), (1, .ref 0), (0, .retAddr 0)]) (st' := [.int (nI i + nI 4), .retAddr 0, .int (nI (Yn xs (i + 3))), .int (nI (Yn xs (i + 2))), .int (nI (Yn xs (i + 1))), .ref 166, .int x1]) (h' := HN g1 hl1 (RF rt1)) rfl ?_
  refine Ev.topI (nI_add _ _) ?_
  refine Ev_xald rfl (by decide) (show i + 4 < L by omega) h31 ?_
  refine Ev.topI (Yn_eq xs (i + 4)) ?_
  refine Ev.run 4 (pc' := 1345) (lv' := [(3, .int (nI i)), (2, .ref 166), (1, .ref 0), (0, .retAddr 0)]) (st' := [.int (nI i + nI 5), .retAddr 0, .int (nI (Yn xs (i + 4))), .int (nI (Yn xs (i + 3))), .int (nI (Yn xs (i + 2))), .int (nI (Yn xs (i + 1))), .ref 166, .int x1]) (h' := HN g1 hl1 (RF rt1)) rfl ?_
  refine Ev.topI (nI_add _ _) ?_
  refine Ev_xald rfl (by decide) (show i + 5 < L by omega) h31 ?_
  refine Ev.topI (Yn_eq xs (i + 5)) ?_
  refine Ev.call (a := 240) (as := [.ref 166, .int (nI (Yn xs (i + 1))), .int (nI (Yn xs (i + 2))), .int (nI (Yn xs (i + 3))), .int (nI (Yn xs (i + 4))), .int (nI (Yn xs (i + 5)))]) (rest := [.int x1]) (lv0 := [(0, .ref 166), (1, .int (nI (Yn xs (i + 1)))), (2, .int (nI (Yn xs (i + 2)))), (3, .int (nI (Yn xs (i + 3)))), (4, .int (nI (Yn xs (i + 4)))), (5, .int (nI (Yn xs (i + 5))))]) (Q1 := (fun r2 h2 => r2 = some (.int x1) ∧ ∃ (g2 : Nat → Nat → Nat) (hl2 : Nat → Nat → Int64) (rt2 : Nat × Nat × Nat × Nat), h2 = HN g2 hl2 (RF rt2) ∧ Inv g2 hl2 rt2)) rfl rfl k2 (fun r h' hr => ?_)
  obtain ⟨rfl, g2, hl2, rt2, rfl, hV2⟩ := hr
  refine Ev.run 1 (pc' := (if x1 = x1 then 1354 else 1352)) (lv' := [(3, .int (nI i)), (2, .ref 166), (1, .ref 0), (0, .retAddr 0)]) (st' := []) (h' := HN g2 hl2 (RF rt2)) rfl ?_
  exact Ev.ite (fun _ => hT g2 hl2 rt2 hV2) (fun z => absurd rfl z)
theorem law_loop {L : Nat} {xs : Nat → Int32} (d : Nat) (hL : L ≤ 3072) : ∀ (m i : Nat) (g : Nat → Nat → Nat) (hl : Nat → Nat → Int64) (rt : Nat × Nat × Nat × Nat), i ≤ L → L < i + 6 * (m + 1) → Inv g hl rt → Ev L xs (d + 21) 0 18 [(3, .int (nI i)), (2, .ref 166), (1, .ref 0), (0, .retAddr 0)] [] (HN g hl (RF rt)) (fun r h => r = some (.int (nI 1)) ∧ h.1 = 210) := by
  intro m
  induction m with
  | zero =>
    intro i g hl rt hi hm hV
    refine Ev.run 6 (pc' := (if nI L - nI 6 < nI i then 1360 else 27)) (lv' := [(3, .int (nI i)), (2, .ref 166), (1, .ref 0), (0, .retAddr 0)]) (st' := []) (h' := HN g hl (RF rt)) rfl ?_
    refine Ev.ite (fun _ => ?_) (fun z => absurd ((lp_lt hL hi).mpr (by omega)) z)
    refine Ev.run 1 (pc' := 1361) (lv' := [(3, .int (nI i)), (2, .ref 166), (1, .ref 0), (0, .retAddr 0)]) (st' := [.int (nI 1)]) (h' := HN g hl (RF rt)) rfl ?_
    exact Ev.ret (v := some (.int (nI 1))) rfl ⟨rfl, rfl⟩
  | succ m ih =>
    intro i g hl rt hi hm hV
    refine Ev.run 6 (pc' := (if nI L - nI 6 < nI i then 1360 else 27)) (lv' := [(3, .int (nI i)), (2, .ref 166), (1, .ref 0), (0, .retAddr 0)]) (st' := []) (h' := HN g hl (RF rt)) rfl ?_
    refine Ev.ite (fun _ => ?_) (fun z => ?_)
    · refine Ev.run 1 (pc' := 1361) (lv' := [(3, .int (nI i)), (2, .ref 166), (1, .ref 0), (0, .retAddr 0)]) (st' := [.int (nI 1)]) (h' := HN g hl (RF rt)) rfl ?_
      exact Ev.ret (v := some (.int (nI 1))) rfl ⟨rfl, rfl⟩
    · have h6 : i + 6 ≤ L := Nat.le_of_not_lt (fun y => z ((lp_lt hL hi).mpr y))
      have h31 : xLen L 0 < 2 ^ 31 := by show L < 2 ^ 31; omega
      have hT : LE L xs d i (fun r h => r = some (.int (nI 1)) ∧ h.1 = 210) := fun g2 hl2 rt2 hV2 => by
        refine Ev.run 2 (pc' := 18) (lv' := [(3, .int (nI i + nI 6)), (2, .ref 166), (1, .ref 0), (0, .retAddr 0)]) (st' := []) (h' := HN g2 hl2 (RF rt2)) rfl ?_
        rw [nI_add]
        exact ih (i + 6) g2 hl2 rt2 h6 (by omega) hV2
      refine Ev.run 2 (pc' := 29) (lv' := [(3, .int (nI i)), (2, .ref 166), (1, .ref 0), (0, .retAddr 0)]) (st' := [.int (nI i), .retAddr 0]) (h' := HN g hl (RF rt)) rfl ?_
      refine Ev_xald rfl (by decide) (show i < L by omega) h31 ?_
      refine Ev.topI (Yn_eq xs i) ?_
      refine Ev.run 2 (pc' := 33) (lv' := [(3, .int (nI i)), (2, .ref 166), (1, .ref 0), (0, .retAddr 0)]) (st' := [.int (nI (Yn xs i) &&& nI 63)]) (h' := HN g hl (RF rt)) rfl ?_
      refine Ev.topI (nI_and (Yn_lt xs i) (by decide)) ?_
      have h64 : Yn xs i &&& 63 ≤ 63 := Nat.and_le_right
      revert h64
      generalize Yn xs i &&& 63 = o
      intro h64
      by_cases h39 : o < 39
      · rcases (show o = 0 ∨ o = 1 ∨ o = 2 ∨ o = 3 ∨ o = 4 ∨ o = 5 ∨ o = 6 ∨ o = 7 ∨ o = 8 ∨ o = 9 ∨ o = 10 ∨ o = 11 ∨ o = 12 ∨ o = 13 ∨ o = 14 ∨ o = 15 ∨ o = 16 ∨ o = 17 ∨ o = 18 ∨ o = 19 ∨ o = 20 ∨ o = 21 ∨ o = 22 ∨ o = 23 ∨ o = 24 ∨ o = 25 ∨ o = 26 ∨ o = 27 ∨ o = 28 ∨ o = 29 ∨ o = 30 ∨ o = 31 ∨ o = 32 ∨ o = 33 ∨ o = 34 ∨ o = 35 ∨ o = 36 ∨ o = 37 ∨ o = 38 by omega) with rfl | rfl | rfl | rfl | rfl | rfl | rfl | rfl | rfl | rfl | rfl | rfl | rfl | rfl | rfl | rfl | rfl | rfl | rfl | rfl | rfl | rfl | rfl | rfl | rfl | rfl | rfl | rfl | rfl | rfl | rfl | rfl | rfl | rfl | rfl | rfl | rfl | rfl | rfl
        · refine Ev.run 1 (pc' := 204) (lv' := [(3, .int (nI i)), (2, .ref 166), (1, .ref 0), (0, .retAddr 0)]) (st' := []) (h' := HN g hl (RF rt)) rfl ?_
          exact LC_spell d i h6 hL hV hT
        · refine Ev.run 1 (pc' := 227) (lv' := [(3, .int (nI i)), (2, .ref 166), (1, .ref 0), (0, .retAddr 0)]) (st' := []) (h' := HN g hl (RF rt)) rfl ?_
          exact LC_word d i h6 hL hV hT
        · refine Ev.run 1 (pc' := 250) (lv' := [(3, .int (nI i)), (2, .ref 166), (1, .ref 0), (0, .retAddr 0)]) (st' := []) (h' := HN g hl (RF rt)) rfl ?_
          exact LC_letter d i h6 hL hV hT
        · refine Ev.run 1 (pc' := 283) (lv' := [(3, .int (nI i)), (2, .ref 166), (1, .ref 0), (0, .retAddr 0)]) (st' := []) (h' := HN g hl (RF rt)) rfl ?_
          exact LC_player d i h6 hL hV hT
        · refine Ev.run 1 (pc' := 316) (lv' := [(3, .int (nI i)), (2, .ref 166), (1, .ref 0), (0, .retAddr 0)]) (st' := []) (h' := HN g hl (RF rt)) rfl ?_
          exact LC_of d i h6 hL hV hT
        · refine Ev.run 1 (pc' := 349) (lv' := [(3, .int (nI i)), (2, .ref 166), (1, .ref 0), (0, .retAddr 0)]) (st' := []) (h' := HN g hl (RF rt)) rfl ?_
          exact LC_live d i h6 hL hV hT
        · refine Ev.run 1 (pc' := 382) (lv' := [(3, .int (nI i)), (2, .ref 166), (1, .ref 0), (0, .retAddr 0)]) (st' := []) (h' := HN g hl (RF rt)) rfl ?_
          exact LC_row d i h6 hL hV hT
        · refine Ev.run 1 (pc' := 425) (lv' := [(3, .int (nI i)), (2, .ref 166), (1, .ref 0), (0, .retAddr 0)]) (st' := []) (h' := HN g hl (RF rt)) rfl ?_
          exact LC_feed d i h6 hL hV hT
        · refine Ev.run 1 (pc' := 448) (lv' := [(3, .int (nI i)), (2, .ref 166), (1, .ref 0), (0, .retAddr 0)]) (st' := []) (h' := HN g hl (RF rt)) rfl ?_
          exact LC_table d i h6 hL hV hT
        · refine Ev.run 1 (pc' := 461) (lv' := [(3, .int (nI i)), (2, .ref 166), (1, .ref 0), (0, .retAddr 0)]) (st' := []) (h' := HN g hl (RF rt)) rfl ?_
          exact LC_told d i h6 hL hV hT
        · refine Ev.run 1 (pc' := 484) (lv' := [(3, .int (nI i)), (2, .ref 166), (1, .ref 0), (0, .retAddr 0)]) (st' := []) (h' := HN g hl (RF rt)) rfl ?_
          exact LC_turn d i h6 hL hV hT
        · refine Ev.run 1 (pc' := 497) (lv' := [(3, .int (nI i)), (2, .ref 166), (1, .ref 0), (0, .retAddr 0)]) (st' := []) (h' := HN g hl (RF rt)) rfl ?_
          exact LC_begin d i h6 hL hV hT
        · refine Ev.run 1 (pc' := 520) (lv' := [(3, .int (nI i)), (2, .ref 166), (1, .ref 0), (0, .retAddr 0)]) (st' := []) (h' := HN g hl (RF rt)) rfl ?_
          exact LC_on d i h6 hL hV hT
        · refine Ev.run 1 (pc' := 553) (lv' := [(3, .int (nI i)), (2, .ref 166), (1, .ref 0), (0, .retAddr 0)]) (st' := []) (h' := HN g hl (RF rt)) rfl ?_
          exact LC_ends d i h6 hL hV hT
        · refine Ev.run 1 (pc' := 576) (lv' := [(3, .int (nI i)), (2, .ref 166), (1, .ref 0), (0, .retAddr 0)]) (st' := []) (h' := HN g hl (RF rt)) rfl ?_
          exact LC_won d i h6 hL hV hT
        · refine Ev.run 1 (pc' := 599) (lv' := [(3, .int (nI i)), (2, .ref 166), (1, .ref 0), (0, .retAddr 0)]) (st' := []) (h' := HN g hl (RF rt)) rfl ?_
          exact LC_by d i h6 hL hV hT
        · refine Ev.run 1 (pc' := 622) (lv' := [(3, .int (nI i)), (2, .ref 166), (1, .ref 0), (0, .retAddr 0)]) (st' := []) (h' := HN g hl (RF rt)) rfl ?_
          exact LC_has d i h6 hL hV hT
        · refine Ev.run 1 (pc' := 655) (lv' := [(3, .int (nI i)), (2, .ref 166), (1, .ref 0), (0, .retAddr 0)]) (st' := []) (h' := HN g hl (RF rt)) rfl ?_
          exact LC_learn d i h6 hL hV hT
        · refine Ev.run 1 (pc' := 688) (lv' := [(3, .int (nI i)), (2, .ref 166), (1, .ref 0), (0, .retAddr 0)]) (st' := []) (h' := HN g hl (RF rt)) rfl ?_
          exact LC_out d i h6 hL hV hT
        · refine Ev.run 1 (pc' := 711) (lv' := [(3, .int (nI i)), (2, .ref 166), (1, .ref 0), (0, .retAddr 0)]) (st' := []) (h' := HN g hl (RF rt)) rfl ?_
          exact LC_rank d i h6 hL hV hT
        · refine Ev.run 1 (pc' := 734) (lv' := [(3, .int (nI i)), (2, .ref 166), (1, .ref 0), (0, .retAddr 0)]) (st' := []) (h' := HN g hl (RF rt)) rfl ?_
          exact LC_see d i h6 hL hV hT
        · refine Ev.run 1 (pc' := 777) (lv' := [(3, .int (nI i)), (2, .ref 166), (1, .ref 0), (0, .retAddr 0)]) (st' := []) (h' := HN g hl (RF rt)) rfl ?_
          exact LC_could d i h6 hL hV hT
        · refine Ev.run 1 (pc' := 800) (lv' := [(3, .int (nI i)), (2, .ref 166), (1, .ref 0), (0, .retAddr 0)]) (st' := []) (h' := HN g hl (RF rt)) rfl ?_
          exact LC_can d i h6 hL hV hT
        · refine Ev.run 1 (pc' := 833) (lv' := [(3, .int (nI i)), (2, .ref 166), (1, .ref 0), (0, .retAddr 0)]) (st' := []) (h' := HN g hl (RF rt)) rfl ?_
          exact LC_begins d i h6 hL hV hT
        · refine Ev.run 1 (pc' := 856) (lv' := [(3, .int (nI i)), (2, .ref 166), (1, .ref 0), (0, .retAddr 0)]) (st' := []) (h' := HN g hl (RF rt)) rfl ?_
          exact LC_odds d i h6 hL hV hT
        · refine Ev.run 1 (pc' := 890) (lv' := [(3, .int (nI i)), (2, .ref 166), (1, .ref 0), (0, .retAddr 0)]) (st' := []) (h' := HN g hl (RF rt)) rfl ?_
          exact LC_mean d i h6 hL hV hT
        · refine Ev.run 1 (pc' := 924) (lv' := [(3, .int (nI i)), (2, .ref 166), (1, .ref 0), (0, .retAddr 0)]) (st' := []) (h' := HN g hl (RF rt)) rfl ?_
          exact LC_sheet d i h6 hL hV hT
        · refine Ev.run 1 (pc' := 947) (lv' := [(3, .int (nI i)), (2, .ref 166), (1, .ref 0), (0, .retAddr 0)]) (st' := []) (h' := HN g hl (RF rt)) rfl ?_
          exact LC_looked d i h6 hL hV hT
        · refine Ev.run 1 (pc' := 960) (lv' := [(3, .int (nI i)), (2, .ref 166), (1, .ref 0), (0, .retAddr 0)]) (st' := []) (h' := HN g hl (RF rt)) rfl ?_
          exact LC_judge d i h6 hL hV hT
        · refine Ev.run 1 (pc' := 993) (lv' := [(3, .int (nI i)), (2, .ref 166), (1, .ref 0), (0, .retAddr 0)]) (st' := []) (h' := HN g hl (RF rt)) rfl ?_
          exact LC_image d i h6 hL hV hT
        · refine Ev.run 1 (pc' := 1006) (lv' := [(3, .int (nI i)), (2, .ref 166), (1, .ref 0), (0, .retAddr 0)]) (st' := []) (h' := HN g hl (RF rt)) rfl ?_
          exact LC_undo d i h6 hL hV hT
        · refine Ev.run 1 (pc' := 1019) (lv' := [(3, .int (nI i)), (2, .ref 166), (1, .ref 0), (0, .retAddr 0)]) (st' := []) (h' := HN g hl (RF rt)) rfl ?_
          exact LC_act d i h6 hL hV hT
        · refine Ev.run 1 (pc' := 1062) (lv' := [(3, .int (nI i)), (2, .ref 166), (1, .ref 0), (0, .retAddr 0)]) (st' := []) (h' := HN g hl (RF rt)) rfl ?_
          exact LC_trace d i h6 hL hV hT
        · refine Ev.run 1 (pc' := 1085) (lv' := [(3, .int (nI i)), (2, .ref 166), (1, .ref 0), (0, .retAddr 0)]) (st' := []) (h' := HN g hl (RF rt)) rfl ?_
          exact LC_taken d i h6 hL hV hT
        · refine Ev.run 1 (pc' := 1118) (lv' := [(3, .int (nI i)), (2, .ref 166), (1, .ref 0), (0, .retAddr 0)]) (st' := []) (h' := HN g hl (RF rt)) rfl ?_
          exact LC_count d i h6 hL hV hT
        · refine Ev.run 1 (pc' := 1141) (lv' := [(3, .int (nI i)), (2, .ref 166), (1, .ref 0), (0, .retAddr 0)]) (st' := []) (h' := HN g hl (RF rt)) rfl ?_
          exact LC_tape d i h6 hL hV hT
        · refine Ev.run 1 (pc' := 1184) (lv' := [(3, .int (nI i)), (2, .ref 166), (1, .ref 0), (0, .retAddr 0)]) (st' := []) (h' := HN g hl (RF rt)) rfl ?_
          exact LC_item d i h6 hL hV hT
        · refine Ev.run 1 (pc' := 1257) (lv' := [(3, .int (nI i)), (2, .ref 166), (1, .ref 0), (0, .retAddr 0)]) (st' := []) (h' := HN g hl (RF rt)) rfl ?_
          exact LC_read d i h6 hL hV hT
        · refine Ev.run 1 (pc' := 1291) (lv' := [(3, .int (nI i)), (2, .ref 166), (1, .ref 0), (0, .retAddr 0)]) (st' := []) (h' := HN g hl (RF rt)) rfl ?_
          exact LC_shift d i h6 hL hV hT
      · refine Ev_tsOut (tgt := 1354) rfl (sw_out (x := o) (hi := 38) (by omega) (by omega) (by omega)) rfl ?_
        exact hT g hl rt hV
