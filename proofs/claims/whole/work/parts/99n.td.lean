/-! the class's reader: words, clauses -/
theorem ex_le {g : Nat → Nat → Nat} {cs : List Nat} {p q : Nat} {b : Bool} (h : exS g cs p = (b, q)) (hp : p ≤ g 166 17) (hc : ∀ c ∈ cs, c < 4294967295) : p ≤ q ∧ q ≤ g 166 17 := by
  have z := exS_le (g := g) cs p hp hc
  rw [h] at z
  exact ⟨z.2, z.1⟩
theorem ex_len {g : Nat → Nat → Nat} : ∀ {cs : List Nat} {p q : Nat}, exS g cs p = (true, q) → q = p + cs.length := by
  intro cs
  induction cs with
  | nil => intro p q h; cases h; rfl
  | cons c cs ih =>
    intro p q h
    unfold exS at h
    by_cases e : pkS g p = c
    · rw [if_pos e] at h
      have := ih h
      show q = p + (cs.length + 1)
      omega
    · rw [if_neg e] at h; cases h
theorem K_all1_3 {L : Nat} {xs : Nat → Int32} (d : Nat) (g : Nat → Nat → Nat) (hl : Nat → Nat → Int64) (T c e : Nat) (hT : TT T) (hX : TX g) (p le li : Nat) (l : List Nat) {Q : Po} (hq : Q none (HN (RT g T p 1 le li l) hl (RF (3, T, c, e)))) : Ev L xs (d + 6) 57 0 [(0, .ref 5), (1, .retAddr 3)] [] (HN (RT g T p 1 le li l) hl (RF (3, T, c, e))) Q := by
  have hN := hX.1
  refine Ev.run 4 (pc' := 4) (lv' := [(2, .int (nI 0)), (0, .ref 5), (1, .retAddr 3)]) (st' := [.retAddr 3, .int (nI 0)]) (h' := HN (RT g T p 1 le li l) hl (RF (3, T, c, e))) rfl ?_
  refine Ev.call (a := 241) (as := [.retAddr 3]) (rest := [.int (nI 0)]) (lv0 := [(0, .retAddr 3)]) (Q1 := (fun z0 h' => z0 = some (.int (nI 5)) ∧ h' = HN (RT g T p 1 le li l) hl (RF (3, T, c, e)))) rfl rfl (K_len3 _ _ ⟨rfl, rfl⟩) (fun r h' hr => ?_)
  obtain ⟨rfl, rfl⟩ := hr
  refine Ev.run 4 (pc' := 13) (lv' := [(2, .int (nI 0)), (0, .ref 5), (1, .retAddr 3)]) (st' := [.int (nI 0), .retAddr 3, .ref 5]) (h' := HN (RT g T p 1 le li l) hl (RF (3, T, c, e))) rfl ?_
  refine Ev.call (a := 242) (as := [.retAddr 3, .int (nI 0)]) (rest := [.ref 5]) (lv0 := [(0, .retAddr 3), (1, .int (nI 0))]) (Q1 := (fun z0 h' => z0 = some (.int (nI 107)) ∧ h' = HN (RT g T p 1 le li l) hl (RF (3, T, c, e)))) rfl rfl (K_chr3_0 _ _ ⟨rfl, rfl⟩) (fun r h' hr => ?_)
  obtain ⟨rfl, rfl⟩ := hr
  refine Ev.call (a := 58) (as := [.ref 5, .int (nI 107)]) (rest := []) (lv0 := [(0, .ref 5), (1, .int (nI 107))]) (Q1 := (fun z0 h' => z0 = none ∧ h' = HN (RT g T p 1 le li l) hl (RF (3, T, c, e)))) rfl rfl (K_exp1 _ _ _ _ _ _ hT hX p le li l _ ⟨rfl, rfl⟩) (fun r h' hr => ?_)
  obtain ⟨rfl, rfl⟩ := hr
  refine Ev.run 4 (pc' := 4) (lv' := [(2, .int (nI 1)), (0, .ref 5), (1, .retAddr 3)]) (st' := [.retAddr 3, .int (nI 1)]) (h' := HN (RT g T p 1 le li l) hl (RF (3, T, c, e))) rfl ?_
  refine Ev.call (a := 241) (as := [.retAddr 3]) (rest := [.int (nI 1)]) (lv0 := [(0, .retAddr 3)]) (Q1 := (fun z0 h' => z0 = some (.int (nI 5)) ∧ h' = HN (RT g T p 1 le li l) hl (RF (3, T, c, e)))) rfl rfl (K_len3 _ _ ⟨rfl, rfl⟩) (fun r h' hr => ?_)
  obtain ⟨rfl, rfl⟩ := hr
  refine Ev.run 4 (pc' := 13) (lv' := [(2, .int (nI 1)), (0, .ref 5), (1, .retAddr 3)]) (st' := [.int (nI 1), .retAddr 3, .ref 5]) (h' := HN (RT g T p 1 le li l) hl (RF (3, T, c, e))) rfl ?_
  refine Ev.call (a := 242) (as := [.retAddr 3, .int (nI 1)]) (rest := [.ref 5]) (lv0 := [(0, .retAddr 3), (1, .int (nI 1))]) (Q1 := (fun z0 h' => z0 = some (.int (nI 110)) ∧ h' = HN (RT g T p 1 le li l) hl (RF (3, T, c, e)))) rfl rfl (K_chr3_1 _ _ ⟨rfl, rfl⟩) (fun r h' hr => ?_)
  obtain ⟨rfl, rfl⟩ := hr
  refine Ev.call (a := 58) (as := [.ref 5, .int (nI 110)]) (rest := []) (lv0 := [(0, .ref 5), (1, .int (nI 110))]) (Q1 := (fun z0 h' => z0 = none ∧ h' = HN (RT g T p 1 le li l) hl (RF (3, T, c, e)))) rfl rfl (K_exp1 _ _ _ _ _ _ hT hX p le li l _ ⟨rfl, rfl⟩) (fun r h' hr => ?_)
  obtain ⟨rfl, rfl⟩ := hr
  refine Ev.run 4 (pc' := 4) (lv' := [(2, .int (nI 2)), (0, .ref 5), (1, .retAddr 3)]) (st' := [.retAddr 3, .int (nI 2)]) (h' := HN (RT g T p 1 le li l) hl (RF (3, T, c, e))) rfl ?_
  refine Ev.call (a := 241) (as := [.retAddr 3]) (rest := [.int (nI 2)]) (lv0 := [(0, .retAddr 3)]) (Q1 := (fun z0 h' => z0 = some (.int (nI 5)) ∧ h' = HN (RT g T p 1 le li l) hl (RF (3, T, c, e)))) rfl rfl (K_len3 _ _ ⟨rfl, rfl⟩) (fun r h' hr => ?_)
  obtain ⟨rfl, rfl⟩ := hr
  refine Ev.run 4 (pc' := 13) (lv' := [(2, .int (nI 2)), (0, .ref 5), (1, .retAddr 3)]) (st' := [.int (nI 2), .retAddr 3, .ref 5]) (h' := HN (RT g T p 1 le li l) hl (RF (3, T, c, e))) rfl ?_
  refine Ev.call (a := 242) (as := [.retAddr 3, .int (nI 2)]) (rest := [.ref 5]) (lv0 := [(0, .retAddr 3), (1, .int (nI 2))]) (Q1 := (fun z0 h' => z0 = some (.int (nI 111)) ∧ h' = HN (RT g T p 1 le li l) hl (RF (3, T, c, e)))) rfl rfl (K_chr3_2 _ _ ⟨rfl, rfl⟩) (fun r h' hr => ?_)
  obtain ⟨rfl, rfl⟩ := hr
  refine Ev.call (a := 58) (as := [.ref 5, .int (nI 111)]) (rest := []) (lv0 := [(0, .ref 5), (1, .int (nI 111))]) (Q1 := (fun z0 h' => z0 = none ∧ h' = HN (RT g T p 1 le li l) hl (RF (3, T, c, e)))) rfl rfl (K_exp1 _ _ _ _ _ _ hT hX p le li l _ ⟨rfl, rfl⟩) (fun r h' hr => ?_)
  obtain ⟨rfl, rfl⟩ := hr
  refine Ev.run 4 (pc' := 4) (lv' := [(2, .int (nI 3)), (0, .ref 5), (1, .retAddr 3)]) (st' := [.retAddr 3, .int (nI 3)]) (h' := HN (RT g T p 1 le li l) hl (RF (3, T, c, e))) rfl ?_
  refine Ev.call (a := 241) (as := [.retAddr 3]) (rest := [.int (nI 3)]) (lv0 := [(0, .retAddr 3)]) (Q1 := (fun z0 h' => z0 = some (.int (nI 5)) ∧ h' = HN (RT g T p 1 le li l) hl (RF (3, T, c, e)))) rfl rfl (K_len3 _ _ ⟨rfl, rfl⟩) (fun r h' hr => ?_)
  obtain ⟨rfl, rfl⟩ := hr
  refine Ev.run 4 (pc' := 13) (lv' := [(2, .int (nI 3)), (0, .ref 5), (1, .retAddr 3)]) (st' := [.int (nI 3), .retAddr 3, .ref 5]) (h' := HN (RT g T p 1 le li l) hl (RF (3, T, c, e))) rfl ?_
  refine Ev.call (a := 242) (as := [.retAddr 3, .int (nI 3)]) (rest := [.ref 5]) (lv0 := [(0, .retAddr 3), (1, .int (nI 3))]) (Q1 := (fun z0 h' => z0 = some (.int (nI 119)) ∧ h' = HN (RT g T p 1 le li l) hl (RF (3, T, c, e)))) rfl rfl (K_chr3_3 _ _ ⟨rfl, rfl⟩) (fun r h' hr => ?_)
  obtain ⟨rfl, rfl⟩ := hr
  refine Ev.call (a := 58) (as := [.ref 5, .int (nI 119)]) (rest := []) (lv0 := [(0, .ref 5), (1, .int (nI 119))]) (Q1 := (fun z0 h' => z0 = none ∧ h' = HN (RT g T p 1 le li l) hl (RF (3, T, c, e)))) rfl rfl (K_exp1 _ _ _ _ _ _ hT hX p le li l _ ⟨rfl, rfl⟩) (fun r h' hr => ?_)
  obtain ⟨rfl, rfl⟩ := hr
  refine Ev.run 4 (pc' := 4) (lv' := [(2, .int (nI 4)), (0, .ref 5), (1, .retAddr 3)]) (st' := [.retAddr 3, .int (nI 4)]) (h' := HN (RT g T p 1 le li l) hl (RF (3, T, c, e))) rfl ?_
  refine Ev.call (a := 241) (as := [.retAddr 3]) (rest := [.int (nI 4)]) (lv0 := [(0, .retAddr 3)]) (Q1 := (fun z0 h' => z0 = some (.int (nI 5)) ∧ h' = HN (RT g T p 1 le li l) hl (RF (3, T, c, e)))) rfl rfl (K_len3 _ _ ⟨rfl, rfl⟩) (fun r h' hr => ?_)
  obtain ⟨rfl, rfl⟩ := hr
  refine Ev.run 4 (pc' := 13) (lv' := [(2, .int (nI 4)), (0, .ref 5), (1, .retAddr 3)]) (st' := [.int (nI 4), .retAddr 3, .ref 5]) (h' := HN (RT g T p 1 le li l) hl (RF (3, T, c, e))) rfl ?_
  refine Ev.call (a := 242) (as := [.retAddr 3, .int (nI 4)]) (rest := [.ref 5]) (lv0 := [(0, .retAddr 3), (1, .int (nI 4))]) (Q1 := (fun z0 h' => z0 = some (.int (nI 32)) ∧ h' = HN (RT g T p 1 le li l) hl (RF (3, T, c, e)))) rfl rfl (K_chr3_4 _ _ ⟨rfl, rfl⟩) (fun r h' hr => ?_)
  obtain ⟨rfl, rfl⟩ := hr
  refine Ev.call (a := 58) (as := [.ref 5, .int (nI 32)]) (rest := []) (lv0 := [(0, .ref 5), (1, .int (nI 32))]) (Q1 := (fun z0 h' => z0 = none ∧ h' = HN (RT g T p 1 le li l) hl (RF (3, T, c, e)))) rfl rfl (K_exp1 _ _ _ _ _ _ hT hX p le li l _ ⟨rfl, rfl⟩) (fun r h' hr => ?_)
  obtain ⟨rfl, rfl⟩ := hr
  refine Ev.run 4 (pc' := 4) (lv' := [(2, .int (nI 5)), (0, .ref 5), (1, .retAddr 3)]) (st' := [.retAddr 3, .int (nI 5)]) (h' := HN (RT g T p 1 le li l) hl (RF (3, T, c, e))) rfl ?_
  refine Ev.call (a := 241) (as := [.retAddr 3]) (rest := [.int (nI 5)]) (lv0 := [(0, .retAddr 3)]) (Q1 := (fun z0 h' => z0 = some (.int (nI 5)) ∧ h' = HN (RT g T p 1 le li l) hl (RF (3, T, c, e)))) rfl rfl (K_len3 _ _ ⟨rfl, rfl⟩) (fun r h' hr => ?_)
  obtain ⟨rfl, rfl⟩ := hr
  refine Ev.run 1 (pc' := 25) (lv' := [(2, .int (nI 5)), (0, .ref 5), (1, .retAddr 3)]) (st' := []) (h' := HN (RT g T p 1 le li l) hl (RF (3, T, c, e))) rfl ?_
  refine Ev.ret (v := none) rfl ?_
  exact hq
theorem K_all0_3 {L : Nat} {xs : Nat → Int32} (d : Nat) (g : Nat → Nat → Nat) (hl : Nat → Nat → Int64) (T c e : Nat) (hT : TT T) (hX : TX g) (p le li : Nat) (l : List Nat) (hp : p ≤ 200) {Q : Po} (hq : (∀ q, exS g [107, 110, 111, 119, 32] p = (true, q) → Q none (HN (RT g T q 0 le li l) hl (RF (3, T, c, e)))) ∧ (∀ q, exS g [107, 110, 111, 119, 32] p = (false, q) → Q none (HN (RT g T q 1 le li l) hl (RF (3, T, c, e))))) : Ev L xs (d + 6) 57 0 [(0, .ref 5), (1, .retAddr 3)] [] (HN (RT g T p 0 le li l) hl (RF (3, T, c, e))) Q := by
  have hN := hX.1
  refine Ev.run 4 (pc' := 4) (lv' := [(2, .int (nI 0)), (0, .ref 5), (1, .retAddr 3)]) (st' := [.retAddr 3, .int (nI 0)]) (h' := HN (RT g T p 0 le li l) hl (RF (3, T, c, e))) rfl ?_
  refine Ev.call (a := 241) (as := [.retAddr 3]) (rest := [.int (nI 0)]) (lv0 := [(0, .retAddr 3)]) (Q1 := (fun z0 h' => z0 = some (.int (nI 5)) ∧ h' = HN (RT g T p 0 le li l) hl (RF (3, T, c, e)))) rfl rfl (K_len3 _ _ ⟨rfl, rfl⟩) (fun r h' hr => ?_)
  obtain ⟨rfl, rfl⟩ := hr
  refine Ev.run 4 (pc' := 13) (lv' := [(2, .int (nI 0)), (0, .ref 5), (1, .retAddr 3)]) (st' := [.int (nI 0), .retAddr 3, .ref 5]) (h' := HN (RT g T p 0 le li l) hl (RF (3, T, c, e))) rfl ?_
  refine Ev.call (a := 242) (as := [.retAddr 3, .int (nI 0)]) (rest := [.ref 5]) (lv0 := [(0, .retAddr 3), (1, .int (nI 0))]) (Q1 := (fun z0 h' => z0 = some (.int (nI 107)) ∧ h' = HN (RT g T p 0 le li l) hl (RF (3, T, c, e)))) rfl rfl (K_chr3_0 _ _ ⟨rfl, rfl⟩) (fun r h' hr => ?_)
  obtain ⟨rfl, rfl⟩ := hr
  refine Ev.call (a := 58) (as := [.ref 5, .int (nI 107)]) (rest := []) (lv0 := [(0, .ref 5), (1, .int (nI 107))]) (Q1 := (fun z0 h' => (pkS g p = 107 ∧ z0 = none ∧ h' = HN (RT g T (p + 1) 0 le li l) hl (RF (3, T, c, e))) ∨ (¬ pkS g p = 107 ∧ z0 = none ∧ h' = HN (RT g T p 1 le li l) hl (RF (3, T, c, e))))) rfl rfl (K_exp0 _ _ _ _ _ _ hT hX p le li l 107 (by omega) (by decide) (by decide) ⟨fun hz => Or.inl ⟨hz, rfl, rfl⟩, fun hz => Or.inr ⟨hz, rfl, rfl⟩⟩) (fun r h' hr => ?_)
  rcases hr with ⟨hxt0, rfl, rfl⟩ | ⟨hxt0, rfl, rfl⟩
  · skip
    refine Ev.run 4 (pc' := 4) (lv' := [(2, .int (nI 1)), (0, .ref 5), (1, .retAddr 3)]) (st' := [.retAddr 3, .int (nI 1)]) (h' := HN (RT g T (p + 1) 0 le li l) hl (RF (3, T, c, e))) rfl ?_
    refine Ev.call (a := 241) (as := [.retAddr 3]) (rest := [.int (nI 1)]) (lv0 := [(0, .retAddr 3)]) (Q1 := (fun z0 h' => z0 = some (.int (nI 5)) ∧ h' = HN (RT g T (p + 1) 0 le li l) hl (RF (3, T, c, e)))) rfl rfl (K_len3 _ _ ⟨rfl, rfl⟩) (fun r h' hr => ?_)
    obtain ⟨rfl, rfl⟩ := hr
    refine Ev.run 4 (pc' := 13) (lv' := [(2, .int (nI 1)), (0, .ref 5), (1, .retAddr 3)]) (st' := [.int (nI 1), .retAddr 3, .ref 5]) (h' := HN (RT g T (p + 1) 0 le li l) hl (RF (3, T, c, e))) rfl ?_
    refine Ev.call (a := 242) (as := [.retAddr 3, .int (nI 1)]) (rest := [.ref 5]) (lv0 := [(0, .retAddr 3), (1, .int (nI 1))]) (Q1 := (fun z0 h' => z0 = some (.int (nI 110)) ∧ h' = HN (RT g T (p + 1) 0 le li l) hl (RF (3, T, c, e)))) rfl rfl (K_chr3_1 _ _ ⟨rfl, rfl⟩) (fun r h' hr => ?_)
    obtain ⟨rfl, rfl⟩ := hr
    refine Ev.call (a := 58) (as := [.ref 5, .int (nI 110)]) (rest := []) (lv0 := [(0, .ref 5), (1, .int (nI 110))]) (Q1 := (fun z0 h' => (pkS g (p + 1) = 110 ∧ z0 = none ∧ h' = HN (RT g T (p + 1 + 1) 0 le li l) hl (RF (3, T, c, e))) ∨ (¬ pkS g (p + 1) = 110 ∧ z0 = none ∧ h' = HN (RT g T (p + 1) 1 le li l) hl (RF (3, T, c, e))))) rfl rfl (K_exp0 _ _ _ _ _ _ hT hX (p + 1) le li l 110 (by omega) (by decide) (by decide) ⟨fun hz => Or.inl ⟨hz, rfl, rfl⟩, fun hz => Or.inr ⟨hz, rfl, rfl⟩⟩) (fun r h' hr => ?_)
    rcases hr with ⟨hxt1, rfl, rfl⟩ | ⟨hxt1, rfl, rfl⟩
    · skip
      refine Ev.run 4 (pc' := 4) (lv' := [(2, .int (nI 2)), (0, .ref 5), (1, .retAddr 3)]) (st' := [.retAddr 3, .int (nI 2)]) (h' := HN (RT g T (p + 1 + 1) 0 le li l) hl (RF (3, T, c, e))) rfl ?_
      refine Ev.call (a := 241) (as := [.retAddr 3]) (rest := [.int (nI 2)]) (lv0 := [(0, .retAddr 3)]) (Q1 := (fun z0 h' => z0 = some (.int (nI 5)) ∧ h' = HN (RT g T (p + 1 + 1) 0 le li l) hl (RF (3, T, c, e)))) rfl rfl (K_len3 _ _ ⟨rfl, rfl⟩) (fun r h' hr => ?_)
      obtain ⟨rfl, rfl⟩ := hr
      refine Ev.run 4 (pc' := 13) (lv' := [(2, .int (nI 2)), (0, .ref 5), (1, .retAddr 3)]) (st' := [.int (nI 2), .retAddr 3, .ref 5]) (h' := HN (RT g T (p + 1 + 1) 0 le li l) hl (RF (3, T, c, e))) rfl ?_
      refine Ev.call (a := 242) (as := [.retAddr 3, .int (nI 2)]) (rest := [.ref 5]) (lv0 := [(0, .retAddr 3), (1, .int (nI 2))]) (Q1 := (fun z0 h' => z0 = some (.int (nI 111)) ∧ h' = HN (RT g T (p + 1 + 1) 0 le li l) hl (RF (3, T, c, e)))) rfl rfl (K_chr3_2 _ _ ⟨rfl, rfl⟩) (fun r h' hr => ?_)
      obtain ⟨rfl, rfl⟩ := hr
      refine Ev.call (a := 58) (as := [.ref 5, .int (nI 111)]) (rest := []) (lv0 := [(0, .ref 5), (1, .int (nI 111))]) (Q1 := (fun z0 h' => (pkS g (p + 1 + 1) = 111 ∧ z0 = none ∧ h' = HN (RT g T (p + 1 + 1 + 1) 0 le li l) hl (RF (3, T, c, e))) ∨ (¬ pkS g (p + 1 + 1) = 111 ∧ z0 = none ∧ h' = HN (RT g T (p + 1 + 1) 1 le li l) hl (RF (3, T, c, e))))) rfl rfl (K_exp0 _ _ _ _ _ _ hT hX (p + 1 + 1) le li l 111 (by omega) (by decide) (by decide) ⟨fun hz => Or.inl ⟨hz, rfl, rfl⟩, fun hz => Or.inr ⟨hz, rfl, rfl⟩⟩) (fun r h' hr => ?_)
      rcases hr with ⟨hxt2, rfl, rfl⟩ | ⟨hxt2, rfl, rfl⟩
      · skip
        refine Ev.run 4 (pc' := 4) (lv' := [(2, .int (nI 3)), (0, .ref 5), (1, .retAddr 3)]) (st' := [.retAddr 3, .int (nI 3)]) (h' := HN (RT g T (p + 1 + 1 + 1) 0 le li l) hl (RF (3, T, c, e))) rfl ?_
        refine Ev.call (a := 241) (as := [.retAddr 3]) (rest := [.int (nI 3)]) (lv0 := [(0, .retAddr 3)]) (Q1 := (fun z0 h' => z0 = some (.int (nI 5)) ∧ h' = HN (RT g T (p + 1 + 1 + 1) 0 le li l) hl (RF (3, T, c, e)))) rfl rfl (K_len3 _ _ ⟨rfl, rfl⟩) (fun r h' hr => ?_)
        obtain ⟨rfl, rfl⟩ := hr
        refine Ev.run 4 (pc' := 13) (lv' := [(2, .int (nI 3)), (0, .ref 5), (1, .retAddr 3)]) (st' := [.int (nI 3), .retAddr 3, .ref 5]) (h' := HN (RT g T (p + 1 + 1 + 1) 0 le li l) hl (RF (3, T, c, e))) rfl ?_
        refine Ev.call (a := 242) (as := [.retAddr 3, .int (nI 3)]) (rest := [.ref 5]) (lv0 := [(0, .retAddr 3), (1, .int (nI 3))]) (Q1 := (fun z0 h' => z0 = some (.int (nI 119)) ∧ h' = HN (RT g T (p + 1 + 1 + 1) 0 le li l) hl (RF (3, T, c, e)))) rfl rfl (K_chr3_3 _ _ ⟨rfl, rfl⟩) (fun r h' hr => ?_)
        obtain ⟨rfl, rfl⟩ := hr
        refine Ev.call (a := 58) (as := [.ref 5, .int (nI 119)]) (rest := []) (lv0 := [(0, .ref 5), (1, .int (nI 119))]) (Q1 := (fun z0 h' => (pkS g (p + 1 + 1 + 1) = 119 ∧ z0 = none ∧ h' = HN (RT g T (p + 1 + 1 + 1 + 1) 0 le li l) hl (RF (3, T, c, e))) ∨ (¬ pkS g (p + 1 + 1 + 1) = 119 ∧ z0 = none ∧ h' = HN (RT g T (p + 1 + 1 + 1) 1 le li l) hl (RF (3, T, c, e))))) rfl rfl (K_exp0 _ _ _ _ _ _ hT hX (p + 1 + 1 + 1) le li l 119 (by omega) (by decide) (by decide) ⟨fun hz => Or.inl ⟨hz, rfl, rfl⟩, fun hz => Or.inr ⟨hz, rfl, rfl⟩⟩) (fun r h' hr => ?_)
        rcases hr with ⟨hxt3, rfl, rfl⟩ | ⟨hxt3, rfl, rfl⟩
        · skip
          refine Ev.run 4 (pc' := 4) (lv' := [(2, .int (nI 4)), (0, .ref 5), (1, .retAddr 3)]) (st' := [.retAddr 3, .int (nI 4)]) (h' := HN (RT g T (p + 1 + 1 + 1 + 1) 0 le li l) hl (RF (3, T, c, e))) rfl ?_
          refine Ev.call (a := 241) (as := [.retAddr 3]) (rest := [.int (nI 4)]) (lv0 := [(0, .retAddr 3)]) (Q1 := (fun z0 h' => z0 = some (.int (nI 5)) ∧ h' = HN (RT g T (p + 1 + 1 + 1 + 1) 0 le li l) hl (RF (3, T, c, e)))) rfl rfl (K_len3 _ _ ⟨rfl, rfl⟩) (fun r h' hr => ?_)
          obtain ⟨rfl, rfl⟩ := hr
          refine Ev.run 4 (pc' := 13) (lv' := [(2, .int (nI 4)), (0, .ref 5), (1, .retAddr 3)]) (st' := [.int (nI 4), .retAddr 3, .ref 5]) (h' := HN (RT g T (p + 1 + 1 + 1 + 1) 0 le li l) hl (RF (3, T, c, e))) rfl ?_
          refine Ev.call (a := 242) (as := [.retAddr 3, .int (nI 4)]) (rest := [.ref 5]) (lv0 := [(0, .retAddr 3), (1, .int (nI 4))]) (Q1 := (fun z0 h' => z0 = some (.int (nI 32)) ∧ h' = HN (RT g T (p + 1 + 1 + 1 + 1) 0 le li l) hl (RF (3, T, c, e)))) rfl rfl (K_chr3_4 _ _ ⟨rfl, rfl⟩) (fun r h' hr => ?_)
          obtain ⟨rfl, rfl⟩ := hr
          refine Ev.call (a := 58) (as := [.ref 5, .int (nI 32)]) (rest := []) (lv0 := [(0, .ref 5), (1, .int (nI 32))]) (Q1 := (fun z0 h' => (pkS g (p + 1 + 1 + 1 + 1) = 32 ∧ z0 = none ∧ h' = HN (RT g T (p + 1 + 1 + 1 + 1 + 1) 0 le li l) hl (RF (3, T, c, e))) ∨ (¬ pkS g (p + 1 + 1 + 1 + 1) = 32 ∧ z0 = none ∧ h' = HN (RT g T (p + 1 + 1 + 1 + 1) 1 le li l) hl (RF (3, T, c, e))))) rfl rfl (K_exp0 _ _ _ _ _ _ hT hX (p + 1 + 1 + 1 + 1) le li l 32 (by omega) (by decide) (by decide) ⟨fun hz => Or.inl ⟨hz, rfl, rfl⟩, fun hz => Or.inr ⟨hz, rfl, rfl⟩⟩) (fun r h' hr => ?_)
          rcases hr with ⟨hxt4, rfl, rfl⟩ | ⟨hxt4, rfl, rfl⟩
          · skip
            refine Ev.run 4 (pc' := 4) (lv' := [(2, .int (nI 5)), (0, .ref 5), (1, .retAddr 3)]) (st' := [.retAddr 3, .int (nI 5)]) (h' := HN (RT g T (p + 1 + 1 + 1 + 1 + 1) 0 le li l) hl (RF (3, T, c, e))) rfl ?_
            refine Ev.call (a := 241) (as := [.retAddr 3]) (rest := [.int (nI 5)]) (lv0 := [(0, .retAddr 3)]) (Q1 := (fun z0 h' => z0 = some (.int (nI 5)) ∧ h' = HN (RT g T (p + 1 + 1 + 1 + 1 + 1) 0 le li l) hl (RF (3, T, c, e)))) rfl rfl (K_len3 _ _ ⟨rfl, rfl⟩) (fun r h' hr => ?_)
            obtain ⟨rfl, rfl⟩ := hr
            refine Ev.run 1 (pc' := 25) (lv' := [(2, .int (nI 5)), (0, .ref 5), (1, .retAddr 3)]) (st' := []) (h' := HN (RT g T (p + 1 + 1 + 1 + 1 + 1) 0 le li l) hl (RF (3, T, c, e))) rfl ?_
            refine Ev.ret (v := none) rfl ?_
            exact hq.1 _ (by unfold exS; rw [if_pos hxt0]; unfold exS; rw [if_pos hxt1]; unfold exS; rw [if_pos hxt2]; unfold exS; rw [if_pos hxt3]; unfold exS; rw [if_pos hxt4]; rfl)
          · skip
            refine Ev.run 4 (pc' := 4) (lv' := [(2, .int (nI 5)), (0, .ref 5), (1, .retAddr 3)]) (st' := [.retAddr 3, .int (nI 5)]) (h' := HN (RT g T (p + 1 + 1 + 1 + 1) 1 le li l) hl (RF (3, T, c, e))) rfl ?_
            refine Ev.call (a := 241) (as := [.retAddr 3]) (rest := [.int (nI 5)]) (lv0 := [(0, .retAddr 3)]) (Q1 := (fun z0 h' => z0 = some (.int (nI 5)) ∧ h' = HN (RT g T (p + 1 + 1 + 1 + 1) 1 le li l) hl (RF (3, T, c, e)))) rfl rfl (K_len3 _ _ ⟨rfl, rfl⟩) (fun r h' hr => ?_)
            obtain ⟨rfl, rfl⟩ := hr
            refine Ev.run 1 (pc' := 25) (lv' := [(2, .int (nI 5)), (0, .ref 5), (1, .retAddr 3)]) (st' := []) (h' := HN (RT g T (p + 1 + 1 + 1 + 1) 1 le li l) hl (RF (3, T, c, e))) rfl ?_
            refine Ev.ret (v := none) rfl ?_
            exact hq.2 _ (by unfold exS; rw [if_pos hxt0]; unfold exS; rw [if_pos hxt1]; unfold exS; rw [if_pos hxt2]; unfold exS; rw [if_pos hxt3]; unfold exS; rw [if_neg hxt4])
        · skip
          refine Ev.run 4 (pc' := 4) (lv' := [(2, .int (nI 4)), (0, .ref 5), (1, .retAddr 3)]) (st' := [.retAddr 3, .int (nI 4)]) (h' := HN (RT g T (p + 1 + 1 + 1) 1 le li l) hl (RF (3, T, c, e))) rfl ?_
          refine Ev.call (a := 241) (as := [.retAddr 3]) (rest := [.int (nI 4)]) (lv0 := [(0, .retAddr 3)]) (Q1 := (fun z0 h' => z0 = some (.int (nI 5)) ∧ h' = HN (RT g T (p + 1 + 1 + 1) 1 le li l) hl (RF (3, T, c, e)))) rfl rfl (K_len3 _ _ ⟨rfl, rfl⟩) (fun r h' hr => ?_)
          obtain ⟨rfl, rfl⟩ := hr
          refine Ev.run 4 (pc' := 13) (lv' := [(2, .int (nI 4)), (0, .ref 5), (1, .retAddr 3)]) (st' := [.int (nI 4), .retAddr 3, .ref 5]) (h' := HN (RT g T (p + 1 + 1 + 1) 1 le li l) hl (RF (3, T, c, e))) rfl ?_
          refine Ev.call (a := 242) (as := [.retAddr 3, .int (nI 4)]) (rest := [.ref 5]) (lv0 := [(0, .retAddr 3), (1, .int (nI 4))]) (Q1 := (fun z0 h' => z0 = some (.int (nI 32)) ∧ h' = HN (RT g T (p + 1 + 1 + 1) 1 le li l) hl (RF (3, T, c, e)))) rfl rfl (K_chr3_4 _ _ ⟨rfl, rfl⟩) (fun r h' hr => ?_)
          obtain ⟨rfl, rfl⟩ := hr
          refine Ev.call (a := 58) (as := [.ref 5, .int (nI 32)]) (rest := []) (lv0 := [(0, .ref 5), (1, .int (nI 32))]) (Q1 := (fun z0 h' => z0 = none ∧ h' = HN (RT g T (p + 1 + 1 + 1) 1 le li l) hl (RF (3, T, c, e)))) rfl rfl (K_exp1 _ _ _ _ _ _ hT hX (p + 1 + 1 + 1) le li l _ ⟨rfl, rfl⟩) (fun r h' hr => ?_)
          obtain ⟨rfl, rfl⟩ := hr
          refine Ev.run 4 (pc' := 4) (lv' := [(2, .int (nI 5)), (0, .ref 5), (1, .retAddr 3)]) (st' := [.retAddr 3, .int (nI 5)]) (h' := HN (RT g T (p + 1 + 1 + 1) 1 le li l) hl (RF (3, T, c, e))) rfl ?_
          refine Ev.call (a := 241) (as := [.retAddr 3]) (rest := [.int (nI 5)]) (lv0 := [(0, .retAddr 3)]) (Q1 := (fun z0 h' => z0 = some (.int (nI 5)) ∧ h' = HN (RT g T (p + 1 + 1 + 1) 1 le li l) hl (RF (3, T, c, e)))) rfl rfl (K_len3 _ _ ⟨rfl, rfl⟩) (fun r h' hr => ?_)
          obtain ⟨rfl, rfl⟩ := hr
          refine Ev.run 1 (pc' := 25) (lv' := [(2, .int (nI 5)), (0, .ref 5), (1, .retAddr 3)]) (st' := []) (h' := HN (RT g T (p + 1 + 1 + 1) 1 le li l) hl (RF (3, T, c, e))) rfl ?_
          refine Ev.ret (v := none) rfl ?_
          exact hq.2 _ (by unfold exS; rw [if_pos hxt0]; unfold exS; rw [if_pos hxt1]; unfold exS; rw [if_pos hxt2]; unfold exS; rw [if_neg hxt3])
      · skip
        refine Ev.run 4 (pc' := 4) (lv' := [(2, .int (nI 3)), (0, .ref 5), (1, .retAddr 3)]) (st' := [.retAddr 3, .int (nI 3)]) (h' := HN (RT g T (p + 1 + 1) 1 le li l) hl (RF (3, T, c, e))) rfl ?_
        refine Ev.call (a := 241) (as := [.retAddr 3]) (rest := [.int (nI 3)]) (lv0 := [(0, .retAddr 3)]) (Q1 := (fun z0 h' => z0 = some (.int (nI 5)) ∧ h' = HN (RT g T (p + 1 + 1) 1 le li l) hl (RF (3, T, c, e)))) rfl rfl (K_len3 _ _ ⟨rfl, rfl⟩) (fun r h' hr => ?_)
        obtain ⟨rfl, rfl⟩ := hr
        refine Ev.run 4 (pc' := 13) (lv' := [(2, .int (nI 3)), (0, .ref 5), (1, .retAddr 3)]) (st' := [.int (nI 3), .retAddr 3, .ref 5]) (h' := HN (RT g T (p + 1 + 1) 1 le li l) hl (RF (3, T, c, e))) rfl ?_
        refine Ev.call (a := 242) (as := [.retAddr 3, .int (nI 3)]) (rest := [.ref 5]) (lv0 := [(0, .retAddr 3), (1, .int (nI 3))]) (Q1 := (fun z0 h' => z0 = some (.int (nI 119)) ∧ h' = HN (RT g T (p + 1 + 1) 1 le li l) hl (RF (3, T, c, e)))) rfl rfl (K_chr3_3 _ _ ⟨rfl, rfl⟩) (fun r h' hr => ?_)
        obtain ⟨rfl, rfl⟩ := hr
        refine Ev.call (a := 58) (as := [.ref 5, .int (nI 119)]) (rest := []) (lv0 := [(0, .ref 5), (1, .int (nI 119))]) (Q1 := (fun z0 h' => z0 = none ∧ h' = HN (RT g T (p + 1 + 1) 1 le li l) hl (RF (3, T, c, e)))) rfl rfl (K_exp1 _ _ _ _ _ _ hT hX (p + 1 + 1) le li l _ ⟨rfl, rfl⟩) (fun r h' hr => ?_)
        obtain ⟨rfl, rfl⟩ := hr
        refine Ev.run 4 (pc' := 4) (lv' := [(2, .int (nI 4)), (0, .ref 5), (1, .retAddr 3)]) (st' := [.retAddr 3, .int (nI 4)]) (h' := HN (RT g T (p + 1 + 1) 1 le li l) hl (RF (3, T, c, e))) rfl ?_
        refine Ev.call (a := 241) (as := [.retAddr 3]) (rest := [.int (nI 4)]) (lv0 := [(0, .retAddr 3)]) (Q1 := (fun z0 h' => z0 = some (.int (nI 5)) ∧ h' = HN (RT g T (p + 1 + 1) 1 le li l) hl (RF (3, T, c, e)))) rfl rfl (K_len3 _ _ ⟨rfl, rfl⟩) (fun r h' hr => ?_)
        obtain ⟨rfl, rfl⟩ := hr
        refine Ev.run 4 (pc' := 13) (lv' := [(2, .int (nI 4)), (0, .ref 5), (1, .retAddr 3)]) (st' := [.int (nI 4), .retAddr 3, .ref 5]) (h' := HN (RT g T (p + 1 + 1) 1 le li l) hl (RF (3, T, c, e))) rfl ?_
        refine Ev.call (a := 242) (as := [.retAddr 3, .int (nI 4)]) (rest := [.ref 5]) (lv0 := [(0, .retAddr 3), (1, .int (nI 4))]) (Q1 := (fun z0 h' => z0 = some (.int (nI 32)) ∧ h' = HN (RT g T (p + 1 + 1) 1 le li l) hl (RF (3, T, c, e)))) rfl rfl (K_chr3_4 _ _ ⟨rfl, rfl⟩) (fun r h' hr => ?_)
        obtain ⟨rfl, rfl⟩ := hr
        refine Ev.call (a := 58) (as := [.ref 5, .int (nI 32)]) (rest := []) (lv0 := [(0, .ref 5), (1, .int (nI 32))]) (Q1 := (fun z0 h' => z0 = none ∧ h' = HN (RT g T (p + 1 + 1) 1 le li l) hl (RF (3, T, c, e)))) rfl rfl (K_exp1 _ _ _ _ _ _ hT hX (p + 1 + 1) le li l _ ⟨rfl, rfl⟩) (fun r h' hr => ?_)
        obtain ⟨rfl, rfl⟩ := hr
        refine Ev.run 4 (pc' := 4) (lv' := [(2, .int (nI 5)), (0, .ref 5), (1, .retAddr 3)]) (st' := [.retAddr 3, .int (nI 5)]) (h' := HN (RT g T (p + 1 + 1) 1 le li l) hl (RF (3, T, c, e))) rfl ?_
        refine Ev.call (a := 241) (as := [.retAddr 3]) (rest := [.int (nI 5)]) (lv0 := [(0, .retAddr 3)]) (Q1 := (fun z0 h' => z0 = some (.int (nI 5)) ∧ h' = HN (RT g T (p + 1 + 1) 1 le li l) hl (RF (3, T, c, e)))) rfl rfl (K_len3 _ _ ⟨rfl, rfl⟩) (fun r h' hr => ?_)
        obtain ⟨rfl, rfl⟩ := hr
        refine Ev.run 1 (pc' := 25) (lv' := [(2, .int (nI 5)), (0, .ref 5), (1, .retAddr 3)]) (st' := []) (h' := HN (RT g T (p + 1 + 1) 1 le li l) hl (RF (3, T, c, e))) rfl ?_
        refine Ev.ret (v := none) rfl ?_
        exact hq.2 _ (by unfold exS; rw [if_pos hxt0]; unfold exS; rw [if_pos hxt1]; unfold exS; rw [if_neg hxt2])
    · skip
      refine Ev.run 4 (pc' := 4) (lv' := [(2, .int (nI 2)), (0, .ref 5), (1, .retAddr 3)]) (st' := [.retAddr 3, .int (nI 2)]) (h' := HN (RT g T (p + 1) 1 le li l) hl (RF (3, T, c, e))) rfl ?_
      refine Ev.call (a := 241) (as := [.retAddr 3]) (rest := [.int (nI 2)]) (lv0 := [(0, .retAddr 3)]) (Q1 := (fun z0 h' => z0 = some (.int (nI 5)) ∧ h' = HN (RT g T (p + 1) 1 le li l) hl (RF (3, T, c, e)))) rfl rfl (K_len3 _ _ ⟨rfl, rfl⟩) (fun r h' hr => ?_)
      obtain ⟨rfl, rfl⟩ := hr
      refine Ev.run 4 (pc' := 13) (lv' := [(2, .int (nI 2)), (0, .ref 5), (1, .retAddr 3)]) (st' := [.int (nI 2), .retAddr 3, .ref 5]) (h' := HN (RT g T (p + 1) 1 le li l) hl (RF (3, T, c, e))) rfl ?_
      refine Ev.call (a := 242) (as := [.retAddr 3, .int (nI 2)]) (rest := [.ref 5]) (lv0 := [(0, .retAddr 3), (1, .int (nI 2))]) (Q1 := (fun z0 h' => z0 = some (.int (nI 111)) ∧ h' = HN (RT g T (p + 1) 1 le li l) hl (RF (3, T, c, e)))) rfl rfl (K_chr3_2 _ _ ⟨rfl, rfl⟩) (fun r h' hr => ?_)
      obtain ⟨rfl, rfl⟩ := hr
      refine Ev.call (a := 58) (as := [.ref 5, .int (nI 111)]) (rest := []) (lv0 := [(0, .ref 5), (1, .int (nI 111))]) (Q1 := (fun z0 h' => z0 = none ∧ h' = HN (RT g T (p + 1) 1 le li l) hl (RF (3, T, c, e)))) rfl rfl (K_exp1 _ _ _ _ _ _ hT hX (p + 1) le li l _ ⟨rfl, rfl⟩) (fun r h' hr => ?_)
      obtain ⟨rfl, rfl⟩ := hr
      refine Ev.run 4 (pc' := 4) (lv' := [(2, .int (nI 3)), (0, .ref 5), (1, .retAddr 3)]) (st' := [.retAddr 3, .int (nI 3)]) (h' := HN (RT g T (p + 1) 1 le li l) hl (RF (3, T, c, e))) rfl ?_
      refine Ev.call (a := 241) (as := [.retAddr 3]) (rest := [.int (nI 3)]) (lv0 := [(0, .retAddr 3)]) (Q1 := (fun z0 h' => z0 = some (.int (nI 5)) ∧ h' = HN (RT g T (p + 1) 1 le li l) hl (RF (3, T, c, e)))) rfl rfl (K_len3 _ _ ⟨rfl, rfl⟩) (fun r h' hr => ?_)
      obtain ⟨rfl, rfl⟩ := hr
      refine Ev.run 4 (pc' := 13) (lv' := [(2, .int (nI 3)), (0, .ref 5), (1, .retAddr 3)]) (st' := [.int (nI 3), .retAddr 3, .ref 5]) (h' := HN (RT g T (p + 1) 1 le li l) hl (RF (3, T, c, e))) rfl ?_
      refine Ev.call (a := 242) (as := [.retAddr 3, .int (nI 3)]) (rest := [.ref 5]) (lv0 := [(0, .retAddr 3), (1, .int (nI 3))]) (Q1 := (fun z0 h' => z0 = some (.int (nI 119)) ∧ h' = HN (RT g T (p + 1) 1 le li l) hl (RF (3, T, c, e)))) rfl rfl (K_chr3_3 _ _ ⟨rfl, rfl⟩) (fun r h' hr => ?_)
      obtain ⟨rfl, rfl⟩ := hr
      refine Ev.call (a := 58) (as := [.ref 5, .int (nI 119)]) (rest := []) (lv0 := [(0, .ref 5), (1, .int (nI 119))]) (Q1 := (fun z0 h' => z0 = none ∧ h' = HN (RT g T (p + 1) 1 le li l) hl (RF (3, T, c, e)))) rfl rfl (K_exp1 _ _ _ _ _ _ hT hX (p + 1) le li l _ ⟨rfl, rfl⟩) (fun r h' hr => ?_)
      obtain ⟨rfl, rfl⟩ := hr
      refine Ev.run 4 (pc' := 4) (lv' := [(2, .int (nI 4)), (0, .ref 5), (1, .retAddr 3)]) (st' := [.retAddr 3, .int (nI 4)]) (h' := HN (RT g T (p + 1) 1 le li l) hl (RF (3, T, c, e))) rfl ?_
      refine Ev.call (a := 241) (as := [.retAddr 3]) (rest := [.int (nI 4)]) (lv0 := [(0, .retAddr 3)]) (Q1 := (fun z0 h' => z0 = some (.int (nI 5)) ∧ h' = HN (RT g T (p + 1) 1 le li l) hl (RF (3, T, c, e)))) rfl rfl (K_len3 _ _ ⟨rfl, rfl⟩) (fun r h' hr => ?_)
      obtain ⟨rfl, rfl⟩ := hr
      refine Ev.run 4 (pc' := 13) (lv' := [(2, .int (nI 4)), (0, .ref 5), (1, .retAddr 3)]) (st' := [.int (nI 4), .retAddr 3, .ref 5]) (h' := HN (RT g T (p + 1) 1 le li l) hl (RF (3, T, c, e))) rfl ?_
      refine Ev.call (a := 242) (as := [.retAddr 3, .int (nI 4)]) (rest := [.ref 5]) (lv0 := [(0, .retAddr 3), (1, .int (nI 4))]) (Q1 := (fun z0 h' => z0 = some (.int (nI 32)) ∧ h' = HN (RT g T (p + 1) 1 le li l) hl (RF (3, T, c, e)))) rfl rfl (K_chr3_4 _ _ ⟨rfl, rfl⟩) (fun r h' hr => ?_)
      obtain ⟨rfl, rfl⟩ := hr
      refine Ev.call (a := 58) (as := [.ref 5, .int (nI 32)]) (rest := []) (lv0 := [(0, .ref 5), (1, .int (nI 32))]) (Q1 := (fun z0 h' => z0 = none ∧ h' = HN (RT g T (p + 1) 1 le li l) hl (RF (3, T, c, e)))) rfl rfl (K_exp1 _ _ _ _ _ _ hT hX (p + 1) le li l _ ⟨rfl, rfl⟩) (fun r h' hr => ?_)
      obtain ⟨rfl, rfl⟩ := hr
      refine Ev.run 4 (pc' := 4) (lv' := [(2, .int (nI 5)), (0, .ref 5), (1, .retAddr 3)]) (st' := [.retAddr 3, .int (nI 5)]) (h' := HN (RT g T (p + 1) 1 le li l) hl (RF (3, T, c, e))) rfl ?_
      refine Ev.call (a := 241) (as := [.retAddr 3]) (rest := [.int (nI 5)]) (lv0 := [(0, .retAddr 3)]) (Q1 := (fun z0 h' => z0 = some (.int (nI 5)) ∧ h' = HN (RT g T (p + 1) 1 le li l) hl (RF (3, T, c, e)))) rfl rfl (K_len3 _ _ ⟨rfl, rfl⟩) (fun r h' hr => ?_)
      obtain ⟨rfl, rfl⟩ := hr
      refine Ev.run 1 (pc' := 25) (lv' := [(2, .int (nI 5)), (0, .ref 5), (1, .retAddr 3)]) (st' := []) (h' := HN (RT g T (p + 1) 1 le li l) hl (RF (3, T, c, e))) rfl ?_
      refine Ev.ret (v := none) rfl ?_
      exact hq.2 _ (by unfold exS; rw [if_pos hxt0]; unfold exS; rw [if_neg hxt1])
  · skip
    refine Ev.run 4 (pc' := 4) (lv' := [(2, .int (nI 1)), (0, .ref 5), (1, .retAddr 3)]) (st' := [.retAddr 3, .int (nI 1)]) (h' := HN (RT g T p 1 le li l) hl (RF (3, T, c, e))) rfl ?_
    refine Ev.call (a := 241) (as := [.retAddr 3]) (rest := [.int (nI 1)]) (lv0 := [(0, .retAddr 3)]) (Q1 := (fun z0 h' => z0 = some (.int (nI 5)) ∧ h' = HN (RT g T p 1 le li l) hl (RF (3, T, c, e)))) rfl rfl (K_len3 _ _ ⟨rfl, rfl⟩) (fun r h' hr => ?_)
    obtain ⟨rfl, rfl⟩ := hr
    refine Ev.run 4 (pc' := 13) (lv' := [(2, .int (nI 1)), (0, .ref 5), (1, .retAddr 3)]) (st' := [.int (nI 1), .retAddr 3, .ref 5]) (h' := HN (RT g T p 1 le li l) hl (RF (3, T, c, e))) rfl ?_
    refine Ev.call (a := 242) (as := [.retAddr 3, .int (nI 1)]) (rest := [.ref 5]) (lv0 := [(0, .retAddr 3), (1, .int (nI 1))]) (Q1 := (fun z0 h' => z0 = some (.int (nI 110)) ∧ h' = HN (RT g T p 1 le li l) hl (RF (3, T, c, e)))) rfl rfl (K_chr3_1 _ _ ⟨rfl, rfl⟩) (fun r h' hr => ?_)
    obtain ⟨rfl, rfl⟩ := hr
    refine Ev.call (a := 58) (as := [.ref 5, .int (nI 110)]) (rest := []) (lv0 := [(0, .ref 5), (1, .int (nI 110))]) (Q1 := (fun z0 h' => z0 = none ∧ h' = HN (RT g T p 1 le li l) hl (RF (3, T, c, e)))) rfl rfl (K_exp1 _ _ _ _ _ _ hT hX p le li l _ ⟨rfl, rfl⟩) (fun r h' hr => ?_)
    obtain ⟨rfl, rfl⟩ := hr
    refine Ev.run 4 (pc' := 4) (lv' := [(2, .int (nI 2)), (0, .ref 5), (1, .retAddr 3)]) (st' := [.retAddr 3, .int (nI 2)]) (h' := HN (RT g T p 1 le li l) hl (RF (3, T, c, e))) rfl ?_
    refine Ev.call (a := 241) (as := [.retAddr 3]) (rest := [.int (nI 2)]) (lv0 := [(0, .retAddr 3)]) (Q1 := (fun z0 h' => z0 = some (.int (nI 5)) ∧ h' = HN (RT g T p 1 le li l) hl (RF (3, T, c, e)))) rfl rfl (K_len3 _ _ ⟨rfl, rfl⟩) (fun r h' hr => ?_)
    obtain ⟨rfl, rfl⟩ := hr
    refine Ev.run 4 (pc' := 13) (lv' := [(2, .int (nI 2)), (0, .ref 5), (1, .retAddr 3)]) (st' := [.int (nI 2), .retAddr 3, .ref 5]) (h' := HN (RT g T p 1 le li l) hl (RF (3, T, c, e))) rfl ?_
    refine Ev.call (a := 242) (as := [.retAddr 3, .int (nI 2)]) (rest := [.ref 5]) (lv0 := [(0, .retAddr 3), (1, .int (nI 2))]) (Q1 := (fun z0 h' => z0 = some (.int (nI 111)) ∧ h' = HN (RT g T p 1 le li l) hl (RF (3, T, c, e)))) rfl rfl (K_chr3_2 _ _ ⟨rfl, rfl⟩) (fun r h' hr => ?_)
    obtain ⟨rfl, rfl⟩ := hr
    refine Ev.call (a := 58) (as := [.ref 5, .int (nI 111)]) (rest := []) (lv0 := [(0, .ref 5), (1, .int (nI 111))]) (Q1 := (fun z0 h' => z0 = none ∧ h' = HN (RT g T p 1 le li l) hl (RF (3, T, c, e)))) rfl rfl (K_exp1 _ _ _ _ _ _ hT hX p le li l _ ⟨rfl, rfl⟩) (fun r h' hr => ?_)
    obtain ⟨rfl, rfl⟩ := hr
    refine Ev.run 4 (pc' := 4) (lv' := [(2, .int (nI 3)), (0, .ref 5), (1, .retAddr 3)]) (st' := [.retAddr 3, .int (nI 3)]) (h' := HN (RT g T p 1 le li l) hl (RF (3, T, c, e))) rfl ?_
    refine Ev.call (a := 241) (as := [.retAddr 3]) (rest := [.int (nI 3)]) (lv0 := [(0, .retAddr 3)]) (Q1 := (fun z0 h' => z0 = some (.int (nI 5)) ∧ h' = HN (RT g T p 1 le li l) hl (RF (3, T, c, e)))) rfl rfl (K_len3 _ _ ⟨rfl, rfl⟩) (fun r h' hr => ?_)
    obtain ⟨rfl, rfl⟩ := hr
    refine Ev.run 4 (pc' := 13) (lv' := [(2, .int (nI 3)), (0, .ref 5), (1, .retAddr 3)]) (st' := [.int (nI 3), .retAddr 3, .ref 5]) (h' := HN (RT g T p 1 le li l) hl (RF (3, T, c, e))) rfl ?_
    refine Ev.call (a := 242) (as := [.retAddr 3, .int (nI 3)]) (rest := [.ref 5]) (lv0 := [(0, .retAddr 3), (1, .int (nI 3))]) (Q1 := (fun z0 h' => z0 = some (.int (nI 119)) ∧ h' = HN (RT g T p 1 le li l) hl (RF (3, T, c, e)))) rfl rfl (K_chr3_3 _ _ ⟨rfl, rfl⟩) (fun r h' hr => ?_)
    obtain ⟨rfl, rfl⟩ := hr
    refine Ev.call (a := 58) (as := [.ref 5, .int (nI 119)]) (rest := []) (lv0 := [(0, .ref 5), (1, .int (nI 119))]) (Q1 := (fun z0 h' => z0 = none ∧ h' = HN (RT g T p 1 le li l) hl (RF (3, T, c, e)))) rfl rfl (K_exp1 _ _ _ _ _ _ hT hX p le li l _ ⟨rfl, rfl⟩) (fun r h' hr => ?_)
    obtain ⟨rfl, rfl⟩ := hr
    refine Ev.run 4 (pc' := 4) (lv' := [(2, .int (nI 4)), (0, .ref 5), (1, .retAddr 3)]) (st' := [.retAddr 3, .int (nI 4)]) (h' := HN (RT g T p 1 le li l) hl (RF (3, T, c, e))) rfl ?_
    refine Ev.call (a := 241) (as := [.retAddr 3]) (rest := [.int (nI 4)]) (lv0 := [(0, .retAddr 3)]) (Q1 := (fun z0 h' => z0 = some (.int (nI 5)) ∧ h' = HN (RT g T p 1 le li l) hl (RF (3, T, c, e)))) rfl rfl (K_len3 _ _ ⟨rfl, rfl⟩) (fun r h' hr => ?_)
    obtain ⟨rfl, rfl⟩ := hr
    refine Ev.run 4 (pc' := 13) (lv' := [(2, .int (nI 4)), (0, .ref 5), (1, .retAddr 3)]) (st' := [.int (nI 4), .retAddr 3, .ref 5]) (h' := HN (RT g T p 1 le li l) hl (RF (3, T, c, e))) rfl ?_
    refine Ev.call (a := 242) (as := [.retAddr 3, .int (nI 4)]) (rest := [.ref 5]) (lv0 := [(0, .retAddr 3), (1, .int (nI 4))]) (Q1 := (fun z0 h' => z0 = some (.int (nI 32)) ∧ h' = HN (RT g T p 1 le li l) hl (RF (3, T, c, e)))) rfl rfl (K_chr3_4 _ _ ⟨rfl, rfl⟩) (fun r h' hr => ?_)
    obtain ⟨rfl, rfl⟩ := hr
    refine Ev.call (a := 58) (as := [.ref 5, .int (nI 32)]) (rest := []) (lv0 := [(0, .ref 5), (1, .int (nI 32))]) (Q1 := (fun z0 h' => z0 = none ∧ h' = HN (RT g T p 1 le li l) hl (RF (3, T, c, e)))) rfl rfl (K_exp1 _ _ _ _ _ _ hT hX p le li l _ ⟨rfl, rfl⟩) (fun r h' hr => ?_)
    obtain ⟨rfl, rfl⟩ := hr
    refine Ev.run 4 (pc' := 4) (lv' := [(2, .int (nI 5)), (0, .ref 5), (1, .retAddr 3)]) (st' := [.retAddr 3, .int (nI 5)]) (h' := HN (RT g T p 1 le li l) hl (RF (3, T, c, e))) rfl ?_
    refine Ev.call (a := 241) (as := [.retAddr 3]) (rest := [.int (nI 5)]) (lv0 := [(0, .retAddr 3)]) (Q1 := (fun z0 h' => z0 = some (.int (nI 5)) ∧ h' = HN (RT g T p 1 le li l) hl (RF (3, T, c, e)))) rfl rfl (K_len3 _ _ ⟨rfl, rfl⟩) (fun r h' hr => ?_)
    obtain ⟨rfl, rfl⟩ := hr
    refine Ev.run 1 (pc' := 25) (lv' := [(2, .int (nI 5)), (0, .ref 5), (1, .retAddr 3)]) (st' := []) (h' := HN (RT g T p 1 le li l) hl (RF (3, T, c, e))) rfl ?_
    refine Ev.ret (v := none) rfl ?_
    exact hq.2 _ (by  unfold exS; rw [if_neg hxt0])
theorem K_all1_7 {L : Nat} {xs : Nat → Int32} (d : Nat) (g : Nat → Nat → Nat) (hl : Nat → Nat → Int64) (T c e : Nat) (hT : TT T) (hX : TX g) (p le li : Nat) (l : List Nat) {Q : Po} (hq : Q none (HN (RT g T p 1 le li l) hl (RF (3, T, c, e)))) : Ev L xs (d + 6) 57 0 [(0, .ref 5), (1, .retAddr 7)] [] (HN (RT g T p 1 le li l) hl (RF (3, T, c, e))) Q := by
  have hN := hX.1
  refine Ev.run 4 (pc' := 4) (lv' := [(2, .int (nI 0)), (0, .ref 5), (1, .retAddr 7)]) (st' := [.retAddr 7, .int (nI 0)]) (h' := HN (RT g T p 1 le li l) hl (RF (3, T, c, e))) rfl ?_
  refine Ev.call (a := 241) (as := [.retAddr 7]) (rest := [.int (nI 0)]) (lv0 := [(0, .retAddr 7)]) (Q1 := (fun z0 h' => z0 = some (.int (nI 5)) ∧ h' = HN (RT g T p 1 le li l) hl (RF (3, T, c, e)))) rfl rfl (K_len7 _ _ ⟨rfl, rfl⟩) (fun r h' hr => ?_)
  obtain ⟨rfl, rfl⟩ := hr
  refine Ev.run 4 (pc' := 13) (lv' := [(2, .int (nI 0)), (0, .ref 5), (1, .retAddr 7)]) (st' := [.int (nI 0), .retAddr 7, .ref 5]) (h' := HN (RT g T p 1 le li l) hl (RF (3, T, c, e))) rfl ?_
  refine Ev.call (a := 242) (as := [.retAddr 7, .int (nI 0)]) (rest := [.ref 5]) (lv0 := [(0, .retAddr 7), (1, .int (nI 0))]) (Q1 := (fun z0 h' => z0 = some (.int (nI 101)) ∧ h' = HN (RT g T p 1 le li l) hl (RF (3, T, c, e)))) rfl rfl (K_chr7_0 _ _ ⟨rfl, rfl⟩) (fun r h' hr => ?_)
  obtain ⟨rfl, rfl⟩ := hr
  refine Ev.call (a := 58) (as := [.ref 5, .int (nI 101)]) (rest := []) (lv0 := [(0, .ref 5), (1, .int (nI 101))]) (Q1 := (fun z0 h' => z0 = none ∧ h' = HN (RT g T p 1 le li l) hl (RF (3, T, c, e)))) rfl rfl (K_exp1 _ _ _ _ _ _ hT hX p le li l _ ⟨rfl, rfl⟩) (fun r h' hr => ?_)
  obtain ⟨rfl, rfl⟩ := hr
  refine Ev.run 4 (pc' := 4) (lv' := [(2, .int (nI 1)), (0, .ref 5), (1, .retAddr 7)]) (st' := [.retAddr 7, .int (nI 1)]) (h' := HN (RT g T p 1 le li l) hl (RF (3, T, c, e))) rfl ?_
  refine Ev.call (a := 241) (as := [.retAddr 7]) (rest := [.int (nI 1)]) (lv0 := [(0, .retAddr 7)]) (Q1 := (fun z0 h' => z0 = some (.int (nI 5)) ∧ h' = HN (RT g T p 1 le li l) hl (RF (3, T, c, e)))) rfl rfl (K_len7 _ _ ⟨rfl, rfl⟩) (fun r h' hr => ?_)
  obtain ⟨rfl, rfl⟩ := hr
  refine Ev.run 4 (pc' := 13) (lv' := [(2, .int (nI 1)), (0, .ref 5), (1, .retAddr 7)]) (st' := [.int (nI 1), .retAddr 7, .ref 5]) (h' := HN (RT g T p 1 le li l) hl (RF (3, T, c, e))) rfl ?_
  refine Ev.call (a := 242) (as := [.retAddr 7, .int (nI 1)]) (rest := [.ref 5]) (lv0 := [(0, .retAddr 7), (1, .int (nI 1))]) (Q1 := (fun z0 h' => z0 = some (.int (nI 97)) ∧ h' = HN (RT g T p 1 le li l) hl (RF (3, T, c, e)))) rfl rfl (K_chr7_1 _ _ ⟨rfl, rfl⟩) (fun r h' hr => ?_)
  obtain ⟨rfl, rfl⟩ := hr
  refine Ev.call (a := 58) (as := [.ref 5, .int (nI 97)]) (rest := []) (lv0 := [(0, .ref 5), (1, .int (nI 97))]) (Q1 := (fun z0 h' => z0 = none ∧ h' = HN (RT g T p 1 le li l) hl (RF (3, T, c, e)))) rfl rfl (K_exp1 _ _ _ _ _ _ hT hX p le li l _ ⟨rfl, rfl⟩) (fun r h' hr => ?_)
  obtain ⟨rfl, rfl⟩ := hr
  refine Ev.run 4 (pc' := 4) (lv' := [(2, .int (nI 2)), (0, .ref 5), (1, .retAddr 7)]) (st' := [.retAddr 7, .int (nI 2)]) (h' := HN (RT g T p 1 le li l) hl (RF (3, T, c, e))) rfl ?_
  refine Ev.call (a := 241) (as := [.retAddr 7]) (rest := [.int (nI 2)]) (lv0 := [(0, .retAddr 7)]) (Q1 := (fun z0 h' => z0 = some (.int (nI 5)) ∧ h' = HN (RT g T p 1 le li l) hl (RF (3, T, c, e)))) rfl rfl (K_len7 _ _ ⟨rfl, rfl⟩) (fun r h' hr => ?_)
  obtain ⟨rfl, rfl⟩ := hr
  refine Ev.run 4 (pc' := 13) (lv' := [(2, .int (nI 2)), (0, .ref 5), (1, .retAddr 7)]) (st' := [.int (nI 2), .retAddr 7, .ref 5]) (h' := HN (RT g T p 1 le li l) hl (RF (3, T, c, e))) rfl ?_
  refine Ev.call (a := 242) (as := [.retAddr 7, .int (nI 2)]) (rest := [.ref 5]) (lv0 := [(0, .retAddr 7), (1, .int (nI 2))]) (Q1 := (fun z0 h' => z0 = some (.int (nI 115)) ∧ h' = HN (RT g T p 1 le li l) hl (RF (3, T, c, e)))) rfl rfl (K_chr7_2 _ _ ⟨rfl, rfl⟩) (fun r h' hr => ?_)
  obtain ⟨rfl, rfl⟩ := hr
  refine Ev.call (a := 58) (as := [.ref 5, .int (nI 115)]) (rest := []) (lv0 := [(0, .ref 5), (1, .int (nI 115))]) (Q1 := (fun z0 h' => z0 = none ∧ h' = HN (RT g T p 1 le li l) hl (RF (3, T, c, e)))) rfl rfl (K_exp1 _ _ _ _ _ _ hT hX p le li l _ ⟨rfl, rfl⟩) (fun r h' hr => ?_)
  obtain ⟨rfl, rfl⟩ := hr
  refine Ev.run 4 (pc' := 4) (lv' := [(2, .int (nI 3)), (0, .ref 5), (1, .retAddr 7)]) (st' := [.retAddr 7, .int (nI 3)]) (h' := HN (RT g T p 1 le li l) hl (RF (3, T, c, e))) rfl ?_
  refine Ev.call (a := 241) (as := [.retAddr 7]) (rest := [.int (nI 3)]) (lv0 := [(0, .retAddr 7)]) (Q1 := (fun z0 h' => z0 = some (.int (nI 5)) ∧ h' = HN (RT g T p 1 le li l) hl (RF (3, T, c, e)))) rfl rfl (K_len7 _ _ ⟨rfl, rfl⟩) (fun r h' hr => ?_)
  obtain ⟨rfl, rfl⟩ := hr
  refine Ev.run 4 (pc' := 13) (lv' := [(2, .int (nI 3)), (0, .ref 5), (1, .retAddr 7)]) (st' := [.int (nI 3), .retAddr 7, .ref 5]) (h' := HN (RT g T p 1 le li l) hl (RF (3, T, c, e))) rfl ?_
  refine Ev.call (a := 242) (as := [.retAddr 7, .int (nI 3)]) (rest := [.ref 5]) (lv0 := [(0, .retAddr 7), (1, .int (nI 3))]) (Q1 := (fun z0 h' => z0 = some (.int (nI 116)) ∧ h' = HN (RT g T p 1 le li l) hl (RF (3, T, c, e)))) rfl rfl (K_chr7_3 _ _ ⟨rfl, rfl⟩) (fun r h' hr => ?_)
  obtain ⟨rfl, rfl⟩ := hr
  refine Ev.call (a := 58) (as := [.ref 5, .int (nI 116)]) (rest := []) (lv0 := [(0, .ref 5), (1, .int (nI 116))]) (Q1 := (fun z0 h' => z0 = none ∧ h' = HN (RT g T p 1 le li l) hl (RF (3, T, c, e)))) rfl rfl (K_exp1 _ _ _ _ _ _ hT hX p le li l _ ⟨rfl, rfl⟩) (fun r h' hr => ?_)
  obtain ⟨rfl, rfl⟩ := hr
  refine Ev.run 4 (pc' := 4) (lv' := [(2, .int (nI 4)), (0, .ref 5), (1, .retAddr 7)]) (st' := [.retAddr 7, .int (nI 4)]) (h' := HN (RT g T p 1 le li l) hl (RF (3, T, c, e))) rfl ?_
  refine Ev.call (a := 241) (as := [.retAddr 7]) (rest := [.int (nI 4)]) (lv0 := [(0, .retAddr 7)]) (Q1 := (fun z0 h' => z0 = some (.int (nI 5)) ∧ h' = HN (RT g T p 1 le li l) hl (RF (3, T, c, e)))) rfl rfl (K_len7 _ _ ⟨rfl, rfl⟩) (fun r h' hr => ?_)
  obtain ⟨rfl, rfl⟩ := hr
  refine Ev.run 4 (pc' := 13) (lv' := [(2, .int (nI 4)), (0, .ref 5), (1, .retAddr 7)]) (st' := [.int (nI 4), .retAddr 7, .ref 5]) (h' := HN (RT g T p 1 le li l) hl (RF (3, T, c, e))) rfl ?_
  refine Ev.call (a := 242) (as := [.retAddr 7, .int (nI 4)]) (rest := [.ref 5]) (lv0 := [(0, .retAddr 7), (1, .int (nI 4))]) (Q1 := (fun z0 h' => z0 = some (.int (nI 32)) ∧ h' = HN (RT g T p 1 le li l) hl (RF (3, T, c, e)))) rfl rfl (K_chr7_4 _ _ ⟨rfl, rfl⟩) (fun r h' hr => ?_)
  obtain ⟨rfl, rfl⟩ := hr
  refine Ev.call (a := 58) (as := [.ref 5, .int (nI 32)]) (rest := []) (lv0 := [(0, .ref 5), (1, .int (nI 32))]) (Q1 := (fun z0 h' => z0 = none ∧ h' = HN (RT g T p 1 le li l) hl (RF (3, T, c, e)))) rfl rfl (K_exp1 _ _ _ _ _ _ hT hX p le li l _ ⟨rfl, rfl⟩) (fun r h' hr => ?_)
  obtain ⟨rfl, rfl⟩ := hr
  refine Ev.run 4 (pc' := 4) (lv' := [(2, .int (nI 5)), (0, .ref 5), (1, .retAddr 7)]) (st' := [.retAddr 7, .int (nI 5)]) (h' := HN (RT g T p 1 le li l) hl (RF (3, T, c, e))) rfl ?_
  refine Ev.call (a := 241) (as := [.retAddr 7]) (rest := [.int (nI 5)]) (lv0 := [(0, .retAddr 7)]) (Q1 := (fun z0 h' => z0 = some (.int (nI 5)) ∧ h' = HN (RT g T p 1 le li l) hl (RF (3, T, c, e)))) rfl rfl (K_len7 _ _ ⟨rfl, rfl⟩) (fun r h' hr => ?_)
  obtain ⟨rfl, rfl⟩ := hr
  refine Ev.run 1 (pc' := 25) (lv' := [(2, .int (nI 5)), (0, .ref 5), (1, .retAddr 7)]) (st' := []) (h' := HN (RT g T p 1 le li l) hl (RF (3, T, c, e))) rfl ?_
  refine Ev.ret (v := none) rfl ?_
  exact hq
theorem K_all0_7 {L : Nat} {xs : Nat → Int32} (d : Nat) (g : Nat → Nat → Nat) (hl : Nat → Nat → Int64) (T c e : Nat) (hT : TT T) (hX : TX g) (p le li : Nat) (l : List Nat) (hp : p ≤ 200) {Q : Po} (hq : (∀ q, exS g [101, 97, 115, 116, 32] p = (true, q) → Q none (HN (RT g T q 0 le li l) hl (RF (3, T, c, e)))) ∧ (∀ q, exS g [101, 97, 115, 116, 32] p = (false, q) → Q none (HN (RT g T q 1 le li l) hl (RF (3, T, c, e))))) : Ev L xs (d + 6) 57 0 [(0, .ref 5), (1, .retAddr 7)] [] (HN (RT g T p 0 le li l) hl (RF (3, T, c, e))) Q := by
  have hN := hX.1
  refine Ev.run 4 (pc' := 4) (lv' := [(2, .int (nI 0)), (0, .ref 5), (1, .retAddr 7)]) (st' := [.retAddr 7, .int (nI 0)]) (h' := HN (RT g T p 0 le li l) hl (RF (3, T, c, e))) rfl ?_
  refine Ev.call (a := 241) (as := [.retAddr 7]) (rest := [.int (nI 0)]) (lv0 := [(0, .retAddr 7)]) (Q1 := (fun z0 h' => z0 = some (.int (nI 5)) ∧ h' = HN (RT g T p 0 le li l) hl (RF (3, T, c, e)))) rfl rfl (K_len7 _ _ ⟨rfl, rfl⟩) (fun r h' hr => ?_)
  obtain ⟨rfl, rfl⟩ := hr
  refine Ev.run 4 (pc' := 13) (lv' := [(2, .int (nI 0)), (0, .ref 5), (1, .retAddr 7)]) (st' := [.int (nI 0), .retAddr 7, .ref 5]) (h' := HN (RT g T p 0 le li l) hl (RF (3, T, c, e))) rfl ?_
  refine Ev.call (a := 242) (as := [.retAddr 7, .int (nI 0)]) (rest := [.ref 5]) (lv0 := [(0, .retAddr 7), (1, .int (nI 0))]) (Q1 := (fun z0 h' => z0 = some (.int (nI 101)) ∧ h' = HN (RT g T p 0 le li l) hl (RF (3, T, c, e)))) rfl rfl (K_chr7_0 _ _ ⟨rfl, rfl⟩) (fun r h' hr => ?_)
  obtain ⟨rfl, rfl⟩ := hr
  refine Ev.call (a := 58) (as := [.ref 5, .int (nI 101)]) (rest := []) (lv0 := [(0, .ref 5), (1, .int (nI 101))]) (Q1 := (fun z0 h' => (pkS g p = 101 ∧ z0 = none ∧ h' = HN (RT g T (p + 1) 0 le li l) hl (RF (3, T, c, e))) ∨ (¬ pkS g p = 101 ∧ z0 = none ∧ h' = HN (RT g T p 1 le li l) hl (RF (3, T, c, e))))) rfl rfl (K_exp0 _ _ _ _ _ _ hT hX p le li l 101 (by omega) (by decide) (by decide) ⟨fun hz => Or.inl ⟨hz, rfl, rfl⟩, fun hz => Or.inr ⟨hz, rfl, rfl⟩⟩) (fun r h' hr => ?_)
  rcases hr with ⟨hxt0, rfl, rfl⟩ | ⟨hxt0, rfl, rfl⟩
  · skip
    refine Ev.run 4 (pc' := 4) (lv' := [(2, .int (nI 1)), (0, .ref 5), (1, .retAddr 7)]) (st' := [.retAddr 7, .int (nI 1)]) (h' := HN (RT g T (p + 1) 0 le li l) hl (RF (3, T, c, e))) rfl ?_
    refine Ev.call (a := 241) (as := [.retAddr 7]) (rest := [.int (nI 1)]) (lv0 := [(0, .retAddr 7)]) (Q1 := (fun z0 h' => z0 = some (.int (nI 5)) ∧ h' = HN (RT g T (p + 1) 0 le li l) hl (RF (3, T, c, e)))) rfl rfl (K_len7 _ _ ⟨rfl, rfl⟩) (fun r h' hr => ?_)
    obtain ⟨rfl, rfl⟩ := hr
    refine Ev.run 4 (pc' := 13) (lv' := [(2, .int (nI 1)), (0, .ref 5), (1, .retAddr 7)]) (st' := [.int (nI 1), .retAddr 7, .ref 5]) (h' := HN (RT g T (p + 1) 0 le li l) hl (RF (3, T, c, e))) rfl ?_
    refine Ev.call (a := 242) (as := [.retAddr 7, .int (nI 1)]) (rest := [.ref 5]) (lv0 := [(0, .retAddr 7), (1, .int (nI 1))]) (Q1 := (fun z0 h' => z0 = some (.int (nI 97)) ∧ h' = HN (RT g T (p + 1) 0 le li l) hl (RF (3, T, c, e)))) rfl rfl (K_chr7_1 _ _ ⟨rfl, rfl⟩) (fun r h' hr => ?_)
    obtain ⟨rfl, rfl⟩ := hr
    refine Ev.call (a := 58) (as := [.ref 5, .int (nI 97)]) (rest := []) (lv0 := [(0, .ref 5), (1, .int (nI 97))]) (Q1 := (fun z0 h' => (pkS g (p + 1) = 97 ∧ z0 = none ∧ h' = HN (RT g T (p + 1 + 1) 0 le li l) hl (RF (3, T, c, e))) ∨ (¬ pkS g (p + 1) = 97 ∧ z0 = none ∧ h' = HN (RT g T (p + 1) 1 le li l) hl (RF (3, T, c, e))))) rfl rfl (K_exp0 _ _ _ _ _ _ hT hX (p + 1) le li l 97 (by omega) (by decide) (by decide) ⟨fun hz => Or.inl ⟨hz, rfl, rfl⟩, fun hz => Or.inr ⟨hz, rfl, rfl⟩⟩) (fun r h' hr => ?_)
    rcases hr with ⟨hxt1, rfl, rfl⟩ | ⟨hxt1, rfl, rfl⟩
    · skip
      refine Ev.run 4 (pc' := 4) (lv' := [(2, .int (nI 2)), (0, .ref 5), (1, .retAddr 7)]) (st' := [.retAddr 7, .int (nI 2)]) (h' := HN (RT g T (p + 1 + 1) 0 le li l) hl (RF (3, T, c, e))) rfl ?_
      refine Ev.call (a := 241) (as := [.retAddr 7]) (rest := [.int (nI 2)]) (lv0 := [(0, .retAddr 7)]) (Q1 := (fun z0 h' => z0 = some (.int (nI 5)) ∧ h' = HN (RT g T (p + 1 + 1) 0 le li l) hl (RF (3, T, c, e)))) rfl rfl (K_len7 _ _ ⟨rfl, rfl⟩) (fun r h' hr => ?_)
      obtain ⟨rfl, rfl⟩ := hr
      refine Ev.run 4 (pc' := 13) (lv' := [(2, .int (nI 2)), (0, .ref 5), (1, .retAddr 7)]) (st' := [.int (nI 2), .retAddr 7, .ref 5]) (h' := HN (RT g T (p + 1 + 1) 0 le li l) hl (RF (3, T, c, e))) rfl ?_
      refine Ev.call (a := 242) (as := [.retAddr 7, .int (nI 2)]) (rest := [.ref 5]) (lv0 := [(0, .retAddr 7), (1, .int (nI 2))]) (Q1 := (fun z0 h' => z0 = some (.int (nI 115)) ∧ h' = HN (RT g T (p + 1 + 1) 0 le li l) hl (RF (3, T, c, e)))) rfl rfl (K_chr7_2 _ _ ⟨rfl, rfl⟩) (fun r h' hr => ?_)
      obtain ⟨rfl, rfl⟩ := hr
      refine Ev.call (a := 58) (as := [.ref 5, .int (nI 115)]) (rest := []) (lv0 := [(0, .ref 5), (1, .int (nI 115))]) (Q1 := (fun z0 h' => (pkS g (p + 1 + 1) = 115 ∧ z0 = none ∧ h' = HN (RT g T (p + 1 + 1 + 1) 0 le li l) hl (RF (3, T, c, e))) ∨ (¬ pkS g (p + 1 + 1) = 115 ∧ z0 = none ∧ h' = HN (RT g T (p + 1 + 1) 1 le li l) hl (RF (3, T, c, e))))) rfl rfl (K_exp0 _ _ _ _ _ _ hT hX (p + 1 + 1) le li l 115 (by omega) (by decide) (by decide) ⟨fun hz => Or.inl ⟨hz, rfl, rfl⟩, fun hz => Or.inr ⟨hz, rfl, rfl⟩⟩) (fun r h' hr => ?_)
      rcases hr with ⟨hxt2, rfl, rfl⟩ | ⟨hxt2, rfl, rfl⟩
      · skip
        refine Ev.run 4 (pc' := 4) (lv' := [(2, .int (nI 3)), (0, .ref 5), (1, .retAddr 7)]) (st' := [.retAddr 7, .int (nI 3)]) (h' := HN (RT g T (p + 1 + 1 + 1) 0 le li l) hl (RF (3, T, c, e))) rfl ?_
        refine Ev.call (a := 241) (as := [.retAddr 7]) (rest := [.int (nI 3)]) (lv0 := [(0, .retAddr 7)]) (Q1 := (fun z0 h' => z0 = some (.int (nI 5)) ∧ h' = HN (RT g T (p + 1 + 1 + 1) 0 le li l) hl (RF (3, T, c, e)))) rfl rfl (K_len7 _ _ ⟨rfl, rfl⟩) (fun r h' hr => ?_)
        obtain ⟨rfl, rfl⟩ := hr
        refine Ev.run 4 (pc' := 13) (lv' := [(2, .int (nI 3)), (0, .ref 5), (1, .retAddr 7)]) (st' := [.int (nI 3), .retAddr 7, .ref 5]) (h' := HN (RT g T (p + 1 + 1 + 1) 0 le li l) hl (RF (3, T, c, e))) rfl ?_
        refine Ev.call (a := 242) (as := [.retAddr 7, .int (nI 3)]) (rest := [.ref 5]) (lv0 := [(0, .retAddr 7), (1, .int (nI 3))]) (Q1 := (fun z0 h' => z0 = some (.int (nI 116)) ∧ h' = HN (RT g T (p + 1 + 1 + 1) 0 le li l) hl (RF (3, T, c, e)))) rfl rfl (K_chr7_3 _ _ ⟨rfl, rfl⟩) (fun r h' hr => ?_)
        obtain ⟨rfl, rfl⟩ := hr
        refine Ev.call (a := 58) (as := [.ref 5, .int (nI 116)]) (rest := []) (lv0 := [(0, .ref 5), (1, .int (nI 116))]) (Q1 := (fun z0 h' => (pkS g (p + 1 + 1 + 1) = 116 ∧ z0 = none ∧ h' = HN (RT g T (p + 1 + 1 + 1 + 1) 0 le li l) hl (RF (3, T, c, e))) ∨ (¬ pkS g (p + 1 + 1 + 1) = 116 ∧ z0 = none ∧ h' = HN (RT g T (p + 1 + 1 + 1) 1 le li l) hl (RF (3, T, c, e))))) rfl rfl (K_exp0 _ _ _ _ _ _ hT hX (p + 1 + 1 + 1) le li l 116 (by omega) (by decide) (by decide) ⟨fun hz => Or.inl ⟨hz, rfl, rfl⟩, fun hz => Or.inr ⟨hz, rfl, rfl⟩⟩) (fun r h' hr => ?_)
        rcases hr with ⟨hxt3, rfl, rfl⟩ | ⟨hxt3, rfl, rfl⟩
        · skip
          refine Ev.run 4 (pc' := 4) (lv' := [(2, .int (nI 4)), (0, .ref 5), (1, .retAddr 7)]) (st' := [.retAddr 7, .int (nI 4)]) (h' := HN (RT g T (p + 1 + 1 + 1 + 1) 0 le li l) hl (RF (3, T, c, e))) rfl ?_
          refine Ev.call (a := 241) (as := [.retAddr 7]) (rest := [.int (nI 4)]) (lv0 := [(0, .retAddr 7)]) (Q1 := (fun z0 h' => z0 = some (.int (nI 5)) ∧ h' = HN (RT g T (p + 1 + 1 + 1 + 1) 0 le li l) hl (RF (3, T, c, e)))) rfl rfl (K_len7 _ _ ⟨rfl, rfl⟩) (fun r h' hr => ?_)
          obtain ⟨rfl, rfl⟩ := hr
          refine Ev.run 4 (pc' := 13) (lv' := [(2, .int (nI 4)), (0, .ref 5), (1, .retAddr 7)]) (st' := [.int (nI 4), .retAddr 7, .ref 5]) (h' := HN (RT g T (p + 1 + 1 + 1 + 1) 0 le li l) hl (RF (3, T, c, e))) rfl ?_
          refine Ev.call (a := 242) (as := [.retAddr 7, .int (nI 4)]) (rest := [.ref 5]) (lv0 := [(0, .retAddr 7), (1, .int (nI 4))]) (Q1 := (fun z0 h' => z0 = some (.int (nI 32)) ∧ h' = HN (RT g T (p + 1 + 1 + 1 + 1) 0 le li l) hl (RF (3, T, c, e)))) rfl rfl (K_chr7_4 _ _ ⟨rfl, rfl⟩) (fun r h' hr => ?_)
          obtain ⟨rfl, rfl⟩ := hr
          refine Ev.call (a := 58) (as := [.ref 5, .int (nI 32)]) (rest := []) (lv0 := [(0, .ref 5), (1, .int (nI 32))]) (Q1 := (fun z0 h' => (pkS g (p + 1 + 1 + 1 + 1) = 32 ∧ z0 = none ∧ h' = HN (RT g T (p + 1 + 1 + 1 + 1 + 1) 0 le li l) hl (RF (3, T, c, e))) ∨ (¬ pkS g (p + 1 + 1 + 1 + 1) = 32 ∧ z0 = none ∧ h' = HN (RT g T (p + 1 + 1 + 1 + 1) 1 le li l) hl (RF (3, T, c, e))))) rfl rfl (K_exp0 _ _ _ _ _ _ hT hX (p + 1 + 1 + 1 + 1) le li l 32 (by omega) (by decide) (by decide) ⟨fun hz => Or.inl ⟨hz, rfl, rfl⟩, fun hz => Or.inr ⟨hz, rfl, rfl⟩⟩) (fun r h' hr => ?_)
          rcases hr with ⟨hxt4, rfl, rfl⟩ | ⟨hxt4, rfl, rfl⟩
          · skip
            refine Ev.run 4 (pc' := 4) (lv' := [(2, .int (nI 5)), (0, .ref 5), (1, .retAddr 7)]) (st' := [.retAddr 7, .int (nI 5)]) (h' := HN (RT g T (p + 1 + 1 + 1 + 1 + 1) 0 le li l) hl (RF (3, T, c, e))) rfl ?_
            refine Ev.call (a := 241) (as := [.retAddr 7]) (rest := [.int (nI 5)]) (lv0 := [(0, .retAddr 7)]) (Q1 := (fun z0 h' => z0 = some (.int (nI 5)) ∧ h' = HN (RT g T (p + 1 + 1 + 1 + 1 + 1) 0 le li l) hl (RF (3, T, c, e)))) rfl rfl (K_len7 _ _ ⟨rfl, rfl⟩) (fun r h' hr => ?_)
            obtain ⟨rfl, rfl⟩ := hr
            refine Ev.run 1 (pc' := 25) (lv' := [(2, .int (nI 5)), (0, .ref 5), (1, .retAddr 7)]) (st' := []) (h' := HN (RT g T (p + 1 + 1 + 1 + 1 + 1) 0 le li l) hl (RF (3, T, c, e))) rfl ?_
            refine Ev.ret (v := none) rfl ?_
            exact hq.1 _ (by unfold exS; rw [if_pos hxt0]; unfold exS; rw [if_pos hxt1]; unfold exS; rw [if_pos hxt2]; unfold exS; rw [if_pos hxt3]; unfold exS; rw [if_pos hxt4]; rfl)
          · skip
            refine Ev.run 4 (pc' := 4) (lv' := [(2, .int (nI 5)), (0, .ref 5), (1, .retAddr 7)]) (st' := [.retAddr 7, .int (nI 5)]) (h' := HN (RT g T (p + 1 + 1 + 1 + 1) 1 le li l) hl (RF (3, T, c, e))) rfl ?_
            refine Ev.call (a := 241) (as := [.retAddr 7]) (rest := [.int (nI 5)]) (lv0 := [(0, .retAddr 7)]) (Q1 := (fun z0 h' => z0 = some (.int (nI 5)) ∧ h' = HN (RT g T (p + 1 + 1 + 1 + 1) 1 le li l) hl (RF (3, T, c, e)))) rfl rfl (K_len7 _ _ ⟨rfl, rfl⟩) (fun r h' hr => ?_)
            obtain ⟨rfl, rfl⟩ := hr
            refine Ev.run 1 (pc' := 25) (lv' := [(2, .int (nI 5)), (0, .ref 5), (1, .retAddr 7)]) (st' := []) (h' := HN (RT g T (p + 1 + 1 + 1 + 1) 1 le li l) hl (RF (3, T, c, e))) rfl ?_
            refine Ev.ret (v := none) rfl ?_
            exact hq.2 _ (by unfold exS; rw [if_pos hxt0]; unfold exS; rw [if_pos hxt1]; unfold exS; rw [if_pos hxt2]; unfold exS; rw [if_pos hxt3]; unfold exS; rw [if_neg hxt4])
        · skip
          refine Ev.run 4 (pc' := 4) (lv' := [(2, .int (nI 4)), (0, .ref 5), (1, .retAddr 7)]) (st' := [.retAddr 7, .int (nI 4)]) (h' := HN (RT g T (p + 1 + 1 + 1) 1 le li l) hl (RF (3, T, c, e))) rfl ?_
          refine Ev.call (a := 241) (as := [.retAddr 7]) (rest := [.int (nI 4)]) (lv0 := [(0, .retAddr 7)]) (Q1 := (fun z0 h' => z0 = some (.int (nI 5)) ∧ h' = HN (RT g T (p + 1 + 1 + 1) 1 le li l) hl (RF (3, T, c, e)))) rfl rfl (K_len7 _ _ ⟨rfl, rfl⟩) (fun r h' hr => ?_)
          obtain ⟨rfl, rfl⟩ := hr
          refine Ev.run 4 (pc' := 13) (lv' := [(2, .int (nI 4)), (0, .ref 5), (1, .retAddr 7)]) (st' := [.int (nI 4), .retAddr 7, .ref 5]) (h' := HN (RT g T (p + 1 + 1 + 1) 1 le li l) hl (RF (3, T, c, e))) rfl ?_
          refine Ev.call (a := 242) (as := [.retAddr 7, .int (nI 4)]) (rest := [.ref 5]) (lv0 := [(0, .retAddr 7), (1, .int (nI 4))]) (Q1 := (fun z0 h' => z0 = some (.int (nI 32)) ∧ h' = HN (RT g T (p + 1 + 1 + 1) 1 le li l) hl (RF (3, T, c, e)))) rfl rfl (K_chr7_4 _ _ ⟨rfl, rfl⟩) (fun r h' hr => ?_)
          obtain ⟨rfl, rfl⟩ := hr
          refine Ev.call (a := 58) (as := [.ref 5, .int (nI 32)]) (rest := []) (lv0 := [(0, .ref 5), (1, .int (nI 32))]) (Q1 := (fun z0 h' => z0 = none ∧ h' = HN (RT g T (p + 1 + 1 + 1) 1 le li l) hl (RF (3, T, c, e)))) rfl rfl (K_exp1 _ _ _ _ _ _ hT hX (p + 1 + 1 + 1) le li l _ ⟨rfl, rfl⟩) (fun r h' hr => ?_)
          obtain ⟨rfl, rfl⟩ := hr
          refine Ev.run 4 (pc' := 4) (lv' := [(2, .int (nI 5)), (0, .ref 5), (1, .retAddr 7)]) (st' := [.retAddr 7, .int (nI 5)]) (h' := HN (RT g T (p + 1 + 1 + 1) 1 le li l) hl (RF (3, T, c, e))) rfl ?_
          refine Ev.call (a := 241) (as := [.retAddr 7]) (rest := [.int (nI 5)]) (lv0 := [(0, .retAddr 7)]) (Q1 := (fun z0 h' => z0 = some (.int (nI 5)) ∧ h' = HN (RT g T (p + 1 + 1 + 1) 1 le li l) hl (RF (3, T, c, e)))) rfl rfl (K_len7 _ _ ⟨rfl, rfl⟩) (fun r h' hr => ?_)
          obtain ⟨rfl, rfl⟩ := hr
          refine Ev.run 1 (pc' := 25) (lv' := [(2, .int (nI 5)), (0, .ref 5), (1, .retAddr 7)]) (st' := []) (h' := HN (RT g T (p + 1 + 1 + 1) 1 le li l) hl (RF (3, T, c, e))) rfl ?_
          refine Ev.ret (v := none) rfl ?_
          exact hq.2 _ (by unfold exS; rw [if_pos hxt0]; unfold exS; rw [if_pos hxt1]; unfold exS; rw [if_pos hxt2]; unfold exS; rw [if_neg hxt3])
      · skip
        refine Ev.run 4 (pc' := 4) (lv' := [(2, .int (nI 3)), (0, .ref 5), (1, .retAddr 7)]) (st' := [.retAddr 7, .int (nI 3)]) (h' := HN (RT g T (p + 1 + 1) 1 le li l) hl (RF (3, T, c, e))) rfl ?_
        refine Ev.call (a := 241) (as := [.retAddr 7]) (rest := [.int (nI 3)]) (lv0 := [(0, .retAddr 7)]) (Q1 := (fun z0 h' => z0 = some (.int (nI 5)) ∧ h' = HN (RT g T (p + 1 + 1) 1 le li l) hl (RF (3, T, c, e)))) rfl rfl (K_len7 _ _ ⟨rfl, rfl⟩) (fun r h' hr => ?_)
        obtain ⟨rfl, rfl⟩ := hr
        refine Ev.run 4 (pc' := 13) (lv' := [(2, .int (nI 3)), (0, .ref 5), (1, .retAddr 7)]) (st' := [.int (nI 3), .retAddr 7, .ref 5]) (h' := HN (RT g T (p + 1 + 1) 1 le li l) hl (RF (3, T, c, e))) rfl ?_
        refine Ev.call (a := 242) (as := [.retAddr 7, .int (nI 3)]) (rest := [.ref 5]) (lv0 := [(0, .retAddr 7), (1, .int (nI 3))]) (Q1 := (fun z0 h' => z0 = some (.int (nI 116)) ∧ h' = HN (RT g T (p + 1 + 1) 1 le li l) hl (RF (3, T, c, e)))) rfl rfl (K_chr7_3 _ _ ⟨rfl, rfl⟩) (fun r h' hr => ?_)
        obtain ⟨rfl, rfl⟩ := hr
        refine Ev.call (a := 58) (as := [.ref 5, .int (nI 116)]) (rest := []) (lv0 := [(0, .ref 5), (1, .int (nI 116))]) (Q1 := (fun z0 h' => z0 = none ∧ h' = HN (RT g T (p + 1 + 1) 1 le li l) hl (RF (3, T, c, e)))) rfl rfl (K_exp1 _ _ _ _ _ _ hT hX (p + 1 + 1) le li l _ ⟨rfl, rfl⟩) (fun r h' hr => ?_)
        obtain ⟨rfl, rfl⟩ := hr
        refine Ev.run 4 (pc' := 4) (lv' := [(2, .int (nI 4)), (0, .ref 5), (1, .retAddr 7)]) (st' := [.retAddr 7, .int (nI 4)]) (h' := HN (RT g T (p + 1 + 1) 1 le li l) hl (RF (3, T, c, e))) rfl ?_
        refine Ev.call (a := 241) (as := [.retAddr 7]) (rest := [.int (nI 4)]) (lv0 := [(0, .retAddr 7)]) (Q1 := (fun z0 h' => z0 = some (.int (nI 5)) ∧ h' = HN (RT g T (p + 1 + 1) 1 le li l) hl (RF (3, T, c, e)))) rfl rfl (K_len7 _ _ ⟨rfl, rfl⟩) (fun r h' hr => ?_)
        obtain ⟨rfl, rfl⟩ := hr
        refine Ev.run 4 (pc' := 13) (lv' := [(2, .int (nI 4)), (0, .ref 5), (1, .retAddr 7)]) (st' := [.int (nI 4), .retAddr 7, .ref 5]) (h' := HN (RT g T (p + 1 + 1) 1 le li l) hl (RF (3, T, c, e))) rfl ?_
        refine Ev.call (a := 242) (as := [.retAddr 7, .int (nI 4)]) (rest := [.ref 5]) (lv0 := [(0, .retAddr 7), (1, .int (nI 4))]) (Q1 := (fun z0 h' => z0 = some (.int (nI 32)) ∧ h' = HN (RT g T (p + 1 + 1) 1 le li l) hl (RF (3, T, c, e)))) rfl rfl (K_chr7_4 _ _ ⟨rfl, rfl⟩) (fun r h' hr => ?_)
        obtain ⟨rfl, rfl⟩ := hr
        refine Ev.call (a := 58) (as := [.ref 5, .int (nI 32)]) (rest := []) (lv0 := [(0, .ref 5), (1, .int (nI 32))]) (Q1 := (fun z0 h' => z0 = none ∧ h' = HN (RT g T (p + 1 + 1) 1 le li l) hl (RF (3, T, c, e)))) rfl rfl (K_exp1 _ _ _ _ _ _ hT hX (p + 1 + 1) le li l _ ⟨rfl, rfl⟩) (fun r h' hr => ?_)
        obtain ⟨rfl, rfl⟩ := hr
        refine Ev.run 4 (pc' := 4) (lv' := [(2, .int (nI 5)), (0, .ref 5), (1, .retAddr 7)]) (st' := [.retAddr 7, .int (nI 5)]) (h' := HN (RT g T (p + 1 + 1) 1 le li l) hl (RF (3, T, c, e))) rfl ?_
        refine Ev.call (a := 241) (as := [.retAddr 7]) (rest := [.int (nI 5)]) (lv0 := [(0, .retAddr 7)]) (Q1 := (fun z0 h' => z0 = some (.int (nI 5)) ∧ h' = HN (RT g T (p + 1 + 1) 1 le li l) hl (RF (3, T, c, e)))) rfl rfl (K_len7 _ _ ⟨rfl, rfl⟩) (fun r h' hr => ?_)
        obtain ⟨rfl, rfl⟩ := hr
        refine Ev.run 1 (pc' := 25) (lv' := [(2, .int (nI 5)), (0, .ref 5), (1, .retAddr 7)]) (st' := []) (h' := HN (RT g T (p + 1 + 1) 1 le li l) hl (RF (3, T, c, e))) rfl ?_
        refine Ev.ret (v := none) rfl ?_
        exact hq.2 _ (by unfold exS; rw [if_pos hxt0]; unfold exS; rw [if_pos hxt1]; unfold exS; rw [if_neg hxt2])
    · skip
      refine Ev.run 4 (pc' := 4) (lv' := [(2, .int (nI 2)), (0, .ref 5), (1, .retAddr 7)]) (st' := [.retAddr 7, .int (nI 2)]) (h' := HN (RT g T (p + 1) 1 le li l) hl (RF (3, T, c, e))) rfl ?_
      refine Ev.call (a := 241) (as := [.retAddr 7]) (rest := [.int (nI 2)]) (lv0 := [(0, .retAddr 7)]) (Q1 := (fun z0 h' => z0 = some (.int (nI 5)) ∧ h' = HN (RT g T (p + 1) 1 le li l) hl (RF (3, T, c, e)))) rfl rfl (K_len7 _ _ ⟨rfl, rfl⟩) (fun r h' hr => ?_)
      obtain ⟨rfl, rfl⟩ := hr
      refine Ev.run 4 (pc' := 13) (lv' := [(2, .int (nI 2)), (0, .ref 5), (1, .retAddr 7)]) (st' := [.int (nI 2), .retAddr 7, .ref 5]) (h' := HN (RT g T (p + 1) 1 le li l) hl (RF (3, T, c, e))) rfl ?_
      refine Ev.call (a := 242) (as := [.retAddr 7, .int (nI 2)]) (rest := [.ref 5]) (lv0 := [(0, .retAddr 7), (1, .int (nI 2))]) (Q1 := (fun z0 h' => z0 = some (.int (nI 115)) ∧ h' = HN (RT g T (p + 1) 1 le li l) hl (RF (3, T, c, e)))) rfl rfl (K_chr7_2 _ _ ⟨rfl, rfl⟩) (fun r h' hr => ?_)
      obtain ⟨rfl, rfl⟩ := hr
      refine Ev.call (a := 58) (as := [.ref 5, .int (nI 115)]) (rest := []) (lv0 := [(0, .ref 5), (1, .int (nI 115))]) (Q1 := (fun z0 h' => z0 = none ∧ h' = HN (RT g T (p + 1) 1 le li l) hl (RF (3, T, c, e)))) rfl rfl (K_exp1 _ _ _ _ _ _ hT hX (p + 1) le li l _ ⟨rfl, rfl⟩) (fun r h' hr => ?_)
      obtain ⟨rfl, rfl⟩ := hr
      refine Ev.run 4 (pc' := 4) (lv' := [(2, .int (nI 3)), (0, .ref 5), (1, .retAddr 7)]) (st' := [.retAddr 7, .int (nI 3)]) (h' := HN (RT g T (p + 1) 1 le li l) hl (RF (3, T, c, e))) rfl ?_
      refine Ev.call (a := 241) (as := [.retAddr 7]) (rest := [.int (nI 3)]) (lv0 := [(0, .retAddr 7)]) (Q1 := (fun z0 h' => z0 = some (.int (nI 5)) ∧ h' = HN (RT g T (p + 1) 1 le li l) hl (RF (3, T, c, e)))) rfl rfl (K_len7 _ _ ⟨rfl, rfl⟩) (fun r h' hr => ?_)
      obtain ⟨rfl, rfl⟩ := hr
      refine Ev.run 4 (pc' := 13) (lv' := [(2, .int (nI 3)), (0, .ref 5), (1, .retAddr 7)]) (st' := [.int (nI 3), .retAddr 7, .ref 5]) (h' := HN (RT g T (p + 1) 1 le li l) hl (RF (3, T, c, e))) rfl ?_
      refine Ev.call (a := 242) (as := [.retAddr 7, .int (nI 3)]) (rest := [.ref 5]) (lv0 := [(0, .retAddr 7), (1, .int (nI 3))]) (Q1 := (fun z0 h' => z0 = some (.int (nI 116)) ∧ h' = HN (RT g T (p + 1) 1 le li l) hl (RF (3, T, c, e)))) rfl rfl (K_chr7_3 _ _ ⟨rfl, rfl⟩) (fun r h' hr => ?_)
      obtain ⟨rfl, rfl⟩ := hr
      refine Ev.call (a := 58) (as := [.ref 5, .int (nI 116)]) (rest := []) (lv0 := [(0, .ref 5), (1, .int (nI 116))]) (Q1 := (fun z0 h' => z0 = none ∧ h' = HN (RT g T (p + 1) 1 le li l) hl (RF (3, T, c, e)))) rfl rfl (K_exp1 _ _ _ _ _ _ hT hX (p + 1) le li l _ ⟨rfl, rfl⟩) (fun r h' hr => ?_)
      obtain ⟨rfl, rfl⟩ := hr
      refine Ev.run 4 (pc' := 4) (lv' := [(2, .int (nI 4)), (0, .ref 5), (1, .retAddr 7)]) (st' := [.retAddr 7, .int (nI 4)]) (h' := HN (RT g T (p + 1) 1 le li l) hl (RF (3, T, c, e))) rfl ?_
      refine Ev.call (a := 241) (as := [.retAddr 7]) (rest := [.int (nI 4)]) (lv0 := [(0, .retAddr 7)]) (Q1 := (fun z0 h' => z0 = some (.int (nI 5)) ∧ h' = HN (RT g T (p + 1) 1 le li l) hl (RF (3, T, c, e)))) rfl rfl (K_len7 _ _ ⟨rfl, rfl⟩) (fun r h' hr => ?_)
      obtain ⟨rfl, rfl⟩ := hr
      refine Ev.run 4 (pc' := 13) (lv' := [(2, .int (nI 4)), (0, .ref 5), (1, .retAddr 7)]) (st' := [.int (nI 4), .retAddr 7, .ref 5]) (h' := HN (RT g T (p + 1) 1 le li l) hl (RF (3, T, c, e))) rfl ?_
      refine Ev.call (a := 242) (as := [.retAddr 7, .int (nI 4)]) (rest := [.ref 5]) (lv0 := [(0, .retAddr 7), (1, .int (nI 4))]) (Q1 := (fun z0 h' => z0 = some (.int (nI 32)) ∧ h' = HN (RT g T (p + 1) 1 le li l) hl (RF (3, T, c, e)))) rfl rfl (K_chr7_4 _ _ ⟨rfl, rfl⟩) (fun r h' hr => ?_)
      obtain ⟨rfl, rfl⟩ := hr
      refine Ev.call (a := 58) (as := [.ref 5, .int (nI 32)]) (rest := []) (lv0 := [(0, .ref 5), (1, .int (nI 32))]) (Q1 := (fun z0 h' => z0 = none ∧ h' = HN (RT g T (p + 1) 1 le li l) hl (RF (3, T, c, e)))) rfl rfl (K_exp1 _ _ _ _ _ _ hT hX (p + 1) le li l _ ⟨rfl, rfl⟩) (fun r h' hr => ?_)
      obtain ⟨rfl, rfl⟩ := hr
      refine Ev.run 4 (pc' := 4) (lv' := [(2, .int (nI 5)), (0, .ref 5), (1, .retAddr 7)]) (st' := [.retAddr 7, .int (nI 5)]) (h' := HN (RT g T (p + 1) 1 le li l) hl (RF (3, T, c, e))) rfl ?_
      refine Ev.call (a := 241) (as := [.retAddr 7]) (rest := [.int (nI 5)]) (lv0 := [(0, .retAddr 7)]) (Q1 := (fun z0 h' => z0 = some (.int (nI 5)) ∧ h' = HN (RT g T (p + 1) 1 le li l) hl (RF (3, T, c, e)))) rfl rfl (K_len7 _ _ ⟨rfl, rfl⟩) (fun r h' hr => ?_)
      obtain ⟨rfl, rfl⟩ := hr
      refine Ev.run 1 (pc' := 25) (lv' := [(2, .int (nI 5)), (0, .ref 5), (1, .retAddr 7)]) (st' := []) (h' := HN (RT g T (p + 1) 1 le li l) hl (RF (3, T, c, e))) rfl ?_
      refine Ev.ret (v := none) rfl ?_
      exact hq.2 _ (by unfold exS; rw [if_pos hxt0]; unfold exS; rw [if_neg hxt1])
  · skip
    refine Ev.run 4 (pc' := 4) (lv' := [(2, .int (nI 1)), (0, .ref 5), (1, .retAddr 7)]) (st' := [.retAddr 7, .int (nI 1)]) (h' := HN (RT g T p 1 le li l) hl (RF (3, T, c, e))) rfl ?_
    refine Ev.call (a := 241) (as := [.retAddr 7]) (rest := [.int (nI 1)]) (lv0 := [(0, .retAddr 7)]) (Q1 := (fun z0 h' => z0 = some (.int (nI 5)) ∧ h' = HN (RT g T p 1 le li l) hl (RF (3, T, c, e)))) rfl rfl (K_len7 _ _ ⟨rfl, rfl⟩) (fun r h' hr => ?_)
    obtain ⟨rfl, rfl⟩ := hr
    refine Ev.run 4 (pc' := 13) (lv' := [(2, .int (nI 1)), (0, .ref 5), (1, .retAddr 7)]) (st' := [.int (nI 1), .retAddr 7, .ref 5]) (h' := HN (RT g T p 1 le li l) hl (RF (3, T, c, e))) rfl ?_
    refine Ev.call (a := 242) (as := [.retAddr 7, .int (nI 1)]) (rest := [.ref 5]) (lv0 := [(0, .retAddr 7), (1, .int (nI 1))]) (Q1 := (fun z0 h' => z0 = some (.int (nI 97)) ∧ h' = HN (RT g T p 1 le li l) hl (RF (3, T, c, e)))) rfl rfl (K_chr7_1 _ _ ⟨rfl, rfl⟩) (fun r h' hr => ?_)
    obtain ⟨rfl, rfl⟩ := hr
    refine Ev.call (a := 58) (as := [.ref 5, .int (nI 97)]) (rest := []) (lv0 := [(0, .ref 5), (1, .int (nI 97))]) (Q1 := (fun z0 h' => z0 = none ∧ h' = HN (RT g T p 1 le li l) hl (RF (3, T, c, e)))) rfl rfl (K_exp1 _ _ _ _ _ _ hT hX p le li l _ ⟨rfl, rfl⟩) (fun r h' hr => ?_)
    obtain ⟨rfl, rfl⟩ := hr
    refine Ev.run 4 (pc' := 4) (lv' := [(2, .int (nI 2)), (0, .ref 5), (1, .retAddr 7)]) (st' := [.retAddr 7, .int (nI 2)]) (h' := HN (RT g T p 1 le li l) hl (RF (3, T, c, e))) rfl ?_
    refine Ev.call (a := 241) (as := [.retAddr 7]) (rest := [.int (nI 2)]) (lv0 := [(0, .retAddr 7)]) (Q1 := (fun z0 h' => z0 = some (.int (nI 5)) ∧ h' = HN (RT g T p 1 le li l) hl (RF (3, T, c, e)))) rfl rfl (K_len7 _ _ ⟨rfl, rfl⟩) (fun r h' hr => ?_)
    obtain ⟨rfl, rfl⟩ := hr
    refine Ev.run 4 (pc' := 13) (lv' := [(2, .int (nI 2)), (0, .ref 5), (1, .retAddr 7)]) (st' := [.int (nI 2), .retAddr 7, .ref 5]) (h' := HN (RT g T p 1 le li l) hl (RF (3, T, c, e))) rfl ?_
    refine Ev.call (a := 242) (as := [.retAddr 7, .int (nI 2)]) (rest := [.ref 5]) (lv0 := [(0, .retAddr 7), (1, .int (nI 2))]) (Q1 := (fun z0 h' => z0 = some (.int (nI 115)) ∧ h' = HN (RT g T p 1 le li l) hl (RF (3, T, c, e)))) rfl rfl (K_chr7_2 _ _ ⟨rfl, rfl⟩) (fun r h' hr => ?_)
    obtain ⟨rfl, rfl⟩ := hr
    refine Ev.call (a := 58) (as := [.ref 5, .int (nI 115)]) (rest := []) (lv0 := [(0, .ref 5), (1, .int (nI 115))]) (Q1 := (fun z0 h' => z0 = none ∧ h' = HN (RT g T p 1 le li l) hl (RF (3, T, c, e)))) rfl rfl (K_exp1 _ _ _ _ _ _ hT hX p le li l _ ⟨rfl, rfl⟩) (fun r h' hr => ?_)
    obtain ⟨rfl, rfl⟩ := hr
    refine Ev.run 4 (pc' := 4) (lv' := [(2, .int (nI 3)), (0, .ref 5), (1, .retAddr 7)]) (st' := [.retAddr 7, .int (nI 3)]) (h' := HN (RT g T p 1 le li l) hl (RF (3, T, c, e))) rfl ?_
    refine Ev.call (a := 241) (as := [.retAddr 7]) (rest := [.int (nI 3)]) (lv0 := [(0, .retAddr 7)]) (Q1 := (fun z0 h' => z0 = some (.int (nI 5)) ∧ h' = HN (RT g T p 1 le li l) hl (RF (3, T, c, e)))) rfl rfl (K_len7 _ _ ⟨rfl, rfl⟩) (fun r h' hr => ?_)
    obtain ⟨rfl, rfl⟩ := hr
    refine Ev.run 4 (pc' := 13) (lv' := [(2, .int (nI 3)), (0, .ref 5), (1, .retAddr 7)]) (st' := [.int (nI 3), .retAddr 7, .ref 5]) (h' := HN (RT g T p 1 le li l) hl (RF (3, T, c, e))) rfl ?_
    refine Ev.call (a := 242) (as := [.retAddr 7, .int (nI 3)]) (rest := [.ref 5]) (lv0 := [(0, .retAddr 7), (1, .int (nI 3))]) (Q1 := (fun z0 h' => z0 = some (.int (nI 116)) ∧ h' = HN (RT g T p 1 le li l) hl (RF (3, T, c, e)))) rfl rfl (K_chr7_3 _ _ ⟨rfl, rfl⟩) (fun r h' hr => ?_)
    obtain ⟨rfl, rfl⟩ := hr
    refine Ev.call (a := 58) (as := [.ref 5, .int (nI 116)]) (rest := []) (lv0 := [(0, .ref 5), (1, .int (nI 116))]) (Q1 := (fun z0 h' => z0 = none ∧ h' = HN (RT g T p 1 le li l) hl (RF (3, T, c, e)))) rfl rfl (K_exp1 _ _ _ _ _ _ hT hX p le li l _ ⟨rfl, rfl⟩) (fun r h' hr => ?_)
    obtain ⟨rfl, rfl⟩ := hr
    refine Ev.run 4 (pc' := 4) (lv' := [(2, .int (nI 4)), (0, .ref 5), (1, .retAddr 7)]) (st' := [.retAddr 7, .int (nI 4)]) (h' := HN (RT g T p 1 le li l) hl (RF (3, T, c, e))) rfl ?_
    refine Ev.call (a := 241) (as := [.retAddr 7]) (rest := [.int (nI 4)]) (lv0 := [(0, .retAddr 7)]) (Q1 := (fun z0 h' => z0 = some (.int (nI 5)) ∧ h' = HN (RT g T p 1 le li l) hl (RF (3, T, c, e)))) rfl rfl (K_len7 _ _ ⟨rfl, rfl⟩) (fun r h' hr => ?_)
    obtain ⟨rfl, rfl⟩ := hr
    refine Ev.run 4 (pc' := 13) (lv' := [(2, .int (nI 4)), (0, .ref 5), (1, .retAddr 7)]) (st' := [.int (nI 4), .retAddr 7, .ref 5]) (h' := HN (RT g T p 1 le li l) hl (RF (3, T, c, e))) rfl ?_
    refine Ev.call (a := 242) (as := [.retAddr 7, .int (nI 4)]) (rest := [.ref 5]) (lv0 := [(0, .retAddr 7), (1, .int (nI 4))]) (Q1 := (fun z0 h' => z0 = some (.int (nI 32)) ∧ h' = HN (RT g T p 1 le li l) hl (RF (3, T, c, e)))) rfl rfl (K_chr7_4 _ _ ⟨rfl, rfl⟩) (fun r h' hr => ?_)
    obtain ⟨rfl, rfl⟩ := hr
    refine Ev.call (a := 58) (as := [.ref 5, .int (nI 32)]) (rest := []) (lv0 := [(0, .ref 5), (1, .int (nI 32))]) (Q1 := (fun z0 h' => z0 = none ∧ h' = HN (RT g T p 1 le li l) hl (RF (3, T, c, e)))) rfl rfl (K_exp1 _ _ _ _ _ _ hT hX p le li l _ ⟨rfl, rfl⟩) (fun r h' hr => ?_)
    obtain ⟨rfl, rfl⟩ := hr
    refine Ev.run 4 (pc' := 4) (lv' := [(2, .int (nI 5)), (0, .ref 5), (1, .retAddr 7)]) (st' := [.retAddr 7, .int (nI 5)]) (h' := HN (RT g T p 1 le li l) hl (RF (3, T, c, e))) rfl ?_
    refine Ev.call (a := 241) (as := [.retAddr 7]) (rest := [.int (nI 5)]) (lv0 := [(0, .retAddr 7)]) (Q1 := (fun z0 h' => z0 = some (.int (nI 5)) ∧ h' = HN (RT g T p 1 le li l) hl (RF (3, T, c, e)))) rfl rfl (K_len7 _ _ ⟨rfl, rfl⟩) (fun r h' hr => ?_)
    obtain ⟨rfl, rfl⟩ := hr
    refine Ev.run 1 (pc' := 25) (lv' := [(2, .int (nI 5)), (0, .ref 5), (1, .retAddr 7)]) (st' := []) (h' := HN (RT g T p 1 le li l) hl (RF (3, T, c, e))) rfl ?_
    refine Ev.ret (v := none) rfl ?_
    exact hq.2 _ (by  unfold exS; rw [if_neg hxt0])
theorem K_all1_8 {L : Nat} {xs : Nat → Int32} (d : Nat) (g : Nat → Nat → Nat) (hl : Nat → Nat → Int64) (T c e : Nat) (hT : TT T) (hX : TX g) (p le li : Nat) (l : List Nat) {Q : Po} (hq : Q none (HN (RT g T p 1 le li l) hl (RF (3, T, c, e)))) : Ev L xs (d + 6) 57 0 [(0, .ref 5), (1, .retAddr 8)] [] (HN (RT g T p 1 le li l) hl (RF (3, T, c, e))) Q := by
  have hN := hX.1
  refine Ev.run 4 (pc' := 4) (lv' := [(2, .int (nI 0)), (0, .ref 5), (1, .retAddr 8)]) (st' := [.retAddr 8, .int (nI 0)]) (h' := HN (RT g T p 1 le li l) hl (RF (3, T, c, e))) rfl ?_
  refine Ev.call (a := 241) (as := [.retAddr 8]) (rest := [.int (nI 0)]) (lv0 := [(0, .retAddr 8)]) (Q1 := (fun z0 h' => z0 = some (.int (nI 5)) ∧ h' = HN (RT g T p 1 le li l) hl (RF (3, T, c, e)))) rfl rfl (K_len8 _ _ ⟨rfl, rfl⟩) (fun r h' hr => ?_)
  obtain ⟨rfl, rfl⟩ := hr
  refine Ev.run 4 (pc' := 13) (lv' := [(2, .int (nI 0)), (0, .ref 5), (1, .retAddr 8)]) (st' := [.int (nI 0), .retAddr 8, .ref 5]) (h' := HN (RT g T p 1 le li l) hl (RF (3, T, c, e))) rfl ?_
  refine Ev.call (a := 242) (as := [.retAddr 8, .int (nI 0)]) (rest := [.ref 5]) (lv0 := [(0, .retAddr 8), (1, .int (nI 0))]) (Q1 := (fun z0 h' => z0 = some (.int (nI 105)) ∧ h' = HN (RT g T p 1 le li l) hl (RF (3, T, c, e)))) rfl rfl (K_chr8_0 _ _ ⟨rfl, rfl⟩) (fun r h' hr => ?_)
  obtain ⟨rfl, rfl⟩ := hr
  refine Ev.call (a := 58) (as := [.ref 5, .int (nI 105)]) (rest := []) (lv0 := [(0, .ref 5), (1, .int (nI 105))]) (Q1 := (fun z0 h' => z0 = none ∧ h' = HN (RT g T p 1 le li l) hl (RF (3, T, c, e)))) rfl rfl (K_exp1 _ _ _ _ _ _ hT hX p le li l _ ⟨rfl, rfl⟩) (fun r h' hr => ?_)
  obtain ⟨rfl, rfl⟩ := hr
  refine Ev.run 4 (pc' := 4) (lv' := [(2, .int (nI 1)), (0, .ref 5), (1, .retAddr 8)]) (st' := [.retAddr 8, .int (nI 1)]) (h' := HN (RT g T p 1 le li l) hl (RF (3, T, c, e))) rfl ?_
  refine Ev.call (a := 241) (as := [.retAddr 8]) (rest := [.int (nI 1)]) (lv0 := [(0, .retAddr 8)]) (Q1 := (fun z0 h' => z0 = some (.int (nI 5)) ∧ h' = HN (RT g T p 1 le li l) hl (RF (3, T, c, e)))) rfl rfl (K_len8 _ _ ⟨rfl, rfl⟩) (fun r h' hr => ?_)
  obtain ⟨rfl, rfl⟩ := hr
  refine Ev.run 4 (pc' := 13) (lv' := [(2, .int (nI 1)), (0, .ref 5), (1, .retAddr 8)]) (st' := [.int (nI 1), .retAddr 8, .ref 5]) (h' := HN (RT g T p 1 le li l) hl (RF (3, T, c, e))) rfl ?_
  refine Ev.call (a := 242) (as := [.retAddr 8, .int (nI 1)]) (rest := [.ref 5]) (lv0 := [(0, .retAddr 8), (1, .int (nI 1))]) (Q1 := (fun z0 h' => z0 = some (.int (nI 118)) ∧ h' = HN (RT g T p 1 le li l) hl (RF (3, T, c, e)))) rfl rfl (K_chr8_1 _ _ ⟨rfl, rfl⟩) (fun r h' hr => ?_)
  obtain ⟨rfl, rfl⟩ := hr
  refine Ev.call (a := 58) (as := [.ref 5, .int (nI 118)]) (rest := []) (lv0 := [(0, .ref 5), (1, .int (nI 118))]) (Q1 := (fun z0 h' => z0 = none ∧ h' = HN (RT g T p 1 le li l) hl (RF (3, T, c, e)))) rfl rfl (K_exp1 _ _ _ _ _ _ hT hX p le li l _ ⟨rfl, rfl⟩) (fun r h' hr => ?_)
  obtain ⟨rfl, rfl⟩ := hr
  refine Ev.run 4 (pc' := 4) (lv' := [(2, .int (nI 2)), (0, .ref 5), (1, .retAddr 8)]) (st' := [.retAddr 8, .int (nI 2)]) (h' := HN (RT g T p 1 le li l) hl (RF (3, T, c, e))) rfl ?_
  refine Ev.call (a := 241) (as := [.retAddr 8]) (rest := [.int (nI 2)]) (lv0 := [(0, .retAddr 8)]) (Q1 := (fun z0 h' => z0 = some (.int (nI 5)) ∧ h' = HN (RT g T p 1 le li l) hl (RF (3, T, c, e)))) rfl rfl (K_len8 _ _ ⟨rfl, rfl⟩) (fun r h' hr => ?_)
  obtain ⟨rfl, rfl⟩ := hr
  refine Ev.run 4 (pc' := 13) (lv' := [(2, .int (nI 2)), (0, .ref 5), (1, .retAddr 8)]) (st' := [.int (nI 2), .retAddr 8, .ref 5]) (h' := HN (RT g T p 1 le li l) hl (RF (3, T, c, e))) rfl ?_
  refine Ev.call (a := 242) (as := [.retAddr 8, .int (nI 2)]) (rest := [.ref 5]) (lv0 := [(0, .retAddr 8), (1, .int (nI 2))]) (Q1 := (fun z0 h' => z0 = some (.int (nI 101)) ∧ h' = HN (RT g T p 1 le li l) hl (RF (3, T, c, e)))) rfl rfl (K_chr8_2 _ _ ⟨rfl, rfl⟩) (fun r h' hr => ?_)
  obtain ⟨rfl, rfl⟩ := hr
  refine Ev.call (a := 58) (as := [.ref 5, .int (nI 101)]) (rest := []) (lv0 := [(0, .ref 5), (1, .int (nI 101))]) (Q1 := (fun z0 h' => z0 = none ∧ h' = HN (RT g T p 1 le li l) hl (RF (3, T, c, e)))) rfl rfl (K_exp1 _ _ _ _ _ _ hT hX p le li l _ ⟨rfl, rfl⟩) (fun r h' hr => ?_)
  obtain ⟨rfl, rfl⟩ := hr
  refine Ev.run 4 (pc' := 4) (lv' := [(2, .int (nI 3)), (0, .ref 5), (1, .retAddr 8)]) (st' := [.retAddr 8, .int (nI 3)]) (h' := HN (RT g T p 1 le li l) hl (RF (3, T, c, e))) rfl ?_
  refine Ev.call (a := 241) (as := [.retAddr 8]) (rest := [.int (nI 3)]) (lv0 := [(0, .retAddr 8)]) (Q1 := (fun z0 h' => z0 = some (.int (nI 5)) ∧ h' = HN (RT g T p 1 le li l) hl (RF (3, T, c, e)))) rfl rfl (K_len8 _ _ ⟨rfl, rfl⟩) (fun r h' hr => ?_)
  obtain ⟨rfl, rfl⟩ := hr
  refine Ev.run 4 (pc' := 13) (lv' := [(2, .int (nI 3)), (0, .ref 5), (1, .retAddr 8)]) (st' := [.int (nI 3), .retAddr 8, .ref 5]) (h' := HN (RT g T p 1 le li l) hl (RF (3, T, c, e))) rfl ?_
  refine Ev.call (a := 242) (as := [.retAddr 8, .int (nI 3)]) (rest := [.ref 5]) (lv0 := [(0, .retAddr 8), (1, .int (nI 3))]) (Q1 := (fun z0 h' => z0 = some (.int (nI 115)) ∧ h' = HN (RT g T p 1 le li l) hl (RF (3, T, c, e)))) rfl rfl (K_chr8_3 _ _ ⟨rfl, rfl⟩) (fun r h' hr => ?_)
  obtain ⟨rfl, rfl⟩ := hr
  refine Ev.call (a := 58) (as := [.ref 5, .int (nI 115)]) (rest := []) (lv0 := [(0, .ref 5), (1, .int (nI 115))]) (Q1 := (fun z0 h' => z0 = none ∧ h' = HN (RT g T p 1 le li l) hl (RF (3, T, c, e)))) rfl rfl (K_exp1 _ _ _ _ _ _ hT hX p le li l _ ⟨rfl, rfl⟩) (fun r h' hr => ?_)
  obtain ⟨rfl, rfl⟩ := hr
  refine Ev.run 4 (pc' := 4) (lv' := [(2, .int (nI 4)), (0, .ref 5), (1, .retAddr 8)]) (st' := [.retAddr 8, .int (nI 4)]) (h' := HN (RT g T p 1 le li l) hl (RF (3, T, c, e))) rfl ?_
  refine Ev.call (a := 241) (as := [.retAddr 8]) (rest := [.int (nI 4)]) (lv0 := [(0, .retAddr 8)]) (Q1 := (fun z0 h' => z0 = some (.int (nI 5)) ∧ h' = HN (RT g T p 1 le li l) hl (RF (3, T, c, e)))) rfl rfl (K_len8 _ _ ⟨rfl, rfl⟩) (fun r h' hr => ?_)
  obtain ⟨rfl, rfl⟩ := hr
  refine Ev.run 4 (pc' := 13) (lv' := [(2, .int (nI 4)), (0, .ref 5), (1, .retAddr 8)]) (st' := [.int (nI 4), .retAddr 8, .ref 5]) (h' := HN (RT g T p 1 le li l) hl (RF (3, T, c, e))) rfl ?_
  refine Ev.call (a := 242) (as := [.retAddr 8, .int (nI 4)]) (rest := [.ref 5]) (lv0 := [(0, .retAddr 8), (1, .int (nI 4))]) (Q1 := (fun z0 h' => z0 = some (.int (nI 32)) ∧ h' = HN (RT g T p 1 le li l) hl (RF (3, T, c, e)))) rfl rfl (K_chr8_4 _ _ ⟨rfl, rfl⟩) (fun r h' hr => ?_)
  obtain ⟨rfl, rfl⟩ := hr
  refine Ev.call (a := 58) (as := [.ref 5, .int (nI 32)]) (rest := []) (lv0 := [(0, .ref 5), (1, .int (nI 32))]) (Q1 := (fun z0 h' => z0 = none ∧ h' = HN (RT g T p 1 le li l) hl (RF (3, T, c, e)))) rfl rfl (K_exp1 _ _ _ _ _ _ hT hX p le li l _ ⟨rfl, rfl⟩) (fun r h' hr => ?_)
  obtain ⟨rfl, rfl⟩ := hr
  refine Ev.run 4 (pc' := 4) (lv' := [(2, .int (nI 5)), (0, .ref 5), (1, .retAddr 8)]) (st' := [.retAddr 8, .int (nI 5)]) (h' := HN (RT g T p 1 le li l) hl (RF (3, T, c, e))) rfl ?_
  refine Ev.call (a := 241) (as := [.retAddr 8]) (rest := [.int (nI 5)]) (lv0 := [(0, .retAddr 8)]) (Q1 := (fun z0 h' => z0 = some (.int (nI 5)) ∧ h' = HN (RT g T p 1 le li l) hl (RF (3, T, c, e)))) rfl rfl (K_len8 _ _ ⟨rfl, rfl⟩) (fun r h' hr => ?_)
  obtain ⟨rfl, rfl⟩ := hr
  refine Ev.run 1 (pc' := 25) (lv' := [(2, .int (nI 5)), (0, .ref 5), (1, .retAddr 8)]) (st' := []) (h' := HN (RT g T p 1 le li l) hl (RF (3, T, c, e))) rfl ?_
  refine Ev.ret (v := none) rfl ?_
  exact hq
theorem K_all0_8 {L : Nat} {xs : Nat → Int32} (d : Nat) (g : Nat → Nat → Nat) (hl : Nat → Nat → Int64) (T c e : Nat) (hT : TT T) (hX : TX g) (p le li : Nat) (l : List Nat) (hp : p ≤ 200) {Q : Po} (hq : (∀ q, exS g [105, 118, 101, 115, 32] p = (true, q) → Q none (HN (RT g T q 0 le li l) hl (RF (3, T, c, e)))) ∧ (∀ q, exS g [105, 118, 101, 115, 32] p = (false, q) → Q none (HN (RT g T q 1 le li l) hl (RF (3, T, c, e))))) : Ev L xs (d + 6) 57 0 [(0, .ref 5), (1, .retAddr 8)] [] (HN (RT g T p 0 le li l) hl (RF (3, T, c, e))) Q := by
  have hN := hX.1
  refine Ev.run 4 (pc' := 4) (lv' := [(2, .int (nI 0)), (0, .ref 5), (1, .retAddr 8)]) (st' := [.retAddr 8, .int (nI 0)]) (h' := HN (RT g T p 0 le li l) hl (RF (3, T, c, e))) rfl ?_
  refine Ev.call (a := 241) (as := [.retAddr 8]) (rest := [.int (nI 0)]) (lv0 := [(0, .retAddr 8)]) (Q1 := (fun z0 h' => z0 = some (.int (nI 5)) ∧ h' = HN (RT g T p 0 le li l) hl (RF (3, T, c, e)))) rfl rfl (K_len8 _ _ ⟨rfl, rfl⟩) (fun r h' hr => ?_)
  obtain ⟨rfl, rfl⟩ := hr
  refine Ev.run 4 (pc' := 13) (lv' := [(2, .int (nI 0)), (0, .ref 5), (1, .retAddr 8)]) (st' := [.int (nI 0), .retAddr 8, .ref 5]) (h' := HN (RT g T p 0 le li l) hl (RF (3, T, c, e))) rfl ?_
  refine Ev.call (a := 242) (as := [.retAddr 8, .int (nI 0)]) (rest := [.ref 5]) (lv0 := [(0, .retAddr 8), (1, .int (nI 0))]) (Q1 := (fun z0 h' => z0 = some (.int (nI 105)) ∧ h' = HN (RT g T p 0 le li l) hl (RF (3, T, c, e)))) rfl rfl (K_chr8_0 _ _ ⟨rfl, rfl⟩) (fun r h' hr => ?_)
  obtain ⟨rfl, rfl⟩ := hr
  refine Ev.call (a := 58) (as := [.ref 5, .int (nI 105)]) (rest := []) (lv0 := [(0, .ref 5), (1, .int (nI 105))]) (Q1 := (fun z0 h' => (pkS g p = 105 ∧ z0 = none ∧ h' = HN (RT g T (p + 1) 0 le li l) hl (RF (3, T, c, e))) ∨ (¬ pkS g p = 105 ∧ z0 = none ∧ h' = HN (RT g T p 1 le li l) hl (RF (3, T, c, e))))) rfl rfl (K_exp0 _ _ _ _ _ _ hT hX p le li l 105 (by omega) (by decide) (by decide) ⟨fun hz => Or.inl ⟨hz, rfl, rfl⟩, fun hz => Or.inr ⟨hz, rfl, rfl⟩⟩) (fun r h' hr => ?_)
  rcases hr with ⟨hxt0, rfl, rfl⟩ | ⟨hxt0, rfl, rfl⟩
  · skip
    refine Ev.run 4 (pc' := 4) (lv' := [(2, .int (nI 1)), (0, .ref 5), (1, .retAddr 8)]) (st' := [.retAddr 8, .int (nI 1)]) (h' := HN (RT g T (p + 1) 0 le li l) hl (RF (3, T, c, e))) rfl ?_
    refine Ev.call (a := 241) (as := [.retAddr 8]) (rest := [.int (nI 1)]) (lv0 := [(0, .retAddr 8)]) (Q1 := (fun z0 h' => z0 = some (.int (nI 5)) ∧ h' = HN (RT g T (p + 1) 0 le li l) hl (RF (3, T, c, e)))) rfl rfl (K_len8 _ _ ⟨rfl, rfl⟩) (fun r h' hr => ?_)
    obtain ⟨rfl, rfl⟩ := hr
    refine Ev.run 4 (pc' := 13) (lv' := [(2, .int (nI 1)), (0, .ref 5), (1, .retAddr 8)]) (st' := [.int (nI 1), .retAddr 8, .ref 5]) (h' := HN (RT g T (p + 1) 0 le li l) hl (RF (3, T, c, e))) rfl ?_
    refine Ev.call (a := 242) (as := [.retAddr 8, .int (nI 1)]) (rest := [.ref 5]) (lv0 := [(0, .retAddr 8), (1, .int (nI 1))]) (Q1 := (fun z0 h' => z0 = some (.int (nI 118)) ∧ h' = HN (RT g T (p + 1) 0 le li l) hl (RF (3, T, c, e)))) rfl rfl (K_chr8_1 _ _ ⟨rfl, rfl⟩) (fun r h' hr => ?_)
    obtain ⟨rfl, rfl⟩ := hr
    refine Ev.call (a := 58) (as := [.ref 5, .int (nI 118)]) (rest := []) (lv0 := [(0, .ref 5), (1, .int (nI 118))]) (Q1 := (fun z0 h' => (pkS g (p + 1) = 118 ∧ z0 = none ∧ h' = HN (RT g T (p + 1 + 1) 0 le li l) hl (RF (3, T, c, e))) ∨ (¬ pkS g (p + 1) = 118 ∧ z0 = none ∧ h' = HN (RT g T (p + 1) 1 le li l) hl (RF (3, T, c, e))))) rfl rfl (K_exp0 _ _ _ _ _ _ hT hX (p + 1) le li l 118 (by omega) (by decide) (by decide) ⟨fun hz => Or.inl ⟨hz, rfl, rfl⟩, fun hz => Or.inr ⟨hz, rfl, rfl⟩⟩) (fun r h' hr => ?_)
    rcases hr with ⟨hxt1, rfl, rfl⟩ | ⟨hxt1, rfl, rfl⟩
    · skip
      refine Ev.run 4 (pc' := 4) (lv' := [(2, .int (nI 2)), (0, .ref 5), (1, .retAddr 8)]) (st' := [.retAddr 8, .int (nI 2)]) (h' := HN (RT g T (p + 1 + 1) 0 le li l) hl (RF (3, T, c, e))) rfl ?_
      refine Ev.call (a := 241) (as := [.retAddr 8]) (rest := [.int (nI 2)]) (lv0 := [(0, .retAddr 8)]) (Q1 := (fun z0 h' => z0 = some (.int (nI 5)) ∧ h' = HN (RT g T (p + 1 + 1) 0 le li l) hl (RF (3, T, c, e)))) rfl rfl (K_len8 _ _ ⟨rfl, rfl⟩) (fun r h' hr => ?_)
      obtain ⟨rfl, rfl⟩ := hr
      refine Ev.run 4 (pc' := 13) (lv' := [(2, .int (nI 2)), (0, .ref 5), (1, .retAddr 8)]) (st' := [.int (nI 2), .retAddr 8, .ref 5]) (h' := HN (RT g T (p + 1 + 1) 0 le li l) hl (RF (3, T, c, e))) rfl ?_
      refine Ev.call (a := 242) (as := [.retAddr 8, .int (nI 2)]) (rest := [.ref 5]) (lv0 := [(0, .retAddr 8), (1, .int (nI 2))]) (Q1 := (fun z0 h' => z0 = some (.int (nI 101)) ∧ h' = HN (RT g T (p + 1 + 1) 0 le li l) hl (RF (3, T, c, e)))) rfl rfl (K_chr8_2 _ _ ⟨rfl, rfl⟩) (fun r h' hr => ?_)
      obtain ⟨rfl, rfl⟩ := hr
      refine Ev.call (a := 58) (as := [.ref 5, .int (nI 101)]) (rest := []) (lv0 := [(0, .ref 5), (1, .int (nI 101))]) (Q1 := (fun z0 h' => (pkS g (p + 1 + 1) = 101 ∧ z0 = none ∧ h' = HN (RT g T (p + 1 + 1 + 1) 0 le li l) hl (RF (3, T, c, e))) ∨ (¬ pkS g (p + 1 + 1) = 101 ∧ z0 = none ∧ h' = HN (RT g T (p + 1 + 1) 1 le li l) hl (RF (3, T, c, e))))) rfl rfl (K_exp0 _ _ _ _ _ _ hT hX (p + 1 + 1) le li l 101 (by omega) (by decide) (by decide) ⟨fun hz => Or.inl ⟨hz, rfl, rfl⟩, fun hz => Or.inr ⟨hz, rfl, rfl⟩⟩) (fun r h' hr => ?_)
      rcases hr with ⟨hxt2, rfl, rfl⟩ | ⟨hxt2, rfl, rfl⟩
      · skip
        refine Ev.run 4 (pc' := 4) (lv' := [(2, .int (nI 3)), (0, .ref 5), (1, .retAddr 8)]) (st' := [.retAddr 8, .int (nI 3)]) (h' := HN (RT g T (p + 1 + 1 + 1) 0 le li l) hl (RF (3, T, c, e))) rfl ?_
        refine Ev.call (a := 241) (as := [.retAddr 8]) (rest := [.int (nI 3)]) (lv0 := [(0, .retAddr 8)]) (Q1 := (fun z0 h' => z0 = some (.int (nI 5)) ∧ h' = HN (RT g T (p + 1 + 1 + 1) 0 le li l) hl (RF (3, T, c, e)))) rfl rfl (K_len8 _ _ ⟨rfl, rfl⟩) (fun r h' hr => ?_)
        obtain ⟨rfl, rfl⟩ := hr
        refine Ev.run 4 (pc' := 13) (lv' := [(2, .int (nI 3)), (0, .ref 5), (1, .retAddr 8)]) (st' := [.int (nI 3), .retAddr 8, .ref 5]) (h' := HN (RT g T (p + 1 + 1 + 1) 0 le li l) hl (RF (3, T, c, e))) rfl ?_
        refine Ev.call (a := 242) (as := [.retAddr 8, .int (nI 3)]) (rest := [.ref 5]) (lv0 := [(0, .retAddr 8), (1, .int (nI 3))]) (Q1 := (fun z0 h' => z0 = some (.int (nI 115)) ∧ h' = HN (RT g T (p + 1 + 1 + 1) 0 le li l) hl (RF (3, T, c, e)))) rfl rfl (K_chr8_3 _ _ ⟨rfl, rfl⟩) (fun r h' hr => ?_)
        obtain ⟨rfl, rfl⟩ := hr
        refine Ev.call (a := 58) (as := [.ref 5, .int (nI 115)]) (rest := []) (lv0 := [(0, .ref 5), (1, .int (nI 115))]) (Q1 := (fun z0 h' => (pkS g (p + 1 + 1 + 1) = 115 ∧ z0 = none ∧ h' = HN (RT g T (p + 1 + 1 + 1 + 1) 0 le li l) hl (RF (3, T, c, e))) ∨ (¬ pkS g (p + 1 + 1 + 1) = 115 ∧ z0 = none ∧ h' = HN (RT g T (p + 1 + 1 + 1) 1 le li l) hl (RF (3, T, c, e))))) rfl rfl (K_exp0 _ _ _ _ _ _ hT hX (p + 1 + 1 + 1) le li l 115 (by omega) (by decide) (by decide) ⟨fun hz => Or.inl ⟨hz, rfl, rfl⟩, fun hz => Or.inr ⟨hz, rfl, rfl⟩⟩) (fun r h' hr => ?_)
        rcases hr with ⟨hxt3, rfl, rfl⟩ | ⟨hxt3, rfl, rfl⟩
        · skip
          refine Ev.run 4 (pc' := 4) (lv' := [(2, .int (nI 4)), (0, .ref 5), (1, .retAddr 8)]) (st' := [.retAddr 8, .int (nI 4)]) (h' := HN (RT g T (p + 1 + 1 + 1 + 1) 0 le li l) hl (RF (3, T, c, e))) rfl ?_
          refine Ev.call (a := 241) (as := [.retAddr 8]) (rest := [.int (nI 4)]) (lv0 := [(0, .retAddr 8)]) (Q1 := (fun z0 h' => z0 = some (.int (nI 5)) ∧ h' = HN (RT g T (p + 1 + 1 + 1 + 1) 0 le li l) hl (RF (3, T, c, e)))) rfl rfl (K_len8 _ _ ⟨rfl, rfl⟩) (fun r h' hr => ?_)
          obtain ⟨rfl, rfl⟩ := hr
          refine Ev.run 4 (pc' := 13) (lv' := [(2, .int (nI 4)), (0, .ref 5), (1, .retAddr 8)]) (st' := [.int (nI 4), .retAddr 8, .ref 5]) (h' := HN (RT g T (p + 1 + 1 + 1 + 1) 0 le li l) hl (RF (3, T, c, e))) rfl ?_
          refine Ev.call (a := 242) (as := [.retAddr 8, .int (nI 4)]) (rest := [.ref 5]) (lv0 := [(0, .retAddr 8), (1, .int (nI 4))]) (Q1 := (fun z0 h' => z0 = some (.int (nI 32)) ∧ h' = HN (RT g T (p + 1 + 1 + 1 + 1) 0 le li l) hl (RF (3, T, c, e)))) rfl rfl (K_chr8_4 _ _ ⟨rfl, rfl⟩) (fun r h' hr => ?_)
          obtain ⟨rfl, rfl⟩ := hr
          refine Ev.call (a := 58) (as := [.ref 5, .int (nI 32)]) (rest := []) (lv0 := [(0, .ref 5), (1, .int (nI 32))]) (Q1 := (fun z0 h' => (pkS g (p + 1 + 1 + 1 + 1) = 32 ∧ z0 = none ∧ h' = HN (RT g T (p + 1 + 1 + 1 + 1 + 1) 0 le li l) hl (RF (3, T, c, e))) ∨ (¬ pkS g (p + 1 + 1 + 1 + 1) = 32 ∧ z0 = none ∧ h' = HN (RT g T (p + 1 + 1 + 1 + 1) 1 le li l) hl (RF (3, T, c, e))))) rfl rfl (K_exp0 _ _ _ _ _ _ hT hX (p + 1 + 1 + 1 + 1) le li l 32 (by omega) (by decide) (by decide) ⟨fun hz => Or.inl ⟨hz, rfl, rfl⟩, fun hz => Or.inr ⟨hz, rfl, rfl⟩⟩) (fun r h' hr => ?_)
          rcases hr with ⟨hxt4, rfl, rfl⟩ | ⟨hxt4, rfl, rfl⟩
          · skip
            refine Ev.run 4 (pc' := 4) (lv' := [(2, .int (nI 5)), (0, .ref 5), (1, .retAddr 8)]) (st' := [.retAddr 8, .int (nI 5)]) (h' := HN (RT g T (p + 1 + 1 + 1 + 1 + 1) 0 le li l) hl (RF (3, T, c, e))) rfl ?_
            refine Ev.call (a := 241) (as := [.retAddr 8]) (rest := [.int (nI 5)]) (lv0 := [(0, .retAddr 8)]) (Q1 := (fun z0 h' => z0 = some (.int (nI 5)) ∧ h' = HN (RT g T (p + 1 + 1 + 1 + 1 + 1) 0 le li l) hl (RF (3, T, c, e)))) rfl rfl (K_len8 _ _ ⟨rfl, rfl⟩) (fun r h' hr => ?_)
            obtain ⟨rfl, rfl⟩ := hr
            refine Ev.run 1 (pc' := 25) (lv' := [(2, .int (nI 5)), (0, .ref 5), (1, .retAddr 8)]) (st' := []) (h' := HN (RT g T (p + 1 + 1 + 1 + 1 + 1) 0 le li l) hl (RF (3, T, c, e))) rfl ?_
            refine Ev.ret (v := none) rfl ?_
            exact hq.1 _ (by unfold exS; rw [if_pos hxt0]; unfold exS; rw [if_pos hxt1]; unfold exS; rw [if_pos hxt2]; unfold exS; rw [if_pos hxt3]; unfold exS; rw [if_pos hxt4]; rfl)
          · skip
            refine Ev.run 4 (pc' := 4) (lv' := [(2, .int (nI 5)), (0, .ref 5), (1, .retAddr 8)]) (st' := [.retAddr 8, .int (nI 5)]) (h' := HN (RT g T (p + 1 + 1 + 1 + 1) 1 le li l) hl (RF (3, T, c, e))) rfl ?_
            refine Ev.call (a := 241) (as := [.retAddr 8]) (rest := [.int (nI 5)]) (lv0 := [(0, .retAddr 8)]) (Q1 := (fun z0 h' => z0 = some (.int (nI 5)) ∧ h' = HN (RT g T (p + 1 + 1 + 1 + 1) 1 le li l) hl (RF (3, T, c, e)))) rfl rfl (K_len8 _ _ ⟨rfl, rfl⟩) (fun r h' hr => ?_)
            obtain ⟨rfl, rfl⟩ := hr
            refine Ev.run 1 (pc' := 25) (lv' := [(2, .int (nI 5)), (0, .ref 5), (1, .retAddr 8)]) (st' := []) (h' := HN (RT g T (p + 1 + 1 + 1 + 1) 1 le li l) hl (RF (3, T, c, e))) rfl ?_
            refine Ev.ret (v := none) rfl ?_
            exact hq.2 _ (by unfold exS; rw [if_pos hxt0]; unfold exS; rw [if_pos hxt1]; unfold exS; rw [if_pos hxt2]; unfold exS; rw [if_pos hxt3]; unfold exS; rw [if_neg hxt4])
        · skip
          refine Ev.run 4 (pc' := 4) (lv' := [(2, .int (nI 4)), (0, .ref 5), (1, .retAddr 8)]) (st' := [.retAddr 8, .int (nI 4)]) (h' := HN (RT g T (p + 1 + 1 + 1) 1 le li l) hl (RF (3, T, c, e))) rfl ?_
          refine Ev.call (a := 241) (as := [.retAddr 8]) (rest := [.int (nI 4)]) (lv0 := [(0, .retAddr 8)]) (Q1 := (fun z0 h' => z0 = some (.int (nI 5)) ∧ h' = HN (RT g T (p + 1 + 1 + 1) 1 le li l) hl (RF (3, T, c, e)))) rfl rfl (K_len8 _ _ ⟨rfl, rfl⟩) (fun r h' hr => ?_)
          obtain ⟨rfl, rfl⟩ := hr
          refine Ev.run 4 (pc' := 13) (lv' := [(2, .int (nI 4)), (0, .ref 5), (1, .retAddr 8)]) (st' := [.int (nI 4), .retAddr 8, .ref 5]) (h' := HN (RT g T (p + 1 + 1 + 1) 1 le li l) hl (RF (3, T, c, e))) rfl ?_
          refine Ev.call (a := 242) (as := [.retAddr 8, .int (nI 4)]) (rest := [.ref 5]) (lv0 := [(0, .retAddr 8), (1, .int (nI 4))]) (Q1 := (fun z0 h' => z0 = some (.int (nI 32)) ∧ h' = HN (RT g T (p + 1 + 1 + 1) 1 le li l) hl (RF (3, T, c, e)))) rfl rfl (K_chr8_4 _ _ ⟨rfl, rfl⟩) (fun r h' hr => ?_)
          obtain ⟨rfl, rfl⟩ := hr
          refine Ev.call (a := 58) (as := [.ref 5, .int (nI 32)]) (rest := []) (lv0 := [(0, .ref 5), (1, .int (nI 32))]) (Q1 := (fun z0 h' => z0 = none ∧ h' = HN (RT g T (p + 1 + 1 + 1) 1 le li l) hl (RF (3, T, c, e)))) rfl rfl (K_exp1 _ _ _ _ _ _ hT hX (p + 1 + 1 + 1) le li l _ ⟨rfl, rfl⟩) (fun r h' hr => ?_)
          obtain ⟨rfl, rfl⟩ := hr
          refine Ev.run 4 (pc' := 4) (lv' := [(2, .int (nI 5)), (0, .ref 5), (1, .retAddr 8)]) (st' := [.retAddr 8, .int (nI 5)]) (h' := HN (RT g T (p + 1 + 1 + 1) 1 le li l) hl (RF (3, T, c, e))) rfl ?_
          refine Ev.call (a := 241) (as := [.retAddr 8]) (rest := [.int (nI 5)]) (lv0 := [(0, .retAddr 8)]) (Q1 := (fun z0 h' => z0 = some (.int (nI 5)) ∧ h' = HN (RT g T (p + 1 + 1 + 1) 1 le li l) hl (RF (3, T, c, e)))) rfl rfl (K_len8 _ _ ⟨rfl, rfl⟩) (fun r h' hr => ?_)
          obtain ⟨rfl, rfl⟩ := hr
          refine Ev.run 1 (pc' := 25) (lv' := [(2, .int (nI 5)), (0, .ref 5), (1, .retAddr 8)]) (st' := []) (h' := HN (RT g T (p + 1 + 1 + 1) 1 le li l) hl (RF (3, T, c, e))) rfl ?_
          refine Ev.ret (v := none) rfl ?_
          exact hq.2 _ (by unfold exS; rw [if_pos hxt0]; unfold exS; rw [if_pos hxt1]; unfold exS; rw [if_pos hxt2]; unfold exS; rw [if_neg hxt3])
      · skip
        refine Ev.run 4 (pc' := 4) (lv' := [(2, .int (nI 3)), (0, .ref 5), (1, .retAddr 8)]) (st' := [.retAddr 8, .int (nI 3)]) (h' := HN (RT g T (p + 1 + 1) 1 le li l) hl (RF (3, T, c, e))) rfl ?_
        refine Ev.call (a := 241) (as := [.retAddr 8]) (rest := [.int (nI 3)]) (lv0 := [(0, .retAddr 8)]) (Q1 := (fun z0 h' => z0 = some (.int (nI 5)) ∧ h' = HN (RT g T (p + 1 + 1) 1 le li l) hl (RF (3, T, c, e)))) rfl rfl (K_len8 _ _ ⟨rfl, rfl⟩) (fun r h' hr => ?_)
        obtain ⟨rfl, rfl⟩ := hr
        refine Ev.run 4 (pc' := 13) (lv' := [(2, .int (nI 3)), (0, .ref 5), (1, .retAddr 8)]) (st' := [.int (nI 3), .retAddr 8, .ref 5]) (h' := HN (RT g T (p + 1 + 1) 1 le li l) hl (RF (3, T, c, e))) rfl ?_
        refine Ev.call (a := 242) (as := [.retAddr 8, .int (nI 3)]) (rest := [.ref 5]) (lv0 := [(0, .retAddr 8), (1, .int (nI 3))]) (Q1 := (fun z0 h' => z0 = some (.int (nI 115)) ∧ h' = HN (RT g T (p + 1 + 1) 1 le li l) hl (RF (3, T, c, e)))) rfl rfl (K_chr8_3 _ _ ⟨rfl, rfl⟩) (fun r h' hr => ?_)
        obtain ⟨rfl, rfl⟩ := hr
        refine Ev.call (a := 58) (as := [.ref 5, .int (nI 115)]) (rest := []) (lv0 := [(0, .ref 5), (1, .int (nI 115))]) (Q1 := (fun z0 h' => z0 = none ∧ h' = HN (RT g T (p + 1 + 1) 1 le li l) hl (RF (3, T, c, e)))) rfl rfl (K_exp1 _ _ _ _ _ _ hT hX (p + 1 + 1) le li l _ ⟨rfl, rfl⟩) (fun r h' hr => ?_)
        obtain ⟨rfl, rfl⟩ := hr
        refine Ev.run 4 (pc' := 4) (lv' := [(2, .int (nI 4)), (0, .ref 5), (1, .retAddr 8)]) (st' := [.retAddr 8, .int (nI 4)]) (h' := HN (RT g T (p + 1 + 1) 1 le li l) hl (RF (3, T, c, e))) rfl ?_
        refine Ev.call (a := 241) (as := [.retAddr 8]) (rest := [.int (nI 4)]) (lv0 := [(0, .retAddr 8)]) (Q1 := (fun z0 h' => z0 = some (.int (nI 5)) ∧ h' = HN (RT g T (p + 1 + 1) 1 le li l) hl (RF (3, T, c, e)))) rfl rfl (K_len8 _ _ ⟨rfl, rfl⟩) (fun r h' hr => ?_)
        obtain ⟨rfl, rfl⟩ := hr
        refine Ev.run 4 (pc' := 13) (lv' := [(2, .int (nI 4)), (0, .ref 5), (1, .retAddr 8)]) (st' := [.int (nI 4), .retAddr 8, .ref 5]) (h' := HN (RT g T (p + 1 + 1) 1 le li l) hl (RF (3, T, c, e))) rfl ?_
        refine Ev.call (a := 242) (as := [.retAddr 8, .int (nI 4)]) (rest := [.ref 5]) (lv0 := [(0, .retAddr 8), (1, .int (nI 4))]) (Q1 := (fun z0 h' => z0 = some (.int (nI 32)) ∧ h' = HN (RT g T (p + 1 + 1) 1 le li l) hl (RF (3, T, c, e)))) rfl rfl (K_chr8_4 _ _ ⟨rfl, rfl⟩) (fun r h' hr => ?_)
        obtain ⟨rfl, rfl⟩ := hr
        refine Ev.call (a := 58) (as := [.ref 5, .int (nI 32)]) (rest := []) (lv0 := [(0, .ref 5), (1, .int (nI 32))]) (Q1 := (fun z0 h' => z0 = none ∧ h' = HN (RT g T (p + 1 + 1) 1 le li l) hl (RF (3, T, c, e)))) rfl rfl (K_exp1 _ _ _ _ _ _ hT hX (p + 1 + 1) le li l _ ⟨rfl, rfl⟩) (fun r h' hr => ?_)
        obtain ⟨rfl, rfl⟩ := hr
        refine Ev.run 4 (pc' := 4) (lv' := [(2, .int (nI 5)), (0, .ref 5), (1, .retAddr 8)]) (st' := [.retAddr 8, .int (nI 5)]) (h' := HN (RT g T (p + 1 + 1) 1 le li l) hl (RF (3, T, c, e))) rfl ?_
        refine Ev.call (a := 241) (as := [.retAddr 8]) (rest := [.int (nI 5)]) (lv0 := [(0, .retAddr 8)]) (Q1 := (fun z0 h' => z0 = some (.int (nI 5)) ∧ h' = HN (RT g T (p + 1 + 1) 1 le li l) hl (RF (3, T, c, e)))) rfl rfl (K_len8 _ _ ⟨rfl, rfl⟩) (fun r h' hr => ?_)
        obtain ⟨rfl, rfl⟩ := hr
        refine Ev.run 1 (pc' := 25) (lv' := [(2, .int (nI 5)), (0, .ref 5), (1, .retAddr 8)]) (st' := []) (h' := HN (RT g T (p + 1 + 1) 1 le li l) hl (RF (3, T, c, e))) rfl ?_
        refine Ev.ret (v := none) rfl ?_
        exact hq.2 _ (by unfold exS; rw [if_pos hxt0]; unfold exS; rw [if_pos hxt1]; unfold exS; rw [if_neg hxt2])
    · skip
      refine Ev.run 4 (pc' := 4) (lv' := [(2, .int (nI 2)), (0, .ref 5), (1, .retAddr 8)]) (st' := [.retAddr 8, .int (nI 2)]) (h' := HN (RT g T (p + 1) 1 le li l) hl (RF (3, T, c, e))) rfl ?_
      refine Ev.call (a := 241) (as := [.retAddr 8]) (rest := [.int (nI 2)]) (lv0 := [(0, .retAddr 8)]) (Q1 := (fun z0 h' => z0 = some (.int (nI 5)) ∧ h' = HN (RT g T (p + 1) 1 le li l) hl (RF (3, T, c, e)))) rfl rfl (K_len8 _ _ ⟨rfl, rfl⟩) (fun r h' hr => ?_)
      obtain ⟨rfl, rfl⟩ := hr
      refine Ev.run 4 (pc' := 13) (lv' := [(2, .int (nI 2)), (0, .ref 5), (1, .retAddr 8)]) (st' := [.int (nI 2), .retAddr 8, .ref 5]) (h' := HN (RT g T (p + 1) 1 le li l) hl (RF (3, T, c, e))) rfl ?_
      refine Ev.call (a := 242) (as := [.retAddr 8, .int (nI 2)]) (rest := [.ref 5]) (lv0 := [(0, .retAddr 8), (1, .int (nI 2))]) (Q1 := (fun z0 h' => z0 = some (.int (nI 101)) ∧ h' = HN (RT g T (p + 1) 1 le li l) hl (RF (3, T, c, e)))) rfl rfl (K_chr8_2 _ _ ⟨rfl, rfl⟩) (fun r h' hr => ?_)
      obtain ⟨rfl, rfl⟩ := hr
      refine Ev.call (a := 58) (as := [.ref 5, .int (nI 101)]) (rest := []) (lv0 := [(0, .ref 5), (1, .int (nI 101))]) (Q1 := (fun z0 h' => z0 = none ∧ h' = HN (RT g T (p + 1) 1 le li l) hl (RF (3, T, c, e)))) rfl rfl (K_exp1 _ _ _ _ _ _ hT hX (p + 1) le li l _ ⟨rfl, rfl⟩) (fun r h' hr => ?_)
      obtain ⟨rfl, rfl⟩ := hr
      refine Ev.run 4 (pc' := 4) (lv' := [(2, .int (nI 3)), (0, .ref 5), (1, .retAddr 8)]) (st' := [.retAddr 8, .int (nI 3)]) (h' := HN (RT g T (p + 1) 1 le li l) hl (RF (3, T, c, e))) rfl ?_
      refine Ev.call (a := 241) (as := [.retAddr 8]) (rest := [.int (nI 3)]) (lv0 := [(0, .retAddr 8)]) (Q1 := (fun z0 h' => z0 = some (.int (nI 5)) ∧ h' = HN (RT g T (p + 1) 1 le li l) hl (RF (3, T, c, e)))) rfl rfl (K_len8 _ _ ⟨rfl, rfl⟩) (fun r h' hr => ?_)
      obtain ⟨rfl, rfl⟩ := hr
      refine Ev.run 4 (pc' := 13) (lv' := [(2, .int (nI 3)), (0, .ref 5), (1, .retAddr 8)]) (st' := [.int (nI 3), .retAddr 8, .ref 5]) (h' := HN (RT g T (p + 1) 1 le li l) hl (RF (3, T, c, e))) rfl ?_
      refine Ev.call (a := 242) (as := [.retAddr 8, .int (nI 3)]) (rest := [.ref 5]) (lv0 := [(0, .retAddr 8), (1, .int (nI 3))]) (Q1 := (fun z0 h' => z0 = some (.int (nI 115)) ∧ h' = HN (RT g T (p + 1) 1 le li l) hl (RF (3, T, c, e)))) rfl rfl (K_chr8_3 _ _ ⟨rfl, rfl⟩) (fun r h' hr => ?_)
      obtain ⟨rfl, rfl⟩ := hr
      refine Ev.call (a := 58) (as := [.ref 5, .int (nI 115)]) (rest := []) (lv0 := [(0, .ref 5), (1, .int (nI 115))]) (Q1 := (fun z0 h' => z0 = none ∧ h' = HN (RT g T (p + 1) 1 le li l) hl (RF (3, T, c, e)))) rfl rfl (K_exp1 _ _ _ _ _ _ hT hX (p + 1) le li l _ ⟨rfl, rfl⟩) (fun r h' hr => ?_)
      obtain ⟨rfl, rfl⟩ := hr
      refine Ev.run 4 (pc' := 4) (lv' := [(2, .int (nI 4)), (0, .ref 5), (1, .retAddr 8)]) (st' := [.retAddr 8, .int (nI 4)]) (h' := HN (RT g T (p + 1) 1 le li l) hl (RF (3, T, c, e))) rfl ?_
      refine Ev.call (a := 241) (as := [.retAddr 8]) (rest := [.int (nI 4)]) (lv0 := [(0, .retAddr 8)]) (Q1 := (fun z0 h' => z0 = some (.int (nI 5)) ∧ h' = HN (RT g T (p + 1) 1 le li l) hl (RF (3, T, c, e)))) rfl rfl (K_len8 _ _ ⟨rfl, rfl⟩) (fun r h' hr => ?_)
      obtain ⟨rfl, rfl⟩ := hr
      refine Ev.run 4 (pc' := 13) (lv' := [(2, .int (nI 4)), (0, .ref 5), (1, .retAddr 8)]) (st' := [.int (nI 4), .retAddr 8, .ref 5]) (h' := HN (RT g T (p + 1) 1 le li l) hl (RF (3, T, c, e))) rfl ?_
      refine Ev.call (a := 242) (as := [.retAddr 8, .int (nI 4)]) (rest := [.ref 5]) (lv0 := [(0, .retAddr 8), (1, .int (nI 4))]) (Q1 := (fun z0 h' => z0 = some (.int (nI 32)) ∧ h' = HN (RT g T (p + 1) 1 le li l) hl (RF (3, T, c, e)))) rfl rfl (K_chr8_4 _ _ ⟨rfl, rfl⟩) (fun r h' hr => ?_)
      obtain ⟨rfl, rfl⟩ := hr
      refine Ev.call (a := 58) (as := [.ref 5, .int (nI 32)]) (rest := []) (lv0 := [(0, .ref 5), (1, .int (nI 32))]) (Q1 := (fun z0 h' => z0 = none ∧ h' = HN (RT g T (p + 1) 1 le li l) hl (RF (3, T, c, e)))) rfl rfl (K_exp1 _ _ _ _ _ _ hT hX (p + 1) le li l _ ⟨rfl, rfl⟩) (fun r h' hr => ?_)
      obtain ⟨rfl, rfl⟩ := hr
      refine Ev.run 4 (pc' := 4) (lv' := [(2, .int (nI 5)), (0, .ref 5), (1, .retAddr 8)]) (st' := [.retAddr 8, .int (nI 5)]) (h' := HN (RT g T (p + 1) 1 le li l) hl (RF (3, T, c, e))) rfl ?_
      refine Ev.call (a := 241) (as := [.retAddr 8]) (rest := [.int (nI 5)]) (lv0 := [(0, .retAddr 8)]) (Q1 := (fun z0 h' => z0 = some (.int (nI 5)) ∧ h' = HN (RT g T (p + 1) 1 le li l) hl (RF (3, T, c, e)))) rfl rfl (K_len8 _ _ ⟨rfl, rfl⟩) (fun r h' hr => ?_)
      obtain ⟨rfl, rfl⟩ := hr
      refine Ev.run 1 (pc' := 25) (lv' := [(2, .int (nI 5)), (0, .ref 5), (1, .retAddr 8)]) (st' := []) (h' := HN (RT g T (p + 1) 1 le li l) hl (RF (3, T, c, e))) rfl ?_
      refine Ev.ret (v := none) rfl ?_
      exact hq.2 _ (by unfold exS; rw [if_pos hxt0]; unfold exS; rw [if_neg hxt1])
  · skip
    refine Ev.run 4 (pc' := 4) (lv' := [(2, .int (nI 1)), (0, .ref 5), (1, .retAddr 8)]) (st' := [.retAddr 8, .int (nI 1)]) (h' := HN (RT g T p 1 le li l) hl (RF (3, T, c, e))) rfl ?_
    refine Ev.call (a := 241) (as := [.retAddr 8]) (rest := [.int (nI 1)]) (lv0 := [(0, .retAddr 8)]) (Q1 := (fun z0 h' => z0 = some (.int (nI 5)) ∧ h' = HN (RT g T p 1 le li l) hl (RF (3, T, c, e)))) rfl rfl (K_len8 _ _ ⟨rfl, rfl⟩) (fun r h' hr => ?_)
    obtain ⟨rfl, rfl⟩ := hr
    refine Ev.run 4 (pc' := 13) (lv' := [(2, .int (nI 1)), (0, .ref 5), (1, .retAddr 8)]) (st' := [.int (nI 1), .retAddr 8, .ref 5]) (h' := HN (RT g T p 1 le li l) hl (RF (3, T, c, e))) rfl ?_
    refine Ev.call (a := 242) (as := [.retAddr 8, .int (nI 1)]) (rest := [.ref 5]) (lv0 := [(0, .retAddr 8), (1, .int (nI 1))]) (Q1 := (fun z0 h' => z0 = some (.int (nI 118)) ∧ h' = HN (RT g T p 1 le li l) hl (RF (3, T, c, e)))) rfl rfl (K_chr8_1 _ _ ⟨rfl, rfl⟩) (fun r h' hr => ?_)
    obtain ⟨rfl, rfl⟩ := hr
    refine Ev.call (a := 58) (as := [.ref 5, .int (nI 118)]) (rest := []) (lv0 := [(0, .ref 5), (1, .int (nI 118))]) (Q1 := (fun z0 h' => z0 = none ∧ h' = HN (RT g T p 1 le li l) hl (RF (3, T, c, e)))) rfl rfl (K_exp1 _ _ _ _ _ _ hT hX p le li l _ ⟨rfl, rfl⟩) (fun r h' hr => ?_)
    obtain ⟨rfl, rfl⟩ := hr
    refine Ev.run 4 (pc' := 4) (lv' := [(2, .int (nI 2)), (0, .ref 5), (1, .retAddr 8)]) (st' := [.retAddr 8, .int (nI 2)]) (h' := HN (RT g T p 1 le li l) hl (RF (3, T, c, e))) rfl ?_
    refine Ev.call (a := 241) (as := [.retAddr 8]) (rest := [.int (nI 2)]) (lv0 := [(0, .retAddr 8)]) (Q1 := (fun z0 h' => z0 = some (.int (nI 5)) ∧ h' = HN (RT g T p 1 le li l) hl (RF (3, T, c, e)))) rfl rfl (K_len8 _ _ ⟨rfl, rfl⟩) (fun r h' hr => ?_)
    obtain ⟨rfl, rfl⟩ := hr
    refine Ev.run 4 (pc' := 13) (lv' := [(2, .int (nI 2)), (0, .ref 5), (1, .retAddr 8)]) (st' := [.int (nI 2), .retAddr 8, .ref 5]) (h' := HN (RT g T p 1 le li l) hl (RF (3, T, c, e))) rfl ?_
    refine Ev.call (a := 242) (as := [.retAddr 8, .int (nI 2)]) (rest := [.ref 5]) (lv0 := [(0, .retAddr 8), (1, .int (nI 2))]) (Q1 := (fun z0 h' => z0 = some (.int (nI 101)) ∧ h' = HN (RT g T p 1 le li l) hl (RF (3, T, c, e)))) rfl rfl (K_chr8_2 _ _ ⟨rfl, rfl⟩) (fun r h' hr => ?_)
    obtain ⟨rfl, rfl⟩ := hr
    refine Ev.call (a := 58) (as := [.ref 5, .int (nI 101)]) (rest := []) (lv0 := [(0, .ref 5), (1, .int (nI 101))]) (Q1 := (fun z0 h' => z0 = none ∧ h' = HN (RT g T p 1 le li l) hl (RF (3, T, c, e)))) rfl rfl (K_exp1 _ _ _ _ _ _ hT hX p le li l _ ⟨rfl, rfl⟩) (fun r h' hr => ?_)
    obtain ⟨rfl, rfl⟩ := hr
    refine Ev.run 4 (pc' := 4) (lv' := [(2, .int (nI 3)), (0, .ref 5), (1, .retAddr 8)]) (st' := [.retAddr 8, .int (nI 3)]) (h' := HN (RT g T p 1 le li l) hl (RF (3, T, c, e))) rfl ?_
    refine Ev.call (a := 241) (as := [.retAddr 8]) (rest := [.int (nI 3)]) (lv0 := [(0, .retAddr 8)]) (Q1 := (fun z0 h' => z0 = some (.int (nI 5)) ∧ h' = HN (RT g T p 1 le li l) hl (RF (3, T, c, e)))) rfl rfl (K_len8 _ _ ⟨rfl, rfl⟩) (fun r h' hr => ?_)
    obtain ⟨rfl, rfl⟩ := hr
    refine Ev.run 4 (pc' := 13) (lv' := [(2, .int (nI 3)), (0, .ref 5), (1, .retAddr 8)]) (st' := [.int (nI 3), .retAddr 8, .ref 5]) (h' := HN (RT g T p 1 le li l) hl (RF (3, T, c, e))) rfl ?_
    refine Ev.call (a := 242) (as := [.retAddr 8, .int (nI 3)]) (rest := [.ref 5]) (lv0 := [(0, .retAddr 8), (1, .int (nI 3))]) (Q1 := (fun z0 h' => z0 = some (.int (nI 115)) ∧ h' = HN (RT g T p 1 le li l) hl (RF (3, T, c, e)))) rfl rfl (K_chr8_3 _ _ ⟨rfl, rfl⟩) (fun r h' hr => ?_)
    obtain ⟨rfl, rfl⟩ := hr
    refine Ev.call (a := 58) (as := [.ref 5, .int (nI 115)]) (rest := []) (lv0 := [(0, .ref 5), (1, .int (nI 115))]) (Q1 := (fun z0 h' => z0 = none ∧ h' = HN (RT g T p 1 le li l) hl (RF (3, T, c, e)))) rfl rfl (K_exp1 _ _ _ _ _ _ hT hX p le li l _ ⟨rfl, rfl⟩) (fun r h' hr => ?_)
    obtain ⟨rfl, rfl⟩ := hr
    refine Ev.run 4 (pc' := 4) (lv' := [(2, .int (nI 4)), (0, .ref 5), (1, .retAddr 8)]) (st' := [.retAddr 8, .int (nI 4)]) (h' := HN (RT g T p 1 le li l) hl (RF (3, T, c, e))) rfl ?_
    refine Ev.call (a := 241) (as := [.retAddr 8]) (rest := [.int (nI 4)]) (lv0 := [(0, .retAddr 8)]) (Q1 := (fun z0 h' => z0 = some (.int (nI 5)) ∧ h' = HN (RT g T p 1 le li l) hl (RF (3, T, c, e)))) rfl rfl (K_len8 _ _ ⟨rfl, rfl⟩) (fun r h' hr => ?_)
    obtain ⟨rfl, rfl⟩ := hr
    refine Ev.run 4 (pc' := 13) (lv' := [(2, .int (nI 4)), (0, .ref 5), (1, .retAddr 8)]) (st' := [.int (nI 4), .retAddr 8, .ref 5]) (h' := HN (RT g T p 1 le li l) hl (RF (3, T, c, e))) rfl ?_
    refine Ev.call (a := 242) (as := [.retAddr 8, .int (nI 4)]) (rest := [.ref 5]) (lv0 := [(0, .retAddr 8), (1, .int (nI 4))]) (Q1 := (fun z0 h' => z0 = some (.int (nI 32)) ∧ h' = HN (RT g T p 1 le li l) hl (RF (3, T, c, e)))) rfl rfl (K_chr8_4 _ _ ⟨rfl, rfl⟩) (fun r h' hr => ?_)
    obtain ⟨rfl, rfl⟩ := hr
    refine Ev.call (a := 58) (as := [.ref 5, .int (nI 32)]) (rest := []) (lv0 := [(0, .ref 5), (1, .int (nI 32))]) (Q1 := (fun z0 h' => z0 = none ∧ h' = HN (RT g T p 1 le li l) hl (RF (3, T, c, e)))) rfl rfl (K_exp1 _ _ _ _ _ _ hT hX p le li l _ ⟨rfl, rfl⟩) (fun r h' hr => ?_)
    obtain ⟨rfl, rfl⟩ := hr
    refine Ev.run 4 (pc' := 4) (lv' := [(2, .int (nI 5)), (0, .ref 5), (1, .retAddr 8)]) (st' := [.retAddr 8, .int (nI 5)]) (h' := HN (RT g T p 1 le li l) hl (RF (3, T, c, e))) rfl ?_
    refine Ev.call (a := 241) (as := [.retAddr 8]) (rest := [.int (nI 5)]) (lv0 := [(0, .retAddr 8)]) (Q1 := (fun z0 h' => z0 = some (.int (nI 5)) ∧ h' = HN (RT g T p 1 le li l) hl (RF (3, T, c, e)))) rfl rfl (K_len8 _ _ ⟨rfl, rfl⟩) (fun r h' hr => ?_)
    obtain ⟨rfl, rfl⟩ := hr
    refine Ev.run 1 (pc' := 25) (lv' := [(2, .int (nI 5)), (0, .ref 5), (1, .retAddr 8)]) (st' := []) (h' := HN (RT g T p 1 le li l) hl (RF (3, T, c, e))) rfl ?_
    refine Ev.ret (v := none) rfl ?_
    exact hq.2 _ (by  unfold exS; rw [if_neg hxt0])
section CS
variable {g : Nat → Nat → Nat}
theorem cl_k {p q1 q : Nat} {le l0 : List Nat} {b : Bool} (hk : pkS g p = 107) (h1 : exS g [107, 110, 111, 119, 32] p = (true, q1)) (h2 : eF g 101 q1 l0 [] true = (b, q, le)) : clS g p l0 = (b, q, le, 0, 0) := by
  have k0 : kdS g p = 0 := if_pos hk
  unfold clS
  rw [k0]
  have h1' : exS g (wdL 0 ++ [32]) p = (true, q1) := h1
  rw [h1', if_pos rfl, if_pos rfl, h2]
theorem cl_kx {p q : Nat} {l0 : List Nat} (hk : pkS g p = 107) (h1 : exS g [107, 110, 111, 119, 32] p = (false, q)) : clS g p l0 = (false, q, l0, 0, 0) := by
  have k0 : kdS g p = 0 := if_pos hk
  unfold clS
  rw [k0]
  have h1' : exS g (wdL 0 ++ [32]) p = (false, q) := h1
  rw [h1', if_neg (by decide)]
theorem kd_e {p : Nat} (h1 : ¬ pkS g p = 107) (h2 : ¬ pkS g (p + 1) = 105) : kdS g p = 1 := by
  unfold kdS
  rw [if_neg h1, if_neg h2]
theorem kd_i {p : Nat} (h1 : ¬ pkS g p = 107) (h2 : pkS g (p + 1) = 105) : kdS g p = 2 := by
  unfold kdS
  rw [if_neg h1, if_pos h2]
theorem cl_n {p k q1 : Nat} {l0 : List Nat} (h0 : k ≠ 0) (hk : kdS g p = k) (h1 : exS g (wdL k ++ [32]) p = (true, q1)) : clS g p l0 = if (nuS g q1).1 = true then (true, (nuS g q1).2.2, l0, k, (nuS g q1).2.1) else (false, q1, l0, k, 0) := by
  unfold clS
  rw [hk, h1, if_pos rfl, if_neg h0]
theorem cl_nx {p k q : Nat} {l0 : List Nat} (hk : kdS g p = k) (h1 : exS g (wdL k ++ [32]) p = (false, q)) : clS g p l0 = (false, q, l0, k, 0) := by
  unfold clS
  rw [hk, h1, if_neg (by decide)]
theorem ex_l {p : Nat} {cs : List Nat} {r : Bool × Nat} (h : pkS g p = 108) (h1 : exS g cs (p + 1) = r) : exS g (108 :: cs) p = r := by
  unfold exS
  rw [if_pos h]
  exact h1
theorem ex_ln {p : Nat} {cs : List Nat} (h : ¬ pkS g p = 108) : exS g (108 :: cs) p = (false, p) := by
  unfold exS
  rw [if_neg h]
/-- the words after l, as the class takes them -/
theorem ex_i {p q : Nat} {b : Bool} (h : ¬ pkS g p = 101) (h1 : exS g [105, 118, 101, 115, 32] p = (b, q)) : (pkS g p = 105 ∧ True) ∨ (¬ pkS g p = 105 ∧ b = false ∧ q = p ∧ exS g [101, 97, 115, 116, 32] p = (false, p)) := by
  by_cases e : pkS g p = 105
  · exact Or.inl ⟨e, trivial⟩
  · refine Or.inr ⟨e, ?_⟩
    unfold exS at h1
    rw [if_neg e] at h1
    injection h1 with a b
    refine ⟨a.symm, b.symm, ?_⟩
    unfold exS
    rw [if_neg h]
/-- a clause that the class reads as know: what it adds -/
def KKn (g : Nat → Nat → Nat) (p q : Nat) (lx : List Nat) : Prop := (∀ l0, clS g p l0 = (true, q, l0 ++ lx, 0, 0)) ∧ HB lx 0 1 11 ∧ SR lx ∧ lx.length + p + 5 ≤ q ∧ q ≤ g 166 17
def KNu (g : Nat → Nat → Nat) (p q k m : Nat) : Prop := (∀ l0, clS g p l0 = (true, q, l0, k, m)) ∧ p < q ∧ q ≤ g 166 17 ∧ m ≤ 99
def KFx (g : Nat → Nat → Nat) (p q : Nat) : Prop := (∀ l0, ∃ l2 k m, clS g p l0 = (false, q, l2, k, m)) ∧ p ≤ q ∧ q ≤ g 166 17
theorem KKn.mk {p q1 q : Nat} {o : Bool} {lc : List Nat} (hN : g 166 17 ≤ 100) (hk : pkS g p = 107) (h1 : exS g [107, 110, 111, 119, 32] p = (true, q1)) (h2 : EK g 0 q1 q o lc) (h3 : ¬ (pkS g q = 38 ∨ pkS g q = 124)) : KKn g p q (lc ++ oL o) := by
  have hb := h2.hb
  have e := ex_len h1
  have e : q1 = p + 5 := e
  have c := h2.2.2.1
  refine ⟨fun l0 => cl_k hk h1 (h2.top hN h3 l0), hb.1, hb.2, ?_, h2.2.1⟩
  rw [List.length_append]
  omega
theorem KFx.k {p q1 q : Nat} (hN : g 166 17 ≤ 100) (hp : p ≤ g 166 17) (hk : pkS g p = 107) (h1 : exS g [107, 110, 111, 119, 32] p = (true, q1)) (h2 : EX g 0 q1 q) : KFx g p q := by
  have e : q1 = p + 5 := ex_len h1
  refine ⟨fun l0 => ?_, by have := h2.1; omega, h2.2.1⟩
  obtain ⟨l', e2⟩ := h2.top hN l0
  exact ⟨l', 0, 0, cl_k hk h1 e2⟩
theorem KFx.kx {p q : Nat} (hp : p ≤ g 166 17) (hk : pkS g p = 107) (h1 : exS g [107, 110, 111, 119, 32] p = (false, q)) : KFx g p q := by
  have z := ex_le h1 hp (by decide)
  exact ⟨fun l0 => ⟨l0, 0, 0, cl_kx hk h1⟩, z.1, z.2⟩
theorem KFx.l {p : Nat} (hp : p ≤ g 166 17) (hk : ¬ pkS g p = 107) (h1 : ¬ pkS g p = 108) : KFx g p p := by
  refine ⟨fun l0 => ⟨l0, kdS g p, 0, cl_nx rfl ?_⟩, Nat.le_refl _, hp⟩
  by_cases e : pkS g (p + 1) = 105
  · rw [kd_i hk e]; exact ex_ln h1
  · rw [kd_e hk e]; exact ex_ln h1
theorem KNu.e {p q1 q m : Nat} (h1 : pkS g p = 108) (h2 : pkS g (p + 1) = 101) (h3 : exS g [101, 97, 115, 116, 32] (p + 1) = (true, q1)) (h4 : nuS g q1 = (true, m, q)) : KNu g p q 1 m := by
  have z := nuS_le h4
  have e : q1 = p + 1 + 5 := ex_len h3
  refine ⟨fun l0 => ?_, by omega, z.2.2, z.1⟩
  rw [cl_n (by decide) (kd_e (by omega) (by omega)) (ex_l h1 h3), h4, if_pos rfl]
theorem KFx.e {p q1 q m : Nat} (hp : p ≤ g 166 17) (h1 : pkS g p = 108) (h2 : pkS g (p + 1) = 101) (h3 : exS g [101, 97, 115, 116, 32] (p + 1) = (true, q1)) (h4 : nuS g q1 = (false, m, q)) (h5 : q1 ≤ g 166 17) : KFx g p q1 := by
  have e : q1 = p + 1 + 5 := ex_len h3
  refine ⟨fun l0 => ⟨l0, 1, 0, ?_⟩, by omega, h5⟩
  rw [cl_n (by decide) (kd_e (by omega) (by omega)) (ex_l h1 h3), h4, if_neg (by decide)]
theorem KFx.ex {p q : Nat} (hp : p < g 166 17) (h1 : pkS g p = 108) (h2 : pkS g (p + 1) = 101) (h3 : exS g [101, 97, 115, 116, 32] (p + 1) = (false, q)) : KFx g p q := by
  have z := ex_le h3 hp (by decide)
  exact ⟨fun l0 => ⟨l0, 1, 0, cl_nx (kd_e (by omega) (by omega)) (ex_l h1 h3)⟩, by omega, z.2⟩
theorem KNu.i {p q1 q m : Nat} (h1 : pkS g p = 108) (h2 : ¬ pkS g (p + 1) = 101) (h3 : exS g [105, 118, 101, 115, 32] (p + 1) = (true, q1)) (h4 : nuS g q1 = (true, m, q)) : KNu g p q 2 m := by
  have z := nuS_le h4
  have e : q1 = p + 1 + 5 := ex_len h3
  rcases ex_i h2 h3 with w | w
  · refine ⟨fun l0 => ?_, by omega, z.2.2, z.1⟩
    rw [cl_n (by decide) (kd_i (by omega) w.1) (ex_l h1 h3), h4, if_pos rfl]
  · exact absurd w.2.1 (by decide)
theorem KFx.i {p q1 q m : Nat} (hp : p ≤ g 166 17) (h1 : pkS g p = 108) (h2 : ¬ pkS g (p + 1) = 101) (h3 : exS g [105, 118, 101, 115, 32] (p + 1) = (true, q1)) (h4 : nuS g q1 = (false, m, q)) (h5 : q1 ≤ g 166 17) : KFx g p q1 := by
  have e : q1 = p + 1 + 5 := ex_len h3
  rcases ex_i h2 h3 with w | w
  · refine ⟨fun l0 => ⟨l0, 2, 0, ?_⟩, by omega, h5⟩
    rw [cl_n (by decide) (kd_i (by omega) w.1) (ex_l h1 h3), h4, if_neg (by decide)]
  · exact absurd w.2.1 (by decide)
theorem KFx.ix {p q : Nat} (hp : p < g 166 17) (h1 : pkS g p = 108) (h2 : ¬ pkS g (p + 1) = 101) (h3 : exS g [105, 118, 101, 115, 32] (p + 1) = (false, q)) : KFx g p q := by
  have z := ex_le h3 hp (by decide)
  rcases ex_i h2 h3 with w | w
  · exact ⟨fun l0 => ⟨l0, 2, 0, cl_nx (kd_i (by omega) w.1) (ex_l h1 h3)⟩, by omega, z.2⟩
  · obtain ⟨w1, _, rfl, w3⟩ := w
    exact ⟨fun l0 => ⟨l0, 1, 0, cl_nx (kd_e (by omega) w1) (ex_l h1 w3)⟩, by omega, z.2⟩
end CS
