/-! the class's reader: words, clauses -/
theorem ex_le {g : Nat → Nat → Nat} {cs : List Nat} {p q : Nat} {b : Bool} (h : exS g cs p = (b, q)) (hp : p ≤ g 166 17) (hc : ∀ c ∈ cs, c < 4294967295) : p ≤ q ∧ q ≤ g 166 17 := by
  have z := exS_le (g := g) cs p hp hc
  rw [h] at z
  exact ⟨z.2, z.1⟩
theorem ex_len {g : Nat → Nat → Nat} : ∀ {cs : List Nat} {p q : Nat}, exS g cs p = (true, q) → q = p + cs.length := by
  intro cs
  induction cs with
  | nil => intro p q h; cases h; rfl
  | cons c cs ih =>
    intro p q h
    unfold exS at h
    by_cases e : pkS g p = c
    · rw [if_pos e] at h
      have := ih h
      show q = p + (cs.length + 1)
      omega
    · rw [if_neg e] at h; cases h
theorem K_all1_3 {L : Nat} {xs : Nat → Int32} (d : Nat) (g : Nat → Nat → Nat) (hl : Nat → Nat → Int64) (T c e : Nat) (hT : TbT T) (hX : TX g) (p le li : Nat) (l : List Nat) {Q : Po} (hq : Q none (HN (RT g T p 1 le li l) hl (RF (3, T, c, e)))) : Ev L xs (d + 6) 57 0 [(0, .ref 5), (1, .retAddr 3)] [] (HN (RT g T p 1 le li l) hl (RF (3, T, c, e))) Q := by
  have hN := hX.1
  refine Ev.run 4 (pc' := 4) (lv' := [(2, .int (nI 0)), (0, .ref 5), (1, .retAddr 3)]) (st' := [.retAddr 3, .int (nI 0)]) (h' := HN (RT g T p 1 le li l) hl (RF (3, T, c, e))) rfl ?_
  refine Ev.call (a := 241) (as := [.retAddr 3]) (rest := [.int (nI 0)]) (lv0 := [(0, .retAddr 3)]) (Q1 := (fun z0 h' => z0 = some (.int (nI 5)) ∧ h' = HN (RT g T p 1 le li l) hl (RF (3, T, c, e)))) rfl rfl (K_len3 _ _ ⟨rfl, rfl⟩) (fun r h' hr => ?_)
  obtain ⟨rfl, rfl⟩ := hr
  refine Ev.run 4 (pc' := 13) (lv' := [(2, .int (nI 0)), (0, .ref 5), (1, .retAddr 3)]) (st' := [.int (nI 0), .retAddr 3, .ref 5]) (h' := HN (RT g T p 1 le li l) hl (RF (3, T, c, e))) rfl ?_
  refine Ev.call (a := 242) (as := [.retAddr 3, .int (nI 0)]) (rest := [.ref 5]) (lv0 := [(0, .retAddr 3), (1, .int (nI 0))]) (Q1 := (fun z0 h' => z0 = some (.int (nI 107)) ∧ h' = HN (RT g T p 1 le li l) hl (RF (3, T, c, e)))) rfl rfl (K_chr3_0 _ _ ⟨rfl, rfl⟩) (fun r h' hr => ?_)
  obtain ⟨rfl, rfl⟩ := hr
  refine Ev.call (a := 58) (as := [.ref 5, .int (nI 107)]) (rest := []) (lv0 := [(0, .ref 5), (1, .int (nI 107))]) (Q1 := (fun z0 h' => z0 = none ∧ h' = HN (RT g T p 1 le li l) hl (RF (3, T, c, e)))) rfl rfl (K_exp1 _ _ _ _ _ _ hT hX p le li l _ ⟨rfl, rfl⟩) (fun r h' hr => ?_)
  obtain ⟨rfl, rfl⟩ := hr
  refine Ev.run 4 (pc' := 4) (lv' := [(2, .int (nI 1)), (0, .ref 5), (1, .retAddr 3)]) (st' := [.retAddr 3, .int (nI 1)]) (h' := HN (RT g T p 1 le li l) hl (RF (3, T, c, e))) rfl ?_
  refine Ev.call (a := 241) (as := [.retAddr 3]) (rest := [.int (nI 1)]) (lv0 := [(0, .retAddr 3)]) (Q1 := (fun z0 h' => z0 = some (.int (nI 5)) ∧ h' = HN (RT g T p 1 le li l) hl (RF (3, T, c, e)))) rfl rfl (K_len3 _ _ ⟨rfl, rfl⟩) (fun r h' hr => ?_)
  obtain ⟨rfl, rfl⟩ := hr
  refine Ev.run 4 (pc' := 13) (lv' := [(2, .int (nI 1)), (0, .ref 5), (1, .retAddr 3)]) (st' := [.int (nI 1), .retAddr 3, .ref 5]) (h' := HN (RT g T p 1 le li l) hl (RF (3, T, c, e))) rfl ?_
  refine Ev.call (a := 242) (as := [.retAddr 3, .int (nI 1)]) (rest := [.ref 5]) (lv0 := [(0, .retAddr 3), (1, .int (nI 1))]) (Q1 := (fun z0 h' => z0 = some (.int (nI 110)) ∧ h' = HN (RT g T p 1 le li l) hl (RF (3, T, c, e)))) rfl rfl (K_chr3_1 _ _ ⟨rfl, rfl⟩) (fun r h' hr => ?_)
  obtain ⟨rfl, rfl⟩ := hr
  refine Ev.call (a := 58) (as := [.ref 5, .int (nI 110)]) (rest := []) (lv0 := [(0, .ref 5), (1, .int (nI 110))]) (Q1 := (fun z0 h' => z0 = none ∧ h' = HN (RT g T p 1 le li l) hl (RF (3, T, c, e)))) rfl rfl (K_exp1 _ _ _ _ _ _ hT hX p le li l _ ⟨rfl, rfl⟩) (fun r h' hr => ?_)
  obtain ⟨rfl, rfl⟩ := hr
  refine Ev.run 4 (pc' := 4) (lv' := [(2, .int (nI 2)), (0, .ref 5), (1, .retAddr 3)]) (st' := [.retAddr 3, .int (nI 2)]) (h' := HN (RT g T p 1 le li l) hl (RF (3, T, c, e))) rfl ?_
  refine Ev.call (a := 241) (as := [.retAddr 3]) (rest := [.int (nI 2)]) (lv0 := [(0, .retAddr 3)]) (Q1 := (fun z0 h' => z0 = some (.int (nI 5)) ∧ h' = HN (RT g T p 1 le li l) hl (RF (3, T, c, e)))) rfl rfl (K_len3 _ _ ⟨rfl, rfl⟩) (fun r h' hr => ?_)
  obtain ⟨rfl, rfl⟩ := hr
  refine Ev.run 4 (pc' := 13) (lv' := [(2, .int (nI 2)), (0, .ref 5), (1, .retAddr 3)]) (st' := [.int (nI 2), .retAddr 3, .ref 5]) (h' := HN (RT g T p 1 le li l) hl (RF (3, T, c, e))) rfl ?_
  refine Ev.call (a := 242) (as := [.retAddr 3, .int (nI 2)]) (rest := [.ref 5]) (lv0 := [(0, .retAddr 3), (1, .int (nI 2))]) (Q1 := (fun z0 h' => z0 = some (.int (nI 111)) ∧ h' = HN (RT g T p 1 le li l) hl (RF (3, T, c, e)))) rfl rfl (K_chr3_2 _ _ ⟨rfl, rfl⟩) (fun r h' hr => ?_)
  obtain ⟨rfl, rfl⟩ := hr
  refine Ev.call (a := 58) (as := [.ref 5, .int (nI 111)]) (rest := []) (lv0 := [(0, .ref 5), (1, .int (nI 111))]) (Q1 := (fun z0 h' => z0 = none ∧ h' = HN (RT g T p 1 le li l) hl (RF (3, T, c, e)))) rfl rfl (K_exp1 _ _ _ _ _ _ hT hX p le li l _ ⟨rfl, rfl⟩) (fun r h' hr => ?_)
  obtain ⟨rfl, rfl⟩ := hr
  refine Ev.run 4 (pc' := 4) (lv' := [(2, .int (nI 3)), (0, .ref 5), (1, .retAddr 3)]) (st' := [.retAddr 3, .int (nI 3)]) (h' := HN (RT g T p 1 le li l) hl (RF (3, T, c, e))) rfl ?_
  refine Ev.call (a := 241) (as := [.retAddr 3]) (rest := [.int (nI 3)]) (lv0 := [(0, .retAddr 3)]) (Q1 := (fun z0 h' => z0 = some (.int (nI 5)) ∧ h' = HN (RT g T p 1 le li l) hl (RF (3, T, c, e)))) rfl rfl (K_len3 _ _ ⟨rfl, rfl⟩) (fun r h' hr => ?_)
  obtain ⟨rfl, rfl⟩ := hr
  refine Ev.run 4 (pc' := 13) (lv' := [(2, .int (nI 3)), (0, .ref 5), (1, .retAddr 3)]) (st' := [.int (nI 3), .retAddr 3, .ref 5]) (h' := HN (RT g T p 1 le li l) hl (RF (3, T, c, e))) rfl ?_
  refine Ev.call (a := 242) (as := [.retAddr 3, .int (nI 3)]) (rest := [.ref 5]) (lv0 := [(0, .retAddr 3), (1, .int (nI 3))]) (Q1 := (fun z0 h' => z0 = some (.int (nI 119)) ∧ h' = HN (RT g T p 1 le li l) hl (RF (3, T, c, e)))) rfl rfl (K_chr3_3 _ _ ⟨rfl, rfl⟩) (fun r h' hr => ?_)
  obtain ⟨rfl, rfl⟩ := hr
  refine Ev.call (a := 58) (as := [.ref 5, .int (nI 119)]) (rest := []) (lv0 := [(0, .ref 5), (1, .int (nI 119))]) (Q1 := (fun z0 h' => z0 = none ∧ h' = HN (RT g T p 1 le li l) hl (RF (3, T, c, e)))) rfl rfl (K_exp1 _ _ _ _ _ _ hT hX p le li l _ ⟨rfl, rfl⟩) (fun r h' hr => ?_)
  obtain ⟨rfl, rfl⟩ := hr
  refine Ev.run 4 (pc' := 4) (lv' := [(2, .int (nI 4)), (0, .ref 5), (1, .retAddr 3)]) (st' := [.retAddr 3, .int (nI 4)]) (h' := HN (RT g T p 1 le li l) hl (RF (3, T, c, e))) rfl ?_
  refine Ev.call (a := 241) (as := [.retAddr 3]) (rest := [.int (nI 4)]) (lv0 := [(0, .retAddr 3)]) (Q1 := (fun z0 h' => z0 = some (.int (nI 5)) ∧ h' = HN (RT g T p 1 le li l) hl (RF (3, T, c, e)))) rfl rfl (K_len3 _ _ ⟨rfl, rfl⟩) (fun r h' hr => ?_)
  obtain ⟨rfl, rfl⟩ := hr
  refine Ev.run 4 (pc' := 13) (lv' := [(2, .int (nI 4)), (0, .ref 5), (1, .retAddr 3)]) (st' := [.int (nI 4), .retAddr 3, .ref 5]) (h' := HN (RT g T p 1 le li l) hl (RF (3, T, c, e))) rfl ?_
  refine Ev.call (a := 242) (as := [.retAddr 3, .int (nI 4)]) (rest := [.ref 5]) (lv0 := [(0, .retAddr 3), (1, .int (nI 4))]) (Q1 := (fun z0 h' => z0 = some (.int (nI 32)) ∧ h' = HN (RT g T p 1 le li l) hl (RF (3, T, c, e)))) rfl rfl (K_chr3_4 _ _ ⟨rfl, rfl⟩) (fun r h' hr => ?_)
  obtain ⟨rfl, rfl⟩ := hr
  refine Ev.call (a := 58) (as := [.ref 5, .int (nI 32)]) (rest := []) (lv0 := [(0, .ref 5), (1, .int (nI 32))]) (Q1 := (fun z0 h' => z0 = none ∧ h' = HN (RT g T p 1 le li l) hl (RF (3, T, c, e)))) rfl rfl (K_exp1 _ _ _ _ _ _ hT hX p le li l _ ⟨rfl, rfl⟩) (fun r h' hr => ?_)
  obtain ⟨rfl, rfl⟩ := hr
  refine Ev.run 4 (pc' := 4) (lv' := [(2, .int (nI 5)), (0, .ref 5), (1, .retAddr 3)]) (st' := [.retAddr 3, .int (nI 5)]) (h' := HN (RT g T p 1 le li l) hl (RF (3, T, c, e))) rfl ?_
  refine Ev.call (a := 241) (as := [.retAddr 3]) (rest := [.int (nI 5)]) (lv0 := [(0, .retAddr 3)]) (Q1 := (fun z0 h' => z0 = some (.int (nI 5)) ∧ h' = HN (RT g T p 1 le li l) hl (RF (3, T, c, e)))) rfl rfl (K_len3 _ _ ⟨rfl, rfl⟩) (fun r h' hr => ?_)
  obtain ⟨rfl, rfl⟩ := hr
  refine Ev.run 1 (pc' := 25) (lv' := [(2, .int (nI 5)), (0, .ref 5), (1, .retAddr 3)]) (st' := []) (h' := HN (RT g T p 1 le li l) hl (RF (3, T, c, e))) rfl ?_
  refine Ev.ret (v := none) rfl ?_
  exact hq
theorem K_all0_3 {L : Nat} {xs : Nat → Int32} (d : Nat) (g : Nat → Nat → Nat) (hl : Nat → Nat → Int64) (T c e : Nat) (hT : TbT T) (hX : TX g) (p le li : Nat) (l : List Nat) (hp : p ≤ 200) {Q : Po} (hq : (∀ q, exS g [107, 110, 111, 119, 32] p = (true, q) → Q none (HN (RT g T q 0 le li l) hl (RF (3, T, c, e)))) ∧ (∀ q, exS g [107, 110, 111, 119, 32] p = (false, q) → Q none (HN (RT g T q 1 le li l) hl (RF (3, T, c, e))))) : Ev L xs (d + 6) 57 0 [(0, .ref 5), (1, .retAddr 3)] [] (HN (RT g T p 0 le li l) hl (RF (3, T, c, e))) Q := by
  have hN := hX.1
  refine Ev.run 4 (pc' := 4) (lv' := [(2, .int (nI 0)), (0, .ref 5), (1, .retAddr 3)]) (st' := [.retAddr 3, .int (nI 0)]) (h' := HN (RT g T p 0 le li l) hl (RF (3, T, c, e))) rfl ?_
  refine Ev.call (a := 241) (as := [.retAddr 3]) (rest := [.int (nI 0)]) (lv0 := [(0, .retAddr 3)]) (Q1 := (fun z0 h' => z0 = some (.int (nI 5)) ∧ h' = HN (RT g T p 0 le li l) hl (RF (3, T, c, e)))) rfl rfl (K_len3 _ _ ⟨rfl, rfl⟩) (fun r h' hr => ?_)
  obtain ⟨rfl, rfl⟩ := hr
  refine Ev.run 4 (pc' := 13) (lv' := [(2, .int (nI 0)), (0, .ref 5), (1, .retAddr 3)]) (st' := [.int (nI 0), .retAddr 3, .ref 5]) (h' := HN (RT g T p 0 le li l) hl (RF (3, T, c, e))) rfl ?_
  refine Ev.call (a := 242) (as := [.retAddr 3, .int (nI 0)]) (rest := [.ref 5]) (lv0 := [(0, .retAddr 3), (1, .int (nI 0))]) (Q1 := (fun z0 h' => z0 = some (.int (nI 107)) ∧ h' = HN (RT g T p 0 le li l) hl (RF (3, T, c, e)))) rfl rfl (K_chr3_0 _ _ ⟨rfl, rfl⟩) (fun r h' hr => ?_)
  obtain ⟨rfl, rfl⟩ := hr
  refine Ev.call (a := 58) (as := [.ref 5, .int (nI 107)]) (rest := []) (lv0 := [(0, .ref 5), (1, .int (nI 107))]) (Q1 := (fun z0 h' => (pkS g p = 107 ∧ z0 = none ∧ h' = HN (RT g T (p + 1) 0 le li l) hl (RF (3, T, c, e))) ∨ (¬ pkS g p = 107 ∧ z0 = none ∧ h' = HN (RT g T p 1 le li l) hl (RF (3, T, c, e))))) rfl rfl (K_exp0 _ _ _ _ _ _ hT hX p le li l 107 (by omega) (by decide) (by decide) ⟨fun hz => Or.inl ⟨hz, rfl, rfl⟩, fun hz => Or.inr ⟨hz, rfl, rfl⟩⟩) (fun r h' hr => ?_)
  rcases hr with ⟨hxt0, rfl, rfl⟩ | ⟨hxt0, rfl, rfl⟩
  · skip
    refine Ev.run 4 (pc' := 4) (lv' := [(2, .int (nI 1)), (0, .ref 5), (1, .retAddr 3)]) (st' := [.retAddr 3, .int (nI 1)]) (h' := HN (RT g T (p + 1) 0 le li l) hl (RF (3, T, c, e))) rfl ?_
    refine Ev.call (a := 241) (as := [.retAddr 3]) (rest := [.int (nI 1)]) (lv0 := [(0, .retAddr 3)]) (Q1 := (fun z0 h' => z0 = some (.int (nI 5)) ∧ h' = HN (RT g T (p + 1) 0 le li l) hl (RF (3, T, c, e)))) rfl rfl (K_len3 _ _ ⟨rfl, rfl⟩) (fun r h' hr => ?_)
    obtain ⟨rfl, rfl⟩ := hr
    refine Ev.run 4 (pc' := 13) (lv' := [(2, .int (nI 1)), (0, .ref 5), (1, .retAddr 3)]) (st' := [.int (nI 1), .retAddr 3, .ref 5]) (h' := HN (RT g T (p + 1) 0 le li l) hl (RF (3, T, c, e))) rfl ?_
    refine Ev.call (a := 242) (as := [.retAddr 3, .int (nI 1)]) (rest := [.ref 5]) (lv0 := [(0, .retAddr 3), (1, .int (nI 1))]) (Q1 := (fun z0 h' => z0 = some (.int (nI 110)) ∧ h' = HN (RT g T (p + 1) 0 le li l) hl (RF (3, T, c, e)))) rfl rfl (K_chr3_1 _ _ ⟨rfl, rfl⟩) (fun r h' hr => ?_)
    obtain ⟨rfl, rfl⟩ := hr
    refine Ev.call (a := 58) (as := [.ref 5, .int (nI 110)]) (rest := []) (lv0 := [(0, .ref 5), (1, .int (nI 110))]) (Q1 := (fun z0 h' => (pkS g (p + 1) = 110 ∧ z0 = none ∧ h' = HN (RT g T (p + 1 + 1) 0 le li l) hl (RF (3, T, c, e))) ∨ (¬ pkS g (p + 1) = 110 ∧ z0 = none ∧ h' = HN (RT g T (p + 1) 1 le li l) hl (RF (3, T, c, e))))) rfl rfl (K_exp0 _ _ _ _ _ _ hT hX (p + 1) le li l 110 (by omega) (by decide) (by decide) ⟨fun hz => Or.inl ⟨hz, rfl, rfl⟩, fun hz => Or.inr ⟨hz, rfl, rfl⟩⟩) (fun r h' hr => ?_)
    rcases hr with ⟨hxt1, rfl, rfl⟩ | ⟨hxt1, rfl, rfl⟩
    · skip
      refine Ev.run 4 (pc' := 4) (lv' := [(2, .int (nI 2)), (0, .ref 5), (1, .retAddr 3)]) (st' := [.retAddr 3, .int (nI 2)]) (h' := HN (RT g T (p + 1 + 1) 0 le li l) hl (RF (3, T, c, e))) rfl ?_
      refine Ev.call (a := 241) (as := [.retAddr 3]) (rest := [.int (nI 2)]) (lv0 := [(0, .retAddr 3)]) (Q1 := (fun z0 h' => z0 = some (.int (nI 5)) ∧ h' = HN (RT g T (p + 1 + 1) 0 le li l) hl (RF (3, T, c, e)))) rfl rfl (K_len3 _ _ ⟨rfl, rfl⟩) (fun r h' hr => ?_)
      obtain ⟨rfl, rfl⟩ := hr
      refine Ev.run 4 (pc' := 13) (lv' := [(2, .int (nI 2)), (0, .ref 5), (1, .retAddr 3)]) (st' := [.int (nI 2), .retAddr 3, .ref 5]) (h' := HN (RT g T (p + 1 + 1) 0 le li l) hl (RF (3, T, c, e))) rfl ?_
      refine Ev.call (a := 242) (as := [.retAddr 3, .int (nI 2)]) (rest := [.ref 5]) (lv0 := [(0, .retAddr 3), (1, .int (nI 2))]) (Q1 := (fun z0 h' => z0 = some (.int (nI 111)) ∧ h' = HN (RT g T (p + 1 + 1) 0 le li l) hl (RF (3, T, c, e)))) rfl rfl (K_chr3_2 _ _ ⟨rfl, rfl⟩) (fun r h' hr => ?_)
      obtain ⟨rfl, rfl⟩ := hr
      refine Ev.call (a := 58) (as := [.ref 5, .int (nI 111)]) (rest := []) (lv0 := [(0, .ref 5), (1, .int (nI 111))]) (Q1 := (fun z0 h' => (pkS g (p + 1 + 1) = 111 ∧ z0 = none ∧ h' = HN (RT g T (p + 1 + 1 + 1) 0 le li l) hl (RF (3, T, c, e))) ∨ (¬ pkS g (p + 1 + 1) = 111 ∧ z0 = none ∧ h' = HN (RT g T (p + 1 + 1) 1 le li l) hl (RF (3, T, c, e))))) rfl rfl (K_exp0 _ _ _ _ _ _ hT hX (p + 1 + 1) le li l 111 (by omega) (by decide) (by decide) ⟨fun hz => Or.inl ⟨hz, rfl, rfl⟩, fun hz => Or.inr ⟨hz, rfl, rfl⟩⟩) (fun r h' hr => ?_)
      rcases hr with ⟨hxt2, rfl, rfl⟩ | ⟨hxt2, rfl, rfl⟩
      · skip
        refine Ev.run 4 (pc' := 4) (lv' := [(2, .int (nI 3)), (0, .ref 5), (1, .retAddr 3)]) (st' := [.retAddr 3, .int (nI 3)]) (h' := HN (RT g T (p + 1 + 1 + 1) 0 le li l) hl (RF (3, T, c, e))) rfl ?_
        refine Ev.call (a := 241) (as := [.retAddr 3]) (rest := [.int (nI 3)]) (lv0 := [(0, .retAddr 3)]) (Q1 := (fun z0 h' => z0 = some (.int (nI 5)) ∧ h' = HN (RT g T (p + 1 + 1 + 1) 0 le li l) hl (RF (3, T, c, e)))) rfl rfl (K_len3 _ _ ⟨rfl, rfl⟩) (fun r h' hr => ?_)
        obtain ⟨rfl, rfl⟩ := hr
        refine Ev.run 4 (pc' := 13) (lv' := [(2, .int (nI 3)), (0, .ref 5), (1, .retAddr 3)]) (st' := [.int (nI 3), .retAddr 3, .ref 5]) (h' := HN (RT g T (p + 1 + 1 + 1) 0 le li l) hl (RF (3, T, c, e))) rfl ?_
        refine Ev.call (a := 242) (as := [.retAddr 3, .int (nI 3)]) (rest := [.ref 5]) (lv0 := [(0, .retAddr 3), (1, .int (nI 3))]) (Q1 := (fun z0 h' => z0 = some (.int (nI 119)) ∧ h' = HN (RT g T (p + 1 + 1 + 1) 0 le li l) hl (RF (3, T, c, e)))) rfl rfl (K_chr3_3 _ _ ⟨rfl, rfl⟩) (fun r h' hr => ?_)
        obtain ⟨rfl, rfl⟩ := hr
        refine Ev.call (a := 58) (as := [.ref 5, .int (nI 119)]) (rest := []) (lv0 := [(0, .ref 5), (1, .int (nI 119))]) (Q1 := (fun z0 h' => (pkS g (p + 1 + 1 + 1) = 119 ∧ z0 = none ∧ h' = HN (RT g T (p + 1 + 1 + 1 + 1) 0 le li l) hl (RF (3, T, c, e))) ∨ (¬ pkS g (p + 1 + 1 + 1) = 119 ∧ z0 = none ∧ h' = HN (RT g T (p + 1 + 1 + 1) 1 le li l) hl (RF (3, T, c, e))))) rfl rfl (K_exp0 _ _ _ _ _ _ hT hX (p + 1 + 1 + 1) le li l 119 (by omega) (by decide) (by decide) ⟨fun hz => Or.inl ⟨hz, rfl, rfl⟩, fun hz => Or.inr ⟨hz, rfl, rfl⟩⟩) (fun r h' hr => ?_)
        rcases hr with ⟨hxt3, rfl, rfl⟩ | ⟨hxt3, rfl, rfl⟩
        · skip
          refine Ev.run 4 (pc' := 4) (lv' := [(2, .int (nI 4)), (0, .ref 5), (1, .retAddr 3)]) (st' := [.retAddr 3, .int (nI 4)]) (h' := HN (RT g T (p + 1 + 1 + 1 + 1) 0 le li l) hl (RF (3, T, c, e))) rfl ?_
          refine Ev.call (a := 241) (as := [.retAddr 3]) (rest := [.int (nI 4)]) (lv0 := [(0, .retAddr 3)]) (Q1 := (fun z0 h' => z0 = some (.int (nI 5)) ∧ h' = HN (RT g T (p + 1 + 1 + 1 + 1) 0 le li l) hl (RF (3, T, c, e)))) rfl rfl (K_len3 _ _ ⟨rfl, rfl⟩) (fun r h' hr => ?_)
          obtain ⟨rfl, rfl⟩ := hr
          refine Ev.run 4 (pc' := 13) (lv' := [(2, .int (nI 4)), (0, .ref 5), (1, .retAddr 3)]) (st' := [.int (nI 4), .retAddr 3, .ref 5]) (h' := HN (RT g T (p + 1 + 1 + 1 + 1) 0 le li l) hl (RF (3, T, c, e))) rfl ?_
          refine Ev.call (a := 242) (as := [.retAddr 3, .int (nI 4)]) (rest := [.ref 5]) (lv0 := [(0, .retAddr 3), (1, .int (nI 4))]) (Q1 := (fun z0 h' => z0 = some (.int (nI 32)) ∧ h' = HN (RT g T (p + 1 + 1 + 1 + 1) 0 le li l) hl (RF (3, T, c, e)))) rfl rfl (K_chr3_4 _ _ ⟨rfl, rfl⟩) (fun r h' hr => ?_)
          obtain ⟨rfl, rfl⟩ := hr
          refine Ev.call (a := 58) (as := [.ref 5, .int (nI 32)]) (rest := []) (lv0 := [(0, .ref 5), (1, .int (nI 32))]) (Q1 := (fun z0 h' => (pkS g (p + 1 + 1 + 1 + 1) = 32 ∧ z0 = none ∧ h' = HN (RT g T (p + 1 + 1 + 1 + 1 + 1) 0 le li l) hl (RF (3, T, c, e))) ∨ (¬ pkS g (p + 1 + 1 + 1 + 1) = 32 ∧ z0 = none ∧ h' = HN (RT g T (p + 1 + 1 + 1 + 1) 1 le li l) hl (RF (3, T, c, e))))) rfl rfl (K_exp0 _ _ _ _ _ _ hT hX (p + 1 + 1 + 1 + 1) le li l 32 (by omega) (by decide) (by decide) ⟨fun hz => Or.inl ⟨hz, rfl, rfl⟩, fun hz => Or.inr ⟨hz, rfl, rfl⟩⟩) (fun r h' hr => ?_)
          rcases hr with ⟨hxt4, rfl, rfl⟩ | ⟨hxt4, rfl, rfl⟩
          · skip
            refine Ev.run 4 (pc' := 4) (lv' := [(2, .int (nI 5)), (0, .ref 5), (1, .retAddr 3)]) (st' := [.retAddr 3, .int (nI 5)]) (h' := HN (RT g T (p + 1 + 1 + 1 + 1 + 1) 0 le li l) hl (RF (3, T, c, e))) rfl ?_
            refine Ev.call (a := 241) (as := [.retAddr 3]) (rest := [.int (nI 5)]) (lv0 := [(0, .retAddr 3)]) (Q1 := (fun z0 h' => z0 = some (.int (nI 5)) ∧ h' = HN (RT g T (p + 1 + 1 + 1 + 1 + 1) 0 le li l) hl (RF (3, T, c, e)))) rfl rfl (K_len3 _ _ ⟨rfl, rfl⟩) (fun r h' hr => ?_)
            obtain ⟨rfl, rfl⟩ := hr
            refine Ev.run 1 (pc' := 25) (lv' := [(2, .int (nI 5)), (0, .ref 5), (1, .retAddr 3)]) (st' := []) (h' := HN (RT g T (p + 1 + 1 + 1 + 1 + 1) 0 le li l) hl (RF (3, T, c, e))) rfl ?_
            refine Ev.ret (v := none) rfl ?_
            exact hq.1 _ (by unfold exS; rw [if_pos hxt0]; unfold exS; rw [if_pos hxt1]; unfold exS; rw [if_pos hxt2]; unfold exS; rw [if_pos hxt3]; unfold exS; rw [if_pos hxt4]; rfl)
          · skip
            refine Ev.run 4 (pc' := 4) (lv' := [(2, .int (nI 5)), (0, .ref 5), (1, .retAddr 3)]) (st' := [.retAddr 3, .int (nI 5)]) (h' := HN (RT g T (p + 1 + 1 + 1 + 1) 1 le li l) hl (RF (3, T, c, e))) rfl ?_
            refine Ev.call (a := 241) (as := [.retAddr 3]) (rest := [.int (nI 5)]) (lv0 := [(0, .retAddr 3)]) (Q1 := (fun z0 h' => z0 = some (.int (nI 5)) ∧ h' = HN (RT g T (p + 1 + 1 + 1 + 1) 1 le li l) hl (RF (3, T, c, e)))) rfl rfl (K_len3 _ _ ⟨rfl, rfl⟩) (fun r h' hr => ?_)
            obtain ⟨rfl, rfl⟩ := hr
            refine Ev.run 1 (pc' := 25) (lv' := [(2, .int (nI 5)), (0, .ref 5), (1, .retAddr 3)]) (st' := []) (h' := HN (RT g T (p + 1 + 1 + 1 + 1) 1 le li l) hl (RF (3, T, c, e))) rfl ?_
            refine Ev.ret (v := none) rfl ?_
            exact hq.2 _ (by unfold exS; rw [if_pos hxt0]; unfold exS; rw [if_pos hxt1]; unfold exS; rw [if_pos hxt2]; unfold exS; rw [if_pos hxt3]; unfold exS; rw [if_neg hxt4])
        · skip
          refine Ev.run 4 (pc' := 4) (lv' := [(2, .int (nI 4)), (0, .ref 5), (1, .retAddr 3)]) (st' := [.retAddr 3, .int (nI 4)]) (h' := HN (RT g T (p + 1 + 1 + 1) 1 le li l) hl (RF (3, T, c, e))) rfl ?_
          refine Ev.call (a := 241) (as := [.retAddr 3]) (rest := [.int (nI 4)]) (lv0 := [(0, .retAddr 3)]) (Q1 := (fun z0 h' => z0 = some (.int (nI 5)) ∧ h' = HN (RT g T (p + 1 + 1 + 1) 1 le li l) hl (RF (3, T, c, e)))) rfl rfl (K_len3 _ _ ⟨rfl, rfl⟩) (fun r h' hr => ?_)
          obtain ⟨rfl, rfl⟩ := hr
          refine Ev.run 4 (pc' := 13) (lv' := [(2, .int (nI 4)), (0, .ref 5), (1, .retAddr 3)]) (st' := [.int (nI 4), .retAddr 3, .ref 5]) (h' := HN (RT g T (p + 1 + 1 + 1) 1 le li l) hl (RF (3, T, c, e))) rfl ?_
          refine Ev.call (a := 242) (as := [.retAddr 3, .int (nI 4)]) (rest := [.ref 5]) (lv0 := [(0, .retAddr 3), (1, .int (nI 4))]) (Q1 := (fun z0 h' => z0 = some (.int (nI 32)) ∧ h' = HN (RT g T (p + 1 + 1 + 1) 1 le li l) hl (RF (3, T, c, e)))) rfl rfl (K_chr3_4 _ _ ⟨rfl, rfl⟩) (fun r h' hr => ?_)
          obtain ⟨rfl, rfl⟩ := hr
          refine Ev.call (a := 58) (as := [.ref 5, .int (nI 32)]) (rest := []) (lv0 := [(0, .ref 5), (1, .int (nI 32))]) (Q1 := (fun z0 h' => z0 = none ∧ h' = HN (RT g T (p + 1 + 1 + 1) 1 le li l) hl (RF (3, T, c, e)))) rfl rfl (K_exp1 _ _ _ _ _ _ hT hX (p + 1 + 1 + 1) le li l _ ⟨rfl, rfl⟩) (fun r h' hr => ?_)
          obtain ⟨rfl, rfl⟩ := hr
          refine Ev.run 4 (pc' := 4) (lv' := [(2, .int (nI 5)), (0, .ref 5), (1, .retAddr 3)]) (st' := [.retAddr 3, .int (nI 5)]) (h' := HN (RT g T (p + 1 + 1 + 1) 1 le li l) hl (RF (3, T, c, e))) rfl ?_
          refine Ev.call (a := 241) (as := [.retAddr 3]) (rest := [.int (nI 5)]) (lv0 := [(0, .retAddr 3)]) (Q1 := (fun z0 h' => z0 = some (.int (nI 5)) ∧ h' = HN (RT g T (p + 1 + 1 + 1) 1 le li l) hl (RF (3, T, c, e)))) rfl rfl (K_len3 _ _ ⟨rfl, rfl⟩) (fun r h' hr => ?_)
          obtain ⟨rfl, rfl⟩ := hr
          refine Ev.run 1 (pc' := 25) (lv' := [(2, .int (nI 5)), (0, .ref 5), (1, .retAddr 3)]) (st' := []) (h' := HN (RT g T (p + 1 + 1 + 1) 1 le li l) hl (RF (3, T, c, e))) rfl ?_
          refine Ev.ret (v := none) rfl ?_
          exact hq.2 _ (by unfold exS; rw [if_pos hxt0]; unfold exS; rw [if_pos hxt1]; unfold exS; rw [if_pos hxt2]; unfold exS; rw [if_neg hxt3])
      · skip
        refine Ev.run 4 (pc' := 4) (lv' := [(2, .int (nI 3)), (0, .ref 5), (1, .retAddr 3)]) (st' := [.retAddr 3, .int (nI 3)]) (h' := HN (RT g T (p + 1 + 1) 1 le li l) hl (RF (3, T, c, e))) rfl ?_
        refine Ev.call (a := 241) (as := [.retAddr 3]) (rest := [.int (nI 3)]) (lv0 := [(0, .retAddr 3)]) (Q1 := (fun z0 h' => z0 = some (.int (nI 5)) ∧ h' = HN (RT g T (p + 1 + 1) 1 le li l) hl (RF (3, T, c, e)))) rfl rfl (K_len3 _ _ ⟨rfl, rfl⟩) (fun r h' hr => ?_)
        obtain ⟨rfl, rfl⟩ := hr
        refine Ev.run 4 (pc' := 13) (lv' := [(2, .int (nI 3)), (0, .ref 5), (1, .retAddr 3)]) (st' := [.int (nI 3), .retAddr 3, .ref 5]) (h' := HN (RT g T (p + 1 + 1) 1 le li l) hl (RF (3, T, c, e))) rfl ?_
        refine Ev.call (a := 242) (as := [.retAddr 3, .int (nI 3)]) (rest := [.ref 5]) (lv0 := [(0, .retAddr 3), (1, .int (nI 3))]) (Q1 := (fun z0 h' => z0 = some (.int (nI 119)) ∧ h' = HN (RT g T (p + 1 + 1) 1 le li l) hl (RF (3, T, c, e)))) rfl rfl (K_chr3_3 _ _ ⟨rfl, rfl⟩) (fun r h' hr => ?_)
        obtain ⟨rfl, rfl⟩ := hr
        refine Ev.call (a := 58) (as := [.ref 5, .int (nI 119)]) (rest := []) (lv0 := [(0, .ref 5), (1, .int (nI 119))]) (Q1 := (fun z0 h' => z0 = none ∧ h' = HN (RT g T (p + 1 + 1) 1 le li l) hl (RF (3, T, c, e)))) rfl rfl (K_exp1 _ _ _ _ _ _ hT hX (p + 1 + 1) le li l _ ⟨rfl, rfl⟩) (fun r h' hr => ?_)
        obtain ⟨rfl, rfl⟩ := hr
        refine Ev.run 4 (pc' := 4) (lv' := [(2, .int (nI 4)), (0, .ref 5), (1, .retAddr 3)]) (st' := [.retAddr 3, .int (nI 4)]) (h' := HN (RT g T (p + 1 + 1) 1 le li l) hl (RF (3, T, c, e))) rfl ?_
        refine Ev.call (a := 241) (as := [.retAddr 3]) (rest := [.int (nI 4)]) (lv0 := [(0, .retAddr 3)]) (Q1 := (fun z0 h' => z0 = some (.int (nI 5)) ∧ h' = HN (RT g T (p + 1 + 1) 1 le li l) hl (RF (3, T, c, e)))) rfl rfl (K_len3 _ _ ⟨rfl, rfl⟩) (fun r h' hr => ?_)
        obtain ⟨rfl, rfl⟩ := hr
        refine Ev.run 4 (pc' := 13) (lv' := [(2, .int (nI 4)), (0, .ref 5), (1, .retAddr 3)]) (st' := [.int (nI 4), .retAddr 3, .ref 5]) (h' := HN (RT g T (p + 1 + 1) 1 le li l) hl (RF (3, T, c, e))) rfl ?_
        refine Ev.call (a := 242) (as := [.retAddr 3, .int (nI 4)]) (rest := [.ref 5]) (lv0 := [(0, .retAddr 3), (1, .int (nI 4))]) (Q1 := (fun z0 h' => z0 = some (.int (nI 32)) ∧ h' = HN (RT g T (p + 1 + 1) 1 le li l) hl (RF (3, T, c, e)))) rfl rfl (K_chr3_4 _ _ ⟨rfl, rfl⟩) (fun r h' hr => ?_)
        obtain ⟨rfl, rfl⟩ := hr
        refine Ev.call (a := 58) (as := [.ref 5, .int (nI 32)]) (rest := []) (lv0 := [(0, .ref 5), (1, .int (nI 32))]) (Q1 := (fun z0 h' => z0 = none ∧ h' = HN (RT g T (p + 1 + 1) 1 le li l) hl (RF (3, T, c, e)))) rfl rfl (K_exp1 _ _ _ _ _ _ hT hX (p + 1 + 1) le li l _ ⟨rfl, rfl⟩) (fun r h' hr => ?_)
        obtain ⟨rfl, rfl⟩ := hr
        refine Ev.run 4 (pc' := 4) (lv' := [(2, .int (nI 5)), (0, .ref 5), (1, .retAddr 3)]) (st' := [.retAddr 3, .int (nI 5)]) (h' := HN (RT g T (p + 1 + 1) 1 le li l) hl (RF (3, T, c, e))) rfl ?_
        refine Ev.call (a := 241) (as := [.retAddr 3]) (rest := [.int (nI 5)]) (lv0 := [(0, .retAddr 3)]) (Q1 := (fun z0 h' => z0 = some (.int (nI 5)) ∧ h' = HN (RT g T (p + 1 + 1) 1 le li l) hl (RF (3, T, c, e)))) rfl rfl (K_len3 _ _ ⟨rfl, rfl⟩) (fun r h' hr => ?_)
        obtain ⟨rfl, rfl⟩ := hr
        refine Ev.run 1 (pc' := 25) (lv' := [(2, .int (nI 5)), (0, .ref 5), (1, .retAddr 3)]) (st' := []) (h' := HN (RT g T (p + 1 + 1) 1 le li l) hl (RF (3, T, c, e))) rfl ?_
        refine Ev.ret (v := none) rfl ?_
        exact hq.2 _ (by unfold exS; rw [if_pos hxt0]; unfold exS; rw [if_pos hxt1]; unfold exS; rw [if_neg hxt2])
    · skip
      refine Ev.run 4 (pc' := 4) (lv' := [(2, .int (nI 2)), (0, .ref 5), (1, .retAddr 3)]) (st' := [.retAddr 3, .int (nI 2)]) (h' := HN (RT g T (p + 1) 1 le li l) hl (RF (3, T, c, e))) rfl ?_
      refine Ev.call (a := 241) (as := [.retAddr 3]) (rest := [.int (nI 2)]) (lv0 := [(0, .retAddr 3)]) (Q1 := (fun z0 h' => z0 = some (.int (nI 5)) ∧ h' = HN (RT g T (p + 1) 1 le li l) hl (RF (3, T, c, e)))) rfl rfl (K_len3 _ _ ⟨rfl, rfl⟩) (fun r h' hr => ?_)
      obtain ⟨rfl, rfl⟩ := hr
      refine Ev.run 4 (pc' := 13) (lv' := [(2, .int (nI 2)), (0, .ref 5), (1, .retAddr 3)]) (st' := [.int (nI 2), .retAddr 3, .ref 5]) (h' := HN (RT g T (p + 1) 1 le li l) hl (RF (3, T, c, e))) rfl ?_
      refine Ev.call (a := 242) (as := [.retAddr 3, .int (nI 2)]) (rest := [.ref 5]) (lv0 := [(0, .retAddr 3), (1, .int (nI 2))]) (Q1 := (fun z0 h' => z0 = some (.int (nI 111)) ∧ h' = HN (RT g T (p + 1) 1 le li l) hl (RF (3, T, c, e)))) rfl rfl (K_chr3_2 _ _ ⟨rfl, rfl⟩) (fun r h' hr => ?_)
      obtain ⟨rfl, rfl⟩ := hr
      refine Ev.call (a := 58) (as := [.ref 5, .int (nI 111)]) (rest := []) (lv0 := [(0, .ref 5), (1, .int (nI 111))]) (Q1 := (fun z0 h' => z0 = none ∧ h' = HN (RT g T (p + 1) 1 le li l) hl (RF (3, T, c, e)))) rfl rfl (K_exp1 _ _ _ _ _ _ hT hX (p + 1) le li l _ ⟨rfl, rfl⟩) (fun r h' hr => ?_)
      obtain ⟨rfl, rfl⟩ := hr
      refine Ev.run 4 (pc' := 4) (lv' := [(2, .int (nI 3)), (0, .ref 5), (1, .retAddr 3)]) (st' := [.retAddr 3, .int (nI 3)]) (h' := HN (RT g T (p + 1) 1 le li l) hl (RF (3, T, c, e))) rfl ?_
      refine Ev.call (a := 241) (as := [.retAddr 3]) (rest := [.int (nI 3)]) (lv0 := [(0, .retAddr 3)]) (Q1 := (fun z0 h' => z0 = some (.int (nI 5)) ∧ h' = HN (RT g T (p + 1) 1 le li l) hl (RF (3, T, c, e)))) rfl rfl (K_len3 _ _ ⟨rfl, rfl⟩) (fun r h' hr => ?_)
      obtain ⟨rfl, rfl⟩ := hr
      refine Ev.run 4 (pc' := 13) (lv' := [(2, .int (nI 3)), (0, .ref 5), (1, .retAddr 3)]) (st' := [.int (nI 3), .retAddr 3, .ref 5]) (h' := HN (RT g T (p + 1) 1 le li l) hl (RF (3, T, c, e))) rfl ?_
      refine Ev.call (a := 242) (as := [.retAddr 3, .int (nI 3)]) (rest := [.ref 5]) (lv0 := [(0, .retAddr 3), (1, .int (nI 3))]) (Q1 := (fun z0 h' => z0 = some (.int (nI 119)) ∧ h' = HN (RT g T (p + 1) 1 le li l) hl (RF (3, T, c, e)))) rfl rfl (K_chr3_3 _ _ ⟨rfl, rfl⟩) (fun r h' hr => ?_)
      obtain ⟨rfl, rfl⟩ := hr
      refine Ev.call (a := 58) (as := [.ref 5, .int (nI 119)]) (rest := []) (lv0 := [(0, .ref 5), (1, .int (nI 119))]) (Q1 := (fun z0 h' => z0 = none ∧ h' = HN (RT g T (p + 1) 1 le li l) hl (RF (3, T, c, e)))) rfl rfl (K_exp1 _ _ _ _ _ _ hT hX (p + 1) le li l _ ⟨rfl, rfl⟩) (fun r h' hr => ?_)
      obtain ⟨rfl, rfl⟩ := hr
      refine Ev.run 4 (pc' := 4) (lv' := [(2, .int (nI 4)), (0, .ref 5), (1, .retAddr 3)]) (st' := [.retAddr 3, .int (nI 4)]) (h' := HN (RT g T (p + 1) 1 le li l) hl (RF (3, T, c, e))) rfl ?_
      refine Ev.call (a := 241) (as := [.retAddr 3]) (rest := [.int (nI 4)]) (lv0 := [(0, .retAddr 3)]) (Q1 := (fun z0 h' => z0 = some (.int (nI 5)) ∧ h' = HN (RT g T (p + 1) 1 le li l) hl (RF (3, T, c, e)))) rfl rfl (K_len3 _ _ ⟨rfl, rfl⟩) (fun r h' hr => ?_)
      obtain ⟨rfl, rfl⟩ := hr
      refine Ev.run 4 (pc' := 13) (lv' := [(2, .int (nI 4)), (0, .ref 5), (1, .retAddr 3)]) (st' := [.int (nI 4), .retAddr 3, .ref 5]) (h' := HN (RT g T (p + 1) 1 le li l) hl (RF (3, T, c, e))) rfl ?_
      refine Ev.call (a := 242) (as := [.retAddr 3, .int (nI 4)]) (rest := [.ref 5]) (lv0 := [(0, .retAddr 3), (1, .int (nI 4))]) (Q1 := (fun z0 h' => z0 = some (.int (nI 32)) ∧ h' = HN (RT g T (p + 1) 1 le li l) hl (RF (3, T, c, e)))) rfl rfl (K_chr3_4 _ _ ⟨rfl, rfl⟩) (fun r h' hr => ?_)
      obtain ⟨rfl, rfl⟩ := hr
      refine Ev.call (a := 58) (as := [.ref 5, .int (nI 32)]) (rest := []) (lv0 := [(0, .ref 5), (1, .int (nI 32))]) (Q1 := (fun z0 h' => z0 = none ∧ h' = HN (RT g T (p + 1) 1 le li l) hl (RF (3, T, c, e)))) rfl rfl (K_exp1 _ _ _ _ _ _ hT hX (p + 1) le li l _ ⟨rfl, rfl⟩) (fun r h' hr => ?_)
      obtain ⟨rfl, rfl⟩ := hr
      refine Ev.run 4 (pc' := 4) (lv' := [(2, .int (nI 5)), (0, .ref 5), (1, .retAddr 3)]) (st' := [.retAddr 3, .int (nI 5)]) (h' := HN (RT g T (p + 1) 1 le li l) hl (RF (3, T, c, e))) rfl ?_
      refine Ev.call (a := 241) (as := [.retAddr 3]) (rest := [.int (nI 5)]) (lv0 := [(0, .retAddr 3)]) (Q1 := (fun z0 h' => z0 = some (.int (nI 5)) ∧ h' = HN (RT g T (p + 1) 1 le li l) hl (RF (3, T, c, e)))) rfl rfl (K_len3 _ _ ⟨rfl, rfl⟩) (fun r h' hr => ?_)
      obtain ⟨rfl, rfl⟩ := hr
      refine Ev.run 1 (pc' := 25) (lv' := [(2, .int (nI 5)), (0, .ref 5), (1, .retAddr 3)]) (st' := []) (h' := HN (RT g T (p + 1) 1 le li l) hl (RF (3, T, c, e))) rfl ?_
      refine Ev.ret (v := none) rfl ?_
      exact hq.2 _ (by unfold exS; rw [if_pos hxt0]; unfold exS; rw [if_neg hxt1])
  · skip
    refine Ev.run 4 (pc' := 4) (lv' := [(2, .int (nI 1)), (0, .ref 5), (1, .retAddr 3)]) (st' := [.retAddr 3, .int (nI 1)]) (h' := HN (RT g T p 1 le li l) hl (RF (3, T, c, e))) rfl ?_
    refine Ev.call (a := 241) (as := [.retAddr 3]) (rest := [.int (nI 1)]) (lv0 := [(0, .retAddr 3)]) (Q1 := (fun z0 h' => z0 = some (.int (nI 5)) ∧ h' = HN (RT g T p 1 le li l) hl (RF (3, T, c, e)))) rfl rfl (K_len3 _ _ ⟨rfl, rfl⟩) (fun r h' hr => ?_)
    obtain ⟨rfl, rfl⟩ := hr
    refine Ev.run 4 (pc' := 13) (lv' := [(2, .int (nI 1)), (0, .ref 5), (1, .retAddr 3)]) (st' := [.int (nI 1), .retAddr 3, .ref 5]) (h' := HN (RT g T p 1 le li l) hl (RF (3, T, c, e))) rfl ?_
    refine Ev.call (a := 242) (as := [.retAddr 3, .int (nI 1)]) (rest := [.ref 5]) (lv0 := [(0, .retAddr 3), (1, .int (nI 1))]) (Q1 := (fun z0 h' => z0 = some (.int (nI 110)) ∧ h' = HN (RT g T p 1 le li l) hl (RF (3, T, c, e)))) rfl rfl (K_chr3_1 _ _ ⟨rfl, rfl⟩) (fun r h' hr => ?_)
    obtain ⟨rfl, rfl⟩ := hr
    refine Ev.call (a := 58) (as := [.ref 5, .int (nI 110)]) (rest := []) (lv0 := [(0, .ref 5), (1, .int (nI 110))]) (Q1 := (fun z0 h' => z0 = none ∧ h' = HN (RT g T p 1 le li l) hl (RF (3, T, c, e)))) rfl rfl (K_exp1 _ _ _ _ _ _ hT hX p le li l _ ⟨rfl, rfl⟩) (fun r h' hr => ?_)
    obtain ⟨rfl, rfl⟩ := hr
    refine Ev.run 4 (pc' := 4) (lv' := [(2, .int (nI 2)), (0, .ref 5), (1, .retAddr 3)]) (st' := [.retAddr 3, .int (nI 2)]) (h' := HN (RT g T p 1 le li l) hl (RF (3, T, c, e))) rfl ?_
    refine Ev.call (a := 241) (as := [.retAddr 3]) (rest := [.int (nI 2)]) (lv0 := [(0, .retAddr 3)]) (Q1 := (fun z0 h' => z0 = some (.int (nI 5)) ∧ h' = HN (RT g T p 1 le li l) hl (RF (3, T, c, e)))) rfl rfl (K_len3 _ _ ⟨rfl, rfl⟩) (fun r h' hr => ?_)
    obtain ⟨rfl, rfl⟩ := hr
    refine Ev.run 4 (pc' := 13) (lv' := [(2, .int (nI 2)), (0, .ref 5), (1, .retAddr 3)]) (st' := [.int (nI 2), .retAddr 3, .ref 5]) (h' := HN (RT g T p 1 le li l) hl (RF (3, T, c, e))) rfl ?_
    refine Ev.call (a := 242) (as := [.retAddr 3, .int (nI 2)]) (rest := [.ref 5]) (lv0 := [(0, .retAddr 3), (1, .int (nI 2))]) (Q1 := (fun z0 h' => z0 = some (.int (nI 111)) ∧ h' = HN (RT g T p 1 le li l) hl (RF (3, T, c, e)))) rfl rfl (K_chr3_2 _ _ ⟨rfl, rfl⟩) (fun r h' hr => ?_)
    obtain ⟨rfl, rfl⟩ := hr
    refine Ev.call (a := 58) (as := [.ref 5, .int (nI 111)]) (rest := []) (lv0 := [(0, .ref 5), (1, .int (nI 111))]) (Q1 := (fun z0 h' => z0 = none ∧ h' = HN (RT g T p 1 le li l) hl (RF (3, T, c, e)))) rfl rfl (K_exp1 _ _ _ _ _ _ hT hX p le li l _ ⟨rfl, rfl⟩) (fun r h' hr => ?_)
    obtain ⟨rfl, rfl⟩ := hr
    refine Ev.run 4 (pc' := 4) (lv' := [(2, .int (nI 3)), (0, .ref 5), (1, .retAddr 3)]) (st' := [.retAddr 3, .int (nI 3)]) (h' := HN (RT g T p 1 le li l) hl (RF (3, T, c, e))) rfl ?_
    refine Ev.call (a := 241) (as := [.retAddr 3]) (rest := [.int (nI 3)]) (lv0 := [(0, .retAddr 3)]) (Q1 := (fun z0 h' => z0 = some (.int (nI 5)) ∧ h' = HN (RT g T p 1 le li l) hl (RF (3, T, c, e)))) rfl rfl (K_len3 _ _ ⟨rfl, rfl⟩) (fun r h' hr => ?_)
    obtain ⟨rfl, rfl⟩ := hr
    refine Ev.run 4 (pc' := 13) (lv' := [(2, .int (nI 3)), (0, .ref 5), (1, .retAddr 3)]) (st' := [.int (nI 3), .retAddr 3, .ref 5]) (h' := HN (RT g T p 1 le li l) hl (RF (3, T, c, e))) rfl ?_
    refine Ev.call (a := 242) (as := [.retAddr 3, .int (nI 3)]) (rest := [.ref 5]) (lv0 := [(0, .retAddr 3), (1, .int (nI 3))]) (Q1 := (fun z0 h' => z0 = some (.int (nI 119)) ∧ h' = HN (RT g T p 1 le li l) hl (RF (3, T, c, e)))) rfl rfl (K_chr3_3 _ _ ⟨rfl, rfl⟩) (fun r h' hr => ?_)
    obtain ⟨rfl, rfl⟩ := hr
    refine Ev.call (a := 58) (as := [.ref 5, .int (nI 119)]) (rest := []) (lv0 := [(0, .ref 5), (1, .int (nI 119))]) (Q1 := (fun z0 h' => z0 = none ∧ h' = HN (RT g T p 1 le li l) hl (RF (3, T, c, e)))) rfl rfl (K_exp1 _ _ _ _ _ _ hT hX p le li l _ ⟨rfl, rfl⟩) (fun r h' hr => ?_)
    obtain ⟨rfl, rfl⟩ := hr
    refine Ev.run 4 (pc' := 4) (lv' := [(2, .int (nI 4)), (0, .ref 5), (1, .retAddr 3)]) (st' := [.retAddr 3, .int (nI 4)]) (h' := HN (RT g T p 1 le li l) hl (RF (3, T, c, e))) rfl ?_
    refine Ev.call (a := 241) (as := [.retAddr 3]) (rest := [.int (nI 4)]) (lv0 := [(0, .retAddr 3)]) (Q1 := (fun z0 h' => z0 = some (.int (nI 5)) ∧ h' = HN (RT g T p 1 le li l) hl (RF (3, T, c, e)))) rfl rfl (K_len3 _ _ ⟨rfl, rfl⟩) (fun r h' hr => ?_)
    obtain ⟨rfl, rfl⟩ := hr
    refine Ev.run 4 (pc' := 13) (lv' := [(2, .int (nI 4)), (0, .ref 5), (1, .retAddr 3)]) (st' := [.int (nI 4), .retAddr 3, .ref 5]) (h' := HN (RT g T p 1 le li l) hl (RF (3, T, c, e))) rfl ?_
    refine Ev.call (a := 242) (as := [.retAddr 3, .int (nI 4)]) (rest := [.ref 5]) (lv0 := [(0, .retAddr 3), (1, .int (nI 4))]) (Q1 := (fun z0 h' => z0 = some (.int (nI 32)) ∧ h' = HN (RT g T p 1 le li l) hl (RF (3, T, c, e)))) rfl rfl (K_chr3_4 _ _ ⟨rfl, rfl⟩) (fun r h' hr => ?_)
    obtain ⟨rfl, rfl⟩ := hr
    refine Ev.call (a := 58) (as := [.ref 5, .int (nI 32)]) (rest := []) (lv0 := [(0, .ref 5), (1, .int (nI 32))]) (Q1 := (fun z0 h' => z0 = none ∧ h' = HN (RT g T p 1 le li l) hl (RF (3, T, c, e)))) rfl rfl (K_exp1 _ _ _ _ _ _ hT hX p le li l _ ⟨rfl, rfl⟩) (fun r h' hr => ?_)
    obtain ⟨rfl, rfl⟩ := hr
    refine Ev.run 4 (pc' := 4) (lv' := [(2, .int (nI 5)), (0, .ref 5), (1, .retAddr 3)]) (st' := [.retAddr 3, .int (nI 5)]) (h' := HN (RT g T p 1 le li l) hl (RF (3, T, c, e))) rfl ?_
    refine Ev.call (a := 241) (as := [.retAddr 3]) (rest := [.int (nI 5)]) (lv0 := [(0, .retAddr 3)]) (Q1 := (fun z0 h' => z0 = some (.int (nI 5)) ∧ h' = HN (RT g T p 1 le li l) hl (RF (3, T, c, e)))) rfl rfl (K_len3 _ _ ⟨rfl, rfl⟩) (fun r h' hr => ?_)
    obtain ⟨rfl, rfl⟩ := hr
    refine Ev.run 1 (pc' := 25) (lv' := [(2, .int (nI 5)), (0, .ref 5), (1, .retAddr 3)]) (st' := []) (h' := HN (RT g T p 1 le li l) hl (RF (3, T, c, e))) rfl ?_
    refine Ev.ret (v := none) rfl ?_
    exact hq.2 _ (by  unfold exS; rw [if_neg hxt0])
theorem K_all1_7 {L : Nat} {xs : Nat → Int32} (d : Nat) (g : Nat → Nat → Nat) (hl : Nat → Nat → Int64) (T c e : Nat) (hT : TbT T) (hX : TX g) (p le li : Nat) (l : List Nat) {Q : Po} (hq : Q none (HN (RT g T p 1 le li l) hl (RF (3, T, c, e)))) : Ev L xs (d + 6) 57 0 [(0, .ref 5), (1, .retAddr 7)] [] (HN (RT g T p 1 le li l) hl (RF (3, T, c, e))) Q := by
  have hN := hX.1
  refine Ev.run 4 (pc' := 4) (lv' := [(2, .int (nI 0)), (0, .ref 5), (1, .retAddr 7)]) (st' := [.retAddr 7, .int (nI 0)]) (h' := HN (RT g T p 1 le li l) hl (RF (3, T, c, e))) rfl ?_
  refine Ev.call (a := 241) (as := [.retAddr 7]) (rest := [.int (nI 0)]) (lv0 := [(0, .retAddr 7)]) (Q1 := (fun z0 h' => z0 = some (.int (nI 5)) ∧ h' = HN (RT g T p 1 le li l) hl (RF (3, T, c, e)))) rfl rfl (K_len7 _ _ ⟨rfl, rfl⟩) (fun r h' hr => ?_)
  obtain ⟨rfl, rfl⟩ := hr
  refine Ev.run 4 (pc' := 13) (lv' := [(2, .int (nI 0)), (0, .ref 5), (1, .retAddr 7)]) (st' := [.int (nI 0), .retAddr 7, .ref 5]) (h' := HN (RT g T p 1 le li l) hl (RF (3, T, c, e))) rfl ?_
  refine Ev.call (a := 242) (as := [.retAddr 7, .int (nI 0)]) (rest := [.ref 5]) (lv0 := [(0, .retAddr 7), (1, .int (nI 0))]) (Q1 := (fun z0 h' => z0 = some (.int (nI 101)) ∧ h' = HN (RT g T p 1 le li l) hl (RF (3, T, c, e)))) rfl rfl (K_chr7_0 _ _ ⟨rfl, rfl⟩) (fun r h' hr => ?_)
  obtain ⟨rfl, rfl⟩ := hr
  refine Ev.call (a := 58) (as := [.ref 5, .int (nI 101)]) (rest := []) (lv0 := [(0, .ref 5), (1, .int (nI 101))]) (Q1 := (fun z0 h' => z0 = none ∧ h' = HN (RT g T p 1 le li l) hl (RF (3, T, c, e)))) rfl rfl (K_exp1 _ _ _ _ _ _ hT hX p le li l _ ⟨rfl, rfl⟩) (fun r h' hr => ?_)
  obtain ⟨rfl, rfl⟩ := hr
  refine Ev.run 4 (pc' := 4) (lv' := [(2, .int (nI 1)), (0, .ref 5), (1, .retAddr 7)]) (st' := [.retAddr 7, .int (nI 1)]) (h' := HN (RT g T p 1 le li l) hl (RF (3, T, c, e))) rfl ?_
  refine Ev.call (a := 241) (as := [.retAddr 7]) (rest := [.int (nI 1)]) (lv0 := [(0, .retAddr 7)]) (Q1 := (fun z0 h' => z0 = some (.int (nI 5)) ∧ h' = HN (RT g T p 1 le li l) hl (RF (3, T, c, e)))) rfl rfl (K_len7 _ _ ⟨rfl, rfl⟩) (fun r h' hr => ?_)
  obtain ⟨rfl, rfl⟩ := hr
  refine Ev.run 4 (pc' := 13) (lv' := [(2, .int (nI 1)), (0, .ref 5), (1, .retAddr 7)]) (st' := [.int (nI 1), .retAddr 7, .ref 5]) (h' := HN (RT g T p 1 le li l) hl (RF (3, T, c, e))) rfl ?_
  refine Ev.call (a := 242) (as := [.retAddr 7, .int (nI 1)]) (rest := [.ref 5]) (lv0 := [(0, .retAddr 7), (1, .int (nI 1))]) (Q1 := (fun z0 h' => z0 = some (.int (nI 97)) ∧ h' = HN (RT g T p 1 le li l) hl (RF (3, T, c, e)))) rfl rfl (K_chr7_1 _ _ ⟨rfl, rfl⟩) (fun r h' hr => ?_)
  obtain ⟨rfl, rfl⟩ := hr
  refine Ev.call (a := 58) (as := [.ref 5, .int (nI 97)]) (rest := []) (lv0 := [(0, .ref 5), (1, .int (nI 97))]) (Q1 := (fun z0 h' => z0 = none ∧ h' = HN (RT g T p 1 le li l) hl (RF (3, T, c, e)))) rfl rfl (K_exp1 _ _ _ _ _ _ hT hX p le li l _ ⟨rfl, rfl⟩) (fun r h' hr => ?_)
  obtain ⟨rfl, rfl⟩ := hr
  refine Ev.run 4 (pc' := 4) (lv' := [(2, .int (nI 2)), (0, .ref 5), (1, .retAddr 7)]) (st' := [.retAddr 7, .int (nI 2)]) (h' := HN (RT g T p 1 le li l) hl (RF (3, T, c, e))) rfl ?_
  refine Ev.call (a := 241) (as := [.retAddr 7]) (rest := [.int (nI 2)]) (lv0 := [(0, .retAddr 7)]) (Q1 := (fun z0 h' => z0 = some (.int (nI 5)) ∧ h' = HN (RT g T p 1 le li l) hl (RF (3, T, c, e)))) rfl rfl (K_len7 _ _ ⟨rfl, rfl⟩) (fun r h' hr => ?_)
  obtain ⟨rfl, rfl⟩ := hr
  refine Ev.run 4 (pc' := 13) (lv' := [(2, .int (nI 2)), (0, .ref 5), (1, .retAddr 7)]) (st' := [.int (nI 2), .retAddr 7, .ref 5]) (h' := HN (RT g T p 1 le li l) hl (RF (3, T, c, e))) rfl ?_
  refine Ev.call (a := 242) (as := [.retAddr 7, .int (nI 2)]) (rest := [.ref 5]) (lv0 := [(0, .retAddr 7), (1, .int (nI 2))]) (Q1 := (fun z0 h' => z0 = some (.int (nI 115)) ∧ h' = HN (RT g T p 1 le li l) hl (RF (3, T, c, e)))) rfl rfl (K_chr7_2 _ _ ⟨rfl, rfl⟩) (fun r h' hr => ?_)
  obtain ⟨rfl, rfl⟩ := hr
  refine Ev.call (a := 58) (as := [.ref 5, .int (nI 115)]) (rest := []) (lv0 := [(0, .ref 5), (1, .int (nI 115))]) (Q1 := (fun z0 h' => z0 = none ∧ h' = HN (RT g T p 1 le li l) hl (RF (3, T, c, e)))) rfl rfl (K_exp1 _ _ _ _ _ _ hT hX p le li l _ ⟨rfl, rfl⟩) (fun r h' hr => ?_)
  obtain ⟨rfl, rfl⟩ := hr
  refine Ev.run 4 (pc' := 4) (lv' := [(2, .int (nI 3)), (0, .ref 5), (1, .retAddr 7)]) (st' := [.retAddr 7, .int (nI 3)]) (h' := HN (RT g T p 1 le li l) hl (RF (3, T, c, e))) rfl ?_
  refine Ev.call (a := 241) (as := [.retAddr 7]) (rest := [.int (nI 3)]) (lv0 := [(0, .retAddr 7)]) (Q1 := (fun z0 h' => z0 = some (.int (nI 5)) ∧ h' = HN (RT g T p 1 le li l) hl (RF (3, T, c, e)))) rfl rfl (K_len7 _ _ ⟨rfl, rfl⟩) (fun r h' hr => ?_)
  obtain ⟨rfl, rfl⟩ := hr
  refine Ev.run 4 (pc' := 13) (lv' := [(2, .int (nI 3)), (0, .ref 5), (1, .retAddr 7)]) (st' := [.int (nI 3), .retAddr 7, .ref 5]) (h' := HN (RT g T p 1 le li l) hl (RF (3, T, c, e))) rfl ?_
  refine Ev.call (a := 242) (as := [.retAddr 7, .int (nI 3)]) (rest := [.ref 5]) (lv0 := [(0, .retAddr 7), (1, .int (nI 3))]) (Q1 := (fun z0 h' => z0 = some (.int (nI 116)) ∧ h' = HN (RT g T p 1 le li l) hl (RF (3, T, c, e)))) rfl rfl (K_chr7_3 _ _ ⟨rfl, rfl⟩) (fun r h' hr => ?_)
  obtain ⟨rfl, rfl⟩ := hr
  refine Ev.call (a := 58) (as := [.ref 5, .int (nI 116)]) (rest := []) (lv0 := [(0, .ref 5), (1, .int (nI 116))]) (Q1 := (fun z0 h' => z0 = none ∧ h' = HN (RT g T p 1 le li l) hl (RF (3, T, c, e)))) rfl rfl (K_exp1 _ _ _ _ _ _ hT hX p le li l _ ⟨rfl, rfl⟩) (fun r h' hr => ?_)
  obtain ⟨rfl, rfl⟩ := hr
  refine Ev.run 4 (pc' := 4) (lv' := [(2, .int (nI 4)), (0, .ref 5), (1, .retAddr 7)]) (st' := [.retAddr 7, .int (nI 4)]) (h' := HN (RT g T p 1 le li l) hl (RF (3, T, c, e))) rfl ?_
  refine Ev.call (a := 241) (as := [.retAddr 7]) (rest := [.int (nI 4)]) (lv0 := [(0, .retAddr 7)]) (Q1 := (fun z0 h' => z0 = some (.int (nI 5)) ∧ h' = HN (RT g T p 1 le li l) hl (RF (3, T, c, e)))) rfl rfl (K_len7 _ _ ⟨rfl, rfl⟩) (fun r h' hr => ?_)
  obtain ⟨rfl, rfl⟩ := hr
  refine Ev.run 4 (pc' := 13) (lv' := [(2, .int (nI 4)), (0, .ref 5), (1, .retAddr 7)]) (st' := [.int (nI 4), .retAddr 7, .ref 5]) (h' := HN (RT g T p 1 le li l) hl (RF (3, T, c, e))) rfl ?_
  refine Ev.call (a := 242) (as := [.retAddr 7, .int (nI 4)]) (rest := [.ref 5]) (lv0 := [(0, .retAddr 7), (1, .int (nI 4))]) (Q1 := (fun z0 h' => z0 = some (.int (nI 32)) ∧ h' = HN (RT g T p 1 le li l) hl (RF (3, T, c, e)))) rfl rfl (K_chr7_4 _ _ ⟨rfl, rfl⟩) (fun r h' hr => ?_)
  obtain ⟨rfl, rfl⟩ := hr
  refine Ev.call (a := 58) (as := [.ref 5, .int (nI 32)]) (rest := []) (lv0 := [(0, .ref 5), (1, .int (nI 32))]) (Q1 := (fun z0 h' => z0 = none ∧ h' = HN (RT g T p 1 le li l) hl (RF (3, T, c, e)))) rfl rfl (K_exp1 _ _ _ _ _ _ hT hX p le li l _ ⟨rfl, rfl⟩) (fun r h' hr => ?_)
  obtain ⟨rfl, rfl⟩ := hr
  refine Ev.run 4 (pc' := 4) (lv' := [(2, .int (nI 5)), (0, .ref 5), (1, .retAddr 7)]) (st' := [.retAddr 7, .int (nI 5)]) (h' := HN (RT g T p 1 le li l) hl (RF (3, T, c, e))) rfl ?_
  refine Ev.call (a := 241) (as := [.retAddr 7]) (rest := [.int (nI 5)]) (lv0 := [(0, .retAddr 7)]) (Q1 := (fun z0 h' => z0 = some (.int (nI 5)) ∧ h' = HN (RT g T p 1 le li l) hl (RF (3, T, c, e)))) rfl rfl (K_len7 _ _ ⟨rfl, rfl⟩) (fun r h' hr => ?_)
  obtain ⟨rfl, rfl⟩ := hr
  refine Ev.run 1 (pc' := 25) (lv' := [(2, .int (nI 5)), (0, .ref 5), (1, .retAddr 7)]) (st' := []) (h' := HN (RT g T p 1 le li l) hl (RF (3, T, c, e))) rfl ?_
  refine Ev.ret (v := none) rfl ?_
  exact hq
theorem K_all0_7 {L : Nat} {xs : Nat → Int32} (d : Nat) (g : Nat → Nat → Nat) (hl : Nat → Nat → Int64) (T c e : Nat) (hT : TbT T) (hX : TX g) (p le li : Nat) (l : List Nat) (hp : p ≤ 200) {Q : Po} (hq : (∀ q, exS g [101, 97, 115, 116, 32] p = (true, q) → Q none (HN (RT g T q 0 le li l) hl (RF (3, T, c, e)))) ∧ (∀ q, exS g [101, 97, 115, 116, 32] p = (false, q) → Q none (HN (RT g T q 1 le li l) hl (RF (3, T, c, e))))) : Ev L xs (d + 6) 57 0 [(0, .ref 5), (1, .retAddr 7)] [] (HN (RT g T p 0 le li l) hl (RF (3, T, c, e))) Q := by
  have hN := hX.1
  refine Ev.run 4 (pc' := 4) (lv' := [(2, .int (nI 0)), (0, .ref 5), (1, .retAddr 7)]) (st' := [.retAddr 7, .int (nI 0)]) (h' := HN (RT g T p 0 le li l) hl (RF (3, T, c, e))) rfl ?_
  refine Ev.call (a := 241) (as := [.retAddr 7]) (rest := [.int (nI 0)]) (lv0 := [(0, .retAddr 7)]) (Q1 := (fun z0 h' => z0 = some (.int (nI 5)) ∧ h' = HN (RT g T p 0 le li l) hl (RF (3, T, c, e)))) rfl rfl (K_len7 _ _ ⟨rfl, rfl⟩) (fun r h' hr => ?_)
  obtain ⟨rfl, rfl⟩ := hr
  refine Ev.run 4 (pc' := 13) (lv' := [(2, .int (nI 0)), (0, .ref 5), (1, .retAddr 7)]) (st' := [.int (nI 0), .retAddr 7, .ref 5]) (h' := HN (RT g T p 0 le li l) hl (RF (3, T, c, e))) rfl ?_
  refine Ev.call (a := 242) (as := [.retAddr 7, .int (nI 0)]) (rest := [.ref 5]) (lv0 := [(0, .retAddr 7), (1, .int (nI 0))]) (Q1 := (fun z0 h' => z0 = some (.int (nI 101)) ∧ h' = HN (RT g T p 0 le li l) hl (RF (3, T, c, e)))) rfl rfl (K_chr7_0 _ _ ⟨rfl, rfl⟩) (fun r h' hr => ?_)
  obtain ⟨rfl, rfl⟩ := hr
  refine Ev.call (a := 58) (as := [.ref 5, .int (nI 101)]) (rest := []) (lv0 := [(0, .ref 5), (1, .int (nI 101))]) (Q1 := (fun z0 h' => (pkS g p = 101 ∧ z0 = none ∧ h' = HN (RT g T (p + 1) 0 le li l) hl (RF (3, T, c, e))) ∨ (¬ pkS g p = 101 ∧ z0 = none ∧ h' = HN (RT g T p 1 le li l) hl (RF (3, T, c, e))))) rfl rfl (K_exp0 _ _ _ _ _ _ hT hX p le li l 101 (by omega) (by decide) (by decide) ⟨fun hz => Or.inl ⟨hz, rfl, rfl⟩, fun hz => Or.inr ⟨hz, rfl, rfl⟩⟩) (fun r h' hr => ?_)
  rcases hr with ⟨hxt0, rfl, rfl⟩ | ⟨hxt0, rfl, rfl⟩
  · skip
    refine Ev.run 4 (pc' := 4) (lv' := [(2, .int (nI 1)), (0, .ref 5), (1, .retAddr 7)]) (st' := [.retAddr 7, .int (nI 1)]) (h' := HN (RT g T (p + 1) 0 le li l) hl (RF (3, T, c, e))) rfl ?_
    refine Ev.call (a := 241) (as := [.retAddr 7]) (rest := [.int (nI 1)]) (lv0 := [(0, .retAddr 7)]) (Q1 := (fun z0 h' => z0 = some (.int (nI 5)) ∧ h' = HN (RT g T (p + 1) 0 le li l) hl (RF (3, T, c, e)))) rfl rfl (K_len7 _ _ ⟨rfl, rfl⟩) (fun r h' hr => ?_)
    obtain ⟨rfl, rfl⟩ := hr
    refine Ev.run 4 (pc' := 13) (lv' := [(2, .int (nI 1)), (0, .ref 5), (1, .retAddr 7)]) (st' := [.int (nI 1), .retAddr 7, .ref 5]) (h' := HN (RT g T (p + 1) 0 le li l) hl (RF (3, T, c, e))) rfl ?_
    refine Ev.call (a := 242) (as := [.retAddr 7, .int (nI 1)]) (rest := [.ref 5]) (lv0 := [(0, .retAddr 7), (1, .int (nI 1))]) (Q1 := (fun z0 h' => z0 = some (.int (nI 97)) ∧ h' = HN (RT g T (p + 1) 0 le li l) hl (RF (3, T, c, e)))) rfl rfl (K_chr7_1 _ _ ⟨rfl, rfl⟩) (fun r h' hr => ?_)
    obtain ⟨rfl, rfl⟩ := hr
    refine Ev.call (a := 58) (as := [.ref 5, .int (nI 97)]) (rest := []) (lv0 := [(0, .ref 5), (1, .int (nI 97))]) (Q1 := (fun z0 h' => (pkS g (p + 1) = 97 ∧ z0 = none ∧ h' = HN (RT g T (p + 1 + 1) 0 le li l) hl (RF (3, T, c, e))) ∨ (¬ pkS g (p + 1) = 97 ∧ z0 = none ∧ h' = HN (RT g T (p + 1) 1 le li l) hl (RF (3, T, c, e))))) rfl rfl (K_exp0 _ _ _ _ _ _ hT hX (p + 1) le li l 97 (by omega) (by decide) (by decide) ⟨fun hz => Or.inl ⟨hz, rfl, rfl⟩, fun hz => Or.inr ⟨hz, rfl, rfl⟩⟩) (fun r h' hr => ?_)
    rcases hr with ⟨hxt1, rfl, rfl⟩ | ⟨hxt1, rfl, rfl⟩
    · skip
      refine Ev.run 4 (pc' := 4) (lv' := [(2, .int (nI 2)), (0, .ref 5), (1, .retAddr 7)]) (st' := [.retAddr 7, .int (nI 2)]) (h' := HN (RT g T (p + 1 + 1) 0 le li l) hl (RF (3, T, c, e))) rfl ?_
      refine Ev.call (a := 241) (as := [.retAddr 7]) (rest := [.int (nI 2)]) (lv0 := [(0, .retAddr 7)]) (Q1 := (fun z0 h' => z0 = some (.int (nI 5)) ∧ h' = HN (RT g T (p + 1 + 1) 0 le li l) hl (RF (3, T, c, e)))) rfl rfl (K_len7 _ _ ⟨rfl, rfl⟩) (fun r h' hr => ?_)
      obtain ⟨rfl, rfl⟩ := hr
      refine Ev.run 4 (pc' := 13) (lv' := [(2, .int (nI 2)), (0, .ref 5), (1, .retAddr 7)]) (st' := [.int (nI 2), .retAddr 7, .ref 5]) (h' := HN (RT g T (p + 1 + 1) 0 le li l) hl (RF (3, T, c, e))) rfl ?_
      refine Ev.call (a := 242) (as := [.retAddr 7, .int (nI 2)]) (rest := [.ref 5]) (lv0 := [(0, .retAddr 7), (1, .int (nI 2))]) (Q1 := (fun z0 h' => z0 = some (.int (nI 115)) ∧ h' = HN (RT g T (p + 1 + 1) 0 le li l) hl (RF (3, T, c, e)))) rfl rfl (K_chr7_2 _ _ ⟨rfl, rfl⟩) (fun r h' hr => ?_)
      obtain ⟨rfl, rfl⟩ := hr
      refine Ev.call (a := 58) (as := [.ref 5, .int (nI 115)]) (rest := []) (lv0 := [(0, .ref 5), (1, .int (nI 115))]) (Q1 := (fun z0 h' => (pkS g (p + 1 + 1) = 115 ∧ z0 = none ∧ h' = HN (RT g T (p + 1 + 1 + 1) 0 le li l) hl (RF (3, T, c, e))) ∨ (¬ pkS g (p + 1 + 1) = 115 ∧ z0 = none ∧ h' = HN (RT g T (p + 1 + 1) 1 le li l) hl (RF (3, T, c, e))))) rfl rfl (K_exp0 _ _ _ _ _ _ hT hX (p + 1 + 1) le li l 115 (by omega) (by decide) (by decide) ⟨fun hz => Or.inl ⟨hz, rfl, rfl⟩, fun hz => Or.inr ⟨hz, rfl, rfl⟩⟩) (fun r h' hr => ?_)
      rcases hr with ⟨hxt2, rfl, rfl⟩ | ⟨hxt2, rfl, rfl⟩
      · skip
        refine Ev.run 4 (pc' := 4) (lv' := [(2, .int (nI 3)), (0, .ref 5), (1, .retAddr 7)]) (st' := [.retAddr 7, .int (nI 3)]) (h' := HN (RT g T (p + 1 + 1 + 1) 0 le li l) hl (RF (3, T, c, e))) rfl ?_
        refine Ev.call (a := 241) (as := [.retAddr 7]) (rest := [.int (nI 3)]) (lv0 := [(0, .retAddr 7)]) (Q1 := (fun z0 h' => z0 = some (.int (nI 5)) ∧ h' = HN (RT g T (p + 1 + 1 + 1) 0 le li l) hl (RF (3, T, c, e)))) rfl rfl (K_len7 _ _ ⟨rfl, rfl⟩) (fun r h' hr => ?_)
        obtain ⟨rfl, rfl⟩ := hr
        refine Ev.run 4 (pc' := 13) (lv' := [(2, .int (nI 3)), (0, .ref 5), (1, .retAddr 7)]) (st' := [.int (nI 3), .retAddr 7, .ref 5]) (h' := HN (RT g T (p + 1 + 1 + 1) 0 le li l) hl (RF (3, T, c, e))) rfl ?_
        refine Ev.call (a := 242) (as := [.retAddr 7, .int (nI 3)]) (rest := [.ref 5]) (lv0 := [(0, .retAddr 7), (1, .int (nI 3))]) (Q1 := (fun z0 h' => z0 = some (.int (nI 116)) ∧ h' = HN (RT g T (p + 1 + 1 + 1) 0 le li l) hl (RF (3, T, c, e)))) rfl rfl (K_chr7_3 _ _ ⟨rfl, rfl⟩) (fun r h' hr => ?_)
        obtain ⟨rfl, rfl⟩ := hr
        refine Ev.call (a := 58) (as := [.ref 5, .int (nI 116)]) (rest := []) (lv0 := [(0, .ref 5), (1, .int (nI 116))]) (Q1 := (fun z0 h' => (pkS g (p + 1 + 1 + 1) = 116 ∧ z0 = none ∧ h' = HN (RT g T (p + 1 + 1 + 1 + 1) 0 le li l) hl (RF (3, T, c, e))) ∨ (¬ pkS g (p + 1 + 1 + 1) = 116 ∧ z0 = none ∧ h' = HN (RT g T (p + 1 + 1 + 1) 1 le li l) hl (RF (3, T, c, e))))) rfl rfl (K_exp0 _ _ _ _ _ _ hT hX (p + 1 + 1 + 1) le li l 116 (by omega) (by decide) (by decide) ⟨fun hz => Or.inl ⟨hz, rfl, rfl⟩, fun hz => Or.inr ⟨hz, rfl, rfl⟩⟩) (fun r h' hr => ?_)
        rcases hr with ⟨hxt3, rfl, rfl⟩ | ⟨hxt3, rfl, rfl⟩
        · skip
          refine Ev.run 4 (pc' := 4) (lv' := [(2, .int (nI 4)), (0, .ref 5), (1, .retAddr 7)]) (st' := [.retAddr 7, .int (nI 4)]) (h' := HN (RT g T (p + 1 + 1 + 1 + 1) 0 le li l) hl (RF (3, T, c, e))) rfl ?_
          refine Ev.call (a := 241) (as := [.retAddr 7]) (rest := [.int (nI 4)]) (lv0 := [(0, .retAddr 7)]) (Q1 := (fun z0 h' => z0 = some (.int (nI 5)) ∧ h' = HN (RT g T (p + 1 + 1 + 1 + 1) 0 le li l) hl (RF (3, T, c, e)))) rfl rfl (K_len7 _ _ ⟨rfl, rfl⟩) (fun r h' hr => ?_)
          obtain ⟨rfl, rfl⟩ := hr
          refine Ev.run 4 (pc' := 13) (lv' := [(2, .int (nI 4)), (0, .ref 5), (1, .retAddr 7)]) (st' := [.int (nI 4), .retAddr 7, .ref 5]) (h' := HN (RT g T (p + 1 + 1 + 1 + 1) 0 le li l) hl (RF (3, T, c, e))) rfl ?_
          refine Ev.call (a := 242) (as := [.retAddr 7, .int (nI 4)]) (rest := [.ref 5]) (lv0 := [(0, .retAddr 7), (1, .int (nI 4))]) (Q1 := (fun z0 h' => z0 = some (.int (nI 32)) ∧ h' = HN (RT g T (p + 1 + 1 + 1 + 1) 0 le li l) hl (RF (3, T, c, e)))) rfl rfl (K_chr7_4 _ _ ⟨rfl, rfl⟩) (fun r h' hr => ?_)
          obtain ⟨rfl, rfl⟩ := hr
          refine Ev.call (a := 58) (as := [.ref 5, .int (nI 32)]) (rest := []) (lv0 := [(0, .ref 5), (1, .int (nI 32))]) (Q1 := (fun z0 h' => (pkS g (p + 1 + 1 + 1 + 1) = 32 ∧ z0 = none ∧ h' = HN (RT g T (p + 1 + 1 + 1 + 1 + 1) 0 le li l) hl (RF (3, T, c, e))) ∨ (¬ pkS g (p + 1 + 1 + 1 + 1) = 32 ∧ z0 = none ∧ h' = HN (RT g T (p + 1 + 1 + 1 + 1) 1 le li l) hl (RF (3, T, c, e))))) rfl rfl (K_exp0 _ _ _ _ _ _ hT hX (p + 1 + 1 + 1 + 1) le li l 32 (by omega) (by decide) (by decide) ⟨fun hz => Or.inl ⟨hz, rfl, rfl⟩, fun hz => Or.inr ⟨hz, rfl, rfl⟩⟩) (fun r h' hr => ?_)
          rcases hr with ⟨hxt4, rfl, rfl⟩ | ⟨hxt4, rfl, rfl⟩
          · skip
            refine Ev.run 4 (pc' := 4) (lv' := [(2, .int (nI 5)), (0, .ref 5), (1, .retAddr 7)]) (st' := [.retAddr 7, .int (nI 5)]) (h' := HN (RT g T (p + 1 + 1 + 1 + 1 + 1) 0 le li l) hl (RF (3, T, c, e))) rfl ?_
            refine Ev.call (a := 241) (as := [.retAddr 7]) (rest := [.int (nI 5)]) (lv0 := [(0, .retAddr 7)]) (Q1 := (fun z0 h' => z0 = some (.int (nI 5)) ∧ h' = HN (RT g T (p + 1 + 1 + 1 + 1 + 1) 0 le li l) hl (RF (3, T, c, e)))) rfl rfl (K_len7 _ _ ⟨rfl, rfl⟩) (fun r h' hr => ?_)
            obtain ⟨rfl, rfl⟩ := hr
            refine Ev.run 1 (pc' := 25) (lv' := [(2, .int (nI 5)), (0, .ref 5), (1, .retAddr 7)]) (st' := []) (h' := HN (RT g T (p + 1 + 1 + 1 + 1 + 1) 0 le li l) hl (RF (3, T, c, e))) rfl ?_
            refine Ev.ret (v := none) rfl ?_
            exact hq.1 _ (by unfold exS; rw [if_pos hxt0]; unfold exS; rw [if_pos hxt1]; unfold exS; rw [if_pos hxt2]; unfold exS; rw [if_pos hxt3]; unfold exS; rw [if_pos hxt4]; rfl)
          · skip
            refine Ev.run 4 (pc' := 4) (lv' := [(2, .int (nI 5)), (0, .ref 5), (1, .retAddr 7)]) (st' := [.retAddr 7, .int (nI 5)]) (h' := HN (RT g T (p + 1 + 1 + 1 + 1) 1 le li l) hl (RF (3, T, c, e))) rfl ?_
            refine Ev.call (a := 241) (as := [.retAddr 7]) (rest := [.int (nI 5)]) (lv0 := [(0, .retAddr 7)]) (Q1 := (fun z0 h' => z0 = some (.int (nI 5)) ∧ h' = HN (RT g T (p + 1 + 1 + 1 + 1) 1 le li l) hl (RF (3, T, c, e)))) rfl rfl (K_len7 _ _ ⟨rfl, rfl⟩) (fun r h' hr => ?_)
            obtain ⟨rfl, rfl⟩ := hr
            refine Ev.run 1 (pc' := 25) (lv' := [(2, .int (nI 5)), (0, .ref 5), (1, .retAddr 7)]) (st' := []) (h' := HN (RT g T (p + 1 + 1 + 1 + 1) 1 le li l) hl (RF (3, T, c, e))) rfl ?_
            refine Ev.ret (v := none) rfl ?_
            exact hq.2 _ (by unfold exS; rw [if_pos hxt0]; unfold exS; rw [if_pos hxt1]; unfold exS; rw [if_pos hxt2]; unfold exS; rw [if_pos hxt3]; unfold exS; rw [if_neg hxt4])
        · skip
          refine Ev.run 4 (pc' := 4) (lv' := [(2, .int (nI 4)), (0, .ref 5), (1, .retAddr 7)]) (st' := [.retAddr 7, .int (nI 4)]) (h' := HN (RT g T (p + 1 + 1 + 1) 1 le li l) hl (RF (3, T, c, e))) rfl ?_
          refine Ev.call (a := 241) (as := [.retAddr 7]) (rest := [.int (nI 4)]) (lv0 := [(0, .retAddr 7)]) (Q1 := (fun z0 h' => z0 = some (.int (nI 5)) ∧ h' = HN (RT g T (p + 1 + 1 + 1) 1 le li l) hl (RF (3, T, c, e)))) rfl rfl (K_len7 _ _ ⟨rfl, rfl⟩) (fun r h' hr => ?_)
          obtain ⟨rfl, rfl⟩ := hr
          refine Ev.run 4 (pc' := 13) (lv' := [(2, .int (nI 4)), (0, .ref 5), (1, .retAddr 7)]) (st' := [.int (nI 4), .retAddr 7, .ref 5]) (h' := HN (RT g T (p + 1 + 1 + 1) 1 le li l) hl (RF (3, T, c, e))) rfl ?_
          refine Ev.call (a := 242) (as := [.retAddr 7, .int (nI 4)]) (rest := [.ref 5]) (lv0 := [(0, .retAddr 7), (1, .int (nI 4))]) (Q1 := (fun z0 h' => z0 = some (.int (nI 32)) ∧ h' = HN (RT g T (p + 1 + 1 + 1) 1 le li l) hl (RF (3, T, c, e)))) rfl rfl (K_chr7_4 _ _ ⟨rfl, rfl⟩) (fun r h' hr => ?_)
          obtain ⟨rfl, rfl⟩ := hr
          refine Ev.call (a := 58) (as := [.ref 5, .int (nI 32)]) (rest := []) (lv0 := [(0, .ref 5), (1, .int (nI 32))]) (Q1 := (fun z0 h' => z0 = none ∧ h' = HN (RT g T (p + 1 + 1 + 1) 1 le li l) hl (RF (3, T, c, e)))) rfl rfl (K_exp1 _ _ _ _ _ _ hT hX (p + 1 + 1 + 1) le li l _ ⟨rfl, rfl⟩) (fun r h' hr => ?_)
          obtain ⟨rfl, rfl⟩ := hr
          refine Ev.run 4 (pc' := 4) (lv' := [(2, .int (nI 5)), (0, .ref 5), (1, .retAddr 7)]) (st' := [.retAddr 7, .int (nI 5)]) (h' := HN (RT g T (p + 1 + 1 + 1) 1 le li l) hl (RF (3, T, c, e))) rfl ?_
          refine Ev.call (a := 241) (as := [.retAddr 7]) (rest := [.int (nI 5)]) (lv0 := [(0, .retAddr 7)]) (Q1 := (fun z0 h' => z0 = some (.int (nI 5)) ∧ h' = HN (RT g T (p + 1 + 1 + 1) 1 le li l) hl (RF (3, T, c, e)))) rfl rfl (K_len7 _ _ ⟨rfl, rfl⟩) (fun r h' hr => ?_)
          obtain ⟨rfl, rfl⟩ := hr
          refine Ev.run 1 (pc' := 25) (lv' := [(2, .int (nI 5)), (0, .ref 5), (1, .retAddr 7)]) (st' := []) (h' := HN (RT g T (p + 1 + 1 + 1) 1 le li l) hl (RF (3, T, c, e))) rfl ?_
          refine Ev.ret (v := none) rfl ?_
          exact hq.2 _ (by unfold exS; rw [if_pos hxt0]; unfold exS; rw [if_pos hxt1]; unfold exS; rw [if_pos hxt2]; unfold exS; rw [if_neg hxt3])
      · skip
        refine Ev.run 4 (pc' := 4) (lv' := [(2, .int (nI 3)), (0, .ref 5), (1, .retAddr 7)]) (st' := [.retAddr 7, .int (nI 3)]) (h' := HN (RT g T (p + 1 + 1) 1 le li l) hl (RF (3, T, c, e))) rfl ?_
        refine Ev.call (a := 241) (as := [.retAddr 7]) (rest := [.int (nI 3)]) (lv0 := [(0, .retAddr 7)]) (Q1 := (fun z0 h' => z0 = some (.int (nI 5)) ∧ h' = HN (RT g T (p + 1 + 1) 1 le li l) hl (RF (3, T, c, e)))) rfl rfl (K_len7 _ _ ⟨rfl, rfl⟩) (fun r h' hr => ?_)
        obtain ⟨rfl, rfl⟩ := hr
        refine Ev.run 4 (pc' := 13) (lv' := [(2, .int (nI 3)), (0, .ref 5), (1, .retAddr 7)]) (st' := [.int (nI 3), .retAddr 7, .ref 5]) (h' := HN (RT g T (p + 1 + 1) 1 le li l) hl (RF (3, T, c, e))) rfl ?_
        refine Ev.call (a := 242) (as := [.retAddr 7, .int (nI 3)]) (rest := [.ref 5]) (lv0 := [(0, .retAddr 7), (1, .int (nI 3))]) (Q1 := (fun z0 h' => z0 = some (.int (nI 116)) ∧ h' = HN (RT g T (p + 1 + 1) 1 le li l) hl (RF (3, T, c, e)))) rfl rfl (K_chr7_3 _ _ ⟨rfl, rfl⟩) (fun r h' hr => ?_)
        obtain ⟨rfl, rfl⟩ := hr
        refine Ev.call (a := 58) (as := [.ref 5, .int (nI 116)]) (rest := []) (lv0 := [(0, .ref 5), (1, .int (nI 116))]) (Q1 := (fun z0 h' => z0 = none ∧ h' = HN (RT g T (p + 1 + 1) 1 le li l) hl (RF (3, T, c, e)))) rfl rfl (K_exp1 _ _ _ _ _ _ hT hX (p + 1 + 1) le li l _ ⟨rfl, rfl⟩) (fun r h' hr => ?_)
        obtain ⟨rfl, rfl⟩ := hr
        refine Ev.run 4 (pc' := 4) (lv' := [(2, .int (nI 4)), (0, .ref 5), (1, .retAddr 7)]) (st' := [.retAddr 7, .int (nI 4)]) (h' := HN (RT g T (p + 1 + 1) 1 le li l) hl (RF (3, T, c, e))) rfl ?_
        refine Ev.call (a := 241) (as := [.retAddr 7]) (rest := [.int (nI 4)]) (lv0 := [(0, .retAddr 7)]) (Q1 := (fun z0 h' => z0 = some (.int (nI 5)) ∧ h' = HN (RT g T (p + 1 + 1) 1 le li l) hl (RF (3, T, c, e)))) rfl rfl (K_len7 _ _ ⟨rfl, rfl⟩) (fun r h' hr => ?_)
        obtain ⟨rfl, rfl⟩ := hr
        refine Ev.run 4 (pc' := 13) (lv' := [(2, .int (nI 4)), (0, .ref 5), (1, .retAddr 7)]) (st' := [.int (nI 4), .retAddr 7, .ref 5]) (h' := HN (RT g T (p + 1 + 1) 1 le li l) hl (RF (3, T, c, e))) rfl ?_
        refine Ev.call (a := 242) (as := [.retAddr 7, .int (nI 4)]) (rest := [.ref 5]) (lv0 := [(0, .retAddr 7), (1, .int (nI 4))]) (Q1 := (fun z0 h' => z0 = some (.int (nI 32)) ∧ h' = HN (RT g T (p + 1 + 1) 1 le li l) hl (RF (3, T, c, e)))) rfl rfl (K_chr7_4 _ _ ⟨rfl, rfl⟩) (fun r h' hr => ?_)
        obtain ⟨rfl, rfl⟩ := hr
        refine Ev.call (a := 58) (as := [.ref 5, .int (nI 32)]) (rest := []) (lv0 := [(0, .ref 5), (1, .int (nI 32))]) (Q1 := (fun z0 h' => z0 = none ∧ h' = HN (RT g T (p + 1 + 1) 1 le li l) hl (RF (3, T, c, e)))) rfl rfl (K_exp1 _ _ _ _ _ _ hT hX (p + 1 + 1) le li l _ ⟨rfl, rfl⟩) (fun r h' hr => ?_)
        obtain ⟨rfl, rfl⟩ := hr
        refine Ev.run 4 (pc' := 4) (lv' := [(2, .int (nI 5)), (0, .ref 5), (1, .retAddr 7)]) (st' := [.retAddr 7, .int (nI 5)]) (h' := HN (RT g T (p + 1 + 1) 1 le li l) hl (RF (3, T, c, e))) rfl ?_
        refine Ev.call (a := 241) (as := [.retAddr 7]) (rest := [.int (nI 5)]) (lv0 := [(0, .retAddr 7)]) (Q1 := (fun z0 h' => z0 = some (.int (nI 5)) ∧ h' = HN (RT g T (p + 1 + 1) 1 le li l) hl (RF (3, T, c, e)))) rfl rfl (K_len7 _ _ ⟨rfl, rfl⟩) (fun r h' hr => ?_)
        obtain ⟨rfl, rfl⟩ := hr
        refine Ev.run 1 (pc' := 25) (lv' := [(2, .int (nI 5)), (0, .ref 5), (1, .retAddr 7)]) (st' := []) (h' := HN (RT g T (p + 1 + 1) 1 le li l) hl (RF (3, T, c, e))) rfl ?_
        refine Ev.ret (v := none) rfl ?_
        exact hq.2 _ (by unfold exS; rw [if_pos hxt0]; unfold exS; rw [if_pos hxt1]; unfold exS; rw [if_neg hxt2])
    · skip
      refine Ev.run 4 (pc' := 4) (lv' := [(2, .int (nI 2)), (0, .ref 5), (1, .retAddr 7)]) (st' := [.retAddr 7, .int (nI 2)]) (h' := HN (RT g T (p + 1) 1 le li l) hl (RF (3, T, c, e))) rfl ?_
      refine Ev.call (a := 241) (as := [.retAddr 7]) (rest := [.int (nI 2)]) (lv0 := [(0, .retAddr 7)]) (Q1 := (fun z0 h' => z0 = some (.int (nI 5)) ∧ h' = HN (RT g T (p + 1) 1 le li l) hl (RF (3, T, c, e)))) rfl rfl (K_len7 _ _ ⟨rfl, rfl⟩) (fun r h' hr => ?_)
      obtain ⟨rfl, rfl⟩ := hr
      refine Ev.run 4 (pc' := 13) (lv' := [(2, .int (nI 2)), (0, .ref 5), (1, .retAddr 7)]) (st' := [.int (nI 2), .retAddr 7, .ref 5]) (h' := HN (RT g T (p + 1) 1 le li l) hl (RF (3, T, c, e))) rfl ?_
      refine Ev.call (a := 242) (as := [.retAddr 7, .int (nI 2)]) (rest := [.ref 5]) (lv0 := [(0, .retAddr 7), (1, .int (nI 2))]) (Q1 := (fun z0 h' => z0 = some (.int (nI 115)) ∧ h' = HN (RT g T (p + 1) 1 le li l) hl (RF (3, T, c, e)))) rfl rfl (K_chr7_2 _ _ ⟨rfl, rfl⟩) (fun r h' hr => ?_)
      obtain ⟨rfl, rfl⟩ := hr
      refine Ev.call (a := 58) (as := [.ref 5, .int (nI 115)]) (rest := []) (lv0 := [(0, .ref 5), (1, .int (nI 115))]) (Q1 := (fun z0 h' => z0 = none ∧ h' = HN (RT g T (p + 1) 1 le li l) hl (RF (3, T, c, e)))) rfl rfl (K_exp1 _ _ _ _ _ _ hT hX (p + 1) le li l _ ⟨rfl, rfl⟩) (fun r h' hr => ?_)
      obtain ⟨rfl, rfl⟩ := hr
      refine Ev.run 4 (pc' := 4) (lv' := [(2, .int (nI 3)), (0, .ref 5), (1, .retAddr 7)]) (st' := [.retAddr 7, .int (nI 3)]) (h' := HN (RT g T (p + 1) 1 le li l) hl (RF (3, T, c, e))) rfl ?_
      refine Ev.call (a := 241) (as := [.retAddr 7]) (rest := [.int (nI 3)]) (lv0 := [(0, .retAddr 7)]) (Q1 := (fun z0 h' => z0 = some (.int (nI 5)) ∧ h' = HN (RT g T (p + 1) 1 le li l) hl (RF (3, T, c, e)))) rfl rfl (K_len7 _ _ ⟨rfl, rfl⟩) (fun r h' hr => ?_)
      obtain ⟨rfl, rfl⟩ := hr
      refine Ev.run 4 (pc' := 13) (lv' := [(2, .int (nI 3)), (0, .ref 5), (1, .retAddr 7)]) (st' := [.int (nI 3), .retAddr 7, .ref 5]) (h' := HN (RT g T (p + 1) 1 le li l) hl (RF (3, T, c, e))) rfl ?_
      refine Ev.call (a := 242) (as := [.retAddr 7, .int (nI 3)]) (rest := [.ref 5]) (lv0 := [(0, .retAddr 7), (1, .int (nI 3))]) (Q1 := (fun z0 h' => z0 = some (.int (nI 116)) ∧ h' = HN (RT g T (p + 1) 1 le li l) hl (RF (3, T, c, e)))) rfl rfl (K_chr7_3 _ _ ⟨rfl, rfl⟩) (fun r h' hr => ?_)
      obtain ⟨rfl, rfl⟩ := hr
      refine Ev.call (a := 58) (as := [.ref 5, .int (nI 116)]) (rest := []) (lv0 := [(0, .ref 5), (1, .int (nI 116))]) (Q1 := (fun z0 h' => z0 = none ∧ h' = HN (RT g T (p + 1) 1 le li l) hl (RF (3, T, c, e)))) rfl rfl (K_exp1 _ _ _ _ _ _ hT hX (p + 1) le li l _ ⟨rfl, rfl⟩) (fun r h' hr => ?_)
      obtain ⟨rfl, rfl⟩ := hr
      refine Ev.run 4 (pc' := 4) (lv' := [(2, .int (nI 4)), (0, .ref 5), (1, .retAddr 7)]) (st' := [.retAddr 7, .int (nI 4)]) (h' := HN (RT g T (p + 1) 1 le li l) hl (RF (3, T, c, e))) rfl ?_
      refine Ev.call (a := 241) (as := [.retAddr 7]) (rest := [.int (nI 4)]) (lv0 := [(0, .retAddr 7)]) (Q1 := (fun z0 h' => z0 = some (.int (nI 5)) ∧ h' = HN (RT g T (p + 1) 1 le li l) hl (RF (3, T, c, e)))) rfl rfl (K_len7 _ _ ⟨rfl, rfl⟩) (fun r h' hr => ?_)
      obtain ⟨rfl, rfl⟩ := hr
      refine Ev.run 4 (pc' := 13) (lv' := [(2, .int (nI 4)), (0, .ref 5), (1, .retAddr 7)]) (st' := [.int (nI 4), .retAddr 7, .ref 5]) (h' := HN (RT g T (p + 1) 1 le li l) hl (RF (3, T, c, e))) rfl ?_
      refine Ev.call (a := 242) (as := [.retAddr 7, .int (nI 4)]) (rest := [.ref 5]) (lv0 := [(0, .retAddr 7), (1, .int (nI 4))]) (Q1 := (fun z0 h' => z0 = some (.int (nI 32)) ∧ h' = HN (RT g T (p + 1) 1 le li l) hl (RF (3, T, c, e)))) rfl rfl (K_chr7_4 _ _ ⟨rfl, rfl⟩) (fun r h' hr => ?_)
      obtain ⟨rfl, rfl⟩ := hr
      refine Ev.call (a := 58) (as := [.ref 5, .int (nI 32)]) (rest := []) (lv0 := [(0, .ref 5), (1, .int (nI 32))]) (Q1 := (fun z0 h' => z0 = none ∧ h' = HN (RT g T (p + 1) 1 le li l) hl (RF (3, T, c, e)))) rfl rfl (K_exp1 _ _ _ _ _ _ hT hX (p + 1) le li l _ ⟨rfl, rfl⟩) (fun r h' hr => ?_)
      obtain ⟨rfl, rfl⟩ := hr
      refine Ev.run 4 (pc' := 4) (lv' := [(2, .int (nI 5)), (0, .ref 5), (1, .retAddr 7)]) (st' := [.retAddr 7, .int (nI 5)]) (h' := HN (RT g T (p + 1) 1 le li l) hl (RF (3, T, c, e))) rfl ?_
      refine Ev.call (a := 241) (as := [.retAddr 7]) (rest := [.int (nI 5)]) (lv0 := [(0, .retAddr 7)]) (Q1 := (fun z0 h' => z0 = some (.int (nI 5)) ∧ h' = HN (RT g T (p + 1) 1 le li l) hl (RF (3, T, c, e)))) rfl rfl (K_len7 _ _ ⟨rfl, rfl⟩) (fun r h' hr => ?_)
      obtain ⟨rfl, rfl⟩ := hr
      refine Ev.run 1 (pc' := 25) (lv' := [(2, .int (nI 5)), (0, .ref 5), (1, .retAddr 7)]) (st' := []) (h' := HN (RT g T (p + 1) 1 le li l) hl (RF (3, T, c, e))) rfl ?_
      refine Ev.ret (v := none) rfl ?_
      exact hq.2 _ (by unfold exS; rw [if_pos hxt0]; unfold exS; rw [if_neg hxt1])
  · skip
    refine Ev.run 4 (pc' := 4) (lv' := [(2, .int (nI 1)), (0, .ref 5), (1, .retAddr 7)]) (st' := [.retAddr 7, .int (nI 1)]) (h' := HN (RT g T p 1 le li l) hl (RF (3, T, c, e))) rfl ?_
    refine Ev.call (a := 241) (as := [.retAddr 7]) (rest := [.int (nI 1)]) (lv0 := [(0, .retAddr 7)]) (Q1 := (fun z0 h' => z0 = some (.int (nI 5)) ∧ h' = HN (RT g T p 1 le li l) hl (RF (3, T, c, e)))) rfl rfl (K_len7 _ _ ⟨rfl, rfl⟩) (fun r h' hr => ?_)
    obtain ⟨rfl, rfl⟩ := hr
    refine Ev.run 4 (pc' := 13) (lv' := [(2, .int (nI 1)), (0, .ref 5), (1, .retAddr 7)]) (st' := [.int (nI 1), .retAddr 7, .ref 5]) (h' := HN (RT g T p 1 le li l) hl (RF (3, T, c, e))) rfl ?_
    refine Ev.call (a := 242) (as := [.retAddr 7, .int (nI 1)]) (rest := [.ref 5]) (lv0 := [(0, .retAddr 7), (1, .int (nI 1))]) (Q1 := (fun z0 h' => z0 = some (.int (nI 97)) ∧ h' = HN (RT g T p 1 le li l) hl (RF (3, T, c, e)))) rfl rfl (K_chr7_1 _ _ ⟨rfl, rfl⟩) (fun r h' hr => ?_)
    obtain ⟨rfl, rfl⟩ := hr
    refine Ev.call (a := 58) (as := [.ref 5, .int (nI 97)]) (rest := []) (lv0 := [(0, .ref 5), (1, .int (nI 97))]) (Q1 := (fun z0 h' => z0 = none ∧ h' = HN (RT g T p 1 le li l) hl (RF (3, T, c, e)))) rfl rfl (K_exp1 _ _ _ _ _ _ hT hX p le li l _ ⟨rfl, rfl⟩) (fun r h' hr => ?_)
    obtain ⟨rfl, rfl⟩ := hr
    refine Ev.run 4 (pc' := 4) (lv' := [(2, .int (nI 2)), (0, .ref 5), (1, .retAddr 7)]) (st' := [.retAddr 7, .int (nI 2)]) (h' := HN (RT g T p 1 le li l) hl (RF (3, T, c, e))) rfl ?_
    refine Ev.call (a := 241) (as := [.retAddr 7]) (rest := [.int (nI 2)]) (lv0 := [(0, .retAddr 7)]) (Q1 := (fun z0 h' => z0 = some (.int (nI 5)) ∧ h' = HN (RT g T p 1 le li l) hl (RF (3, T, c, e)))) rfl rfl (K_len7 _ _ ⟨rfl, rfl⟩) (fun r h' hr => ?_)
    obtain ⟨rfl, rfl⟩ := hr
    refine Ev.run 4 (pc' := 13) (lv' := [(2, .int (nI 2)), (0, .ref 5), (1, .retAddr 7)]) (st' := [.int (nI 2), .retAddr 7, .ref 5]) (h' := HN (RT g T p 1 le li l) hl (RF (3, T, c, e))) rfl ?_
    refine Ev.call (a := 242) (as := [.retAddr 7, .int (nI 2)]) (rest := [.ref 5]) (lv0 := [(0, .retAddr 7), (1, .int (nI 2))]) (Q1 := (fun z0 h' => z0 = some (.int (nI 115)) ∧ h' = HN (RT g T p 1 le li l) hl (RF (3, T, c, e)))) rfl rfl (K_chr7_2 _ _ ⟨rfl, rfl⟩) (fun r h' hr => ?_)
    obtain ⟨rfl, rfl⟩ := hr
    refine Ev.call (a := 58) (as := [.ref 5, .int (nI 115)]) (rest := []) (lv0 := [(0, .ref 5), (1, .int (nI 115))]) (Q1 := (fun z0 h' => z0 = none ∧ h' = HN (RT g T p 1 le li l) hl (RF (3, T, c, e)))) rfl rfl (K_exp1 _ _ _ _ _ _ hT hX p le li l _ ⟨rfl, rfl⟩) (fun r h' hr => ?_)
    obtain ⟨rfl, rfl⟩ := hr
    refine Ev.run 4 (pc' := 4) (lv' := [(2, .int (nI 3)), (0, .ref 5), (1, .retAddr 7)]) (st' := [.retAddr 7, .int (nI 3)]) (h' := HN (RT g T p 1 le li l) hl (RF (3, T, c, e))) rfl ?_
    refine Ev.call (a := 241) (as := [.retAddr 7]) (rest := [.int (nI 3)]) (lv0 := [(0, .retAddr 7)]) (Q1 := (fun z0 h' => z0 = some (.int (nI 5)) ∧ h' = HN (RT g T p 1 le li l) hl (RF (3, T, c, e)))) rfl rfl (K_len7 _ _ ⟨rfl, rfl⟩) (fun r h' hr => ?_)
    obtain ⟨rfl, rfl⟩ := hr
    refine Ev.run 4 (pc' := 13) (lv' := [(2, .int (nI 3)), (0, .ref 5), (1, .retAddr 7)]) (st' := [.int (nI 3), .retAddr 7, .ref 5]) (h' := HN (RT g T p 1 le li l) hl (RF (3, T, c, e))) rfl ?_
    refine Ev.call (a := 242) (as := [.retAddr 7, .int (nI 3)]) (rest := [.ref 5]) (lv0 := [(0, .retAddr 7), (1, .int (nI 3))]) (Q1 := (fun z0 h' => z0 = some (.int (nI 116)) ∧ h' = HN (RT g T p 1 le li l) hl (RF (3, T, c, e)))) rfl rfl (K_chr7_3 _ _ ⟨rfl, rfl⟩) (fun r h' hr => ?_)
    obtain ⟨rfl, rfl⟩ := hr
    refine Ev.call (a := 58) (as := [.ref 5, .int (nI 116)]) (rest := []) (lv0 := [(0, .ref 5), (1, .int (nI 116))]) (Q1 := (fun z0 h' => z0 = none ∧ h' = HN (RT g T p 1 le li l) hl (RF (3, T, c, e)))) rfl rfl (K_exp1 _ _ _ _ _ _ hT hX p le li l _ ⟨rfl, rfl⟩) (fun r h' hr => ?_)
    obtain ⟨rfl, rfl⟩ := hr
    refine Ev.run 4 (pc' := 4) (lv' := [(2, .int (nI 4)), (0, .ref 5), (1, .retAddr 7)]) (st' := [.retAddr 7, .int (nI 4)]) (h' := HN (RT g T p 1 le li l) hl (RF (3, T, c, e))) rfl ?_
    refine Ev.call (a := 241) (as := [.retAddr 7]) (rest := [.int (nI 4)]) (lv0 := [(0, .retAddr 7)]) (Q1 := (fun z0 h' => z0 = some (.int (nI 5)) ∧ h' = HN (RT g T p 1 le li l) hl (RF (3, T, c, e)))) rfl rfl (K_len7 _ _ ⟨rfl, rfl⟩) (fun r h' hr => ?_)
    obtain ⟨rfl, rfl⟩ := hr
    refine Ev.run 4 (pc' := 13) (lv' := [(2, .int (nI 4)), (0, .ref 5), (1, .retAddr 7)]) (st' := [.int (nI 4), .retAddr 7, .ref 5]) (h' := HN (RT g T p 1 le li l) hl (RF (3, T, c, e))) rfl ?_
    refine Ev.call (a := 242) (as := [.retAddr 7, .int (nI 4)]) (rest := [.ref 5]) (lv0 := [(0, .retAddr 7), (1, .int (nI 4))]) (Q1 := (fun z0 h' => z0 = some (.int (nI 32)) ∧ h' = HN (RT g T p 1 le li l) hl (RF (3, T, c, e)))) rfl rfl (K_chr7_4 _ _ ⟨rfl, rfl⟩) (fun r h' hr => ?_)
    obtain ⟨rfl, rfl⟩ := hr
    refine Ev.call (a := 58) (as := [.ref 5, .int (nI 32)]) (rest := []) (lv0 := [(0, .ref 5), (1, .int (nI 32))]) (Q1 := (fun z0 h' => z0 = none ∧ h' = HN (RT g T p 1 le li l) hl (RF (3, T, c, e)))) rfl rfl (K_exp1 _ _ _ _ _ _ hT hX p le li l _ ⟨rfl, rfl⟩) (fun r h' hr => ?_)
    obtain ⟨rfl, rfl⟩ := hr
    refine Ev.run 4 (pc' := 4) (lv' := [(2, .int (nI 5)), (0, .ref 5), (1, .retAddr 7)]) (st' := [.retAddr 7, .int (nI 5)]) (h' := HN (RT g T p 1 le li l) hl (RF (3, T, c, e))) rfl ?_
    refine Ev.call (a := 241) (as := [.retAddr 7]) (rest := [.int (nI 5)]) (lv0 := [(0, .retAddr 7)]) (Q1 := (fun z0 h' => z0 = some (.int (nI 5)) ∧ h' = HN (RT g T p 1 le li l) hl (RF (3, T, c, e)))) rfl rfl (K_len7 _ _ ⟨rfl, rfl⟩) (fun r h' hr => ?_)
    obtain ⟨rfl, rfl⟩ := hr
    refine Ev.run 1 (pc' := 25) (lv' := [(2, .int (nI 5)), (0, .ref 5), (1, .retAddr 7)]) (st' := []) (h' := HN (RT g T p 1 le li l) hl (RF (3, T, c, e))) rfl ?_
    refine Ev.ret (v := none) rfl ?_
    exact hq.2 _ (by  unfold exS; rw [if_neg hxt0])
theorem K_all1_8 {L : Nat} {xs : Nat → Int32} (d : Nat) (g : Nat → Nat → Nat) (hl : Nat → Nat → Int64) (T c e : Nat) (hT : TbT T) (hX : TX g) (p le li : Nat) (l : List Nat) {Q : Po} (hq : Q none (HN (RT g T p 1 le li l) hl (RF (3, T, c, e)))) : Ev L xs (d + 6) 57 0 [(0, .ref 5), (1, .retAddr 8)] [] (HN (RT g T p 1 le li l) hl (RF (3, T, c, e))) Q := by
  have hN := hX.1
  refine Ev.run 4 (pc' := 4) (lv' := [(2, .int (nI 0)), (0, .ref 5), (1, .retAddr 8)]) (st' := [.retAddr 8, .int (nI 0)]) (h' := HN (RT g T p 1 le li l) hl (RF (3, T, c, e))) rfl ?_
  refine Ev.call (a := 241) (as := [.retAddr 8]) (rest := [.int (nI 0)]) (lv0 := [(0, .retAddr 8)]) (Q1 := (fun z0 h' => z0 = some (.int (nI 5)) ∧ h' = HN (RT g T p 1 le li l) hl (RF (3, T, c, e)))) rfl rfl (K_len8 _ _ ⟨rfl, rfl⟩) (fun r h' hr => ?_)
  obtain ⟨rfl, rfl⟩ := hr
  refine Ev.run 4 (pc' := 13) (lv' := [(2, .int (nI 0)), (0, .ref 5), (1, .retAddr 8)]) (st' := [.int (nI 0), .retAddr 8, .ref 5]) (h' := HN (RT g T p 1 le li l) hl (RF (3, T, c, e))) rfl ?_
  refine Ev.call (a := 242) (as := [.retAddr 8, .int (nI 0)]) (rest := [.ref 5]) (lv0 := [(0, .retAddr 8), (1, .int (nI 0))]) (Q1 := (fun z0 h' => z0 = some (.int (nI 105)) ∧ h' = HN (RT g T p 1 le li l) hl (RF (3, T, c, e)))) rfl rfl (K_chr8_0 _ _ ⟨rfl, rfl⟩) (fun r h' hr => ?_)
  obtain ⟨rfl, rfl⟩ := hr
  refine Ev.call (a := 58) (as := [.ref 5, .int (nI 105)]) (rest := []) (lv0 := [(0, .ref 5), (1, .int (nI 105))]) (Q1 := (fun z0 h' => z0 = none ∧ h' = HN (RT g T p 1 le li l) hl (RF (3, T, c, e)))) rfl rfl (K_exp1 _ _ _ _ _ _ hT hX p le li l _ ⟨rfl, rfl⟩) (fun r h' hr => ?_)
  obtain ⟨rfl, rfl⟩ := hr
  refine Ev.run 4 (pc' := 4) (lv' := [(2, .int (nI 1)), (0, .ref 5), (1, .retAddr 8)]) (st' := [.retAddr 8, .int (nI 1)]) (h' := HN (RT g T p 1 le li l) hl (RF (3, T, c, e))) rfl ?_
  refine Ev.call (a := 241) (as := [.retAddr 8]) (rest := [.int (nI 1)]) (lv0 := [(0, .retAddr 8)]) (Q1 := (fun z0 h' => z0 = some (.int (nI 5)) ∧ h' = HN (RT g T p 1 le li l) hl (RF (3, T, c, e)))) rfl rfl (K_len8 _ _ ⟨rfl, rfl⟩) (fun r h' hr => ?_)
  obtain ⟨rfl, rfl⟩ := hr
  refine Ev.run 4 (pc' := 13) (lv' := [(2, .int (nI 1)), (0, .ref 5), (1, .retAddr 8)]) (st' := [.int (nI 1), .retAddr 8, .ref 5]) (h' := HN (RT g T p 1 le li l) hl (RF (3, T, c, e))) rfl ?_
  refine Ev.call (a := 242) (as := [.retAddr 8, .int (nI 1)]) (rest := [.ref 5]) (lv0 := [(0, .retAddr 8), (1, .int (nI 1))]) (Q1 := (fun z0 h' => z0 = some (.int (nI 118)) ∧ h' = HN (RT g T p 1 le li l) hl (RF (3, T, c, e)))) rfl rfl (K_chr8_1 _ _ ⟨rfl, rfl⟩) (fun r h' hr => ?_)
  obtain ⟨rfl, rfl⟩ := hr
  refine Ev.call (a := 58) (as := [.ref 5, .int (nI 118)]) (rest := []) (lv0 := [(0, .ref 5), (1, .int (nI 118))]) (Q1 := (fun z0 h' => z0 = none ∧ h' = HN (RT g T p 1 le li l) hl (RF (3, T, c, e)))) rfl rfl (K_exp1 _ _ _ _ _ _ hT hX p le li l _ ⟨rfl, rfl⟩) (fun r h' hr => ?_)
  obtain ⟨rfl, rfl⟩ := hr
  refine Ev.run 4 (pc' := 4) (lv' := [(2, .int (nI 2)), (0, .ref 5), (1, .retAddr 8)]) (st' := [.retAddr 8, .int (nI 2)]) (h' := HN (RT g T p 1 le li l) hl (RF (3, T, c, e))) rfl ?_
  refine Ev.call (a := 241) (as := [.retAddr 8]) (rest := [.int (nI 2)]) (lv0 := [(0, .retAddr 8)]) (Q1 := (fun z0 h' => z0 = some (.int (nI 5)) ∧ h' = HN (RT g T p 1 le li l) hl (RF (3, T, c, e)))) rfl rfl (K_len8 _ _ ⟨rfl, rfl⟩) (fun r h' hr => ?_)
  obtain ⟨rfl, rfl⟩ := hr
  refine Ev.run 4 (pc' := 13) (lv' := [(2, .int (nI 2)), (0, .ref 5), (1, .retAddr 8)]) (st' := [.int (nI 2), .retAddr 8, .ref 5]) (h' := HN (RT g T p 1 le li l) hl (RF (3, T, c, e))) rfl ?_
  refine Ev.call (a := 242) (as := [.retAddr 8, .int (nI 2)]) (rest := [.ref 5]) (lv0 := [(0, .retAddr 8), (1, .int (nI 2))]) (Q1 := (fun z0 h' => z0 = some (.int (nI 101)) ∧ h' = HN (RT g T p 1 le li l) hl (RF (3, T, c, e)))) rfl rfl (K_chr8_2 _ _ ⟨rfl, rfl⟩) (fun r h' hr => ?_)
  obtain ⟨rfl, rfl⟩ := hr
  refine Ev.call (a := 58) (as := [.ref 5, .int (nI 101)]) (rest := []) (lv0 := [(0, .ref 5), (1, .int (nI 101))]) (Q1 := (fun z0 h' => z0 = none ∧ h' = HN (RT g T p 1 le li l) hl (RF (3, T, c, e)))) rfl rfl (K_exp1 _ _ _ _ _ _ hT hX p le li l _ ⟨rfl, rfl⟩) (fun r h' hr => ?_)
  obtain ⟨rfl, rfl⟩ := hr
  refine Ev.run 4 (pc' := 4) (lv' := [(2, .int (nI 3)), (0, .ref 5), (1, .retAddr 8)]) (st' := [.retAddr 8, .int (nI 3)]) (h' := HN (RT g T p 1 le li l) hl (RF (3, T, c, e))) rfl ?_
  refine Ev.call (a := 241) (as := [.retAddr 8]) (rest := [.int (nI 3)]) (lv0 := [(0, .retAddr 8)]) (Q1 := (fun z0 h' => z0 = some (.int (nI 5)) ∧ h' = HN (RT g T p 1 le li l) hl (RF (3, T, c, e)))) rfl rfl (K_len8 _ _ ⟨rfl, rfl⟩) (fun r h' hr => ?_)
  obtain ⟨rfl, rfl⟩ := hr
  refine Ev.run 4 (pc' := 13) (lv' := [(2, .int (nI 3)), (0, .ref 5), (1, .retAddr 8)]) (st' := [.int (nI 3), .retAddr 8, .ref 5]) (h' := HN (RT g T p 1 le li l) hl (RF (3, T, c, e))) rfl ?_
  refine Ev.call (a := 242) (as := [.retAddr 8, .int (nI 3)]) (rest := [.ref 5]) (lv0 := [(0, .retAddr 8), (1, .int (nI 3))]) (Q1 := (fun z0 h' => z0 = some (.int (nI 115)) ∧ h' = HN (RT g T p 1 le li l) hl (RF (3, T, c, e)))) rfl rfl (K_chr8_3 _ _ ⟨rfl, rfl⟩) (fun r h' hr => ?_)
  obtain ⟨rfl, rfl⟩ := hr
  refine Ev.call (a := 58) (as := [.ref 5, .int (nI 115)]) (rest := []) (lv0 := [(0, .ref 5), (1, .int (nI 115))]) (Q1 := (fun z0 h' => z0 = none ∧ h' = HN (RT g T p 1 le li l) hl (RF (3, T, c, e)))) rfl rfl (K_exp1 _ _ _ _ _ _ hT hX p le li l _ ⟨rfl, rfl⟩) (fun r h' hr => ?_)
  obtain ⟨rfl, rfl⟩ := hr
  refine Ev.run 4 (pc' := 4) (lv' := [(2, .int (nI 4)), (0, .ref 5), (1, .retAddr 8)]) (st' := [.retAddr 8, .int (nI 4)]) (h' := HN (RT g T p 1 le li l) hl (RF (3, T, c, e))) rfl ?_
  refine Ev.call (a := 241) (as := [.retAddr 8]) (rest := [.int (nI 4)]) (lv0 := [(0, .retAddr 8)]) (Q1 := (fun z0 h' => z0 = some (.int (nI 5)) ∧ h' = HN (RT g T p 1 le li l) hl (RF (3, T, c, e)))) rfl rfl (K_len8 _ _ ⟨rfl, rfl⟩) (fun r h' hr => ?_)
  obtain ⟨rfl, rfl⟩ := hr
  refine Ev.run 4 (pc' := 13) (lv' := [(2, .int (nI 4)), (0, .ref 5), (1, .retAddr 8)]) (st' := [.int (nI 4), .retAddr 8, .ref 5]) (h' := HN (RT g T p 1 le li l) hl (RF (3, T, c, e))) rfl ?_
  refine Ev.call (a := 242) (as := [.retAddr 8, .int (nI 4)]) (rest := [.ref 5]) (lv0 := [(0, .retAddr 8), (1, .int (nI 4))]) (Q1 := (fun z0 h' => z0 = some (.int (nI 32)) ∧ h' = HN (RT g T p 1 le li l) hl (RF (3, T, c, e)))) rfl rfl (K_chr8_4 _ _ ⟨rfl, rfl⟩) (fun r h' hr => ?_)
  obtain ⟨rfl, rfl⟩ := hr
  refine Ev.call (a := 58) (as := [.ref 5, .int (nI 32)]) (rest := []) (lv0 := [(0, .ref 5), (1, .int (nI 32))]) (Q1 := (fun z0 h' => z0 = none ∧ h' = HN (RT g T p 1 le li l) hl (RF (3, T, c, e)))) rfl rfl (K_exp1 _ _ _ _ _ _ hT hX p le li l _ ⟨rfl, rfl⟩) (fun r h' hr => ?_)
  obtain ⟨rfl, rfl⟩ := hr
  refine Ev.run 4 (pc' := 4) (lv' := [(2, .int (nI 5)), (0, .ref 5), (1, .retAddr 8)]) (st' := [.retAddr 8, .int (nI 5)]) (h' := HN (RT g T p 1 le li l) hl (RF (3, T, c, e))) rfl ?_
  refine Ev.call (a := 241) (as := [.retAddr 8]) (rest := [.int (nI 5)]) (lv0 := [(0, .retAddr 8)]) (Q1 := (fun z0 h' => z0 = some (.int (nI 5)) ∧ h' = HN (RT g T p 1 le li l) hl (RF (3, T, c, e)))) rfl rfl (K_len8 _ _ ⟨rfl, rfl⟩) (fun r h' hr => ?_)
  obtain ⟨rfl, rfl⟩ := hr
  refine Ev.run 1 (pc' := 25) (lv' := [(2, .int (nI 5)), (0, .ref 5), (1, .retAddr 8)]) (st' := []) (h' := HN (RT g T p 1 le li l) hl (RF (3, T, c, e))) rfl ?_
  refine Ev.ret (v := none) rfl ?_
  exact hq
theorem K_all0_8 {L : Nat} {xs : Nat → Int32} (d : Nat) (g : Nat → Nat → Nat) (hl : Nat → Nat → Int64) (T c e : Nat) (hT : TbT T) (hX : TX g) (p le li : Nat) (l : List Nat) (hp : p ≤ 200) {Q : Po} (hq : (∀ q, exS g [105, 118, 101, 115, 32] p = (true, q) → Q none (HN (RT g T q 0 le li l) hl (RF (3, T, c, e)))) ∧ (∀ q, exS g [105, 118, 101, 115, 32] p = (false, q) → Q none (HN (RT g T q 1 le li l) hl (RF (3, T, c, e))))) : Ev L xs (d + 6) 57 0 [(0, .ref 5), (1, .retAddr 8)] [] (HN (RT g T p 0 le li l) hl (RF (3, T, c, e))) Q := by
  have hN := hX.1
  refine Ev.run 4 (pc' := 4) (lv' := [(2, .int (nI 0)), (0, .ref 5), (1, .retAddr 8)]) (st' := [.retAddr 8, .int (nI 0)]) (h' := HN (RT g T p 0 le li l) hl (RF (3, T, c, e))) rfl ?_
  refine Ev.call (a := 241) (as := [.retAddr 8]) (rest := [.int (nI 0)]) (lv0 := [(0, .retAddr 8)]) (Q1 := (fun z0 h' => z0 = some (.int (nI 5)) ∧ h' = HN (RT g T p 0 le li l) hl (RF (3, T, c, e)))) rfl rfl (K_len8 _ _ ⟨rfl, rfl⟩) (fun r h' hr => ?_)
  obtain ⟨rfl, rfl⟩ := hr
  refine Ev.run 4 (pc' := 13) (lv' := [(2, .int (nI 0)), (0, .ref 5), (1, .retAddr 8)]) (st' := [.int (nI 0), .retAddr 8, .ref 5]) (h' := HN (RT g T p 0 le li l) hl (RF (3, T, c, e))) rfl ?_
  refine Ev.call (a := 242) (as := [.retAddr 8, .int (nI 0)]) (rest := [.ref 5]) (lv0 := [(0, .retAddr 8), (1, .int (nI 0))]) (Q1 := (fun z0 h' => z0 = some (.int (nI 105)) ∧ h' = HN (RT g T p 0 le li l) hl (RF (3, T, c, e)))) rfl rfl (K_chr8_0 _ _ ⟨rfl, rfl⟩) (fun r h' hr => ?_)
  obtain ⟨rfl, rfl⟩ := hr
  refine Ev.call (a := 58) (as := [.ref 5, .int (nI 105)]) (rest := []) (lv0 := [(0, .ref 5), (1, .int (nI 105))]) (Q1 := (fun z0 h' => (pkS g p = 105 ∧ z0 = none ∧ h' = HN (RT g T (p + 1) 0 le li l) hl (RF (3, T, c, e))) ∨ (¬ pkS g p = 105 ∧ z0 = none ∧ h' = HN (RT g T p 1 le li l) hl (RF (3, T, c, e))))) rfl rfl (K_exp0 _ _ _ _ _ _ hT hX p le li l 105 (by omega) (by decide) (by decide) ⟨fun hz => Or.inl ⟨hz, rfl, rfl⟩, fun hz => Or.inr ⟨hz, rfl, rfl⟩⟩) (fun r h' hr => ?_)
  rcases hr with ⟨hxt0, rfl, rfl⟩ | ⟨hxt0, rfl, rfl⟩
  · skip
    refine Ev.run 4 (pc' := 4) (lv' := [(2, .int (nI 1)), (0, .ref 5), (1, .retAddr 8)]) (st' := [.retAddr 8, .int (nI 1)]) (h' := HN (RT g T (p + 1) 0 le li l) hl (RF (3, T, c, e))) rfl ?_
    refine Ev.call (a := 241) (as := [.retAddr 8]) (rest := [.int (nI 1)]) (lv0 := [(0, .retAddr 8)]) (Q1 := (fun z0 h' => z0 = some (.int (nI 5)) ∧ h' = HN (RT g T (p + 1) 0 le li l) hl (RF (3, T, c, e)))) rfl rfl (K_len8 _ _ ⟨rfl, rfl⟩) (fun r h' hr => ?_)
    obtain ⟨rfl, rfl⟩ := hr
    refine Ev.run 4 (pc' := 13) (lv' := [(2, .int (nI 1)), (0, .ref 5), (1, .retAddr 8)]) (st' := [.int (nI 1), .retAddr 8, .ref 5]) (h' := HN (RT g T (p + 1) 0 le li l) hl (RF (3, T, c, e))) rfl ?_
    refine Ev.call (a := 242) (as := [.retAddr 8, .int (nI 1)]) (rest := [.ref 5]) (lv0 := [(0, .retAddr 8), (1, .int (nI 1))]) (Q1 := (fun z0 h' => z0 = some (.int (nI 118)) ∧ h' = HN (RT g T (p + 1) 0 le li l) hl (RF (3, T, c, e)))) rfl rfl (K_chr8_1 _ _ ⟨rfl, rfl⟩) (fun r h' hr => ?_)
    obtain ⟨rfl, rfl⟩ := hr
    refine Ev.call (a := 58) (as := [.ref 5, .int (nI 118)]) (rest := []) (lv0 := [(0, .ref 5), (1, .int (nI 118))]) (Q1 := (fun z0 h' => (pkS g (p + 1) = 118 ∧ z0 = none ∧ h' = HN (RT g T (p + 1 + 1) 0 le li l) hl (RF (3, T, c, e))) ∨ (¬ pkS g (p + 1) = 118 ∧ z0 = none ∧ h' = HN (RT g T (p + 1) 1 le li l) hl (RF (3, T, c, e))))) rfl rfl (K_exp0 _ _ _ _ _ _ hT hX (p + 1) le li l 118 (by omega) (by decide) (by decide) ⟨fun hz => Or.inl ⟨hz, rfl, rfl⟩, fun hz => Or.inr ⟨hz, rfl, rfl⟩⟩) (fun r h' hr => ?_)
    rcases hr with ⟨hxt1, rfl, rfl⟩ | ⟨hxt1, rfl, rfl⟩
    · skip
      refine Ev.run 4 (pc' := 4) (lv' := [(2, .int (nI 2)), (0, .ref 5), (1, .retAddr 8)]) (st' := [.retAddr 8, .int (nI 2)]) (h' := HN (RT g T (p + 1 + 1) 0 le li l) hl (RF (3, T, c, e))) rfl ?_
      refine Ev.call (a := 241) (as := [.retAddr 8]) (rest := [.int (nI 2)]) (lv0 := [(0, .retAddr 8)]) (Q1 := (fun z0 h' => z0 = some (.int (nI 5)) ∧ h' = HN (RT g T (p + 1 + 1) 0 le li l) hl (RF (3, T, c, e)))) rfl rfl (K_len8 _ _ ⟨rfl, rfl⟩) (fun r h' hr => ?_)
      obtain ⟨rfl, rfl⟩ := hr
      refine Ev.run 4 (pc' := 13) (lv' := [(2, .int (nI 2)), (0, .ref 5), (1, .retAddr 8)]) (st' := [.int (nI 2), .retAddr 8, .ref 5]) (h' := HN (RT g T (p + 1 + 1) 0 le li l) hl (RF (3, T, c, e))) rfl ?_
      refine Ev.call (a := 242) (as := [.retAddr 8, .int (nI 2)]) (rest := [.ref 5]) (lv0 := [(0, .retAddr 8), (1, .int (nI 2))]) (Q1 := (fun z0 h' => z0 = some (.int (nI 101)) ∧ h' = HN (RT g T (p + 1 + 1) 0 le li l) hl (RF (3, T, c, e)))) rfl rfl (K_chr8_2 _ _ ⟨rfl, rfl⟩) (fun r h' hr => ?_)
      obtain ⟨rfl, rfl⟩ := hr
      refine Ev.call (a := 58) (as := [.ref 5, .int (nI 101)]) (rest := []) (lv0 := [(0, .ref 5), (1, .int (nI 101))]) (Q1 := (fun z0 h' => (pkS g (p + 1 + 1) = 101 ∧ z0 = none ∧ h' = HN (RT g T (p + 1 + 1 + 1) 0 le li l) hl (RF (3, T, c, e))) ∨ (¬ pkS g (p + 1 + 1) = 101 ∧ z0 = none ∧ h' = HN (RT g T (p + 1 + 1) 1 le li l) hl (RF (3, T, c, e))))) rfl rfl (K_exp0 _ _ _ _ _ _ hT hX (p + 1 + 1) le li l 101 (by omega) (by decide) (by decide) ⟨fun hz => Or.inl ⟨hz, rfl, rfl⟩, fun hz => Or.inr ⟨hz, rfl, rfl⟩⟩) (fun r h' hr => ?_)
      rcases hr with ⟨hxt2, rfl, rfl⟩ | ⟨hxt2, rfl, rfl⟩
      · skip
        refine Ev.run 4 (pc' := 4) (lv' := [(2, .int (nI 3)), (0, .ref 5), (1, .retAddr 8)]) (st' := [.retAddr 8, .int (nI 3)]) (h' := HN (RT g T (p + 1 + 1 + 1) 0 le li l) hl (RF (3, T, c, e))) rfl ?_
        refine Ev.call (a := 241) (as := [.retAddr 8]) (rest := [.int (nI 3)]) (lv0 := [(0, .retAddr 8)]) (Q1 := (fun z0 h' => z0 = some (.int (nI 5)) ∧ h' = HN (RT g T (p + 1 + 1 + 1) 0 le li l) hl (RF (3, T, c, e)))) rfl rfl (K_len8 _ _ ⟨rfl, rfl⟩) (fun r h' hr => ?_)
        obtain ⟨rfl, rfl⟩ := hr
        refine Ev.run 4 (pc' := 13) (lv' := [(2, .int (nI 3)), (0, .ref 5), (1, .retAddr 8)]) (st' := [.int (nI 3), .retAddr 8, .ref 5]) (h' := HN (RT g T (p + 1 + 1 + 1) 0 le li l) hl (RF (3, T, c, e))) rfl ?_
        refine Ev.call (a := 242) (as := [.retAddr 8, .int (nI 3)]) (rest := [.ref 5]) (lv0 := [(0, .retAddr 8), (1, .int (nI 3))]) (Q1 := (fun z0 h' => z0 = some (.int (nI 115)) ∧ h' = HN (RT g T (p + 1 + 1 + 1) 0 le li l) hl (RF (3, T, c, e)))) rfl rfl (K_chr8_3 _ _ ⟨rfl, rfl⟩) (fun r h' hr => ?_)
        obtain ⟨rfl, rfl⟩ := hr
        refine Ev.call (a := 58) (as := [.ref 5, .int (nI 115)]) (rest := []) (lv0 := [(0, .ref 5), (1, .int (nI 115))]) (Q1 := (fun z0 h' => (pkS g (p + 1 + 1 + 1) = 115 ∧ z0 = none ∧ h' = HN (RT g T (p + 1 + 1 + 1 + 1) 0 le li l) hl (RF (3, T, c, e))) ∨ (¬ pkS g (p + 1 + 1 + 1) = 115 ∧ z0 = none ∧ h' = HN (RT g T (p + 1 + 1 + 1) 1 le li l) hl (RF (3, T, c, e))))) rfl rfl (K_exp0 _ _ _ _ _ _ hT hX (p + 1 + 1 + 1) le li l 115 (by omega) (by decide) (by decide) ⟨fun hz => Or.inl ⟨hz, rfl, rfl⟩, fun hz => Or.inr ⟨hz, rfl, rfl⟩⟩) (fun r h' hr => ?_)
        rcases hr with ⟨hxt3, rfl, rfl⟩ | ⟨hxt3, rfl, rfl⟩
        · skip
          refine Ev.run 4 (pc' := 4) (lv' := [(2, .int (nI 4)), (0, .ref 5), (1, .retAddr 8)]) (st' := [.retAddr 8, .int (nI 4)]) (h' := HN (RT g T (p + 1 + 1 + 1 + 1) 0 le li l) hl (RF (3, T, c, e))) rfl ?_
          refine Ev.call (a := 241) (as := [.retAddr 8]) (rest := [.int (nI 4)]) (lv0 := [(0, .retAddr 8)]) (Q1 := (fun z0 h' => z0 = some (.int (nI 5)) ∧ h' = HN (RT g T (p + 1 + 1 + 1 + 1) 0 le li l) hl (RF (3, T, c, e)))) rfl rfl (K_len8 _ _ ⟨rfl, rfl⟩) (fun r h' hr => ?_)
          obtain ⟨rfl, rfl⟩ := hr
          refine Ev.run 4 (pc' := 13) (lv' := [(2, .int (nI 4)), (0, .ref 5), (1, .retAddr 8)]) (st' := [.int (nI 4), .retAddr 8, .ref 5]) (h' := HN (RT g T (p + 1 + 1 + 1 + 1) 0 le li l) hl (RF (3, T, c, e))) rfl ?_
          refine Ev.call (a := 242) (as := [.retAddr 8, .int (nI 4)]) (rest := [.ref 5]) (lv0 := [(0, .retAddr 8), (1, .int (nI 4))]) (Q1 := (fun z0 h' => z0 = some (.int (nI 32)) ∧ h' = HN (RT g T (p + 1 + 1 + 1 + 1) 0 le li l) hl (RF (3, T, c, e)))) rfl rfl (K_chr8_4 _ _ ⟨rfl, rfl⟩) (fun r h' hr => ?_)
          obtain ⟨rfl, rfl⟩ := hr
          refine Ev.call (a := 58) (as := [.ref 5, .int (nI 32)]) (rest := []) (lv0 := [(0, .ref 5), (1, .int (nI 32))]) (Q1 := (fun z0 h' => (pkS g (p + 1 + 1 + 1 + 1) = 32 ∧ z0 = none ∧ h' = HN (RT g T (p + 1 + 1 + 1 + 1 + 1) 0 le li l) hl (RF (3, T, c, e))) ∨ (¬ pkS g (p + 1 + 1 + 1 + 1) = 32 ∧ z0 = none ∧ h' = HN (RT g T (p + 1 + 1 + 1 + 1) 1 le li l) hl (RF (3, T, c, e))))) rfl rfl (K_exp0 _ _ _ _ _ _ hT hX (p + 1 + 1 + 1 + 1) le li l 32 (by omega) (by decide) (by decide) ⟨fun hz => Or.inl ⟨hz, rfl, rfl⟩, fun hz => Or.inr ⟨hz, rfl, rfl⟩⟩) (fun r h' hr => ?_)
          rcases hr with ⟨hxt4, rfl, rfl⟩ | ⟨hxt4, rfl, rfl⟩
          · skip
            refine Ev.run 4 (pc' := 4) (lv' := [(2, .int (nI 5)), (0, .ref 5), (1, .retAddr 8)]) (st' := [.retAddr 8, .int (nI 5)]) (h' := HN (RT g T (p + 1 + 1 + 1 + 1 + 1) 0 le li l) hl (RF (3, T, c, e))) rfl ?_
            refine Ev.call (a := 241) (as := [.retAddr 8]) (rest := [.int (nI 5)]) (lv0 := [(0, .retAddr 8)]) (Q1 := (fun z0 h' => z0 = some (.int (nI 5)) ∧ h' = HN (RT g T (p + 1 + 1 + 1 + 1 + 1) 0 le li l) hl (RF (3, T, c, e)))) rfl rfl (K_len8 _ _ ⟨rfl, rfl⟩) (fun r h' hr => ?_)
            obtain ⟨rfl, rfl⟩ := hr
            refine Ev.run 1 (pc' := 25) (lv' := [(2, .int (nI 5)), (0, .ref 5), (1, .retAddr 8)]) (st' := []) (h' := HN (RT g T (p + 1 + 1 + 1 + 1 + 1) 0 le li l) hl (RF (3, T, c, e))) rfl ?_
            refine Ev.ret (v := none) rfl ?_
            exact hq.1 _ (by unfold exS; rw [if_pos hxt0]; unfold exS; rw [if_pos hxt1]; unfold exS; rw [if_pos hxt2]; unfold exS; rw [if_pos hxt3]; unfold exS; rw [if_pos hxt4]; rfl)
          · skip
            refine Ev.run 4 (pc' := 4) (lv' := [(2, .int (nI 5)), (0, .ref 5), (1, .retAddr 8)]) (st' := [.retAddr 8, .int (nI 5)]) (h' := HN (RT g T (p + 1 + 1 + 1 + 1) 1 le li l) hl (RF (3, T, c, e))) rfl ?_
            refine Ev.call (a := 241) (as := [.retAddr 8]) (rest := [.int (nI 5)]) (lv0 := [(0, .retAddr 8)]) (Q1 := (fun z0 h' => z0 = some (.int (nI 5)) ∧ h' = HN (RT g T (p + 1 + 1 + 1 + 1) 1 le li l) hl (RF (3, T, c, e)))) rfl rfl (K_len8 _ _ ⟨rfl, rfl⟩) (fun r h' hr => ?_)
            obtain ⟨rfl, rfl⟩ := hr
            refine Ev.run 1 (pc' := 25) (lv' := [(2, .int (nI 5)), (0, .ref 5), (1, .retAddr 8)]) (st' := []) (h' := HN (RT g T (p + 1 + 1 + 1 + 1) 1 le li l) hl (RF (3, T, c, e))) rfl ?_
            refine Ev.ret (v := none) rfl ?_
            exact hq.2 _ (by unfold exS; rw [if_pos hxt0]; unfold exS; rw [if_pos hxt1]; unfold exS; rw [if_pos hxt2]; unfold exS; rw [if_pos hxt3]; unfold exS; rw [if_neg hxt4])
        · skip
          refine Ev.run 4 (pc' := 4) (lv' := [(2, .int (nI 4)), (0, .ref 5), (1, .retAddr 8)]) (st' := [.retAddr 8, .int (nI 4)]) (h' := HN (RT g T (p + 1 + 1 + 1) 1 le li l) hl (RF (3, T, c, e))) rfl ?_
          refine Ev.call (a := 241) (as := [.retAddr 8]) (rest := [.int (nI 4)]) (lv0 := [(0, .retAddr 8)]) (Q1 := (fun z0 h' => z0 = some (.int (nI 5)) ∧ h' = HN (RT g T (p + 1 + 1 + 1) 1 le li l) hl (RF (3, T, c, e)))) rfl rfl (K_len8 _ _ ⟨rfl, rfl⟩) (fun r h' hr => ?_)
          obtain ⟨rfl, rfl⟩ := hr
          refine Ev.run 4 (pc' := 13) (lv' := [(2, .int (nI 4)), (0, .ref 5), (1, .retAddr 8)]) (st' := [.int (nI 4), .retAddr 8, .ref 5]) (h' := HN (RT g T (p + 1 + 1 + 1) 1 le li l) hl (RF (3, T, c, e))) rfl ?_
          refine Ev.call (a := 242) (as := [.retAddr 8, .int (nI 4)]) (rest := [.ref 5]) (lv0 := [(0, .retAddr 8), (1, .int (nI 4))]) (Q1 := (fun z0 h' => z0 = some (.int (nI 32)) ∧ h' = HN (RT g T (p + 1 + 1 + 1) 1 le li l) hl (RF (3, T, c, e)))) rfl rfl (K_chr8_4 _ _ ⟨rfl, rfl⟩) (fun r h' hr => ?_)
          obtain ⟨rfl, rfl⟩ := hr
          refine Ev.call (a := 58) (as := [.ref 5, .int (nI 32)]) (rest := []) (lv0 := [(0, .ref 5), (1, .int (nI 32))]) (Q1 := (fun z0 h' => z0 = none ∧ h' = HN (RT g T (p + 1 + 1 + 1) 1 le li l) hl (RF (3, T, c, e)))) rfl rfl (K_exp1 _ _ _ _ _ _ hT hX (p + 1 + 1 + 1) le li l _ ⟨rfl, rfl⟩) (fun r h' hr => ?_)
          obtain ⟨rfl, rfl⟩ := hr
          refine Ev.run 4 (pc' := 4) (lv' := [(2, .int (nI 5)), (0, .ref 5), (1, .retAddr 8)]) (st' := [.retAddr 8, .int (nI 5)]) (h' := HN (RT g T (p + 1 + 1 + 1) 1 le li l) hl (RF (3, T, c, e))) rfl ?_
          refine Ev.call (a := 241) (as := [.retAddr 8]) (rest := [.int (nI 5)]) (lv0 := [(0, .retAddr 8)]) (Q1 := (fun z0 h' => z0 = some (.int (nI 5)) ∧ h' = HN (RT g T (p + 1 + 1 + 1) 1 le li l) hl (RF (3, T, c, e)))) rfl rfl (K_len8 _ _ ⟨rfl, rfl⟩) (fun r h' hr => ?_)
          obtain ⟨rfl, rfl⟩ := hr
          refine Ev.run 1 (pc' := 25) (lv' := [(2, .int (nI 5)), (0, .ref 5), (1, .retAddr 8)]) (st' := []) (h' := HN (RT g T (p + 1 + 1 + 1) 1 le li l) hl (RF (3, T, c, e))) rfl ?_
          refine Ev.ret (v := none) rfl ?_
          exact hq.2 _ (by unfold exS; rw [if_pos hxt0]; unfold exS; rw [if_pos hxt1]; unfold exS; rw [if_pos hxt2]; unfold exS; rw [if_neg hxt3])
      · skip
        refine Ev.run 4 (pc' := 4) (lv' := [(2, .int (nI 3)), (0, .ref 5), (1, .retAddr 8)]) (st' := [.retAddr 8, .int (nI 3)]) (h' := HN (RT g T (p + 1 + 1) 1 le li l) hl (RF (3, T, c, e))) rfl ?_
        refine Ev.call (a := 241) (as := [.retAddr 8]) (rest := [.int (nI 3)]) (lv0 := [(0, .retAddr 8)]) (Q1 := (fun z0 h' => z0 = some (.int (nI 5)) ∧ h' = HN (RT g T (p + 1 + 1) 1 le li l) hl (RF (3, T, c, e)))) rfl rfl (K_len8 _ _ ⟨rfl, rfl⟩) (fun r h' hr => ?_)
        obtain ⟨rfl, rfl⟩ := hr
        refine Ev.run 4 (pc' := 13) (lv' := [(2, .int (nI 3)), (0, .ref 5), (1, .retAddr 8)]) (st' := [.int (nI 3), .retAddr 8, .ref 5]) (h' := HN (RT g T (p + 1 + 1) 1 le li l) hl (RF (3, T, c, e))) rfl ?_
        refine Ev.call (a := 242) (as := [.retAddr 8, .int (nI 3)]) (rest := [.ref 5]) (lv0 := [(0, .retAddr 8), (1, .int (nI 3))]) (Q1 := (fun z0 h' => z0 = some (.int (nI 115)) ∧ h' = HN (RT g T (p + 1 + 1) 1 le li l) hl (RF (3, T, c, e)))) rfl rfl (K_chr8_3 _ _ ⟨rfl, rfl⟩) (fun r h' hr => ?_)
        obtain ⟨rfl, rfl⟩ := hr
        refine Ev.call (a := 58) (as := [.ref 5, .int (nI 115)]) (rest := []) (lv0 := [(0, .ref 5), (1, .int (nI 115))]) (Q1 := (fun z0 h' => z0 = none ∧ h' = HN (RT g T (p + 1 + 1) 1 le li l) hl (RF (3, T, c, e)))) rfl rfl (K_exp1 _ _ _ _ _ _ hT hX (p + 1 + 1) le li l _ ⟨rfl, rfl⟩) (fun r h' hr => ?_)
        obtain ⟨rfl, rfl⟩ := hr
        refine Ev.run 4 (pc' := 4) (lv' := [(2, .int (nI 4)), (0, .ref 5), (1, .retAddr 8)]) (st' := [.retAddr 8, .int (nI 4)]) (h' := HN (RT g T (p + 1 + 1) 1 le li l) hl (RF (3, T, c, e))) rfl ?_
        refine Ev.call (a := 241) (as := [.retAddr 8]) (rest := [.int (nI 4)]) (lv0 := [(0, .retAddr 8)]) (Q1 := (fun z0 h' => z0 = some (.int (nI 5)) ∧ h' = HN (RT g T (p + 1 + 1) 1 le li l) hl (RF (3, T, c, e)))) rfl rfl (K_len8 _ _ ⟨rfl, rfl⟩) (fun r h' hr => ?_)
        obtain ⟨rfl, rfl⟩ := hr
        refine Ev.run 4 (pc' := 13) (lv' := [(2, .int (nI 4)), (0, .ref 5), (1, .retAddr 8)]) (st' := [.int (nI 4), .retAddr 8, .ref 5]) (h' := HN (RT g T (p + 1 + 1) 1 le li l) hl (RF (3, T, c, e))) rfl ?_
        refine Ev.call (a := 242) (as := [.retAddr 8, .int (nI 4)]) (rest := [.ref 5]) (lv0 := [(0, .retAddr 8), (1, .int (nI 4))]) (Q1 := (fun z0 h' => z0 = some (.int (nI 32)) ∧ h' = HN (RT g T (p + 1 + 1) 1 le li l) hl (RF (3, T, c, e)))) rfl rfl (K_chr8_4 _ _ ⟨rfl, rfl⟩) (fun r h' hr => ?_)
        obtain ⟨rfl, rfl⟩ := hr
        refine Ev.call (a := 58) (as := [.ref 5, .int (nI 32)]) (rest := []) (lv0 := [(0, .ref 5), (1, .int (nI 32))]) (Q1 := (fun z0 h' => z0 = none ∧ h' = HN (RT g T (p + 1 + 1) 1 le li l) hl (RF (3, T, c, e)))) rfl rfl (K_exp1 _ _ _ _ _ _ hT hX (p + 1 + 1) le li l _ ⟨rfl, rfl⟩) (fun r h' hr => ?_)
        obtain ⟨rfl, rfl⟩ := hr
        refine Ev.run 4 (pc' := 4) (lv' := [(2, .int (nI 5)), (0, .ref 5), (1, .retAddr 8)]) (st' := [.retAddr 8, .int (nI 5)]) (h' := HN (RT g T (p + 1 + 1) 1 le li l) hl (RF (3, T, c, e))) rfl ?_
        refine Ev.call (a := 241) (as := [.retAddr 8]) (rest := [.int (nI 5)]) (lv0 := [(0, .retAddr 8)]) (Q1 := (fun z0 h' => z0 = some (.int (nI 5)) ∧ h' = HN (RT g T (p + 1 + 1) 1 le li l) hl (RF (3, T, c, e)))) rfl rfl (K_len8 _ _ ⟨rfl, rfl⟩) (fun r h' hr => ?_)
        obtain ⟨rfl, rfl⟩ := hr
        refine Ev.run 1 (pc' := 25) (lv' := [(2, .int (nI 5)), (0, .ref 5), (1, .retAddr 8)]) (st' := []) (h' := HN (RT g T (p + 1 + 1) 1 le li l) hl (RF (3, T, c, e))) rfl ?_
        refine Ev.ret (v := none) rfl ?_
        exact hq.2 _ (by unfold exS; rw [if_pos hxt0]; unfold exS; rw [if_pos hxt1]; unfold exS; rw [if_neg hxt2])
    · skip
      refine Ev.run 4 (pc' := 4) (lv' := [(2, .int (nI 2)), (0, .ref 5), (1, .retAddr 8)]) (st' := [.retAddr 8, .int (nI 2)]) (h' := HN (RT g T (p + 1) 1 le li l) hl (RF (3, T, c, e))) rfl ?_
      refine Ev.call (a := 241) (as := [.retAddr 8]) (rest := [.int (nI 2)]) (lv0 := [(0, .retAddr 8)]) (Q1 := (fun z0 h' => z0 = some (.int (nI 5)) ∧ h' = HN (RT g T (p + 1) 1 le li l) hl (RF (3, T, c, e)))) rfl rfl (K_len8 _ _ ⟨rfl, rfl⟩) (fun r h' hr => ?_)
      obtain ⟨rfl, rfl⟩ := hr
      refine Ev.run 4 (pc' := 13) (lv' := [(2, .int (nI 2)), (0, .ref 5), (1, .retAddr 8)]) (st' := [.int (nI 2), .retAddr 8, .ref 5]) (h' := HN (RT g T (p + 1) 1 le li l) hl (RF (3, T, c, e))) rfl ?_
      refine Ev.call (a := 242) (as := [.retAddr 8, .int (nI 2)]) (rest := [.ref 5]) (lv0 := [(0, .retAddr 8), (1, .int (nI 2))]) (Q1 := (fun z0 h' => z0 = some (.int (nI 101)) ∧ h' = HN (RT g T (p + 1) 1 le li l) hl (RF (3, T, c, e)))) rfl rfl (K_chr8_2 _ _ ⟨rfl, rfl⟩) (fun r h' hr => ?_)
      obtain ⟨rfl, rfl⟩ := hr
      refine Ev.call (a := 58) (as := [.ref 5, .int (nI 101)]) (rest := []) (lv0 := [(0, .ref 5), (1, .int (nI 101))]) (Q1 := (fun z0 h' => z0 = none ∧ h' = HN (RT g T (p + 1) 1 le li l) hl (RF (3, T, c, e)))) rfl rfl (K_exp1 _ _ _ _ _ _ hT hX (p + 1) le li l _ ⟨rfl, rfl⟩) (fun r h' hr => ?_)
      obtain ⟨rfl, rfl⟩ := hr
      refine Ev.run 4 (pc' := 4) (lv' := [(2, .int (nI 3)), (0, .ref 5), (1, .retAddr 8)]) (st' := [.retAddr 8, .int (nI 3)]) (h' := HN (RT g T (p + 1) 1 le li l) hl (RF (3, T, c, e))) rfl ?_
      refine Ev.call (a := 241) (as := [.retAddr 8]) (rest := [.int (nI 3)]) (lv0 := [(0, .retAddr 8)]) (Q1 := (fun z0 h' => z0 = some (.int (nI 5)) ∧ h' = HN (RT g T (p + 1) 1 le li l) hl (RF (3, T, c, e)))) rfl rfl (K_len8 _ _ ⟨rfl, rfl⟩) (fun r h' hr => ?_)
      obtain ⟨rfl, rfl⟩ := hr
      refine Ev.run 4 (pc' := 13) (lv' := [(2, .int (nI 3)), (0, .ref 5), (1, .retAddr 8)]) (st' := [.int (nI 3), .retAddr 8, .ref 5]) (h' := HN (RT g T (p + 1) 1 le li l) hl (RF (3, T, c, e))) rfl ?_
      refine Ev.call (a := 242) (as := [.retAddr 8, .int (nI 3)]) (rest := [.ref 5]) (lv0 := [(0, .retAddr 8), (1, .int (nI 3))]) (Q1 := (fun z0 h' => z0 = some (.int (nI 115)) ∧ h' = HN (RT g T (p + 1) 1 le li l) hl (RF (3, T, c, e)))) rfl rfl (K_chr8_3 _ _ ⟨rfl, rfl⟩) (fun r h' hr => ?_)
      obtain ⟨rfl, rfl⟩ := hr
      refine Ev.call (a := 58) (as := [.ref 5, .int (nI 115)]) (rest := []) (lv0 := [(0, .ref 5), (1, .int (nI 115))]) (Q1 := (fun z0 h' => z0 = none ∧ h' = HN (RT g T (p + 1) 1 le li l) hl (RF (3, T, c, e)))) rfl rfl (K_exp1 _ _ _ _ _ _ hT hX (p + 1) le li l _ ⟨rfl, rfl⟩) (fun r h' hr => ?_)
      obtain ⟨rfl, rfl⟩ := hr
      refine Ev.run 4 (pc' := 4) (lv' := [(2, .int (nI 4)), (0, .ref 5), (1, .retAddr 8)]) (st' := [.retAddr 8, .int (nI 4)]) (h' := HN (RT g T (p + 1) 1 le li l) hl (RF (3, T, c, e))) rfl ?_
      refine Ev.call (a := 241) (as := [.retAddr 8]) (rest := [.int (nI 4)]) (lv0 := [(0, .retAddr 8)]) (Q1 := (fun z0 h' => z0 = some (.int (nI 5)) ∧ h' = HN (RT g T (p + 1) 1 le li l) hl (RF (3, T, c, e)))) rfl rfl (K_len8 _ _ ⟨rfl, rfl⟩) (fun r h' hr => ?_)
      obtain ⟨rfl, rfl⟩ := hr
      refine Ev.run 4 (pc' := 13) (lv' := [(2, .int (nI 4)), (0, .ref 5), (1, .retAddr 8)]) (st' := [.int (nI 4), .retAddr 8, .ref 5]) (h' := HN (RT g T (p + 1) 1 le li l) hl (RF (3, T, c, e))) rfl ?_
      refine Ev.call (a := 242) (as := [.retAddr 8, .int (nI 4)]) (rest := [.ref 5]) (lv0 := [(0, .retAddr 8), (1, .int (nI 4))]) (Q1 := (fun z0 h' => z0 = some (.int (nI 32)) ∧ h' = HN (RT g T (p + 1) 1 le li l) hl (RF (3, T, c, e)))) rfl rfl (K_chr8_4 _ _ ⟨rfl, rfl⟩) (fun r h' hr => ?_)
      obtain ⟨rfl, rfl⟩ := hr
      refine Ev.call (a := 58) (as := [.ref 5, .int (nI 32)]) (rest := []) (lv0 := [(0, .ref 5), (1, .int (nI 32))]) (Q1 := (fun z0 h' => z0 = none ∧ h' = HN (RT g T (p + 1) 1 le li l) hl (RF (3, T, c, e)))) rfl rfl (K_exp1 _ _ _ _ _ _ hT hX (p + 1) le li l _ ⟨rfl, rfl⟩) (fun r h' hr => ?_)
      obtain ⟨rfl, rfl⟩ := hr
      refine Ev.run 4 (pc' := 4) (lv' := [(2, .int (nI 5)), (0, .ref 5), (1, .retAddr 8)]) (st' := [.retAddr 8, .int (nI 5)]) (h' := HN (RT g T (p + 1) 1 le li l) hl (RF (3, T, c, e))) rfl ?_
      refine Ev.call (a := 241) (as := [.retAddr 8]) (rest := [.int (nI 5)]) (lv0 := [(0, .retAddr 8)]) (Q1 := (fun z0 h' => z0 = some (.int (nI 5)) ∧ h' = HN (RT g T (p + 1) 1 le li l) hl (RF (3, T, c, e)))) rfl rfl (K_len8 _ _ ⟨rfl, rfl⟩) (fun r h' hr => ?_)
      obtain ⟨rfl, rfl⟩ := hr
      refine Ev.run 1 (pc' := 25) (lv' := [(2, .int (nI 5)), (0, .ref 5), (1, .retAddr 8)]) (st' := []) (h' := HN (RT g T (p + 1) 1 le li l) hl (RF (3, T, c, e))) rfl ?_
      refine Ev.ret (v := none) rfl ?_
      exact hq.2 _ (by unfold exS; rw [if_pos hxt0]; unfold exS; rw [if_neg hxt1])
  · skip
    refine Ev.run 4 (pc' := 4) (lv' := [(2, .int (nI 1)), (0, .ref 5), (1, .retAddr 8)]) (st' := [.retAddr 8, .int (nI 1)]) (h' := HN (RT g T p 1 le li l) hl (RF (3, T, c, e))) rfl ?_
    refine Ev.call (a := 241) (as := [.retAddr 8]) (rest := [.int (nI 1)]) (lv0 := [(0, .retAddr 8)]) (Q1 := (fun z0 h' => z0 = some (.int (nI 5)) ∧ h' = HN (RT g T p 1 le li l) hl (RF (3, T, c, e)))) rfl rfl (K_len8 _ _ ⟨rfl, rfl⟩) (fun r h' hr => ?_)
    obtain ⟨rfl, rfl⟩ := hr
    refine Ev.run 4 (pc' := 13) (lv' := [(2, .int (nI 1)), (0, .ref 5), (1, .retAddr 8)]) (st' := [.int (nI 1), .retAddr 8, .ref 5]) (h' := HN (RT g T p 1 le li l) hl (RF (3, T, c, e))) rfl ?_
    refine Ev.call (a := 242) (as := [.retAddr 8, .int (nI 1)]) (rest := [.ref 5]) (lv0 := [(0, .retAddr 8), (1, .int (nI 1))]) (Q1 := (fun z0 h' => z0 = some (.int (nI 118)) ∧ h' = HN (RT g T p 1 le li l) hl (RF (3, T, c, e)))) rfl rfl (K_chr8_1 _ _ ⟨rfl, rfl⟩) (fun r h' hr => ?_)
    obtain ⟨rfl, rfl⟩ := hr
    refine Ev.call (a := 58) (as := [.ref 5, .int (nI 118)]) (rest := []) (lv0 := [(0, .ref 5), (1, .int (nI 118))]) (Q1 := (fun z0 h' => z0 = none ∧ h' = HN (RT g T p 1 le li l) hl (RF (3, T, c, e)))) rfl rfl (K_exp1 _ _ _ _ _ _ hT hX p le li l _ ⟨rfl, rfl⟩) (fun r h' hr => ?_)
    obtain ⟨rfl, rfl⟩ := hr
    refine Ev.run 4 (pc' := 4) (lv' := [(2, .int (nI 2)), (0, .ref 5), (1, .retAddr 8)]) (st' := [.retAddr 8, .int (nI 2)]) (h' := HN (RT g T p 1 le li l) hl (RF (3, T, c, e))) rfl ?_
    refine Ev.call (a := 241) (as := [.retAddr 8]) (rest := [.int (nI 2)]) (lv0 := [(0, .retAddr 8)]) (Q1 := (fun z0 h' => z0 = some (.int (nI 5)) ∧ h' = HN (RT g T p 1 le li l) hl (RF (3, T, c, e)))) rfl rfl (K_len8 _ _ ⟨rfl, rfl⟩) (fun r h' hr => ?_)
    obtain ⟨rfl, rfl⟩ := hr
    refine Ev.run 4 (pc' := 13) (lv' := [(2, .int (nI 2)), (0, .ref 5), (1, .retAddr 8)]) (st' := [.int (nI 2), .retAddr 8, .ref 5]) (h' := HN (RT g T p 1 le li l) hl (RF (3, T, c, e))) rfl ?_
    refine Ev.call (a := 242) (as := [.retAddr 8, .int (nI 2)]) (rest := [.ref 5]) (lv0 := [(0, .retAddr 8), (1, .int (nI 2))]) (Q1 := (fun z0 h' => z0 = some (.int (nI 101)) ∧ h' = HN (RT g T p 1 le li l) hl (RF (3, T, c, e)))) rfl rfl (K_chr8_2 _ _ ⟨rfl, rfl⟩) (fun r h' hr => ?_)
    obtain ⟨rfl, rfl⟩ := hr
    refine Ev.call (a := 58) (as := [.ref 5, .int (nI 101)]) (rest := []) (lv0 := [(0, .ref 5), (1, .int (nI 101))]) (Q1 := (fun z0 h' => z0 = none ∧ h' = HN (RT g T p 1 le li l) hl (RF (3, T, c, e)))) rfl rfl (K_exp1 _ _ _ _ _ _ hT hX p le li l _ ⟨rfl, rfl⟩) (fun r h' hr => ?_)
    obtain ⟨rfl, rfl⟩ := hr
    refine Ev.run 4 (pc' := 4) (lv' := [(2, .int (nI 3)), (0, .ref 5), (1, .retAddr 8)]) (st' := [.retAddr 8, .int (nI 3)]) (h' := HN (RT g T p 1 le li l) hl (RF (3, T, c, e))) rfl ?_
    refine Ev.call (a := 241) (as := [.retAddr 8]) (rest := [.int (nI 3)]) (lv0 := [(0, .retAddr 8)]) (Q1 := (fun z0 h' => z0 = some (.int (nI 5)) ∧ h' = HN (RT g T p 1 le li l) hl (RF (3, T, c, e)))) rfl rfl (K_len8 _ _ ⟨rfl, rfl⟩) (fun r h' hr => ?_)
    obtain ⟨rfl, rfl⟩ := hr
    refine Ev.run 4 (pc' := 13) (lv' := [(2, .int (nI 3)), (0, .ref 5), (1, .retAddr 8)]) (st' := [.int (nI 3), .retAddr 8, .ref 5]) (h' := HN (RT g T p 1 le li l) hl (RF (3, T, c, e))) rfl ?_
    refine Ev.call (a := 242) (as := [.retAddr 8, .int (nI 3)]) (rest := [.ref 5]) (lv0 := [(0, .retAddr 8), (1, .int (nI 3))]) (Q1 := (fun z0 h' => z0 = some (.int (nI 115)) ∧ h' = HN (RT g T p 1 le li l) hl (RF (3, T, c, e)))) rfl rfl (K_chr8_3 _ _ ⟨rfl, rfl⟩) (fun r h' hr => ?_)
    obtain ⟨rfl, rfl⟩ := hr
    refine Ev.call (a := 58) (as := [.ref 5, .int (nI 115)]) (rest := []) (lv0 := [(0, .ref 5), (1, .int (nI 115))]) (Q1 := (fun z0 h' => z0 = none ∧ h' = HN (RT g T p 1 le li l) hl (RF (3, T, c, e)))) rfl rfl (K_exp1 _ _ _ _ _ _ hT hX p le li l _ ⟨rfl, rfl⟩) (fun r h' hr => ?_)
    obtain ⟨rfl, rfl⟩ := hr
    refine Ev.run 4 (pc' := 4) (lv' := [(2, .int (nI 4)), (0, .ref 5), (1, .retAddr 8)]) (st' := [.retAddr 8, .int (nI 4)]) (h' := HN (RT g T p 1 le li l) hl (RF (3, T, c, e))) rfl ?_
    refine Ev.call (a := 241) (as := [.retAddr 8]) (rest := [.int (nI 4)]) (lv0 := [(0, .retAddr 8)]) (Q1 := (fun z0 h' => z0 = some (.int (nI 5)) ∧ h' = HN (RT g T p 1 le li l) hl (RF (3, T, c, e)))) rfl rfl (K_len8 _ _ ⟨rfl, rfl⟩) (fun r h' hr => ?_)
    obtain ⟨rfl, rfl⟩ := hr
    refine Ev.run 4 (pc' := 13) (lv' := [(2, .int (nI 4)), (0, .ref 5), (1, .retAddr 8)]) (st' := [.int (nI 4), .retAddr 8, .ref 5]) (h' := HN (RT g T p 1 le li l) hl (RF (3, T, c, e))) rfl ?_
    refine Ev.call (a := 242) (as := [.retAddr 8, .int (nI 4)]) (rest := [.ref 5]) (lv0 := [(0, .retAddr 8), (1, .int (nI 4))]) (Q1 := (fun z0 h' => z0 = some (.int (nI 32)) ∧ h' = HN (RT g T p 1 le li l) hl (RF (3, T, c, e)))) rfl rfl (K_chr8_4 _ _ ⟨rfl, rfl⟩) (fun r h' hr => ?_)
    obtain ⟨rfl, rfl⟩ := hr
    refine Ev.call (a := 58) (as := [.ref 5, .int (nI 32)]) (rest := []) (lv0 := [(0, .ref 5), (1, .int (nI 32))]) (Q1 := (fun z0 h' => z0 = none ∧ h' = HN (RT g T p 1 le li l) hl (RF (3, T, c, e)))) rfl rfl (K_exp1 _ _ _ _ _ _ hT hX p le li l _ ⟨rfl, rfl⟩) (fun r h' hr => ?_)
    obtain ⟨rfl, rfl⟩ := hr
    refine Ev.run 4 (pc' := 4) (lv' := [(2, .int (nI 5)), (0, .ref 5), (1, .retAddr 8)]) (st' := [.retAddr 8, .int (nI 5)]) (h' := HN (RT g T p 1 le li l) hl (RF (3, T, c, e))) rfl ?_
    refine Ev.call (a := 241) (as := [.retAddr 8]) (rest := [.int (nI 5)]) (lv0 := [(0, .retAddr 8)]) (Q1 := (fun z0 h' => z0 = some (.int (nI 5)) ∧ h' = HN (RT g T p 1 le li l) hl (RF (3, T, c, e)))) rfl rfl (K_len8 _ _ ⟨rfl, rfl⟩) (fun r h' hr => ?_)
    obtain ⟨rfl, rfl⟩ := hr
    refine Ev.run 1 (pc' := 25) (lv' := [(2, .int (nI 5)), (0, .ref 5), (1, .retAddr 8)]) (st' := []) (h' := HN (RT g T p 1 le li l) hl (RF (3, T, c, e))) rfl ?_
    refine Ev.ret (v := none) rfl ?_
    exact hq.2 _ (by  unfold exS; rw [if_neg hxt0])
section CS
variable {g : Nat → Nat → Nat}
theorem cl_k {p q1 q : Nat} {le l0 : List Nat} {b : Bool} (hk : pkS g p = 107) (h1 : exS g [107, 110, 111, 119, 32] p = (true, q1)) (h2 : eF g 101 q1 l0 [] true = (b, q, le)) : clS g p l0 = (b, q, le, 0, 0) := by
  have k0 : kdS g p = 0 := if_pos hk
  unfold clS
  rw [k0]
  have h1' : exS g (wdL 0 ++ [32]) p = (true, q1) := h1
  rw [h1', if_pos rfl, if_pos rfl, h2]
theorem cl_kx {p q : Nat} {l0 : List Nat} (hk : pkS g p = 107) (h1 : exS g [107, 110, 111, 119, 32] p = (false, q)) : clS g p l0 = (false, q, l0, 0, 0) := by
  have k0 : kdS g p = 0 := if_pos hk
  unfold clS
  rw [k0]
  have h1' : exS g (wdL 0 ++ [32]) p = (false, q) := h1
  rw [h1', if_neg (by exact Bool.false_ne_true)]
theorem kd_e {p : Nat} (h1 : ¬ pkS g p = 107) (h2 : ¬ pkS g (p + 1) = 105) : kdS g p = 1 := by
  unfold kdS
  rw [if_neg h1, if_neg h2]
theorem kd_i {p : Nat} (h1 : ¬ pkS g p = 107) (h2 : pkS g (p + 1) = 105) : kdS g p = 2 := by
  unfold kdS
  rw [if_neg h1, if_pos h2]
theorem cl_n {p k q1 : Nat} {l0 : List Nat} (h0 : k ≠ 0) (hk : kdS g p = k) (h1 : exS g (wdL k ++ [32]) p = (true, q1)) : clS g p l0 = if (nuS g q1).1 = true then (true, (nuS g q1).2.2, l0, k, (nuS g q1).2.1) else (false, q1, l0, k, 0) := by
  unfold clS
  rw [hk, h1, if_pos rfl, if_neg h0]
theorem cl_nx {p k q : Nat} {l0 : List Nat} (hk : kdS g p = k) (h1 : exS g (wdL k ++ [32]) p = (false, q)) : clS g p l0 = (false, q, l0, k, 0) := by
  unfold clS
  rw [hk, h1, if_neg (by exact Bool.false_ne_true)]
theorem ex_l {p : Nat} {cs : List Nat} {r : Bool × Nat} (h : pkS g p = 108) (h1 : exS g cs (p + 1) = r) : exS g (108 :: cs) p = r := by
  unfold exS
  rw [if_pos h]
  exact h1
theorem ex_ln {p : Nat} {cs : List Nat} (h : ¬ pkS g p = 108) : exS g (108 :: cs) p = (false, p) := by
  unfold exS
  rw [if_neg h]
/-- the words after l, as the class takes them -/
theorem ex_i {p q : Nat} {b : Bool} (h : ¬ pkS g p = 101) (h1 : exS g [105, 118, 101, 115, 32] p = (b, q)) : (pkS g p = 105 ∧ True) ∨ (¬ pkS g p = 105 ∧ b = false ∧ q = p ∧ exS g [101, 97, 115, 116, 32] p = (false, p)) := by
  by_cases e : pkS g p = 105
  · exact Or.inl ⟨e, trivial⟩
  · refine Or.inr ⟨e, ?_⟩
    unfold exS at h1
    rw [if_neg e] at h1
    injection h1 with a b
    refine ⟨a.symm, b.symm, ?_⟩
    unfold exS
    rw [if_neg h]
/-- a clause that the class reads as know: what it adds -/
def KKn (g : Nat → Nat → Nat) (p q : Nat) (lx : List Nat) : Prop := (∀ l0, clS g p l0 = (true, q, l0 ++ lx, 0, 0)) ∧ HB lx 0 1 11 ∧ SR lx ∧ lx.length + p + 5 ≤ q ∧ q ≤ g 166 17
def KNu (g : Nat → Nat → Nat) (p q k m : Nat) : Prop := (∀ l0, clS g p l0 = (true, q, l0, k, m)) ∧ p < q ∧ q ≤ g 166 17 ∧ m ≤ 99
def KFx (g : Nat → Nat → Nat) (p q : Nat) : Prop := (∀ l0, ∃ l2 k m, clS g p l0 = (false, q, l2, k, m)) ∧ p ≤ q ∧ q ≤ g 166 17
theorem KKn.mk {p q1 q : Nat} {o : Bool} {lc : List Nat} (hN : g 166 17 ≤ 100) (hk : pkS g p = 107) (h1 : exS g [107, 110, 111, 119, 32] p = (true, q1)) (h2 : EK g 0 q1 q o lc) (h3 : ¬ (pkS g q = 38 ∨ pkS g q = 124)) : KKn g p q (lc ++ oL o) := by
  have hb := h2.hb
  have e := ex_len h1
  have e : q1 = p + 5 := e
  have c := h2.2.2.1
  refine ⟨fun l0 => cl_k hk h1 (h2.top hN h3 l0), hb.1, hb.2, ?_, h2.2.1⟩
  rw [List.length_append]
  omega
theorem KFx.k {p q1 q : Nat} (hN : g 166 17 ≤ 100) (hp : p ≤ g 166 17) (hk : pkS g p = 107) (h1 : exS g [107, 110, 111, 119, 32] p = (true, q1)) (h2 : EX g 0 q1 q) : KFx g p q := by
  have e : q1 = p + 5 := ex_len h1
  refine ⟨fun l0 => ?_, by have := h2.1; omega, h2.2.1⟩
  obtain ⟨l', e2⟩ := h2.top hN l0
  exact ⟨l', 0, 0, cl_k hk h1 e2⟩
theorem KFx.kx {p q : Nat} (hp : p ≤ g 166 17) (hk : pkS g p = 107) (h1 : exS g [107, 110, 111, 119, 32] p = (false, q)) : KFx g p q := by
  have z := ex_le h1 hp (by decide)
  exact ⟨fun l0 => ⟨l0, 0, 0, cl_kx hk h1⟩, z.1, z.2⟩
theorem KFx.l {p : Nat} (hp : p ≤ g 166 17) (hk : ¬ pkS g p = 107) (h1 : ¬ pkS g p = 108) : KFx g p p := by
  refine ⟨fun l0 => ⟨l0, kdS g p, 0, cl_nx rfl ?_⟩, Nat.le_refl _, hp⟩
  by_cases e : pkS g (p + 1) = 105
  · rw [kd_i hk e]; exact ex_ln h1
  · rw [kd_e hk e]; exact ex_ln h1
theorem KNu.e {p q1 q m : Nat} (h1 : pkS g p = 108) (h2 : pkS g (p + 1) = 101) (h3 : exS g [101, 97, 115, 116, 32] (p + 1) = (true, q1)) (h4 : nuS g q1 = (true, m, q)) : KNu g p q 1 m := by
  have z := nuS_le h4
  have e : q1 = p + 1 + 5 := ex_len h3
  refine ⟨fun l0 => ?_, by omega, z.2.2, z.1⟩
  rw [cl_n (by decide) (kd_e (by omega) (by omega)) (ex_l h1 h3), h4, if_pos rfl]
theorem KFx.e {p q1 q m : Nat} (hp : p ≤ g 166 17) (h1 : pkS g p = 108) (h2 : pkS g (p + 1) = 101) (h3 : exS g [101, 97, 115, 116, 32] (p + 1) = (true, q1)) (h4 : nuS g q1 = (false, m, q)) (h5 : q1 ≤ g 166 17) : KFx g p q1 := by
  have e : q1 = p + 1 + 5 := ex_len h3
  refine ⟨fun l0 => ⟨l0, 1, 0, ?_⟩, by omega, h5⟩
  rw [cl_n (by decide) (kd_e (by omega) (by omega)) (ex_l h1 h3), h4, if_neg (by exact Bool.false_ne_true)]
theorem KFx.ex {p q : Nat} (hp : p < g 166 17) (h1 : pkS g p = 108) (h2 : pkS g (p + 1) = 101) (h3 : exS g [101, 97, 115, 116, 32] (p + 1) = (false, q)) : KFx g p q := by
  have z := ex_le h3 hp (by decide)
  exact ⟨fun l0 => ⟨l0, 1, 0, cl_nx (kd_e (by omega) (by omega)) (ex_l h1 h3)⟩, by omega, z.2⟩
theorem KNu.i {p q1 q m : Nat} (h1 : pkS g p = 108) (h2 : ¬ pkS g (p + 1) = 101) (h3 : exS g [105, 118, 101, 115, 32] (p + 1) = (true, q1)) (h4 : nuS g q1 = (true, m, q)) : KNu g p q 2 m := by
  have z := nuS_le h4
  have e : q1 = p + 1 + 5 := ex_len h3
  rcases ex_i h2 h3 with w | w
  · refine ⟨fun l0 => ?_, by omega, z.2.2, z.1⟩
    rw [cl_n (by decide) (kd_i (by omega) w.1) (ex_l h1 h3), h4, if_pos rfl]
  · exact absurd w.2.1 (by decide)
theorem KFx.i {p q1 q m : Nat} (hp : p ≤ g 166 17) (h1 : pkS g p = 108) (h2 : ¬ pkS g (p + 1) = 101) (h3 : exS g [105, 118, 101, 115, 32] (p + 1) = (true, q1)) (h4 : nuS g q1 = (false, m, q)) (h5 : q1 ≤ g 166 17) : KFx g p q1 := by
  have e : q1 = p + 1 + 5 := ex_len h3
  rcases ex_i h2 h3 with w | w
  · refine ⟨fun l0 => ⟨l0, 2, 0, ?_⟩, by omega, h5⟩
    rw [cl_n (by decide) (kd_i (by omega) w.1) (ex_l h1 h3), h4, if_neg (by exact Bool.false_ne_true)]
  · exact absurd w.2.1 (by decide)
theorem KFx.ix {p q : Nat} (hp : p < g 166 17) (h1 : pkS g p = 108) (h2 : ¬ pkS g (p + 1) = 101) (h3 : exS g [105, 118, 101, 115, 32] (p + 1) = (false, q)) : KFx g p q := by
  have z := ex_le h3 hp (by decide)
  rcases ex_i h2 h3 with w | w
  · exact ⟨fun l0 => ⟨l0, 2, 0, cl_nx (kd_i (by omega) w.1) (ex_l h1 h3)⟩, by omega, z.2⟩
  · obtain ⟨w1, _, rfl, w3⟩ := w
    exact ⟨fun l0 => ⟨l0, 1, 0, cl_nx (kd_e (by omega) w1) (ex_l h1 w3)⟩, by omega, z.2⟩
end CS
theorem K_clause {L : Nat} {xs : Nat → Int32} (d : Nat) (g : Nat → Nat → Nat) (hl : Nat → Nat → Int64) (T c e : Nat) (hT : TbT T) (hX : TX g) (p le li : Nat) (l : List Nat) (hp : p ≤ g 166 17) (hlp : l.length ≤ p) {Q : Po} (hq : (∀ q lx, KKn g p q lx → (l.length = 0 → Q none (HN (RT g T q 0 le li (l ++ lx)) hl (RF (3, T, c, e)))) ∧ (¬ l.length = 0 → Q none (HN (RT g T q 0 le li (plT (l ++ lx) 4294967172)) hl (RF (3, T, c, e))))) ∧ (∀ q m, KNu g p q 1 m → Q none (HN (RT g T q 0 m li l) hl (RF (3, T, c, e)))) ∧ (∀ q m, KNu g p q 2 m → Q none (HN (RT g T q 0 le m l) hl (RF (3, T, c, e)))) ∧ (∀ q le' li' l', KFx g p q → l'.length ≤ 100 → Q none (HN (RT g T q 1 le' li' l') hl (RF (3, T, c, e))))) : Ev L xs (d + 17) 52 0 [(0, .ref 5)] [] (HN (RT g T p 0 le li l) hl (RF (3, T, c, e))) Q := by
  have hN := hX.1
  have hnx := nx_le hX p
  have hnx1 := nx_le hX (p + 1)
  refine Ev.run 1 (pc' := 1) (lv' := [(0, .ref 5)]) (st' := [.ref 5]) (h' := HN (RT g T p 0 le li l) hl (RF (3, T, c, e))) rfl ?_
  refine Ev.call (a := 59) (as := [.ref 5]) (rest := []) (lv0 := [(0, .ref 5)]) (Q1 := (fun z0 h' => z0 = some (.int (nI (nxC g p))) ∧ h' = HN (RT g T p 0 le li l) hl (RF (3, T, c, e)))) rfl rfl (K_next _ _ _ _ _ _ hT hX p _ _ l 0 (by omega) ⟨rfl, rfl⟩) (fun r h' hr => ?_)
  obtain ⟨rfl, rfl⟩ := hr
  refine Ev.run 2 (pc' := (if nI (nxC g p) = nI 107 then 9 else 50)) (lv' := [(0, .ref 5)]) (st' := []) (h' := HN (RT g T p 0 le li l) hl (RF (3, T, c, e))) rfl ?_
  refine Ev.ite (fun hc6 => ?_) (fun hc6 => ?_)
  · have hc6 : (nxC g p) = 107 := (nI_eqU (by omega) (by omega)).mp hc6
    refine Ev.run 2 (pc' := 13) (lv' := [(0, .ref 5)]) (st' := [.ref T]) (h' := HN (RT g T p 0 le li l) hl (RF (3, T, c, e))) rfl ?_
    refine Ev_gfI rfl rfl rfl hT.1 ?_
    refine Ev.topI (congrArg nI (RT_n _ _ _ _ _ _ hT)) ?_
    refine Ev.run 1 (pc' := (if nI l.length = 0 then 19 else 23)) (lv' := [(0, .ref 5)]) (st' := []) (h' := HN (RT g T p 0 le li l) hl (RF (3, T, c, e))) rfl ?_
    refine Ev.ite (fun hc16 => ?_) (fun hc16 => ?_)
    · have hc16 : l.length = 0 := (nI_eqU0 (by omega)).mp hc16
      refine Ev.run 5 (pc' := 28) (lv' := [(1, .int (nI 1)), (0, .ref 5)]) (st' := [.retAddr 3, .ref 5]) (h' := HN (RT g T p 0 le li l) hl (RF (3, T, c, e))) rfl ?_
      refine Ev.call (a := 57) (as := [.ref 5, .retAddr 3]) (rest := []) (lv0 := [(0, .ref 5), (1, .retAddr 3)]) (Q1 := (fun z0 h' => (∃ q, exS g [107, 110, 111, 119, 32] p = (true, q) ∧ z0 = none ∧ h' = HN (RT g T q 0 le li l) hl (RF (3, T, c, e))) ∨ (∃ q, exS g [107, 110, 111, 119, 32] p = (false, q) ∧ z0 = none ∧ h' = HN (RT g T q 1 le li l) hl (RF (3, T, c, e))))) rfl rfl (K_all0_3 _ _ _ _ _ _ hT hX p le li l (by omega) ⟨fun q hz => Or.inl ⟨q, hz, rfl, rfl⟩, fun q hz => Or.inr ⟨q, hz, rfl, rfl⟩⟩) (fun r h' hr => ?_)
      rcases hr with ⟨qk, hzk, rfl, rfl⟩ | ⟨qk, hzk, rfl, rfl⟩
      · skip
        have hqk := ex_le hzk (by omega) (by decide)
        have hq5k : qk = p + 5 := ex_len hzk
        refine Ev.run 2 (pc' := 33) (lv' := [(1, .int (nI 1)), (0, .ref 5)]) (st' := [.int (nI 0), .ref 5]) (h' := HN (RT g T qk 0 le li l) hl (RF (3, T, c, e))) rfl ?_
        refine Ev.call (a := 53) (as := [.ref 5, .int (nI 0)]) (rest := []) (lv0 := [(0, .ref 5), (1, .int (nI 0))]) (Q1 := (fun z0 h' => (∃ (q : Nat) (o : Bool) (lc : List Nat), EK g 0 qk q o lc ∧ ¬ (pkS g q = 38 ∨ pkS g q = 124) ∧ z0 = none ∧ h' = HN (RT g T q 0 le li (l ++ (lc ++ oL o))) hl (RF (3, T, c, e))) ∨ (∃ (q : Nat) (l' : List Nat), EX g 0 qk q ∧ l'.length ≤ 100 ∧ z0 = none ∧ h' = HN (RT g T q 1 le li l') hl (RF (3, T, c, e))))) rfl rfl (K_exp0_ _ _ _ _ _ _ hT hX qk le li l (by first | omega | exact nx_lt (by omega)) (by omega) ⟨fun q o lc hz hz3 => Or.inl ⟨q, o, lc, hz, hz3, rfl, rfl⟩, fun q l' hz hz2 => Or.inr ⟨q, l', hz, hz2, rfl, rfl⟩⟩) (fun r h' hr => ?_)
        rcases hr with ⟨qc, oc, lcc, hFc, hGc, rfl, rfl⟩ | ⟨qc, lc, hFc, hlc, rfl, rfl⟩
        · skip
          have hF1c := hFc.1
          have hF2c := hFc.2.1
          have hF3c := hFc.2.2.1
          refine Ev.run 2 (pc' := 49) (lv' := [(1, .int (nI 1)), (0, .ref 5)]) (st' := []) (h' := HN (RT g T qc 0 le li (l ++ (lcc ++ oL oc))) hl (RF (3, T, c, e))) rfl ?_
          refine Ev.ret (v := none) rfl ?_
          first
            | exact (hq.1 _ _ (KKn.mk hN (pk_nx (by decide) (by decide) hc6) hzk hFc hGc)).1 hc16
            | exact (hq.1 _ _ (KKn.mk hN (pk_nx (by decide) (by decide) hc6) hzk hFc hGc)).2 hc16
            | exact hq.2.2.2 _ _ _ _ (KFx.k hN hp (pk_nx (by decide) (by decide) hc6) hzk hFc) (by first | omega | assumption | exact plT_le _ (by assumption) | exact plT_le _ (by omega))
            | exact hq.2.2.2 _ _ _ _ (KFx.kx hp (pk_nx (by decide) (by decide) hc6) hzk) (by first | omega | assumption | exact plT_le _ (by assumption) | exact plT_le _ (by omega))
            | exact hq.2.2.2 _ _ _ _ (KFx.l hp (pk_nn (by decide) (by decide) hc6) hxl) (by first | omega | assumption | exact plT_le _ (by assumption) | exact plT_le _ (by omega))
            | exact hq.2.1 _ _ (KNu.e hxl (pk_nx (by decide) (by decide) hc62) hze hzm)
            | exact hq.2.2.2 _ _ _ _ (KFx.e hp hxl (pk_nx (by decide) (by decide) hc62) hze hzm hqe.2) (by first | omega | assumption | exact plT_le _ (by assumption) | exact plT_le _ (by omega))
            | exact hq.2.2.2 _ _ _ _ (KFx.ex (pkS_lt (by rw [hxl]; decide)) hxl (pk_nx (by decide) (by decide) hc62) hze) (by first | omega | assumption | exact plT_le _ (by assumption) | exact plT_le _ (by omega))
            | exact hq.2.2.1 _ _ (KNu.i hxl (pk_nn (by decide) (by decide) hc62) hzi hzm)
            | exact hq.2.2.2 _ _ _ _ (KFx.i hp hxl (pk_nn (by decide) (by decide) hc62) hzi hzm hqi.2) (by first | omega | assumption | exact plT_le _ (by assumption) | exact plT_le _ (by omega))
            | exact hq.2.2.2 _ _ _ _ (KFx.ix (pkS_lt (by rw [hxl]; decide)) hxl (pk_nn (by decide) (by decide) hc62) hzi) (by first | omega | assumption | exact plT_le _ (by assumption) | exact plT_le _ (by omega))
        · skip
          have hF2c := hFc.2.1
          refine Ev.run 2 (pc' := 49) (lv' := [(1, .int (nI 1)), (0, .ref 5)]) (st' := []) (h' := HN (RT g T qc 1 le li lc) hl (RF (3, T, c, e))) rfl ?_
          refine Ev.ret (v := none) rfl ?_
          first
            | exact (hq.1 _ _ (KKn.mk hN (pk_nx (by decide) (by decide) hc6) hzk hFc hGc)).1 hc16
            | exact (hq.1 _ _ (KKn.mk hN (pk_nx (by decide) (by decide) hc6) hzk hFc hGc)).2 hc16
            | exact hq.2.2.2 _ _ _ _ (KFx.k hN hp (pk_nx (by decide) (by decide) hc6) hzk hFc) (by first | omega | assumption | exact plT_le _ (by assumption) | exact plT_le _ (by omega))
            | exact hq.2.2.2 _ _ _ _ (KFx.kx hp (pk_nx (by decide) (by decide) hc6) hzk) (by first | omega | assumption | exact plT_le _ (by assumption) | exact plT_le _ (by omega))
            | exact hq.2.2.2 _ _ _ _ (KFx.l hp (pk_nn (by decide) (by decide) hc6) hxl) (by first | omega | assumption | exact plT_le _ (by assumption) | exact plT_le _ (by omega))
            | exact hq.2.1 _ _ (KNu.e hxl (pk_nx (by decide) (by decide) hc62) hze hzm)
            | exact hq.2.2.2 _ _ _ _ (KFx.e hp hxl (pk_nx (by decide) (by decide) hc62) hze hzm hqe.2) (by first | omega | assumption | exact plT_le _ (by assumption) | exact plT_le _ (by omega))
            | exact hq.2.2.2 _ _ _ _ (KFx.ex (pkS_lt (by rw [hxl]; decide)) hxl (pk_nx (by decide) (by decide) hc62) hze) (by first | omega | assumption | exact plT_le _ (by assumption) | exact plT_le _ (by omega))
            | exact hq.2.2.1 _ _ (KNu.i hxl (pk_nn (by decide) (by decide) hc62) hzi hzm)
            | exact hq.2.2.2 _ _ _ _ (KFx.i hp hxl (pk_nn (by decide) (by decide) hc62) hzi hzm hqi.2) (by first | omega | assumption | exact plT_le _ (by assumption) | exact plT_le _ (by omega))
            | exact hq.2.2.2 _ _ _ _ (KFx.ix (pkS_lt (by rw [hxl]; decide)) hxl (pk_nn (by decide) (by decide) hc62) hzi) (by first | omega | assumption | exact plT_le _ (by assumption) | exact plT_le _ (by omega))
      · skip
        have hqk := ex_le hzk (by omega) (by decide)
        refine Ev.run 2 (pc' := 33) (lv' := [(1, .int (nI 1)), (0, .ref 5)]) (st' := [.int (nI 0), .ref 5]) (h' := HN (RT g T qk 1 le li l) hl (RF (3, T, c, e))) rfl ?_
        refine Ev.call (a := 53) (as := [.ref 5, .int (nI 0)]) (rest := []) (lv0 := [(0, .ref 5), (1, .int (nI 0))]) (Q1 := (fun z0 h' => z0 = none ∧ ∃ l' : List Nat, l'.length ≤ 100 ∧ h' = HN (RT g T qk 1 le li l') hl (RF (3, T, c, e)))) rfl rfl (K_exp1f _ _ _ _ _ _ hT hX qk le li l 0 (by decide) (by first | omega | assumption) (fun l' hl' => ⟨rfl, l', hl', rfl⟩)) (fun r h' hr => ?_)
        obtain ⟨rfl, lx, hlx, rfl⟩ := hr
        refine Ev.run 2 (pc' := 49) (lv' := [(1, .int (nI 1)), (0, .ref 5)]) (st' := []) (h' := HN (RT g T qk 1 le li lx) hl (RF (3, T, c, e))) rfl ?_
        refine Ev.ret (v := none) rfl ?_
        first
          | exact (hq.1 _ _ (KKn.mk hN (pk_nx (by decide) (by decide) hc6) hzk hFc hGc)).1 hc16
          | exact (hq.1 _ _ (KKn.mk hN (pk_nx (by decide) (by decide) hc6) hzk hFc hGc)).2 hc16
          | exact hq.2.2.2 _ _ _ _ (KFx.k hN hp (pk_nx (by decide) (by decide) hc6) hzk hFc) (by first | omega | assumption | exact plT_le _ (by assumption) | exact plT_le _ (by omega))
          | exact hq.2.2.2 _ _ _ _ (KFx.kx hp (pk_nx (by decide) (by decide) hc6) hzk) (by first | omega | assumption | exact plT_le _ (by assumption) | exact plT_le _ (by omega))
          | exact hq.2.2.2 _ _ _ _ (KFx.l hp (pk_nn (by decide) (by decide) hc6) hxl) (by first | omega | assumption | exact plT_le _ (by assumption) | exact plT_le _ (by omega))
          | exact hq.2.1 _ _ (KNu.e hxl (pk_nx (by decide) (by decide) hc62) hze hzm)
          | exact hq.2.2.2 _ _ _ _ (KFx.e hp hxl (pk_nx (by decide) (by decide) hc62) hze hzm hqe.2) (by first | omega | assumption | exact plT_le _ (by assumption) | exact plT_le _ (by omega))
          | exact hq.2.2.2 _ _ _ _ (KFx.ex (pkS_lt (by rw [hxl]; decide)) hxl (pk_nx (by decide) (by decide) hc62) hze) (by first | omega | assumption | exact plT_le _ (by assumption) | exact plT_le _ (by omega))
          | exact hq.2.2.1 _ _ (KNu.i hxl (pk_nn (by decide) (by decide) hc62) hzi hzm)
          | exact hq.2.2.2 _ _ _ _ (KFx.i hp hxl (pk_nn (by decide) (by decide) hc62) hzi hzm hqi.2) (by first | omega | assumption | exact plT_le _ (by assumption) | exact plT_le _ (by omega))
          | exact hq.2.2.2 _ _ _ _ (KFx.ix (pkS_lt (by rw [hxl]; decide)) hxl (pk_nn (by decide) (by decide) hc62) hzi) (by first | omega | assumption | exact plT_le _ (by assumption) | exact plT_le _ (by omega))
    · have hc16 : ¬ (l.length = 0) := fun z => hc16 ((nI_eqU0 (by omega)).mpr z)
      refine Ev.run 4 (pc' := 28) (lv' := [(1, .int (nI 0)), (0, .ref 5)]) (st' := [.retAddr 3, .ref 5]) (h' := HN (RT g T p 0 le li l) hl (RF (3, T, c, e))) rfl ?_
      refine Ev.call (a := 57) (as := [.ref 5, .retAddr 3]) (rest := []) (lv0 := [(0, .ref 5), (1, .retAddr 3)]) (Q1 := (fun z0 h' => (∃ q, exS g [107, 110, 111, 119, 32] p = (true, q) ∧ z0 = none ∧ h' = HN (RT g T q 0 le li l) hl (RF (3, T, c, e))) ∨ (∃ q, exS g [107, 110, 111, 119, 32] p = (false, q) ∧ z0 = none ∧ h' = HN (RT g T q 1 le li l) hl (RF (3, T, c, e))))) rfl rfl (K_all0_3 _ _ _ _ _ _ hT hX p le li l (by omega) ⟨fun q hz => Or.inl ⟨q, hz, rfl, rfl⟩, fun q hz => Or.inr ⟨q, hz, rfl, rfl⟩⟩) (fun r h' hr => ?_)
      rcases hr with ⟨qk, hzk, rfl, rfl⟩ | ⟨qk, hzk, rfl, rfl⟩
      · skip
        have hqk := ex_le hzk (by omega) (by decide)
        have hq5k : qk = p + 5 := ex_len hzk
        refine Ev.run 2 (pc' := 33) (lv' := [(1, .int (nI 0)), (0, .ref 5)]) (st' := [.int (nI 0), .ref 5]) (h' := HN (RT g T qk 0 le li l) hl (RF (3, T, c, e))) rfl ?_
        refine Ev.call (a := 53) (as := [.ref 5, .int (nI 0)]) (rest := []) (lv0 := [(0, .ref 5), (1, .int (nI 0))]) (Q1 := (fun z0 h' => (∃ (q : Nat) (o : Bool) (lc : List Nat), EK g 0 qk q o lc ∧ ¬ (pkS g q = 38 ∨ pkS g q = 124) ∧ z0 = none ∧ h' = HN (RT g T q 0 le li (l ++ (lc ++ oL o))) hl (RF (3, T, c, e))) ∨ (∃ (q : Nat) (l' : List Nat), EX g 0 qk q ∧ l'.length ≤ 100 ∧ z0 = none ∧ h' = HN (RT g T q 1 le li l') hl (RF (3, T, c, e))))) rfl rfl (K_exp0_ _ _ _ _ _ _ hT hX qk le li l (by first | omega | exact nx_lt (by omega)) (by omega) ⟨fun q o lc hz hz3 => Or.inl ⟨q, o, lc, hz, hz3, rfl, rfl⟩, fun q l' hz hz2 => Or.inr ⟨q, l', hz, hz2, rfl, rfl⟩⟩) (fun r h' hr => ?_)
        rcases hr with ⟨qc, oc, lcc, hFc, hGc, rfl, rfl⟩ | ⟨qc, lc, hFc, hlc, rfl, rfl⟩
        · skip
          have hF1c := hFc.1
          have hF2c := hFc.2.1
          have hF3c := hFc.2.2.1
          refine Ev.run 5 (pc' := 46) (lv' := [(1, .int (nI 0)), (0, .ref 5)]) (st' := [.int (nI 4294967294), .ref T]) (h' := HN (RT g T qc 0 le li (l ++ (lcc ++ oL oc))) hl (RF (3, T, c, e))) rfl ?_
          refine Ev_callV (a := 65) (as := [.ref T, .int (nI 4294967294)]) (rest := []) (lv0 := [(0, .ref T), (1, .int (nI 4294967294))]) (Q1 := (fun z0 h' => z0 = none ∧ h' = HN (RT g T qc 0 le li (plT (l ++ (lcc ++ oL oc)) 4294967172)) hl (RF (3, T, c, e)))) rfl rfl rfl rfl rfl hT.1.k rfl rfl rfl (K_tput _ _ _ _ _ _ hT hX qc le li (l ++ (lcc ++ oL oc)) 0 4294967294 4294967172 rfl (by first | omega | assumption | (rw [List.length_append, List.length_append]; omega)) ⟨rfl, rfl⟩) (fun r h' hr => ?_)
          obtain ⟨rfl, rfl⟩ := hr
          refine Ev.ret (v := none) rfl ?_
          first
            | exact (hq.1 _ _ (KKn.mk hN (pk_nx (by decide) (by decide) hc6) hzk hFc hGc)).1 hc16
            | exact (hq.1 _ _ (KKn.mk hN (pk_nx (by decide) (by decide) hc6) hzk hFc hGc)).2 hc16
            | exact hq.2.2.2 _ _ _ _ (KFx.k hN hp (pk_nx (by decide) (by decide) hc6) hzk hFc) (by first | omega | assumption | exact plT_le _ (by assumption) | exact plT_le _ (by omega))
            | exact hq.2.2.2 _ _ _ _ (KFx.kx hp (pk_nx (by decide) (by decide) hc6) hzk) (by first | omega | assumption | exact plT_le _ (by assumption) | exact plT_le _ (by omega))
            | exact hq.2.2.2 _ _ _ _ (KFx.l hp (pk_nn (by decide) (by decide) hc6) hxl) (by first | omega | assumption | exact plT_le _ (by assumption) | exact plT_le _ (by omega))
            | exact hq.2.1 _ _ (KNu.e hxl (pk_nx (by decide) (by decide) hc62) hze hzm)
            | exact hq.2.2.2 _ _ _ _ (KFx.e hp hxl (pk_nx (by decide) (by decide) hc62) hze hzm hqe.2) (by first | omega | assumption | exact plT_le _ (by assumption) | exact plT_le _ (by omega))
            | exact hq.2.2.2 _ _ _ _ (KFx.ex (pkS_lt (by rw [hxl]; decide)) hxl (pk_nx (by decide) (by decide) hc62) hze) (by first | omega | assumption | exact plT_le _ (by assumption) | exact plT_le _ (by omega))
            | exact hq.2.2.1 _ _ (KNu.i hxl (pk_nn (by decide) (by decide) hc62) hzi hzm)
            | exact hq.2.2.2 _ _ _ _ (KFx.i hp hxl (pk_nn (by decide) (by decide) hc62) hzi hzm hqi.2) (by first | omega | assumption | exact plT_le _ (by assumption) | exact plT_le _ (by omega))
            | exact hq.2.2.2 _ _ _ _ (KFx.ix (pkS_lt (by rw [hxl]; decide)) hxl (pk_nn (by decide) (by decide) hc62) hzi) (by first | omega | assumption | exact plT_le _ (by assumption) | exact plT_le _ (by omega))
        · skip
          have hF2c := hFc.2.1
          refine Ev.run 5 (pc' := 46) (lv' := [(1, .int (nI 0)), (0, .ref 5)]) (st' := [.int (nI 4294967294), .ref T]) (h' := HN (RT g T qc 1 le li lc) hl (RF (3, T, c, e))) rfl ?_
          refine Ev_callV (a := 65) (as := [.ref T, .int (nI 4294967294)]) (rest := []) (lv0 := [(0, .ref T), (1, .int (nI 4294967294))]) (Q1 := (fun z0 h' => z0 = none ∧ h' = HN (RT g T qc 1 le li (plT lc 4294967172)) hl (RF (3, T, c, e)))) rfl rfl rfl rfl rfl hT.1.k rfl rfl rfl (K_tput _ _ _ _ _ _ hT hX qc le li lc 1 4294967294 4294967172 rfl (by first | omega | assumption | (rw [List.length_append, List.length_append]; omega)) ⟨rfl, rfl⟩) (fun r h' hr => ?_)
          obtain ⟨rfl, rfl⟩ := hr
          refine Ev.ret (v := none) rfl ?_
          first
            | exact (hq.1 _ _ (KKn.mk hN (pk_nx (by decide) (by decide) hc6) hzk hFc hGc)).1 hc16
            | exact (hq.1 _ _ (KKn.mk hN (pk_nx (by decide) (by decide) hc6) hzk hFc hGc)).2 hc16
            | exact hq.2.2.2 _ _ _ _ (KFx.k hN hp (pk_nx (by decide) (by decide) hc6) hzk hFc) (by first | omega | assumption | exact plT_le _ (by assumption) | exact plT_le _ (by omega))
            | exact hq.2.2.2 _ _ _ _ (KFx.kx hp (pk_nx (by decide) (by decide) hc6) hzk) (by first | omega | assumption | exact plT_le _ (by assumption) | exact plT_le _ (by omega))
            | exact hq.2.2.2 _ _ _ _ (KFx.l hp (pk_nn (by decide) (by decide) hc6) hxl) (by first | omega | assumption | exact plT_le _ (by assumption) | exact plT_le _ (by omega))
            | exact hq.2.1 _ _ (KNu.e hxl (pk_nx (by decide) (by decide) hc62) hze hzm)
            | exact hq.2.2.2 _ _ _ _ (KFx.e hp hxl (pk_nx (by decide) (by decide) hc62) hze hzm hqe.2) (by first | omega | assumption | exact plT_le _ (by assumption) | exact plT_le _ (by omega))
            | exact hq.2.2.2 _ _ _ _ (KFx.ex (pkS_lt (by rw [hxl]; decide)) hxl (pk_nx (by decide) (by decide) hc62) hze) (by first | omega | assumption | exact plT_le _ (by assumption) | exact plT_le _ (by omega))
            | exact hq.2.2.1 _ _ (KNu.i hxl (pk_nn (by decide) (by decide) hc62) hzi hzm)
            | exact hq.2.2.2 _ _ _ _ (KFx.i hp hxl (pk_nn (by decide) (by decide) hc62) hzi hzm hqi.2) (by first | omega | assumption | exact plT_le _ (by assumption) | exact plT_le _ (by omega))
            | exact hq.2.2.2 _ _ _ _ (KFx.ix (pkS_lt (by rw [hxl]; decide)) hxl (pk_nn (by decide) (by decide) hc62) hzi) (by first | omega | assumption | exact plT_le _ (by assumption) | exact plT_le _ (by omega))
      · skip
        have hqk := ex_le hzk (by omega) (by decide)
        refine Ev.run 2 (pc' := 33) (lv' := [(1, .int (nI 0)), (0, .ref 5)]) (st' := [.int (nI 0), .ref 5]) (h' := HN (RT g T qk 1 le li l) hl (RF (3, T, c, e))) rfl ?_
        refine Ev.call (a := 53) (as := [.ref 5, .int (nI 0)]) (rest := []) (lv0 := [(0, .ref 5), (1, .int (nI 0))]) (Q1 := (fun z0 h' => z0 = none ∧ ∃ l' : List Nat, l'.length ≤ 100 ∧ h' = HN (RT g T qk 1 le li l') hl (RF (3, T, c, e)))) rfl rfl (K_exp1f _ _ _ _ _ _ hT hX qk le li l 0 (by decide) (by first | omega | assumption) (fun l' hl' => ⟨rfl, l', hl', rfl⟩)) (fun r h' hr => ?_)
        obtain ⟨rfl, lx, hlx, rfl⟩ := hr
        refine Ev.run 5 (pc' := 46) (lv' := [(1, .int (nI 0)), (0, .ref 5)]) (st' := [.int (nI 4294967294), .ref T]) (h' := HN (RT g T qk 1 le li lx) hl (RF (3, T, c, e))) rfl ?_
        refine Ev_callV (a := 65) (as := [.ref T, .int (nI 4294967294)]) (rest := []) (lv0 := [(0, .ref T), (1, .int (nI 4294967294))]) (Q1 := (fun z0 h' => z0 = none ∧ h' = HN (RT g T qk 1 le li (plT lx 4294967172)) hl (RF (3, T, c, e)))) rfl rfl rfl rfl rfl hT.1.k rfl rfl rfl (K_tput _ _ _ _ _ _ hT hX qk le li lx 1 4294967294 4294967172 rfl (by first | omega | assumption | (rw [List.length_append, List.length_append]; omega)) ⟨rfl, rfl⟩) (fun r h' hr => ?_)
        obtain ⟨rfl, rfl⟩ := hr
        refine Ev.ret (v := none) rfl ?_
        first
          | exact (hq.1 _ _ (KKn.mk hN (pk_nx (by decide) (by decide) hc6) hzk hFc hGc)).1 hc16
          | exact (hq.1 _ _ (KKn.mk hN (pk_nx (by decide) (by decide) hc6) hzk hFc hGc)).2 hc16
          | exact hq.2.2.2 _ _ _ _ (KFx.k hN hp (pk_nx (by decide) (by decide) hc6) hzk hFc) (by first | omega | assumption | exact plT_le _ (by assumption) | exact plT_le _ (by omega))
          | exact hq.2.2.2 _ _ _ _ (KFx.kx hp (pk_nx (by decide) (by decide) hc6) hzk) (by first | omega | assumption | exact plT_le _ (by assumption) | exact plT_le _ (by omega))
          | exact hq.2.2.2 _ _ _ _ (KFx.l hp (pk_nn (by decide) (by decide) hc6) hxl) (by first | omega | assumption | exact plT_le _ (by assumption) | exact plT_le _ (by omega))
          | exact hq.2.1 _ _ (KNu.e hxl (pk_nx (by decide) (by decide) hc62) hze hzm)
          | exact hq.2.2.2 _ _ _ _ (KFx.e hp hxl (pk_nx (by decide) (by decide) hc62) hze hzm hqe.2) (by first | omega | assumption | exact plT_le _ (by assumption) | exact plT_le _ (by omega))
          | exact hq.2.2.2 _ _ _ _ (KFx.ex (pkS_lt (by rw [hxl]; decide)) hxl (pk_nx (by decide) (by decide) hc62) hze) (by first | omega | assumption | exact plT_le _ (by assumption) | exact plT_le _ (by omega))
          | exact hq.2.2.1 _ _ (KNu.i hxl (pk_nn (by decide) (by decide) hc62) hzi hzm)
          | exact hq.2.2.2 _ _ _ _ (KFx.i hp hxl (pk_nn (by decide) (by decide) hc62) hzi hzm hqi.2) (by first | omega | assumption | exact plT_le _ (by assumption) | exact plT_le _ (by omega))
          | exact hq.2.2.2 _ _ _ _ (KFx.ix (pkS_lt (by rw [hxl]; decide)) hxl (pk_nn (by decide) (by decide) hc62) hzi) (by first | omega | assumption | exact plT_le _ (by assumption) | exact plT_le _ (by omega))
  · have hc6 : ¬ ((nxC g p) = 107) := fun z => hc6 ((nI_eqU (by omega) (by omega)).mpr z)
    refine Ev.run 2 (pc' := 53) (lv' := [(0, .ref 5)]) (st' := [.int (nI 108), .ref 5]) (h' := HN (RT g T p 0 le li l) hl (RF (3, T, c, e))) rfl ?_
    refine Ev.call (a := 58) (as := [.ref 5, .int (nI 108)]) (rest := []) (lv0 := [(0, .ref 5), (1, .int (nI 108))]) (Q1 := (fun z0 h' => (pkS g p = 108 ∧ z0 = none ∧ h' = HN (RT g T (p + 1) 0 le li l) hl (RF (3, T, c, e))) ∨ (¬ pkS g p = 108 ∧ z0 = none ∧ h' = HN (RT g T p 1 le li l) hl (RF (3, T, c, e))))) rfl rfl (K_exp0 _ _ _ _ _ _ hT hX p le li l 108 (by omega) (by decide) (by decide) ⟨fun hz => Or.inl ⟨hz, rfl, rfl⟩, fun hz => Or.inr ⟨hz, rfl, rfl⟩⟩) (fun r h' hr => ?_)
    rcases hr with ⟨hxl, rfl, rfl⟩ | ⟨hxl, rfl, rfl⟩
    · skip
      have hplt : p < g 166 17 := pkS_lt (by rw [hxl]; decide)
      refine Ev.run 1 (pc' := 57) (lv' := [(0, .ref 5)]) (st' := [.ref 5]) (h' := HN (RT g T (p + 1) 0 le li l) hl (RF (3, T, c, e))) rfl ?_
      refine Ev.call (a := 59) (as := [.ref 5]) (rest := []) (lv0 := [(0, .ref 5)]) (Q1 := (fun z0 h' => z0 = some (.int (nI (nxC g (p + 1)))) ∧ h' = HN (RT g T (p + 1) 0 le li l) hl (RF (3, T, c, e)))) rfl rfl (K_next _ _ _ _ _ _ hT hX (p + 1) _ _ l 0 (by omega) ⟨rfl, rfl⟩) (fun r h' hr => ?_)
      obtain ⟨rfl, rfl⟩ := hr
      refine Ev.run 2 (pc' := (if nI (nxC g (p + 1)) = nI 101 then 65 else 85)) (lv' := [(0, .ref 5)]) (st' := []) (h' := HN (RT g T (p + 1) 0 le li l) hl (RF (3, T, c, e))) rfl ?_
      refine Ev.ite (fun hc62 => ?_) (fun hc62 => ?_)
      · have hc62 : (nxC g (p + 1)) = 101 := (nI_eqU (by omega) (by omega)).mp hc62
        refine Ev.run 2 (pc' := 68) (lv' := [(0, .ref 5)]) (st' := [.retAddr 7, .ref 5]) (h' := HN (RT g T (p + 1) 0 le li l) hl (RF (3, T, c, e))) rfl ?_
        refine Ev.call (a := 57) (as := [.ref 5, .retAddr 7]) (rest := []) (lv0 := [(0, .ref 5), (1, .retAddr 7)]) (Q1 := (fun z0 h' => (∃ q, exS g [101, 97, 115, 116, 32] (p + 1) = (true, q) ∧ z0 = none ∧ h' = HN (RT g T q 0 le li l) hl (RF (3, T, c, e))) ∨ (∃ q, exS g [101, 97, 115, 116, 32] (p + 1) = (false, q) ∧ z0 = none ∧ h' = HN (RT g T q 1 le li l) hl (RF (3, T, c, e))))) rfl rfl (K_all0_7 _ _ _ _ _ _ hT hX (p + 1) le li l (by omega) ⟨fun q hz => Or.inl ⟨q, hz, rfl, rfl⟩, fun q hz => Or.inr ⟨q, hz, rfl, rfl⟩⟩) (fun r h' hr => ?_)
        rcases hr with ⟨qe, hze, rfl, rfl⟩ | ⟨qe, hze, rfl, rfl⟩
        · skip
          have hqe := ex_le hze (by omega) (by decide)
          have hq5e : qe = p + 1 + 5 := ex_len hze
          refine Ev.run 3 (pc' := 76) (lv' := [(0, .ref 5)]) (st' := [.ref 5, .ref T]) (h' := HN (RT g T qe 0 le li l) hl (RF (3, T, c, e))) rfl ?_
          refine Ev.call (a := 55) (as := [.ref 5]) (rest := [.ref T]) (lv0 := [(0, .ref 5)]) (Q1 := (fun z0 h' => (∃ dd q, nuS g qe = (true, dd, q) ∧ z0 = some (.int (nI dd)) ∧ h' = HN (RT g T q 0 le li l) hl (RF (3, T, c, e))) ∨ (nuS g qe = (false, 0, qe) ∧ z0 = some (.int (nI 0)) ∧ h' = HN (RT g T qe 1 le li l) hl (RF (3, T, c, e))))) rfl rfl (K_num0 _ _ _ _ _ _ hT hX qe le li l (by omega) ⟨fun dd q hz => Or.inl ⟨dd, q, hz, rfl, rfl⟩, fun hz => Or.inr ⟨hz, rfl, rfl⟩⟩) (fun r h' hr => ?_)
          rcases hr with ⟨ddm, qm, hzm, rfl, rfl⟩ | ⟨hzm, rfl, rfl⟩
          · skip
            have hlem := nuS_le hzm
            refine Ev_pfI rfl hT.1 ?_
            refine Ev.hp (congrArg (fun z => HN z hl (RF (3, T, c, e))) (RT_3 _ _ _ _ _ _ _ hT)) ?_
            refine Ev.run 1 (pc' := 102) (lv' := [(0, .ref 5)]) (st' := []) (h' := HN (RT g T qm 0 ddm li l) hl (RF (3, T, c, e))) rfl ?_
            refine Ev.ret (v := none) rfl ?_
            first
              | exact (hq.1 _ _ (KKn.mk hN (pk_nx (by decide) (by decide) hc6) hzk hFc hGc)).1 hc16
              | exact (hq.1 _ _ (KKn.mk hN (pk_nx (by decide) (by decide) hc6) hzk hFc hGc)).2 hc16
              | exact hq.2.2.2 _ _ _ _ (KFx.k hN hp (pk_nx (by decide) (by decide) hc6) hzk hFc) (by first | omega | assumption | exact plT_le _ (by assumption) | exact plT_le _ (by omega))
              | exact hq.2.2.2 _ _ _ _ (KFx.kx hp (pk_nx (by decide) (by decide) hc6) hzk) (by first | omega | assumption | exact plT_le _ (by assumption) | exact plT_le _ (by omega))
              | exact hq.2.2.2 _ _ _ _ (KFx.l hp (pk_nn (by decide) (by decide) hc6) hxl) (by first | omega | assumption | exact plT_le _ (by assumption) | exact plT_le _ (by omega))
              | exact hq.2.1 _ _ (KNu.e hxl (pk_nx (by decide) (by decide) hc62) hze hzm)
              | exact hq.2.2.2 _ _ _ _ (KFx.e hp hxl (pk_nx (by decide) (by decide) hc62) hze hzm hqe.2) (by first | omega | assumption | exact plT_le _ (by assumption) | exact plT_le _ (by omega))
              | exact hq.2.2.2 _ _ _ _ (KFx.ex (pkS_lt (by rw [hxl]; decide)) hxl (pk_nx (by decide) (by decide) hc62) hze) (by first | omega | assumption | exact plT_le _ (by assumption) | exact plT_le _ (by omega))
              | exact hq.2.2.1 _ _ (KNu.i hxl (pk_nn (by decide) (by decide) hc62) hzi hzm)
              | exact hq.2.2.2 _ _ _ _ (KFx.i hp hxl (pk_nn (by decide) (by decide) hc62) hzi hzm hqi.2) (by first | omega | assumption | exact plT_le _ (by assumption) | exact plT_le _ (by omega))
              | exact hq.2.2.2 _ _ _ _ (KFx.ix (pkS_lt (by rw [hxl]; decide)) hxl (pk_nn (by decide) (by decide) hc62) hzi) (by first | omega | assumption | exact plT_le _ (by assumption) | exact plT_le _ (by omega))
          · skip
            refine Ev_pfI rfl hT.1 ?_
            refine Ev.hp (congrArg (fun z => HN z hl (RF (3, T, c, e))) (RT_3 _ _ _ _ _ _ _ hT)) ?_
            refine Ev.run 1 (pc' := 102) (lv' := [(0, .ref 5)]) (st' := []) (h' := HN (RT g T qe 1 0 li l) hl (RF (3, T, c, e))) rfl ?_
            refine Ev.ret (v := none) rfl ?_
            first
              | exact (hq.1 _ _ (KKn.mk hN (pk_nx (by decide) (by decide) hc6) hzk hFc hGc)).1 hc16
              | exact (hq.1 _ _ (KKn.mk hN (pk_nx (by decide) (by decide) hc6) hzk hFc hGc)).2 hc16
              | exact hq.2.2.2 _ _ _ _ (KFx.k hN hp (pk_nx (by decide) (by decide) hc6) hzk hFc) (by first | omega | assumption | exact plT_le _ (by assumption) | exact plT_le _ (by omega))
              | exact hq.2.2.2 _ _ _ _ (KFx.kx hp (pk_nx (by decide) (by decide) hc6) hzk) (by first | omega | assumption | exact plT_le _ (by assumption) | exact plT_le _ (by omega))
              | exact hq.2.2.2 _ _ _ _ (KFx.l hp (pk_nn (by decide) (by decide) hc6) hxl) (by first | omega | assumption | exact plT_le _ (by assumption) | exact plT_le _ (by omega))
              | exact hq.2.1 _ _ (KNu.e hxl (pk_nx (by decide) (by decide) hc62) hze hzm)
              | exact hq.2.2.2 _ _ _ _ (KFx.e hp hxl (pk_nx (by decide) (by decide) hc62) hze hzm hqe.2) (by first | omega | assumption | exact plT_le _ (by assumption) | exact plT_le _ (by omega))
              | exact hq.2.2.2 _ _ _ _ (KFx.ex (pkS_lt (by rw [hxl]; decide)) hxl (pk_nx (by decide) (by decide) hc62) hze) (by first | omega | assumption | exact plT_le _ (by assumption) | exact plT_le _ (by omega))
              | exact hq.2.2.1 _ _ (KNu.i hxl (pk_nn (by decide) (by decide) hc62) hzi hzm)
              | exact hq.2.2.2 _ _ _ _ (KFx.i hp hxl (pk_nn (by decide) (by decide) hc62) hzi hzm hqi.2) (by first | omega | assumption | exact plT_le _ (by assumption) | exact plT_le _ (by omega))
              | exact hq.2.2.2 _ _ _ _ (KFx.ix (pkS_lt (by rw [hxl]; decide)) hxl (pk_nn (by decide) (by decide) hc62) hzi) (by first | omega | assumption | exact plT_le _ (by assumption) | exact plT_le _ (by omega))
        · skip
          have hqe := ex_le hze (by omega) (by decide)
          refine Ev.run 3 (pc' := 76) (lv' := [(0, .ref 5)]) (st' := [.ref 5, .ref T]) (h' := HN (RT g T qe 1 le li l) hl (RF (3, T, c, e))) rfl ?_
          refine Ev.call (a := 55) (as := [.ref 5]) (rest := [.ref T]) (lv0 := [(0, .ref 5)]) (Q1 := (fun z0 h' => z0 = some (.int (nI 0)) ∧ h' = HN (RT g T qe 1 le li l) hl (RF (3, T, c, e)))) rfl rfl (K_num1 _ _ _ _ _ _ hT hX qe le li l ⟨rfl, rfl⟩) (fun r h' hr => ?_)
          obtain ⟨rfl, rfl⟩ := hr
          refine Ev_pfI rfl hT.1 ?_
          refine Ev.hp (congrArg (fun z => HN z hl (RF (3, T, c, e))) (RT_3 _ _ _ _ _ _ _ hT)) ?_
          refine Ev.run 1 (pc' := 102) (lv' := [(0, .ref 5)]) (st' := []) (h' := HN (RT g T qe 1 0 li l) hl (RF (3, T, c, e))) rfl ?_
          refine Ev.ret (v := none) rfl ?_
          first
            | exact (hq.1 _ _ (KKn.mk hN (pk_nx (by decide) (by decide) hc6) hzk hFc hGc)).1 hc16
            | exact (hq.1 _ _ (KKn.mk hN (pk_nx (by decide) (by decide) hc6) hzk hFc hGc)).2 hc16
            | exact hq.2.2.2 _ _ _ _ (KFx.k hN hp (pk_nx (by decide) (by decide) hc6) hzk hFc) (by first | omega | assumption | exact plT_le _ (by assumption) | exact plT_le _ (by omega))
            | exact hq.2.2.2 _ _ _ _ (KFx.kx hp (pk_nx (by decide) (by decide) hc6) hzk) (by first | omega | assumption | exact plT_le _ (by assumption) | exact plT_le _ (by omega))
            | exact hq.2.2.2 _ _ _ _ (KFx.l hp (pk_nn (by decide) (by decide) hc6) hxl) (by first | omega | assumption | exact plT_le _ (by assumption) | exact plT_le _ (by omega))
            | exact hq.2.1 _ _ (KNu.e hxl (pk_nx (by decide) (by decide) hc62) hze hzm)
            | exact hq.2.2.2 _ _ _ _ (KFx.e hp hxl (pk_nx (by decide) (by decide) hc62) hze hzm hqe.2) (by first | omega | assumption | exact plT_le _ (by assumption) | exact plT_le _ (by omega))
            | exact hq.2.2.2 _ _ _ _ (KFx.ex (pkS_lt (by rw [hxl]; decide)) hxl (pk_nx (by decide) (by decide) hc62) hze) (by first | omega | assumption | exact plT_le _ (by assumption) | exact plT_le _ (by omega))
            | exact hq.2.2.1 _ _ (KNu.i hxl (pk_nn (by decide) (by decide) hc62) hzi hzm)
            | exact hq.2.2.2 _ _ _ _ (KFx.i hp hxl (pk_nn (by decide) (by decide) hc62) hzi hzm hqi.2) (by first | omega | assumption | exact plT_le _ (by assumption) | exact plT_le _ (by omega))
            | exact hq.2.2.2 _ _ _ _ (KFx.ix (pkS_lt (by rw [hxl]; decide)) hxl (pk_nn (by decide) (by decide) hc62) hzi) (by first | omega | assumption | exact plT_le _ (by assumption) | exact plT_le _ (by omega))
      · have hc62 : ¬ ((nxC g (p + 1)) = 101) := fun z => hc62 ((nI_eqU (by omega) (by omega)).mpr z)
        refine Ev.run 2 (pc' := 88) (lv' := [(0, .ref 5)]) (st' := [.retAddr 8, .ref 5]) (h' := HN (RT g T (p + 1) 0 le li l) hl (RF (3, T, c, e))) rfl ?_
        refine Ev.call (a := 57) (as := [.ref 5, .retAddr 8]) (rest := []) (lv0 := [(0, .ref 5), (1, .retAddr 8)]) (Q1 := (fun z0 h' => (∃ q, exS g [105, 118, 101, 115, 32] (p + 1) = (true, q) ∧ z0 = none ∧ h' = HN (RT g T q 0 le li l) hl (RF (3, T, c, e))) ∨ (∃ q, exS g [105, 118, 101, 115, 32] (p + 1) = (false, q) ∧ z0 = none ∧ h' = HN (RT g T q 1 le li l) hl (RF (3, T, c, e))))) rfl rfl (K_all0_8 _ _ _ _ _ _ hT hX (p + 1) le li l (by omega) ⟨fun q hz => Or.inl ⟨q, hz, rfl, rfl⟩, fun q hz => Or.inr ⟨q, hz, rfl, rfl⟩⟩) (fun r h' hr => ?_)
        rcases hr with ⟨qi, hzi, rfl, rfl⟩ | ⟨qi, hzi, rfl, rfl⟩
        · skip
          have hqi := ex_le hzi (by omega) (by decide)
          have hq5i : qi = p + 1 + 5 := ex_len hzi
          refine Ev.run 3 (pc' := 96) (lv' := [(0, .ref 5)]) (st' := [.ref 5, .ref T]) (h' := HN (RT g T qi 0 le li l) hl (RF (3, T, c, e))) rfl ?_
          refine Ev.call (a := 55) (as := [.ref 5]) (rest := [.ref T]) (lv0 := [(0, .ref 5)]) (Q1 := (fun z0 h' => (∃ dd q, nuS g qi = (true, dd, q) ∧ z0 = some (.int (nI dd)) ∧ h' = HN (RT g T q 0 le li l) hl (RF (3, T, c, e))) ∨ (nuS g qi = (false, 0, qi) ∧ z0 = some (.int (nI 0)) ∧ h' = HN (RT g T qi 1 le li l) hl (RF (3, T, c, e))))) rfl rfl (K_num0 _ _ _ _ _ _ hT hX qi le li l (by omega) ⟨fun dd q hz => Or.inl ⟨dd, q, hz, rfl, rfl⟩, fun hz => Or.inr ⟨hz, rfl, rfl⟩⟩) (fun r h' hr => ?_)
          rcases hr with ⟨ddm, qm, hzm, rfl, rfl⟩ | ⟨hzm, rfl, rfl⟩
          · skip
            have hlem := nuS_le hzm
            refine Ev_pfI rfl hT.1 ?_
            refine Ev.hp (congrArg (fun z => HN z hl (RF (3, T, c, e))) (RT_4 _ _ _ _ _ _ _ hT)) ?_
            refine Ev.ret (v := none) rfl ?_
            first
              | exact (hq.1 _ _ (KKn.mk hN (pk_nx (by decide) (by decide) hc6) hzk hFc hGc)).1 hc16
              | exact (hq.1 _ _ (KKn.mk hN (pk_nx (by decide) (by decide) hc6) hzk hFc hGc)).2 hc16
              | exact hq.2.2.2 _ _ _ _ (KFx.k hN hp (pk_nx (by decide) (by decide) hc6) hzk hFc) (by first | omega | assumption | exact plT_le _ (by assumption) | exact plT_le _ (by omega))
              | exact hq.2.2.2 _ _ _ _ (KFx.kx hp (pk_nx (by decide) (by decide) hc6) hzk) (by first | omega | assumption | exact plT_le _ (by assumption) | exact plT_le _ (by omega))
              | exact hq.2.2.2 _ _ _ _ (KFx.l hp (pk_nn (by decide) (by decide) hc6) hxl) (by first | omega | assumption | exact plT_le _ (by assumption) | exact plT_le _ (by omega))
              | exact hq.2.1 _ _ (KNu.e hxl (pk_nx (by decide) (by decide) hc62) hze hzm)
              | exact hq.2.2.2 _ _ _ _ (KFx.e hp hxl (pk_nx (by decide) (by decide) hc62) hze hzm hqe.2) (by first | omega | assumption | exact plT_le _ (by assumption) | exact plT_le _ (by omega))
              | exact hq.2.2.2 _ _ _ _ (KFx.ex (pkS_lt (by rw [hxl]; decide)) hxl (pk_nx (by decide) (by decide) hc62) hze) (by first | omega | assumption | exact plT_le _ (by assumption) | exact plT_le _ (by omega))
              | exact hq.2.2.1 _ _ (KNu.i hxl (pk_nn (by decide) (by decide) hc62) hzi hzm)
              | exact hq.2.2.2 _ _ _ _ (KFx.i hp hxl (pk_nn (by decide) (by decide) hc62) hzi hzm hqi.2) (by first | omega | assumption | exact plT_le _ (by assumption) | exact plT_le _ (by omega))
              | exact hq.2.2.2 _ _ _ _ (KFx.ix (pkS_lt (by rw [hxl]; decide)) hxl (pk_nn (by decide) (by decide) hc62) hzi) (by first | omega | assumption | exact plT_le _ (by assumption) | exact plT_le _ (by omega))
          · skip
            refine Ev_pfI rfl hT.1 ?_
            refine Ev.hp (congrArg (fun z => HN z hl (RF (3, T, c, e))) (RT_4 _ _ _ _ _ _ _ hT)) ?_
            refine Ev.ret (v := none) rfl ?_
            first
              | exact (hq.1 _ _ (KKn.mk hN (pk_nx (by decide) (by decide) hc6) hzk hFc hGc)).1 hc16
              | exact (hq.1 _ _ (KKn.mk hN (pk_nx (by decide) (by decide) hc6) hzk hFc hGc)).2 hc16
              | exact hq.2.2.2 _ _ _ _ (KFx.k hN hp (pk_nx (by decide) (by decide) hc6) hzk hFc) (by first | omega | assumption | exact plT_le _ (by assumption) | exact plT_le _ (by omega))
              | exact hq.2.2.2 _ _ _ _ (KFx.kx hp (pk_nx (by decide) (by decide) hc6) hzk) (by first | omega | assumption | exact plT_le _ (by assumption) | exact plT_le _ (by omega))
              | exact hq.2.2.2 _ _ _ _ (KFx.l hp (pk_nn (by decide) (by decide) hc6) hxl) (by first | omega | assumption | exact plT_le _ (by assumption) | exact plT_le _ (by omega))
              | exact hq.2.1 _ _ (KNu.e hxl (pk_nx (by decide) (by decide) hc62) hze hzm)
              | exact hq.2.2.2 _ _ _ _ (KFx.e hp hxl (pk_nx (by decide) (by decide) hc62) hze hzm hqe.2) (by first | omega | assumption | exact plT_le _ (by assumption) | exact plT_le _ (by omega))
              | exact hq.2.2.2 _ _ _ _ (KFx.ex (pkS_lt (by rw [hxl]; decide)) hxl (pk_nx (by decide) (by decide) hc62) hze) (by first | omega | assumption | exact plT_le _ (by assumption) | exact plT_le _ (by omega))
              | exact hq.2.2.1 _ _ (KNu.i hxl (pk_nn (by decide) (by decide) hc62) hzi hzm)
              | exact hq.2.2.2 _ _ _ _ (KFx.i hp hxl (pk_nn (by decide) (by decide) hc62) hzi hzm hqi.2) (by first | omega | assumption | exact plT_le _ (by assumption) | exact plT_le _ (by omega))
              | exact hq.2.2.2 _ _ _ _ (KFx.ix (pkS_lt (by rw [hxl]; decide)) hxl (pk_nn (by decide) (by decide) hc62) hzi) (by first | omega | assumption | exact plT_le _ (by assumption) | exact plT_le _ (by omega))
        · skip
          have hqi := ex_le hzi (by omega) (by decide)
          refine Ev.run 3 (pc' := 96) (lv' := [(0, .ref 5)]) (st' := [.ref 5, .ref T]) (h' := HN (RT g T qi 1 le li l) hl (RF (3, T, c, e))) rfl ?_
          refine Ev.call (a := 55) (as := [.ref 5]) (rest := [.ref T]) (lv0 := [(0, .ref 5)]) (Q1 := (fun z0 h' => z0 = some (.int (nI 0)) ∧ h' = HN (RT g T qi 1 le li l) hl (RF (3, T, c, e)))) rfl rfl (K_num1 _ _ _ _ _ _ hT hX qi le li l ⟨rfl, rfl⟩) (fun r h' hr => ?_)
          obtain ⟨rfl, rfl⟩ := hr
          refine Ev_pfI rfl hT.1 ?_
          refine Ev.hp (congrArg (fun z => HN z hl (RF (3, T, c, e))) (RT_4 _ _ _ _ _ _ _ hT)) ?_
          refine Ev.ret (v := none) rfl ?_
          first
            | exact (hq.1 _ _ (KKn.mk hN (pk_nx (by decide) (by decide) hc6) hzk hFc hGc)).1 hc16
            | exact (hq.1 _ _ (KKn.mk hN (pk_nx (by decide) (by decide) hc6) hzk hFc hGc)).2 hc16
            | exact hq.2.2.2 _ _ _ _ (KFx.k hN hp (pk_nx (by decide) (by decide) hc6) hzk hFc) (by first | omega | assumption | exact plT_le _ (by assumption) | exact plT_le _ (by omega))
            | exact hq.2.2.2 _ _ _ _ (KFx.kx hp (pk_nx (by decide) (by decide) hc6) hzk) (by first | omega | assumption | exact plT_le _ (by assumption) | exact plT_le _ (by omega))
            | exact hq.2.2.2 _ _ _ _ (KFx.l hp (pk_nn (by decide) (by decide) hc6) hxl) (by first | omega | assumption | exact plT_le _ (by assumption) | exact plT_le _ (by omega))
            | exact hq.2.1 _ _ (KNu.e hxl (pk_nx (by decide) (by decide) hc62) hze hzm)
            | exact hq.2.2.2 _ _ _ _ (KFx.e hp hxl (pk_nx (by decide) (by decide) hc62) hze hzm hqe.2) (by first | omega | assumption | exact plT_le _ (by assumption) | exact plT_le _ (by omega))
            | exact hq.2.2.2 _ _ _ _ (KFx.ex (pkS_lt (by rw [hxl]; decide)) hxl (pk_nx (by decide) (by decide) hc62) hze) (by first | omega | assumption | exact plT_le _ (by assumption) | exact plT_le _ (by omega))
            | exact hq.2.2.1 _ _ (KNu.i hxl (pk_nn (by decide) (by decide) hc62) hzi hzm)
            | exact hq.2.2.2 _ _ _ _ (KFx.i hp hxl (pk_nn (by decide) (by decide) hc62) hzi hzm hqi.2) (by first | omega | assumption | exact plT_le _ (by assumption) | exact plT_le _ (by omega))
            | exact hq.2.2.2 _ _ _ _ (KFx.ix (pkS_lt (by rw [hxl]; decide)) hxl (pk_nn (by decide) (by decide) hc62) hzi) (by first | omega | assumption | exact plT_le _ (by assumption) | exact plT_le _ (by omega))
    · skip
      refine Ev.run 1 (pc' := 57) (lv' := [(0, .ref 5)]) (st' := [.ref 5]) (h' := HN (RT g T p 1 le li l) hl (RF (3, T, c, e))) rfl ?_
      refine Ev.call (a := 59) (as := [.ref 5]) (rest := []) (lv0 := [(0, .ref 5)]) (Q1 := (fun z0 h' => z0 = some (.int (nI (nxC g p))) ∧ h' = HN (RT g T p 1 le li l) hl (RF (3, T, c, e)))) rfl rfl (K_next _ _ _ _ _ _ hT hX p _ _ l 1 (by omega) ⟨rfl, rfl⟩) (fun r h' hr => ?_)
      obtain ⟨rfl, rfl⟩ := hr
      refine Ev.run 2 (pc' := (if nI (nxC g p) = nI 101 then 65 else 85)) (lv' := [(0, .ref 5)]) (st' := []) (h' := HN (RT g T p 1 le li l) hl (RF (3, T, c, e))) rfl ?_
      refine Ev.ite (fun hc62 => ?_) (fun hc62 => ?_)
      · have hc62 : (nxC g p) = 101 := (nI_eqU (by omega) (by omega)).mp hc62
        refine Ev.run 2 (pc' := 68) (lv' := [(0, .ref 5)]) (st' := [.retAddr 7, .ref 5]) (h' := HN (RT g T p 1 le li l) hl (RF (3, T, c, e))) rfl ?_
        refine Ev.call (a := 57) (as := [.ref 5, .retAddr 7]) (rest := []) (lv0 := [(0, .ref 5), (1, .retAddr 7)]) (Q1 := (fun z0 h' => z0 = none ∧ h' = HN (RT g T p 1 le li l) hl (RF (3, T, c, e)))) rfl rfl (K_all1_7 _ _ _ _ _ _ hT hX p le li l ⟨rfl, rfl⟩) (fun r h' hr => ?_)
        obtain ⟨rfl, rfl⟩ := hr
        refine Ev.run 3 (pc' := 76) (lv' := [(0, .ref 5)]) (st' := [.ref 5, .ref T]) (h' := HN (RT g T p 1 le li l) hl (RF (3, T, c, e))) rfl ?_
        refine Ev.call (a := 55) (as := [.ref 5]) (rest := [.ref T]) (lv0 := [(0, .ref 5)]) (Q1 := (fun z0 h' => z0 = some (.int (nI 0)) ∧ h' = HN (RT g T p 1 le li l) hl (RF (3, T, c, e)))) rfl rfl (K_num1 _ _ _ _ _ _ hT hX p le li l ⟨rfl, rfl⟩) (fun r h' hr => ?_)
        obtain ⟨rfl, rfl⟩ := hr
        refine Ev_pfI rfl hT.1 ?_
        refine Ev.hp (congrArg (fun z => HN z hl (RF (3, T, c, e))) (RT_3 _ _ _ _ _ _ _ hT)) ?_
        refine Ev.run 1 (pc' := 102) (lv' := [(0, .ref 5)]) (st' := []) (h' := HN (RT g T p 1 0 li l) hl (RF (3, T, c, e))) rfl ?_
        refine Ev.ret (v := none) rfl ?_
        first
          | exact (hq.1 _ _ (KKn.mk hN (pk_nx (by decide) (by decide) hc6) hzk hFc hGc)).1 hc16
          | exact (hq.1 _ _ (KKn.mk hN (pk_nx (by decide) (by decide) hc6) hzk hFc hGc)).2 hc16
          | exact hq.2.2.2 _ _ _ _ (KFx.k hN hp (pk_nx (by decide) (by decide) hc6) hzk hFc) (by first | omega | assumption | exact plT_le _ (by assumption) | exact plT_le _ (by omega))
          | exact hq.2.2.2 _ _ _ _ (KFx.kx hp (pk_nx (by decide) (by decide) hc6) hzk) (by first | omega | assumption | exact plT_le _ (by assumption) | exact plT_le _ (by omega))
          | exact hq.2.2.2 _ _ _ _ (KFx.l hp (pk_nn (by decide) (by decide) hc6) hxl) (by first | omega | assumption | exact plT_le _ (by assumption) | exact plT_le _ (by omega))
          | exact hq.2.1 _ _ (KNu.e hxl (pk_nx (by decide) (by decide) hc62) hze hzm)
          | exact hq.2.2.2 _ _ _ _ (KFx.e hp hxl (pk_nx (by decide) (by decide) hc62) hze hzm hqe.2) (by first | omega | assumption | exact plT_le _ (by assumption) | exact plT_le _ (by omega))
          | exact hq.2.2.2 _ _ _ _ (KFx.ex (pkS_lt (by rw [hxl]; decide)) hxl (pk_nx (by decide) (by decide) hc62) hze) (by first | omega | assumption | exact plT_le _ (by assumption) | exact plT_le _ (by omega))
          | exact hq.2.2.1 _ _ (KNu.i hxl (pk_nn (by decide) (by decide) hc62) hzi hzm)
          | exact hq.2.2.2 _ _ _ _ (KFx.i hp hxl (pk_nn (by decide) (by decide) hc62) hzi hzm hqi.2) (by first | omega | assumption | exact plT_le _ (by assumption) | exact plT_le _ (by omega))
          | exact hq.2.2.2 _ _ _ _ (KFx.ix (pkS_lt (by rw [hxl]; decide)) hxl (pk_nn (by decide) (by decide) hc62) hzi) (by first | omega | assumption | exact plT_le _ (by assumption) | exact plT_le _ (by omega))
      · have hc62 : ¬ ((nxC g p) = 101) := fun z => hc62 ((nI_eqU (by omega) (by omega)).mpr z)
        refine Ev.run 2 (pc' := 88) (lv' := [(0, .ref 5)]) (st' := [.retAddr 8, .ref 5]) (h' := HN (RT g T p 1 le li l) hl (RF (3, T, c, e))) rfl ?_
        refine Ev.call (a := 57) (as := [.ref 5, .retAddr 8]) (rest := []) (lv0 := [(0, .ref 5), (1, .retAddr 8)]) (Q1 := (fun z0 h' => z0 = none ∧ h' = HN (RT g T p 1 le li l) hl (RF (3, T, c, e)))) rfl rfl (K_all1_8 _ _ _ _ _ _ hT hX p le li l ⟨rfl, rfl⟩) (fun r h' hr => ?_)
        obtain ⟨rfl, rfl⟩ := hr
        refine Ev.run 3 (pc' := 96) (lv' := [(0, .ref 5)]) (st' := [.ref 5, .ref T]) (h' := HN (RT g T p 1 le li l) hl (RF (3, T, c, e))) rfl ?_
        refine Ev.call (a := 55) (as := [.ref 5]) (rest := [.ref T]) (lv0 := [(0, .ref 5)]) (Q1 := (fun z0 h' => z0 = some (.int (nI 0)) ∧ h' = HN (RT g T p 1 le li l) hl (RF (3, T, c, e)))) rfl rfl (K_num1 _ _ _ _ _ _ hT hX p le li l ⟨rfl, rfl⟩) (fun r h' hr => ?_)
        obtain ⟨rfl, rfl⟩ := hr
        refine Ev_pfI rfl hT.1 ?_
        refine Ev.hp (congrArg (fun z => HN z hl (RF (3, T, c, e))) (RT_4 _ _ _ _ _ _ _ hT)) ?_
        refine Ev.ret (v := none) rfl ?_
        first
          | exact (hq.1 _ _ (KKn.mk hN (pk_nx (by decide) (by decide) hc6) hzk hFc hGc)).1 hc16
          | exact (hq.1 _ _ (KKn.mk hN (pk_nx (by decide) (by decide) hc6) hzk hFc hGc)).2 hc16
          | exact hq.2.2.2 _ _ _ _ (KFx.k hN hp (pk_nx (by decide) (by decide) hc6) hzk hFc) (by first | omega | assumption | exact plT_le _ (by assumption) | exact plT_le _ (by omega))
          | exact hq.2.2.2 _ _ _ _ (KFx.kx hp (pk_nx (by decide) (by decide) hc6) hzk) (by first | omega | assumption | exact plT_le _ (by assumption) | exact plT_le _ (by omega))
          | exact hq.2.2.2 _ _ _ _ (KFx.l hp (pk_nn (by decide) (by decide) hc6) hxl) (by first | omega | assumption | exact plT_le _ (by assumption) | exact plT_le _ (by omega))
          | exact hq.2.1 _ _ (KNu.e hxl (pk_nx (by decide) (by decide) hc62) hze hzm)
          | exact hq.2.2.2 _ _ _ _ (KFx.e hp hxl (pk_nx (by decide) (by decide) hc62) hze hzm hqe.2) (by first | omega | assumption | exact plT_le _ (by assumption) | exact plT_le _ (by omega))
          | exact hq.2.2.2 _ _ _ _ (KFx.ex (pkS_lt (by rw [hxl]; decide)) hxl (pk_nx (by decide) (by decide) hc62) hze) (by first | omega | assumption | exact plT_le _ (by assumption) | exact plT_le _ (by omega))
          | exact hq.2.2.1 _ _ (KNu.i hxl (pk_nn (by decide) (by decide) hc62) hzi hzm)
          | exact hq.2.2.2 _ _ _ _ (KFx.i hp hxl (pk_nn (by decide) (by decide) hc62) hzi hzm hqi.2) (by first | omega | assumption | exact plT_le _ (by assumption) | exact plT_le _ (by omega))
          | exact hq.2.2.2 _ _ _ _ (KFx.ix (pkS_lt (by rw [hxl]; decide)) hxl (pk_nn (by decide) (by decide) hc62) hzi) (by first | omega | assumption | exact plT_le _ (by assumption) | exact plT_le _ (by omega))
theorem K_clause1 {L : Nat} {xs : Nat → Int32} (d : Nat) (g : Nat → Nat → Nat) (hl : Nat → Nat → Int64) (T c e : Nat) (hT : TbT T) (hX : TX g) (p le li : Nat) (l : List Nat) (hp : p ≤ 200) (hl100 : l.length ≤ 100) {Q : Po} (hq : ∀ le' li' l', l'.length ≤ 100 → Q none (HN (RT g T p 1 le' li' l') hl (RF (3, T, c, e)))) : Ev L xs (d + 17) 52 0 [(0, .ref 5)] [] (HN (RT g T p 1 le li l) hl (RF (3, T, c, e))) Q := by
  have hN := hX.1
  have hnx := nx_le hX p
  refine Ev.run 1 (pc' := 1) (lv' := [(0, .ref 5)]) (st' := [.ref 5]) (h' := HN (RT g T p 1 le li l) hl (RF (3, T, c, e))) rfl ?_
  refine Ev.call (a := 59) (as := [.ref 5]) (rest := []) (lv0 := [(0, .ref 5)]) (Q1 := (fun z0 h' => z0 = some (.int (nI (nxC g p))) ∧ h' = HN (RT g T p 1 le li l) hl (RF (3, T, c, e)))) rfl rfl (K_next _ _ _ _ _ _ hT hX p _ _ l 1 (by omega) ⟨rfl, rfl⟩) (fun r h' hr => ?_)
  obtain ⟨rfl, rfl⟩ := hr
  refine Ev.run 2 (pc' := (if nI (nxC g p) = nI 107 then 9 else 50)) (lv' := [(0, .ref 5)]) (st' := []) (h' := HN (RT g T p 1 le li l) hl (RF (3, T, c, e))) rfl ?_
  refine Ev.ite (fun hc6 => ?_) (fun hc6 => ?_)
  · have hc6 : (nxC g p) = 107 := (nI_eqU (by omega) (by omega)).mp hc6
    refine Ev.run 2 (pc' := 13) (lv' := [(0, .ref 5)]) (st' := [.ref T]) (h' := HN (RT g T p 1 le li l) hl (RF (3, T, c, e))) rfl ?_
    refine Ev_gfI rfl rfl rfl hT.1 ?_
    refine Ev.topI (congrArg nI (RT_n _ _ _ _ _ _ hT)) ?_
    refine Ev.run 1 (pc' := (if nI l.length = 0 then 19 else 23)) (lv' := [(0, .ref 5)]) (st' := []) (h' := HN (RT g T p 1 le li l) hl (RF (3, T, c, e))) rfl ?_
    refine Ev.ite (fun hc16 => ?_) (fun hc16 => ?_)
    · have hc16 : l.length = 0 := (nI_eqU0 (by omega)).mp hc16
      refine Ev.run 5 (pc' := 28) (lv' := [(1, .int (nI 1)), (0, .ref 5)]) (st' := [.retAddr 3, .ref 5]) (h' := HN (RT g T p 1 le li l) hl (RF (3, T, c, e))) rfl ?_
      refine Ev.call (a := 57) (as := [.ref 5, .retAddr 3]) (rest := []) (lv0 := [(0, .ref 5), (1, .retAddr 3)]) (Q1 := (fun z0 h' => z0 = none ∧ h' = HN (RT g T p 1 le li l) hl (RF (3, T, c, e)))) rfl rfl (K_all1_3 _ _ _ _ _ _ hT hX p le li l ⟨rfl, rfl⟩) (fun r h' hr => ?_)
      obtain ⟨rfl, rfl⟩ := hr
      refine Ev.run 2 (pc' := 33) (lv' := [(1, .int (nI 1)), (0, .ref 5)]) (st' := [.int (nI 0), .ref 5]) (h' := HN (RT g T p 1 le li l) hl (RF (3, T, c, e))) rfl ?_
      refine Ev.call (a := 53) (as := [.ref 5, .int (nI 0)]) (rest := []) (lv0 := [(0, .ref 5), (1, .int (nI 0))]) (Q1 := (fun z0 h' => z0 = none ∧ ∃ l' : List Nat, l'.length ≤ 100 ∧ h' = HN (RT g T p 1 le li l') hl (RF (3, T, c, e)))) rfl rfl (K_exp1f _ _ _ _ _ _ hT hX p le li l 0 (by decide) (by first | omega | assumption) (fun l' hl' => ⟨rfl, l', hl', rfl⟩)) (fun r h' hr => ?_)
      obtain ⟨rfl, lx, hlx, rfl⟩ := hr
      refine Ev.run 2 (pc' := 49) (lv' := [(1, .int (nI 1)), (0, .ref 5)]) (st' := []) (h' := HN (RT g T p 1 le li lx) hl (RF (3, T, c, e))) rfl ?_
      refine Ev.ret (v := none) rfl ?_
      first
        | exact hq _ _ _ hlx
        | exact hq _ _ _ (plT_le _ hlx)
        | exact hq _ _ _ hl100
    · have hc16 : ¬ (l.length = 0) := fun z => hc16 ((nI_eqU0 (by omega)).mpr z)
      refine Ev.run 4 (pc' := 28) (lv' := [(1, .int (nI 0)), (0, .ref 5)]) (st' := [.retAddr 3, .ref 5]) (h' := HN (RT g T p 1 le li l) hl (RF (3, T, c, e))) rfl ?_
      refine Ev.call (a := 57) (as := [.ref 5, .retAddr 3]) (rest := []) (lv0 := [(0, .ref 5), (1, .retAddr 3)]) (Q1 := (fun z0 h' => z0 = none ∧ h' = HN (RT g T p 1 le li l) hl (RF (3, T, c, e)))) rfl rfl (K_all1_3 _ _ _ _ _ _ hT hX p le li l ⟨rfl, rfl⟩) (fun r h' hr => ?_)
      obtain ⟨rfl, rfl⟩ := hr
      refine Ev.run 2 (pc' := 33) (lv' := [(1, .int (nI 0)), (0, .ref 5)]) (st' := [.int (nI 0), .ref 5]) (h' := HN (RT g T p 1 le li l) hl (RF (3, T, c, e))) rfl ?_
      refine Ev.call (a := 53) (as := [.ref 5, .int (nI 0)]) (rest := []) (lv0 := [(0, .ref 5), (1, .int (nI 0))]) (Q1 := (fun z0 h' => z0 = none ∧ ∃ l' : List Nat, l'.length ≤ 100 ∧ h' = HN (RT g T p 1 le li l') hl (RF (3, T, c, e)))) rfl rfl (K_exp1f _ _ _ _ _ _ hT hX p le li l 0 (by decide) (by first | omega | assumption) (fun l' hl' => ⟨rfl, l', hl', rfl⟩)) (fun r h' hr => ?_)
      obtain ⟨rfl, lx, hlx, rfl⟩ := hr
      refine Ev.run 5 (pc' := 46) (lv' := [(1, .int (nI 0)), (0, .ref 5)]) (st' := [.int (nI 4294967294), .ref T]) (h' := HN (RT g T p 1 le li lx) hl (RF (3, T, c, e))) rfl ?_
      refine Ev_callV (a := 65) (as := [.ref T, .int (nI 4294967294)]) (rest := []) (lv0 := [(0, .ref T), (1, .int (nI 4294967294))]) (Q1 := (fun z0 h' => z0 = none ∧ h' = HN (RT g T p 1 le li (plT lx 4294967172)) hl (RF (3, T, c, e)))) rfl rfl rfl rfl rfl hT.1.k rfl rfl rfl (K_tput _ _ _ _ _ _ hT hX p le li lx 1 4294967294 4294967172 rfl (by first | omega | assumption | (rw [List.length_append, List.length_append]; omega)) ⟨rfl, rfl⟩) (fun r h' hr => ?_)
      obtain ⟨rfl, rfl⟩ := hr
      refine Ev.ret (v := none) rfl ?_
      first
        | exact hq _ _ _ hlx
        | exact hq _ _ _ (plT_le _ hlx)
        | exact hq _ _ _ hl100
  · have hc6 : ¬ ((nxC g p) = 107) := fun z => hc6 ((nI_eqU (by omega) (by omega)).mpr z)
    refine Ev.run 2 (pc' := 53) (lv' := [(0, .ref 5)]) (st' := [.int (nI 108), .ref 5]) (h' := HN (RT g T p 1 le li l) hl (RF (3, T, c, e))) rfl ?_
    refine Ev.call (a := 58) (as := [.ref 5, .int (nI 108)]) (rest := []) (lv0 := [(0, .ref 5), (1, .int (nI 108))]) (Q1 := (fun z0 h' => z0 = none ∧ h' = HN (RT g T p 1 le li l) hl (RF (3, T, c, e)))) rfl rfl (K_exp1 _ _ _ _ _ _ hT hX p le li l _ ⟨rfl, rfl⟩) (fun r h' hr => ?_)
    obtain ⟨rfl, rfl⟩ := hr
    refine Ev.run 1 (pc' := 57) (lv' := [(0, .ref 5)]) (st' := [.ref 5]) (h' := HN (RT g T p 1 le li l) hl (RF (3, T, c, e))) rfl ?_
    refine Ev.call (a := 59) (as := [.ref 5]) (rest := []) (lv0 := [(0, .ref 5)]) (Q1 := (fun z0 h' => z0 = some (.int (nI (nxC g p))) ∧ h' = HN (RT g T p 1 le li l) hl (RF (3, T, c, e)))) rfl rfl (K_next _ _ _ _ _ _ hT hX p _ _ l 1 (by omega) ⟨rfl, rfl⟩) (fun r h' hr => ?_)
    obtain ⟨rfl, rfl⟩ := hr
    refine Ev.run 2 (pc' := (if nI (nxC g p) = nI 101 then 65 else 85)) (lv' := [(0, .ref 5)]) (st' := []) (h' := HN (RT g T p 1 le li l) hl (RF (3, T, c, e))) rfl ?_
    refine Ev.ite (fun hc62 => ?_) (fun hc62 => ?_)
    · have hc62 : (nxC g p) = 101 := (nI_eqU (by omega) (by omega)).mp hc62
      refine Ev.run 2 (pc' := 68) (lv' := [(0, .ref 5)]) (st' := [.retAddr 7, .ref 5]) (h' := HN (RT g T p 1 le li l) hl (RF (3, T, c, e))) rfl ?_
      refine Ev.call (a := 57) (as := [.ref 5, .retAddr 7]) (rest := []) (lv0 := [(0, .ref 5), (1, .retAddr 7)]) (Q1 := (fun z0 h' => z0 = none ∧ h' = HN (RT g T p 1 le li l) hl (RF (3, T, c, e)))) rfl rfl (K_all1_7 _ _ _ _ _ _ hT hX p le li l ⟨rfl, rfl⟩) (fun r h' hr => ?_)
      obtain ⟨rfl, rfl⟩ := hr
      refine Ev.run 3 (pc' := 76) (lv' := [(0, .ref 5)]) (st' := [.ref 5, .ref T]) (h' := HN (RT g T p 1 le li l) hl (RF (3, T, c, e))) rfl ?_
      refine Ev.call (a := 55) (as := [.ref 5]) (rest := [.ref T]) (lv0 := [(0, .ref 5)]) (Q1 := (fun z0 h' => z0 = some (.int (nI 0)) ∧ h' = HN (RT g T p 1 le li l) hl (RF (3, T, c, e)))) rfl rfl (K_num1 _ _ _ _ _ _ hT hX p le li l ⟨rfl, rfl⟩) (fun r h' hr => ?_)
      obtain ⟨rfl, rfl⟩ := hr
      refine Ev_pfI rfl hT.1 ?_
      refine Ev.hp (congrArg (fun z => HN z hl (RF (3, T, c, e))) (RT_3 _ _ _ _ _ _ _ hT)) ?_
      refine Ev.run 1 (pc' := 102) (lv' := [(0, .ref 5)]) (st' := []) (h' := HN (RT g T p 1 0 li l) hl (RF (3, T, c, e))) rfl ?_
      refine Ev.ret (v := none) rfl ?_
      first
        | exact hq _ _ _ hlx
        | exact hq _ _ _ (plT_le _ hlx)
        | exact hq _ _ _ hl100
    · have hc62 : ¬ ((nxC g p) = 101) := fun z => hc62 ((nI_eqU (by omega) (by omega)).mpr z)
      refine Ev.run 2 (pc' := 88) (lv' := [(0, .ref 5)]) (st' := [.retAddr 8, .ref 5]) (h' := HN (RT g T p 1 le li l) hl (RF (3, T, c, e))) rfl ?_
      refine Ev.call (a := 57) (as := [.ref 5, .retAddr 8]) (rest := []) (lv0 := [(0, .ref 5), (1, .retAddr 8)]) (Q1 := (fun z0 h' => z0 = none ∧ h' = HN (RT g T p 1 le li l) hl (RF (3, T, c, e)))) rfl rfl (K_all1_8 _ _ _ _ _ _ hT hX p le li l ⟨rfl, rfl⟩) (fun r h' hr => ?_)
      obtain ⟨rfl, rfl⟩ := hr
      refine Ev.run 3 (pc' := 96) (lv' := [(0, .ref 5)]) (st' := [.ref 5, .ref T]) (h' := HN (RT g T p 1 le li l) hl (RF (3, T, c, e))) rfl ?_
      refine Ev.call (a := 55) (as := [.ref 5]) (rest := [.ref T]) (lv0 := [(0, .ref 5)]) (Q1 := (fun z0 h' => z0 = some (.int (nI 0)) ∧ h' = HN (RT g T p 1 le li l) hl (RF (3, T, c, e)))) rfl rfl (K_num1 _ _ _ _ _ _ hT hX p le li l ⟨rfl, rfl⟩) (fun r h' hr => ?_)
      obtain ⟨rfl, rfl⟩ := hr
      refine Ev_pfI rfl hT.1 ?_
      refine Ev.hp (congrArg (fun z => HN z hl (RF (3, T, c, e))) (RT_4 _ _ _ _ _ _ _ hT)) ?_
      refine Ev.ret (v := none) rfl ?_
      first
        | exact hq _ _ _ hlx
        | exact hq _ _ _ (plT_le _ hlx)
        | exact hq _ _ _ hl100
