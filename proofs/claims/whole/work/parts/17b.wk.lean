/-! more locals than needed do no harm -/
def ndk (lv : Lv) : Prop := (lv.map Prod.fst).Nodup
def Ext (a b : Lv) : Prop := ndk a ∧ ndk b ∧ ∀ p ∈ a, p ∈ b
theorem lkq_mem : ∀ {a : Lv} {i : Nat} {v : Value}, lkp a i = some v → (i, v) ∈ a := by
  intro a
  induction a with
  | nil => intro i v h; cases h
  | cons p r ih =>
    intro i v h
    obtain ⟨j, w⟩ := p
    unfold lkp at h
    cases e : Nat.beq j i with
    | true =>
      rw [e] at h
      cases h
      rw [← Nat.eq_of_beq_eq_true e]
      exact List.mem_cons_self
    | false =>
      rw [e] at h
      exact List.mem_cons_of_mem _ (ih h)
theorem mem_lkq : ∀ {a : Lv} {i : Nat} {v : Value}, ndk a → (i, v) ∈ a → lkp a i = some v := by
  intro a
  induction a with
  | nil => intro i v _ h; cases h
  | cons p r ih =>
    intro i v hn h
    obtain ⟨j, w⟩ := p
    unfold ndk at hn
    rw [List.map_cons, List.nodup_cons] at hn
    unfold lkp
    rw [List.mem_cons] at h
    rcases h with h | h
    · cases h
      rw [show Nat.beq i i = true from Nat.beq_refl i]
      rfl
    · have hji : j ≠ i := fun e => hn.1 (by
        rw [List.mem_map]
        exact ⟨(i, v), h, e.symm⟩)
      cases e : Nat.beq j i with
      | true => exact absurd (Nat.eq_of_beq_eq_true e) hji
      | false => exact ih hn.2 h
theorem Ext.lk {a b : Lv} (h : Ext a b) {i : Nat} {v : Value} (k : lkp a i = some v) : lkp b i = some v := mem_lkq h.2.1 (h.2.2 _ (lkq_mem k))
theorem ndk_f {a : Lv} (h : ndk a) (p : Nat × Value → Bool) (i : Nat) (v : Value) (hp : ∀ q : Nat × Value, p q = true → q.1 ≠ i) : ndk ((i, v) :: a.filter p) := by
  unfold ndk at h ⊢
  rw [List.map_cons, List.nodup_cons]
  refine ⟨fun z => ?_, ?_⟩
  · rw [List.mem_map] at z
    obtain ⟨q, h1, h2⟩ := z
    rw [List.mem_filter] at h1
    exact hp q h1.2 h2
  · exact List.Nodup.sublist (List.Sublist.map _ List.filter_sublist) h
theorem Ext.f {a b : Lv} (h : Ext a b) (p : Nat × Value → Bool) (i : Nat) (v : Value) (hp : ∀ q : Nat × Value, p q = true → q.1 ≠ i) : Ext ((i, v) :: a.filter p) ((i, v) :: b.filter p) := by
  refine ⟨ndk_f h.1 p i v hp, ndk_f h.2.1 p i v hp, fun q hq => ?_⟩
  rw [List.mem_cons] at hq ⊢
  rcases hq with hq | hq
  · exact Or.inl hq
  · rw [List.mem_filter] at hq ⊢
    exact Or.inr ⟨h.2.2 q hq.1, hq.2⟩
theorem Ext.s1 {a b : Lv} (h : Ext a b) (i : Nat) (v : Value) : Ext (sto1 a i v) (sto1 b i v) := h.f _ i v (fun q hq e => by
  subst e
  simp at hq)
theorem Ext.s2 {a b : Lv} (h : Ext a b) (i : Nat) (v : Value) : Ext (sto2 a i v) (sto2 b i v) := h.f _ i v (fun q hq e => by
  subst e
  simp at hq)
def isA (i : Instr) : Bool := match i with
  | .iconst _ => true | .bipush _ => true | .sipush _ => true | .lconst _ => true
  | .iload_n _ => true | .iload _ => true | .lload_n _ => true | .lload _ => true | .aload_n _ => true | .aload _ => true
  | .istore_n _ => true | .istore _ => true | .lstore_n _ => true | .lstore _ => true | .astore_n _ => true | .astore _ => true
  | .iinc _ _ => true | .dup => true | .pop => true | .dup2 => true
  | _ => false
theorem stA_no {nL : Nat} {i : Instr} {lv : Lv} {st : List Value} (h : isA i = false) : stA nL i lv st = none := by
  cases i <;> first | rfl | cases h
theorem stB_no {i : Instr} {st : List Value} (h : isA i = true) : stB i st = none := by
  cases i <;> first | rfl | cases h
theorem stC_no {pc nx a : Nat} {i : Instr} {st : List Value} (h : isA i = true) : stC pc nx a i st = none := by
  cases i <;> first | rfl | cases h
theorem stD_no {L : Nat} {xs : Nat → Int32} {d a b t q : Nat} {i : Instr} {st : List Value} {hp : Hp} (h : isA i = true) : stD L xs d i a b t q st hp = none := by
  cases i <;> first | rfl | cases h
section WK
variable {a b a' : Lv} {st st' : List Value} {k nL : Nat}
theorem ldI_x (hE : Ext a b) (h : ldI a st k = some (a', st')) : ∃ b', ldI b st k = some (b', st') ∧ Ext a' b' := by
  unfold ldI at h ⊢
  cases e : lkp a k with
  | none => rw [e] at h; cases h
  | some v =>
    rw [e] at h
    rw [hE.lk e]
    cases v <;> first | (cases h; exact ⟨_, rfl, hE⟩) | cases h
theorem ldL_x (hE : Ext a b) (h : ldL a st k = some (a', st')) : ∃ b', ldL b st k = some (b', st') ∧ Ext a' b' := by
  unfold ldL at h ⊢
  cases e : lkp a k with
  | none => rw [e] at h; cases h
  | some v =>
    rw [e] at h
    rw [hE.lk e]
    cases v <;> first | (cases h; exact ⟨_, rfl, hE⟩) | cases h
theorem ldA_x (hE : Ext a b) (h : ldA a st k = some (a', st')) : ∃ b', ldA b st k = some (b', st') ∧ Ext a' b' := by
  unfold ldA at h ⊢
  cases e : lkp a k with
  | none => rw [e] at h; cases h
  | some v =>
    rw [e] at h
    rw [hE.lk e]
    cases v with
    | ref x => cases h; exact ⟨_, rfl, hE⟩
    | retAddr x =>
      dsimp only at h ⊢
      cases e2 : Nat.beq x 15 with
      | true => rw [e2] at h; cases h
      | false => rw [e2] at h; cases h; exact ⟨_, rfl, hE⟩
    | _ => cases h
theorem soI_x (hE : Ext a b) (h : soI nL a st k = some (a', st')) : ∃ b', soI nL b st k = some (b', st') ∧ Ext a' b' := by
  unfold soI at h ⊢
  cases st with
  | nil => cases h
  | cons v r =>
    cases v with
    | int x =>
      dsimp only at h ⊢
      cases e : Nat.blt k nL with
      | true => rw [e] at h; cases h; exact ⟨_, rfl, hE.s1 _ _⟩
      | false => rw [e] at h; cases h
    | _ => cases h
theorem soL_x (hE : Ext a b) (h : soL nL a st k = some (a', st')) : ∃ b', soL nL b st k = some (b', st') ∧ Ext a' b' := by
  unfold soL at h ⊢
  cases st with
  | nil => cases h
  | cons v r =>
    cases v with
    | long x =>
      dsimp only at h ⊢
      cases e : Nat.blt (k + 1) nL with
      | true => rw [e] at h; cases h; exact ⟨_, rfl, hE.s2 _ _⟩
      | false => rw [e] at h; cases h
    | _ => cases h
theorem soA_x (hE : Ext a b) (h : soA nL a st k = some (a', st')) : ∃ b', soA nL b st k = some (b', st') ∧ Ext a' b' := by
  unfold soA at h ⊢
  cases st with
  | nil => cases h
  | cons v r =>
    cases v with
    | ref x =>
      dsimp only at h ⊢
      cases e : Nat.blt k nL with
      | true => rw [e] at h; cases h; exact ⟨_, rfl, hE.s1 _ _⟩
      | false => rw [e] at h; cases h
    | retAddr x =>
      dsimp only at h ⊢
      cases e : Nat.blt k nL && !Nat.beq x 15 with
      | true => rw [e] at h; cases h; exact ⟨_, rfl, hE.s1 _ _⟩
      | false => rw [e] at h; cases h
    | _ => cases h
theorem iinc_x {n : Int} (hE : Ext a b) (h : stA nL (.iinc k n) a st = some (a', st')) : ∃ b', stA nL (.iinc k n) b st = some (b', st') ∧ Ext a' b' := by
  unfold stA at h ⊢
  dsimp only at h ⊢
  cases e : lkp a k with
  | none => rw [e] at h; cases h
  | some v =>
    rw [e] at h
    rw [hE.lk e]
    cases v with
    | int x =>
      dsimp only at h ⊢
      cases e : Nat.blt k nL with
      | true => rw [e] at h; cases h; exact ⟨_, rfl, hE.s1 _ _⟩
      | false => rw [e] at h; cases h
    | _ => cases h
theorem stA_sm {i : Instr} (hi : ∀ lv : Lv, stA nL i lv st = (stA nL i [] st).map (fun c => (lv, c.2))) (hE : Ext a b) (h : stA nL i a st = some (a', st')) : ∃ b', stA nL i b st = some (b', st') ∧ Ext a' b' := by
  rw [hi] at h ⊢
  cases e : stA nL i [] st with
  | none => rw [e] at h; cases h
  | some c => rw [e] at h; cases h; exact ⟨b, rfl, hE⟩
theorem dup_x (lv : Lv) : stA nL .dup lv st = (stA nL .dup [] st).map (fun c => (lv, c.2)) := by
  cases st with
  | nil => rfl
  | cons v r =>
    show (bif Nat.beq v.category 1 then some (lv, v :: v :: r) else none) = (bif Nat.beq v.category 1 then some (([] : Lv), v :: v :: r) else none).map (fun c => (lv, c.2))
    cases Nat.beq v.category 1 <;> rfl
theorem pop_x (lv : Lv) : stA nL .pop lv st = (stA nL .pop [] st).map (fun c => (lv, c.2)) := by
  cases st with
  | nil => rfl
  | cons v r =>
    show (bif Nat.beq v.category 1 then some (lv, r) else none) = (bif Nat.beq v.category 1 then some (([] : Lv), r) else none).map (fun c => (lv, c.2))
    cases Nat.beq v.category 1 <;> rfl
theorem dup2_x (lv : Lv) : stA nL .dup2 lv st = (stA nL .dup2 [] st).map (fun c => (lv, c.2)) := by
  cases st with
  | nil => rfl
  | cons v r =>
    cases r with
    | nil => rfl
    | cons w r =>
      show (bif Nat.beq v.category 1 && Nat.beq w.category 1 then some (lv, v :: w :: v :: w :: r) else none) = (bif Nat.beq v.category 1 && Nat.beq w.category 1 then some (([] : Lv), v :: w :: v :: w :: r) else none).map (fun c => (lv, c.2))
      cases Nat.beq v.category 1 && Nat.beq w.category 1 <;> rfl
theorem stA_x {i : Instr} (hE : Ext a b) (h : stA nL i a st = some (a', st')) : ∃ b', stA nL i b st = some (b', st') ∧ Ext a' b' := by
  cases i <;> first | exact ldI_x hE h | exact ldL_x hE h | exact ldA_x hE h | exact soI_x hE h | exact soL_x hE h | exact soA_x hE h | exact iinc_x hE h | exact stA_sm dup_x hE h | exact stA_sm pop_x hE h | exact stA_sm dup2_x hE h | (cases h; exact ⟨_, rfl, hE⟩) | cases h
theorem stp_x {L : Nat} {xs : Nat → Int32} {d pc pc' : Nat} {e : Ent} {hp hp' : Hp} (hE : Ext a b) (h : stp L xs d nL pc e a st hp = some (pc', a', st', hp')) : ∃ b', stp L xs d nL pc e b st hp = some (pc', b', st', hp') ∧ Ext a' b' := by
  unfold stp at h ⊢
  cases hA : isA e.1 with
  | true =>
    rw [stB_no hA, stC_no hA, stD_no hA] at h ⊢
    cases e1 : stA nL e.1 a st with
    | none => rw [e1] at h; cases h
    | some c =>
      rw [e1] at h
      cases h
      obtain ⟨b', h1, h2⟩ := stA_x hE (a' := c.1) (st' := c.2) e1
      rw [h1]
      exact ⟨b', rfl, h2⟩
  | false =>
    rw [stA_no hA] at h
    rw [stA_no hA]
    dsimp only at h ⊢
    cases e1 : stB e.1 st with
    | some s => rw [e1] at h; cases h; exact ⟨b, rfl, hE⟩
    | none =>
      rw [e1] at h
      dsimp only at h ⊢
      cases e2 : stC pc (pc + e.2.1) e.2.2.1 e.1 st with
      | some c => rw [e2] at h; cases h; exact ⟨b, rfl, hE⟩
      | none =>
        rw [e2] at h
        dsimp only at h ⊢
        cases e3 : stD L xs d e.1 e.2.2.1 e.2.2.2.1 e.2.2.2.2.1 e.2.2.2.2.2 st hp with
        | some c => rw [e3] at h; cases h; exact ⟨b, rfl, hE⟩
        | none => rw [e3] at h; cases h
end WK
theorem exec_x {L : Nat} {xs : Nat → Int32} : ∀ {n d q pc : Nat} {a b : Lv} {st : List Value} {hp : Hp} {r : Rs}, Ext a b → exec L xs n d q pc a st hp = some r → exec L xs n d q pc b st hp = some r := by
  intro n
  induction n with
  | zero => intro d q pc a b st hp r _ h; cases h
  | succ n ih =>
    intro d q pc a b st hp r hE h
    have h : nxt L xs (exec L xs n) d q pc a st hp = some r := h
    show nxt L xs (exec L xs n) d q pc b st hp = some r
    unfold nxt at h ⊢
    cases he : fetch_ q pc with
    | none => rw [he] at h; cases h
    | some en =>
      rw [he] at h
      dsimp only at h ⊢
      cases k0 : Nat.beq (kindI en.1 en.2.2.1) 0 with
      | true =>
        rw [k0] at h
        simp only [cond_true] at h ⊢
        cases hs : stp L xs d (mL q) pc en a st hp with
        | none => rw [hs] at h; cases h
        | some cf =>
          rw [hs] at h
          obtain ⟨b', h1, h2⟩ := stp_x hE (a' := cf.2.1) (st' := cf.2.2.1) (hp' := cf.2.2.2) (pc' := cf.1) hs
          rw [h1]
          exact ih h2 h
      | false =>
        rw [k0] at h
        simp only [cond_false] at h ⊢
        cases k1 : Nat.beq (kindI en.1 en.2.2.1) 1 with
        | true =>
          rw [k1] at h
          simp only [cond_true] at h ⊢
          cases d with
          | zero => cases h
          | succ d =>
            dsimp only at h ⊢
            revert h
            generalize (Nat.blt 0 en.2.2.1 && Nat.blt en.2.2.1 mCnt && Nat.ble (mTk en.2.2.1) st.length && Nat.ble (catS (st.drop (mTk en.2.2.1))) 8 && rcvOK hp (bif mI en.2.2.1 then 1 else en.2.2.2.2.1) (mC en.2.2.1) (st.take (mTk en.2.2.1)).reverse && Nat.ble (lg_sl (st.take (mTk en.2.2.1)).reverse).length (mL en.2.2.1)) = bb
            intro h
            cases bb with
            | false => cases h
            | true =>
              simp only [cond_true] at h ⊢
              cases hs : exec L xs n d en.2.2.1 0 (lv_args 0 (st.take (mTk en.2.2.1)).reverse) [] hp with
              | none => rw [hs] at h; cases h
              | some x =>
                rw [hs] at h
                exact ih hE h
        | false =>
          rw [k1] at h
          simp only [cond_false] at h ⊢
          exact h
theorem Ev.wk {L : Nat} {xs : Nat → Int32} {d q pc : Nat} {a b : Lv} {st : List Value} {h : Hp} {Q : Option Value → Hp → Prop} (hE : Ext a b) (k : Ev L xs d q pc a st h Q) : Ev L xs d q pc b st h Q := by
  obtain ⟨n, r, e, hq⟩ := k
  exact ⟨n, r, exec_x hE e, hq⟩
theorem Ext.nil {b : Lv} (h : decide ((b.map Prod.fst).Nodup) = true) : Ext [] b := ⟨List.nodup_nil, (show (b.map Prod.fst).Nodup from of_decide_eq_true h), fun p hp => by cases hp⟩
theorem Ext.cons {a b : Lv} {i : Nat} {v : Value} (hi : (decide (i ∈ a.map Prod.fst)) = false) (hl : lkp b i = some v) (h : Ext a b) : Ext ((i, v) :: a) b := by
  refine ⟨?_, h.2.1, fun p hp => ?_⟩
  · unfold ndk
    rw [List.map_cons, List.nodup_cons]
    exact ⟨of_decide_eq_false hi, h.1⟩
  · rw [List.mem_cons] at hp
    rcases hp with hp | hp
    · rw [hp]; exact lkq_mem hl
    · exact h.2.2 p hp
