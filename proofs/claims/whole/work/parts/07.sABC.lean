/-! what the reader's steps mean on the machine: constants, locals, arithmetic, branches -/
def dV (z0 : Nat) (xa : Nat → Nat) (fv : Value) : Value → Value
  | .ref k => .ref (z0 + k)
  | .retAddr k => bif Nat.beq k 15 then fv else .ref (xa k)
  | v => v
def dQ (z0 : Nat) (xa : Nat → Nat) (fv : Value) (q : Nat × Value) : Nat × Value := (q.1, dV z0 xa fv q.2)
def fvOK (fv : Value) : Prop := fv = .null ∨ ∃ a, fv = .ref a
theorem fvOK.cat {fv : Value} (h : fvOK fv) : fv.category = 1 := by
  rcases h with rfl | ⟨a, rfl⟩ <;> rfl
theorem dV_cat {z0 : Nat} {xa : Nat → Nat} {fv : Value} (hf : fvOK fv) (v : Value) : (dV z0 xa fv v).category = v.category := by
  cases v with
  | retAddr k =>
    show (bif Nat.beq k 15 then fv else Value.ref (xa k)).category = 1
    cases Nat.beq k 15
    · rfl
    · exact hf.cat
  | _ => rfl
theorem lkp_mem {lv : Lv} {i : Nat} {v : Value} (h : lkp lv i = some v) : ∃ k : Nat, lv[k]? = some (i, v) := by
  induction lv with
  | nil => cases h
  | cons q r ih =>
    obtain ⟨j, w⟩ := q
    unfold lkp at h
    by_cases e : j = i
    · subst e
      rw [show Nat.beq j j = true from Nat.beq_refl j] at h
      cases h
      exact ⟨0, rfl⟩
    · rw [show Nat.beq j i = false by rw [← Bool.not_eq_true, Nat.beq_eq]; exact e] at h
      obtain ⟨k, hk⟩ := ih h
      exact ⟨k + 1, hk⟩
theorem lk_map {z0 : Nat} {xa : Nat → Nat} {fv : Value} {lv : Lv} {i : Nat} {v : Value} (h : lkp lv i = some v) : ∃ k : Nat, (lv.map (dQ z0 xa fv))[k]? = some (i, dV z0 xa fv v) := by
  obtain ⟨k, hk⟩ := lkp_mem h
  exact ⟨k, by rw [List.getElem?_map, hk]; rfl⟩
theorem lk_at {z0 : Nat} {xa : Nat → Nat} {fv : Value} {lv : Lv} {ls : Array Slot} {nL i : Nat} {v : Value} (hl : lv_has ls nL (lv.map (dQ z0 xa fv))) (h : lkp lv i = some v) : ls[i]? = some (.val (dV z0 xa fv v)) := by
  obtain ⟨k, hk⟩ := lk_map (z0 := z0) (xa := xa) (fv := fv) h
  exact lv_at hl k hk
theorem sto1_map {z0 : Nat} {xa : Nat → Nat} {fv : Value} (hf : fvOK fv) (lv : Lv) (i : Nat) (v : Value) : (sto1 lv i v).map (dQ z0 xa fv) = (i, dV z0 xa fv v) :: (lv.map (dQ z0 xa fv)).filter (fun q => !(q.1 == i) && !(q.1 + 1 == i && q.2.category == 2)) := by
  unfold sto1
  rw [List.map_cons, List.filter_map]
  refine congrArg _ (congrArg _ ?_)
  refine List.filter_congr fun q _ => ?_
  show _ = (!(q.1 == i) && !(q.1 + 1 == i && (dV z0 xa fv q.2).category == 2))
  rw [dV_cat hf]
theorem sto2_map {z0 : Nat} {xa : Nat → Nat} {fv : Value} (hf : fvOK fv) (lv : Lv) (i : Nat) (v : Value) : (sto2 lv i v).map (dQ z0 xa fv) = (i, dV z0 xa fv v) :: (lv.map (dQ z0 xa fv)).filter (fun q => !(q.1 == i) && (!(q.1 == i + 1) && !(q.1 + 1 == i && q.2.category == 2))) := by
  unfold sto2
  rw [List.map_cons, List.filter_map]
  refine congrArg _ (congrArg _ ?_)
  refine List.filter_congr fun q _ => ?_
  show _ = (!(q.1 == i) && (!(q.1 == i + 1) && !(q.1 + 1 == i && (dV z0 xa fv q.2).category == 2)))
  rw [dV_cat hf]
theorem blt_lt {a b : Nat} (h : Nat.blt a b = true) : a < b := by rwa [Nat.blt_eq] at h
theorem cnd_some {α : Type} {b : Bool} {x z : α} (h : (bif b then some x else none) = some z) : b = true ∧ x = z := by
  cases b with
  | false => cases h
  | true => exact ⟨rfl, Option.some.inj h⟩
section SA
variable {p : Program} {l : Launch} {e : Env} {R : Room} {s : State} {m : MethodId} {args : Array Value} {below : List Frame} {meth : Method} {c : Code} {H : Heap} {locs : List Loc} {cells slots : Nat} {Q : State → Prop}
variable {cc : ByteArray} {pc : Nat} {ls : Array Slot} {z0 : Nat} {xa : Nat → Nat} {fv : Value} {nL len : Nat} {lv lv' : Lv} {st st' : List Value}
theorem s_ldI {i : Instr} {k n : Nat} (hi : (∃ q : Fin 4, i = .iload_n q ∧ (q : Nat) = k ∧ n = 1) ∨ (i = .iload k ∧ n = 2)) (hexec : p.tables.exec = Jvm.exec) (hb : c.code = cc) (hd : decode cc pc = .ok (i, n)) (hl : lv_has ls nL (lv.map (dQ z0 xa fv))) (h : ldI lv st k = some (lv', st'))
    (kk : ∀ ls', lv_has ls' nL (lv'.map (dQ z0 xa fv)) → W p l e R s m args below meth c H locs cells slots Q (F0 m (pc + n) ls' (st'.map (dV z0 xa fv)))) : W p l e R s m args below meth c H locs cells slots Q (F0 m pc ls (st.map (dV z0 xa fv))) := by
  unfold ldI at h
  split at h
  · rename_i x hx
    cases h
    rcases hi with ⟨q, rfl, hq, rfl⟩ | ⟨rfl, rfl⟩
    · exact lv_iload_n hexec hb hd hq (lk_at hl hx) (kk ls hl)
    · exact lv_iload hexec hb hd (lk_at hl hx) (kk ls hl)
  · cases h
theorem s_ldL {i : Instr} {k n : Nat} (hi : (∃ q : Fin 4, i = .lload_n q ∧ (q : Nat) = k ∧ n = 1) ∨ (i = .lload k ∧ n = 2)) (hexec : p.tables.exec = Jvm.exec) (hb : c.code = cc) (hd : decode cc pc = .ok (i, n)) (hl : lv_has ls nL (lv.map (dQ z0 xa fv))) (h : ldL lv st k = some (lv', st'))
    (kk : ∀ ls', lv_has ls' nL (lv'.map (dQ z0 xa fv)) → W p l e R s m args below meth c H locs cells slots Q (F0 m (pc + n) ls' (st'.map (dV z0 xa fv)))) : W p l e R s m args below meth c H locs cells slots Q (F0 m pc ls (st.map (dV z0 xa fv))) := by
  unfold ldL at h
  split at h
  · rename_i x hx
    cases h
    rcases hi with ⟨q, rfl, hq, rfl⟩ | ⟨rfl, rfl⟩
    · exact lv_lload_n hexec hb hd hq (lk_at hl hx) (kk ls hl)
    · exact lv_lload hexec hb hd (lk_at hl hx) (kk ls hl)
  · cases h
theorem s_ldA {i : Instr} {k n : Nat} (hi : (∃ q : Fin 4, i = .aload_n q ∧ (q : Nat) = k ∧ n = 1) ∨ (i = .aload k ∧ n = 2)) (hexec : p.tables.exec = Jvm.exec) (hb : c.code = cc) (hd : decode cc pc = .ok (i, n)) (hl : lv_has ls nL (lv.map (dQ z0 xa fv))) (h : ldA lv st k = some (lv', st'))
    (kk : ∀ ls', lv_has ls' nL (lv'.map (dQ z0 xa fv)) → W p l e R s m args below meth c H locs cells slots Q (F0 m (pc + n) ls' (st'.map (dV z0 xa fv)))) : W p l e R s m args below meth c H locs cells slots Q (F0 m pc ls (st.map (dV z0 xa fv))) := by
  have key : ∀ a : Nat, ls[k]? = some (.val (.ref a)) → W p l e R s m args below meth c H locs cells slots Q (F0 m (pc + n) ls (.ref a :: st.map (dV z0 xa fv))) → W p l e R s m args below meth c H locs cells slots Q (F0 m pc ls (st.map (dV z0 xa fv))) := by
    intro a ha hk
    rcases hi with ⟨q, rfl, hq, rfl⟩ | ⟨rfl, rfl⟩
    · exact lv_aload_n hexec hb hd hq ha hk
    · exact lv_aload hexec hb hd ha hk
  unfold ldA at h
  split at h
  · rename_i x hx
    cases h
    exact key _ (lk_at hl hx) (kk ls hl)
  · rename_i x hx
    have h15 : Nat.beq x 15 = false := by
      cases q : Nat.beq x 15 with
      | false => rfl
      | true => rw [q] at h; cases h
    rw [h15] at h
    cases h
    have hd2 : dV z0 xa fv (.retAddr x) = .ref (xa x) := by show (bif Nat.beq x 15 then fv else Value.ref (xa x)) = _; rw [h15]; rfl
    have h1 := lk_at hl hx
    rw [hd2] at h1
    have h2 := kk ls hl
    rw [List.map_cons, hd2] at h2
    exact key _ h1 h2
  · cases h
theorem s_soI {i : Instr} {k n : Nat} (hf : fvOK fv) (hi : (∃ q : Fin 4, i = .istore_n q ∧ (q : Nat) = k ∧ n = 1) ∨ (i = .istore k ∧ n = 2)) (hexec : p.tables.exec = Jvm.exec) (hb : c.code = cc) (hd : decode cc pc = .ok (i, n)) (hl : lv_has ls nL (lv.map (dQ z0 xa fv))) (h : soI nL lv st k = some (lv', st'))
    (kk : ∀ ls', lv_has ls' nL (lv'.map (dQ z0 xa fv)) → W p l e R s m args below meth c H locs cells slots Q (F0 m (pc + n) ls' (st'.map (dV z0 xa fv)))) : W p l e R s m args below meth c H locs cells slots Q (F0 m pc ls (st.map (dV z0 xa fv))) := by
  unfold soI at h
  split at h
  · rename_i x r
    obtain ⟨h1, h2⟩ := cnd_some h
    cases h2
    rcases hi with ⟨q, rfl, hq, rfl⟩ | ⟨rfl, rfl⟩
    · exact lv_istore_n hexec hb hd hq hl (blt_lt h1) (sto1_map hf lv k (.int x)).symm kk
    · exact lv_istore hexec hb hd hl (blt_lt h1) (sto1_map hf lv k (.int x)).symm kk
  · cases h
theorem s_soL {i : Instr} {k n : Nat} (hf : fvOK fv) (hi : (∃ q : Fin 4, i = .lstore_n q ∧ (q : Nat) = k ∧ n = 1) ∨ (i = .lstore k ∧ n = 2)) (hexec : p.tables.exec = Jvm.exec) (hb : c.code = cc) (hd : decode cc pc = .ok (i, n)) (hl : lv_has ls nL (lv.map (dQ z0 xa fv))) (h : soL nL lv st k = some (lv', st'))
    (kk : ∀ ls', lv_has ls' nL (lv'.map (dQ z0 xa fv)) → W p l e R s m args below meth c H locs cells slots Q (F0 m (pc + n) ls' (st'.map (dV z0 xa fv)))) : W p l e R s m args below meth c H locs cells slots Q (F0 m pc ls (st.map (dV z0 xa fv))) := by
  unfold soL at h
  split at h
  · rename_i x r
    obtain ⟨h1, h2⟩ := cnd_some h
    cases h2
    rcases hi with ⟨q, rfl, hq, rfl⟩ | ⟨rfl, rfl⟩
    · exact lv_lstore_n hexec hb hd hq hl (blt_lt h1) (sto2_map hf lv k (.long x)).symm kk
    · exact lv_lstore hexec hb hd hl (blt_lt h1) (sto2_map hf lv k (.long x)).symm kk
  · cases h
theorem s_soA {i : Instr} {k n : Nat} (hf : fvOK fv) (hi : (∃ q : Fin 4, i = .astore_n q ∧ (q : Nat) = k ∧ n = 1) ∨ (i = .astore k ∧ n = 2)) (hexec : p.tables.exec = Jvm.exec) (hb : c.code = cc) (hd : decode cc pc = .ok (i, n)) (hl : lv_has ls nL (lv.map (dQ z0 xa fv))) (h : soA nL lv st k = some (lv', st'))
    (kk : ∀ ls', lv_has ls' nL (lv'.map (dQ z0 xa fv)) → W p l e R s m args below meth c H locs cells slots Q (F0 m (pc + n) ls' (st'.map (dV z0 xa fv)))) : W p l e R s m args below meth c H locs cells slots Q (F0 m pc ls (st.map (dV z0 xa fv))) := by
  have key : ∀ (v : Value) (a : Nat) (r : List Value), dV z0 xa fv v = .ref a → k < nL → (∀ ls', lv_has ls' nL ((sto1 lv k v).map (dQ z0 xa fv)) → W p l e R s m args below meth c H locs cells slots Q (F0 m (pc + n) ls' (r.map (dV z0 xa fv)))) → W p l e R s m args below meth c H locs cells slots Q (F0 m pc ls (.ref a :: r.map (dV z0 xa fv))) := by
    intro v a r ha hk k2
    have h3 := (sto1_map (z0 := z0) (xa := xa) hf lv k v).symm
    rw [ha] at h3
    rcases hi with ⟨q, rfl, hq, rfl⟩ | ⟨rfl, rfl⟩
    · exact lv_astore_n hexec hb hd hq hl hk h3 k2
    · exact lv_astore hexec hb hd hl hk h3 k2
  unfold soA at h
  split at h
  · rename_i x r
    obtain ⟨h1, h2⟩ := cnd_some h
    cases h2
    exact key (.ref x) _ _ rfl (blt_lt h1) kk
  · rename_i x r
    obtain ⟨h1, h2⟩ := cnd_some h
    cases h2
    rw [Bool.and_eq_true, Bool.not_eq_true'] at h1
    have hd2 : dV z0 xa fv (.retAddr x) = .ref (xa x) := by show (bif Nat.beq x 15 then fv else Value.ref (xa x)) = _; rw [h1.2]; rfl
    rw [List.map_cons, hd2]
    exact key (.retAddr x) _ _ hd2 (blt_lt h1.1) kk
  · cases h
/-- constants, locals, the stack -/
theorem sA {i : Instr} (hf : fvOK fv) (hexec : p.tables.exec = Jvm.exec) (hb : c.code = cc) (hd : decode cc pc = .ok (i, len)) (hn : iLen i = 0 ∨ iLen i = len) (hl : lv_has ls nL (lv.map (dQ z0 xa fv))) (h : stA nL i lv st = some (lv', st'))
    (kk : ∀ ls', lv_has ls' nL (lv'.map (dQ z0 xa fv)) → W p l e R s m args below meth c H locs cells slots Q (F0 m (pc + len) ls' (st'.map (dV z0 xa fv)))) : W p l e R s m args below meth c H locs cells slots Q (F0 m pc ls (st.map (dV z0 xa fv))) := by
  unfold stA at h
  split at h
  · obtain rfl : 1 = len := hn.resolve_left (Nat.succ_ne_zero _)
    cases h
    exact lv_iconst hexec hb hd rfl (kk ls hl)
  · obtain rfl : 2 = len := hn.resolve_left (Nat.succ_ne_zero _)
    cases h
    exact lv_bipush hexec hb hd rfl (kk ls hl)
  · obtain rfl : 3 = len := hn.resolve_left (Nat.succ_ne_zero _)
    cases h
    exact lv_sipush hexec hb hd rfl (kk ls hl)
  · obtain rfl : 1 = len := hn.resolve_left (Nat.succ_ne_zero _)
    cases h
    exact lv_lconst hexec hb hd rfl (kk ls hl)
  · obtain rfl : 1 = len := hn.resolve_left (Nat.succ_ne_zero _)
    exact s_ldI (Or.inl ⟨_, rfl, rfl, rfl⟩) hexec hb hd hl h kk
  · obtain rfl : 2 = len := hn.resolve_left (Nat.succ_ne_zero _)
    exact s_ldI (Or.inr ⟨rfl, rfl⟩) hexec hb hd hl h kk
  · obtain rfl : 1 = len := hn.resolve_left (Nat.succ_ne_zero _)
    exact s_ldL (Or.inl ⟨_, rfl, rfl, rfl⟩) hexec hb hd hl h kk
  · obtain rfl : 2 = len := hn.resolve_left (Nat.succ_ne_zero _)
    exact s_ldL (Or.inr ⟨rfl, rfl⟩) hexec hb hd hl h kk
  · obtain rfl : 1 = len := hn.resolve_left (Nat.succ_ne_zero _)
    exact s_ldA (Or.inl ⟨_, rfl, rfl, rfl⟩) hexec hb hd hl h kk
  · obtain rfl : 2 = len := hn.resolve_left (Nat.succ_ne_zero _)
    exact s_ldA (Or.inr ⟨rfl, rfl⟩) hexec hb hd hl h kk
  · obtain rfl : 1 = len := hn.resolve_left (Nat.succ_ne_zero _)
    exact s_soI hf (Or.inl ⟨_, rfl, rfl, rfl⟩) hexec hb hd hl h kk
  · obtain rfl : 2 = len := hn.resolve_left (Nat.succ_ne_zero _)
    exact s_soI hf (Or.inr ⟨rfl, rfl⟩) hexec hb hd hl h kk
  · obtain rfl : 1 = len := hn.resolve_left (Nat.succ_ne_zero _)
    exact s_soL hf (Or.inl ⟨_, rfl, rfl, rfl⟩) hexec hb hd hl h kk
  · obtain rfl : 2 = len := hn.resolve_left (Nat.succ_ne_zero _)
    exact s_soL hf (Or.inr ⟨rfl, rfl⟩) hexec hb hd hl h kk
  · obtain rfl : 1 = len := hn.resolve_left (Nat.succ_ne_zero _)
    exact s_soA hf (Or.inl ⟨_, rfl, rfl, rfl⟩) hexec hb hd hl h kk
  · obtain rfl : 2 = len := hn.resolve_left (Nat.succ_ne_zero _)
    exact s_soA hf (Or.inr ⟨rfl, rfl⟩) hexec hb hd hl h kk
  · obtain rfl : 3 = len := hn.resolve_left (Nat.succ_ne_zero _)
    split at h
    · rename_i x hx
      obtain ⟨h1, h2⟩ := cnd_some h
      cases h2
      obtain ⟨q, hq⟩ := lk_map (z0 := z0) (xa := xa) (fv := fv) hx
      exact lv_iinc hexec hb hd hl hq rfl (blt_lt h1) (sto1_map hf lv _ (.int _)).symm kk
    · cases h
  · obtain rfl : 1 = len := hn.resolve_left (Nat.succ_ne_zero _)
    split at h
    · obtain ⟨h1, h2⟩ := cnd_some h
      cases h2
      exact lv_dup hexec hb hd (by rw [dV_cat hf]; exact Nat.eq_of_beq_eq_true h1) (kk ls hl)
    · cases h
  · obtain rfl : 1 = len := hn.resolve_left (Nat.succ_ne_zero _)
    split at h
    · obtain ⟨h1, h2⟩ := cnd_some h
      cases h2
      exact lv_pop hexec hb hd (by rw [dV_cat hf]; exact Nat.eq_of_beq_eq_true h1) (kk ls hl)
    · cases h
  · obtain rfl : 1 = len := hn.resolve_left (Nat.succ_ne_zero _)
    split at h
    · obtain ⟨h1, h2⟩ := cnd_some h
      cases h2
      rw [Bool.and_eq_true] at h1
      exact lv_dup2_11 hexec hb hd (by rw [dV_cat hf]; exact Nat.eq_of_beq_eq_true h1.1) (by rw [dV_cat hf]; exact Nat.eq_of_beq_eq_true h1.2) (kk ls hl)
    · cases h
  · cases h
theorem p2_some {st : List Value} {k : Int32 → Int32 → List Value → Option (List Value)} {z : List Value} (h : p2 st k = some z) : ∃ x y r, st = .int y :: .int x :: r ∧ k x y r = some z := by
  unfold p2 at h
  split at h
  · exact ⟨_, _, _, rfl, h⟩
  · cases h
theorem p2l_some {st : List Value} {k : Int64 → Int64 → List Value → Option (List Value)} {z : List Value} (h : p2l st k = some z) : ∃ x y r, st = .long y :: .long x :: r ∧ k x y r = some z := by
  unfold p2l at h
  split at h
  · exact ⟨_, _, _, rfl, h⟩
  · cases h
theorem p1_some {st : List Value} {k : Int32 → List Value → Option (List Value)} {z : List Value} (h : p1 st k = some z) : ∃ x r, st = .int x :: r ∧ k x r = some z := by
  unfold p1 at h
  split at h
  · exact ⟨_, _, rfl, h⟩
  · cases h
/-- arithmetic -/
theorem sB {i : Instr} (hexec : p.tables.exec = Jvm.exec) (hb : c.code = cc) (hd : decode cc pc = .ok (i, len)) (hn : iLen i = 0 ∨ iLen i = len) (h : stB i st = some st')
    (kk : W p l e R s m args below meth c H locs cells slots Q (F0 m (pc + len) ls (st'.map (dV z0 xa fv)))) : W p l e R s m args below meth c H locs cells slots Q (F0 m pc ls (st.map (dV z0 xa fv))) := by
  unfold stB at h
  split at h
  · obtain rfl : 1 = len := hn.resolve_left (Nat.succ_ne_zero _)
    obtain ⟨x, y, r, rfl, h2⟩ := p2_some h; clear h; have h := h2; clear h2; cases h; exact lv_iadd hexec hb hd kk
  · obtain rfl : 1 = len := hn.resolve_left (Nat.succ_ne_zero _)
    obtain ⟨x, y, r, rfl, h2⟩ := p2_some h; clear h; have h := h2; clear h2; cases h; exact lv_isub hexec hb hd kk
  · obtain rfl : 1 = len := hn.resolve_left (Nat.succ_ne_zero _)
    obtain ⟨x, y, r, rfl, h2⟩ := p2_some h; clear h; have h := h2; clear h2; cases h; exact lv_imul hexec hb hd kk
  · obtain rfl : 1 = len := hn.resolve_left (Nat.succ_ne_zero _)
    obtain ⟨x, y, r, rfl, h2⟩ := p2_some h; clear h; have h := h2; clear h2; cases h; exact lv_iand hexec hb hd kk
  · obtain rfl : 1 = len := hn.resolve_left (Nat.succ_ne_zero _)
    obtain ⟨x, y, r, rfl, h2⟩ := p2_some h; clear h; have h := h2; clear h2; cases h; exact lv_ior hexec hb hd kk
  · obtain rfl : 1 = len := hn.resolve_left (Nat.succ_ne_zero _)
    obtain ⟨x, y, r, rfl, h2⟩ := p2_some h; clear h; have h := h2; clear h2; cases h; exact lv_ixor hexec hb hd kk
  · obtain rfl : 1 = len := hn.resolve_left (Nat.succ_ne_zero _)
    obtain ⟨x, y, r, rfl, h2⟩ := p2_some h; clear h; have h := h2; clear h2; cases h; exact lv_ishl hexec hb hd kk
  · obtain rfl : 1 = len := hn.resolve_left (Nat.succ_ne_zero _)
    obtain ⟨x, y, r, rfl, h2⟩ := p2_some h; clear h; have h := h2; clear h2; cases h; exact lv_ishr hexec hb hd kk
  · obtain rfl : 1 = len := hn.resolve_left (Nat.succ_ne_zero _)
    obtain ⟨x, y, r, rfl, h2⟩ := p2_some h; clear h; have h := h2; clear h2; cases h; exact lv_iushr hexec hb hd rfl kk
  · obtain rfl : 1 = len := hn.resolve_left (Nat.succ_ne_zero _)
    obtain ⟨x, y, r, rfl, h2⟩ := p2_some h; clear h; have h := h2; clear h2
    by_cases hy : y = 0
    · rw [if_pos hy] at h; cases h
    · rw [if_neg hy] at h; cases h; exact lv_idiv hexec hb hd hy kk
  · obtain rfl : 1 = len := hn.resolve_left (Nat.succ_ne_zero _)
    obtain ⟨x, y, r, rfl, h2⟩ := p2_some h; clear h; have h := h2; clear h2
    by_cases hy : y = 0
    · rw [if_pos hy] at h; cases h
    · rw [if_neg hy] at h; cases h; exact lv_irem hexec hb hd hy kk
  · obtain rfl : 1 = len := hn.resolve_left (Nat.succ_ne_zero _)
    obtain ⟨x, r, rfl, h2⟩ := p1_some h; clear h; have h := h2; clear h2; cases h; exact lv_ineg hexec hb hd kk
  · obtain rfl : 1 = len := hn.resolve_left (Nat.succ_ne_zero _)
    obtain ⟨x, r, rfl, h2⟩ := p1_some h; clear h; have h := h2; clear h2; cases h; exact lv_i2l hexec hb hd rfl kk
  · obtain rfl : 1 = len := hn.resolve_left (Nat.succ_ne_zero _)
    obtain ⟨x, r, rfl, h2⟩ := p1_some h; clear h; have h := h2; clear h2; cases h; exact lv_i2b hexec hb hd rfl kk
  · obtain rfl : 1 = len := hn.resolve_left (Nat.succ_ne_zero _)
    obtain ⟨x, r, rfl, h2⟩ := p1_some h; clear h; have h := h2; clear h2; cases h; exact lv_i2s hexec hb hd rfl kk
  · obtain rfl : 1 = len := hn.resolve_left (Nat.succ_ne_zero _)
    obtain ⟨x, r, rfl, h2⟩ := p1_some h; clear h; have h := h2; clear h2; cases h; exact lv_i2c hexec hb hd rfl kk
  · obtain rfl : 1 = len := hn.resolve_left (Nat.succ_ne_zero _)
    split at h
    · cases h; exact lv_l2i hexec hb hd rfl kk
    · cases h
  · obtain rfl : 1 = len := hn.resolve_left (Nat.succ_ne_zero _)
    obtain ⟨x, y, r, rfl, h2⟩ := p2l_some h; clear h; have h := h2; clear h2; cases h; exact lv_land hexec hb hd kk
  · obtain rfl : 1 = len := hn.resolve_left (Nat.succ_ne_zero _)
    obtain ⟨x, y, r, rfl, h2⟩ := p2l_some h; clear h; have h := h2; clear h2; cases h; exact lv_lor hexec hb hd kk
  · obtain rfl : 1 = len := hn.resolve_left (Nat.succ_ne_zero _)
    obtain ⟨x, y, r, rfl, h2⟩ := p2l_some h; clear h; have h := h2; clear h2; cases h; exact W.lcmp hexec hb hd kk
  · obtain rfl : 1 = len := hn.resolve_left (Nat.succ_ne_zero _)
    split at h
    · cases h; exact lv_lshl hexec hb hd rfl kk
    · cases h
  · cases h
theorem q2_some {st : List Value} {k : Int32 → Int32 → List Value → Option (Nat × List Value)} {z : Nat × List Value} (h : q2 st k = some z) : ∃ x y r, st = .int y :: .int x :: r ∧ k x y r = some z := by
  unfold q2 at h
  split at h
  · exact ⟨_, _, _, rfl, h⟩
  · cases h
theorem q1_some {st : List Value} {k : Int32 → List Value → Option (Nat × List Value)} {z : Nat × List Value} (h : q1 st k = some z) : ∃ x r, st = .int x :: r ∧ k x r = some z := by
  unfold q1 at h
  split at h
  · exact ⟨_, _, rfl, h⟩
  · cases h
/-- where a jump goes, as printed -/
def jmpOK (pc a : Nat) (i : Instr) : Prop := match i with
  | .goto off => (pc : Int) + off = (a : Int)
  | .ifCond _ off => (pc : Int) + off = (a : Int)
  | .if_icmp _ off => (pc : Int) + off = (a : Int)
  | .lookupswitch _ ps => (ps.toList.zip (ps.toList.drop 1)).all (fun (q, next) => q.1 < next.1) = true
  | _ => True
/-- branches -/
theorem sC {i : Instr} {a pc' : Nat} (hexec : p.tables.exec = Jvm.exec) (hb : c.code = cc) (hd : decode cc pc = .ok (i, len)) (hn : iLen i = 0 ∨ iLen i = len) (hj : jmpOK pc a i) (h : stC pc (pc + len) a i st = some (pc', st'))
    (kk : W p l e R s m args below meth c H locs cells slots Q (F0 m pc' ls (st'.map (dV z0 xa fv)))) : W p l e R s m args below meth c H locs cells slots Q (F0 m pc ls (st.map (dV z0 xa fv))) := by
  unfold stC at h
  split at h
  · obtain rfl : 3 = len := hn.resolve_left (Nat.succ_ne_zero _)
    cases h
    exact lv_goto hexec hb hd hj kk
  · obtain rfl : 3 = len := hn.resolve_left (Nat.succ_ne_zero _)
    obtain ⟨x, r, rfl, h2⟩ := q1_some h; clear h; have h := h2; clear h2; cases h
    exact lv_if_eq hexec hb hd hj (fun q => by rw [if_pos q] at kk; exact kk) (fun q => by rw [if_neg q] at kk; exact kk)
  · obtain rfl : 3 = len := hn.resolve_left (Nat.succ_ne_zero _)
    obtain ⟨x, r, rfl, h2⟩ := q1_some h; clear h; have h := h2; clear h2; cases h
    exact lv_if_ne hexec hb hd hj (fun q => by rw [if_neg q] at kk; exact kk) (fun q => by rw [if_pos q] at kk; exact kk)
  · obtain rfl : 3 = len := hn.resolve_left (Nat.succ_ne_zero _)
    obtain ⟨x, r, rfl, h2⟩ := q1_some h; clear h; have h := h2; clear h2; cases h
    exact lv_if_lt hexec hb hd hj (fun q => by rw [if_pos q] at kk; exact kk) (fun q => by rw [if_neg q] at kk; exact kk)
  · obtain rfl : 3 = len := hn.resolve_left (Nat.succ_ne_zero _)
    obtain ⟨x, r, rfl, h2⟩ := q1_some h; clear h; have h := h2; clear h2; cases h
    exact lv_if_ge hexec hb hd hj (fun q => by rw [if_pos q] at kk; exact kk) (fun q => by rw [if_neg q] at kk; exact kk)
  · obtain rfl : 3 = len := hn.resolve_left (Nat.succ_ne_zero _)
    obtain ⟨x, r, rfl, h2⟩ := q1_some h; clear h; have h := h2; clear h2; cases h
    exact lv_if_gt hexec hb hd hj (fun q => by rw [if_pos q] at kk; exact kk) (fun q => by rw [if_neg q] at kk; exact kk)
  · obtain rfl : 3 = len := hn.resolve_left (Nat.succ_ne_zero _)
    obtain ⟨x, r, rfl, h2⟩ := q1_some h; clear h; have h := h2; clear h2; cases h
    exact lv_if_le hexec hb hd hj (fun q => by rw [if_pos q] at kk; exact kk) (fun q => by rw [if_neg q] at kk; exact kk)
  · obtain rfl : 3 = len := hn.resolve_left (Nat.succ_ne_zero _)
    obtain ⟨x, y, r, rfl, h2⟩ := q2_some h; clear h; have h := h2; clear h2; cases h
    exact lv_icmp_eq hexec hb hd hj (fun q => by rw [if_pos q] at kk; exact kk) (fun q => by rw [if_neg q] at kk; exact kk)
  · obtain rfl : 3 = len := hn.resolve_left (Nat.succ_ne_zero _)
    obtain ⟨x, y, r, rfl, h2⟩ := q2_some h; clear h; have h := h2; clear h2; cases h
    exact lv_icmp_ne hexec hb hd hj (fun q => by rw [if_neg q] at kk; exact kk) (fun q => by rw [if_pos q] at kk; exact kk)
  · obtain rfl : 3 = len := hn.resolve_left (Nat.succ_ne_zero _)
    obtain ⟨x, y, r, rfl, h2⟩ := q2_some h; clear h; have h := h2; clear h2; cases h
    exact lv_icmp_lt hexec hb hd hj (fun q => by rw [if_pos q] at kk; exact kk) (fun q => by rw [if_neg q] at kk; exact kk)
  · obtain rfl : 3 = len := hn.resolve_left (Nat.succ_ne_zero _)
    obtain ⟨x, y, r, rfl, h2⟩ := q2_some h; clear h; have h := h2; clear h2; cases h
    exact lv_icmp_ge hexec hb hd hj (fun q => by rw [if_pos q] at kk; exact kk) (fun q => by rw [if_neg q] at kk; exact kk)
  · obtain rfl : 3 = len := hn.resolve_left (Nat.succ_ne_zero _)
    obtain ⟨x, y, r, rfl, h2⟩ := q2_some h; clear h; have h := h2; clear h2; cases h
    exact lv_icmp_gt hexec hb hd hj (fun q => by rw [if_pos q] at kk; exact kk) (fun q => by rw [if_neg q] at kk; exact kk)
  · obtain rfl : 3 = len := hn.resolve_left (Nat.succ_ne_zero _)
    obtain ⟨x, y, r, rfl, h2⟩ := q2_some h; clear h; have h := h2; clear h2; cases h
    exact lv_icmp_le hexec hb hd hj (fun q => by rw [if_pos q] at kk; exact kk) (fun q => by rw [if_neg q] at kk; exact kk)
  · obtain ⟨x, r, rfl, h2⟩ := q1_some h; clear h; have h := h2; clear h2
    unfold tsw at h
    rename_i dflt lo hi offs
    by_cases hx : x.toInt < lo ∨ hi < x.toInt
    · rw [if_pos hx] at h
      dsimp only at h
      by_cases ht : 0 ≤ (pc : Int) + dflt
      · rw [if_pos ht] at h
        cases h
        exact lv_tableOut hexec hb hd hx (by omega) kk
      · rw [if_neg ht] at h; cases h
    · rw [if_neg hx] at h
      cases ho : offs[(x.toInt - lo).toNat]? with
      | none => rw [ho] at h; cases h
      | some o =>
        rw [ho] at h
        dsimp only [Option.map] at h
        by_cases ht : 0 ≤ (pc : Int) + o
        · rw [if_pos ht] at h
          cases h
          exact lv_tableIn hexec hb hd (fun q => hx (Or.inl q)) (fun q => hx (Or.inr q)) ho (by omega) kk
        · rw [if_neg ht] at h; cases h
  · obtain ⟨x, r, rfl, h2⟩ := q1_some h; clear h; have h := h2; clear h2
    split at h
    · rename_i ht
      cases h
      exact lv_lookup hexec hb hd hj rfl (by omega) kk
    · cases h
  · cases h
end SA
