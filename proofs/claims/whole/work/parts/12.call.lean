/-! calls and returns: a run of the reader is a run of the machine -/
theorem slt_mono {a b : Nat} (h : a ≤ b) : slt a ≤ slt b := by
  induction b with
  | zero => rw [Nat.le_zero.mp h]; exact Nat.le_refl _
  | succ b ih =>
    by_cases q : a = b + 1
    · rw [q]; exact Nat.le_refl _
    · exact Nat.le_trans (ih (by omega)) (Nat.le_add_right _ _)
theorem stD_le {L : Nat} {xs : Nat → Int32} {d : Nat} {i : Instr} {a b t q : Nat} {st st' : List Value} {hp hp' : Hp} (h : stD L xs d i a b t q st hp = some (st', hp')) : hp.1 ≤ hp'.1 := by
  have c1 : ∀ {b : Bool} {x : List Value} {y : Hp}, (bif b then some (x, y) else none) = some (st', hp') → hp.1 ≤ y.1 → hp.1 ≤ hp'.1 := by
    intro b x y e he
    obtain ⟨-, h2⟩ := cnd_some e
    cases h2
    exact he
  have c2 : ∀ {o : Option (List Value)}, o.map (fun r => (r, hp)) = some (st', hp') → hp.1 ≤ hp'.1 := by
    intro o e
    have := (map_fst e).2
    dsimp only at this
    rw [this]
    exact Nat.le_refl _
  unfold stD at h
  split at h
  · exact c2 h
  · unfold putF at h; split at h
    · exact c1 h (Nat.le_refl _)
    · exact c1 h (Nat.le_refl _)
    · cases h
  · exact c2 h
  · exact c2 h
  · exact c2 h
  · exact c2 h
  · exact c2 h
  · unfold iast at h; split at h
    · exact c1 h (Nat.le_refl _)
    · cases h
  · unfold bast at h; split at h
    · exact c1 h (Nat.le_refl _)
    · cases h
  · unfold last_ at h; split at h
    · exact c1 h (Nat.le_refl _)
    · cases h
  · unfold aast at h; split at h
    · exact c1 h (Nat.le_refl _)
    · cases h
  · cases hq : Nat.blt q 9000 with
    | false => rw [hq] at h; cases h
    | true =>
      rw [hq] at h
      obtain ⟨v, h1, h2⟩ := map_p1 h
      cases h2
      exact Nat.le_refl _
  · exact c1 h (Nat.le_succ _)
  · obtain ⟨v, r, -, -, -, -, -, -, rfl⟩ := mkA_of h; exact Nat.le_succ _
  · obtain ⟨v, r, -, -, -, -, -, -, rfl⟩ := mkA_of h; exact Nat.le_succ _
  · cases h; exact Nat.le_refl _
  · cases h; exact Nat.le_refl _
  · cases h; exact Nat.le_refl _
  · cases h2d : Nat.ble 2 d with
    | false => rw [h2d] at h; cases h
    | true =>
      rw [h2d] at h
      simp only [cond_true] at h
      cases q1 : Nat.beq a 1000 with
      | true =>
        rw [q1] at h
        simp only [cond_true] at h
        unfold acpy at h
        split at h
        · rename_i n dp k1 sp k0 r
          cases hg : (!decide (sp < 0) && !decide (dp < 0) && !decide (n < 0) && Nat.ble (sp.toNatClampNeg + n.toNatClampNeg) (SH k0).2 && Nat.ble (dp.toNatClampNeg + n.toNatClampNeg) (SH k1).2 && Nat.ble (catS r) 8) with
          | false => rw [hg] at h; cases h
          | true =>
            rw [hg] at h
            simp only [cond_true] at h
            cases hi : (isK hp k0 11 && isK hp k1 11) with
            | true => rw [hi] at h; cases h; exact Nat.le_refl _
            | false => rw [hi] at h; exact c1 h (Nat.le_refl _)
        · cases h
      | false =>
        rw [q1] at h
        simp only [cond_false] at h
        cases q2 : Nat.beq a 1002 with
        | true => rw [q2] at h; exact c2 h
        | false =>
          rw [q2] at h
          simp only [cond_false] at h
          cases q3 : Nat.beq a 1003 with
          | true => rw [q3] at h; exact c2 h
          | false => rw [q3] at h; cases h
  · cases h2d : (Nat.ble 2 d && Nat.beq a 1001) with
    | false => rw [h2d] at h; cases h
    | true =>
      rw [h2d] at h
      simp only [cond_true] at h
      split at h
      · exact c1 h (Nat.le_refl _)
      · cases h
  · cases h
theorem stp_le {L : Nat} {xs : Nat → Int32} {d nL pc : Nat} {en : Ent} {lv : Lv} {st : List Value} {hp : Hp} {cf : Nat × Lv × List Value × Hp} (h : stp L xs d nL pc en lv st hp = some cf) : hp.1 ≤ cf.2.2.2.1 := by
  unfold stp at h
  split at h
  · cases h; exact Nat.le_refl _
  · split at h
    · cases h; exact Nat.le_refl _
    · split at h
      · cases h; exact Nat.le_refl _
      · split at h
        · rename_i x hD
          cases h
          exact stD_le hD
        · cases h
theorem exec_le {L : Nat} {xs : Nat → Int32} : ∀ {n d q pc : Nat} {lv : Lv} {st : List Value} {hp : Hp} {r : Rs}, exec L xs n d q pc lv st hp = some r → hp.1 ≤ r.2.1 := by
  intro n
  induction n with
  | zero => intro d q pc lv st hp r h; cases h
  | succ n ih =>
    intro d q pc lv st hp r h
    unfold exec nxt at h
    split at h
    · cases h
    · rename_i en he
      cases k0 : Nat.beq (kindI en.1 en.2.2.1) 0 with
      | true =>
        rw [k0] at h
        simp only [cond_true] at h
        split at h
        · rename_i cf hs
          exact Nat.le_trans (stp_le hs) (ih h)
        · cases h
      | false =>
        rw [k0] at h
        simp only [cond_false] at h
        cases k1 : Nat.beq (kindI en.1 en.2.2.1) 1 with
        | true =>
          rw [k1] at h
          simp only [cond_true] at h
          split at h
          · cases h
          · obtain ⟨-, h⟩ : _ ∧ _ := ⟨trivial, h⟩
            revert h
            generalize (Nat.blt 0 en.2.2.1 && Nat.blt en.2.2.1 mCnt && Nat.ble (mTk en.2.2.1) st.length && Nat.ble (catS (st.drop (mTk en.2.2.1))) 8 && rcvOK hp (bif mI en.2.2.1 then 1 else en.2.2.2.2.1) (mC en.2.2.1) (st.take (mTk en.2.2.1)).reverse && Nat.ble (lg_sl (st.take (mTk en.2.2.1)).reverse).length (mL en.2.2.1)) = bb
            intro h
            cases bb with
            | false => cases h
            | true =>
              simp only [cond_true] at h
              split at h
              · rename_i x hs
                exact Nat.le_trans (ih hs) (ih h)
              · cases h
        | false =>
          rw [k1] at h
          simp only [cond_false] at h
          split at h
          · cases h; exact Nat.le_refl _
          · cases h
def retD (cc : ByteArray) (pc : Nat) (ret : Option FieldType) (r : Option Value) : Prop := match r with
  | none => decode cc pc = .ok (.return_, 1) ∧ ret = none
  | some (.int x) => decode cc pc = .ok (.ireturn, 1) ∧ ∃ ty, ret = some ty ∧ narrow ty (.int x) = .int x
  | some (.long _) => decode cc pc = .ok (.lreturn, 1) ∧ ret = some .long
  | some (.ref _) => decode cc pc = .ok (.areturn, 1) ∧ ∃ nm, ret = some (.object nm)
  | _ => False
def mPc (z0 : Nat) (xa : Nat → Nat) (fv : Value) (L : Nat) (xs : Nat → Int32) (D : va_G) (κ : Nat → ClassId) (as : List Value) (hp : Hp) : Array Value → State → Prop := fun a U => a = (as.map (dV z0 xa fv)).toArray ∧ Rel z0 κ D hp U.heap ∧ XK z0 xa fv L xs D κ U U.heap ∧ U.heap.size = z0 + hp.1
def mQc (z0 : Nat) (xa : Nat → Nat) (fv : Value) (D : va_G) (κ : Nat → ClassId) (r : Option Value) (hp : Hp) : Array Value → State → Outcome → State → Prop := fun _ st o t => o = .returned (r.map (dV z0 xa fv)) ∧ Rel z0 κ D hp t.heap ∧ va_F (aA z0) st t
theorem mPc_blind {z0 : Nat} {xa : Nat → Nat} {fv : Value} {L : Nat} {xs : Nat → Int32} {D : va_G} {κ : Nat → ClassId} {as : List Value} {hp : Hp} : FrameBlind (mPc z0 xa fv L xs D κ as hp) :=
  fun a U g mk h => ⟨h.1, h.2.1, XK.same (u := U) (U := U.calling g mk a) rfl rfl h.2.2.1, h.2.2.2⟩
noncomputable def mWs (q : Nat) : List Cond := Cond.code (mY q) (mB q) (mL q) (mR q) :: GW
noncomputable def mRm (d : Nat) (hp hp' : Hp) : Room := { frames := d, cells := hp'.1 - hp.1, slots := slt hp'.1 - slt hp.1, locals := 40 * d }
theorem lv_args_map {z0 : Nat} {xa : Nat → Nat} {fv : Value} (hf : fvOK fv) (vs : List Value) : ∀ i : Nat, lv_args i (vs.map (dV z0 xa fv)) = (lv_args i vs).map (dQ z0 xa fv) := by
  induction vs with
  | nil => intro i; rfl
  | cons v r ih =>
    intro i
    rw [List.map_cons]
    simp only [lv_args, List.map_cons]
    rw [dV_cat hf, ih]
    rfl
theorem lg_sl_map {z0 : Nat} {xa : Nat → Nat} {fv : Value} (hf : fvOK fv) (vs : List Value) : (lg_sl (vs.map (dV z0 xa fv))).length = (lg_sl vs).length := by
  induction vs with
  | nil => rfl
  | cons v r ih =>
    unfold lg_sl at ih ⊢
    rw [List.map_cons, List.flatMap_cons, List.flatMap_cons, List.length_append, List.length_append, ih, dV_cat hf]
    split <;> rfl
section SG
variable {p : Program} {l : Launch} {e : Env} {R : Room} {s : State} {m : MethodId} {args : Array Value} {below : List Frame} {meth : Method} {c : Code} {H : Heap} {locs : List Loc} {cells slots : Nat} {Q : State → Prop}
variable {pc : Nat} {ls : Array Slot} {z0 : Nat} {xa : Nat → Nat} {fv : Value} {L : Nat} {xs : Nat → Int32} {D : va_G} {κ : Nat → ClassId} {st : List Value} {hp hp1 : Hp} {o : Nat}
theorem va_callX {mc ms : Nat} {st0 rest : List Value} {a : Array Value} {r : Option Value} (hr : va_Run p l e R s m args below meth c H locs cells slots mc ms (F0 m pc ls st0) rest (mQc z0 xa fv D κ r hp1 a) (aA z0)) (hS : va_S (aA z0) s.heap H locs)
    (kk : ∀ H1 locs1, Rel z0 κ D hp1 H1 → va_S (aA z0) s.heap H1 locs1 → W p l e R s m args below meth c H1 locs1 (cells + mc) (slots + ms) Q (F0 m (pc + 3) ls ((r.map (dV z0 xa fv)).toList ++ rest))) : W p l e R s m args below meth c H locs cells slots Q (F0 m pc ls st0) := by
  intro T hT X
  obtain ⟨v, st₀, t, T', L2, h0, X', hL, e1, e2, ⟨hv, hRel, hz, hk⟩, st⟩ := hr T hT X
  cases hv
  rw [h0] at hz hk
  obtain ⟨t2, a1, b1⟩ := kk T'.heap (locs ++ L2) (by rw [e1]; exact hRel) ⟨Nat.le_trans hS.1 (by rw [e1]; exact hz), fun q h1 h2 => by rw [e1, hk q (Nat.lt_of_lt_of_le h1 hS.1) h2]; exact hS.2.1 q h1 h2, fun q hq => by
      rcases List.mem_append.mp hq with h | h
      · exact hS.2.2 q h
      · exact hL q h⟩ T' rfl X'
  exact ⟨t2, st t2 a1, b1⟩
end SG
