/-! where a run of the reader writes; of what type its answer is -/
def SmO (h h' : Hp) : Prop := ∀ k j, ¬ (k < h'.1 ∧ j < (SH k).2) → h'.2.1 k j = h.2.1 k j ∧ h'.2.2.1 k j = h.2.2.1 k j ∧ h'.2.2.2 k j = h.2.2.2 k j
theorem SmO.refl (h : Hp) : SmO h h := fun _ _ _ => ⟨rfl, rfl, rfl⟩
theorem SmO.trans {a b c : Hp} (h1 : SmO a b) (h2 : SmO b c) (hl : b.1 ≤ c.1) : SmO a c := fun k j ho => by
  obtain ⟨x1, x2, x3⟩ := h2 k j ho
  obtain ⟨y1, y2, y3⟩ := h1 k j (fun z => ho ⟨by omega, z.2⟩)
  exact ⟨x1.trans y1, x2.trans y2, x3.trans y3⟩
theorem u2_off {α : Type} (f : Nat → Nat → α) {k j a b : Nat} (x : α) (h : ¬ (a = k ∧ b = j)) : u2 f k j x a b = f a b := by
  unfold u2
  by_cases h1 : a = k
  · rw [if_pos h1, if_neg (fun z => h ⟨h1, z⟩)]
  · rw [if_neg h1]
theorem ur_off {α : Type} (f : Nat → Nat → α) {k a b : Nat} {w : Nat → α} (h : a = k → w b = f a b) : ur f k w a b = f a b := by
  unfold ur
  by_cases h1 : a = k
  · rw [if_pos h1]; exact h h1
  · rw [if_neg h1]
theorem SmO.i {hp : Hp} {k j : Nat} (x : Int32) (h1 : k < hp.1) (h2 : j < (SH k).2) : SmO hp (setI hp k j x) := fun a b ho => ⟨u2_off _ x (fun z => ho (by rw [z.1, z.2]; exact ⟨h1, h2⟩)), rfl, rfl⟩
theorem SmO.l {hp : Hp} {k j : Nat} (x : Int64) (h1 : k < hp.1) (h2 : j < (SH k).2) : SmO hp (setL hp k j x) := fun a b ho => ⟨rfl, u2_off _ x (fun z => ho (by rw [z.1, z.2]; exact ⟨h1, h2⟩)), rfl⟩
theorem SmO.r {hp : Hp} {k j : Nat} (x : Option Nat) (h1 : k < hp.1) (h2 : j < (SH k).2) : SmO hp (setR hp k j x) := fun a b ho => ⟨rfl, rfl, u2_off _ x (fun z => ho (by rw [z.1, z.2]; exact ⟨h1, h2⟩))⟩
theorem inb_lt {i : Int32} {n : Nat} (h : inb i n = true) : i.toNatClampNeg < n := by
  unfold inb at h
  rw [Bool.not_eq_true', Bool.or_eq_false_iff] at h
  refine Nat.lt_of_not_le (fun z => ?_)
  rw [Nat.ble_eq_true_of_le z] at h
  cases h.2
theorem isK_lt {hp : Hp} {k c : Nat} (h : isK hp k c = true) : k < hp.1 ∧ (SH k).1 = c := by
  unfold isK at h
  rw [Bool.and_eq_true, Nat.blt_eq] at h
  exact ⟨h.1, beq_e h.2⟩
theorem SH_n : ∀ k, k < 210 → (SH k).1 < 11 → (SH k).2 = cNn (SH k).1 := by decide +kernel
theorem cpy_off {α : Type} (f g : Nat → α) {sp dp n b : Nat} (h : dp + n ≤ b) : va_cpy f g sp dp n b = g b := if_neg (by omega)
theorem stD_fr {L : Nat} {xs : Nat → Int32} {d : Nat} {i : Instr} {a b t q : Nat} {st st' : List Value} {hp hp' : Hp} (h : stD L xs d i a b t q st hp = some (st', hp')) (h210 : hp.1 ≤ 210) (hb : ∀ x, i = .putfield x → a < 11 ∧ b < cNn a) : SmO hp hp' := by
  have c2 : ∀ {o : Option (List Value)}, o.map (fun r => (r, hp)) = some (st', hp') → SmO hp hp' := by
    intro o e
    have := (map_fst e).2
    dsimp only at this
    rw [this]
    exact SmO.refl _
  have kf : ∀ {k : Nat}, (a < 11 ∧ b < cNn a) → isK hp k a = true → k < hp.1 ∧ b < (SH k).2 := by
    intro k hab e
    obtain ⟨e1, e2⟩ := isK_lt e
    rw [SH_n k (by omega) (by omega), e2]
    exact ⟨e1, hab.2⟩
  unfold stD at h
  split at h
  · exact c2 h
  · have hab := hb _ rfl
    unfold putF at h; split at h
    · obtain ⟨g, h2⟩ := cnd_some h
      cases h2
      rw [Bool.and_eq_true] at g
      obtain ⟨e1, e2⟩ := kf hab g.1
      exact SmO.i _ e1 e2
    · obtain ⟨g, h2⟩ := cnd_some h
      cases h2
      rw [Bool.and_eq_true] at g
      obtain ⟨e1, e2⟩ := kf hab g.1
      exact SmO.r _ e1 e2
    · cases h
  · exact c2 h
  · exact c2 h
  · exact c2 h
  · exact c2 h
  · exact c2 h
  · unfold iast at h; split at h
    · obtain ⟨g, h2⟩ := cnd_some h
      cases h2
      rw [Bool.and_eq_true] at g
      exact SmO.i _ (isK_lt g.1).1 (inb_lt g.2)
    · cases h
  · unfold bast at h; split at h
    · obtain ⟨g, h2⟩ := cnd_some h
      cases h2
      rw [Bool.and_eq_true] at g
      exact SmO.i _ (isK_lt g.1).1 (inb_lt g.2)
    · cases h
  · unfold last_ at h; split at h
    · obtain ⟨g, h2⟩ := cnd_some h
      cases h2
      rw [Bool.and_eq_true] at g
      exact SmO.l _ (isK_lt g.1).1 (inb_lt g.2)
    · cases h
  · unfold aast at h; split at h
    · obtain ⟨g, h2⟩ := cnd_some h
      cases h2
      simp only [Bool.and_eq_true] at g
      have g1 := g.1.1.1.1
      rw [Nat.blt_eq] at g1
      exact SmO.r _ g1 (inb_lt g.1.2)
    · cases h
  · cases hq : Nat.blt q 9000 with
    | false => rw [hq] at h; cases h
    | true =>
      rw [hq] at h
      obtain ⟨v, h1, h2⟩ := map_p1 h
      cases h2
      exact SmO.refl _
  · obtain ⟨g, h2⟩ := cnd_some h
    cases h2
    exact fun _ _ _ => ⟨rfl, rfl, rfl⟩
  · obtain ⟨v, r, -, -, -, -, -, -, rfl⟩ := mkA_of h; exact fun _ _ _ => ⟨rfl, rfl, rfl⟩
  · obtain ⟨v, r, -, -, -, -, -, -, rfl⟩ := mkA_of h; exact fun _ _ _ => ⟨rfl, rfl, rfl⟩
  · cases h; exact SmO.refl _
  · cases h; exact SmO.refl _
  · cases h; exact SmO.refl _
  · cases h2d : Nat.ble 2 d with
    | false => rw [h2d] at h; cases h
    | true =>
      rw [h2d] at h
      simp only [cond_true] at h
      cases q1 : Nat.beq a 1000 with
      | true =>
        rw [q1] at h
        simp only [cond_true] at h
        unfold acpy at h
        split at h
        · rename_i n dp k1 sp k0 r
          cases hg : (!decide (sp < 0) && !decide (dp < 0) && !decide (n < 0) && Nat.ble (sp.toNatClampNeg + n.toNatClampNeg) (SH k0).2 && Nat.ble (dp.toNatClampNeg + n.toNatClampNeg) (SH k1).2 && Nat.ble (catS r) 8) with
          | false => rw [hg] at h; cases h
          | true =>
            rw [hg] at h
            simp only [cond_true] at h
            simp only [Bool.and_eq_true] at hg
            have hdp := ble_e hg.1.2
            cases hi : (isK hp k0 11 && isK hp k1 11) with
            | true =>
              rw [hi] at h
              cases h
              rw [Bool.and_eq_true] at hi
              have hk := (isK_lt hi.2).1
              refine fun a b ho => ⟨ur_off _ (fun z => ?_), rfl, rfl⟩
              rw [z]
              rw [z] at ho
              exact cpy_off _ _ (by have : ¬ b < (SH k1).2 := fun y => ho ⟨hk, y⟩
                                    omega)
            | false =>
              rw [hi] at h
              simp only [cond_false] at h
              obtain ⟨g, h2⟩ := cnd_some h
              cases h2
              rw [Bool.and_eq_true] at g
              have hk := (isK_lt g.2).1
              refine fun a b ho => ⟨rfl, ur_off _ (fun z => ?_), rfl⟩
              rw [z]
              rw [z] at ho
              exact cpy_off _ _ (by have : ¬ b < (SH k1).2 := fun y => ho ⟨hk, y⟩
                                    omega)
        · cases h
      | false =>
        rw [q1] at h
        simp only [cond_false] at h
        cases q2 : Nat.beq a 1002 with
        | true => rw [q2] at h; exact c2 h
        | false =>
          rw [q2] at h
          simp only [cond_false] at h
          cases q3 : Nat.beq a 1003 with
          | true => rw [q3] at h; exact c2 h
          | false => rw [q3] at h; cases h
  · cases h2d : (Nat.ble 2 d && Nat.beq a 1001) with
    | false => rw [h2d] at h; cases h
    | true =>
      rw [h2d] at h
      simp only [cond_true] at h
      split at h
      · obtain ⟨g, h2⟩ := cnd_some h
        cases h2
        exact SmO.refl _
      · cases h
  · cases h
theorem stp_fr {L : Nat} {xs : Nat → Int32} {d nL pc : Nat} {en : Ent} {lv : Lv} {st : List Value} {hp : Hp} {cf : Nat × Lv × List Value × Hp} (h : stp L xs d nL pc en lv st hp = some cf) (h210 : hp.1 ≤ 210) (hb : ∀ x, en.1 = .putfield x → en.2.2.1 < 11 ∧ en.2.2.2.1 < cNn en.2.2.1) : SmO hp cf.2.2.2 := by
  unfold stp at h
  split at h
  · cases h; exact SmO.refl _
  · split at h
    · cases h; exact SmO.refl _
    · split at h
      · cases h; exact SmO.refl _
      · split at h
        · rename_i x hD
          cases h
          exact stD_fr hD h210 hb
        · cases h
theorem put_ok {q pc : Nat} {e : Ent} (hq : q < mCnt) (he : fetch_ q pc = some e) (x : Nat) (h : e.1 = .putfield x) : e.2.2.1 < 11 ∧ e.2.2.2.1 < cNn e.2.2.1 := by
  have hR := (chkE_of (ent_all hq he)).2
  rw [h] at hR
  unfold chkR at hR
  simp only [Bool.and_eq_true, Nat.blt_eq] at hR
  exact ⟨hR.1.1.1.1.1, hR.1.1.1.1.2⟩
theorem exec_fr {L : Nat} {xs : Nat → Int32} : ∀ {n d q pc : Nat} {lv : Lv} {st : List Value} {hp : Hp} {r : Rs}, q < mCnt → exec L xs n d q pc lv st hp = some r → r.2.1 ≤ 210 → SmO hp r.2 := by
  intro n
  induction n with
  | zero => intro d q pc lv st hp r hq h; cases h
  | succ n ih =>
    intro d q pc lv st hp r hq h hr
    have hle := exec_le h
    unfold exec nxt at h
    split at h
    · cases h
    · rename_i en he
      cases k0 : Nat.beq (kindI en.1 en.2.2.1) 0 with
      | true =>
        rw [k0] at h
        simp only [cond_true] at h
        split at h
        · rename_i cf hs
          exact (stp_fr hs (by omega) (put_ok hq he)).trans (ih hq h hr) (exec_le h)
        · cases h
      | false =>
        rw [k0] at h
        simp only [cond_false] at h
        cases k1 : Nat.beq (kindI en.1 en.2.2.1) 1 with
        | true =>
          rw [k1] at h
          simp only [cond_true] at h
          split at h
          · cases h
          · obtain ⟨-, h⟩ : _ ∧ _ := ⟨trivial, h⟩
            revert h
            generalize hbb : (Nat.blt 0 en.2.2.1 && Nat.blt en.2.2.1 mCnt && Nat.ble (mTk en.2.2.1) st.length && Nat.ble (catS (st.drop (mTk en.2.2.1))) 8 && rcvOK hp (bif mI en.2.2.1 then 1 else en.2.2.2.2.1) (mC en.2.2.1) (st.take (mTk en.2.2.1)).reverse && Nat.ble (lg_sl (st.take (mTk en.2.2.1)).reverse).length (mL en.2.2.1)) = bb
            intro h
            cases bb with
            | false => cases h
            | true =>
              simp only [cond_true] at h
              simp only [Bool.and_eq_true, Nat.blt_eq] at hbb
              split at h
              · rename_i x hs
                have l2 := exec_le h
                exact (ih hbb.1.1.1.1.2 hs (by omega)).trans (ih hq h hr) l2
              · cases h
        | false =>
          rw [k1] at h
          simp only [cond_false] at h
          split at h
          · cases h; exact SmO.refl _
          · cases h
theorem ret_nl {i : Instr} {a t o pc b q : Nat} {ini : Bool} {ret : Option FieldType} {st : List Value} {x : Int32} (hR : chkR o ini ret pc i a b t q = true) (h : retO (kindI i a) t st = some (some (.int x))) : ret ≠ some .long := by
  unfold retO at h
  split at h
  · obtain ⟨h2, h3⟩ := cnd_some h
    rw [Bool.and_eq_true] at h2
    have hk := beq_e h2.1
    have hi : i = .ireturn := by
      unfold kindI at hk
      split at hk
      · cases hk
      · cases hb : Nat.blt a 1000 <;> rw [hb] at hk <;> cases hk
      · cases hb : Nat.blt a 1000 <;> rw [hb] at hk <;> cases hk
      · rfl
      · cases hk
      · cases hk
      · cases hk
      · cases hk
    subst hi
    have hR2 : (decide (ret = some (if t = 0 then .int else if t = 1 then .boolean else if t = 2 then .char else .byte)) && Nat.blt t 4) = true := hR
    rw [Bool.and_eq_true] at hR2
    have hret := of_decide_eq_true hR2.1
    have ht := blt_lt hR2.2
    intro z
    rw [z] at hret
    rcases (show t = 0 ∨ t = 1 ∨ t = 2 ∨ t = 3 by omega) with rfl | rfl | rfl | rfl
    · exact absurd hret (by decide)
    · exact absurd hret (by decide)
    · exact absurd hret (by decide)
    · exact absurd hret (by decide)
  · obtain ⟨h2, h3⟩ := cnd_some h; cases h3
  · obtain ⟨h2, h3⟩ := cnd_some h; cases h3
  · obtain ⟨h2, h3⟩ := cnd_some h; cases h3
  · cases h
theorem exec_ty {L : Nat} {xs : Nat → Int32} : ∀ {n d q pc : Nat} {lv : Lv} {st : List Value} {hp : Hp} {r : Rs}, q < mCnt → exec L xs n d q pc lv st hp = some r → (∃ (cc : ByteArray) (pc' : Nat), retD cc pc' (mR q) r.1) ∧ ∀ x, r.1 = some (.int x) → mR q ≠ some .long := by
  intro n
  induction n with
  | zero => intro d q pc lv st hp r hq h; cases h
  | succ n ih =>
    intro d q pc lv st hp r hq h
    unfold exec nxt at h
    split at h
    · cases h
    · rename_i en he
      cases k0 : Nat.beq (kindI en.1 en.2.2.1) 0 with
      | true =>
        rw [k0] at h
        simp only [cond_true] at h
        split at h
        · rename_i cf hs
          exact ih hq h
        · cases h
      | false =>
        rw [k0] at h
        simp only [cond_false] at h
        cases k1 : Nat.beq (kindI en.1 en.2.2.1) 1 with
        | true =>
          rw [k1] at h
          simp only [cond_true] at h
          split at h
          · cases h
          · obtain ⟨-, h⟩ : _ ∧ _ := ⟨trivial, h⟩
            revert h
            generalize hbb : (Nat.blt 0 en.2.2.1 && Nat.blt en.2.2.1 mCnt && Nat.ble (mTk en.2.2.1) st.length && Nat.ble (catS (st.drop (mTk en.2.2.1))) 8 && rcvOK hp (bif mI en.2.2.1 then 1 else en.2.2.2.2.1) (mC en.2.2.1) (st.take (mTk en.2.2.1)).reverse && Nat.ble (lg_sl (st.take (mTk en.2.2.1)).reverse).length (mL en.2.2.1)) = bb
            intro h
            cases bb with
            | false => cases h
            | true =>
              simp only [cond_true] at h
              split at h
              · rename_i x hs
                exact ih hq h
              · cases h
        | false =>
          rw [k1] at h
          simp only [cond_false] at h
          split at h
          · rename_i v hv
            cases h
            obtain ⟨hd, hR⟩ := chkE_of (ent_all hq he)
            exact ⟨⟨_, _, (kindR (fun z => by rw [z] at k0; cases k0) (fun z => by rw [z] at k1; cases k1) hd (len_all hq he) hR hv).2⟩, fun x z => ret_nl hR (by rw [hv]; exact congrArg some z)⟩
          · cases h
theorem exec_int {L : Nat} {xs : Nat → Int32} {n d q pc : Nat} {lv : Lv} {st : List Value} {hp : Hp} {r : Rs} (hq : q < mCnt) (h : exec L xs n d q pc lv st hp = some r) (hR : mR q = some .int ∨ mR q = some .boolean) : ∃ x, r.1 = some (.int x) := by
  obtain ⟨⟨cc, pc', hD⟩, _⟩ := exec_ty hq h
  revert hD
  cases r.1 with
  | none => intro hD; rcases hR with z | z <;> (rw [z] at hD; cases hD.2)
  | some v =>
    cases v with
    | int x => exact fun _ => ⟨x, rfl⟩
    | long x => intro hD; rcases hR with z | z <;> (rw [z] at hD; cases hD.2)
    | ref x => intro hD; obtain ⟨_, nm, e⟩ := hD; rcases hR with z | z <;> (rw [z] at e; cases e)
    | _ => intro hD; exact hD.elim
theorem exec_long {L : Nat} {xs : Nat → Int32} {n d q pc : Nat} {lv : Lv} {st : List Value} {hp : Hp} {r : Rs} (hq : q < mCnt) (h : exec L xs n d q pc lv st hp = some r) (hR : mR q = some .long) : ∃ x, r.1 = some (.long x) := by
  obtain ⟨⟨cc, pc', hD⟩, hN⟩ := exec_ty hq h
  revert hN
  revert hD
  cases r.1 with
  | none => intro hD _; rw [hR] at hD; cases hD.2
  | some v =>
    cases v with
    | long x => exact fun _ _ => ⟨x, rfl⟩
    | int x => intro _ hN; exact absurd hR (hN x rfl)
    | ref x => intro hD _; obtain ⟨_, nm, e⟩ := hD; rw [hR] at e; cases e
    | _ => intro hD _; exact hD.elim
theorem Ev.int {L : Nat} {xs : Nat → Int32} {d q pc : Nat} {lv : Lv} {st : List Value} {h : Hp} {Q : Option Value → Hp → Prop} (hq : q < mCnt) (hR : mR q = some .int ∨ mR q = some .boolean) (k : Ev L xs d q pc lv st h Q) : Ev L xs d q pc lv st h (fun r h' => Q r h' ∧ ∃ x, r = some (.int x)) := by
  obtain ⟨n, r, e, q1⟩ := k
  exact ⟨n, r, e, q1, exec_int hq e hR⟩
theorem Ev.long {L : Nat} {xs : Nat → Int32} {d q pc : Nat} {lv : Lv} {st : List Value} {h : Hp} {Q : Option Value → Hp → Prop} (hq : q < mCnt) (hR : mR q = some .long) (k : Ev L xs d q pc lv st h Q) : Ev L xs d q pc lv st h (fun r h' => Q r h' ∧ ∃ x, r = some (.long x)) := by
  obtain ⟨n, r, e, q1⟩ := k
  exact ⟨n, r, e, q1, exec_long hq e hR⟩
