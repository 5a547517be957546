/-! the reader is right, and what that gives for the law -/
theorem kind1 {i : Instr} {a : Nat} (h : kindI i a = 1) : iLen i = 3 := by
  unfold kindI at h
  split at h
  · rfl
  · rfl
  · rfl
  · cases h
  · cases h
  · cases h
  · cases h
  · cases h
theorem kindR {i : Instr} {a : Nat} {o pc len t b q : Nat} {ini : Bool} {ret : Option FieldType} {cc : ByteArray} {st : List Value} {v : Option Value} (h0 : kindI i a ≠ 0) (h1 : kindI i a ≠ 1) (hd : decode cc pc = .ok (i, len)) (hn : iLen i = 0 ∨ iLen i = len) (hR : chkR o ini ret pc i a b t q = true) (h : retO (kindI i a) t st = some v) : st = v.toList ∧ retD cc pc ret v := by
  unfold retO at h
  split at h
  · rename_i x
    obtain ⟨h2, rfl⟩ := cnd_some h
    rw [Bool.and_eq_true] at h2
    have hk := beq_e h2.1
    refine ⟨rfl, ?_⟩
    have hi : i = .ireturn := by
      unfold kindI at hk
      split at hk
      · cases hk
      · cases hb : Nat.blt a 1000 <;> rw [hb] at hk <;> cases hk
      · cases hb : Nat.blt a 1000 <;> rw [hb] at hk <;> cases hk
      · rfl
      · cases hk
      · cases hk
      · cases hk
      · cases hk
    subst hi
    obtain rfl : 1 = len := hn.resolve_left (Nat.succ_ne_zero _)
    refine ⟨hd, ?_⟩
    have hR2 : (decide (ret = some (if t = 0 then .int else if t = 1 then .boolean else if t = 2 then .char else .byte)) && Nat.blt t 4) = true := hR
    rw [Bool.and_eq_true] at hR2
    have hret := of_decide_eq_true hR2.1
    have ht := blt_lt hR2.2
    have hna := h2.2
    unfold nar3 at hna
    rcases (show t = 0 ∨ t = 1 ∨ t = 2 ∨ t = 3 by omega) with rfl | rfl | rfl | rfl
    · exact ⟨_, hret, rfl⟩
    · exact ⟨_, hret, of_decide_eq_true hna⟩
    · exact ⟨_, hret, of_decide_eq_true hna⟩
    · exact ⟨_, hret, of_decide_eq_true hna⟩
  · rename_i x
    obtain ⟨h2, rfl⟩ := cnd_some h
    have hk := beq_e h2
    refine ⟨rfl, ?_⟩
    have hi : i = .lreturn := by
      unfold kindI at hk
      split at hk
      · cases hk
      · cases hb : Nat.blt a 1000 <;> rw [hb] at hk <;> cases hk
      · cases hb : Nat.blt a 1000 <;> rw [hb] at hk <;> cases hk
      · cases hk
      · rfl
      · cases hk
      · cases hk
      · cases hk
    subst hi
    obtain rfl : 1 = len := hn.resolve_left (Nat.succ_ne_zero _)
    exact ⟨hd, of_decide_eq_true hR⟩
  · rename_i x
    obtain ⟨h2, rfl⟩ := cnd_some h
    have hk := beq_e h2
    refine ⟨rfl, ?_⟩
    have hi : i = .areturn := by
      unfold kindI at hk
      split at hk
      · cases hk
      · cases hb : Nat.blt a 1000 <;> rw [hb] at hk <;> cases hk
      · cases hb : Nat.blt a 1000 <;> rw [hb] at hk <;> cases hk
      · cases hk
      · cases hk
      · rfl
      · cases hk
      · cases hk
    subst hi
    obtain rfl : 1 = len := hn.resolve_left (Nat.succ_ne_zero _)
    refine ⟨hd, ?_⟩
    cases ret with
    | none => cases hR
    | some ty =>
      cases ty with
      | object nm => exact ⟨nm, rfl⟩
      | _ => cases hR
  · obtain ⟨h2, rfl⟩ := cnd_some h
    have hk := beq_e h2
    refine ⟨rfl, ?_⟩
    have hi : i = .return_ := by
      unfold kindI at hk
      split at hk
      · cases hk
      · cases hb : Nat.blt a 1000 <;> rw [hb] at hk <;> cases hk
      · cases hb : Nat.blt a 1000 <;> rw [hb] at hk <;> cases hk
      · cases hk
      · cases hk
      · cases hk
      · rfl
      · cases hk
    subst hi
    obtain rfl : 1 = len := hn.resolve_left (Nat.succ_ne_zero _)
    have hR2 : ret.isNone = true := hR
    exact ⟨hd, Option.isNone_iff_eq_none.mp hR2⟩
  · cases h
theorem chkE_of {o pc : Nat} {ini : Bool} {ret : Option FieldType} {cc : ByteArray} {en : Ent} (h : chkE o ini ret cc pc en = true) : decode cc pc = .ok (en.1, en.2.1) ∧ chkR o ini ret pc en.1 en.2.2.1 en.2.2.2.1 en.2.2.2.2.1 en.2.2.2.2.2 = true := by
  unfold chkE at h
  rw [Bool.and_eq_true] at h
  refine ⟨?_, h.2⟩
  have hD := h.1
  unfold chkD at hD
  split at hD
  · rename_i j n hj
    rw [Bool.and_eq_true] at hD
    rw [hj, of_decide_eq_true hD.1, beq_e hD.2]
  · cases hD
theorem snd_all {l : Launch} {z0 : Nat} {xa : Nat → Nat} {fv : Value} {L : Nat} {xs : Nat → Int32} {D : va_G} {κ : Nat → ClassId} (hf : fvOK fv) (n : Nat) : SndAt l z0 xa fv L xs D κ n := by
  induction n with
  | zero => intro d q pc lv st hp r hpE h; cases h
  | succ n ih =>
    intro d q pc lv st hp r hpE h hq p e R s m args below meth c H locs cells slots Q ls hx hb hml hown hini hts hX hS hP hz hsz hfr hlo hrc hrs hl hQ
    unfold exec nxt at h
    split at h
    · cases h
    · rename_i en he
      have hE := ent_all hq he
      have hn := len_all hq he
      obtain ⟨hd, hR⟩ := chkE_of hE
      cases k0 : Nat.beq (kindI en.1 en.2.2.1) 0 with
      | true =>
        rw [k0] at h
        simp only [cond_true] at h
        split at h
        · rename_i cf hs
          have hle := stp_le hs
          have hle2 : cf.2.2.2.1 ≤ hpE.1 := exec_le h
          have hsl := slt_mono hle
          have hsl2 := slt_mono hle2
          refine sStp hf hx hb hml hown hini hts hX hS hP hz hsz hfr hlo (by omega) (by omega) hE hn hl hs fun ls1 H1 locs1 c1 s1 a1 a2 a3 a4 a5 => ?_
          exact ih d q _ _ _ _ r hpE h hq p e R s m args below meth c H1 locs1 c1 s1 Q ls1 hx hb hml hown hini hts hX a3 a2 hz (by omega) hfr hlo (by omega) (by omega) a1 (fun H2 locs2 c2 s2 pc2 ls2 b1 b2 b3 b4 b5 => hQ H2 locs2 c2 s2 pc2 ls2 b1 b2 (by omega) (by omega) b5)
        · cases h
      | false =>
        rw [k0] at h
        simp only [cond_false] at h
        cases k1 : Nat.beq (kindI en.1 en.2.2.1) 1 with
        | true =>
          rw [k1] at h
          simp only [cond_true] at h
          split at h
          · cases h
          · rename_i d
            cases hg : (Nat.blt 0 en.2.2.1 && Nat.blt en.2.2.1 mCnt && Nat.ble (mTk en.2.2.1) st.length && Nat.ble (catS (st.drop (mTk en.2.2.1))) 8 && rcvOK hp (bif mI en.2.2.1 then 1 else en.2.2.2.2.1) (mC en.2.2.1) (st.take (mTk en.2.2.1)).reverse && Nat.ble (lg_sl (st.take (mTk en.2.2.1)).reverse).length (mL en.2.2.1)) with
            | false => rw [hg] at h; cases h
            | true =>
              rw [hg] at h
              simp only [cond_true] at h
              simp only [Bool.and_eq_true] at hg
              obtain ⟨⟨⟨⟨⟨g0, g1⟩, g2⟩, g3⟩, g4⟩, g5⟩ := hg
              have g0 := blt_lt g0
              have g1 := blt_lt g1
              have g2 := ble_e g2
              have g3 := ble_e g3
              have g5 := ble_e g5
              split at h
              · rename_i x hs
                obtain ⟨r1, hp1⟩ := x
                dsimp only at h
                have hle : hp.1 ≤ hp1.1 := exec_le hs
                have hle2 : hp1.1 ≤ hpE.1 := exec_le h
                have hsl := slt_mono hle
                have hsl2 := slt_mono hle2
                have hk1 := beq_e k1
                have h0 : en.2.2.1 ≠ 0 := by omega
                have hlen : ((st.take (mTk en.2.2.1)).reverse).length = mTk en.2.2.1 := by rw [List.length_reverse, List.length_take]; omega
                have hM := metOf (l := l) (z0 := z0) (xa := xa) (fv := fv) (D := D) (κ := κ) hf ih hs g1 h0 g5
                have h3 : 3 = en.2.1 := by
                  rcases hn with hn | hn
                  · rw [kind1 hk1] at hn; cases hn
                  · rw [← kind1 hk1]; exact hn
                rw [← h3] at hd
                have est : st.map (dV z0 xa fv) = (((st.take (mTk en.2.2.1)).reverse).map (dV z0 xa fv)).reverse ++ (st.drop (mTk en.2.2.1)).map (dV z0 xa fv) := by
                  rw [List.map_reverse, List.reverse_reverse, ← List.map_append, List.take_append_drop]
                rw [est]
                refine sCall hf hx hb hml hl.1 hown hts hX hS hP hz hsz hfr hlo ⟨by omega, by omega⟩ hd hR hk1 g1 h0 g4 hlen g3 hM fun H1 locs1 a1 a2 => ?_
                have e4 : (r1.map (dV z0 xa fv)).toList ++ (st.drop (mTk en.2.2.1)).map (dV z0 xa fv) = (r1.toList ++ st.drop (mTk en.2.2.1)).map (dV z0 xa fv) := by cases r1 <;> simp
                rw [e4]
                exact ih (d + 1) q (pc + 3) lv _ hp1 r hpE h hq p e R s m args below meth c H1 locs1 _ _ Q ls hx hb hml hown hini hts hX a2 a1 hz (by omega) hfr hlo (by omega) (by omega) hl (fun H2 locs2 c2 s2 pc2 ls2 b1 b2 b3 b4 b5 => hQ H2 locs2 c2 s2 pc2 ls2 b1 b2 (by omega) (by omega) b5)
              · cases h
        | false =>
          rw [k1] at h
          simp only [cond_false] at h
          split at h
          · rename_i v hv
            cases h
            obtain ⟨e1, e2⟩ := kindR (fun z => by rw [z] at k0; cases k0) (fun z => by rw [z] at k1; cases k1) hd hn hR hv
            rw [e1]
            exact hQ H locs cells slots pc ls hP hS rfl rfl e2
          · cases h
