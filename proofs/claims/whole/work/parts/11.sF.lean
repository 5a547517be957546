/-! every step of the reader that is no call and no return is one of the machine's -/
section SF
variable {p : Program} {l : Launch} {e : Env} {R : Room} {s : State} {m : MethodId} {args : Array Value} {below : List Frame} {meth : Method} {c : Code} {H : Heap} {locs : List Loc} {cells slots : Nat} {Q : State → Prop}
variable {cc : ByteArray} {pc : Nat} {ls : Array Slot} {z0 : Nat} {xa : Nat → Nat} {fv : Value} {L : Nat} {xs : Nat → Int32} {D : va_G} {κ : Nat → ClassId} {st st' : List Value} {hp hp' : Hp} {o : Nat}
theorem sD {i : Instr} {ini : Bool} {ret : Option FieldType} {d len a b t q : Nat} (hf : fvOK fv) (hx : p.tables.exec = Jvm.exec) (hb : c.code = cc) (hml : c.maxLocals = ls.size) (hown : s.vm.findClass (cNm o) = some m.cls) (hini : ini = true → meth.name = "<init>") (hts : ∀ w ∈ GW, w.before args s = true) (hX : XK z0 xa fv L xs D κ s s.heap) (hS : va_S (aA z0) s.heap H locs) (hP : Rel z0 κ D hp H)
    (hz : z0 ≤ s.heap.size) (hsz : s.heap.size + cells = z0 + hp.1) (hfr : d ≤ R.frames) (hlo : 40 * d ≤ R.locals) (hrc : cells + hp'.1 ≤ R.cells + hp.1) (hrs : slots + slt hp'.1 ≤ R.slots + slt hp.1)
    (hd : decode cc pc = .ok (i, len)) (hn : iLen i = 0 ∨ iLen i = len) (hR : chkR o ini ret pc i a b t q = true) (h : stD L xs d i a b t q st hp = some (st', hp'))
    (kk : ∀ H1 locs1 cells1 slots1, Rel z0 κ D hp' H1 → va_S (aA z0) s.heap H1 locs1 → cells1 + hp.1 = cells + hp'.1 → slots1 + slt hp.1 = slots + slt hp'.1 → W p l e R s m args below meth c H1 locs1 cells1 slots1 Q (F0 m (pc + len) ls (st'.map (dV z0 xa fv)))) : W p l e R s m args below meth c H locs cells slots Q (F0 m pc ls (st.map (dV z0 xa fv))) := by
  have k0 : hp' = hp → W p l e R s m args below meth c H locs cells slots Q (F0 m (pc + len) ls (st'.map (dV z0 xa fv))) := fun q => by
    subst q
    exact kk H locs cells slots hP hS rfl rfl
  have k1 : ∀ H1 locs1, Rel z0 κ D hp' H1 → va_S (aA z0) s.heap H1 locs1 → hp'.1 = hp.1 → W p l e R s m args below meth c H1 locs1 cells slots Q (F0 m (pc + len) ls (st'.map (dV z0 xa fv))) := fun H1 locs1 x1 x2 x3 => kk H1 locs1 cells slots x1 x2 (by rw [x3]) (by rw [x3])
  have k2 : hp' = (hp.1 + 1, hp.2) → ∀ H1, Rel z0 κ D (hp.1 + 1, hp.2) H1 → va_S (aA z0) s.heap H1 locs → W p l e R s m args below meth c H1 locs (cells + 1) (slots + (SH hp.1).2) Q (F0 m (pc + len) ls (st'.map (dV z0 xa fv))) := fun q H1 x1 x2 => by
    subst q
    exact kk H1 locs _ _ x1 x2 (by show _ = cells + (hp.1 + 1); omega) (by show _ = slots + (slt hp.1 + _); omega)
  have r2 : hp' = (hp.1 + 1, hp.2) → cells + 1 ≤ R.cells ∧ slots + (SH hp.1).2 ≤ R.slots := fun q => by
    subst q
    have h1 : cells + (hp.1 + 1) ≤ R.cells + hp.1 := hrc
    have h2 : slots + (slt hp.1 + (SH hp.1).2) ≤ R.slots + slt hp.1 := hrs
    omega
  unfold stD at h
  split at h
  · obtain rfl : 3 = len := hn.resolve_left (Nat.succ_ne_zero _)
    obtain ⟨h1, h2⟩ := map_fst h
    exact s_getF hx hb hown hts hX hS hP hd hR h1 (k0 h2)
  · obtain rfl : 3 = len := hn.resolve_left (Nat.succ_ne_zero _)
    exact s_putF hx hb hown hini hts hX hS hP hd hR h k1
  · obtain rfl : 1 = len := hn.resolve_left (Nat.succ_ne_zero _)
    obtain ⟨h1, h2⟩ := map_fst h
    exact s_iald hx hb hX hS hP hd h1 (k0 h2)
  · obtain rfl : 1 = len := hn.resolve_left (Nat.succ_ne_zero _)
    obtain ⟨h1, h2⟩ := map_fst h
    exact s_bald hx hb hX hS hP hd h1 (k0 h2)
  · obtain rfl : 1 = len := hn.resolve_left (Nat.succ_ne_zero _)
    obtain ⟨h1, h2⟩ := map_fst h
    exact s_lald hx hb hX hP hd h1 (k0 h2)
  · obtain rfl : 1 = len := hn.resolve_left (Nat.succ_ne_zero _)
    obtain ⟨h1, h2⟩ := map_fst h
    exact s_aald hx hb hX hP hd h1 (k0 h2)
  · obtain rfl : 1 = len := hn.resolve_left (Nat.succ_ne_zero _)
    obtain ⟨h1, h2⟩ := map_fst h
    exact s_alen hx hb hX hS hP hd h1 (k0 h2)
  · obtain rfl : 1 = len := hn.resolve_left (Nat.succ_ne_zero _)
    exact s_iast hx hb hX hS hP hd h k1
  · obtain rfl : 1 = len := hn.resolve_left (Nat.succ_ne_zero _)
    exact s_bast hx hb hX hS hP hd h k1
  · obtain rfl : 1 = len := hn.resolve_left (Nat.succ_ne_zero _)
    exact s_last hx hb hX hS hP hd h k1
  · obtain rfl : 1 = len := hn.resolve_left (Nat.succ_ne_zero _)
    exact s_aast hx hb hX hS hP hd h k1
  · obtain rfl : 3 = len := hn.resolve_left (Nat.succ_ne_zero _)
    cases hq : Nat.blt q 9000 with
    | false => rw [hq] at h; cases h
    | true =>
      rw [hq] at h
      simp only [cond_true] at h
      obtain ⟨v, h1, h2⟩ := map_p1 h
      cases h2
      exact s_gst hx hb hown hts hX hS hd hR (blt_lt hq) h1 (k0 rfl)
  · obtain rfl : 3 = len := hn.resolve_left (Nat.succ_ne_zero _)
    obtain ⟨h1, h2⟩ := cnd_some h
    rw [Bool.and_eq_true] at h1
    cases h2
    obtain ⟨r3, r4⟩ := r2 rfl
    exact s_new hx hb hown hts hX hS hP hz hsz hd hR (beq_e h1.1) (beq_e h1.2) r3 r4 (k2 rfl)
  · obtain rfl : 2 = len := hn.resolve_left (Nat.succ_ne_zero _)
    obtain ⟨v, r, rfl, g1, g2, g3, g4, rfl, g5⟩ := mkA_of h
    obtain ⟨r3, r4⟩ := r2 g5
    exact s_newa hx hb hts hX hS hP hz hsz hd (of_decide_eq_true hR) g3 g1 g2 g4 r3 r4 (k2 g5)
  · obtain rfl : 3 = len := hn.resolve_left (Nat.succ_ne_zero _)
    obtain ⟨v, r, rfl, g1, g2, g3, g4, rfl, g5⟩ := mkA_of h
    obtain ⟨r3, r4⟩ := r2 g5
    exact s_anew hx hb hown hts hX hS hP hz hsz hd hR g3 g1 g2 g4 r3 r4 (k2 g5)
  · obtain rfl : 2 = len := hn.resolve_left (Nat.succ_ne_zero _)
    cases h
    have kq := k0 rfl
    rename_i k
    have hR2 : (bif Nat.beq t 1 then Nat.ble 3 a && Nat.blt a 9 && Nat.beq (sIx a) k && Nat.beq o 5 && Nat.blt q TTn && eq3 (TT q) o k a else Nat.blt q KTn && eq3 (KT q) o k b) = true := hR
    cases ht : Nat.beq t 1 with
    | true =>
      rw [ht] at hR2 kq
      simp only [cond_true, Bool.and_eq_true] at hR2
      obtain ⟨⟨⟨⟨⟨a1, a2⟩, a3⟩, a4⟩, a5⟩, a6⟩ := hR2
      have a1 := ble_e a1
      have a2 := blt_lt a2
      have hr := hX.2.2.2.2.2.1 (a - 3) (by omega)
      rw [show 3 + (a - 3) = a by omega, beq_e a3] at hr
      obtain rfl := beq_e a4
      have e1 : dV z0 xa fv (.retAddr a) = .ref (xa a) := by show (bif Nat.beq a 15 then fv else Value.ref (xa a)) = _; rw [beq_f (show ¬ a = 15 by omega)]; rfl
      simp only [cond_true, List.map_cons, e1] at kq
      exact va_ldcS hx hb hown hr hd kq
    | false =>
      rw [ht] at hR2 kq
      simp only [cond_false, Bool.and_eq_true] at hR2
      obtain ⟨f1, f2, f3⟩ := eq3_of hR2.2
      have hw := gw_mem (KT_ok (blt_lt hR2.1)) rfl
      rw [f1, f2, f3] at hw
      exact lv_ldc hx hb hown (hts _ hw) hd kq
  · obtain rfl : 3 = len := hn.resolve_left (Nat.succ_ne_zero _)
    cases h
    rename_i k
    have hR2 : (Nat.blt q KTn && eq3 (KT q) o k b) = true := hR
    rw [Bool.and_eq_true] at hR2
    obtain ⟨f1, f2, f3⟩ := eq3_of hR2.2
    have hw := gw_mem (KT_ok (blt_lt hR2.1)) rfl
    rw [f1, f2, f3] at hw
    exact lv_ldcw hx hb hown (hts _ hw) hd (k0 rfl)
  · obtain rfl : 3 = len := hn.resolve_left (Nat.succ_ne_zero _)
    cases h
    rename_i k
    have hR2 : (Nat.blt q LTn && eq3 (LT q) o k b) = true := hR
    rw [Bool.and_eq_true] at hR2
    obtain ⟨f1, f2, f3⟩ := eq3_of hR2.2
    have hw := gw_mem (LT_ok (blt_lt hR2.1)) rfl
    rw [f1, f2, f3] at hw
    exact lv_ldc2 hx hb hown (hts _ hw) hd (k0 rfl)
  · obtain rfl : 3 = len := hn.resolve_left (Nat.succ_ne_zero _)
    rename_i k
    have hR2 : (Nat.ble 1500 a || (chkM o k a b q && ((Nat.blt a mCnt && mS a) || ((Nat.beq a 1000 || Nat.beq a 1002 || Nat.beq a 1003) && Nat.beq b 0)))) = true := hR
    cases h2d : Nat.ble 2 d with
    | false => rw [h2d] at h; cases h
    | true =>
      have h2 := ble_e h2d
      rw [h2d] at h
      simp only [cond_true] at h
      have hM : a = 1000 ∨ a = 1002 ∨ a = 1003 → chkM o k a 0 q = true := by
        intro ha
        rw [Bool.or_eq_true] at hR2
        rcases hR2 with h3 | h3
        · have := ble_e h3; omega
        · rw [Bool.and_eq_true, Bool.or_eq_true] at h3
          rcases h3.2 with h4 | h4
          · rw [Bool.and_eq_true] at h4
            have h5 := blt_lt h4.1
            have h6 : mCnt ≤ 900 := by decide
            omega
          · rw [Bool.and_eq_true] at h4
            rw [← beq_e h4.2]
            exact h3.1
      have hrr : cells ≤ R.cells + hp.1 - hp'.1 ∧ True := ⟨by omega, trivial⟩
      cases q1 : Nat.beq a 1000 with
      | true =>
        rw [q1] at h
        obtain rfl := beq_e q1
        exact s_acpy hf hx hb hml hown hts hX hS hP (by omega) (by omega) hd (hM (Or.inl rfl)) h k1
      | false =>
        rw [q1] at h
        simp only [cond_false] at h
        cases q2 : Nat.beq a 1002 with
        | true =>
          rw [q2] at h
          obtain rfl := beq_e q2
          obtain ⟨h3, h4⟩ := map_fst h
          dsimp only at h3 h4
          obtain ⟨x, y, r, rfl, h5⟩ := p2_some h3
          obtain ⟨h6, h7⟩ := cnd_some h5
          subst h4
          subst h7
          have hw := gw_mem (chkM_of (hM (Or.inr (Or.inl rfl)))) rfl
          have hlink : (Cond.methodLink (cNm o) k Lib.Math.max.name).before args s = true := hts _ hw
          exact va_mmax hx hb hml hown hlink (hts _ (gw_mem w_mx1 rfl)) (hts _ (gw_mem w_mth rfl)) (hts _ (gw_mem w_mx2 rfl)) (by omega) (by rw [catS_map hf]; have := ble_e h6; omega) (by omega) (by omega) hd (k0 rfl)
        | false =>
          rw [q2] at h
          simp only [cond_false] at h
          cases q3 : Nat.beq a 1003 with
          | true =>
            rw [q3] at h
            obtain rfl := beq_e q3
            obtain ⟨h3, h4⟩ := map_fst h
            dsimp only at h3 h4
            obtain ⟨x, y, r, rfl, h5⟩ := p2_some h3
            obtain ⟨h6, h7⟩ := cnd_some h5
            subst h4
            subst h7
            have hw := gw_mem (chkM_of (hM (Or.inr (Or.inr rfl)))) rfl
            have hlink : (Cond.methodLink (cNm o) k Lib.Math.min.name).before args s = true := hts _ hw
            exact va_mmin hx hb hml hown hlink (hts _ (gw_mem w_mn1 rfl)) (hts _ (gw_mem w_mth rfl)) (hts _ (gw_mem w_mn2 rfl)) (by omega) (by rw [catS_map hf]; have := ble_e h6; omega) (by omega) (by omega) hd (k0 rfl)
          | false => rw [q3] at h; cases h
  · obtain rfl : 3 = len := hn.resolve_left (Nat.succ_ne_zero _)
    rename_i k
    have hR2 : (Nat.ble 1500 a || (chkM o k a b q && ((Nat.blt a mCnt && !mS a && mI a && decide (mR a = none) && Nat.blt (mC a) 11) || (Nat.beq a 1001 && Nat.beq b 0)))) = true := hR
    cases h2d : (Nat.ble 2 d && Nat.beq a 1001) with
    | false => rw [h2d] at h; cases h
    | true =>
      rw [h2d] at h
      simp only [cond_true] at h
      rw [Bool.and_eq_true] at h2d
      have h2 := ble_e h2d.1
      obtain rfl := beq_e h2d.2
      have hM : chkM o k 1001 0 q = true := by
        rw [Bool.or_eq_true] at hR2
        rcases hR2 with h3 | h3
        · exact absurd (ble_e h3) (by decide)
        · rw [Bool.and_eq_true, Bool.or_eq_true] at h3
          rcases h3.2 with h4 | h4
          · simp only [Bool.and_eq_true] at h4
            exact absurd (blt_lt h4.1.1.1.1) (by decide)
          · rw [Bool.and_eq_true] at h4
            rw [← beq_e h4.2]
            exact h3.1
      split at h
      · obtain ⟨h6, h7⟩ := cnd_some h
        cases h7
        have hlink : (Cond.methodLink (cNm o) k objectInit).before args s = true := hts _ (gw_mem (chkM_of hM) rfl)
        exact W.objInit hx hb hown hlink (hts _ (gw_mem w_oi1 rfl)) (hts _ (gw_mem w_oi2 rfl)) rfl (by rw [hml]) rfl hd (by omega) (by rw [catS_map hf]; have := ble_e h6; show 2 * 0 + _ + 12 ≤ _; omega) (k0 rfl)
      · cases h
  · cases h
/-- a step of the reader -/
theorem sStp {en : Ent} {ini : Bool} {ret : Option FieldType} {d nL : Nat} {lv : Lv} {cf : Nat × Lv × List Value × Hp} (hf : fvOK fv) (hx : p.tables.exec = Jvm.exec) (hb : c.code = cc) (hml : c.maxLocals = nL) (hown : s.vm.findClass (cNm o) = some m.cls) (hini : ini = true → meth.name = "<init>") (hts : ∀ w ∈ GW, w.before args s = true) (hX : XK z0 xa fv L xs D κ s s.heap) (hS : va_S (aA z0) s.heap H locs) (hP : Rel z0 κ D hp H)
    (hz : z0 ≤ s.heap.size) (hsz : s.heap.size + cells = z0 + hp.1) (hfr : d ≤ R.frames) (hlo : 40 * d ≤ R.locals) (hrc : cells + cf.2.2.2.1 ≤ R.cells + hp.1) (hrs : slots + slt cf.2.2.2.1 ≤ R.slots + slt hp.1)
    (hE : chkE o ini ret cc pc en = true) (hn : iLen en.1 = 0 ∨ iLen en.1 = en.2.1) (hl : lv_has ls nL (lv.map (dQ z0 xa fv))) (h : stp L xs d nL pc en lv st hp = some cf)
    (kk : ∀ ls1 H1 locs1 cells1 slots1, lv_has ls1 nL (cf.2.1.map (dQ z0 xa fv)) → Rel z0 κ D cf.2.2.2 H1 → va_S (aA z0) s.heap H1 locs1 → cells1 + hp.1 = cells + cf.2.2.2.1 → slots1 + slt hp.1 = slots + slt cf.2.2.2.1 → W p l e R s m args below meth c H1 locs1 cells1 slots1 Q (F0 m cf.1 ls1 (cf.2.2.1.map (dV z0 xa fv)))) : W p l e R s m args below meth c H locs cells slots Q (F0 m pc ls (st.map (dV z0 xa fv))) := by
  obtain ⟨i, len, a, b, t, q⟩ := en
  unfold chkE at hE
  rw [Bool.and_eq_true] at hE
  obtain ⟨hD, hR⟩ := hE
  dsimp only at hD hR hn
  have hd : decode cc pc = .ok (i, len) := by
    unfold chkD at hD
    split at hD
    · rename_i j n hj
      rw [Bool.and_eq_true] at hD
      rw [hj, of_decide_eq_true hD.1, beq_e hD.2]
    · cases hD
  unfold stp at h
  dsimp only at h
  split at h
  · rename_i x hA
    cases h
    exact sA hf hx hb hd hn hl hA fun ls1 h1 => kk ls1 H locs cells slots h1 hP hS rfl rfl
  · split at h
    · rename_i x hB
      cases h
      exact sB hx hb hd hn hB (kk ls H locs cells slots hl hP hS rfl rfl)
    · split at h
      · rename_i x hC
        cases h
        have hj : jmpOK pc a i := by
          unfold jmpOK
          split
          · exact of_decide_eq_true hR
          · exact of_decide_eq_true hR
          · exact of_decide_eq_true hR
          · exact hR
          · trivial
        exact sC hx hb hd hn hj hC (kk ls H locs cells slots hl hP hS rfl rfl)
      · split at h
        · rename_i x hD2
          cases h
          exact sD hf hx hb (by rw [hml, hl.1]) hown hini hts hX hS hP hz hsz hfr hlo hrc hrs hd hn hR hD2 fun H1 locs1 c1 s1 x1 x2 x3 x4 => kk ls H1 locs1 c1 s1 hl x1 x2 x3 x4
        · cases h
end SF
