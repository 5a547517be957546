/-! what the reader's steps mean on the machine: what is made, statics, constants, copying; all steps -/
noncomputable def slt : Nat → Nat
  | 0 => 0
  | n + 1 => slt n + (SH n).2
theorem map_p1 {α β : Type} {o : Option α} {f : α → β} {z : β} (e : o.map f = some z) : ∃ r, o = some r ∧ f r = z := by
  cases o with
  | none => cases e
  | some r => exact ⟨r, rfl, Option.some.inj e⟩
section SE
variable {p : Program} {l : Launch} {e : Env} {R : Room} {s : State} {m : MethodId} {args : Array Value} {below : List Frame} {meth : Method} {c : Code} {H : Heap} {locs : List Loc} {cells slots : Nat} {Q : State → Prop}
variable {cc : ByteArray} {pc : Nat} {ls : Array Slot} {z0 : Nat} {xa : Nat → Nat} {fv : Value} {L : Nat} {xs : Nat → Int32} {D : va_G} {κ : Nat → ClassId} {st st' : List Value} {hp hp' : Hp} {o : Nat}
theorem Rel.push {H1 : Heap} {E : va_E} (hP : Rel z0 κ D hp H) (hH : H.size = z0 + hp.1) (o1 : ∀ q, q < z0 + hp.1 → H1[q]? = H[q]?) (hE : enE hp z0 κ hp.1 = E) (hat : va_at D vwCl (z0 + hp.1, E) H1) : Rel z0 κ D (hp.1 + 1, hp.2) H1 := by
  refine ⟨?_, fun k j hk => hP.2 k j (Nat.le_of_succ_le hk)⟩
  rw [← wsH_push hE]
  refine (hP.1.kept (fun k x hx => o1 x.1 ?_)).app (fun k x hx => ?_)
  · have := (hP.1 k x hx).lt
    omega
  · have hz : k < 1 := (List.getElem?_eq_some_iff.mp hx).1
    rw [show k = 0 by omega] at hx
    cases hx
    exact hat
theorem S_push {H1 : Heap} {h : Nat} (hS : va_S (aA z0) s.heap H locs) (hH : H.size = h) (z1 : H1.size = h + 1) (o1 : ∀ q, q < h → H1[q]? = H[q]?) : va_S (aA z0) s.heap H1 locs :=
  ⟨Nat.le_trans hS.1 (by omega), fun x h1 h2 => (o1 x (by have := hS.1; omega)).trans (hS.2.1 x h1 h2), hS.2.2⟩
theorem s_new {a k q : Nat} (hx : p.tables.exec = Jvm.exec) (hb : c.code = cc) (hown : s.vm.findClass (cNm o) = some m.cls) (hts : ∀ w ∈ GW, w.before args s = true) (hX : XK z0 xa fv L xs D κ s s.heap) (hS : va_S (aA z0) s.heap H locs) (hP : Rel z0 κ D hp H) (hz : z0 ≤ s.heap.size) (hsz : s.heap.size + cells = z0 + hp.1)
    (hd : decode cc pc = .ok (.new k, 3)) (hR : (Nat.blt a 11 && Nat.blt q CTn && eq3 (CT q) o k a) = true) (e1 : (SH hp.1).1 = a) (e2 : (SH hp.1).2 = cNn a) (hc : cells + 1 ≤ R.cells) (hs : slots + (SH hp.1).2 ≤ R.slots)
    (kk : ∀ H1, Rel z0 κ D (hp.1 + 1, hp.2) H1 → va_S (aA z0) s.heap H1 locs → W p l e R s m args below meth c H1 locs (cells + 1) (slots + (SH hp.1).2) Q (F0 m (pc + 3) ls (.ref (z0 + hp.1) :: st))) : W p l e R s m args below meth c H locs cells slots Q (F0 m pc ls st) := by
  simp only [Bool.and_eq_true] at hR
  obtain ⟨⟨ha, hq⟩, hf⟩ := hR
  have ha := blt_lt ha
  obtain ⟨f1, f2, f3⟩ := eq3_of hf
  have hw := gw_mem (CT_ok (blt_lt hq)) rfl
  rw [f1, f2, f3] at hw
  refine W.sz fun hle => ?_
  have hge := Rel.ge hz hS hP
  have hH : H.size = z0 + hp.1 := by omega
  have hKn := hX.1.1 a _ (vw_at ha)
  rw [e2] at hs kk
  refine W.newcK hx hb hown (hts _ hw) (hts _ (gw_mem (inst_ok ha).1 rfl)) (hts _ (gw_mem (inst_ok ha).2 rfl)) rfl hd hc hs hKn.2.1 hH fun H1 kC hkC g1 z1 o1 => ?_
  refine kk H1 (hP.push hH o1 (en_obj e1 ha) ?_) (S_push hS hH z1 o1)
  refine ⟨_, vw_at ha, (u_born (fy a) hts (lays_in ha) hKn hkC g1 (fy_ok ha)).to fun j hj => ?_⟩
  have hj2 : j < cNn a := hj
  have hv : vp_V (fVs (hp.2.1 hp.1) (hp.2.2.2 hp.1) z0 a) j = fVr (hp.2.1 hp.1) (hp.2.2.2 hp.1) z0 a j := by
    unfold vp_V
    rw [List.getD_eq_getElem?_getD, fVs_get hj2]
    rfl
  show _ = vp_V (fVs (hp.2.1 hp.1) (hp.2.2.2 hp.1) z0 a) j
  rw [hv]
  obtain ⟨z1, -, z3⟩ := hP.2 hp.1 j (Nat.le_refl _)
  have hok := okT_at ha hj2
  unfold fVr
  rw [z1, z3]
  cases hfy : fy a j with
  | int => rfl
  | boolean => rfl
  | object n => rfl
  | array n => rfl
  | _ => rw [hfy] at hok; cases hok
theorem cell0 (hP : Rel z0 κ D hp H) : hp.2.1 hp.1 = (fun _ => 0) ∧ hp.2.2.1 hp.1 = (fun _ => 0) ∧ hp.2.2.2 hp.1 = (fun _ => none) :=
  ⟨funext fun j => (hP.2 hp.1 j (Nat.le_refl _)).1, funext fun j => (hP.2 hp.1 j (Nat.le_refl _)).2.1, funext fun j => (hP.2 hp.1 j (Nat.le_refl _)).2.2⟩
theorem s_newa {a : Nat} {ty : ArrayType} {v : Int32} (hx : p.tables.exec = Jvm.exec) (hb : c.code = cc) (hts : ∀ w ∈ GW, w.before args s = true) (hX : XK z0 xa fv L xs D κ s s.heap) (hS : va_S (aA z0) s.heap H locs) (hP : Rel z0 κ D hp H) (hz : z0 ≤ s.heap.size) (hsz : s.heap.size + cells = z0 + hp.1)
    (hd : decode cc pc = .ok (.newarray ty, 2)) (hR : (a = 11 ∧ ty = .int) ∨ (a = 12 ∧ ty = .long) ∨ (a = 13 ∧ ty = .boolean)) (e1 : (SH hp.1).1 = a) (hv0 : ¬ v < 0) (e2 : v.toNatClampNeg = (SH hp.1).2) (e3 : (SH hp.1).2 ≤ 1000) (hc : cells + 1 ≤ R.cells) (hs : slots + (SH hp.1).2 ≤ R.slots)
    (kk : ∀ H1, Rel z0 κ D (hp.1 + 1, hp.2) H1 → va_S (aA z0) s.heap H1 locs → W p l e R s m args below meth c H1 locs (cells + 1) (slots + (SH hp.1).2) Q (F0 m (pc + 2) ls (.ref (z0 + hp.1) :: st))) : W p l e R s m args below meth c H locs cells slots Q (F0 m pc ls (.int v :: st)) := by
  refine W.sz fun hle => ?_
  have hge := Rel.ge hz hS hP
  have hH : H.size = z0 + hp.1 := by omega
  obtain ⟨c1, c2, c3⟩ := cell0 hP
  rcases hR with ⟨rfl, rfl⟩ | ⟨rfl, rfl⟩ | ⟨rfl, rfl⟩
  · have hby : (SH hp.1).2 * componentBytes (newarray.typeOf .int) ≤ 536870912 := Nat.le_trans (Nat.mul_le_mul e3 (show componentBytes (newarray.typeOf .int) ≤ 8 by decide)) (Nat.le_of_ble_eq_true rfl)
    refine va_newaK (atype := .int) hx hb (hts _ (gw_mem w_ar_int rfl)) rfl hd rfl hv0 e2 hby hc hs hH fun H1 cA g1 z1 o1 hAr hNm => ?_
    have hra : s.vm.findClass ("[" ++ (newarray.typeOf .int).toString) = some (κ 0) := (hX.1.2 0 _ rfl).2
    obtain rfl : cA = κ 0 := Option.some.inj (hNm.symm.trans hra)
    refine kk H1 (hP.push hH o1 (en_I e1) ?_) (S_push hS hH z1 o1)
    rw [c1]
    exact g1
  · have hby : (SH hp.1).2 * componentBytes (newarray.typeOf .long) ≤ 536870912 := Nat.le_trans (Nat.mul_le_mul e3 (show componentBytes (newarray.typeOf .long) ≤ 8 by decide)) (Nat.le_of_ble_eq_true rfl)
    refine va_newaK (atype := .long) hx hb (hts _ (gw_mem w_ar_long rfl)) rfl hd rfl hv0 e2 hby hc hs hH fun H1 cA g1 z1 o1 hAr hNm => ?_
    have hra : s.vm.findClass ("[" ++ (newarray.typeOf .long).toString) = some (κ 1) := (hX.1.2 1 _ rfl).2
    obtain rfl : cA = κ 1 := Option.some.inj (hNm.symm.trans hra)
    refine kk H1 (hP.push hH o1 (en_J e1) ?_) (S_push hS hH z1 o1)
    rw [c2]
    exact g1
  · have hby : (SH hp.1).2 * componentBytes (newarray.typeOf .boolean) ≤ 536870912 := Nat.le_trans (Nat.mul_le_mul e3 (show componentBytes (newarray.typeOf .boolean) ≤ 8 by decide)) (Nat.le_of_ble_eq_true rfl)
    refine va_newaK (atype := .boolean) hx hb (hts _ (gw_mem w_ar_boolean rfl)) rfl hd rfl hv0 e2 hby hc hs hH fun H1 cA g1 z1 o1 hAr hNm => ?_
    have hra : s.vm.findClass ("[" ++ (newarray.typeOf .boolean).toString) = some (κ 2) := (hX.1.2 2 _ rfl).2
    obtain rfl : cA = κ 2 := Option.some.inj (hNm.symm.trans hra)
    refine kk H1 (hP.push hH o1 (en_Z e1) ?_) (S_push hS hH z1 o1)
    rw [c1]
    exact g1
theorem s_anew {a k q : Nat} {v : Int32} (hx : p.tables.exec = Jvm.exec) (hb : c.code = cc) (hown : s.vm.findClass (cNm o) = some m.cls) (hts : ∀ w ∈ GW, w.before args s = true) (hX : XK z0 xa fv L xs D κ s s.heap) (hS : va_S (aA z0) s.heap H locs) (hP : Rel z0 κ D hp H) (hz : z0 ≤ s.heap.size) (hsz : s.heap.size + cells = z0 + hp.1)
    (hd : decode cc pc = .ok (.anewarray k, 3)) (hR : (Nat.ble 14 a && Nat.blt a 18 && Nat.blt q ATn && eq3 (AT q) o k a) = true) (e1 : (SH hp.1).1 = a) (hv0 : ¬ v < 0) (e2 : v.toNatClampNeg = (SH hp.1).2) (e3 : (SH hp.1).2 ≤ 1000) (hc : cells + 1 ≤ R.cells) (hs : slots + (SH hp.1).2 ≤ R.slots)
    (kk : ∀ H1, Rel z0 κ D (hp.1 + 1, hp.2) H1 → va_S (aA z0) s.heap H1 locs → W p l e R s m args below meth c H1 locs (cells + 1) (slots + (SH hp.1).2) Q (F0 m (pc + 3) ls (.ref (z0 + hp.1) :: st))) : W p l e R s m args below meth c H locs cells slots Q (F0 m pc ls (.int v :: st)) := by
  simp only [Bool.and_eq_true] at hR
  obtain ⟨⟨⟨ha1, ha2⟩, hq⟩, hf⟩ := hR
  have ha1 := ble_e ha1
  have ha2 := blt_lt ha2
  obtain ⟨f1, f2, f3⟩ := eq3_of hf
  have hw := gw_mem (AT_ok (blt_lt hq)) rfl
  rw [f1, f2, f3] at hw
  refine W.sz fun hle => ?_
  have hge := Rel.ge hz hS hP
  have hH : H.size = z0 + hp.1 := by omega
  obtain ⟨c1, c2, c3⟩ := cell0 hP
  rw [← e2] at hs kk
  refine W.anew hx hb hown (hts _ hw) (va_AO.use (hX.2.2.1 a ha1 ha2)) rfl hd rfl hv0 (by rw [e2]; omega) hc hs fun cA kA comp g1 g2 g3 g4 => ?_
  generalize hH1 : H.push ({ cls := cA, slots := Array.replicate v.toNatClampNeg .null, vm := .none } : Cell) = H1
  have z1 : H1.size = z0 + hp.1 + 1 := by rw [← hH1, Array.size_push, hH]
  have e4 : H1[z0 + hp.1]? = some (arrV cA v.toNatClampNeg (fun _ => .null)) := by rw [← hH1, ← hH, Array.getElem?_push_size, ← arrV_new]
  have o1 : ∀ q : Nat, q < z0 + hp.1 → H1[q]? = H[q]? := fun q hq => by rw [← hH1, Array.getElem?_push, if_neg (by omega)]
  obtain ⟨kA', comp', -, -, -, h4⟩ := (hX.1.2 (a - 11) _ (tyL_at ha1 ha2)).2
  obtain rfl : cA = κ (a - 11) := Option.some.inj (g1.symm.trans h4)
  rw [hH]
  refine kk H1 (hP.push hH o1 (en_R (by omega)) ?_) (S_push hS hH z1 o1)
  rw [c3, e1, ← e2]
  exact e4
theorem s_gst {a b k q : Nat} {v : Value} (hx : p.tables.exec = Jvm.exec) (hb : c.code = cc) (hown : s.vm.findClass (cNm o) = some m.cls) (hts : ∀ w ∈ GW, w.before args s = true) (hX : XK z0 xa fv L xs D κ s s.heap) (hS : va_S (aA z0) s.heap H locs)
    (hd : decode cc pc = .ok (.getstatic k, 3)) (hR : (Nat.ble 9000 q || (Nat.blt q GTn && eq4 (GT q) o k a b)) = true) (hq : q < 9000) (h : gst a = some v)
    (kk : W p l e R s m args below meth c H locs cells slots Q (F0 m (pc + 3) ls ((v :: st).map (dV z0 xa fv)))) : W p l e R s m args below meth c H locs cells slots Q (F0 m pc ls (st.map (dV z0 xa fv))) := by
  rw [Bool.or_eq_true] at hR
  rcases hR with hR | hR
  · have := ble_e hR; omega
  rw [Bool.and_eq_true] at hR
  obtain ⟨f1, f2, f3, f4⟩ := eq4_of hR.2
  have hw := GT_ok (blt_lt hR.1)
  rw [f1, f2, f3, f4] at hw
  have ha : (a = 1 ∨ a = 2 ∨ a = 15 ∨ a = 20) ∧ dV z0 xa fv v = gV xa fv a := by
    unfold gst at h
    unfold gV
    cases q1 : Nat.beq a 1 with
    | true => rw [q1] at h; cases h; exact ⟨Or.inl (beq_e q1), rfl⟩
    | false =>
      rw [q1] at h
      cases q2 : Nat.beq a 2 with
      | true => rw [q2] at h; cases h; exact ⟨Or.inr (Or.inl (beq_e q2)), rfl⟩
      | false =>
        rw [q2] at h
        cases q3 : Nat.beq a 15 with
        | true => rw [q3] at h; cases h; exact ⟨Or.inr (Or.inr (Or.inl (beq_e q3))), rfl⟩
        | false =>
          rw [q3] at h
          cases q4 : Nat.beq a 20 with
          | true => rw [q4] at h; cases h; exact ⟨Or.inr (Or.inr (Or.inr (beq_e q4))), rfl⟩
          | false => rw [q4] at h; cases h
  have hZ := hX.2.2.2.2.2.2 a ha.1
  rw [List.map_cons, ha.2] at kk
  unfold gW at hw
  cases hb0 : Nat.beq b 0 with
  | true =>
    rw [hb0] at hw
    exact va_gets hx hb hZ hS hown (hts _ (gw_mem hw rfl)) (fun x hx => hx) hd kk
  | false =>
    rw [hb0] at hw
    exact va_getsN hx hb hZ hS hown (va_Nw.use rfl (hX.2.1 _ hw (Or.inr ⟨_, _, _, _, _, _, rfl⟩))) (fun x hx => hx) hd kk
theorem chkM_of {k a b q : Nat} (h : chkM o k a b q = true) : mW o k a b ∈ lw_tbl := by
  unfold chkM at h
  rw [Bool.and_eq_true] at h
  have hw := MT_ok (blt_lt h.1)
  obtain ⟨f1, f2, f3, f4⟩ := eq4_of h.2
  rw [f1, f2, f3, f4] at hw
  exact hw
theorem s_acpy {k q : Nat} (hf : fvOK fv) (hx : p.tables.exec = Jvm.exec) (hb : c.code = cc) (hml : c.maxLocals = ls.size) (hown : s.vm.findClass (cNm o) = some m.cls) (hts : ∀ w ∈ GW, w.before args s = true) (hX : XK z0 xa fv L xs D κ s s.heap) (hS : va_S (aA z0) s.heap H locs) (hP : Rel z0 κ D hp H) (hfr : 1 ≤ R.frames) (hlo : 80 ≤ R.locals)
    (hd : decode cc pc = .ok (.invokestatic k, 3)) (hM : chkM o k 1000 0 q = true) (h : acpy st hp = some (st', hp'))
    (kk : ∀ H1 locs1, Rel z0 κ D hp' H1 → va_S (aA z0) s.heap H1 locs1 → hp'.1 = hp.1 → W p l e R s m args below meth c H1 locs1 cells slots Q (F0 m (pc + 3) ls (st'.map (dV z0 xa fv)))) : W p l e R s m args below meth c H locs cells slots Q (F0 m pc ls (st.map (dV z0 xa fv))) := by
  have hlink : (Cond.methodLink (cNm o) k arraycopyName).before args s = true := hts _ (gw_mem (chkM_of hM) rfl)
  unfold acpy at h
  split at h
  · rename_i n dp k1 sp k0 r
    cases hg : (!decide (sp < 0) && !decide (dp < 0) && !decide (n < 0) && Nat.ble (sp.toNatClampNeg + n.toNatClampNeg) (SH k0).2 && Nat.ble (dp.toNatClampNeg + n.toNatClampNeg) (SH k1).2 && Nat.ble (catS r) 8) with
    | false => rw [hg] at h; cases h
    | true =>
      rw [hg] at h
      simp only [Bool.and_eq_true, Bool.not_eq_true', decide_eq_false_iff_not] at hg
      obtain ⟨⟨⟨⟨⟨a1, a2⟩, a3⟩, a4⟩, a5⟩, a6⟩ := hg
      have hcat : ((r.map (dV z0 xa fv)).map fun v => v.category).sum + (nativeFrameWords "java/lang/System" "arraycopy" 5 + 11) ≤ R.locals := by
        rw [catS_map hf]
        have := ble_e a6
        have := nfw
        omega
      simp only [cond_true] at h
      cases hi : (isK hp k0 11 && isK hp k1 11) with
      | true =>
        rw [hi] at h
        cases h
        rw [Bool.and_eq_true] at hi
        obtain ⟨hk0, hc0⟩ := isK_of hi.1
        obtain ⟨hk1, hc1⟩ := isK_of hi.2
        refine va_copyi hx hb hml hown hlink (hts _ (gw_mem w_ac1 rfl)) (hts _ (gw_mem w_ac2 rfl)) (hts _ (gw_mem w_ac3 rfl)) hX.1 hP.1 (wsH_D hp z0 κ) hS k0 k1 0 0 (wsH_at hk0 (en_I hc0)) (wsH_at hk1 (en_I hc1)) rfl rfl rfl a1 a2 a3 (ble_e a4) (ble_e a5) (fun i hi => rfl) hfr hcat hd
          (fun H1 locs1 x1 _ x3 => kk H1 locs1 ⟨?_, fun a b hab => ?_⟩ x3 rfl)
        · rw [wsH_set (h := hp) (h' := (hp.1, ur hp.2.1 k1 (va_cpy (hp.2.1 k0) (hp.2.1 k1) sp.toNatClampNeg dp.toNatClampNeg n.toNatClampNeg), hp.2.2)) rfl hk1 (fun q hq => ⟨ur_row hq, rfl, rfl⟩)] at x1
          · exact x1
          · rw [en_I hc1]
            exact congrArg (fun z => Sum.inl (κ 0, (SH k1).2, Sum.inl z)) ur_same
        · have hab : hp.1 ≤ a := hab
          have h1 := hP.2 a b hab
          refine ⟨?_, h1.2⟩
          show ur hp.2.1 k1 _ a b = 0
          rw [ur_row (by omega)]
          exact h1.1
      | false =>
        rw [hi] at h
        simp only [cond_false] at h
        cases hj : (isK hp k0 12 && isK hp k1 12) with
        | false => rw [hj] at h; cases h
        | true =>
          rw [hj] at h
          cases h
          rw [Bool.and_eq_true] at hj
          obtain ⟨hk0, hc0⟩ := isK_of hj.1
          obtain ⟨hk1, hc1⟩ := isK_of hj.2
          refine va_copyl hx hb hml hown hlink (hts _ (gw_mem w_ac1 rfl)) (hts _ (gw_mem w_ac2 rfl)) (hts _ (gw_mem w_ac3 rfl)) hX.1 hP.1 (wsH_D hp z0 κ) hS k0 k1 1 1 (wsH_at hk0 (en_J hc0)) (wsH_at hk1 (en_J hc1)) rfl rfl rfl a1 a2 a3 (ble_e a4) (ble_e a5) (fun i hi => rfl) hfr hcat hd
            (fun H1 locs1 x1 _ x3 => kk H1 locs1 ⟨?_, fun a b hab => ?_⟩ x3 rfl)
          · rw [wsH_set (h := hp) (h' := (hp.1, hp.2.1, ur hp.2.2.1 k1 (va_cpy (hp.2.2.1 k0) (hp.2.2.1 k1) sp.toNatClampNeg dp.toNatClampNeg n.toNatClampNeg), hp.2.2.2)) rfl hk1 (fun q hq => ⟨rfl, ur_row hq, rfl⟩)] at x1
            · exact x1
            · rw [en_J hc1]
              exact congrArg (fun z => Sum.inl (κ 1, (SH k1).2, Sum.inr (Sum.inl z))) ur_same
          · have hab : hp.1 ≤ a := hab
            have h1 := hP.2 a b hab
            refine ⟨h1.1, ?_, h1.2.2⟩
            show ur hp.2.2.1 k1 _ a b = 0
            rw [ur_row (by omega)]
            exact h1.2.1
  · cases h
theorem mkA_of {a : Nat} (h : mkA a st hp = some (st', hp')) : ∃ (v : Int32) (r : List Value), st = .int v :: r ∧ ¬ v < 0 ∧ v.toNatClampNeg = (SH hp.1).2 ∧ (SH hp.1).1 = a ∧ (SH hp.1).2 ≤ 1000 ∧ st' = .ref hp.1 :: r ∧ hp' = (hp.1 + 1, hp.2) := by
  unfold mkA at h
  split at h
  · obtain ⟨h1, h2⟩ := cnd_some h
    cases h2
    simp only [Bool.and_eq_true, Bool.not_eq_true', decide_eq_false_iff_not] at h1
    exact ⟨_, _, rfl, h1.1.1.1, beq_e h1.1.1.2, beq_e h1.1.2, ble_e h1.2, rfl, rfl⟩
  · cases h
end SE
