/-! the reader is right: by the number of instructions -/
def SndAt (l : Launch) (z0 : Nat) (xa : Nat → Nat) (fv : Value) (L : Nat) (xs : Nat → Int32) (D : va_G) (κ : Nat → ClassId) (n : Nat) : Prop := ∀ (d q pc : Nat) (lv : Lv) (st : List Value) (hp : Hp) (r : Option Value) (hpE : Hp), exec L xs n d q pc lv st hp = some (r, hpE) → q < mCnt →
  ∀ (p : Program) (e : Env) (R : Room) (s : State) (m : MethodId) (args : Array Value) (below : List Frame) (meth : Method) (c : Code) (H : Heap) (locs : List Loc) (cells slots : Nat) (Q : State → Prop) (ls : Array Slot),
   p.tables.exec = Jvm.exec → c.code = mB q → c.maxLocals = mL q → s.vm.findClass (cNm (mC q)) = some m.cls → (mI q = true → meth.name = "<init>") → (∀ w ∈ GW, w.before args s = true) → XK z0 xa fv L xs D κ s s.heap → va_S (aA z0) s.heap H locs → Rel z0 κ D hp H → z0 ≤ s.heap.size → s.heap.size + cells = z0 + hp.1 → d ≤ R.frames → 40 * d ≤ R.locals → cells + hpE.1 ≤ R.cells + hp.1 → slots + slt hpE.1 ≤ R.slots + slt hp.1 → lv_has ls (mL q) (lv.map (dQ z0 xa fv)) →
   (∀ H1 locs1 cells1 slots1 pc1 ls1, Rel z0 κ D hpE H1 → va_S (aA z0) s.heap H1 locs1 → cells1 + hp.1 = cells + hpE.1 → slots1 + slt hp.1 = slots + slt hpE.1 → retD (mB q) pc1 (mR q) r → W p l e R s m args below meth c H1 locs1 cells1 slots1 Q (F0 m pc1 ls1 (r.toList.map (dV z0 xa fv)))) →
   W p l e R s m args below meth c H locs cells slots Q (F0 m pc ls (st.map (dV z0 xa fv)))
theorem dOK_of {q : Nat} (h : q < mCnt) : plainFor (mY q) = true ∧ (mY q).cls ≠ "java/lang/invoke/MethodHandle" ∧ (mY q).cls ≠ "java/lang/invoke/VarHandle" ∧ (parseMethodDescriptor (mY q).desc).map (fun d => d.parameters.length) = some (mN q) ∧ mL q ≤ 20 := by
  have h1 := dOK_all h
  simp only [dOK, Bool.and_eq_true, decide_eq_true_eq] at h1
  exact ⟨h1.1.1.1.1, h1.1.1.1.2, h1.1.1.2, h1.1.2, ble_e h1.2⟩
theorem MO_of {q : Nat} (h : q < mCnt) (h0 : q ≠ 0) : Cond.code (mY q) (mB q) (mL q) (mR q) ∈ lw_tbl ∧ (bif mS q then Cond.static (mY q) else Cond.instanceMethod (mY q)) ∈ lw_tbl ∧ (mS q = true ∨ mI q = true ∨ Cond.selects (cNm (mC q)) (mY q) (mY q) ∈ lw_tbl) ∧ Cond.initialized (cNm (mC q)) ∈ lw_tbl ∧ (mY q).cls = cNm (mC q) ∧ (mI q = false ∨ (mY q).name = "<init>") := by
  obtain ⟨h1, h2, h3⟩ := MO_ok h
  rcases h1 with h1 | ⟨w1, w2, w3, w4⟩
  · exact absurd h1 h0
  · exact ⟨w1, w2, w3, w4, h2, h3⟩
theorem ws_good {q : Nat} (h : q < mCnt) (h0 : q ≠ 0) : ∀ w ∈ mWs q, w ∈ GW ∧ ((w.onTables && w.keeps) = true ∨ ∃ ty, w = .arrayClass ty) := by
  intro w hw
  have h1 : w ∈ GW := by
    rcases List.mem_cons.mp hw with rfl | h2
    · exact gw_mem (MO_of h h0).1 rfl
    · exact h2
  exact ⟨h1, good_of_word (gw_good h1).2⟩
section SH1
variable {l : Launch} {z0 : Nat} {xa : Nat → Nat} {fv : Value} {L : Nat} {xs : Nat → Int32} {D : va_G} {κ : Nat → ClassId}
theorem metOf {n d q : Nat} {as : List Value} {hp hpE : Hp} {r : Option Value} (hf : fvOK fv) (hn : SndAt l z0 xa fv L xs D κ n) (hex : exec L xs n d q 0 (lv_args 0 as) [] hp = some (r, hpE)) (hq : q < mCnt) (h0 : q ≠ 0) (hlen : (lg_sl as).length ≤ mL q) :
    Met l (mY q) (mWs q) (mRm d hp hpE) (mPc z0 xa fv L xs D κ as hp) (mQc z0 xa fv D κ r hpE) (hpE.1 - hp.1) (slt hpE.1 - slt hp.1) (aA z0) := by
  have hle : hp.1 ≤ hpE.1 := exec_le hex
  have hsl := slt_mono hle
  obtain ⟨w1, w2, w3, w4, w5, w6⟩ := MO_of hq h0
  obtain ⟨d1, d2, d3, d4, d5⟩ := dOK_of hq
  refine va_MetF (cc := mB q) (maxL := mL q) (ret := mR q) d1 rfl ?_
  intro p e s m args below meth c s₁ B hml hv
  obtain ⟨rfl, hP, hX, hsz⟩ := hv
  have hts0 := atoms_spec (ws := mWs q) B.pre
  have hown : s.vm.findClass (mY q).cls = some m.cls := findClass_of_methodNamed B.named
  have hnm : meth.name = (mY q).name := (name_of_methodNamed B.named B.method).1
  have hl := lv_entry (as.map (dV z0 xa fv)) (n := mL q) (by rw [lg_sl_map hf]; exact hlen)
  rw [lv_args_map hf] at hl
  rw [lg_entry_eq]
  refine hn d q 0 (lv_args 0 as) [] hp r hpE hex hq p e _ s m _ below meth c s.heap [] 0 0 _ _ B.exec B.bytes hml (by rw [← w5]; exact hown) (fun hi => ?_) (fun w hw => hts0 w (List.mem_cons_of_mem _ hw)) hX va_S.rf hP (by omega) (by omega) (Nat.le_refl _) (Nat.le_refl _) (by show 0 + hpE.1 ≤ hpE.1 - hp.1 + hp.1; omega) (by show 0 + slt hpE.1 ≤ slt hpE.1 - slt hp.1 + slt hp.1; omega) hl ?_
  · rcases w6 with h | h
    · rw [h] at hi; cases hi
    · rw [hnm, h]
  · intro H1 locs1 c1 s1 pc1 ls1 hR1 hS1 e1 e2 hret
    obtain rfl : c1 = hpE.1 - hp.1 := by omega
    obtain rfl : s1 = slt hpE.1 - slt hp.1 := by omega
    have hqq : ∀ v : Option Value, v = r.map (dV z0 xa fv) → ∀ t : State, t.heap = H1 → s.WarmedH t.vm → mQc z0 xa fv D κ r hpE (as.map (dV z0 xa fv)).toArray s (.returned v) t := fun v hv t ht _ => ⟨by rw [hv], by rw [ht]; exact hR1, hS1.F ht⟩
    cases r with
    | none =>
      obtain ⟨hd, hrt⟩ := hret
      exact W.vret B.exec B.bytes (B.returns.trans hrt) (hqq none rfl) hS1.2.2 hd B.notSynchronized
    | some v =>
      cases v with
      | int x =>
        obtain ⟨hd, ty, hrt, hna⟩ := hret
        exact W.zret B.exec B.bytes (B.returns.trans hrt) hna (hqq (some (.int x)) rfl) hS1.2.2 hd B.notSynchronized
      | long x =>
        obtain ⟨hd, hrt⟩ := hret
        exact W.lret B.exec B.bytes (B.returns.trans hrt) (hqq (some (.long x)) rfl) hS1.2.2 hd B.notSynchronized
      | ref x =>
        obtain ⟨hd, nm, hrt⟩ := hret
        exact W.aret B.exec B.bytes (B.returns.trans hrt) (Or.inl ⟨nm, rfl⟩) (Or.inr ⟨z0 + x, rfl⟩) (hqq (some (.ref (z0 + x))) rfl) hS1.2.2 hd B.notSynchronized
      | _ => exact absurd hret (fun h => h)
end SH1
section SH2
variable {p : Program} {l : Launch} {e : Env} {R : Room} {s : State} {m : MethodId} {args : Array Value} {below : List Frame} {meth : Method} {c : Code} {H : Heap} {locs : List Loc} {cells slots : Nat} {Q : State → Prop}
variable {cc : ByteArray} {pc : Nat} {ls : Array Slot} {z0 : Nat} {xa : Nat → Nat} {fv : Value} {L : Nat} {xs : Nat → Int32} {D : va_G} {κ : Nat → ClassId} {hp hp1 : Hp} {o : Nat}
theorem rm_ok {d ν : Nat} (hν : ν < mCnt) (hfr : d + 1 ≤ R.frames) (hlo : 40 * (d + 1) ≤ R.locals) : (mRm d hp hp1).frames + 1 ≤ R.frames ∧ 8 + (mL ν + 11) + (mRm d hp hp1).locals ≤ R.locals := by
  have := (dOK_of hν).2.2.2.2
  refine ⟨hfr, ?_⟩
  show 8 + (mL ν + 11) + 40 * d ≤ R.locals
  omega
theorem cbOf {d ν k : Nat} (hν : ν < mCnt) (h0 : ν ≠ 0) (hts : ∀ w ∈ GW, w.before args s = true) (hfr : d + 1 ≤ R.frames) (hlo : 40 * (d + 1) ≤ R.locals) (hl : (Cond.methodLink (cNm o) k (mY ν)).before args s = true) :
    CallB R s args (cNm o) k (mY ν) (mB ν) (mL ν) (mR ν) (mWs ν) (mRm d hp hp1) (hp1.1 - hp.1) (slt hp1.1 - slt hp.1) (mN ν) := by
  obtain ⟨w1, w2, w3, w4, w5, w6⟩ := MO_of hν h0
  obtain ⟨d1, d2, d3, d4, d5⟩ := dOK_of hν
  exact callB_of (mN ν) hts (ws_good hν h0) rfl rfl rfl (by rw [w5]; exact hts _ (gw_mem w4 rfl)) hl ⟨d2, d3, d4⟩ (rm_ok hν hfr hlo)
theorem cnOf {d ν k : Nat} {host : String} (hν : ν < mCnt) (h0 : ν ≠ 0) (hts : ∀ w ∈ GW, w.before args s = true) (hfr : d + 1 ≤ R.frames) (hlo : 40 * (d + 1) ≤ R.locals) (hl : va_Nw (.methodLinkNest (cNm o) k (mY ν) host) s) :
    va_CN R s args (cNm o) k (mY ν) host (mB ν) (mL ν) (mR ν) (mWs ν) (mRm d hp hp1) (hp1.1 - hp.1) (slt hp1.1 - slt hp.1) (mN ν) := by
  obtain ⟨w1, w2, w3, w4, w5, w6⟩ := MO_of hν h0
  obtain ⟨d1, d2, d3, d4, d5⟩ := dOK_of hν
  exact va_cnB (mN ν) hts (ws_good hν h0) rfl rfl rfl hl (by rw [w5]; exact hts _ (gw_mem w4 rfl)) ⟨d2, d3, d4⟩ (rm_ok hν hfr hlo)
/-- a call, whatever its kind -/
theorem sCall {i : Instr} {ini : Bool} {ret : Option FieldType} {d nL a b t q : Nat} {as rest : List Value} {r : Option Value} (hf : fvOK fv) (hx : p.tables.exec = Jvm.exec) (hb : c.code = cc) (hml : c.maxLocals = nL) (hls : ls.size = nL) (hown : s.vm.findClass (cNm o) = some m.cls) (hts : ∀ w ∈ GW, w.before args s = true) (hX : XK z0 xa fv L xs D κ s s.heap) (hS : va_S (aA z0) s.heap H locs) (hP : Rel z0 κ D hp H)
    (hz : z0 ≤ s.heap.size) (hsz : s.heap.size + cells = z0 + hp.1) (hfr : d + 1 ≤ R.frames) (hlo : 40 * (d + 1) ≤ R.locals) (hcc : cells + (hp1.1 - hp.1) ≤ R.cells ∧ slots + (slt hp1.1 - slt hp.1) ≤ R.slots)
    (hd : decode cc pc = .ok (i, 3)) (hR : chkR o ini ret pc i a b t q = true) (hk : kindI i a = 1) (ha : a < mCnt) (h0 : a ≠ 0) (hrcv : rcvOK hp (bif mI a then 1 else t) (mC a) as = true) (hlen : as.length = mTk a) (hcat : catS rest ≤ 8)
    (hM : Met l (mY a) (mWs a) (mRm d hp hp1) (mPc z0 xa fv L xs D κ as hp) (mQc z0 xa fv D κ r hp1) (hp1.1 - hp.1) (slt hp1.1 - slt hp.1) (aA z0))
    (kk : ∀ H1 locs1, Rel z0 κ D hp1 H1 → va_S (aA z0) s.heap H1 locs1 → W p l e R s m args below meth c H1 locs1 (cells + (hp1.1 - hp.1)) (slots + (slt hp1.1 - slt hp.1)) Q (F0 m (pc + 3) ls ((r.map (dV z0 xa fv)).toList ++ rest.map (dV z0 xa fv)))) : W p l e R s m args below meth c H locs cells slots Q (F0 m pc ls ((as.map (dV z0 xa fv)).reverse ++ rest.map (dV z0 xa fv))) := by
  obtain ⟨w1, w2, w3, w4, w5, w6⟩ := MO_of ha h0
  have hm9 : mCnt ≤ 900 := by decide
  refine W.sz fun hle => ?_
  have hge := Rel.ge hz hS hP
  have hH : H.size = z0 + hp.1 := by omega
  have hPc : ∀ U : State, U.heap = H → s.WarmedH U.vm → mPc z0 xa fv L xs D κ as hp (as.map (dV z0 xa fv)).toArray U := fun U hU hW => ⟨rfl, by rw [hU]; exact hP, hX.warm hW hS hU, by rw [hU]; exact hH⟩
  have hW : 2 * (F0 m pc ls ((as.map (dV z0 xa fv)).reverse ++ rest.map (dV z0 xa fv))).monitorRoom + ((rest.map (dV z0 xa fv)).map fun v => v.category).sum ≤ 8 := by
    rw [catS_map hf]
    show 2 * 0 + _ ≤ 8
    omega
  have hCF : CallFix p m c cc nL s args GW (cNm o) := ⟨hx, hb, hml, hown, hts⟩
  -- the receiver
  have hobj : ∀ k r2, as = .ref k :: r2 → isK hp k (mC a) = true → mC a < 11 → ∃ cellB : Cell, H[z0 + k]? = some cellB ∧ cellB.vm.isStatics = false ∧ s.vm.findClass (cNm (mC a)) = some cellB.cls := by
    intro k r2 _ hk2 hc11
    obtain ⟨g1, g2⟩ := isK_of hk2
    exact va_recv hX.1 hP.1 (vw_at hc11) (wsH_at g1 (en_obj g2 hc11))
  have hstr : ∀ k : Nat, 3 ≤ k → k < 9 → mC a = 12 → ∃ cellB : Cell, H[xa k]? = some cellB ∧ cellB.vm.isStatics = false ∧ s.vm.findClass (cNm (mC a)) = some cellB.cls := by
    intro k k3 k9 hc
    have h1 := vk_recv (i := k - 3) hX.2.2.2.2.1 (by omega) hS
    rw [show 3 + (k - 3) = k by omega] at h1
    rw [hc]
    exact h1
  cases i with
  | invokevirtual k =>
    have hR2 : (Nat.ble 1500 a || (chkM o k a b q && Nat.blt a mCnt && !mS a && !mI a && ((Nat.beq t 1 && Nat.blt (mC a) 11) || (Nat.beq t 2 && Nat.beq (mC a) 12)))) = true := hR
    rw [Bool.or_eq_true] at hR2
    rcases hR2 with h3 | h3
    · have := ble_e h3; omega
    simp only [Bool.and_eq_true, Bool.not_eq_true'] at h3
    obtain ⟨⟨⟨⟨hMk, -⟩, hs0⟩, hi0⟩, htc⟩ := h3
    rw [hi0] at hrcv
    simp only [cond_false] at hrcv
    rw [hs0] at w2
    simp only [cond_false] at w2
    have hsel : Cond.selects (cNm (mC a)) (mY a) (mY a) ∈ lw_tbl := by
      rcases w3 with h | h | h
      · rw [hs0] at h; cases h
      · rw [hi0] at h; cases h
      · exact h
    have hlen2 : as.length = mN a + 1 := by rw [hlen]; unfold mTk; rw [hs0]; rfl
    have hrecv : ∃ (bb : Nat) (v0 : Value) (As : List Value), as = v0 :: As ∧ dV z0 xa fv v0 = .ref bb ∧ ∃ cellB : Cell, H[bb]? = some cellB ∧ cellB.vm.isStatics = false ∧ s.vm.findClass (cNm (mC a)) = some cellB.cls := by
      rw [Bool.or_eq_true, Bool.and_eq_true, Bool.and_eq_true] at htc
      unfold rcvOK at hrcv
      rcases htc with ⟨h1, h2⟩ | ⟨h1, h2⟩
      · rw [h1] at hrcv
        simp only [cond_true] at hrcv
        split at hrcv
        · exact ⟨_, _, _, rfl, rfl, hobj _ _ rfl hrcv (blt_lt h2)⟩
        · cases hrcv
      · obtain rfl := beq_e h1
        simp only [show Nat.beq 2 1 = false from rfl, show Nat.beq 2 2 = true from rfl, cond_true, cond_false] at hrcv
        split at hrcv
        · rename_i k2 As
          rw [Bool.and_eq_true] at hrcv
          have g1 := ble_e hrcv.1
          have g2 := blt_lt hrcv.2
          refine ⟨xa k2, _, As, rfl, ?_, hstr k2 g1 g2 (beq_e h2)⟩
          show (bif Nat.beq k2 15 then fv else Value.ref (xa k2)) = _
          rw [beq_f (show ¬ k2 = 15 by omega)]
          rfl
        · cases hrcv
    obtain ⟨bb, v0, As, rfl, hv0, hcell⟩ := hrecv
    have e1 : ((v0 :: As).map (dV z0 xa fv)).toArray = (Value.ref bb :: As.map (dV z0 xa fv)).toArray := by rw [List.map_cons, hv0]
    have e2 : ((v0 :: As).map (dV z0 xa fv)).reverse ++ rest.map (dV z0 xa fv) = (As.map (dV z0 xa fv)).reverse ++ .ref bb :: rest.map (dV z0 xa fv) := by rw [List.map_cons, List.reverse_cons, hv0, List.append_assoc]; rfl
    rw [e1] at hPc
    have hAs : (As.map (dV z0 xa fv)).length = mN a := by rw [List.length_map]; simpa using hlen2
    have hww := chkM_of hMk
    unfold mW at hww
    have hys : mYs a = mY a := by unfold mYs; rw [blt_t (show a < 1000 by omega)]; rfl
    rw [hys] at hww
    rw [e2] at hW ⊢
    cases hb0 : Nat.beq b 0 with
    | true =>
      rw [hb0] at hww
      exact va_callX (a := (Value.ref bb :: As.map (dV z0 xa fv)).toArray) (va_runV hCF hM ⟨cbOf ha h0 hts hfr hlo (hts _ (gw_mem hww rfl)), hts _ (gw_mem w2 rfl), hts _ (gw_mem hsel rfl)⟩ ⟨mPc_blind, hcell, hPc⟩ rfl hAs hls rfl hW hd hcc) hS kk
    | false =>
      rw [hb0] at hww
      exact va_callX (a := (Value.ref bb :: As.map (dV z0 xa fv)).toArray) (va_runVN hCF hM ⟨cnOf ha h0 hts hfr hlo (hX.2.1 _ hww (Or.inl ⟨_, _, _, _, rfl⟩)), hts _ (gw_mem w2 rfl), hts _ (gw_mem hsel rfl)⟩ ⟨mPc_blind, hcell, hPc⟩ rfl hAs hls rfl hW hd hcc) hS kk
  | invokestatic k =>
    have hR2 : (Nat.ble 1500 a || (chkM o k a b q && ((Nat.blt a mCnt && mS a) || ((Nat.beq a 1000 || Nat.beq a 1002 || Nat.beq a 1003) && Nat.beq b 0)))) = true := hR
    rw [Bool.or_eq_true] at hR2
    rcases hR2 with h3 | h3
    · have := ble_e h3; omega
    rw [Bool.and_eq_true, Bool.or_eq_true] at h3
    obtain ⟨hMk, h4⟩ := h3
    have hs0 : mS a = true := by
      rcases h4 with h4 | h4
      · rw [Bool.and_eq_true] at h4; exact h4.2
      · simp only [Bool.and_eq_true, Bool.or_eq_true] at h4
        rcases h4.1 with (h5 | h5) | h5 <;> (have := beq_e h5; omega)
    rw [hs0] at w2
    simp only [cond_true] at w2
    have hlen2 : as.length = mN a := by rw [hlen]; unfold mTk; rw [hs0]; rfl
    have hAs : (as.map (dV z0 xa fv)).length = mN a := by rw [List.length_map]; exact hlen2
    have hww := chkM_of hMk
    unfold mW at hww
    have hys : mYs a = mY a := by unfold mYs; rw [blt_t (show a < 1000 by omega)]; rfl
    rw [hys] at hww
    cases hb0 : Nat.beq b 0 with
    | true =>
      rw [hb0] at hww
      exact va_callX (a := (as.map (dV z0 xa fv)).toArray) (va_runS hCF hM ⟨cbOf ha h0 hts hfr hlo (hts _ (gw_mem hww rfl)), hts _ (gw_mem w2 rfl)⟩ ⟨mPc_blind, hPc⟩ rfl hAs hls rfl hW hd hcc) hS kk
    | false =>
      rw [hb0] at hww
      exact va_callX (a := (as.map (dV z0 xa fv)).toArray) (va_runSN hCF hM ⟨cnOf ha h0 hts hfr hlo (hX.2.1 _ hww (Or.inl ⟨_, _, _, _, rfl⟩)), hts _ (gw_mem w2 rfl), trivial⟩ ⟨mPc_blind, hPc⟩ rfl hAs hls rfl hW hd hcc) hS kk
  | invokespecial k =>
    have hR2 : (Nat.ble 1500 a || (chkM o k a b q && ((Nat.blt a mCnt && !mS a && mI a && decide (mR a = none) && Nat.blt (mC a) 11) || (Nat.beq a 1001 && Nat.beq b 0)))) = true := hR
    rw [Bool.or_eq_true] at hR2
    rcases hR2 with h3 | h3
    · have := ble_e h3; omega
    rw [Bool.and_eq_true, Bool.or_eq_true] at h3
    obtain ⟨hMk, h4⟩ := h3
    have hs4 : mS a = false ∧ mI a = true ∧ mR a = none ∧ mC a < 11 := by
      rcases h4 with h4 | h4
      · simp only [Bool.and_eq_true, Bool.not_eq_true', decide_eq_true_eq] at h4
        exact ⟨h4.1.1.1.2, h4.1.1.2, h4.1.2, blt_lt h4.2⟩
      · rw [Bool.and_eq_true] at h4
        have := beq_e h4.1
        omega
    obtain ⟨hs0, hi0, hr0, hc0⟩ := hs4
    rw [hs0] at w2
    simp only [cond_false] at w2
    rw [hi0] at hrcv
    simp only [cond_true] at hrcv
    have hlen2 : as.length = mN a + 1 := by rw [hlen]; unfold mTk; rw [hs0]; rfl
    have hnm : (mY a).name = "<init>" := by
      rcases w6 with h | h
      · rw [hi0] at h; cases h
      · exact h
    unfold rcvOK at hrcv
    simp only [show Nat.beq 1 1 = true from rfl, cond_true] at hrcv
    split at hrcv
    · rename_i k2 As
      have e2 : ((Value.ref k2 :: As).map (dV z0 xa fv)).reverse ++ rest.map (dV z0 xa fv) = (As.map (dV z0 xa fv)).reverse ++ .ref (z0 + k2) :: rest.map (dV z0 xa fv) := by rw [List.map_cons, List.reverse_cons, List.append_assoc]; rfl
      have hAs : (As.map (dV z0 xa fv)).length = mN a := by rw [List.length_map]; simpa using hlen2
      have hww := chkM_of hMk
      unfold mW at hww
      have hys : mYs a = mY a := by unfold mYs; rw [blt_t (show a < 1000 by omega)]; rfl
      rw [hys] at hww
      rw [e2] at hW ⊢
      cases hb0 : Nat.beq b 0 with
      | true =>
        rw [hb0] at hww
        have hcb := cbOf (hp := hp) (hp1 := hp1) ha h0 hts hfr hlo (hts _ (gw_mem hww rfl))
        rw [hr0] at hcb
        exact va_callX (a := (Value.ref (z0 + k2) :: As.map (dV z0 xa fv)).toArray) (va_runI hCF hM ⟨hcb, hnm, hts _ (gw_mem w2 rfl)⟩ ⟨mPc_blind, hPc⟩ rfl hAs hls rfl hW hd hcc) hS kk
      | false =>
        rw [hb0] at hww
        have hcn := cnOf (hp := hp) (hp1 := hp1) ha h0 hts hfr hlo (hX.2.1 _ hww (Or.inl ⟨_, _, _, _, rfl⟩))
        rw [hr0] at hcn
        exact va_callX (a := (Value.ref (z0 + k2) :: As.map (dV z0 xa fv)).toArray) (va_runIN hCF hM ⟨hcn, hnm, hts _ (gw_mem w2 rfl)⟩ ⟨mPc_blind, hPc⟩ rfl hAs hls rfl hW hd hcc) hS kk
    · cases hrcv
  | _ => exact absurd hk (by simp [kindI])
end SH2
