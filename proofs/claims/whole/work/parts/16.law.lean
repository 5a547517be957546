/-! what holds at the law's start, and what a run of the reader gives for the law -/
theorem arrP {args : Array Value} {s : State} {ty : FieldType} (h : (Cond.arrayClass ty).before args s = true) : ∃ c : ClassId, ArrOfT s c ty ∧ s.vm.findClass ("[" ++ ty.toString) = some c := by
  obtain ⟨c, k, comp, h1, h2, h3⟩ := Cond.arrayClass_spec h
  exact ⟨c, fun n z => ⟨fun k h => (by cases h), k, h2, comp, h3⟩, h1⟩
theorem arrO {args : Array Value} {s : State} {C : String} (h : (Cond.arrayOver (.object C)).before args s = true) : ∃ c : ClassId, ArrOfT s c (.object C) ∧ va_RA s c (.object C) := by
  obtain ⟨comp, c, k, h1, h2, h3, h4, h5⟩ := Cond.arrayOver_spec h
  exact ⟨c, fun n z => ⟨fun k h => (by cases h), k, h3, comp, h4⟩, k, comp, h3, h4, h1, h5⟩
theorem vw_len {c : Nat} {q : vw_C} (h : vwCl[c]? = some q) : c < 11 := (List.getElem?_eq_some_iff.mp h).1
theorem start_XK {args : Array Value} {s : State} {b L : Nat} {xs : Nat → Int32} (hts : ∀ w ∈ lw_tbl, w.before args s = true) (hgv : N0.before args s = true) (hX : va_X b L xs s s.heap) (hb : b < s.heap.size) : ∃ (D : va_G) (κ : Nat → ClassId) (xa : Nat → Nat) (fv : Value), fvOK fv ∧ xa 0 = b ∧ XK s.heap.size xa fv L xs D κ s s.heap := by
  have hs := flat_of_before _ hgv
  have hA : ∀ a : Nat, a < s.heap.size → ¬ aA s.heap.size a := fun a h => Nat.not_le.mpr h
  have hG : ∀ w ∈ GW, w.before args s = true := fun w hw => hts w (gw_good hw).1
  have hcl : ∀ a : Nat, ∃ q : ClassId × (Nat → Nat), a < 11 → u_Kn s (cNm a) (fT a) (cNn a) q.1 q.2 := by
    intro a
    by_cases ha : a < 11
    · obtain ⟨cC, iS, h⟩ := u_known hG (lays_in ha) (hts _ (inst_ok ha).1)
      exact ⟨(cC, iS), fun _ => h⟩
    · exact ⟨(0, fun _ => 0), fun h => absurd h ha⟩
  obtain ⟨k0, a0, b0⟩ := arrP (hts _ w_ar_int)
  obtain ⟨k1, a1, b1⟩ := arrP (hts _ w_ar_long)
  obtain ⟨k2, a2, b2⟩ := arrP (hts _ w_ar_boolean)
  obtain ⟨k3, a3, b3⟩ := arrO (hts _ w_ao14)
  obtain ⟨k4, a4, b4⟩ := arrO (hts _ w_ao15)
  obtain ⟨k5, a5, b5⟩ := arrO (hts _ w_ao16)
  obtain ⟨k6, a6, b6⟩ := arrO (hts _ w_ao17)
  obtain ⟨t1, e1, T1⟩ := va_Tof (N := 7) (f := fun j => .int (lABOVE.getD j 0)) (A := aA s.heap.size) (by decide) (hs _ nAr) (va_eqt (hs _ nAl)) (fun j hj => va_eqt (hs _ (nA_all hj))) hA
  obtain ⟨t2, e2, T2⟩ := va_Tof (N := 21) (f := fun j => .int (lBODIES.getD j 0)) (A := aA s.heap.size) (by decide) (hs _ nBr) (va_eqt (hs _ nBl)) (fun j hj => va_eqt (hs _ (nB_all hj))) hA
  have hN : ∀ i : Nat, i < 6 → lens6.getD i 0 < 2 ^ 31 := by
    intro i hi
    rcases (show i = 0 ∨ i = 1 ∨ i = 2 ∨ i = 3 ∨ i = 4 ∨ i = 5 by omega) with rfl | rfl | rfl | rfl | rfl | rfl <;> exact Nat.le_of_ble_eq_true rfl
  obtain ⟨adK, adV, hVS, hAd⟩ := vk_Sof (tm := tmS) (A := aA s.heap.size) hN (fun i hi => hs _ (nX_all hi)) (fun i hi => hs _ (nO_all hi)) (fun i hi => hs _ (nY_all hi)) (fun i hi => hs _ (nL_all hi)) (fun i hi j hj => hs _ (nE_all hi hj)) (fun i j hi hj hn => (nN_all hi hj hn).elim (fun h => Or.inl (hs _ h)) (fun h => Or.inr (hs _ h))) hA
  have hZ := va_Zqof (A := aA s.heap.size) (hts _ zl_15) (hts _ zi_15) (hs _ nSI) hA
  obtain ⟨fv, hfv, hZ15⟩ : ∃ fv : Value, fvOK fv ∧ va_Z (gC 15) (gN 15) (gD 15) fv (aA s.heap.size) s s.heap := by
    rcases hZ with h | ⟨t, h⟩
    · exact ⟨_, Or.inl rfl, h⟩
    · exact ⟨_, Or.inr ⟨t, rfl⟩, h⟩
  have hZ20 := va_Zof (A := aA s.heap.size) (hts _ zl_20) (hts _ zi_20) (va_eqi (hs _ nCS)) hA
  have hZ1 := va_Zref (A := aA s.heap.size) (hts _ zl_1) (hts _ zi_1) e1 hA
  have hZ2 := va_Zref (A := aA s.heap.size) (hts _ zl_2) (hts _ zi_2) e2 hA
  obtain ⟨scr, x1, x2, x3, x4, x5⟩ := hX
  have T0 : va_T .int b L (fun j => .int (xs j)) (aA s.heap.size) s s.heap := ⟨scr, x1, x2, x3, by omega, by rw [x4], x5, hA b hb⟩
  refine ⟨(fun a => (Classical.choose (hcl a)).1, fun a => (Classical.choose (hcl a)).2), fun t => if t = 0 then k0 else if t = 1 then k1 else if t = 2 then k2 else if t = 3 then k3 else if t = 4 then k4 else if t = 5 then k5 else k6,
    fun k => if k = 0 then b else if k = 1 then t1 else if k = 2 then t2 else if k < 9 then adK (k - 3) else adV (k - 9), fv, hfv, rfl, ?_⟩
  refine ⟨⟨fun a q hq => ?_, fun k q hk => ?_⟩, fun w hw hn => ?_, fun k h1 h2 => ?_, ⟨T0, T1, T2⟩, ?_, fun i hi => ?_, fun a ha => ?_⟩
  · have ha := vw_len hq
    obtain rfl := Option.some.inj ((vw_at ha).symm.trans hq)
    exact Classical.choose_spec (hcl a) ha
  · have hk7 : k < 7 := (List.getElem?_eq_some_iff.mp hk).1
    rcases (show k = 0 ∨ k = 1 ∨ k = 2 ∨ k = 3 ∨ k = 4 ∨ k = 5 ∨ k = 6 by omega) with rfl | rfl | rfl | rfl | rfl | rfl | rfl
    · cases hk; exact ⟨a0, b0⟩
    · cases hk; exact ⟨a1, b1⟩
    · cases hk; exact ⟨a2, b2⟩
    · cases hk; exact ⟨a3, b3⟩
    · cases hk; exact ⟨a4, b4⟩
    · cases hk; exact ⟨a5, b5⟩
    · cases hk; exact ⟨a6, b6⟩
  · rcases hn with ⟨o, k, y, hh, rfl⟩ | ⟨o, k, q, n, d, hh, rfl⟩
    · exact va_Nw.of rfl (hts _ hw)
    · exact va_Nw.of rfl (hts _ hw)
  · rcases (show k = 14 ∨ k = 15 ∨ k = 16 ∨ k = 17 by omega) with rfl | rfl | rfl | rfl
    · exact va_AO.of (hts _ w_ao14)
    · exact va_AO.of (hts _ w_ao15)
    · exact va_AO.of (hts _ w_ao16)
    · exact va_AO.of (hts _ w_ao17)
  · have ek : ∀ i : Nat, i < 6 → (if 3 + i = 0 then b else if 3 + i = 1 then t1 else if 3 + i = 2 then t2 else if 3 + i < 9 then adK (3 + i - 3) else adV (3 + i - 9)) = adK i := by
      intro i hi
      rw [if_neg (by omega), if_neg (by omega), if_neg (by omega), if_pos (by omega), show 3 + i - 3 = i by omega]
    have ev : ∀ i : Nat, (if 9 + i = 0 then b else if 9 + i = 1 then t1 else if 9 + i = 2 then t2 else if 9 + i < 9 then adK (9 + i - 3) else adV (9 + i - 9)) = adV i := by
      intro i
      rw [if_neg (by omega), if_neg (by omega), if_neg (by omega), if_neg (by omega), show 9 + i - 9 = i by omega]
    refine ⟨fun i hi => ?_, fun i j hi hj h => ?_⟩
    · have h1 := hVS.1 i hi
      simp only [ek i hi, ev i]
      exact h1
    · simp only [ek i hi, ek j hj] at h
      exact hVS.2 i j hi hj h
  · have h1 := vk_R.of (hts _ (zs_all hi)) (hAd i hi)
    have h2 : (if 3 + i = 0 then b else if 3 + i = 1 then t1 else if 3 + i = 2 then t2 else if 3 + i < 9 then adK (3 + i - 3) else adV (3 + i - 9)) = adK i := by
      rw [if_neg (by omega), if_neg (by omega), if_neg (by omega), if_pos (by omega), show 3 + i - 3 = i by omega]
    simp only [h2]
    exact h1
  · rcases ha with rfl | rfl | rfl | rfl
    · exact hZ1
    · exact hZ2
    · exact hZ15
    · exact hZ20
/-- the empty world -/
def hp0 : Hp := (0, fun _ _ => 0, fun _ _ => 0, fun _ _ => none)
/-! THE CLAIM OUT OF ONE WALK OF THE LAW'S BODY. Your part is whole_start (and what it stands on); all else here is the same for every law, but numbers. -/
def R_law : String := "EndsWordLaw"
def lw_P (b : Addr) (xs : List Int32) (args : Array Value) (s : State) : Prop := args = #[.ref b] ∧ s.IntsAt b xs ∧ xs.length ≤ 3072 ∧ (Jvm.Cond.and given_1 narrow_1).before args s = true
def lw_Q (_ : Array Value) (s : State) (o : Outcome) (t : State) : Prop := o = .returned (some (.int 1)) ∧ Framed s o t [] 600000 7302250
def lw_Z (below : List Frame) (a : Array Value) (s : State) : State → Prop := fun t => ∃ o, t.status = .running ∧ Ended t below o ∧ lw_Q a s o t
/-- the law's own end, with 1 on the stack, nothing written that was there before, its room as the claim has it -/
theorem lw_ret {p : Program} {l : Launch} {e : Env} {s : State} {m : MethodId} {below : List Frame} {meth : Method} {c : Code} {b : Nat} (hx : p.tables.exec = Jvm.exec) (hb : c.code = code) (hr : meth.sig.returnType = ret) (hlocks : meth.locks = false) {pc : Nat} {H : Heap} {ls : Array Slot} (hdg : decode code pc = .ok (.ireturn, 1)) : W p l e room_1 s m #[Value.ref b] below meth c H [] 600000 7302250 (lw_Z below #[Value.ref b] s) (F0 m pc ls [.int 1]) := by
  intro T hT X
  obtain ⟨fs, hret, hrun, hended, hW, hframe⟩ := X.leave (v := some (.int 1)) (hlocks := hlocks) (fun h => by rw [hr] at h; cases h)
  have hmeth' : T.vm.method? m = some meth := X.method'
  refine ⟨T.setFrames fs, ?_, .returned (some (.int 1)), hrun, hended, rfl, ⟨_, rfl⟩, hW, hframe⟩
  jvm_step X.here [X.here.top, hx, hb, hdg, hmeth', hr, ret, narrow_b1]
  (try refine ⟨rfl, ?_⟩); (try refine ⟨rfl, ?_⟩)
  first | (intro acts; rw [hret _ acts rfl rfl rfl]) | rw [hret _ _ rfl rfl rfl]
  exact Steps.refl _
/-- what holds at the law's entry: the machine, the code, the tables' words (any of lw_tbl by 'hts w (by decide +kernel)'), the script of L ints xs at the cell b, what the Statement gives of the start (any of its parts by flat_of_before) -/
def lw_At (p : Program) (s : State) (m : MethodId) (meth : Method) (c : Code) (b L : Nat) (xs : Nat → Int32) : Prop :=
  p.tables.exec = Jvm.exec ∧ c.code = code ∧ meth.sig.returnType = ret ∧ c.maxLocals = 4 ∧ s.vm.findClass R_law = some m.cls ∧ (∀ w ∈ lw_tbl, w.before #[Value.ref b] s = true) ∧ va_X b L xs s s.heap ∧ b < s.heap.size ∧ meth.locks = false ∧ (Jvm.Cond.and given_1 narrow_1).before #[Value.ref b] s = true
-- ===== YOUR PART BEGINS =====
/-- the law's walk, out of a run of the reader -/
theorem whole_of {p : Program} {e : Env} {s : State} {m : MethodId} {below : List Frame} {meth : Method} {c : Code} (l : Launch) {b L : Nat} {xs : Nat → Int32} (C0 : lw_At p s m meth c b L xs) {n : Nat} {hE : Hp} (hex : exec L xs n 2000 0 0 [(0, .retAddr 0)] [] hp0 = some (some (.int 1), hE)) (hc : hE.1 ≤ 600000) (hs : slt hE.1 ≤ 7302250) : W p l e room_1 s m #[Value.ref b] below meth c s.heap [] 0 0 (lw_Z below #[Value.ref b] s) (entryFrame m ([Value.ref b] : List Value).toArray 4) := by
  obtain ⟨hx, hb, hr, hml, hown, hts, hX, hbl, hlocks, hgv⟩ := id C0
  obtain ⟨D, κ, xa, fv, hf, hxb, hK⟩ := start_XK (L := L) hts hgv hX hbl
  have hl := lv_entry ([.ref b]) (n := 4) (Nat.le_of_ble_eq_true rfl)
  rw [lg_entry_eq]
  generalize (lg_sl ([.ref b]) ++ List.replicate (4 - (lg_sl ([.ref b])).length) Slot.unset).toArray = ls at hl ⊢
  have hl2 : lv_has ls (mL 0) (([(0, .retAddr 0)] : Lv).map (dQ s.heap.size xa fv)) := by
    have e1 : dV s.heap.size xa fv (.retAddr 0) = .ref b := by rw [← hxb]; rfl
    have e2 : (([(0, .retAddr 0)] : Lv).map (dQ s.heap.size xa fv)) = [(0, .ref b)] := by
      show [((0 : Nat), dV s.heap.size xa fv (.retAddr 0))] = _
      rw [e1]
    rw [e2]
    exact hl
  refine snd_all hf n 2000 0 0 [(0, .retAddr 0)] [] hp0 (some (.int 1)) hE hex (by decide) p e room_1 s m #[Value.ref b] below meth c s.heap [] 0 0 _ ls hx hb hml hown (fun h => by cases h) (fun w hw => hts w (gw_good hw).1) hK va_S.rf ⟨fun k q h => by simp [wsH, hp0] at h, fun k j _ => ⟨rfl, rfl, rfl⟩⟩ (Nat.le_refl _) rfl (Nat.le_of_ble_eq_true rfl) (Nat.le_of_ble_eq_true rfl) (by show 0 + hE.1 ≤ 600000 + 0; omega) (by show 0 + slt hE.1 ≤ 7302250 + 0; omega) hl2 ?_
  intro H1 locs1 c1 s1 pc1 ls1 hR1 hS1 e1 e2 hret
  have e1 : c1 + 0 = 0 + hE.1 := e1
  have e2 : s1 + 0 = 0 + slt hE.1 := e2
  refine va_forget (fun q hq => hS1.2.2 q hq) ?_
  refine W.widen (k := 600000) (n := 7302250) (by omega) (by omega) ?_
  exact lw_ret hx hb hr hlocks hret.1
