/-! what the reader's steps mean on the machine: cells -/
theorem eq4_of {q : Nat × Nat × Nat × Nat} {a b c d : Nat} (h : eq4 q a b c d = true) : q.1 = a ∧ q.2.1 = b ∧ q.2.2.1 = c ∧ q.2.2.2 = d := by
  simp only [eq4, Bool.and_eq_true] at h
  exact ⟨beq_e h.1.1.1, beq_e h.1.1.2, beq_e h.1.2, beq_e h.2⟩
theorem eq3_of {q : Nat × Nat × Nat} {a b c : Nat} (h : eq3 q a b c = true) : q.1 = a ∧ q.2.1 = b ∧ q.2.2 = c := by
  simp only [eq3, Bool.and_eq_true] at h
  exact ⟨beq_e h.1.1, beq_e h.1.2, beq_e h.2⟩
theorem okT_at {a b : Nat} (ha : a < 11) (hb : b < cNn a) : okT (fy a b) = true := by
  have h1 := List.all_eq_true.mp okT_all a (List.mem_range.mpr ha)
  exact List.all_eq_true.mp h1 b (List.mem_range.mpr (Nat.lt_of_lt_of_le hb (cNn_le ha)))
theorem catS_map {z0 : Nat} {xa : Nat → Nat} {fv : Value} (hf : fvOK fv) (r : List Value) : ((r.map (dV z0 xa fv)).map fun v => v.category).sum = catS r := by
  unfold catS
  rw [List.map_map]
  refine congrArg _ (List.map_congr_left fun v _ => ?_)
  exact dV_cat hf v
theorem nfw : nativeFrameWords "java/lang/System" "arraycopy" 5 ≤ 60 := by decide +kernel
theorem tyL_at {κ : Nat → ClassId} {c : Nat} (h1 : 14 ≤ c) (h2 : c < 18) : (tyL κ)[c - 11]? = some (κ (c - 11), .object (oNm c)) := by
  rcases (show c = 14 ∨ c = 15 ∨ c = 16 ∨ c = 17 by omega) with rfl | rfl | rfl | rfl <;> rfl
theorem wsH_at {h : Hp} {z0 : Nat} {κ : Nat → ClassId} {k : Nat} {E : va_E} (hk : k < h.1) (hE : enE h z0 κ k = E) : (wsH h z0 κ)[k]? = some (z0 + k, E) := by rw [wsH_get hk, hE]
section SD
variable {p : Program} {l : Launch} {e : Env} {R : Room} {s : State} {m : MethodId} {args : Array Value} {below : List Frame} {meth : Method} {c : Code} {H : Heap} {locs : List Loc} {cells slots : Nat} {Q : State → Prop}
variable {cc : ByteArray} {pc : Nat} {ls : Array Slot} {z0 : Nat} {xa : Nat → Nat} {fv : Value} {L : Nat} {xs : Nat → Int32} {D : va_G} {κ : Nat → ClassId} {st st' : List Value} {hp hp' : Hp} {o : Nat}
theorem W.sz (kk : H.size ≤ s.heap.size + cells → W p l e R s m args below meth c H locs cells slots Q (F0 m pc ls st)) : W p l e R s m args below meth c H locs cells slots Q (F0 m pc ls st) :=
  fun T hT X => kk (by rw [← hT]; exact X.heapSize) T hT X
theorem Rel.ge (hz : z0 ≤ s.heap.size) (hS : va_S (aA z0) s.heap H locs) (hP : Rel z0 κ D hp H) : z0 + hp.1 ≤ H.size := by
  by_cases h0 : hp.1 = 0
  · have := hS.1; omega
  · have h1 := (hP.1 (hp.1 - 1) _ (wsH_get (by omega))).lt
    have h2 : z0 + (hp.1 - 1) < H.size := h1
    omega
theorem s_getF {a b t k q : Nat} (hx : p.tables.exec = Jvm.exec) (hb : c.code = cc) (hown : s.vm.findClass (cNm o) = some m.cls) (hts : ∀ w ∈ GW, w.before args s = true) (hX : XK z0 xa fv L xs D κ s s.heap) (hS : va_S (aA z0) s.heap H locs) (hP : Rel z0 κ D hp H)
    (hd : decode cc pc = .ok (.getfield k, 3)) (hR : (bif Nat.blt a 11 then Nat.blt b (cNn a) && Nat.blt q FTn && eq4 (FT q) o k a b && Nat.beq t (tcd (fy a b)) else Nat.blt q STn && eq3 (ST q) o k b) = true)
    (h : getF a b t st hp = some st') (kk : W p l e R s m args below meth c H locs cells slots Q (F0 m (pc + 3) ls (st'.map (dV z0 xa fv)))) : W p l e R s m args below meth c H locs cells slots Q (F0 m pc ls (st.map (dV z0 xa fv))) := by
  unfold getF at h
  split at h
  · rename_i y r
    obtain ⟨h1, rfl⟩ := cnd_some h
    rw [Bool.and_eq_true] at h1
    have ha := blt_lt h1.1
    obtain ⟨hy, hc⟩ := isK_of h1.2
    rw [h1.1] at hR
    simp only [cond_true, Bool.and_eq_true] at hR
    obtain ⟨⟨⟨hbn, hq⟩, hf⟩, ht⟩ := hR
    obtain ⟨f1, f2, f3, f4⟩ := eq4_of hf
    have hw := gw_mem (FT_ok (blt_lt hq)) rfl
    rw [f1, f2, f3, f4] at hw
    have hg := hts _ hw
    have hv := fVs_get (ri := hp.2.1 y) (rr := hp.2.2.2 y) (z0 := z0) (blt_lt hbn)
    rw [List.map_cons, dV_gfv (beq_e ht)] at kk
    exact va_get hx hb hts (lays_in ha) hown hX.1 hP.1 y (wsH_at hy (en_obj hc ha)) (vw_at ha) b (blt_lt hbn) hg (fun x hx => hx) hv hd kk
  · rename_i y r
    obtain ⟨h1, rfl⟩ := cnd_some h
    rw [Bool.and_eq_true, Bool.and_eq_true] at h1
    have ha := ble_e h1.1.1
    have hy3 := ble_e h1.1.2
    have hy9 := blt_lt h1.2
    rw [blt_f (show ¬ a < 11 by omega)] at hR
    simp only [cond_false, Bool.and_eq_true] at hR
    obtain ⟨hq, hf⟩ := hR
    obtain ⟨f1, f2, f3⟩ := eq3_of hf
    have hw := gw_mem (ST_ok (blt_lt hq)) rfl
    rw [f1, f2, f3] at hw
    have hg := hts _ hw
    obtain ⟨g1, g2, g3, g4⟩ := hX.2.2.2.2.1.1 (y - 3) (by omega)
    dsimp only at g2 g3
    rw [show 3 + (y - 3) = y by omega] at g2 g3
    have e1 : dV z0 xa fv (.retAddr y) = .ref (xa y) := by show (bif Nat.beq y 15 then fv else Value.ref (xa y)) = _; rw [beq_f (show ¬ y = 15 by omega)]; rfl
    rw [List.map_cons, e1]
    cases hb0 : Nat.beq b 0 with
    | true =>
      rw [hb0] at kk
      obtain rfl := beq_e hb0
      have e2 : dV z0 xa fv (.retAddr (y + 6)) = .ref (xa (9 + (y - 3))) := by show (bif Nat.beq (y + 6) 15 then fv else Value.ref (xa (y + 6))) = _; rw [beq_f (show ¬ y + 6 = 15 by omega), show 9 + (y - 3) = y + 6 by omega]; rfl
      simp only [cond_true, List.map_cons, e2] at kk
      exact vk_getf hx hb g3 hS hown hg (fun x hx => hx) hd kk
    | false =>
      rw [hb0] at kk
      have hsn : sFN b = "coder" ∧ sFD b = "B" := by unfold sFN sFD; rw [hb0]; exact ⟨rfl, rfl⟩
      rw [hsn.1, hsn.2] at hg
      exact vk_getf hx hb g2 hS hown hg (fun x hx => hx) hd kk
  · cases h
theorem va_putX {own C : String} {T : u_T} {N ci index : Nat} {ws : va_W} {a q0 k : Nat} {fs : List Value} {H0 : Heap} {A : Nat → Prop} {tys : List (ClassId × FieldType)} {cl : List vw_C} {rest : List Value} (hexec : p.tables.exec = Jvm.exec) (hb : c.code = cc) {Ts : List Cond} (hts : ∀ w ∈ Ts, w.before args s = true) (hin : ∀ w ∈ u_ws C T N, w ∈ Ts) (ty0 : Nat → FieldType) (hty : ∀ k, k < N → parseFieldDescriptor (T k).2.2.1 = some (ty0 k)) (hnm : ∀ a, a < N → ∀ b, b < N → a ≠ b → (T a).2.1 ≠ (T b).2.1) (hown : s.vm.findClass own = some m.cls) (hK : va_K D cl tys s) (hP : va_P D cl ws H) (hD : va_D A ws) (hS0 : va_S A H0 H locs) (he : ws[q0]? = some (a, .inr (ci, fs))) (hc : cl[ci]? = some (C, T, N)) (hk : k < N) (hlink : (Cond.fieldLink own index (T k).1 (T k).2.1 (T k).2.2.1).before args s = true)
    (hfin : (T k).2.2.2 = false ∨ ((T k).2.2.2 = true ∧ meth.name = "<init>" ∧ (T k).1 = own)) {v : Value} (hn : narrow (ty0 k) v = v) (hfit : fits (ty0 k) v = true) (hl : k < fs.length)
    (hdg : decode cc pc = .ok (.putfield index, 3)) (kk : ∀ (H1 : Heap) (locs1 : List Loc), va_P D cl (ws.set q0 (a, .inr (ci, fs.set k v))) H1 → va_S A H0 H1 locs1 → W p l e R s m args below meth c H1 locs1 cells slots Q (F0 m (pc + 3) ls rest)) : W p l e R s m args below meth c H locs cells slots Q (F0 m pc ls (v :: .ref a :: rest)) := by
  rcases hfin with hfin | ⟨h1, h2, h3⟩
  · exact va_put hexec hb hts hin ty0 hty hnm hown hK hP hD hS0 q0 he hc k hk hlink (fun x hx => hx) hfin (hty k hk) hn hfit hl hdg (fun H1 locs1 x1 _ x3 => kk H1 locs1 x1 x3)
  · exact va_putF hexec hb hts hin ty0 hty hnm hown hK hP hD hS0 q0 he hc k hk hlink (fun x hx => hx) h1 h2 h3 (hty k hk) hn hfit hl hdg (fun H1 locs1 x1 _ x3 => kk H1 locs1 x1 x3)
theorem s_putF {a b t k q : Nat} {ini : Bool} (hx : p.tables.exec = Jvm.exec) (hb : c.code = cc) (hown : s.vm.findClass (cNm o) = some m.cls) (hini : ini = true → meth.name = "<init>") (hts : ∀ w ∈ GW, w.before args s = true) (hX : XK z0 xa fv L xs D κ s s.heap) (hS : va_S (aA z0) s.heap H locs) (hP : Rel z0 κ D hp H)
    (hd : decode cc pc = .ok (.putfield k, 3)) (hR : (Nat.blt a 11 && Nat.blt b (cNn a) && Nat.blt q FTn && eq4 (FT q) o k a b && Nat.beq t (tcd (fy a b)) && (!(fT a b).2.2.2 || (ini && Nat.beq a o))) = true)
    (h : putF a b t st hp = some (st', hp')) (kk : ∀ H1 locs1, Rel z0 κ D hp' H1 → va_S (aA z0) s.heap H1 locs1 → hp'.1 = hp.1 → W p l e R s m args below meth c H1 locs1 cells slots Q (F0 m (pc + 3) ls (st'.map (dV z0 xa fv)))) : W p l e R s m args below meth c H locs cells slots Q (F0 m pc ls (st.map (dV z0 xa fv))) := by
  simp only [Bool.and_eq_true] at hR
  obtain ⟨⟨⟨⟨⟨ha, hbn⟩, hq⟩, hf⟩, ht⟩, hfn⟩ := hR
  have ha := blt_lt ha
  have hbn := blt_lt hbn
  have ht := beq_e ht
  obtain ⟨f1, f2, f3, f4⟩ := eq4_of hf
  have hw := gw_mem (FT_ok (blt_lt hq)) rfl
  rw [f1, f2, f3, f4] at hw
  have hg := hts _ hw
  have hfin : (fT a b).2.2.2 = false ∨ ((fT a b).2.2.2 = true ∧ meth.name = "<init>" ∧ (fT a b).1 = cNm o) := by
    cases hb2 : (fT a b).2.2.2 with
    | false => exact Or.inl rfl
    | true =>
      rw [hb2] at hfn
      simp only [Bool.not_true, Bool.false_or, Bool.and_eq_true] at hfn
      exact Or.inr ⟨rfl, hini hfn.1, by rw [(lay_all ha hbn).2, beq_e hfn.2]⟩
  have hok := okT_at ha hbn
  unfold putF at h
  split at h
  · rename_i x y r
    obtain ⟨h1, h2⟩ := cnd_some h
    cases h2
    rw [Bool.and_eq_true] at h1
    obtain ⟨hy, hc⟩ := isK_of h1.1
    have hty : tcd (fy a b) ≤ 1 ∧ narrow (fy a b) (.int x) = .int x ∧ fits (fy a b) (.int x) = true := by
      have h3 := h1.2
      rw [ht] at h3
      cases hfy : fy a b with
      | int => exact ⟨by decide, rfl, rfl⟩
      | boolean =>
        rw [hfy] at h3
        have h4 : b01 x = true := by simpa [tcd] using h3
        unfold b01 at h4
        rw [Bool.or_eq_true, decide_eq_true_eq, decide_eq_true_eq] at h4
        rcases h4 with rfl | rfl <;> exact ⟨by decide, by decide, by decide⟩
      | _ => rw [hfy] at h3; exact absurd h3 (by simp [tcd])
    refine va_putX hx hb hts (lays_in ha) (fy a) (fy_ok ha) (fN_ok ha) hown hX.1 hP.1 (wsH_D hp z0 κ) hS (wsH_at hy (en_obj hc ha)) (vw_at ha) hbn hg hfin hty.2.1 hty.2.2 (by rw [fVs_len]; exact hbn) hd (fun H1 locs1 x1 x3 => kk H1 locs1 ⟨?_, zr_I hP.2 hy⟩ x3 rfl)
    rw [wsH_set (h := hp) (h' := setI hp y b x) rfl hy (fun q hq => ⟨u2_row hq, rfl, rfl⟩)] at x1
    · exact x1
    · rw [en_obj hc ha]
      refine congrArg (fun z => Sum.inr (a, z)) (fVs_set (fun d hd => ⟨?_, rfl⟩) ?_).symm
      · show u2 hp.2.1 y b x y d = _
        rw [u2_same, if_neg hd]
      · show fVr (u2 hp.2.1 y b x y) _ z0 a b = _
        unfold fVr
        rw [u2_same, if_pos rfl, Nat.ble_eq_true_of_le hty.1]
        rfl
  · rename_i x y r
    obtain ⟨h1, h2⟩ := cnd_some h
    cases h2
    rw [Bool.and_eq_true] at h1
    obtain ⟨hy, hc⟩ := isK_of h1.1
    have hty : tcd (fy a b) = 2 ∧ narrow (fy a b) (.ref (z0 + x)) = .ref (z0 + x) ∧ fits (fy a b) (.ref (z0 + x)) = true := by
      have h3 := beq_e h1.2
      rw [ht] at h3
      refine ⟨h3, ?_⟩
      cases hfy : fy a b with
      | object n => exact ⟨rfl, rfl⟩
      | array n => exact ⟨rfl, rfl⟩
      | int => rw [hfy] at h3; cases h3
      | boolean => rw [hfy] at h3; cases h3
      | _ => rw [hfy] at hok; cases hok
    refine va_putX hx hb hts (lays_in ha) (fy a) (fy_ok ha) (fN_ok ha) hown hX.1 hP.1 (wsH_D hp z0 κ) hS (wsH_at hy (en_obj hc ha)) (vw_at ha) hbn hg hfin hty.2.1 hty.2.2 (by rw [fVs_len]; exact hbn) hd (fun H1 locs1 x1 x3 => kk H1 locs1 ⟨?_, zr_R hP.2 hy⟩ x3 rfl)
    rw [wsH_set (h := hp) (h' := setR hp y b (some x)) rfl hy (fun q hq => ⟨rfl, rfl, u2_row hq⟩)] at x1
    · exact x1
    · rw [en_obj hc ha]
      refine congrArg (fun z => Sum.inr (a, z)) (fVs_set (fun d hd => ⟨rfl, ?_⟩) ?_).symm
      · show u2 hp.2.2.2 y b (some x) y d = _
        rw [u2_same, if_neg hd]
      · show fVr _ (u2 hp.2.2.2 y b (some x) y) z0 a b = _
        unfold fVr
        rw [u2_same, if_pos rfl, hty.1]
        rfl
  · cases h
theorem s_iald (hx : p.tables.exec = Jvm.exec) (hb : c.code = cc) (hX : XK z0 xa fv L xs D κ s s.heap) (hS : va_S (aA z0) s.heap H locs) (hP : Rel z0 κ D hp H) (hd : decode cc pc = .ok (.iaload, 1)) (h : iald L xs st hp = some st')
    (kk : W p l e R s m args below meth c H locs cells slots Q (F0 m (pc + 1) ls (st'.map (dV z0 xa fv)))) : W p l e R s m args below meth c H locs cells slots Q (F0 m pc ls (st.map (dV z0 xa fv))) := by
  unfold iald at h
  split at h
  · rename_i i y r
    obtain ⟨h1, rfl⟩ := cnd_some h
    rw [Bool.and_eq_true] at h1
    obtain ⟨hy, hc⟩ := isK_of h1.1
    exact va_iald hx hb hX.1 hP.1 y 0 (wsH_at hy (en_I hc)) rfl (inb_iff.mp h1.2) hd kk
  · rename_i i y r
    obtain ⟨h1, rfl⟩ := cnd_some h
    rw [Bool.and_eq_true] at h1
    have hy := blt_lt h1.1
    have hi := inb_iff.mp h1.2
    obtain ⟨g0, g1, g2⟩ := hX.2.2.2.1
    rcases (show y = 0 ∨ y = 1 ∨ y = 2 by omega) with rfl | rfl | rfl
    · exact va_ti hx hb g0 hS hi rfl hd kk
    · exact va_ti hx hb g1 hS hi rfl hd kk
    · exact va_ti hx hb g2 hS hi rfl hd kk
  · cases h
theorem s_bald (hx : p.tables.exec = Jvm.exec) (hb : c.code = cc) (hX : XK z0 xa fv L xs D κ s s.heap) (hS : va_S (aA z0) s.heap H locs) (hP : Rel z0 κ D hp H) (hd : decode cc pc = .ok (.baload, 1)) (h : bald xs st hp = some st')
    (kk : W p l e R s m args below meth c H locs cells slots Q (F0 m (pc + 1) ls (st'.map (dV z0 xa fv)))) : W p l e R s m args below meth c H locs cells slots Q (F0 m pc ls (st.map (dV z0 xa fv))) := by
  unfold bald at h
  split at h
  · rename_i i y r
    obtain ⟨h1, rfl⟩ := cnd_some h
    rw [Bool.and_eq_true] at h1
    obtain ⟨hy, hc⟩ := isK_of h1.1
    exact va_zald hx hb hX.1 hP.1 y 2 (wsH_at hy (en_Z hc)) rfl (inb_iff.mp h1.2) hd kk
  · rename_i i y r
    obtain ⟨h1, rfl⟩ := cnd_some h
    rw [Bool.and_eq_true, Bool.and_eq_true] at h1
    have hy1 := ble_e h1.1.1
    have hy2 := blt_lt h1.1.2
    have hi := inb_iff.mp h1.2
    have g := fun i hi => (hX.2.2.2.2.1.1 i hi).2.2.2
    rcases (show y = 9 ∨ y = 10 ∨ y = 11 ∨ y = 12 ∨ y = 13 ∨ y = 14 by omega) with rfl | rfl | rfl | rfl | rfl | rfl
    · exact va_tb hx hb (g 0 (by omega)) hS hi rfl hd kk
    · exact va_tb hx hb (g 1 (by omega)) hS hi rfl hd kk
    · exact va_tb hx hb (g 2 (by omega)) hS hi rfl hd kk
    · exact va_tb hx hb (g 3 (by omega)) hS hi rfl hd kk
    · exact va_tb hx hb (g 4 (by omega)) hS hi rfl hd kk
    · exact va_tb hx hb (g 5 (by omega)) hS hi rfl hd kk
  · cases h
theorem s_lald (hx : p.tables.exec = Jvm.exec) (hb : c.code = cc) (hX : XK z0 xa fv L xs D κ s s.heap) (hP : Rel z0 κ D hp H) (hd : decode cc pc = .ok (.laload, 1)) (h : lald st hp = some st')
    (kk : W p l e R s m args below meth c H locs cells slots Q (F0 m (pc + 1) ls (st'.map (dV z0 xa fv)))) : W p l e R s m args below meth c H locs cells slots Q (F0 m pc ls (st.map (dV z0 xa fv))) := by
  unfold lald at h
  split at h
  · rename_i i y r
    obtain ⟨h1, rfl⟩ := cnd_some h
    rw [Bool.and_eq_true] at h1
    obtain ⟨hy, hc⟩ := isK_of h1.1
    exact va_lald hx hb hX.1 hP.1 y 1 (wsH_at hy (en_J hc)) rfl (inb_iff.mp h1.2) hd kk
  · cases h
theorem s_aald (hx : p.tables.exec = Jvm.exec) (hb : c.code = cc) (hX : XK z0 xa fv L xs D κ s s.heap) (hP : Rel z0 κ D hp H) (hd : decode cc pc = .ok (.aaload, 1)) (h : aald st hp = some st')
    (kk : W p l e R s m args below meth c H locs cells slots Q (F0 m (pc + 1) ls (st'.map (dV z0 xa fv)))) : W p l e R s m args below meth c H locs cells slots Q (F0 m pc ls (st.map (dV z0 xa fv))) := by
  unfold aald at h
  split at h
  · rename_i i y r
    obtain ⟨h1, rfl⟩ := cnd_some h
    simp only [Bool.and_eq_true] at h1
    obtain ⟨⟨⟨hy, c1⟩, c2⟩, hi⟩ := h1
    have c1 := ble_e c1
    have c2 := blt_lt c2
    rw [List.map_cons, dV_rf] at kk
    exact va_aldq hx hb hX.1 hP.1 y ((SH y).1 - 11) (wsH_at (blt_lt hy) (en_R c1)) (tyL_at c1 c2) (inb_iff.mp hi) hd kk
  · cases h
theorem s_alen (hx : p.tables.exec = Jvm.exec) (hb : c.code = cc) (hX : XK z0 xa fv L xs D κ s s.heap) (hS : va_S (aA z0) s.heap H locs) (hP : Rel z0 κ D hp H) (hd : decode cc pc = .ok (.arraylength, 1)) (h : alen L st hp = some st')
    (kk : W p l e R s m args below meth c H locs cells slots Q (F0 m (pc + 1) ls (st'.map (dV z0 xa fv)))) : W p l e R s m args below meth c H locs cells slots Q (F0 m pc ls (st.map (dV z0 xa fv))) := by
  unfold alen at h
  split at h
  · rename_i y r
    obtain ⟨h1, rfl⟩ := cnd_some h
    simp only [Bool.and_eq_true] at h1
    obtain ⟨⟨hy, c1⟩, c2⟩ := h1
    have hy := blt_lt hy
    have c1 := ble_e c1
    have c2 := blt_lt c2
    by_cases e1 : (SH y).1 = 11
    · exact va_alen hx hb hX.1 hP.1 y 0 (wsH_at hy (en_I e1)) (ty := .int) rfl rfl hd kk
    · by_cases e2 : (SH y).1 = 12
      · exact va_alen hx hb hX.1 hP.1 y 1 (wsH_at hy (en_J e2)) (ty := .long) rfl rfl hd kk
      · by_cases e3 : (SH y).1 = 13
        · exact va_alen hx hb hX.1 hP.1 y 2 (wsH_at hy (en_Z e3)) (ty := .boolean) rfl rfl hd kk
        · exact va_alen hx hb hX.1 hP.1 y ((SH y).1 - 11) (wsH_at hy (en_R (by omega))) (tyL_at (by omega) c2) rfl hd kk
  · rename_i y r
    obtain ⟨h1, rfl⟩ := cnd_some h
    obtain ⟨g0, g1, g2⟩ := hX.2.2.2.1
    have g := fun i hi => (hX.2.2.2.2.1.1 i hi).2.2.2
    simp only [Bool.or_eq_true, Bool.and_eq_true] at h1
    have hy : y = 0 ∨ y = 1 ∨ y = 2 ∨ y = 9 ∨ y = 10 ∨ y = 11 ∨ y = 12 ∨ y = 13 ∨ y = 14 := by
      rcases h1 with h1 | ⟨h1, h2⟩
      · have := blt_lt h1; omega
      · have := ble_e h1; have := blt_lt h2; omega
    rcases hy with rfl | rfl | rfl | rfl | rfl | rfl | rfl | rfl | rfl
    · exact va_tlen hx hb g0 hS rfl hd kk
    · exact va_tlen hx hb g1 hS rfl hd kk
    · exact va_tlen hx hb g2 hS rfl hd kk
    · exact va_tlen hx hb (g 0 (by omega)) hS rfl hd kk
    · exact va_tlen hx hb (g 1 (by omega)) hS rfl hd kk
    · exact va_tlen hx hb (g 2 (by omega)) hS rfl hd kk
    · exact va_tlen hx hb (g 3 (by omega)) hS rfl hd kk
    · exact va_tlen hx hb (g 4 (by omega)) hS rfl hd kk
    · exact va_tlen hx hb (g 5 (by omega)) hS rfl hd kk
  · cases h
theorem s_iast (hx : p.tables.exec = Jvm.exec) (hb : c.code = cc) (hX : XK z0 xa fv L xs D κ s s.heap) (hS : va_S (aA z0) s.heap H locs) (hP : Rel z0 κ D hp H) (hd : decode cc pc = .ok (.iastore, 1)) (h : iast st hp = some (st', hp'))
    (kk : ∀ H1 locs1, Rel z0 κ D hp' H1 → va_S (aA z0) s.heap H1 locs1 → hp'.1 = hp.1 → W p l e R s m args below meth c H1 locs1 cells slots Q (F0 m (pc + 1) ls (st'.map (dV z0 xa fv)))) : W p l e R s m args below meth c H locs cells slots Q (F0 m pc ls (st.map (dV z0 xa fv))) := by
  unfold iast at h
  split at h
  · rename_i x i y r
    obtain ⟨h1, h2⟩ := cnd_some h
    cases h2
    rw [Bool.and_eq_true] at h1
    obtain ⟨hy, hc⟩ := isK_of h1.1
    refine va_iast hx hb hX.1 hP.1 (wsH_D hp z0 κ) hS y 0 (wsH_at hy (en_I hc)) rfl (inb_iff.mp h1.2) hd (fun H1 locs1 x1 _ x3 => kk H1 locs1 ⟨?_, zr_I hP.2 hy⟩ x3 rfl)
    rw [wsH_set (h := hp) (h' := setI hp y i.toNatClampNeg x) rfl hy (fun q hq => ⟨u2_row hq, rfl, rfl⟩)] at x1
    · exact x1
    · rw [en_I hc]
      refine congrArg (fun z => Sum.inl (κ 0, (SH y).2, Sum.inl z)) (funext fun b => ?_)
      exact u2_same b
  · cases h
theorem s_bast (hx : p.tables.exec = Jvm.exec) (hb : c.code = cc) (hX : XK z0 xa fv L xs D κ s s.heap) (hS : va_S (aA z0) s.heap H locs) (hP : Rel z0 κ D hp H) (hd : decode cc pc = .ok (.bastore, 1)) (h : bast st hp = some (st', hp'))
    (kk : ∀ H1 locs1, Rel z0 κ D hp' H1 → va_S (aA z0) s.heap H1 locs1 → hp'.1 = hp.1 → W p l e R s m args below meth c H1 locs1 cells slots Q (F0 m (pc + 1) ls (st'.map (dV z0 xa fv)))) : W p l e R s m args below meth c H locs cells slots Q (F0 m pc ls (st.map (dV z0 xa fv))) := by
  unfold bast at h
  split at h
  · rename_i x i y r
    obtain ⟨h1, h2⟩ := cnd_some h
    cases h2
    rw [Bool.and_eq_true] at h1
    obtain ⟨hy, hc⟩ := isK_of h1.1
    refine va_zast hx hb hX.1 hP.1 (wsH_D hp z0 κ) hS y 2 (wsH_at hy (en_Z hc)) rfl (inb_iff.mp h1.2) hd (fun H1 locs1 x1 _ x3 => kk H1 locs1 ⟨?_, zr_I hP.2 hy⟩ x3 rfl)
    rw [wsH_set (h := hp) (h' := setI hp y i.toNatClampNeg (vp_nar .boolean x)) rfl hy (fun q hq => ⟨u2_row hq, rfl, rfl⟩)] at x1
    · exact x1
    · rw [en_Z hc]
      refine congrArg (fun z => Sum.inl (κ 2, (SH y).2, Sum.inl z)) (funext fun b => ?_)
      exact u2_same b
  · cases h
theorem s_last (hx : p.tables.exec = Jvm.exec) (hb : c.code = cc) (hX : XK z0 xa fv L xs D κ s s.heap) (hS : va_S (aA z0) s.heap H locs) (hP : Rel z0 κ D hp H) (hd : decode cc pc = .ok (.lastore, 1)) (h : last_ st hp = some (st', hp'))
    (kk : ∀ H1 locs1, Rel z0 κ D hp' H1 → va_S (aA z0) s.heap H1 locs1 → hp'.1 = hp.1 → W p l e R s m args below meth c H1 locs1 cells slots Q (F0 m (pc + 1) ls (st'.map (dV z0 xa fv)))) : W p l e R s m args below meth c H locs cells slots Q (F0 m pc ls (st.map (dV z0 xa fv))) := by
  unfold last_ at h
  split at h
  · rename_i x i y r
    obtain ⟨h1, h2⟩ := cnd_some h
    cases h2
    rw [Bool.and_eq_true] at h1
    obtain ⟨hy, hc⟩ := isK_of h1.1
    refine va_last hx hb hX.1 hP.1 (wsH_D hp z0 κ) hS y 1 (wsH_at hy (en_J hc)) rfl (inb_iff.mp h1.2) hd (fun H1 locs1 x1 _ x3 => kk H1 locs1 ⟨?_, zr_L hP.2 hy⟩ x3 rfl)
    rw [wsH_set (h := hp) (h' := setL hp y i.toNatClampNeg x) rfl hy (fun q hq => ⟨rfl, u2_row hq, rfl⟩)] at x1
    · exact x1
    · rw [en_J hc]
      refine congrArg (fun z => Sum.inl (κ 1, (SH y).2, Sum.inr (Sum.inl z))) (funext fun b => ?_)
      exact u2_same b
  · cases h
theorem eCls_ok {k : Nat} (h1 : 14 ≤ k) (h2 : k < 18) : eCls k < 11 ∧ oNm k = cNm (eCls k) := by
  rcases (show k = 14 ∨ k = 15 ∨ k = 16 ∨ k = 17 by omega) with rfl | rfl | rfl | rfl <;> exact ⟨by decide, rfl⟩
theorem s_aast (hx : p.tables.exec = Jvm.exec) (hb : c.code = cc) (hX : XK z0 xa fv L xs D κ s s.heap) (hS : va_S (aA z0) s.heap H locs) (hP : Rel z0 κ D hp H) (hd : decode cc pc = .ok (.aastore, 1)) (h : aast st hp = some (st', hp'))
    (kk : ∀ H1 locs1, Rel z0 κ D hp' H1 → va_S (aA z0) s.heap H1 locs1 → hp'.1 = hp.1 → W p l e R s m args below meth c H1 locs1 cells slots Q (F0 m (pc + 1) ls (st'.map (dV z0 xa fv)))) : W p l e R s m args below meth c H locs cells slots Q (F0 m pc ls (st.map (dV z0 xa fv))) := by
  unfold aast at h
  split at h
  · rename_i x i y r
    obtain ⟨h1, h2⟩ := cnd_some h
    cases h2
    simp only [Bool.and_eq_true] at h1
    obtain ⟨⟨⟨⟨hy, c1⟩, c2⟩, hi⟩, hq⟩ := h1
    have hy := blt_lt hy
    have c1 := ble_e c1
    have c2 := blt_lt c2
    obtain ⟨e1, e2⟩ := eCls_ok c1 c2
    obtain ⟨hqn, hqc⟩ := isK_of hq
    have hty := tyL_at (κ := κ) c1 c2
    rw [e2] at hty
    refine va_astq hx hb hX.1 hP.1 (wsH_D hp z0 κ) hS y ((SH y).1 - 11) x (eCls (SH y).1) (r := (cNm (eCls (SH y).1), fT (eCls (SH y).1), cNn (eCls (SH y).1))) (wsH_at hy (en_R c1)) hty (wsH_at hqn (en_obj hqc e1)) (vw_at e1) (inb_iff.mp hi) hd (fun H1 locs1 x1 _ x3 => kk H1 locs1 ⟨?_, zr_R hP.2 hy⟩ x3 rfl)
    rw [wsH_set (h := hp) (h' := setR hp y i.toNatClampNeg (some x)) rfl hy (fun q hq => ⟨rfl, rfl, u2_row hq⟩)] at x1
    · exact x1
    · rw [en_R c1]
      refine congrArg (fun z => Sum.inl (κ ((SH y).1 - 11), (SH y).2, Sum.inr (Sum.inr (Sum.inr (Sum.inr z))))) (funext fun b => ?_)
      show (u2 hp.2.2.2 y i.toNatClampNeg (some x) y b).map _ = _
      rw [u2_same]
      unfold va_up
      split <;> rfl
  · cases h
end SD
