/-! calls on both sides: looks ahead, a turn -/
section ST
variable {L : Nat} {xs : Nat → Int32} {g g1 : Nat → Nat → Nat} {hl : Nat → Nat → Int64} {rt : Nat × Nat × Nat × Nat}
theorem S_on (d : Nat) (n : Nat) (x : Nat) (hn : n < 2 ^ 32) (hx : x < 2 ^ 32) : StepC L xs (d + 20) 88 200 [(1, .int (nI n)), (2, .int (nI x))] := by
  intro g hl rt hV
  refine K_on (d + 11) g hl rt hV n x hn hx (fun g1 hV1 => ?_)
  refine ⟨_, _, _, _, rfl, rfl, ?_⟩
  refine Ev.hp (congrArg (fun z => HN z hl (RF rt)) (U_self g1).symm) ?_
  refine C_on (d + 9) g1 hl rt hV1.mi hV1.kw n x hn hx _ _ _ (SmH.self hV1.mi) (fun g2 r w v hc hs => ?_)
  exact ⟨rfl, _, _, _, rfl, (hV1.cy hc).u (hs.scy hc)⟩
theorem S_rank (d : Nat) (n : Nat) (hn : n < 2 ^ 32) : StepC L xs (d + 20) 95 209 [(1, .int (nI n))] := by
  intro g hl rt hV
  refine K_rank (d + 11) g hl rt hV n hn (fun g1 hV1 => ?_)
  refine ⟨_, _, _, _, rfl, rfl, ?_⟩
  refine Ev.hp (congrArg (fun z => HN z hl (RF rt)) (U_self g1).symm) ?_
  refine C_rank (d + 9) g1 hl rt hV1.mi hV1.kw n hn _ _ _ (SmH.self hV1.mi) (fun g2 r w v hc hs => ?_)
  exact ⟨rfl, _, _, _, rfl, (hV1.cy hc).u (hs.scy hc)⟩
theorem S_endsQ (d : Nat) (x : Nat) (hx : x < 2 ^ 32) : StepC L xs (d + 20) 89 202 [(1, .int (nI x))] := by
  intro g hl rt hV
  refine K_endsQ (d + 12) g hl rt hV x hx (fun g1 hV1 => ?_)
  refine ⟨_, _, _, _, rfl, rfl, ?_⟩
  refine Ev.hp (congrArg (fun z => HN z hl (RF rt)) (U_self g1).symm) ?_
  refine C_endsQ (d + 8) g1 hl rt hV1.mi hV1.kw x hx _ _ _ (SmH.self hV1.mi) (fun g2 r w v hc hs => ?_)
  exact ⟨rfl, _, _, _, rfl, (hV1.cy hc).u (hs.scy hc)⟩
theorem S_out (d : Nat) (x : Nat) (hx : x < 2 ^ 32) : StepC L xs (d + 20) 94 208 [(1, .int (nI x))] := by
  intro g hl rt hV
  refine K_out (d + 12) g hl rt hV x hx (fun g1 hV1 => ?_)
  refine ⟨_, _, _, _, rfl, rfl, ?_⟩
  refine Ev.hp (congrArg (fun z => HN z hl (RF rt)) (U_self g1).symm) ?_
  refine C_out (d + 8) g1 hl rt hV1.mi hV1.kw x hx _ _ _ (SmH.self hV1.mi) (fun g2 r w v hc hs => ?_)
  exact ⟨rfl, _, _, _, rfl, (hV1.cy hc).u (hs.scy hc)⟩
theorem S_mean (d : Nat) (n : Nat) (part : Nat) (hn : n < 2 ^ 32) (hpart : part < 2 ^ 32) : StepC L xs (d + 20) 101 217 [(1, .int (nI n)), (2, .int (nI part))] := by
  intro g hl rt hV
  refine K_mean (d + 12) g hl rt hV n part hn hpart (fun g1 hV1 => ?_)
  refine ⟨_, _, _, _, rfl, rfl, ?_⟩
  refine Ev.hp (congrArg (fun z => HN z hl (RF rt)) (U_self g1).symm) ?_
  refine C_mean (d + 8) g1 hl rt hV1.mi hV1.kw n part hn hpart _ _ _ (SmH.self hV1.mi) (fun g2 r w v hc hs => ?_)
  exact ⟨rfl, _, _, _, rfl, (hV1.cy hc).u (hs.scy hc)⟩
theorem S_looked (d : Nat)  : StepC L xs (d + 20) 103 219 [] := by
  intro g hl rt hV
  refine K_looked (d + 12) g hl rt hV  (fun g1 hV1 => ?_)
  refine ⟨_, _, _, _, rfl, rfl, ?_⟩
  refine Ev.hp (congrArg (fun z => HN z hl (RF rt)) (U_self g1).symm) ?_
  refine C_looked (d + 9) g1 hl rt hV1.mi hV1.kw  _ _ _ (SmH.self hV1.mi) (fun g2 r w v hc hs => ?_)
  exact ⟨rfl, _, _, _, rfl, (hV1.cy hc).u (hs.scy hc)⟩
theorem ROs44_ne (g : Nat → Nat → Nat) (s : Sx) {a : Nat} (h : a < 44 ∨ 47 < a) (j : Nat) : ROs g 44 s a j = g a j := RO_ne g 44 _ _ _ _ (fun k hk => by omega) j
theorem ROs44_self (g : Nat → Nat → Nat) : ROs g 44 (g 44, g 45, g 46, g 47) = g := by
  funext a j
  by_cases h : a < 44 ∨ 47 < a
  · rw [ROs44_ne g _ h]
  · rcases (show a = 44 ∨ a = 45 ∨ a = 46 ∨ a = 47 by omega) with rfl | rfl | rfl | rfl <;> rfl
theorem Em.ro44 (g : Nat → Nat → Nat) (s : Sx) : Em g (ROs g 44 s) := fun a ha => funext (fun j => ROs44_ne g s (by omega) j)
theorem K_turn (d : Nat) (g : Nat → Nat → Nat) (hl : Nat → Nat → Int64) (rt : Nat × Nat × Nat × Nat) (hV : Inv g hl rt) {Q : Po} (hq : ∀ g1, Inv g1 hl rt → RDY g1 → ∀ (v : Nat) (T : Sx), plXs g1 (lwS g1 1) (g1 44, g1 45, g1 46, g1 47) = (v, T) → Q (some (.int (nI v))) (HN (ROs g1 44 T) hl (RF rt))) : Ev L xs (d + 8) 86 0 [(0, .ref 0)] [] (HN g hl (RF rt)) Q := by
  refine Ev.run 2 (pc' := 4) (lv' := [(0, .ref 0)]) (st' := [.ref 12]) (h' := HN g hl (RF rt)) rfl ?_
  refine Ev.call (a := 28) (as := [.ref 12]) (rest := []) (lv0 := [(0, .ref 12)]) (Q1 := (fun z0 h' => z0 = none ∧ ∃ g1, h' = HN g1 hl (RF rt) ∧ Inv g1 hl rt ∧ Em g g1 ∧ Fr g g1 ∧ RDY g1)) rfl rfl (K_prepare _ g hl rt hV (fun g1 h1 h2 h3 h4 => ⟨rfl, g1, rfl, h1, h2, h3, h4⟩)) (fun r h' hr => ?_)
  obtain ⟨rfl, g1, rfl, hV1, hem, hfr, hrd⟩ := hr
  refine Ev.run 5 (pc' := 18) (lv' := [(0, .ref 0)]) (st' := [.ref 44, .ref 12]) (h' := HN g1 hl (RF rt)) rfl ?_
  refine Ev.hp (congrArg (fun z => HN z hl (RF rt)) (ROs44_self g1).symm) ?_
  have hg : GX g1 g1 (lwS g1 1) := ⟨hV1.mi, hV1.mi, hV1.gm.cb, ⟨fun _ _ _ _ _ _ _ _ => rfl, fun _ _ _ _ _ _ _ _ _ _ _ _ => rfl⟩, rfl, hV1.gm.cs, hrd.1, hrd.2⟩
  obtain ⟨v, T, h1, h2, h3, h4, h5, h6⟩ := pl_both (T := (g1 44, g1 45, g1 46, g1 47)) hg hV1.gm.rx hV1.gm.ry
  refine Ev.call (a := 36) (as := [.ref 12, .ref 44]) (rest := []) (lv0 := [(0, .ref 12), (1, .ref 44)]) (Q1 := (fun z0 h' => z0 = some (.int (nI v)) ∧ h' = HN (ROs g1 44 T) hl (RF rt))) rfl rfl (K44_playS _ _ _ hV1.gok h2 ⟨congrArg (fun z => some (Value.int (nI z.1))) h1, congrArg (fun z => HN (ROs g1 44 z.2) hl (RF rt)) h1⟩) (fun r h' hr => ?_)
  obtain ⟨rfl, rfl⟩ := hr
  refine Ev.ret (v := some (.int (nI v))) rfl ?_
  exact hq g1 hV1 hrd v T h1
theorem inv_turn (hV : Inv g hl rt) {W : Nat → Nat → Nat} {T : Sx} (hA : Ag (fun c => c = 44 ∨ c = 45 ∨ c = 46 ∨ c = 47 ∨ c = 173 ∨ c = 175 ∨ c = 185 ∨ c = 186) (fun j => j = 7 ∨ j = 8 ∨ j = 9 ∨ j = 36) g W) (m : MI W) (hx : RXs T W) (hc : W 44 = T.1 ∧ W 45 = T.2.1 ∧ W 46 = T.2.2.1 ∧ W 47 = T.2.2.2) (hry : RY W) : Inv W hl rt := by
  have hrx : RX (W 44) (W 45) (W 46) (W 47) W := by rw [hc.1, hc.2.1, hc.2.2.1, hc.2.2.2]; exact hx
  exact Ag.inv hA hV m (by omega) ⟨by omega, by omega, by omega, by omega, fun f hf => by omega⟩ (by omega) ⟨fun c hc => by unfold imC at hc; omega, fun j hj => by omega⟩ (hA.ln hV.sp (by omega) (by omega)) (hA.ln hV.tx (by omega) (by omega)) ⟨(hA.cb hV.gm.cb (fun c hc => by omega) (by omega)), (hA.cpl hV.mi hV.gm.cp (fun c hc => by omega) (by omega)), (hA.cs hV.gm.cs (by omega)), hrx, hry, (hA.ln hV.gm.l48 (by omega) (by omega)), (hA.ln hV.gm.l50 (by omega) (by omega)), (hA.ln hV.gm.l52 (by omega) (by omega)), (hA.sw hV.gm.sw (by omega)), (hA.ln hV.gm.l54 (by omega) (by omega))⟩ (hA.ac hV.ac (by omega)) (hA.tp hV.tp ⟨fun t ht => by omega, by omega, by omega⟩) (by rw [hA.1 59 (by omega) (by omega)]; exact hV.k59) (by rw [hA.1 18 (by omega) (by omega)]; exact hV.k18)
theorem S_turn (d : Nat) : StepC L xs (d + 20) 86 193 [] := by
  intro g hl rt hV
  refine K_turn (d + 12) g hl rt hV (fun g1 hV1 hrd v T hT => ?_)
  have hg : GX g1 g1 (lwS g1 1) := ⟨hV1.mi, hV1.mi, hV1.gm.cb, ⟨fun _ _ _ _ _ _ _ _ => rfl, fun _ _ _ _ _ _ _ _ _ _ _ _ => rfl⟩, rfl, hV1.gm.cs, hrd.1, hrd.2⟩
  obtain ⟨v', T', h1, h2, h3, h4, h5, h6⟩ := pl_both (T := (g1 44, g1 45, g1 46, g1 47)) hg hV1.gm.rx hV1.gm.ry
  rw [hT] at h1
  cases h1
  have em := Em.ro44 g1 T
  refine ⟨_, _, _, _, rfl, rfl, ?_⟩
  refine Ev.hp (congrArg (fun z => HN z hl (RF rt)) (U_self (ROs g1 44 T)).symm) ?_
  refine C_turn (d + 10) (ROs g1 44 T) hl rt (em.mI hV1.mi) (em.kW hV1.kw) _ _ _ (SmH.self (em.mI hV1.mi)) (fun r w u hs => ?_)
  have hgs : Em (gs_turn g1) (gs_turn (ROs g1 44 T)) := em.mturn
  have hct : Ct (ROs g1 44 T) (gs_turn (ROs g1 44 T)) := by
    unfold gs_turn
    split
    · exact Ct.refl _
    · exact Ct.tplG _ _
  have hmi : MI (gs_turn (ROs g1 44 T)) := by
    unfold gs_turn
    split
    · exact em.mI hV1.mi
    · exact (em.mI hV1.mi).mplG (tOK_n _)
  have hA : Ag (fun c => c = 44 ∨ c = 45 ∨ c = 46 ∨ c = 47 ∨ c = 173 ∨ c = 175 ∨ c = 185 ∨ c = 186) (fun j => j = 7 ∨ j = 8 ∨ j = 9 ∨ j = 36) g1 (gs_turn (ROs g1 44 T)) := by
    refine ⟨fun c h1 hc => ?_, fun j hj => ?_⟩
    · rw [hct.1 c h1 (by omega) (by omega) (by omega) (by omega)]
      exact funext (fun j => ROs44_ne g1 T (by omega) j)
    · rw [hct.2 j (by omega) (by omega) (by omega) (by omega)]
      exact ROs44_ne g1 T (by omega) j
  have hrs : RXs T (gs_turn g1) ∧ RY (gs_turn g1) ∧ v = rs_turn g1 := by
    unfold gs_turn rs_turn
    rcases h5 with ⟨a1, a2, a3, a4⟩ | ⟨a1, a2, a3, a4, a5, a6⟩
    · rw [if_pos a1, if_pos a1]; exact ⟨a3, hV1.gm.ry, a2⟩
    · rw [if_neg a1, if_neg a1]; exact ⟨a3, a5, a2⟩
  have hc4 : ∀ c, c < 166 → gs_turn (ROs g1 44 T) c = ROs g1 44 T c := fun c hc => hct.1 c (by omega) (by omega) (by omega) (by omega) (by omega)
  refine ⟨by rw [em.zturn, ← hrs.2.2], _, _, _, rfl, (inv_turn hV1 hA hmi (hrs.1.em hgs) ⟨hc4 44 (by decide), hc4 45 (by decide), hc4 46 (by decide), hc4 47 (by decide)⟩ (hrs.2.1.cg (hgs.f 6) (hgs.f 7) (hgs.f 8))).u hs⟩
end ST
