/-! calls on both sides: small ones -/
section ST
variable {L : Nat} {xs : Nat → Int32} {g g1 : Nat → Nat → Nat} {hl : Nat → Nat → Int64} {rt : Nat × Nat × Nat × Nat}
theorem S_letter (d : Nat) (i : Nat) (x : Nat) (hi : i < 2 ^ 32) (hx : x < 2 ^ 32) : StepC L xs (d + 20) 78 134 [(1, .int (nI i)), (2, .int (nI x))] := by
  intro g hl rt hV
  refine K_letter (d + 18) g hl rt hV i x hi hx ?_
  refine ⟨_, _, _, _, rfl, rfl, ?_⟩
  refine C_letter (d + 18) g hl rt hV.mi i x hi hx ?_
  exact ⟨rfl, _, _, _, rfl, hV⟩
theorem S_told (d : Nat) (x : Nat) (hx : x < 2 ^ 32) : StepC L xs (d + 20) 85 196 [(1, .int (nI x))] := by
  intro g hl rt hV
  refine K_told (d + 19) g hl rt hV x hx ?_
  refine ⟨_, _, _, _, rfl, rfl, ?_⟩
  refine C_told (d + 18) g hl rt hV.mi x hx ?_
  exact ⟨rfl, _, _, _, rfl, hV⟩
theorem S_trace (d : Nat) (x : Nat) (hx : x < 2 ^ 32) : StepC L xs (d + 20) 108 232 [(1, .int (nI x))] := by
  intro g hl rt hV
  refine K_trace (d + 19) g hl rt hV x hx ?_
  refine ⟨_, _, _, _, rfl, rfl, ?_⟩
  refine C_trace (d + 19) g hl rt hV.mi x hx ?_
  exact ⟨rfl, _, _, _, rfl, hV⟩
theorem S_count (d : Nat) (x : Nat) (hx : x < 2 ^ 32) : StepC L xs (d + 20) 110 234 [(1, .int (nI x))] := by
  intro g hl rt hV
  refine K_count (d + 20) g hl rt hV x hx ?_
  refine ⟨_, _, _, _, rfl, rfl, ?_⟩
  refine C_count (d + 20) g hl rt x hx ?_
  exact ⟨rfl, _, _, _, rfl, hV⟩
theorem S_taken (d : Nat) (p : Nat) (k : Nat) (hp : p < 2 ^ 32) (hk : k < 2 ^ 32) : StepC L xs (d + 20) 109 233 [(1, .int (nI p)), (2, .int (nI k))] := by
  intro g hl rt hV
  refine K_taken (d + 17) g hl rt hV p k hp hk ?_
  refine ⟨_, _, _, _, rfl, rfl, ?_⟩
  refine C_taken (d + 18) g hl rt hV.mi p k hp hk ?_
  exact ⟨rfl, _, _, _, rfl, hV⟩
theorem Em.zspell (h : Em g g1) (x : Nat) : rs_spell g1 x = rs_spell g x := by unfold rs_spell; rw [h.f1]
theorem em_spell (x : Nat) : Em g (cs_spell g x) := by
  unfold cs_spell
  split
  · exact Em.own g (by decide) _ _
  · split
    · split
      · exact Em.refl g
      · exact (Em.own g (by decide) _ _).trans (Em.own _ (by decide) _ _)
    · exact Em.refl g
theorem inv_spell (hV : Inv g hl rt) (x : Nat) : Inv (gs_spell (cs_spell g x) x) hl rt := by
  have e := em_spell (g := g) x
  have hS := hV.mi.hS
  unfold gs_spell
  rw [e.f1]
  unfold cs_spell
  by_cases h1 : x = 4294967295
  · rw [if_pos h1, if_pos h1]
    have k : Ag (fun c => c = 1 ∨ c = 2 ∨ c = 170) (fun j => j = 1) g (u2 (u2 g 1 1 0) 166 1 0) := (((Ag.nil (fun c => c = 1 ∨ c = 2 ∨ c = 170) (fun j => j = 1) g).u (by omega) (by omega) _ _).f (by omega) _)
    exact Ag.inv k hV (MI.f1 hV.mi (by omega)) (by omega) ⟨by omega, by omega, by omega, by omega, fun f hf => by omega⟩ (by omega) ⟨fun c hc => by unfold imC at hc; omega, fun j hj => by omega⟩ ⟨rfl, fun i hi => absurd hi (Nat.not_lt_zero _)⟩ (k.ln hV.tx (by omega) (by omega)) (k.gm hV.mi hV.gm (fun c hc => by unfold gmC at hc; omega) (fun j hj => by unfold gmJ at hj; omega)) (k.ac hV.ac (by omega)) (k.tp hV.tp ⟨fun t ht => by omega, by omega, by omega⟩) hV.k59 hV.k18
  · rw [if_neg h1, if_neg h1]
    by_cases h2 : x ≤ 3
    · rw [if_pos h2, if_pos h2]
      by_cases h3 : g 166 1 = 6
      · rw [if_pos h3, if_pos h3]; exact hV
      · rw [if_neg h3, if_neg h3]
        have k : Ag (fun c => c = 1 ∨ c = 2 ∨ c = 170) (fun j => j = 1) g (u2 (u2 (u2 (u2 g 2 (g 166 1) x) 1 1 (g 166 1 + 1)) 170 (g 166 1) x) 166 1 (g 166 1 + 1)) := (((((Ag.nil (fun c => c = 1 ∨ c = 2 ∨ c = 170) (fun j => j = 1) g).u (by omega) (by omega) _ _).u (by omega) (by omega) _ _).u (by omega) (by omega) _ _).f (by omega) _)
        exact Ag.inv k hV ((MI.a170 hV.mi h2).f1 (by omega)) (by omega) ⟨by omega, by omega, by omega, by omega, fun f hf => by omega⟩ (by omega) ⟨fun c hc => by unfold imC at hc; omega, fun j hj => by omega⟩ ⟨rfl, fun i hi => by
          have hi : i < g 166 1 + 1 := hi
          show (if i = g 166 1 then x else g 2 i) = (if i = g 166 1 then x else g 170 i)
          split
          · rfl
          · exact hV.sp.2 i (by omega)⟩ (k.ln hV.tx (by omega) (by omega)) (k.gm hV.mi hV.gm (fun c hc => by unfold gmC at hc; omega) (fun j hj => by unfold gmJ at hj; omega)) (k.ac hV.ac (by omega)) (k.tp hV.tp ⟨fun t ht => by omega, by omega, by omega⟩) hV.k59 hV.k18
    · rw [if_neg h2, if_neg h2]; exact hV
theorem S_spell (d : Nat) (x : Nat) (hx : x < 2 ^ 32) : StepC L xs (d + 20) 76 131 [(1, .int (nI x))] := by
  intro g hl rt hV
  refine K_spell (d + 19) g hl rt hV x hx ?_
  refine ⟨_, _, _, _, rfl, rfl, ?_⟩
  refine C_spell (d + 19) (cs_spell g x) hl rt x hx (by rw [(em_spell x).f1]; exact hV.mi.hS) ?_
  exact ⟨by rw [(em_spell x).zspell x], _, _, _, rfl, inv_spell hV x⟩
theorem Em.zfeed (h : Em g g1) (x : Nat) : rs_feed g1 x = rs_feed g x := by unfold rs_feed; rw [h.f17]
theorem em_feed (x : Nat) : Em g (cs_feed g x) := by
  unfold cs_feed
  split
  · split
    · exact Em.refl g
    · exact (Em.own g (by decide) _ _).trans (Em.own _ (by decide) _ _)
  · exact Em.refl g
theorem inv_feed (hV : Inv g hl rt) (x : Nat) : Inv (gs_feed (cs_feed g x) x) hl rt := by
  have e := em_feed (g := g) x
  have hS := hV.mi.hFd
  unfold gs_feed
  rw [e.f17]
  unfold cs_feed
  by_cases h2 : x ≤ 127
  · rw [if_pos h2, if_pos h2]
    by_cases h3 : g 166 17 = 100
    · rw [if_pos h3, if_pos h3]; exact hV
    · rw [if_neg h3, if_neg h3]
      have k : Ag (fun c => c = 3 ∨ c = 4 ∨ c = 176) (fun j => j = 17) g (u2 (u2 (u2 (u2 g 4 (g 166 17) x) 3 1 (g 166 17 + 1)) 176 (g 166 17) x) 166 17 (g 166 17 + 1)) := (((((Ag.nil (fun c => c = 3 ∨ c = 4 ∨ c = 176) (fun j => j = 17) g).u (by omega) (by omega) _ _).u (by omega) (by omega) _ _).u (by omega) (by omega) _ _).f (by omega) _)
      exact Ag.inv k hV ((MI.a176 hV.mi h2).f17 (by omega)) (by omega) ⟨by omega, by omega, by omega, by omega, fun f hf => by omega⟩ (by omega) ⟨fun c hc => by unfold imC at hc; omega, fun j hj => by omega⟩ (k.ln hV.sp (by omega) (by omega)) ⟨rfl, fun i hi => by
        have hi : i < g 166 17 + 1 := hi
        show (if i = g 166 17 then x else g 4 i) = (if i = g 166 17 then x else g 176 i)
        split
        · rfl
        · exact hV.tx.2 i (by omega)⟩ (k.gm hV.mi hV.gm (fun c hc => by unfold gmC at hc; omega) (fun j hj => by unfold gmJ at hj; omega)) (k.ac hV.ac (by omega)) (k.tp hV.tp ⟨fun t ht => by omega, by omega, by omega⟩) hV.k59 hV.k18
  · rw [if_neg h2, if_neg h2]; exact hV
theorem S_feed (d : Nat) (x : Nat) (hx : x < 2 ^ 32) : StepC L xs (d + 20) 83 139 [(1, .int (nI x))] := by
  intro g hl rt hV
  refine K_feed (d + 19) g hl rt hV x hx ?_
  refine ⟨_, _, _, _, rfl, rfl, ?_⟩
  refine C_feed (d + 19) (cs_feed g x) hl rt ((em_feed x).mI hV.mi) x hx ?_
  exact ⟨by rw [(em_feed x).zfeed x], _, _, _, rfl, inv_feed hV x⟩
end ST
