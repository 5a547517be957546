/-! calls on both sides: a word -/
section ST
variable {L : Nat} {xs : Nat → Int32} {g g1 : Nat → Nat → Nat} {hl : Nat → Nat → Int64} {rt : Nat × Nat × Nat × Nat}
theorem Em.xanySp (h : Em g g1) : anySp g1 = anySp g := by
  unfold anySp isSp alike1
  rw [h.f0, h.f1, h.r167, h.r168, h.r170]
theorem Em.zword (h : Em g g1) (c : Nat) : rs_word g1 c = rs_word g c := by unfold rs_word; rw [h.f0, h.f1, h.xanySp]
theorem em_bkP (h : g 166 0 ≤ 11) (c : Nat) : Em g (bkP g c) := by
  unfold bkP cpLn
  exact ((((((Em.own g (by omega) _ _).trans (Em.ownc _ (by omega) _ _ _)).trans (Em.own _ (by decide) _ _)).trans (Em.own _ (by decide) _ _)).trans (Em.ownr _ (by decide) _)).trans (Em.own _ (by decide) _ _))
theorem em_word (h : g 166 0 ≤ 12) (c : Nat) : Em g (cs_word g c) := by
  unfold cs_word
  split
  · split
    · exact Em.refl g
    · cases anySp g with
      | true => exact Em.refl g
      | false =>
        show Em g (if g 166 0 = 12 then g else u2 (bkP g c) 1 1 0)
        split
        · exact Em.refl g
        · exact (em_bkP (by omega) c).trans (Em.own _ (by decide) _ _)
  · exact Em.refl g
theorem bkP_ln (g : Nat → Nat → Nat) (c i j : Nat) (hi : i < 12) : bkP g c (19 + 2 * i) j = if i = g 166 0 ∧ j = 1 then g 1 1 else g (19 + 2 * i) j := by
  unfold bkP cpLn
  rw [u2_ne _ (Or.inl (by omega))]
  unfold ur
  rw [if_neg (by omega), u2_ne _ (Or.inl (by omega)), u2_ne _ (Or.inl (by omega))]
  unfold cpR
  rw [if_neg (by omega)]
  unfold u2
  by_cases h : i = g 166 0
  · rw [if_pos (by omega)]
    by_cases h2 : j = 1
    · rw [if_pos h2, if_pos ⟨h, h2⟩]
    · rw [if_neg h2, if_neg (fun z => h2 z.2)]
  · rw [if_neg (by omega), if_neg (fun z => h z.1)]
theorem bkP_it (g : Nat → Nat → Nat) (c i k : Nat) (hi : i < 12) (hs : g 1 1 = g 166 1) : bkP g c (19 + 2 * i + 1) k = if i = g 166 0 ∧ k < g 166 1 then g 2 k else g (19 + 2 * i + 1) k := by
  unfold bkP cpLn
  rw [u2_ne _ (Or.inl (by omega))]
  unfold ur
  rw [if_neg (by omega), u2_ne _ (Or.inl (by omega)), u2_ne _ (Or.inl (by omega))]
  unfold cpR
  rw [hs, Nat.zero_add]
  by_cases h : i = g 166 0
  · rw [if_pos (by omega)]
    by_cases h2 : k < g 166 1
    · rw [if_pos ⟨Nat.zero_le _, h2⟩, if_pos ⟨h, h2⟩]; rfl
    · rw [if_neg (fun z => h2 z.2), if_neg (fun z => h2 z.2), h, u2_ne _ (Or.inl (by omega))]
  · rw [if_neg (by omega), if_neg (fun z => h z.1), u2_ne _ (Or.inl (by omega))]
theorem cpLn_ne (g : Nat → Nat → Nat) (c0 c1 : Nat) {a : Nat} (j : Nat) (h1 : a ≠ c1) (h2 : a ≠ c1 + 1) : cpLn g c0 c1 a j = g a j := by
  unfold cpLn cpR
  rw [if_neg h2, u2_ne _ (Or.inl h1)]
theorem inv_word (hV : Inv g hl rt) (c : Nat) : Inv (gs_word (cs_word g c) c) hl rt := by
  have h0 := hV.mi.hW
  have hS := hV.mi.hS
  have e := em_word h0 c
  unfold gs_word
  rw [e.f1, e.f0, e.xanySp]
  unfold cs_word
  by_cases h1 : c ≤ 9
  · rw [if_pos h1, if_pos h1]
    by_cases h2 : g 166 1 = 0
    · rw [if_pos h2, if_pos h2]; exact hV
    · rw [if_neg h2, if_neg h2]
      cases hA : anySp g with
      | true => exact hV
      | false =>
        simp only [cond_false]
        by_cases h3 : g 166 0 = 12
        · rw [if_pos h3, if_pos h3]; exact hV
        · rw [if_neg h3, if_neg h3]
          have hW1 : g 166 0 ≤ 11 := by omega
          have eb := (em_bkP hW1 c).trans (Em.own _ (c := 1) (by decide) 1 0)
          unfold gw_word
          rw [eb.f0, eb.f1, eb.r170]
          obtain ⟨W, hW⟩ : ∃ W, W = (u2 (u2 (u2 (u2 (cpR (u2 (bkP g c) 1 1 0) 167 (6 * g 166 0) (g 166 1) (fun k => g 170 k)) 168 (g 166 0) (g 166 1)) 169 (g 166 0) c) 166 1 0) 166 0 (g 166 0 + 1)) := ⟨_, rfl⟩
          rw [← hW]
          have k' : Ag (fun c => c = 1 ∨ c = 19 + 2 * g 166 0 ∨ c = 19 + 2 * g 166 0 + 1 ∨ c = 15 ∨ c = 16 ∨ c = 17 ∨ c = 13 ∨ c = 167 ∨ c = 168 ∨ c = 169) (fun j => j = 0 ∨ j = 1) g W := by
            rw [hW]
            exact (((((((((((((Ag.nil (fun c => c = 1 ∨ c = 19 + 2 * g 166 0 ∨ c = 19 + 2 * g 166 0 + 1 ∨ c = 15 ∨ c = 16 ∨ c = 17 ∨ c = 13 ∨ c = 167 ∨ c = 168 ∨ c = 169) (fun j => j = 0 ∨ j = 1) g).u (by omega) (by omega) _ _).cp (by omega) (by omega) _ _ _).u (by omega) (by omega) _ _).u (by omega) (by omega) _ _).r (by omega) (by omega) _).u (by omega) (by omega) _ _).u (by omega) (by omega) _ _).cp (by omega) (by omega) _ _ _).u (by omega) (by omega) _ _).u (by omega) (by omega) _ _).f (by omega) _).f (by omega) _)
          have e0 : W 166 0 = g 166 0 + 1 := by rw [hW]; rfl
          have e8 : ∀ j, W 168 j = if j = g 166 0 then g 166 1 else g 168 j := fun j => by
            rw [hW, ← eb.r168]; rfl
          have e9 : ∀ j, W 169 j = if j = g 166 0 then c else g 169 j := fun j => by
            rw [hW, ← eb.r169]; rfl
          have e7 : ∀ j, W 167 j = if 6 * g 166 0 ≤ j ∧ j < 6 * g 166 0 + g 166 1 then g 170 (j - 6 * g 166 0) else g 167 j := fun j => by
            rw [hW, ← eb.r167]; rfl
          have eC : ∀ a j, a < 166 → a ≠ 1 → W a j = bkP g c a j := fun a j ha h1' => by
            rw [hW, u2_ne _ (Or.inl (by omega)), u2_ne _ (Or.inl (by omega)), u2_ne _ (Or.inl (by omega)), u2_ne _ (Or.inl (by omega))]
            unfold cpR
            rw [if_neg (by omega), u2_ne _ (Or.inl h1')]
          have e11 : W 1 1 = 0 := by rw [hW]; rfl
          have e1 : W 166 1 = 0 := by rw [hW]; rfl
          have m : MI W := by
            rw [hW]
            refine ((((eb.mI hV.mi).c167 (fun k hk => ?_)).a168 hS (fun _ => by omega)).a169 h1).f1 (Nat.zero_le _) |>.f0 (by omega) (fun i hi => ?_)
            · exact hV.mi.hsl k (by omega)
            · have z : W 168 i = if i = g 166 0 then g 166 1 else g 168 i := e8 i
              rw [hW] at z
              have z2 : (u2 (u2 (u2 (cpR (u2 (bkP g c) 1 1 0) 167 (6 * g 166 0) (g 166 1) (fun k => g 170 k)) 168 (g 166 0) (g 166 1)) 169 (g 166 0) c) 166 1 0) 168 i = if i = g 166 0 then g 166 1 else g 168 i := z
              rw [z2]
              by_cases e' : i = g 166 0
              · rw [if_pos e']; omega
              · rw [if_neg e']; exact hV.mi.hs1 i (by omega)
          clear hW
          have hB := hV.gm.cb
          have hsp := hV.sp
          have hcb : CB W := by
            refine ⟨?_, fun i hi => ?_, fun i q hi hq => ?_, fun i hi => ?_, fun p l hp hl => ?_, fun n hn => ?_⟩
            · rw [eC 13 5 (by decide) (by decide), e0]
              unfold bkP
              rw [u2_at]
            · rw [eC _ _ (by omega) (by omega), bkP_ln _ _ _ _ hi, e8]
              by_cases e' : i = g 166 0
              · rw [if_pos ⟨e', rfl⟩, if_pos e']; exact hsp.1
              · rw [if_neg (fun z => e' z.1), if_neg e']; exact hB.2.1 i hi
            · rw [e8] at hq
              rw [eC _ _ (by omega) (by omega), bkP_it _ _ _ _ hi hsp.1, e7]
              by_cases e' : i = g 166 0
              · rw [if_pos e'] at hq
                rw [if_pos ⟨e', hq⟩, if_pos (by omega), show 6 * i + q - 6 * g 166 0 = q by omega]
                exact hsp.2 q hq
              · rw [if_neg e'] at hq
                have := hV.mi.hsz i hi
                rw [if_neg (fun z => e' z.1), if_neg (by omega)]
                exact hB.2.2.1 i q hi hq
            · rw [eC 15 i (by decide) (by decide), e9]
              have z : bkP g c 15 i = if i = g 166 0 then c else g 15 i := by
                unfold bkP
                rw [u2_ne _ (Or.inl (by decide))]
                unfold ur
                rw [if_neg (by decide), u2_ne _ (Or.inl (by decide))]
                show (if i = g 166 0 then c else cpLn g 1 (19 + 2 * g 166 0) 15 i) = _
                rw [cpLn_ne _ _ _ _ (by omega) (by omega)]
              rw [z]
              by_cases e' : i = g 166 0
              · rw [if_pos e', if_pos e']
              · rw [if_neg e', if_neg e']; exact hB.2.2.2.1 i hi
            · rw [eC 16 _ (by decide) (by decide), e0]
              have z : bkP g c 16 (4 * p + l) = pwF (g 16) (g 170) (nSh 1 (g 166 0)) (g 166 1) (4 * p + l) := by
                unfold bkP
                rw [u2_ne _ (Or.inl (by decide))]
                unfold ur
                rw [if_pos rfl]
              rw [z]
              have y : bset (plB W p l) (g 166 0) = g 16 (4 * p + l) := by
                rw [hB.2.2.2.2.1 p l hp hl]
                refine bset_cg (fun i hi => ?_)
                unfold plB
                rw [e8, if_neg (by omega), e7, if_neg (by omega)]
              have x : plB W p l (g 166 0) = decide (p < g 166 1 ∧ g 170 p = l) := by
                unfold plB
                rw [e8, if_pos rfl, e7]
                by_cases q1 : p < g 166 1
                · rw [if_pos (by omega), show 6 * g 166 0 + p - 6 * g 166 0 = p by omega, decide_eq_true q1, Bool.true_and]
                  by_cases q2 : g 170 p = l
                  · rw [decide_eq_true q2, decide_eq_true ⟨q1, q2⟩]
                  · rw [decide_eq_false q2, decide_eq_false (fun z => q2 z.2)]
                · rw [decide_eq_false q1, Bool.false_and]
                  exact (decide_eq_false (fun z => q1 z.1)).symm
              unfold pwF
              rw [show (4 * p + l) / 4 = p by omega, show (4 * p + l) % 4 = l by omega]
              by_cases q1 : p < g 166 1 ∧ g 170 p = l
              · rw [if_pos q1, bset_s1 (x.trans (decide_eq_true q1)), y]
              · rw [if_neg q1, bset_se (x.trans (decide_eq_false q1)), y]
            · rw [eC 17 _ (by decide) (by decide), e0]
              have z : bkP g c 17 n = if n = g 166 1 then g 17 (g 166 1) ||| nSh 1 (g 166 0) else g 17 n := by
                unfold bkP
                rw [u2_ne _ (Or.inl (by decide))]
                unfold ur
                rw [if_neg (by decide)]
                show (if n = g 166 1 then g 17 (g 166 1) ||| nSh 1 (g 166 0) else u2 (cpLn g 1 (19 + 2 * g 166 0)) 15 (g 166 0) c 17 n) = _
                rw [u2_ne _ (Or.inl (by decide)), cpLn_ne _ _ _ _ (by omega) (by omega)]
              rw [z]
              have y : bset (lnB W n) (g 166 0) = g 17 n := by
                rw [hB.2.2.2.2.2 n hn]
                refine bset_cg (fun i hi => ?_)
                unfold lnB
                rw [e8, if_neg (by omega)]
              have x : lnB W n (g 166 0) = decide (g 166 1 = n) := by
                unfold lnB
                rw [e8, if_pos rfl]
              by_cases q1 : n = g 166 1
              · rw [if_pos q1, bset_s1 (x.trans (decide_eq_true q1.symm)), y, q1]
              · rw [if_neg q1, bset_se (x.trans (decide_eq_false (fun z => q1 z.symm))), y]
          have hsw : ∀ q, q < W 166 44 → W 190 q < W 166 0 := fun q hq => by
            rw [k'.2 44 (by omega)] at hq
            rw [k'.1 190 (by omega) (by omega), e0]
            have := hV.gm.sw q hq
            omega
          exact Ag.inv k' hV m (by omega) ⟨by omega, by omega, by omega, by omega, fun f hf => by omega⟩ (by omega) ⟨fun c hc => by unfold imC at hc; omega, fun j hj => by omega⟩ ⟨e11.trans e1.symm, fun i hi => by rw [e1] at hi; exact absurd hi (Nat.not_lt_zero _)⟩ (k'.ln hV.tx (by omega) (by omega)) ⟨hcb, (k'.cpl hV.mi hV.gm.cp (fun c hc => by omega) (by omega)), (k'.cs hV.gm.cs (by omega)), (k'.rx hV.gm.rx (by omega)), (k'.ry hV.gm.ry (by omega)), (k'.ln hV.gm.l48 (by omega) (by omega)), (k'.ln hV.gm.l50 (by omega) (by omega)), (k'.ln hV.gm.l52 (by omega) (by omega)), hsw, (k'.ln hV.gm.l54 (by omega) (by omega))⟩ (k'.ac hV.ac (by omega)) (k'.tp hV.tp ⟨fun t ht => by omega, by omega, by omega⟩) (by rw [k'.1 59 (by omega) (by omega)]; exact hV.k59) (by rw [k'.1 18 (by omega) (by omega)]; exact hV.k18)
  · rw [if_neg h1, if_neg h1]; exact hV
theorem S_word (d : Nat) (c : Nat) (hc : c < 2 ^ 32) : StepC L xs (d + 20) 77 133 [(1, .int (nI c))] := by
  intro g hl rt hV
  refine K_word (d + 16) g hl rt hV c hc ?_
  refine ⟨_, _, _, _, rfl, rfl, ?_⟩
  refine C_word (d + 18) (cs_word g c) hl rt ((em_word hV.mi.hW c).mI hV.mi) c hc ?_
  exact ⟨by rw [(em_word hV.mi.hW c).zword c], _, _, _, rfl, inv_word hV c⟩
end ST
