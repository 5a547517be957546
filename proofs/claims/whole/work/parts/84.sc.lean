/-! calls on both sides: a player -/
theorem Em.ownf (g : Nat → Nat → Nat) {c : Nat} (hc : c < 166) (v n : Nat) : Em g (flR g c v n) := fun a ha => by
  funext b
  unfold flR
  rw [if_neg (by omega)]
theorem em_bcP (g : Nat → Nat → Nat) {c : Nat} (hc : c + 1 < 166) (n k v : Nat) : Em g (bcP g c n k v) := by
  unfold bcP
  exact (((Em.own g (by omega) _ _).trans (Em.own _ (by omega) _ _)).trans (Em.own _ (by omega) _ _)).trans (Em.ownf _ (by omega) _ _)
section ST
variable {L : Nat} {xs : Nat → Int32} {g g1 : Nat → Nat → Nat} {hl : Nat → Nat → Int64} {rt : Nat × Nat × Nat × Nat}
theorem Em.zplayer (h : Em g g1) (k v : Nat) : rs_player g1 k v = rs_player g k v := by unfold rs_player; rw [h.f6]
theorem em_gj (h : g 166 6 ≤ 5) (k v : Nat) : Em g (gj g k v) := by
  unfold gj
  exact ((em_bcP g (by omega) _ _ _).trans (Em.own _ (by decide) _ _)).trans (Em.own _ (by decide) _ _)
theorem em_player (h : g 166 6 ≤ 5) (k v : Nat) : Em g (cs_player g k v) := by
  unfold cs_player
  split
  · split
    · split
      · exact Em.refl g
      · exact em_gj h k v
    · exact Em.refl g
  · exact Em.refl g
theorem gj_at (g : Nat → Nat → Nat) (k v i j : Nat) : gj g k v (60 + 2 * i) j = if i = g 166 6 then (if j = 3 then v else if j = 2 then k else if j = 1 then g 166 6 else g (60 + 2 * i) j) else g (60 + 2 * i) j := by
  unfold gj
  rw [u2_ne _ (Or.inl (by omega)), u2_ne _ (Or.inl (by omega))]
  unfold bcP flR
  rw [if_neg (by omega)]
  unfold u2
  by_cases h : i = g 166 6
  · have e : 60 + 2 * i = 60 + 2 * g 166 6 := by omega
    rw [if_pos h]
    simp only [if_pos e]
  · have e : ¬ (60 + 2 * i = 60 + 2 * g 166 6) := by omega
    rw [if_neg h]
    simp only [if_neg e]
theorem gj_pt (g : Nat → Nat → Nat) (k v i q : Nat) (hq : q < 4) : gj g k v (60 + 2 * i + 1) q = if i = g 166 6 then 0 else g (60 + 2 * i + 1) q := by
  unfold gj
  rw [u2_ne _ (Or.inl (by omega)), u2_ne _ (Or.inl (by omega))]
  unfold bcP flR
  by_cases h : i = g 166 6
  · rw [if_pos h, if_pos (by omega), if_pos (by omega)]
  · rw [if_neg h, if_neg (by omega), u2_ne _ (Or.inl (by omega)), u2_ne _ (Or.inl (by omega)), u2_ne _ (Or.inl (by omega))]
theorem gj_ow (g : Nat → Nat → Nat) (h : g 166 6 ≤ 4) (k v : Nat) {c : Nat} (h1 : ¬ (c = 47 ∨ c = 12 ∨ (60 ≤ c ∧ c ≤ 69))) (j : Nat) : gj g k v c j = g c j := by
  unfold gj
  rw [u2_ne _ (Or.inl (by omega)), u2_ne _ (Or.inl (by omega)), bcP_ne _ _ _ _ (by omega) (by omega)]
theorem inv_player (hV : Inv g hl rt) (k v : Nat) : Inv (gs_player (cs_player g k v) k v) hl rt := by
  have h6 := hV.mi.hPl
  unfold gs_player
  rw [(em_player h6 k v).f6, (em_player h6 k v).xlwS]
  unfold cs_player
  by_cases h1 : k ≤ 6
  · rw [if_pos h1, if_pos h1]
    by_cases h2 : v ≤ 9
    · rw [if_pos h2, if_pos h2]
      by_cases h3 : g 166 6 = 5
      · rw [if_pos h3, if_pos h3]; exact hV
      · rw [if_neg h3, if_neg h3]
        have hP : g 166 6 ≤ 4 := by omega
        obtain ⟨W, hW⟩ : ∃ W, W = (u2 (cpR (u2 (u2 (u2 (gj g k v) 171 (g 166 6) k) 172 (g 166 6) v) 173 (g 166 6) (lwS g 2)) 174 (4 * g 166 6) 4 (fun _ => 0)) 166 6 (g 166 6 + 1)) := ⟨_, rfl⟩
        rw [← hW]
        have k' : Ag (fun c => c = 60 + 2 * g 166 6 ∨ c = 60 + 2 * g 166 6 + 1 ∨ c = 47 ∨ c = 12 ∨ c = 171 ∨ c = 172 ∨ c = 173 ∨ c = 174) (fun j => j = 6) g W := by
          rw [hW]
          exact ((((((((((((Ag.nil (fun c => c = 60 + 2 * g 166 6 ∨ c = 60 + 2 * g 166 6 + 1 ∨ c = 47 ∨ c = 12 ∨ c = 171 ∨ c = 172 ∨ c = 173 ∨ c = 174) (fun j => j = 6) g).u (by omega) (by omega) _ _).u (by omega) (by omega) _ _).u (by omega) (by omega) _ _).fl (by omega) (by omega) _ _).u (by omega) (by omega) _ _).u (by omega) (by omega) _ _).u (by omega) (by omega) _ _).u (by omega) (by omega) _ _).u (by omega) (by omega) _ _).cp (by omega) (by omega) _ _ _).f (by omega) _)
        have m : MI W := by
          rw [hW]
          exact ((((((em_gj h6 k v).mI hV.mi).a171 h1).a172 h2).a173 (lwS_le hV.mi 2)).c174 (fun _ _ => Nat.zero_le _)).f6 (by omega)
        have e6 : W 166 6 = g 166 6 + 1 := by rw [hW]; rfl
        have eC : ∀ c j, c < 166 → W c j = gj g k v c j := fun c j hc => by
          rw [hW, u2_ne _ (Or.inl (by omega))]
          unfold cpR
          rw [if_neg (by omega), u2_ne _ (Or.inl (by omega)), u2_ne _ (Or.inl (by omega)), u2_ne _ (Or.inl (by omega))]
        have e1 : ∀ j, W 171 j = if j = g 166 6 then k else g 171 j := fun j => by
          rw [hW, ← gj_ow g hP k v (c := 171) (by omega)]; rfl
        have e2 : ∀ j, W 172 j = if j = g 166 6 then v else g 172 j := fun j => by
          rw [hW, ← gj_ow g hP k v (c := 172) (by omega)]; rfl
        have e3 : ∀ j, W 173 j = if j = g 166 6 then lwS g 2 else g 173 j := fun j => by
          rw [hW, ← gj_ow g hP k v (c := 173) (by omega)]; rfl
        have e4 : ∀ j, W 174 j = if 4 * g 166 6 ≤ j ∧ j < 4 * g 166 6 + 4 then 0 else g 174 j := fun j => by
          rw [hW, ← gj_ow g hP k v (c := 174) (by omega)]; rfl
        have e5 : ∀ j, W 47 j = if j = g 166 6 then lwS g 2 else g 47 j := fun j => by
          rw [eC 47 j (by decide)]
          unfold gj
          rw [u2_ne _ (Or.inl (by decide))]
          unfold u2
          rw [if_pos rfl, bcP_ne _ _ _ _ (by omega) (by omega)]
        have e7 : W 12 2 = g 166 6 + 1 := by
          rw [eC 12 2 (by decide)]
          unfold gj
          rw [u2_at]
        clear hW
        have hcp : CPl W := by
          refine ⟨fun i hi => ?_, fun i q hi hq => ?_, fun i hi => ?_⟩
          · rw [eC (60 + 2 * i) 2 (by omega), eC (60 + 2 * i) 3 (by omega), gj_at, gj_at, e1, e2]
            have z := hV.gm.cp.1 i hi
            by_cases e : i = g 166 6
            · rw [if_pos e, if_pos e, if_pos e, if_pos e]; exact ⟨rfl, rfl⟩
            · rw [if_neg e, if_neg e, if_neg e, if_neg e]; exact z
          · rw [eC _ _ (by omega), gj_pt _ _ _ _ _ hq, e4]
            have z := hV.gm.cp.2.1 i q hi hq
            by_cases e : i = g 166 6
            · rw [if_pos e, if_pos (by omega)]
            · rw [if_neg e, if_neg (by omega)]; exact z
          · rw [e6] at hi
            rw [eC _ _ (by omega), gj_at]
            by_cases e : i = g 166 6
            · rw [if_pos e]; exact e.symm
            · rw [if_neg e]; exact hV.gm.cp.2.2 i (by omega)
        have hrx : RX (W 44) (W 45) (W 46) (W 47) W := by
          have r := hV.gm.rx
          refine ⟨?_, fun q hq => ?_, fun j hj => ?_, ?_, ?_⟩
          · rw [k'.1 45 (by omega) (by omega), k'.2 9 (by omega)]; exact r.1
          · rw [k'.2 9 (by omega)] at hq
            rw [k'.1 46 (by omega) (by omega), k'.1 175 (by omega) (by omega)]; exact r.2.1 q hq
          · rw [e5, e3]
            split
            · rfl
            · exact r.2.2.1 j hj
          · rw [k'.1 44 (by omega) (by omega), k'.2 7 (by omega)]; exact r.2.2.2.1
          · rw [k'.1 44 (by omega) (by omega), k'.2 8 (by omega)]; exact r.2.2.2.2
        have hry : RY W := by
          have r := hV.gm.ry
          unfold RY RZ at r ⊢
          rw [e6, k'.2 7 (by omega), k'.2 8 (by omega)]
          omega
        exact Ag.inv k' hV m (by omega) ⟨by omega, by omega, by omega, by omega, fun f hf => by omega⟩ (by omega) ⟨fun c hc => by unfold imC at hc; omega, fun j hj => by omega⟩ (k'.ln hV.sp (by omega) (by omega)) (k'.ln hV.tx (by omega) (by omega)) ⟨(k'.cb hV.gm.cb (fun c hc => by omega) (by omega)), hcp, (e7.trans e6.symm), hrx, hry, (k'.ln hV.gm.l48 (by omega) (by omega)), (k'.ln hV.gm.l50 (by omega) (by omega)), (k'.ln hV.gm.l52 (by omega) (by omega)), (k'.sw hV.gm.sw (by omega)), (k'.ln hV.gm.l54 (by omega) (by omega))⟩ (k'.ac hV.ac (by omega)) (k'.tp hV.tp ⟨fun t ht => by omega, by omega, by omega⟩) (by rw [k'.1 59 (by omega) (by omega)]; exact hV.k59) (by rw [k'.1 18 (by omega) (by omega)]; exact hV.k18)
    · rw [if_neg h2, if_neg h2]; exact hV
  · rw [if_neg h1, if_neg h1]; exact hV
theorem S_player (d : Nat) (k : Nat) (v : Nat) (hk : k < 2 ^ 32) (hv : v < 2 ^ 32) : StepC L xs (d + 20) 79 136 [(1, .int (nI k)), (2, .int (nI v))] := by
  intro g hl rt hV
  refine K_player (d + 16) g hl rt hV k v hk hv ?_
  refine ⟨_, _, _, _, rfl, rfl, ?_⟩
  refine C_player (d + 18) (cs_player g k v) hl rt ((em_player hV.mi.hPl k v).mI hV.mi) k v hk hv ?_
  exact ⟨by rw [(em_player hV.mi.hPl k v).zplayer k v], _, _, _, rfl, inv_player hV k v⟩
end ST
