/-! calls on both sides: what changes the game a little -/
section AG2
variable {X J : Nat → Prop} {g g1 : Nat → Nat → Nat}
theorem Ag.cb (k : Ag X J g g1) (h : CB g) (hx : ∀ c, (13 ≤ c ∧ c ≤ 42 ∧ c ≠ 18) ∨ (167 ≤ c ∧ c ≤ 169) → ¬ X c) (hj : ¬ J 0) : CB g1 := by
  have e : ∀ c, (13 ≤ c ∧ c ≤ 42 ∧ c ≠ 18) ∨ (167 ≤ c ∧ c ≤ 169) → g1 c = g c := fun c hc => k.1 c (by omega) (hx c hc)
  have e0 := k.2 0 hj
  have e7 := e 167 (by omega)
  have e8 := e 168 (by omega)
  have e9 := e 169 (by omega)
  have ep : plB g1 = plB g := by
    funext p l i
    unfold plB
    rw [e7, e8]
  have el : lnB g1 = lnB g := by
    funext n i
    unfold lnB
    rw [e8]
  refine ⟨by rw [e 13 (by omega), e0]; exact h.1, fun i hi => by rw [e (19 + 2 * i) (by omega), e8]; exact h.2.1 i hi, fun i q hi hq => ?_, fun i hi => by rw [e 15 (by omega), e9]; exact h.2.2.2.1 i hi, fun p l hp hl => by rw [e 16 (by omega), ep, e0]; exact h.2.2.2.2.1 p l hp hl, fun n hn => by rw [e 17 (by omega), el, e0]; exact h.2.2.2.2.2 n hn⟩
  rw [e8] at hq
  rw [e (19 + 2 * i + 1) (by omega), e7]
  exact h.2.2.1 i q hi hq
theorem Ag.cpl (k : Ag X J g g1) (m : MI g) (h : CPl g) (hx : ∀ c, (60 ≤ c ∧ c ≤ 69) ∨ (171 ≤ c ∧ c ≤ 172) ∨ c = 174 → ¬ X c) (hj : ¬ J 6) : CPl g1 := by
  have e : ∀ c, (60 ≤ c ∧ c ≤ 69) ∨ (171 ≤ c ∧ c ≤ 172) ∨ c = 174 → g1 c = g c := fun c hc => k.1 c (by omega) (hx c hc)
  have h6 := m.hPl
  refine ⟨fun i hi => by rw [e (60 + 2 * i) (by omega), e 171 (by omega), e 172 (by omega)]; exact h.1 i hi, fun i q hi hq => by rw [e (60 + 2 * i + 1) (by omega), e 174 (by omega)]; exact h.2.1 i q hi hq, fun i hi => ?_⟩
  rw [k.2 6 hj] at hi
  rw [e (60 + 2 * i) (by omega)]
  exact h.2.2 i hi
theorem Ag.cs (k : Ag X J g g1) (h : g 12 2 = g 166 6) (h1 : ¬ X 12 ∧ ¬ J 6) : g1 12 2 = g1 166 6 := by rw [k.1 12 (by decide) h1.1, k.2 6 h1.2]; exact h
theorem Ag.rx (k : Ag X J g g1) (h : RX (g 44) (g 45) (g 46) (g 47) g) (h1 : (¬ X 44 ∧ ¬ X 45 ∧ ¬ X 46 ∧ ¬ X 47 ∧ ¬ X 175 ∧ ¬ X 173) ∧ ¬ J 7 ∧ ¬ J 8 ∧ ¬ J 9) : RX (g1 44) (g1 45) (g1 46) (g1 47) g1 := by
  obtain ⟨⟨a, b, c, d, e, f⟩, j7, j8, j9⟩ := h1
  unfold RX
  rw [k.1 44 (by decide) a, k.1 45 (by decide) b, k.1 46 (by decide) c, k.1 47 (by decide) d, k.1 175 (by decide) e, k.1 173 (by decide) f, k.2 7 j7, k.2 8 j8, k.2 9 j9]
  exact h
theorem Ag.ry (k : Ag X J g g1) (h : RY g) (h1 : ¬ J 6 ∧ ¬ J 7 ∧ ¬ J 8) : RY g1 := h.cg (k.2 6 h1.1) (k.2 7 h1.2.1) (k.2 8 h1.2.2)
theorem Ag.sw (k : Ag X J g g1) (h : ∀ i, i < g 166 44 → g 190 i < g 166 0) (h1 : ¬ X 190 ∧ ¬ J 44 ∧ ¬ J 0) : ∀ i, i < g1 166 44 → g1 190 i < g1 166 0 := by
  rw [k.1 190 (by decide) h1.1, k.2 44 h1.2.1, k.2 0 h1.2.2]
  exact h
end AG2
section ST
variable {L : Nat} {xs : Nat → Int32} {g g1 : Nat → Nat → Nat} {hl : Nat → Nat → Int64} {rt : Nat × Nat × Nat × Nat}
theorem Em.zlive (h : Em g g1) (p n : Nat) : rs_live g1 p n = rs_live g p n := by unfold rs_live; rw [h.f6, h.r173]
theorem em_live (p n : Nat) : Em g (cs_live g p n) := by
  unfold cs_live
  split
  · split
    · exact Em.own g (by decide) _ _
    · exact Em.refl g
  · exact Em.refl g
theorem inv_live (hV : Inv g hl rt) (p n : Nat) : Inv (gs_live (cs_live g p n) p n) hl rt := by
  have e := em_live (g := g) p n
  have h6 := hV.mi.hPl
  unfold gs_live
  rw [e.f6]
  unfold cs_live
  by_cases h1 : p < g 166 6
  · rw [if_pos h1, if_pos h1]
    by_cases h2 : n ≤ 99
    · rw [if_pos h2, if_pos h2]
      have k : Ag (fun c => c = 47 ∨ c = 173) (fun j => j = 77) g (u2 (u2 g 47 p n) 173 p n) := (((Ag.nil (fun c => c = 47 ∨ c = 173) (fun j => j = 77) g).u (by omega) (by omega) _ _).u (by omega) (by omega) _ _)
      exact Ag.inv k hV (MI.a173 hV.mi h2) (by omega) ⟨by omega, by omega, by omega, by omega, fun f hf => by omega⟩ (by omega) ⟨fun c hc => by unfold imC at hc; omega, fun j hj => by omega⟩ (k.ln hV.sp (by omega) (by omega)) (k.ln hV.tx (by omega) (by omega)) ⟨(k.cb hV.gm.cb (fun c hc => by omega) (by omega)), (k.cpl hV.mi hV.gm.cp (fun c hc => by omega) (by omega)), (k.cs hV.gm.cs (by omega)), ⟨hV.gm.rx.1, hV.gm.rx.2.1, fun j hj => by
        show (if j = p then n else g 47 j) = (if j = p then n else g 173 j)
        split
        · rfl
        · exact hV.gm.rx.2.2.1 j hj, hV.gm.rx.2.2.2⟩, (k.ry hV.gm.ry (by omega)), (k.ln hV.gm.l48 (by omega) (by omega)), (k.ln hV.gm.l50 (by omega) (by omega)), (k.ln hV.gm.l52 (by omega) (by omega)), (k.sw hV.gm.sw (by omega)), (k.ln hV.gm.l54 (by omega) (by omega))⟩ (k.ac hV.ac (by omega)) (k.tp hV.tp ⟨fun t ht => by omega, by omega, by omega⟩) hV.k59 hV.k18
    · rw [if_neg h2, if_neg h2]; exact hV
  · rw [if_neg h1, if_neg h1]; exact hV
theorem S_live (d : Nat) (p : Nat) (n : Nat) (hp : p < 2 ^ 32) (hn : n < 2 ^ 32) : StepC L xs (d + 20) 81 137 [(1, .int (nI p)), (2, .int (nI n))] := by
  intro g hl rt hV
  refine K_live (d + 18) g hl rt hV p n hp hn ?_
  refine ⟨_, _, _, _, rfl, rfl, ?_⟩
  refine C_live (d + 18) (cs_live g p n) hl rt ((em_live p n).mI hV.mi) p n hp hn ?_
  exact ⟨by rw [(em_live p n).zlive p n], _, _, _, rfl, inv_live hV p n⟩
theorem Em.zrow (h : Em g g1) (p a n : Nat) : rs_row g1 p a n = rs_row g p a n := by unfold rs_row; rw [h.f6, h.r171, h.r174]
theorem em_row (hV : Inv g hl rt) (p a n : Nat) : Em g (cs_row g p a n) := by
  have h6 := hV.mi.hPl
  unfold cs_row
  split
  · split
    · split
      · split
        · exact Em.own g (by omega) _ _
        · exact Em.refl g
      · exact Em.refl g
    · exact Em.refl g
  · exact Em.refl g
theorem inv_row (hV : Inv g hl rt) (p a n : Nat) : Inv (gs_row (cs_row g p a n) p a n) hl rt := by
  have e := em_row hV p a n
  have h6 := hV.mi.hPl
  unfold gs_row
  rw [e.f6, e.r171]
  unfold cs_row
  by_cases h1 : p < g 166 6
  · rw [if_pos h1, if_pos h1]
    by_cases h2 : a ≤ 3
    · rw [if_pos h2, if_pos h2]
      by_cases h3 : n ≤ 3
      · rw [if_pos h3, if_pos h3]
        by_cases h4 : g 171 p = 6
        · rw [if_pos h4, if_pos h4]
          have k : Ag (fun c => c = 60 + 2 * p + 1 ∨ c = 174) (fun j => j = 77) g (u2 (u2 g (60 + 2 * p + 1) a n) 174 (4 * p + a) n) := (((Ag.nil (fun c => c = 60 + 2 * p + 1 ∨ c = 174) (fun j => j = 77) g).u (by omega) (by omega) _ _).u (by omega) (by omega) _ _)
          have hcp : CPl (u2 (u2 g (60 + 2 * p + 1) a n) 174 (4 * p + a) n) := by
            refine ⟨fun i hi => ?_, fun i q hi hq => ?_, fun i hi => ?_⟩
            · rw [k.1 (60 + 2 * i) (by omega) (by omega), k.1 171 (by omega) (by omega), k.1 172 (by omega) (by omega)]
              exact hV.gm.cp.1 i hi
            · have hh := hV.gm.cp.2.1 i q hi hq
              rw [u2_ne _ (Or.inl (show 60 + 2 * i + 1 ≠ 174 by omega))]
              unfold u2
              by_cases z : i = p ∧ q = a
              · rw [if_pos (by omega), if_pos z.2, if_pos rfl, if_pos (by omega)]
              · by_cases z2 : i = p
                · rw [if_pos (by omega), if_neg (by omega), if_pos rfl, if_neg (by omega), if_neg (by omega)]; exact hh
                · rw [if_neg (by omega), if_pos rfl, if_neg (by omega), if_neg (by omega)]; exact hh
            · have hi : i < g 166 6 := by rw [← k.2 6 (by omega)]; exact hi
              rw [k.1 (60 + 2 * i) (by omega) (by omega)]
              exact hV.gm.cp.2.2 i hi
          exact Ag.inv k hV (MI.a174 ((Em.own g (c := 60 + 2 * p + 1) (by omega) a n).mI hV.mi) h3) (by omega) ⟨by omega, by omega, by omega, by omega, fun f hf => by omega⟩ (by omega) ⟨fun c hc => by unfold imC at hc; omega, fun j hj => by omega⟩ (k.ln hV.sp (by omega) (by omega)) (k.ln hV.tx (by omega) (by omega)) ⟨(k.cb hV.gm.cb (fun c hc => by omega) (by omega)), hcp, (k.cs hV.gm.cs (by omega)), (k.rx hV.gm.rx (by omega)), (k.ry hV.gm.ry (by omega)), (k.ln hV.gm.l48 (by omega) (by omega)), (k.ln hV.gm.l50 (by omega) (by omega)), (k.ln hV.gm.l52 (by omega) (by omega)), (k.sw hV.gm.sw (by omega)), (k.ln hV.gm.l54 (by omega) (by omega))⟩ (k.ac hV.ac (by omega)) (k.tp hV.tp ⟨fun t ht => by omega, by omega, by omega⟩) (by rw [k.1 59 (by omega) (by omega)]; exact hV.k59) (by rw [k.1 18 (by omega) (by omega)]; exact hV.k18)
        · rw [if_neg h4, if_neg h4]; exact hV
      · rw [if_neg h3, if_neg h3]; exact hV
    · rw [if_neg h2, if_neg h2]; exact hV
  · rw [if_neg h1, if_neg h1]; exact hV
theorem S_row (d : Nat) (p : Nat) (a : Nat) (n : Nat) (hp : p < 2 ^ 32) (ha : a < 2 ^ 32) (hn : n < 2 ^ 32) : StepC L xs (d + 20) 82 138 [(1, .int (nI p)), (2, .int (nI a)), (3, .int (nI n))] := by
  intro g hl rt hV
  refine K_row (d + 18) g hl rt hV p a n hp ha hn ?_
  refine ⟨_, _, _, _, rfl, rfl, ?_⟩
  refine C_row (d + 18) (cs_row g p a n) hl rt ((em_row hV p a n).mI hV.mi) p a n hp ha hn ?_
  exact ⟨by rw [(em_row hV p a n).zrow p a n], _, _, _, rfl, inv_row hV p a n⟩
theorem Em.zbegin (h : Em g g1) (p : Nat) : rs_begin g1 p = rs_begin g p := by unfold rs_begin; rw [h.f6, h.r173, h.f7]
theorem em_begin (p : Nat) : Em g (cs_begin g p) := by
  unfold cs_begin
  split
  · split
    · exact Em.refl g
    · exact ((Em.own g (by decide) _ _).trans (Em.own _ (by decide) _ _)).trans (Em.own _ (by decide) _ _)
  · exact Em.refl g
theorem inv_begin (hV : Inv g hl rt) (p : Nat) : Inv (gs_begin (cs_begin g p) p) hl rt := by
  have e := em_begin (g := g) p
  have h6 := hV.mi.hPl
  unfold gs_begin
  rw [e.f6, e.r173]
  unfold cs_begin
  by_cases h1 : p < g 166 6
  · rw [if_pos h1, if_pos h1]
    by_cases h2 : g 173 p = 0
    · rw [if_pos h2, if_pos h2]; exact hV
    · rw [if_neg h2, if_neg h2]
      have k : Ag (fun c => c = 45 ∨ c = 44) (fun j => j = 7 ∨ j = 8 ∨ j = 9) g (u2 (u2 (u2 (u2 (u2 (u2 g 45 1 0) 44 3 4294967295) 44 2 p) 166 9 0) 166 8 4294967295) 166 7 p) := (((((((Ag.nil (fun c => c = 45 ∨ c = 44) (fun j => j = 7 ∨ j = 8 ∨ j = 9) g).u (by omega) (by omega) _ _).u (by omega) (by omega) _ _).u (by omega) (by omega) _ _).f (by omega) _).f (by omega) _).f (by omega) _)
      exact Ag.inv k hV (((MI.f9 hV.mi (by omega)).f8 (Or.inr rfl)).f7 (by omega)) (by omega) ⟨by omega, by omega, by omega, by omega, fun f hf => by omega⟩ (by omega) ⟨fun c hc => by unfold imC at hc; omega, fun j hj => by omega⟩ (k.ln hV.sp (by omega) (by omega)) (k.ln hV.tx (by omega) (by omega)) ⟨(k.cb hV.gm.cb (fun c hc => by omega) (by omega)), (k.cpl hV.mi hV.gm.cp (fun c hc => by omega) (by omega)), (k.cs hV.gm.cs (by omega)), ⟨rfl, fun i hi => absurd hi (Nat.not_lt_zero _), hV.gm.rx.2.2.1, rfl, rfl⟩, (Or.inl ⟨h1, Or.inr rfl⟩), (k.ln hV.gm.l48 (by omega) (by omega)), (k.ln hV.gm.l50 (by omega) (by omega)), (k.ln hV.gm.l52 (by omega) (by omega)), (k.sw hV.gm.sw (by omega)), (k.ln hV.gm.l54 (by omega) (by omega))⟩ (k.ac hV.ac (by omega)) (k.tp hV.tp ⟨fun t ht => by omega, by omega, by omega⟩) hV.k59 hV.k18
  · rw [if_neg h1, if_neg h1]; exact hV
theorem S_begin (d : Nat) (p : Nat) (hp : p < 2 ^ 32) : StepC L xs (d + 20) 87 194 [(1, .int (nI p))] := by
  intro g hl rt hV
  refine K_begin (d + 18) g hl rt hV p hp ?_
  refine ⟨_, _, _, _, rfl, rfl, ?_⟩
  refine C_begin (d + 18) (cs_begin g p) hl rt ((em_begin p).mI hV.mi) p hp ?_
  exact ⟨by rw [(em_begin p).zbegin p], _, _, _, rfl, inv_begin hV p⟩
theorem Em.zsee (h : Em g g1) (p i n : Nat) : rs_see g1 p i n = rs_see g p i n := by unfold rs_see; rw [h.f6, h.f0, h.r168, h.f44]
theorem em_see (p i n : Nat) : Em g (cs_see g p i n) := by
  unfold cs_see
  split
  · exact ((Em.own g (by decide) _ _).trans (Em.own _ (by decide) _ _)).trans (Em.own _ (by decide) _ _)
  · split
    · split
      · split
        · split
          · exact Em.refl g
          · exact (((((Em.own g (by decide) _ _).trans (Em.own _ (by decide) _ _)).trans (Em.own _ (by decide) _ _)).trans (Em.own _ (by decide) _ _)).trans (Em.own _ (by decide) _ _)).trans (Em.own _ (by decide) _ _)
        · exact Em.refl g
      · exact Em.refl g
    · exact Em.refl g
theorem inv_see (hV : Inv g hl rt) (p i n : Nat) : Inv (gs_see (cs_see g p i n) p i n) hl rt := by
  have e := em_see (g := g) p i n
  have h6 := hV.mi.hPl
  have h44 := hV.mi.hSn
  have h0 := hV.mi.hW
  have hsz := hV.mi.hsz i
  unfold gs_see
  rw [e.f6, e.f0, e.r168, e.f44]
  unfold cs_see
  by_cases h1 : p = 4294967295
  · rw [if_pos h1, if_pos h1]
    have k : Ag (fun c => c = 48 ∨ c = 49 ∨ c = 50 ∨ c = 51 ∨ c = 52 ∨ c = 53 ∨ c = 189 ∨ c = 190 ∨ c = 191) (fun j => j = 44) g (u2 (u2 (u2 (u2 g 48 1 0) 50 1 0) 52 1 0) 166 44 0) := (((((Ag.nil (fun c => c = 48 ∨ c = 49 ∨ c = 50 ∨ c = 51 ∨ c = 52 ∨ c = 53 ∨ c = 189 ∨ c = 190 ∨ c = 191) (fun j => j = 44) g).u (by omega) (by omega) _ _).u (by omega) (by omega) _ _).u (by omega) (by omega) _ _).f (by omega) _)
    exact Ag.inv k hV (MI.f44 hV.mi (by omega)) (by omega) ⟨by omega, by omega, by omega, by omega, fun f hf => by omega⟩ (by omega) ⟨fun c hc => by unfold imC at hc; omega, fun j hj => by omega⟩ (k.ln hV.sp (by omega) (by omega)) (k.ln hV.tx (by omega) (by omega)) ⟨(k.cb hV.gm.cb (fun c hc => by omega) (by omega)), (k.cpl hV.mi hV.gm.cp (fun c hc => by omega) (by omega)), (k.cs hV.gm.cs (by omega)), (k.rx hV.gm.rx (by omega)), (k.ry hV.gm.ry (by omega)), ⟨rfl, fun q hq => absurd hq (Nat.not_lt_zero _)⟩, ⟨rfl, fun q hq => absurd hq (Nat.not_lt_zero _)⟩, ⟨rfl, fun q hq => absurd hq (Nat.not_lt_zero _)⟩, (fun q hq => absurd hq (Nat.not_lt_zero _)), (k.ln hV.gm.l54 (by omega) (by omega))⟩ (k.ac hV.ac (by omega)) (k.tp hV.tp ⟨fun t ht => by omega, by omega, by omega⟩) hV.k59 hV.k18
  · rw [if_neg h1, if_neg h1]
    by_cases h2 : p < g 166 6
    · rw [if_pos h2, if_pos h2]
      by_cases h3 : i < g 166 0
      · rw [if_pos h3, if_pos h3]
        by_cases h4 : 1 ≤ n ∧ n ≤ g 168 i
        · rw [if_pos h4, if_pos h4]
          by_cases h5 : g 166 44 = 6
          · rw [if_pos h5, if_pos h5]; exact hV
          · rw [if_neg h5, if_neg h5]
            have k : Ag (fun c => c = 48 ∨ c = 49 ∨ c = 50 ∨ c = 51 ∨ c = 52 ∨ c = 53 ∨ c = 189 ∨ c = 190 ∨ c = 191) (fun j => j = 44) g (u2 (u2 (u2 (u2 (u2 (u2 (u2 (u2 (u2 (u2 g 49 (g 166 44) p) 48 1 (g 166 44 + 1)) 51 (g 166 44) i) 50 1 (g 166 44 + 1)) 53 (g 166 44) n) 52 1 (g 166 44 + 1)) 189 (g 166 44) p) 190 (g 166 44) i) 191 (g 166 44) n) 166 44 (g 166 44 + 1)) := (((((((((((Ag.nil (fun c => c = 48 ∨ c = 49 ∨ c = 50 ∨ c = 51 ∨ c = 52 ∨ c = 53 ∨ c = 189 ∨ c = 190 ∨ c = 191) (fun j => j = 44) g).u (by omega) (by omega) _ _).u (by omega) (by omega) _ _).u (by omega) (by omega) _ _).u (by omega) (by omega) _ _).u (by omega) (by omega) _ _).u (by omega) (by omega) _ _).u (by omega) (by omega) _ _).u (by omega) (by omega) _ _).u (by omega) (by omega) _ _).f (by omega) _)
            exact Ag.inv k hV ((((MI.a189 hV.mi (by omega)).a190 (by omega)).a191 (by omega)).f44 (by omega)) (by omega) ⟨by omega, by omega, by omega, by omega, fun f hf => by omega⟩ (by omega) ⟨fun c hc => by unfold imC at hc; omega, fun j hj => by omega⟩ (k.ln hV.sp (by omega) (by omega)) (k.ln hV.tx (by omega) (by omega)) ⟨(k.cb hV.gm.cb (fun c hc => by omega) (by omega)), (k.cpl hV.mi hV.gm.cp (fun c hc => by omega) (by omega)), (k.cs hV.gm.cs (by omega)), (k.rx hV.gm.rx (by omega)), (k.ry hV.gm.ry (by omega)), ⟨rfl, fun q hq => by
            have hq : q < g 166 44 + 1 := hq
            show (if q = g 166 44 then p else g 49 q) = (if q = g 166 44 then p else g 189 q)
            split
            · rfl
            · exact hV.gm.l48.2 q (by omega)⟩, ⟨rfl, fun q hq => by
            have hq : q < g 166 44 + 1 := hq
            show (if q = g 166 44 then i else g 51 q) = (if q = g 166 44 then i else g 190 q)
            split
            · rfl
            · exact hV.gm.l50.2 q (by omega)⟩, ⟨rfl, fun q hq => by
            have hq : q < g 166 44 + 1 := hq
            show (if q = g 166 44 then n else g 53 q) = (if q = g 166 44 then n else g 191 q)
            split
            · rfl
            · exact hV.gm.l52.2 q (by omega)⟩, (fun q hq => by
            have hq : q < g 166 44 + 1 := hq
            show (if q = g 166 44 then i else g 190 q) < g 166 0
            split
            · exact h3
            · exact hV.gm.sw q (by omega)), (k.ln hV.gm.l54 (by omega) (by omega))⟩ (k.ac hV.ac (by omega)) (k.tp hV.tp ⟨fun t ht => by omega, by omega, by omega⟩) hV.k59 hV.k18
        · rw [if_neg h4, if_neg h4]; exact hV
      · rw [if_neg h3, if_neg h3]; exact hV
    · rw [if_neg h2, if_neg h2]; exact hV
theorem S_see (d : Nat) (p : Nat) (i : Nat) (n : Nat) (hp : p < 2 ^ 32) (hi : i < 2 ^ 32) (hn : n < 2 ^ 32) : StepC L xs (d + 20) 96 210 [(1, .int (nI p)), (2, .int (nI i)), (3, .int (nI n))] := by
  intro g hl rt hV
  refine K_see (d + 18) g hl rt hV p i n hp hi hn ?_
  refine ⟨_, _, _, _, rfl, rfl, ?_⟩
  refine C_see (d + 18) (cs_see g p i n) hl rt ((em_see p i n).mI hV.mi) p i n hp hi hn ?_
  exact ⟨by rw [(em_see p i n).zsee p i n], _, _, _, rfl, inv_see hV p i n⟩
theorem Em.zsheet (h : Em g g1) (p : Nat) : rs_sheet g1 p = rs_sheet g p := by unfold rs_sheet; rw [h.f6, h.f48]
theorem em_sheet (p : Nat) : Em g (cs_sheet g p) := by
  unfold cs_sheet
  split
  · exact Em.own g (by decide) _ _
  · split
    · split
      · exact Em.refl g
      · exact (Em.own g (by decide) _ _).trans (Em.own _ (by decide) _ _)
    · exact Em.refl g
theorem inv_sheet (hV : Inv g hl rt) (p : Nat) : Inv (gs_sheet (cs_sheet g p) p) hl rt := by
  have e := em_sheet (g := g) p
  have h6 := hV.mi.hPl
  have h48 := hV.mi.hSh
  unfold gs_sheet
  rw [e.f6, e.f48]
  unfold cs_sheet
  by_cases h1 : p = 4294967295
  · rw [if_pos h1, if_pos h1]
    have k : Ag (fun c => c = 54 ∨ c = 55 ∨ c = 192) (fun j => j = 48) g (u2 (u2 g 54 1 0) 166 48 0) := (((Ag.nil (fun c => c = 54 ∨ c = 55 ∨ c = 192) (fun j => j = 48) g).u (by omega) (by omega) _ _).f (by omega) _)
    exact Ag.inv k hV (MI.f48 hV.mi (by omega)) (by omega) ⟨by omega, by omega, by omega, by omega, fun f hf => by omega⟩ (by omega) ⟨fun c hc => by unfold imC at hc; omega, fun j hj => by omega⟩ (k.ln hV.sp (by omega) (by omega)) (k.ln hV.tx (by omega) (by omega)) ⟨(k.cb hV.gm.cb (fun c hc => by omega) (by omega)), (k.cpl hV.mi hV.gm.cp (fun c hc => by omega) (by omega)), (k.cs hV.gm.cs (by omega)), (k.rx hV.gm.rx (by omega)), (k.ry hV.gm.ry (by omega)), (k.ln hV.gm.l48 (by omega) (by omega)), (k.ln hV.gm.l50 (by omega) (by omega)), (k.ln hV.gm.l52 (by omega) (by omega)), (k.sw hV.gm.sw (by omega)), ⟨rfl, fun q hq => absurd hq (Nat.not_lt_zero _)⟩⟩ (k.ac hV.ac (by omega)) (k.tp hV.tp ⟨fun t ht => by omega, by omega, by omega⟩) hV.k59 hV.k18
  · rw [if_neg h1, if_neg h1]
    by_cases h2 : p < g 166 6
    · rw [if_pos h2, if_pos h2]
      by_cases h5 : g 166 48 = 8
      · rw [if_pos h5, if_pos h5]; exact hV
      · rw [if_neg h5, if_neg h5]
        have k : Ag (fun c => c = 54 ∨ c = 55 ∨ c = 192) (fun j => j = 48) g (u2 (u2 (u2 (u2 g 55 (g 166 48) p) 54 1 (g 166 48 + 1)) 192 (g 166 48) p) 166 48 (g 166 48 + 1)) := (((((Ag.nil (fun c => c = 54 ∨ c = 55 ∨ c = 192) (fun j => j = 48) g).u (by omega) (by omega) _ _).u (by omega) (by omega) _ _).u (by omega) (by omega) _ _).f (by omega) _)
        exact Ag.inv k hV ((MI.a192 hV.mi (by omega)).f48 (by omega)) (by omega) ⟨by omega, by omega, by omega, by omega, fun f hf => by omega⟩ (by omega) ⟨fun c hc => by unfold imC at hc; omega, fun j hj => by omega⟩ (k.ln hV.sp (by omega) (by omega)) (k.ln hV.tx (by omega) (by omega)) ⟨(k.cb hV.gm.cb (fun c hc => by omega) (by omega)), (k.cpl hV.mi hV.gm.cp (fun c hc => by omega) (by omega)), (k.cs hV.gm.cs (by omega)), (k.rx hV.gm.rx (by omega)), (k.ry hV.gm.ry (by omega)), (k.ln hV.gm.l48 (by omega) (by omega)), (k.ln hV.gm.l50 (by omega) (by omega)), (k.ln hV.gm.l52 (by omega) (by omega)), (k.sw hV.gm.sw (by omega)), ⟨rfl, fun q hq => by
            have hq : q < g 166 48 + 1 := hq
            show (if q = g 166 48 then p else g 55 q) = (if q = g 166 48 then p else g 192 q)
            split
            · rfl
            · exact hV.gm.l54.2 q (by omega)⟩⟩ (k.ac hV.ac (by omega)) (k.tp hV.tp ⟨fun t ht => by omega, by omega, by omega⟩) hV.k59 hV.k18
    · rw [if_neg h2, if_neg h2]; exact hV
theorem S_sheet (d : Nat) (p : Nat) (hp : p < 2 ^ 32) : StepC L xs (d + 20) 102 218 [(1, .int (nI p))] := by
  intro g hl rt hV
  refine K_sheet (d + 18) g hl rt hV p hp ?_
  refine ⟨_, _, _, _, rfl, rfl, ?_⟩
  refine C_sheet (d + 18) (cs_sheet g p) hl rt ((em_sheet p).mI hV.mi) p hp ?_
  exact ⟨by rw [(em_sheet p).zsheet p], _, _, _, rfl, inv_sheet hV p⟩
end ST
