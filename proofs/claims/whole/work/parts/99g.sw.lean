/-! tapes on both sides -/
theorem MI.a206 {g : Nat → Nat → Nat} (h : MI g) {p x : Nat} (hx : x ≤ 4 ∨ x = 4294967295) : MI (u2 g 206 p x) := ⟨h.hW, h.hS, h.hPl, h.hNx, h.hLa, h.hLo, h.hTb, h.hTh, h.hFd, h.hSn, h.hSh, h.hRan, h.hLr, h.hLt, h.hgl, h.hsz, h.hcm, h.hsl, h.hkd, h.hvv, h.hli, h.hro, h.hrw, h.htx, h.hsw, h.hsx, h.hsy, h.hsh, h.hle, h.hcl, h.hwd, h.hnu, h.hwn, h.hs1, fun j hj => by
  show (if j = p then x else g 206 j) ≤ 4 ∨ (if j = p then x else g 206 j) = 4294967295
  split
  · exact hx
  · exact h.hso j hj⟩
section AT
variable {X J : Nat → Prop} {g g1 : Nat → Nat → Nat} {hl : Nat → Nat → Int64} {rt : Nat × Nat × Nat × Nat}
theorem Ag.invT {hl1 : Nat → Nat → Int64} (k : Ag X J g g1) (h : Inv g hl rt) (m : MI g1) (h1 : ¬ X 184 ∧ ¬ J 33) (ht : (¬ X 177 ∧ ¬ X 178 ∧ ¬ X 179 ∧ ¬ X 180 ∧ ¬ X 181 ∧ ¬ X 182) ∧ ¬ J 15 ∧ ¬ X 0 ∧ ¬ X 56 ∧ (∀ f, f < 6 → ¬ X (136 + 3 * f) ∧ ¬ X (136 + 3 * f + 1))) (h16 : ¬ J 16) (hi : (∀ c, imC c → ¬ X c) ∧ ∀ j, 50 ≤ j ∧ j ≤ 58 → ¬ J j) (sp : LnE g1 1 (g1 166 1) (g1 170)) (tx : LnE g1 3 (g1 166 17) (g1 176)) (gm : GMC g1) (ac : AcE g1) (tp : TpE g1 hl1) (k59 : ∀ j, j < 5 → g1 59 j < 4096) (k18 : ∀ j, j < 7 → g1 18 j < 4096) : Inv g1 hl1 rt := by
  obtain ⟨t1, t2, t3, t4, t5⟩ := ht
  have e15 := k.2 15 t2
  exact ⟨m, k.lt h.lt h1.1, (k.2 33 h1.2).trans h.lr, k.ka h.ka ⟨t1.1, t1.2.1, t1.2.2.2.1, t1.2.2.2.2.1, t1.2.2.2.2.2, t2⟩, by rw [e15, k.2 16 h16]; exact h.th, sp, tx, gm, ac, tp, k.tb h.tb h.mi.hTb ⟨t3, t4, t5, t1, t2⟩, (by rw [k.2 50 (hi.2 50 (by omega))]; exact h.i1), (by rw [k.1 0 (by decide) t3, k.2 50 (hi.2 50 (by omega))]; exact h.i2), k.im h hi.1 hi.2 (by omega), k59, k18⟩
theorem Inv.hl1 {hl1 : Nat → Nat → Int64} (h : Inv g hl rt) (tp : TpE g hl1) : Inv g hl1 rt :=
  ⟨h.mi, h.lt, h.lr, h.ka, h.th, h.sp, h.tx, h.gm, h.ac, tp, h.tb, h.i1, h.i2, h.im, h.k59, h.k18⟩
end AT
section ST
variable {L : Nat} {xs : Nat → Int32} {g g1 : Nat → Nat → Nat} {hl : Nat → Nat → Int64} {rt : Nat × Nat × Nat × Nat}
theorem em_tape (g : Nat → Nat → Nat) (t s n : Nat) : Em g (cg_tape g t s n) := by
  unfold cg_tape
  split
  · rename_i h
    have h := dc_p h
    unfold okTp at h
    exact (Em.own g (by omega) _ _).trans (Em.own _ (by omega) _ _)
  · exact Em.refl g
theorem S_tape (d : Nat) (t s n : Nat) (ht : t < 2 ^ 32) (hs : s < 2 ^ 32) (hn : n < 2 ^ 32) : StepC L xs (d + 20) 111 236 [(1, .int (nI t)), (2, .int (nI s)), (3, .int (nI n))] := by
  intro g hl rt hV
  refine K_tape (d + 18) g hl rt hV t s n ht hs hn ?_
  refine ⟨_, _, _, _, rfl, rfl, ?_⟩
  have em := em_tape g t s n
  refine Ev.hp (congrArg (fun z => HN z (ch_tape hl t s n) (RF rt)) (U_self (cg_tape g t s n)).symm) ?_
  refine C_tape (d + 18) (cg_tape g t s n) (ch_tape hl t s n) rt (em.mI hV.mi) t s n ht hs hn _ _ _ (SmH.self (em.mI hV.mi)) ?_
  refine ⟨rfl, _, _, _, rfl, ?_⟩
  unfold gs_tape hs_tape cg_tape ch_tape
  by_cases hk : dc (okTp t s n) = true
  · rw [if_pos hk, if_pos hk, if_pos hk, if_pos hk]
    have ho := dc_p hk
    unfold okTp at ho
    obtain ⟨N, hN⟩ : ∃ N, N = (if 2147483648 ≤ s then 0 else n) := ⟨_, rfl⟩
    have hN60 : N ≤ 60 ∧ (s = 4294967295 → N = 0) := by
      rw [hN]
      split <;> omega
    rw [← hN]
    have hV2 : Inv (u2 (u2 (u2 (u2 g (154 + 2 * t) 1 s) (154 + 2 * t) 2 N) 206 t s) 207 t N) (cpL (cpL hl (154 + 2 * t + 1) 0 60 (fun _ => Int64.ofNat 0)) 208 (60 * t) 60 (fun _ => Int64.ofNat 0)) rt := by
      have k : Ag (fun c => c = 154 + 2 * t ∨ c = 206 ∨ c = 207) (fun j => j = 77) g (u2 (u2 (u2 (u2 g (154 + 2 * t) 1 s) (154 + 2 * t) 2 N) 206 t s) 207 t N) := (((((Ag.nil (fun c => c = 154 + 2 * t ∨ c = 206 ∨ c = 207) (fun j => j = 77) g).u (by omega) (by omega) _ _).u (by omega) (by omega) _ _).u (by omega) (by omega) _ _).u (by omega) (by omega) _ _)
      have m : MI (u2 (u2 (u2 (u2 g (154 + 2 * t) 1 s) (154 + 2 * t) 2 N) 206 t s) 207 t N) := ((((Em.own g (c := 154 + 2 * t) (by omega) 1 s).trans (Em.own _ (c := 154 + 2 * t) (by omega) 2 N)).mI hV.mi).a206 (by omega)).a207 hN60.1
      have tp : TpE (u2 (u2 (u2 (u2 g (154 + 2 * t) 1 s) (154 + 2 * t) 2 N) 206 t s) 207 t N) (cpL (cpL hl (154 + 2 * t + 1) 0 60 (fun _ => Int64.ofNat 0)) 208 (60 * t) 60 (fun _ => Int64.ofNat 0)) := by
        intro q hq
        have h0 := hV.tp q hq
        rw [u2_ne _ (Or.inl (show 154 + 2 * q ≠ 207 by omega)), u2_ne _ (Or.inl (show 154 + 2 * q ≠ 206 by omega)), u2_ne _ (Or.inl (show 154 + 2 * q ≠ 207 by omega)), u2_ne _ (Or.inl (show 154 + 2 * q ≠ 206 by omega))]
        have e6 : ∀ j, u2 (u2 (u2 (u2 g (154 + 2 * t) 1 s) (154 + 2 * t) 2 N) 206 t s) 207 t N 206 j = if j = t then s else g 206 j := fun j => by
          rw [u2_ne _ (Or.inl (by decide))]
          show (if j = t then s else u2 (u2 g (154 + 2 * t) 1 s) (154 + 2 * t) 2 N 206 j) = _
          rw [u2_ne _ (Or.inl (by omega)), u2_ne _ (Or.inl (by omega))]
        have e7 : ∀ j, u2 (u2 (u2 (u2 g (154 + 2 * t) 1 s) (154 + 2 * t) 2 N) 206 t s) 207 t N 207 j = if j = t then N else g 207 j := fun j => by
          show (if j = t then N else u2 (u2 (u2 g (154 + 2 * t) 1 s) (154 + 2 * t) 2 N) 206 t s 207 j) = _
          rw [u2_ne _ (Or.inl (by decide)), u2_ne _ (Or.inl (by omega)), u2_ne _ (Or.inl (by omega))]
        rw [e6, e7]
        by_cases e : q = t
        · subst e
          rw [if_pos rfl, if_pos rfl]
          refine ⟨?_, ?_, hN60.2, fun k hk => ?_⟩
          · rw [u2_ne _ (Or.inr (by decide)), u2_at]
          · rw [u2_at]
          · unfold cpL
            rw [if_neg (by omega), if_pos rfl, if_pos (by omega), if_pos rfl, if_pos (by omega)]
        · rw [if_neg e, if_neg e, u2_ne _ (Or.inl (by omega)), u2_ne _ (Or.inl (by omega)), u2_ne _ (Or.inl (by omega)), u2_ne _ (Or.inl (by omega))]
          refine ⟨h0.1, h0.2.1, h0.2.2.1, fun k hk => ?_⟩
          unfold cpL
          rw [if_neg (by omega), if_neg (by omega), if_pos rfl, if_neg (by omega), if_neg (by omega)]
          exact h0.2.2.2 k hk
      exact Ag.invT k hV m (by omega) ⟨by omega, by omega, by omega, by omega, fun f hf => by omega⟩ (by omega) ⟨fun c hc => by unfold imC at hc; omega, fun j hj => by omega⟩ (k.ln hV.sp (by omega) (by omega)) (k.ln hV.tx (by omega) (by omega)) (k.gm hV.mi hV.gm (fun c hc => by unfold gmC at hc; omega) (fun j hj => by unfold gmJ at hj; omega)) (k.ac hV.ac (by omega)) tp (by rw [k.1 59 (by omega) (by omega)]; exact hV.k59) (by rw [k.1 18 (by omega) (by omega)]; exact hV.k18)
    have e175 : (u2 (u2 (u2 (u2 g (154 + 2 * t) 1 s) (154 + 2 * t) 2 N) 206 t s) 207 t N) 175 = (u2 (u2 g (154 + 2 * t) 1 s) (154 + 2 * t) 2 N) 175 := funext (fun j => by rw [u2_ne _ (Or.inl (by decide)), u2_ne _ (Or.inl (by decide))])
    have e186 : (u2 (u2 (u2 (u2 g (154 + 2 * t) 1 s) (154 + 2 * t) 2 N) 206 t s) 207 t N) 186 = (u2 (u2 g (154 + 2 * t) 1 s) (154 + 2 * t) 2 N) 186 := funext (fun j => by rw [u2_ne _ (Or.inl (by decide)), u2_ne _ (Or.inl (by decide))])
    rw [← e175, ← e186]
    exact hV2.u (SmH.self hV2.mi)
  · rw [if_neg hk, if_neg hk, if_neg hk, if_neg hk]
    exact hV.u (SmH.self hV.mi)
theorem S_item (d : Nat) (t i : Nat) (ht : t < 2 ^ 32) (hi : i < 2 ^ 32) (z : Int64) : StepC L xs (d + 20) 112 238 [(1, .int (nI t)), (2, .int (nI i)), (3, .long z)] := by
  intro g hl rt hV
  refine K_item (d + 18) g hl rt hV t i ht hi z ?_
  refine ⟨_, _, _, _, rfl, rfl, ?_⟩
  refine Ev.hp (congrArg (fun q => HN q (ch_item g hl t i z) (RF rt)) (U_self g).symm) ?_
  refine C_item (d + 18) g (ch_item g hl t i z) rt hV.mi t i ht hi z _ _ _ (SmH.self hV.mi) ?_
  refine ⟨rfl, _, _, _, rfl, Inv.u ?_ (SmH.self hV.mi)⟩
  unfold hs_item ch_item
  by_cases hk : dc (t ≤ 5 ∧ g 206 t < 2147483648 ∧ i < g 207 t) = true
  · rw [if_pos hk, if_pos hk]
    have ho := dc_p hk
    have hle := hV.mi.hle t (by omega)
    refine hV.hl1 (fun q hq => ?_)
    have h0 := hV.tp q hq
    refine ⟨h0.1, h0.2.1, h0.2.2.1, fun k hk2 => ?_⟩
    unfold u2
    rw [if_neg (by omega), if_pos rfl]
    by_cases e : q = t ∧ k = i
    · rw [if_pos (by omega), if_pos e.2, if_pos (by omega)]
    · rw [if_neg (show ¬ 60 * q + k = 60 * t + i by omega), if_neg (show ¬ 208 = 154 + 2 * t + 1 by omega)]
      by_cases e2 : q = t
      · rw [if_pos (by omega), if_neg (by omega)]
        exact h0.2.2.2 k hk2
      · rw [if_neg (by omega)]
        exact h0.2.2.2 k hk2
  · rw [if_neg hk, if_neg hk]
    exact hV
theorem S_read (d : Nat) (t i : Nat) (ht : t < 2 ^ 32) (hi : i < 2 ^ 32) : StepC L xs (d + 20) 113 239 [(1, .int (nI t)), (2, .int (nI i))] := by
  intro g hl rt hV
  refine K_read (d + 18) g hl rt hV t i ht hi ?_
  refine ⟨_, _, _, _, rfl, rfl, ?_⟩
  refine Ev.hp (congrArg (fun q => HN q hl (RF rt)) (U_self g).symm) ?_
  refine C_read (d + 18) g hl rt hV.mi t i ht hi _ _ _ (SmH.self hV.mi) ?_
  exact ⟨rfl, _, _, _, rfl, hV.u (SmH.self hV.mi)⟩
theorem S_judge (d : Nat) (t i : Nat) (ht : t < 2 ^ 32) (hi : i < 2 ^ 32) : StepC L xs (d + 20) 104 220 [(1, .int (nI t)), (2, .int (nI i))] := by
  intro g hl rt hV
  refine K_judge (d + 18) g hl rt hV t i ht hi ?_
  refine ⟨_, _, _, _, rfl, rfl, ?_⟩
  refine Ev.hp (congrArg (fun q => HN q hl (RF rt)) (U_self g).symm) ?_
  refine C_judge (d + 18) g hl rt hV.mi t i ht hi _ _ _ (SmH.self hV.mi) ?_
  exact ⟨rfl, _, _, _, rfl, hV.u (SmH.self hV.mi)⟩
theorem S_shift (d : Nat) (t i o j n : Nat) (ht : t < 2 ^ 32) (hi : i < 2 ^ 32) (ho : o < 2 ^ 32) (hj : j < 2 ^ 32) (hn : n < 2 ^ 32) : StepC L xs (d + 20) 114 240 [(1, .int (nI t)), (2, .int (nI i)), (3, .int (nI o)), (4, .int (nI j)), (5, .int (nI n))] := by
  intro g hl rt hV
  refine K_shift (d + 18) g hl rt hV t i o j n ht hi ho hj hn ?_
  refine ⟨_, _, _, _, rfl, rfl, ?_⟩
  refine Ev.hp (congrArg (fun q => HN q (ch_shift g hl t i o j n) (RF rt)) (U_self g).symm) ?_
  refine C_shift (d + 18) g (ch_shift g hl t i o j n) rt hV.mi t i o j n ht hi ho hj hn _ _ _ (SmH.self hV.mi) ?_
  refine ⟨rfl, _, _, _, rfl, Inv.u ?_ (SmH.self hV.mi)⟩
  unfold hs_shift ch_shift
  by_cases hk : dc (okSh g t i o j n) = true
  · rw [if_pos hk, if_pos hk]
    have hq := dc_p hk
    unfold okSh at hq
    have hle := hV.mi.hle t (by omega)
    have hle2 := hV.mi.hle o (by omega)
    refine hV.hl1 (fun q hq6 => ?_)
    have h0 := hV.tp q hq6
    refine ⟨h0.1, h0.2.1, h0.2.2.1, fun k hk2 => ?_⟩
    unfold cpL
    rw [if_neg (by omega), if_neg (by omega), if_pos rfl, if_neg (show ¬ 208 = 209 by decide), if_neg (show ¬ 208 = 154 + 2 * o + 1 by omega)]
    by_cases e : q = o
    · rw [if_pos (by omega)]
      by_cases e2 : j ≤ k ∧ k < j + n
      · rw [if_pos e2, if_pos (by omega)]
        refine Eq.trans ?_ (if_neg (show ¬ 208 = 154 + 2 * o + 1 by omega)).symm
        have e9 : 60 * t + i + (60 * q + k - (60 * o + j)) = 60 * t + (i + (k - j)) := by omega
        rw [e9]
        exact (hV.tp t (by omega)).2.2.2 (i + (k - j)) (by omega)
      · rw [if_neg e2, if_neg (by omega), ← e]
        exact h0.2.2.2 k hk2
    · rw [if_neg (by omega), if_neg (by omega)]
      exact h0.2.2.2 k hk2
  · rw [if_neg hk, if_neg hk]
    exact hV
end ST
