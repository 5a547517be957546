/-! the class: rounds -/
def RO (g : Nat → Nat → Nat) (c : Nat) (x0 x1 x2 x3 : Nat → Nat) : Nat → Nat → Nat := ur (ur (ur (ur g c x0) (c + 1) x1) (c + 2) x2) (c + 3) x3
section ROs
variable (g : Nat → Nat → Nat) (c : Nat) (x0 x1 x2 x3 : Nat → Nat) (j x : Nat)
theorem RO_0 : u2 (RO g c x0 x1 x2 x3) c j x = RO g c (up x0 j x) x1 x2 x3 := by
  funext a i; unfold u2 RO ur up
  by_cases e : a = c
  · subst e; simp
  · simp [e]
theorem RO_1 : u2 (RO g c x0 x1 x2 x3) (c + 1) j x = RO g c x0 (up x1 j x) x2 x3 := by
  funext a i; unfold u2 RO ur up
  by_cases e : a = c + 1
  · subst e; simp
  · simp [e]
theorem RO_2 : u2 (RO g c x0 x1 x2 x3) (c + 2) j x = RO g c x0 x1 (up x2 j x) x3 := by
  funext a i; unfold u2 RO ur up
  by_cases e : a = c + 2
  · subst e; simp
  · simp [e]
theorem RO_3 : u2 (RO g c x0 x1 x2 x3) (c + 3) j x = RO g c x0 x1 x2 (up x3 j x) := by
  funext a i; unfold u2 RO ur up
  by_cases e : a = c + 3
  · subst e; simp
  · simp [e]
theorem RO_self : RO g c (g c) (g (c + 1)) (g (c + 2)) (g (c + 3)) = g := by
  unfold RO
  rw [ur_self g c, ur_self g (c + 1), ur_self g (c + 2), ur_self g (c + 3)]
end ROs
theorem Ev_max {L : Nat} {xs : Nat → Int32} {d q pc : Nat} {lv : Lv} {st : List Value} {h : Hp} {Q : Option Value → Hp → Prop} {i : Nat} {n b t p : Nat} {x y : Int32} {z : Nat} (he : fetch_ q pc = some (.invokestatic i, n, 1002, b, t, p)) (hd : Nat.ble 2 d = true) (hcat : Nat.ble (catS st) 8 = true) (hz : (if x < y then y else x) = nI z) (kk : Ev L xs d q (pc + n) lv (.int (nI z) :: st) h Q) : Ev L xs d q pc lv (.int y :: .int x :: st) h Q := by
  refine Ev.one he rfl (c := (pc + n, lv, .int (nI z) :: st, h)) ?_ kk
  show (match (bif Nat.ble 2 d then (p2 (.int y :: .int x :: st) fun x y r => bif Nat.ble (catS r) 8 then some (.int (if x < y then y else x) :: r) else none).map fun r => (r, h) else none) with | some c => some (pc + n, lv, c.1, c.2) | none => none) = _
  rw [hd]
  show (match (bif Nat.ble (catS st) 8 then some (Value.int (if x < y then y else x) :: st) else none).map fun r => (r, h) with | some c => some (pc + n, lv, c.1, c.2) | none => none) = _
  rw [hcat, hz]; rfl
theorem K_floorMod {L : Nat} {xs : Nat → Int32} (d : Nat) (g : Nat → Nat → Nat) (hl : Nat → Nat → Int64) (rt : Nat × Nat × Nat × Nat) (a b : Nat) (ha : a < 2 ^ 31) (hb0 : 0 < b) (hb : b < 2 ^ 31) {Q : Po} (hq : Q (some (.int (nI (a % b)))) (HN g hl (RF rt))) : Ev L xs d 256 0 [(0, .int (nI a)), (1, .int (nI b))] [] (HN g hl (RF rt)) Q := by
  have hxor := Nat.xor_lt_two_pow ha hb
  have hmod := Nat.mod_lt a hb0
  refine Ev.run 2 (pc' := 2) (lv' := [(0, .int (nI a)), (1, .int (nI b))]) (st' := [.int (nI b), .int (nI a)]) (h' := HN g hl (RF rt)) rfl ?_
  refine Ev_irem rfl (by omega) (by omega) (by omega) ?_
  have hmd2 := Nat.mod_lt (a) (show 0 < b by omega)
  refine Ev.run 4 (pc' := 7) (lv' := [(2, .int (nI (a % b))), (0, .int (nI a)), (1, .int (nI b))]) (st' := [.int (nI a ^^^ nI b)]) (h' := HN g hl (RF rt)) rfl ?_
  refine Ev.topI (nIx _ _) ?_
  have hxo2 : a ^^^ b < 2147483648 := hxor
  refine Ev.run 1 (pc' := (if 0 ≤ nI (a ^^^ b) then 18 else 10)) (lv' := [(2, .int (nI (a % b))), (0, .int (nI a)), (1, .int (nI b))]) (st' := []) (h' := HN g hl (RF rt)) rfl ?_
  refine Ev.ite (fun hc7 => ?_) (fun hc7 => ?_)
  · have hc7 : (a ^^^ b) < 2147483648 := (nI_geU0 (by omega)).mp hc7
    refine Ev.run 1 (pc' := 19) (lv' := [(2, .int (nI (a % b))), (0, .int (nI a)), (1, .int (nI b))]) (st' := [.int (nI (a % b))]) (h' := HN g hl (RF rt)) rfl ?_
    refine Ev.ret (v := some (.int (nI (a % b)))) rfl ?_
    first | exact hq | (exfalso; omega)
  · have hc7 : ¬ ((a ^^^ b) < 2147483648) := fun z => hc7 ((nI_geU0 (by omega)).mpr z)
    refine Ev.run 2 (pc' := (if nI (a % b) = 0 then 18 else 14)) (lv' := [(2, .int (nI (a % b))), (0, .int (nI a)), (1, .int (nI b))]) (st' := []) (h' := HN g hl (RF rt)) rfl ?_
    refine Ev.ite (fun hc11 => ?_) (fun hc11 => ?_)
    · have hc11 : (a % b) = 0 := (nI_eqU0 (by omega)).mp hc11
      refine Ev.run 1 (pc' := 19) (lv' := [(2, .int (nI (a % b))), (0, .int (nI a)), (1, .int (nI b))]) (st' := [.int (nI (a % b))]) (h' := HN g hl (RF rt)) rfl ?_
      refine Ev.ret (v := some (.int (nI (a % b)))) rfl ?_
      first | exact hq | (exfalso; omega)
    · have hc11 : ¬ ((a % b) = 0) := fun z => hc11 ((nI_eqU0 (by omega)).mpr z)
      refine Ev.run 3 (pc' := 17) (lv' := [(2, .int (nI (a % b))), (0, .int (nI a)), (1, .int (nI b))]) (st' := [.int (nI (a % b) + nI b)]) (h' := HN g hl (RF rt)) rfl ?_
      refine Ev.topI (nI_add _ _) ?_
      refine Ev.ret (v := some (.int (nI ((a % b) + b)))) rfl ?_
      first | exact hq | (exfalso; omega)
theorem K_hasPlayer {L : Nat} {xs : Nat → Int32} (d : Nat) (g : Nat → Nat → Nat) (hl : Nat → Nat → Int64) (rt : Nat × Nat × Nat × Nat) (hI : MI g) (hP12 : g 12 2 = g 166 6) (p : Nat) (hp : p < 2 ^ 32) {Q : Po} (hq : Q (some (.int (nI (bn (decide (p < g 166 6)))))) (HN g hl (RF rt))) : Ev L xs (d + 1) 22 0 [(0, .ref 12), (1, .int (nI p))] [] (HN g hl (RF rt)) Q := by
  have hW := hI.hW
  have hS := hI.hS
  have hPl := hI.hPl
  have hNx := hI.hNx
  have hLa := hI.hLa
  have hLo := hI.hLo
  have hTb := hI.hTb
  have hTh := hI.hTh
  have hFd := hI.hFd
  have hSn := hI.hSn
  have hSh := hI.hSh
  have hRan := hI.hRan
  have hLr := hI.hLr
  have hLt := hI.hLt
  have hgl := hI.hgl
  have hsz := hI.hsz
  have hcm := hI.hcm
  have hsl := hI.hsl
  have hkd := hI.hkd
  have hvv := hI.hvv
  have hli := hI.hli
  have hro := hI.hro
  have hrw := hI.hrw
  have htx := hI.htx
  have hsw := hI.hsw
  have hsx := hI.hsx
  have hsy := hI.hsy
  have hsh := hI.hsh
  have hle := hI.hle
  have hcl := hI.hcl
  have hwd := hI.hwd
  have hnu := hI.hnu
  have hwn := hI.hwn
  have hs1 := hI.hs1
  have hso := hI.hso
  refine Ev.run 6 (pc' := 8) (lv' := [(0, .ref 12), (1, .int (nI p))]) (st' := [.int (nI (g 12 2) - nI 1), .int (nI 0), .int (nI p)]) (h' := HN g hl (RF rt)) rfl ?_
  refine Ev.call (a := 118) (as := [.int (nI p), .int (nI 0), .int (nI (g 12 2) - nI 1)]) (rest := []) (lv0 := [(0, .int (nI p)), (1, .int (nI 0)), (2, .int (nI (g 12 2) - nI 1))]) (Q1 := (fun z0 h' => z0 = some (.int (nI (bn (decide (p < g 166 6))))) ∧ h' = HN g hl (RF rt))) rfl rfl (K_within _ _ _ _ (nI p) (nI 0) (nI (g 12 2) - nI 1) (by rw [hP12, in1 (by omega) (by omega)]; exact ⟨rfl, rfl⟩)) (fun r h' hr => ?_)
  obtain ⟨rfl, rfl⟩ := hr
  refine Ev_bn (fun hb11 => ?_) (fun hb11 => ?_)
  · have hhb11 : p < g 166 6 := of_decide_eq_true hb11
    refine Ev.ret (v := some (.int (nI 1))) rfl ?_
    rw [hb11] at hq
    exact hq
  · have hhb11 : ¬ (p < g 166 6) := of_decide_eq_false hb11
    refine Ev.ret (v := some (.int (nI 0))) rfl ?_
    rw [hb11] at hq
    exact hq
