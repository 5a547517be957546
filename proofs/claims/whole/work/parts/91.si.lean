/-! calls on both sides: questions -/
section ST
variable {L : Nat} {xs : Nat → Int32} {g g1 : Nat → Nat → Nat} {hl : Nat → Nat → Int64} {rt : Nat × Nat × Nat × Nat}
theorem U_ne (g : Nat → Nat → Nat) (r w v : Nat → Nat) {c : Nat} (h : c ≠ 175 ∧ c ≠ 185 ∧ c ≠ 186) : U g r w v c = g c := by
  unfold U ur
  funext b
  rw [if_neg h.2.2, if_neg h.2.1, if_neg h.1]
theorem Inv.u (h : Inv g hl rt) {r w v : Nat → Nat} (hs : SmH g r v) : Inv (U g r w v) hl rt := by
  refine h.fr ⟨fun c hc => U_ne g r w v (by unfold okC at hc; omega), fun j _ _ _ _ _ _ _ => by rw [U_ne g r w v (by omega)], fun b _ => by rw [U_ne g r w v (by omega)], fun k hk => ?_⟩ (h.mi.mU hs) (by rw [U_ne g r w v (by omega)]; exact h.k59) (by rw [U_ne g r w v (by omega)]; exact h.k18)
  have e : U g r w v 175 k = r k := by
    unfold U ur
    rw [if_neg (by decide), if_neg (by decide), if_pos rfl]
  rw [e]
  exact hs.2.1 k hk
theorem Inv.w186 (h : Inv g hl rt) {v : Nat → Nat} (hv : ∀ j, j < 84 → v j ≤ 1) : Inv (ur g 186 v) hl rt := by
  have e : ur g 186 v = U g (g 175) (g 185) v := by
    unfold U
    rw [ur_self g 175, ur_self g 185]
  rw [e]
  exact h.u ⟨h.mi.hrw, fun _ _ => rfl, hv⟩
theorem Inv.cy (h : Inv g hl rt) (k : Cy g g1) : Inv g1 hl rt := by
  refine h.fr ⟨fun c hc => k.1 c (by unfold okC at hc; omega) (by unfold okC at hc; omega) (by unfold okC at hc; omega) (by unfold okC at hc; omega), fun j h1 h2 h3 h4 h5 h6 h7 => k.2.1 j h2 h3 h4 h5 h6 h7, k.2.2, fun j hj => by rw [k.1 175 (by decide) (by decide) (by decide) (by decide)]⟩ (h.mi.mcy k) (by rw [k.1 59 (by decide) (by decide) (by decide) (by decide)]; exact h.k59) (by rw [k.1 18 (by decide) (by decide) (by decide) (by decide)]; exact h.k18)
theorem S_of (d : Nat) (p : Nat) (x : Nat) (hp : p < 2 ^ 32) (hx : x < 2 ^ 32) : StepC L xs (d + 20) 80 195 [(1, .int (nI p)), (2, .int (nI x))] := by
  intro g hl rt hV
  refine K_of (d + 14) g hl rt hV p x hp hx (fun g1 hV1 => ?_)
  refine ⟨_, _, _, _, rfl, rfl, ?_⟩
  refine Ev.hp (congrArg (fun z => HN z hl (RF rt)) (U_self g1).symm) ?_
  refine C_of (d + 15) g1 hl rt hV1.mi hV1.kw p x hp hx _ _ _ (SmH.self hV1.mi) (fun r w v hs => ?_)
  exact ⟨rfl, _, _, _, rfl, hV1.u hs⟩
theorem S_has (d : Nat) (p : Nat) (x : Nat) (hp : p < 2 ^ 32) (hx : x < 2 ^ 32) : StepC L xs (d + 20) 92 204 [(1, .int (nI p)), (2, .int (nI x))] := by
  intro g hl rt hV
  refine K_has (d + 14) g hl rt hV p x hp hx (fun g1 hV1 => ?_)
  refine ⟨_, _, _, _, rfl, rfl, ?_⟩
  refine Ev.hp (congrArg (fun z => HN z hl (RF rt)) (U_self g1).symm) ?_
  refine C_has (d + 16) g1 hl rt hV1.mi hV1.kw p x hp hx _ _ _ (SmH.self hV1.mi) (fun r w v hs => ?_)
  exact ⟨rfl, _, _, _, rfl, hV1.u hs⟩
theorem S_could (d : Nat) (p : Nat) (hp : p < 2 ^ 32) : StepC L xs (d + 20) 97 212 [(1, .int (nI p))] := by
  intro g hl rt hV
  refine K_could (d + 14) g hl rt hV p hp (fun g1 hV1 => ?_)
  refine ⟨_, _, _, _, rfl, rfl, ?_⟩
  refine Ev.hp (congrArg (fun z => HN z hl (RF rt)) (U_self g1).symm) ?_
  refine C_could (d + 16) g1 hl rt hV1.mi hV1.kw p hp _ _ _ (SmH.self hV1.mi) (fun r w v hs => ?_)
  exact ⟨rfl, _, _, _, rfl, hV1.u hs⟩
theorem S_can (d : Nat) (i : Nat) (n : Nat) (hi : i < 2 ^ 32) (hn : n < 2 ^ 32) : StepC L xs (d + 20) 98 213 [(1, .int (nI i)), (2, .int (nI n))] := by
  intro g hl rt hV
  refine K_can (d + 14) g hl rt hV i n hi hn (fun g1 hV1 => ?_)
  refine ⟨_, _, _, _, rfl, rfl, ?_⟩
  refine Ev.hp (congrArg (fun z => HN z hl (RF rt)) (U_self g1).symm) ?_
  refine C_can (d + 16) g1 hl rt hV1.mi hV1.kw i n hi hn _ _ _ (SmH.self hV1.mi) (fun r w v hs => ?_)
  exact ⟨rfl, _, _, _, rfl, hV1.u hs⟩
theorem S_won (d : Nat) (x : Nat) (hx : x < 2 ^ 32) : StepC L xs (d + 20) 90 176 [(1, .int (nI x))] := by
  intro g hl rt hV
  refine K_won (d + 14) g hl rt hV x hx (fun g1 hV1 => ?_)
  refine ⟨_, _, _, _, rfl, rfl, ?_⟩
  refine C_won (d + 14) g1 hl rt hV1.mi x hx (fun w hw => ?_)
  exact ⟨rfl, _, _, _, rfl, hV1.w186 hw⟩
theorem S_begins (d : Nat) (m : Nat) (hm : m < 2 ^ 32) : StepC L xs (d + 20) 99 177 [(1, .int (nI m))] := by
  intro g hl rt hV
  refine K_begins (d + 14) g hl rt hV m hm (fun g1 hV1 => ?_)
  refine ⟨_, _, _, _, rfl, rfl, ?_⟩
  refine C_begins (d + 14) g1 hl rt hV1.mi m hm (fun w hw => ?_)
  exact ⟨rfl, _, _, _, rfl, hV1.w186 hw⟩
end ST
