/-! the cells of a run, and what stands outside; the relation to the machine's heap -/
def isNest (w : Cond) : Prop := (∃ o k y h, w = Cond.methodLinkNest o k y h) ∨ (∃ o k q n d h, w = Cond.fieldLinkNest o k q n d h)
noncomputable def GW : List Cond := lw_tbl.filter goodWord
theorem gw_mem {w : Cond} (h : w ∈ lw_tbl) (g : goodWord w = true) : w ∈ GW := List.mem_filter.mpr ⟨h, g⟩
theorem gw_good {w : Cond} (h : w ∈ GW) : w ∈ lw_tbl ∧ goodWord w = true := List.mem_filter.mp h
theorem lay_good (C : String) (T : u_T) (k : Nat) : goodWord (u_lay C T k) = true := by
  unfold u_lay
  split <;> rfl
theorem lays_in {a : Nat} (h : a < 11) : ∀ w ∈ u_ws (cNm a) (fT a) (cNn a), w ∈ GW := by
  intro w hw
  obtain ⟨j, hj, rfl⟩ := List.mem_map.mp hw
  exact gw_mem (lay_all h (List.mem_range.mp hj)).1 (lay_good _ _ _)
def aA (z0 : Nat) : Nat → Prop := fun q => z0 ≤ q
def tyL (κ : Nat → ClassId) : List (ClassId × FieldType) := [(κ 0, .int), (κ 1, .long), (κ 2, .boolean), (κ 3, .object RX3), (κ 4, .object RX4), (κ 5, .object RX7), (κ 6, .object RX8)]
noncomputable def lens6 : List Nat := [sLn 3, sLn 4, sLn 5, sLn 6, sLn 7, sLn 8]
noncomputable def byts6 : List (List Int32) := [sBy 3, sBy 4, sBy 5, sBy 6, sBy 7, sBy 8]
def gV (xa : Nat → Nat) (fv : Value) (a : Nat) : Value := bif Nat.beq a 1 then .ref (xa 1) else bif Nat.beq a 2 then .ref (xa 2) else bif Nat.beq a 15 then fv else .int 1
def XK (z0 : Nat) (xa : Nat → Nat) (fv : Value) (L : Nat) (xs : Nat → Int32) (D : va_G) (κ : Nat → ClassId) (U : State) (H : Heap) : Prop :=
  va_K D vwCl (tyL κ) U ∧ (∀ w ∈ lw_tbl, isNest w → va_Nw w U) ∧ (∀ k, 14 ≤ k → k < 18 → va_AO (oNm k) U) ∧
  (va_T .int (xa 0) L (fun j => .int (xs j)) (aA z0) U H ∧ va_T .int (xa 1) 7 (fun j => .int (lABOVE.getD j 0)) (aA z0) U H ∧ va_T .int (xa 2) 21 (fun j => .int (lBODIES.getD j 0)) (aA z0) U H) ∧
  vk_S 6 lens6 byts6 (fun i => xa (3 + i)) (fun i => xa (9 + i)) (aA z0) U H ∧ (∀ i, i < 6 → vk_R xStrOwn (sIx (3 + i)) (sTx (3 + i)) (xa (3 + i)) U) ∧
  (∀ a, a = 1 ∨ a = 2 ∨ a = 15 ∨ a = 20 → va_Z (gC a) (gN a) (gD a) (gV xa fv a) (aA z0) U H)
theorem XK.go {z0 : Nat} {xa : Nat → Nat} {fv : Value} {L : Nat} {xs : Nat → Int32} {D : va_G} {κ : Nat → ClassId} {u U : State} {H H1 : Heap} (hvm : u.vm.Alike U.vm) (hN : ∀ w, isNest w → va_Nw w u → va_Nw w U) (hR : ∀ own k tx a, vk_R own k tx a u → vk_R own k tx a U)
    (hq : ∀ a : Nat, a < H.size → ¬ aA z0 a → H1[a]? = H[a]?) (h : XK z0 xa fv L xs D κ u H) : XK z0 xa fv L xs D κ U H1 := by
  obtain ⟨h1, h2, h3, ⟨h4, h5, h6⟩, h7, h8, h9⟩ := h
  exact ⟨h1.moved hvm, fun w hw hn => hN w hn (h2 w hw hn), fun k a b => (h3 k a b).moved hvm, ⟨(h4.moved hvm).kept hq, (h5.moved hvm).kept hq, (h6.moved hvm).kept hq⟩, (h7.moved hvm).kept hq, fun i hi => hR _ _ _ _ (h8 i hi), fun a ha => ((h9 a ha).moved hvm).kept hq⟩
theorem XK.warm {z0 : Nat} {xa : Nat → Nat} {fv : Value} {L : Nat} {xs : Nat → Int32} {D : va_G} {κ : Nat → ClassId} {s U : State} {H : Heap} {locs : List Loc} (hW : s.WarmedH U.vm) (hS : va_S (aA z0) s.heap H locs) (hU : U.heap = H) (h : XK z0 xa fv L xs D κ s s.heap) : XK z0 xa fv L xs D κ U U.heap := by
  refine h.go hW.alike (fun w hn hw => ?_) (fun own k tx a hr => hr.warm hW) (fun a h1 h2 => by rw [hU]; exact hS.2.1 a h1 h2)
  rcases hn with ⟨o, k, y, hh, rfl⟩ | ⟨o, k, q, n, d, hh, rfl⟩
  · exact va_Nw.warmM hW hw
  · exact va_Nw.warmF hW hw
theorem XK.same {z0 : Nat} {xa : Nat → Nat} {fv : Value} {L : Nat} {xs : Nat → Int32} {D : va_G} {κ : Nat → ClassId} {u U : State} (hv : u.vm = U.vm) (hh : u.heap = U.heap) (h : XK z0 xa fv L xs D κ u u.heap) : XK z0 xa fv L xs D κ U U.heap := by
  refine h.go (by rw [hv]; exact Vm.Alike.refl _) (fun w hn hw => ?_) (fun own k tx a hr => hr.same hv.symm) (fun a h1 h2 => by rw [hh])
  rcases hn with ⟨o, k, y, hh, rfl⟩ | ⟨o, k, q, n, d, hh, rfl⟩
  · exact va_Nw.same rfl hv hw
  · exact va_Nw.same rfl hv hw
-- the cells
noncomputable def fVr (ri : Nat → Int32) (rr : Nat → Option Nat) (z0 c j : Nat) : Value := bif Nat.ble (tcd (fy c j)) 1 then .int (ri j) else va_rf ((rr j).map (fun q => z0 + q))
noncomputable def fVs (ri : Nat → Int32) (rr : Nat → Option Nat) (z0 c : Nat) : List Value := (List.range (cNn c)).map (fVr ri rr z0 c)
noncomputable def enR (ri : Nat → Int32) (rl : Nat → Int64) (rr : Nat → Option Nat) (z0 : Nat) (κ : Nat → ClassId) (k : Nat) : va_E :=
  bif Nat.blt (SH k).1 11 then .inr ((SH k).1, fVs ri rr z0 (SH k).1)
  else bif Nat.beq (SH k).1 11 then .inl (κ 0, (SH k).2, .inl ri)
  else bif Nat.beq (SH k).1 12 then .inl (κ 1, (SH k).2, .inr (.inl rl))
  else bif Nat.beq (SH k).1 13 then .inl (κ 2, (SH k).2, .inl ri)
  else .inl (κ ((SH k).1 - 11), (SH k).2, .inr (.inr (.inr (.inr (fun j => (rr j).map (fun q => z0 + q))))))
noncomputable def enE (h : Hp) (z0 : Nat) (κ : Nat → ClassId) (k : Nat) : va_E := enR (h.2.1 k) (h.2.2.1 k) (h.2.2.2 k) z0 κ k
noncomputable def wsH (h : Hp) (z0 : Nat) (κ : Nat → ClassId) : va_W := (List.range h.1).map (fun k => (z0 + k, enE h z0 κ k))
theorem blt_f {a b : Nat} (h : ¬ a < b) : Nat.blt a b = false := by rw [← Bool.not_eq_true, Nat.blt_eq]; exact h
theorem blt_t {a b : Nat} (h : a < b) : Nat.blt a b = true := by rw [Nat.blt_eq]; exact h
theorem beq_f {a b : Nat} (h : ¬ a = b) : Nat.beq a b = false := by rw [← Bool.not_eq_true, Nat.beq_eq]; exact h
theorem beq_t {a b : Nat} (h : a = b) : Nat.beq a b = true := by rw [Nat.beq_eq]; exact h
theorem beq_e {a b : Nat} (h : Nat.beq a b = true) : a = b := by rwa [Nat.beq_eq] at h
theorem ble_e {a b : Nat} (h : Nat.ble a b = true) : a ≤ b := Nat.le_of_ble_eq_true h
theorem en_obj {h : Hp} {z0 : Nat} {κ : Nat → ClassId} {k a : Nat} (e : (SH k).1 = a) (ha : a < 11) : enE h z0 κ k = .inr (a, fVs (h.2.1 k) (h.2.2.2 k) z0 a) := by
  unfold enE enR; rw [e, blt_t ha]; rfl
theorem en_I {h : Hp} {z0 : Nat} {κ : Nat → ClassId} {k : Nat} (e : (SH k).1 = 11) : enE h z0 κ k = .inl (κ 0, (SH k).2, .inl (h.2.1 k)) := by
  unfold enE enR; rw [e]; rfl
theorem en_J {h : Hp} {z0 : Nat} {κ : Nat → ClassId} {k : Nat} (e : (SH k).1 = 12) : enE h z0 κ k = .inl (κ 1, (SH k).2, .inr (.inl (h.2.2.1 k))) := by
  unfold enE enR; rw [e]; rfl
theorem en_Z {h : Hp} {z0 : Nat} {κ : Nat → ClassId} {k : Nat} (e : (SH k).1 = 13) : enE h z0 κ k = .inl (κ 2, (SH k).2, .inl (h.2.1 k)) := by
  unfold enE enR; rw [e]; rfl
theorem en_R {h : Hp} {z0 : Nat} {κ : Nat → ClassId} {k : Nat} (e : 14 ≤ (SH k).1) : enE h z0 κ k = .inl (κ ((SH k).1 - 11), (SH k).2, .inr (.inr (.inr (.inr (fun j => (h.2.2.2 k j).map (fun q => z0 + q)))))) := by
  unfold enE enR; rw [blt_f (by omega), beq_f (by omega), beq_f (by omega), beq_f (by omega)]; rfl
theorem wsH_get {h : Hp} {z0 : Nat} {κ : Nat → ClassId} {k : Nat} (hk : k < h.1) : (wsH h z0 κ)[k]? = some (z0 + k, enE h z0 κ k) := by
  unfold wsH
  rw [List.getElem?_map, List.getElem?_range hk]
  rfl
theorem wsH_of {h : Hp} {z0 : Nat} {κ : Nat → ClassId} {k : Nat} {q : Nat × va_E} (hk : (wsH h z0 κ)[k]? = some q) : k < h.1 ∧ q = (z0 + k, enE h z0 κ k) := by
  have hl : k < h.1 := by
    have h1 := (List.getElem?_eq_some_iff.mp hk).1
    unfold wsH at h1
    simpa using h1
  rw [wsH_get hl] at hk
  exact ⟨hl, (Option.some.inj hk).symm⟩
theorem wsH_D (h : Hp) (z0 : Nat) (κ : Nat → ClassId) : va_D (aA z0) (wsH h z0 κ) := by
  refine ⟨fun i j x y hi hj e => ?_, fun k q hk => ?_⟩
  · obtain ⟨-, rfl⟩ := wsH_of hi
    obtain ⟨-, rfl⟩ := wsH_of hj
    dsimp only at e
    omega
  · obtain ⟨-, rfl⟩ := wsH_of hk
    exact Nat.le_add_right _ _
/-- one cell is written -/
theorem wsH_set {h h' : Hp} {z0 : Nat} {κ : Nat → ClassId} {k : Nat} {E : va_E} (hn : h'.1 = h.1) (hk : k < h.1) (ho : ∀ q, q ≠ k → h'.2.1 q = h.2.1 q ∧ h'.2.2.1 q = h.2.2.1 q ∧ h'.2.2.2 q = h.2.2.2 q) (hE : enE h' z0 κ k = E) : (wsH h z0 κ).set k (z0 + k, E) = wsH h' z0 κ := by
  refine List.ext_getElem? fun j => ?_
  by_cases hj : j < h.1
  · rw [wsH_get (h := h') (by omega)]
    by_cases e : j = k
    · subst e
      rw [List.getElem?_set_self (by unfold wsH; simpa using hj), hE]
    · rw [List.getElem?_set_ne (Ne.symm e), wsH_get hj]
      obtain ⟨o1, o2, o3⟩ := ho j e
      unfold enE
      rw [o1, o2, o3]
  · rw [List.getElem?_eq_none (by unfold wsH; simp; omega), List.getElem?_eq_none (by unfold wsH; simp; omega)]
theorem wsH_push {h : Hp} {z0 : Nat} {κ : Nat → ClassId} {E : va_E} (hE : enE h z0 κ h.1 = E) : wsH h z0 κ ++ [(z0 + h.1, E)] = wsH (h.1 + 1, h.2) z0 κ := by
  unfold wsH
  rw [List.range_succ, List.map_append]
  subst hE
  rfl
def zr (h : Hp) : Prop := ∀ k j, h.1 ≤ k → h.2.1 k j = 0 ∧ h.2.2.1 k j = 0 ∧ h.2.2.2 k j = none
def Rel (z0 : Nat) (κ : Nat → ClassId) (D : va_G) (h : Hp) (H : Heap) : Prop := va_P D vwCl (wsH h z0 κ) H ∧ zr h
theorem u2_row {α : Type} {f : Nat → Nat → α} {k j : Nat} {v : α} {q : Nat} (h : q ≠ k) : u2 f k j v q = f q := by
  funext b; unfold u2; rw [if_neg h]
theorem u2_same {α : Type} {f : Nat → Nat → α} {k j : Nat} {v : α} (b : Nat) : u2 f k j v k b = if b = j then v else f k b := by
  unfold u2; rw [if_pos rfl]
theorem ur_row {α : Type} {f : Nat → Nat → α} {k : Nat} {g : Nat → α} {q : Nat} (h : q ≠ k) : ur f k g q = f q := by
  funext b; unfold ur; rw [if_neg h]
theorem ur_same {α : Type} {f : Nat → Nat → α} {k : Nat} {g : Nat → α} : ur f k g k = g := by
  funext b; unfold ur; rw [if_pos rfl]
theorem zr_I {h : Hp} {k j : Nat} {x : Int32} (hz : zr h) (hk : k < h.1) : zr (setI h k j x) := fun a b hab => by
  have hab : h.1 ≤ a := hab
  have h1 := hz a b hab
  refine ⟨?_, h1.2⟩
  show u2 h.2.1 k j x a b = 0
  rw [u2_row (by omega)]
  exact h1.1
theorem zr_L {h : Hp} {k j : Nat} {x : Int64} (hz : zr h) (hk : k < h.1) : zr (setL h k j x) := fun a b hab => by
  have hab : h.1 ≤ a := hab
  have h1 := hz a b hab
  refine ⟨h1.1, ?_, h1.2.2⟩
  show u2 h.2.2.1 k j x a b = 0
  rw [u2_row (by omega)]
  exact h1.2.1
theorem zr_R {h : Hp} {k j : Nat} {x : Option Nat} (hz : zr h) (hk : k < h.1) : zr (setR h k j x) := fun a b hab => by
  have hab : h.1 ≤ a := hab
  have h1 := hz a b hab
  refine ⟨h1.1, h1.2.1, ?_⟩
  show u2 h.2.2.2 k j x a b = none
  rw [u2_row (by omega)]
  exact h1.2.2
theorem isK_of {h : Hp} {k c : Nat} (e : isK h k c = true) : k < h.1 ∧ (SH k).1 = c := by
  unfold isK at e
  rw [Bool.and_eq_true] at e
  exact ⟨blt_lt e.1, beq_e e.2⟩
theorem fVs_get {ri : Nat → Int32} {rr : Nat → Option Nat} {z0 c j : Nat} (hj : j < cNn c) : (fVs ri rr z0 c)[j]? = some (fVr ri rr z0 c j) := by
  unfold fVs
  rw [List.getElem?_map, List.getElem?_range hj]
  rfl
theorem fVs_len {ri : Nat → Int32} {rr : Nat → Option Nat} {z0 c : Nat} : (fVs ri rr z0 c).length = cNn c := by
  unfold fVs; simp
theorem fVs_set {ri ri' : Nat → Int32} {rr rr' : Nat → Option Nat} {z0 c j : Nat} {v : Value} (ho : ∀ b, b ≠ j → ri' b = ri b ∧ rr' b = rr b) (hv : fVr ri' rr' z0 c j = v) : (fVs ri rr z0 c).set j v = fVs ri' rr' z0 c := by
  refine List.ext_getElem? fun b => ?_
  by_cases hb : b < cNn c
  · rw [fVs_get hb]
    by_cases e : b = j
    · subst e
      rw [List.getElem?_set_self (by rw [fVs_len]; exact hb), hv]
    · rw [List.getElem?_set_ne (Ne.symm e), fVs_get hb]
      unfold fVr
      rw [(ho b e).1, (ho b e).2]
  · rw [List.getElem?_eq_none (by rw [List.length_set, fVs_len]; omega), List.getElem?_eq_none (by rw [fVs_len]; omega)]
theorem dV_rf {z0 : Nat} {xa : Nat → Nat} {fv : Value} (o : Option Nat) : dV z0 xa fv (va_rf o) = va_rf (o.map (fun q => z0 + q)) := by
  cases o <;> rfl
theorem dV_gfv {z0 : Nat} {xa : Nat → Nat} {fv : Value} {h : Hp} {k a b t : Nat} (ht : t = tcd (fy a b)) : dV z0 xa fv (gfv h t k b) = fVr (h.2.1 k) (h.2.2.2 k) z0 a b := by
  subst ht
  unfold gfv fVr
  cases Nat.ble (tcd (fy a b)) 1
  · exact dV_rf _
  · rfl
theorem map_fst {α β : Type} {o : Option α} {h : β} {z : α × β} (e : o.map (fun r => (r, h)) = some z) : o = some z.1 ∧ z.2 = h := by
  cases o with
  | none => cases e
  | some r => cases e; exact ⟨rfl, rfl⟩
