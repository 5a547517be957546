/-! the reference: the text of a table -/
theorem eF_g {g G : Nat → Nat → Nat} (h : pkS G = pkS g) (f p : Nat) (l W : List Nat) (wt : Bool) : eF g f p l W wt = eF G f p l W wt := by rw [eF_cg h]
theorem nuS_g {g G : Nat → Nat → Nat} (h : pkS G = pkS g) (p : Nat) : nuS g p = nuS G p := by rw [nuS_cg h]
theorem kdS_le (g : Nat → Nat → Nat) (p : Nat) : kdS g p ≤ 2 := by
  unfold kdS
  repeat' split
  all_goals decide
theorem CLF_n (g : Nat → Nat → Nat) (c p : Nat) : CLF g (u2 g 178 c (kdS g p)) c := CLF.w178 g c _ (kdS_le g p)
theorem CLR_0 (g : Nat → Nat → Nat) (c k a e : Nat) (hk : k = 0) : CLR g (u2 (u2 (u2 g 178 c k) 180 c a) 181 c e) c 0 0 a e := by
  subst hk
  refine ⟨((CLF.w178 g c 0 (by decide)).w180).w181, ?_, fun h => absurd rfl h, fun _ => ⟨?_, ?_⟩⟩
  · rw [u2_ne _ (Or.inl (by decide)), u2_ne _ (Or.inl (by decide)), u2_at]
  · rw [u2_ne _ (Or.inl (by decide)), u2_at]
  · rw [u2_at]
theorem CLR_n (g : Nat → Nat → Nat) (c k m a e : Nat) (hk : k ≠ 0) (hk2 : k ≤ 2) (hm : m ≤ 99) : CLR g (u2 (u2 g 178 c k) 179 c m) c k m a e := by
  refine ⟨(CLF.w178 g c k hk2).w179 hm, ?_, fun _ => ?_, fun h => absurd h hk⟩
  · rw [u2_ne _ (Or.inl (by decide)), u2_at]
  · rw [u2_at]
theorem C_takesClause {L : Nat} {xs : Nat → Int32} (d : Nat) (g : Nat → Nat → Nat) (hl : Nat → Nat → Int64) (rt : Nat × Nat × Nat × Nat) (hF : g 166 17 ≤ 100) (ht : ∀ j, j < 100 → g 176 j ≤ 127) (hLt : HLt g) (p dg b : Nat) (l : List Nat) (w : Nat → Nat) (n op : Nat) (c : Nat) (hc : c < 60) (hb : b ≤ 500) (hlp : l.length ≤ p) (hp : p ≤ g 166 17) {Q : Po} (hq : (∀ (G : Nat → Nat → Nat) (q : Nat) (l2 : List Nat) (k m dd : Nat) (w2 : Nat → Nat) (n2 op2 : Nat), clS g p l = (true, q, l2, k, m) → CLR g G c k m (b + l.length) (b + l2.length) → l2.length ≤ q → q ≤ g 166 17 → Q (some (.int (nI 1))) (HN (PT G q dd b l2 w2 n2 op2) hl (RF rt))) ∧ (∀ (G : Nat → Nat → Nat) (q : Nat) (l2 : List Nat) (k m dd : Nat) (w2 : Nat → Nat) (n2 op2 : Nat), clS g p l = (false, q, l2, k, m) → CLF g G c → l2.length ≤ q → q ≤ g 166 17 → Q (some (.int (nI 0))) (HN (PT G q dd b l2 w2 n2 op2) hl (RF rt)))) : Ev L xs (d + 5) 153 0 [(0, .ref 166), (1, .int (nI c))] [] (HN (PT g p dg b l w n op) hl (RF rt)) Q := by
  refine Ev.run 2 (pc' := 2) (lv' := [(0, .ref 166), (1, .int (nI c))]) (st' := [.int (nI c), .ref 166]) (h' := HN (PT g p dg b l w n op) hl (RF rt)) rfl ?_
  refine Ev.call (a := 152) (as := [.ref 166, .int (nI c)]) (rest := []) (lv0 := [(0, .ref 166), (1, .int (nI c))]) (Q1 := (fun z0 h' => (∃ q, exS g (wdL (kdS g p) ++ [32]) p = (true, q) ∧ z0 = some (.int (nI 1)) ∧ h' = HN (PT (u2 g 178 c (kdS g p)) q dg b l w n op) hl (RF rt)) ∨ (∃ q, exS g (wdL (kdS g p) ++ [32]) p = (false, q) ∧ z0 = some (.int (nI 0)) ∧ h' = HN (PT (u2 g 178 c (kdS g p)) q dg b l w n op) hl (RF rt)))) rfl rfl (C_takesHead _ g _ _ hF ht hLt p dg b l w n op c (by omega) (by omega) ⟨fun q z => Or.inl ⟨q, z, rfl, rfl⟩, fun q z => Or.inr ⟨q, z, rfl, rfl⟩⟩) (fun r h' hr => ?_)
  rcases hr with ⟨q128, hex, rfl, rfl⟩ | ⟨q128, hex, rfl, rfl⟩
  · skip
    have hel := exS_le (g := g) (wdL (kdS g p) ++ [32]) p (by omega) (wd_lt _)
    rw [hex] at hel
    have hel1 : q128 ≤ g 166 17 := hel.1
    have hel2 : p ≤ q128 := hel.2
    refine Ev.run 4 (pc' := 15) (lv' := [(0, .ref 166), (1, .int (nI c))]) (st' := [.int (nI c), .ref 178]) (h' := HN (PT (u2 g 178 c (kdS g p)) q128 dg b l w n op) hl (RF rt)) rfl ?_
    refine Ev_iald rfl rfl (show c < 60 by omega) (Nat.le_of_ble_eq_true rfl) ?_
    refine Ev.topI (congrArg nI (show (PT (u2 g 178 c (kdS g p)) q128 dg b l w n op) 178 c = kdS g p from u2_at g 178 c _)) ?_
    have hkl := kdS_le g p
    refine Ev.run 1 (pc' := (if nI (kdS g p) = 0 then 19 else 25)) (lv' := [(0, .ref 166), (1, .int (nI c))]) (st' := []) (h' := HN (PT (u2 g 178 c (kdS g p)) q128 dg b l w n op) hl (RF rt)) rfl ?_
    refine Ev.ite (fun hc16 => ?_) (fun hc16 => ?_)
    · have hc16 : (kdS g p) = 0 := (nI_eqU0 (by omega)).mp hc16
      refine Ev.run 2 (pc' := 21) (lv' := [(0, .ref 166), (1, .int (nI c))]) (st' := [.int (nI c), .ref 166]) (h' := HN (PT (u2 g 178 c (kdS g p)) q128 dg b l w n op) hl (RF rt)) rfl ?_
      refine Ev.call (a := 151) (as := [.ref 166, .int (nI c)]) (rest := []) (lv0 := [(0, .ref 166), (1, .int (nI c))]) (Q1 := (fun z0 h' => (∃ (q : Nat) (l2 : List Nat) (dd : Nat) (w2 : Nat → Nat) (n2 op2 : Nat), eF g 101 q128 l [] true = (true, q, l2) ∧ l2.length ≤ q ∧ q ≤ g 166 17 ∧ z0 = some (.int (nI 1)) ∧ h' = HN (PT (u2 (u2 (u2 g 178 c (kdS g p)) 180 c (b + l.length)) 181 c (b + l2.length)) q dd b l2 w2 n2 op2) hl (RF rt)) ∨ (∃ (q : Nat) (l2 : List Nat) (dd : Nat) (w2 : Nat → Nat) (n2 op2 tv : Nat), eF g 101 q128 l [] true = (false, q, l2) ∧ l2.length ≤ q ∧ q ≤ g 166 17 ∧ z0 = some (.int (nI 0)) ∧ h' = HN (PT (u2 (u2 (u2 g 178 c (kdS g p)) 180 c (b + l.length)) 181 c tv) q dd b l2 w2 n2 op2) hl (RF rt)))) rfl rfl (C_takesE _ (u2 g 178 c (kdS g p)) _ _ hF ht q128 dg b l w n op c (by omega) (by omega) (by omega) (show _ ≤ g 166 17 by omega) ⟨fun q l2 dd w2 n2 op2 z h1 h2 => Or.inl ⟨q, l2, dd, w2, n2, op2, ((eF_g (pkS_cg (g := g) (G := (u2 g 178 c (kdS g p))) rfl rfl) _ _ _ _ _).trans z), h1, h2, rfl, rfl⟩, fun q l2 dd w2 n2 op2 tv z h1 h2 => Or.inr ⟨q, l2, dd, w2, n2, op2, tv, ((eF_g (pkS_cg (g := g) (G := (u2 g 178 c (kdS g p))) rfl rfl) _ _ _ _ _).trans z), h1, h2, rfl, rfl⟩⟩) (fun r h' hr => ?_)
      rcases hr with ⟨q129, l129, dd129, w129, n129, op129, he, hl1, hl2, rfl, rfl⟩ | ⟨q129, l129, dd129, w129, n129, op129, tv129, he, hl1, hl2, rfl, rfl⟩
      · skip
        refine Ev.ret (v := some (.int (nI 1))) rfl ?_
        exact hq.1 _ _ _ _ _ _ _ _ _ (by rw [hc16] at hex; simp only [clS, hc16, hex, he, eq_self_iff_true, if_true, if_false, Bool.false_eq_true]) (CLR_0 g c _ _ _ hc16) hl1 hl2
      · skip
        refine Ev.ret (v := some (.int (nI 0))) rfl ?_
        exact hq.2 _ _ _ 0 0 _ _ _ _ (by rw [hc16] at hex; simp only [clS, hc16, hex, he, eq_self_iff_true, if_true, if_false, Bool.false_eq_true]) ((CLF_n g c p).w180.w181) hl1 hl2
    · have hc16 : ¬ ((kdS g p) = 0) := fun z => hc16 ((nI_eqU0 (by omega)).mpr z)
      refine Ev.run 1 (pc' := 26) (lv' := [(0, .ref 166), (1, .int (nI c))]) (st' := [.ref 166]) (h' := HN (PT (u2 g 178 c (kdS g p)) q128 dg b l w n op) hl (RF rt)) rfl ?_
      refine Ev.call (a := 145) (as := [.ref 166]) (rest := []) (lv0 := [(0, .ref 166)]) (Q1 := (fun z0 h' => (∃ dd q, nuS g q128 = (true, dd, q) ∧ z0 = some (.int (nI 1)) ∧ h' = HN (PT (u2 g 178 c (kdS g p)) q dd b l w n op) hl (RF rt)) ∨ (nuS g q128 = (false, 0, q128) ∧ z0 = some (.int (nI 0)) ∧ h' = HN (PT (u2 g 178 c (kdS g p)) q128 dg b l w n op) hl (RF rt)))) rfl rfl (C_takesNumber _ (u2 g 178 c (kdS g p)) _ _ hF ht q128 dg b l w n op (by omega) ⟨fun dd q z => Or.inl ⟨dd, q, (nuS_g (pkS_cg (g := g) (G := (u2 g 178 c (kdS g p))) rfl rfl) _).trans z, rfl, rfl⟩, fun z => Or.inr ⟨(nuS_g (pkS_cg (g := g) (G := (u2 g 178 c (kdS g p))) rfl rfl) _).trans z, rfl, rfl⟩⟩) (fun r h' hr => ?_)
      rcases hr with ⟨dd130, q130, hnu, rfl, rfl⟩ | ⟨hnu, rfl, rfl⟩
      · skip
        have hnl := nuS_le hnu
        refine Ev.run 6 (pc' := 43) (lv' := [(0, .ref 166), (1, .int (nI c))]) (st' := [.int (nI dd130), .int (nI c), .ref 179]) (h' := HN (PT (u2 g 178 c (kdS g p)) q130 dd130 b l w n op) hl (RF rt)) rfl ?_
        refine Ev_iast rfl rfl (show c < 60 by omega) (Nat.le_of_ble_eq_true rfl) ?_
        refine Ev.hp (congrArg (fun z => HN z hl (RF rt)) (PT_o _ _ _ _ _ _ _ _ 179 _ _ (by decide) (by decide) (by decide))) ?_
        refine Ev.run 1 (pc' := 45) (lv' := [(0, .ref 166), (1, .int (nI c))]) (st' := [.int (nI 1)]) (h' := HN (PT (u2 (u2 g 178 c (kdS g p)) 179 c dd130) q130 dd130 b l w n op) hl (RF rt)) rfl ?_
        refine Ev.ret (v := some (.int (nI 1))) rfl ?_
        exact hq.1 _ _ _ _ _ _ _ _ _ (by simp only [clS, hex, hc16, hnu, if_true, if_false, Bool.false_eq_true]) (CLR_n g c _ _ _ _ hc16 hkl (by omega)) (by omega) (by omega)
      · skip
        refine Ev.run 2 (pc' := 33) (lv' := [(0, .ref 166), (1, .int (nI c))]) (st' := [.int (nI 0)]) (h' := HN (PT (u2 g 178 c (kdS g p)) q128 dg b l w n op) hl (RF rt)) rfl ?_
        refine Ev.ret (v := some (.int (nI 0))) rfl ?_
        exact hq.2 _ _ _ (kdS g p) 0 _ _ _ _ (by simp only [clS, hex, hc16, hnu, if_true, if_false, Bool.false_eq_true]) (CLF_n g c p) (by omega) (by omega)
  · skip
    have hel := exS_le (g := g) (wdL (kdS g p) ++ [32]) p (by omega) (wd_lt _)
    rw [hex] at hel
    have hel1 : q128 ≤ g 166 17 := hel.1
    have hel2 : p ≤ q128 := hel.2
    refine Ev.run 2 (pc' := 9) (lv' := [(0, .ref 166), (1, .int (nI c))]) (st' := [.int (nI 0)]) (h' := HN (PT (u2 g 178 c (kdS g p)) q128 dg b l w n op) hl (RF rt)) rfl ?_
    refine Ev.ret (v := some (.int (nI 0))) rfl ?_
    exact hq.2 _ _ _ (kdS g p) 0 _ _ _ _ (by simp only [clS, hex, if_true, if_false, Bool.false_eq_true]) (CLF_n g c p) (by omega) (by omega)
