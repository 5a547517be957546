section ST
variable {L : Nat} {xs : Nat → Int32} (d : Nat) (h : Hp) {Q : Po}
theorem Ev_retc {q pc y : Nat} {lv : Lv} (hr : ∀ x : Int32, retI q pc [.int x] = bif true && nar3 2 x then some (some (.int x)) else none) (hy : y < 128) (hq : Q (some (.int (nI y))) h) : Ev L xs d q pc lv [.int (nI y)] h Q := Ev.ret (v := some (.int (nI y))) (by rw [hr, nar_c hy]; rfl) hq
theorem K_cod3 (hq : Q (some (.int (nI 0))) h) : Ev L xs d 245 0 [(0, .retAddr 3)] [] h Q := by
  refine Ev.run 1 (pc' := 3) (lv' := [(0, .retAddr 3)]) (st' := [.int (nI 1)]) (h' := h) rfl ?_
  refine Ev.run 1 (pc' := (if nI 1 = 0 then 13 else 6)) (lv' := [(0, .retAddr 3)]) (st' := []) (h' := h) rfl ?_
  refine Ev.ite (fun z => absurd z (by decide)) (fun _ => ?_)
  refine Ev.run 3 (pc' := 14) (lv' := [(0, .retAddr 3)]) (st' := [.int (nI 0)]) (h' := h) rfl ?_
  exact Ev.ret (v := some (.int (nI 0))) rfl hq
theorem K_lat3 (hq : Q (some (.int (nI 1))) h) : Ev L xs d 246 0 [(0, .retAddr 3)] [] h Q := by
  refine Ev.run 1 (pc' := 3) (lv' := [(0, .retAddr 3)]) (st' := [.int (nI 1)]) (h' := h) rfl ?_
  refine Ev.run 1 (pc' := (if nI 1 = 0 then 17 else 6)) (lv' := [(0, .retAddr 3)]) (st' := []) (h' := h) rfl ?_
  refine Ev.ite (fun z => absurd z (by decide)) (fun _ => ?_)
  refine Ev.run 2 (pc' := 10) (lv' := [(0, .retAddr 3)]) (st' := [.int (nI 0)]) (h' := h) rfl ?_
  refine Ev.run 1 (pc' := (if nI 0 = 0 then 13 else 17)) (lv' := [(0, .retAddr 3)]) (st' := []) (h' := h) rfl ?_
  refine Ev.ite (fun _ => ?_) (fun z => absurd rfl z)
  refine Ev.run 2 (pc' := 18) (lv' := [(0, .retAddr 3)]) (st' := [.int (nI 1)]) (h' := h) rfl ?_
  exact Ev.ret (v := some (.int (nI 1))) rfl hq
theorem K_len3 (hq : Q (some (.int (nI 5))) h) : Ev L xs (d + 1) 241 0 [(0, .retAddr 3)] [] h Q := by
  refine Ev.run 4 (pc' := 6) (lv' := [(0, .retAddr 3)]) (st' := [.retAddr 3, .int (nI 5)]) (h' := h) rfl ?_
  refine Ev.call (a := 245) (as := [.retAddr 3]) (rest := [.int (nI 5)]) (lv0 := [(0, .retAddr 3)]) (Q1 := fun r h' => r = some (.int (nI 0)) ∧ h = h') rfl rfl (K_cod3 d h ⟨rfl, rfl⟩) (fun r h' hr => ?_)
  obtain ⟨rfl, rfl⟩ := hr
  refine Ev.run 1 (pc' := 10) (lv' := [(0, .retAddr 3)]) (st' := [.int (nI 5 >>> (nI 0 &&& 31))]) (h' := h) rfl ?_
  refine Ev.topI (show nI 5 >>> (nI 0 &&& 31) = nI 5 by decide) ?_
  exact Ev.ret (v := some (.int (nI 5))) rfl hq
theorem K_cod4 (hq : Q (some (.int (nI 0))) h) : Ev L xs d 245 0 [(0, .retAddr 4)] [] h Q := by
  refine Ev.run 1 (pc' := 3) (lv' := [(0, .retAddr 4)]) (st' := [.int (nI 1)]) (h' := h) rfl ?_
  refine Ev.run 1 (pc' := (if nI 1 = 0 then 13 else 6)) (lv' := [(0, .retAddr 4)]) (st' := []) (h' := h) rfl ?_
  refine Ev.ite (fun z => absurd z (by decide)) (fun _ => ?_)
  refine Ev.run 3 (pc' := 14) (lv' := [(0, .retAddr 4)]) (st' := [.int (nI 0)]) (h' := h) rfl ?_
  exact Ev.ret (v := some (.int (nI 0))) rfl hq
theorem K_lat4 (hq : Q (some (.int (nI 1))) h) : Ev L xs d 246 0 [(0, .retAddr 4)] [] h Q := by
  refine Ev.run 1 (pc' := 3) (lv' := [(0, .retAddr 4)]) (st' := [.int (nI 1)]) (h' := h) rfl ?_
  refine Ev.run 1 (pc' := (if nI 1 = 0 then 17 else 6)) (lv' := [(0, .retAddr 4)]) (st' := []) (h' := h) rfl ?_
  refine Ev.ite (fun z => absurd z (by decide)) (fun _ => ?_)
  refine Ev.run 2 (pc' := 10) (lv' := [(0, .retAddr 4)]) (st' := [.int (nI 0)]) (h' := h) rfl ?_
  refine Ev.run 1 (pc' := (if nI 0 = 0 then 13 else 17)) (lv' := [(0, .retAddr 4)]) (st' := []) (h' := h) rfl ?_
  refine Ev.ite (fun _ => ?_) (fun z => absurd rfl z)
  refine Ev.run 2 (pc' := 18) (lv' := [(0, .retAddr 4)]) (st' := [.int (nI 1)]) (h' := h) rfl ?_
  exact Ev.ret (v := some (.int (nI 1))) rfl hq
theorem K_len4 (hq : Q (some (.int (nI 6))) h) : Ev L xs (d + 1) 241 0 [(0, .retAddr 4)] [] h Q := by
  refine Ev.run 4 (pc' := 6) (lv' := [(0, .retAddr 4)]) (st' := [.retAddr 4, .int (nI 6)]) (h' := h) rfl ?_
  refine Ev.call (a := 245) (as := [.retAddr 4]) (rest := [.int (nI 6)]) (lv0 := [(0, .retAddr 4)]) (Q1 := fun r h' => r = some (.int (nI 0)) ∧ h = h') rfl rfl (K_cod4 d h ⟨rfl, rfl⟩) (fun r h' hr => ?_)
  obtain ⟨rfl, rfl⟩ := hr
  refine Ev.run 1 (pc' := 10) (lv' := [(0, .retAddr 4)]) (st' := [.int (nI 6 >>> (nI 0 &&& 31))]) (h' := h) rfl ?_
  refine Ev.topI (show nI 6 >>> (nI 0 &&& 31) = nI 6 by decide) ?_
  exact Ev.ret (v := some (.int (nI 6))) rfl hq
theorem K_cod5 (hq : Q (some (.int (nI 0))) h) : Ev L xs d 245 0 [(0, .retAddr 5)] [] h Q := by
  refine Ev.run 1 (pc' := 3) (lv' := [(0, .retAddr 5)]) (st' := [.int (nI 1)]) (h' := h) rfl ?_
  refine Ev.run 1 (pc' := (if nI 1 = 0 then 13 else 6)) (lv' := [(0, .retAddr 5)]) (st' := []) (h' := h) rfl ?_
  refine Ev.ite (fun z => absurd z (by decide)) (fun _ => ?_)
  refine Ev.run 3 (pc' := 14) (lv' := [(0, .retAddr 5)]) (st' := [.int (nI 0)]) (h' := h) rfl ?_
  exact Ev.ret (v := some (.int (nI 0))) rfl hq
theorem K_lat5 (hq : Q (some (.int (nI 1))) h) : Ev L xs d 246 0 [(0, .retAddr 5)] [] h Q := by
  refine Ev.run 1 (pc' := 3) (lv' := [(0, .retAddr 5)]) (st' := [.int (nI 1)]) (h' := h) rfl ?_
  refine Ev.run 1 (pc' := (if nI 1 = 0 then 17 else 6)) (lv' := [(0, .retAddr 5)]) (st' := []) (h' := h) rfl ?_
  refine Ev.ite (fun z => absurd z (by decide)) (fun _ => ?_)
  refine Ev.run 2 (pc' := 10) (lv' := [(0, .retAddr 5)]) (st' := [.int (nI 0)]) (h' := h) rfl ?_
  refine Ev.run 1 (pc' := (if nI 0 = 0 then 13 else 17)) (lv' := [(0, .retAddr 5)]) (st' := []) (h' := h) rfl ?_
  refine Ev.ite (fun _ => ?_) (fun z => absurd rfl z)
  refine Ev.run 2 (pc' := 18) (lv' := [(0, .retAddr 5)]) (st' := [.int (nI 1)]) (h' := h) rfl ?_
  exact Ev.ret (v := some (.int (nI 1))) rfl hq
theorem K_len5 (hq : Q (some (.int (nI 3))) h) : Ev L xs (d + 1) 241 0 [(0, .retAddr 5)] [] h Q := by
  refine Ev.run 4 (pc' := 6) (lv' := [(0, .retAddr 5)]) (st' := [.retAddr 5, .int (nI 3)]) (h' := h) rfl ?_
  refine Ev.call (a := 245) (as := [.retAddr 5]) (rest := [.int (nI 3)]) (lv0 := [(0, .retAddr 5)]) (Q1 := fun r h' => r = some (.int (nI 0)) ∧ h = h') rfl rfl (K_cod5 d h ⟨rfl, rfl⟩) (fun r h' hr => ?_)
  obtain ⟨rfl, rfl⟩ := hr
  refine Ev.run 1 (pc' := 10) (lv' := [(0, .retAddr 5)]) (st' := [.int (nI 3 >>> (nI 0 &&& 31))]) (h' := h) rfl ?_
  refine Ev.topI (show nI 3 >>> (nI 0 &&& 31) = nI 3 by decide) ?_
  exact Ev.ret (v := some (.int (nI 3))) rfl hq
theorem K_cod6 (hq : Q (some (.int (nI 0))) h) : Ev L xs d 245 0 [(0, .retAddr 6)] [] h Q := by
  refine Ev.run 1 (pc' := 3) (lv' := [(0, .retAddr 6)]) (st' := [.int (nI 1)]) (h' := h) rfl ?_
  refine Ev.run 1 (pc' := (if nI 1 = 0 then 13 else 6)) (lv' := [(0, .retAddr 6)]) (st' := []) (h' := h) rfl ?_
  refine Ev.ite (fun z => absurd z (by decide)) (fun _ => ?_)
  refine Ev.run 3 (pc' := 14) (lv' := [(0, .retAddr 6)]) (st' := [.int (nI 0)]) (h' := h) rfl ?_
  exact Ev.ret (v := some (.int (nI 0))) rfl hq
theorem K_lat6 (hq : Q (some (.int (nI 1))) h) : Ev L xs d 246 0 [(0, .retAddr 6)] [] h Q := by
  refine Ev.run 1 (pc' := 3) (lv' := [(0, .retAddr 6)]) (st' := [.int (nI 1)]) (h' := h) rfl ?_
  refine Ev.run 1 (pc' := (if nI 1 = 0 then 17 else 6)) (lv' := [(0, .retAddr 6)]) (st' := []) (h' := h) rfl ?_
  refine Ev.ite (fun z => absurd z (by decide)) (fun _ => ?_)
  refine Ev.run 2 (pc' := 10) (lv' := [(0, .retAddr 6)]) (st' := [.int (nI 0)]) (h' := h) rfl ?_
  refine Ev.run 1 (pc' := (if nI 0 = 0 then 13 else 17)) (lv' := [(0, .retAddr 6)]) (st' := []) (h' := h) rfl ?_
  refine Ev.ite (fun _ => ?_) (fun z => absurd rfl z)
  refine Ev.run 2 (pc' := 18) (lv' := [(0, .retAddr 6)]) (st' := [.int (nI 1)]) (h' := h) rfl ?_
  exact Ev.ret (v := some (.int (nI 1))) rfl hq
theorem K_len6 (hq : Q (some (.int (nI 10))) h) : Ev L xs (d + 1) 241 0 [(0, .retAddr 6)] [] h Q := by
  refine Ev.run 4 (pc' := 6) (lv' := [(0, .retAddr 6)]) (st' := [.retAddr 6, .int (nI 10)]) (h' := h) rfl ?_
  refine Ev.call (a := 245) (as := [.retAddr 6]) (rest := [.int (nI 10)]) (lv0 := [(0, .retAddr 6)]) (Q1 := fun r h' => r = some (.int (nI 0)) ∧ h = h') rfl rfl (K_cod6 d h ⟨rfl, rfl⟩) (fun r h' hr => ?_)
  obtain ⟨rfl, rfl⟩ := hr
  refine Ev.run 1 (pc' := 10) (lv' := [(0, .retAddr 6)]) (st' := [.int (nI 10 >>> (nI 0 &&& 31))]) (h' := h) rfl ?_
  refine Ev.topI (show nI 10 >>> (nI 0 &&& 31) = nI 10 by decide) ?_
  exact Ev.ret (v := some (.int (nI 10))) rfl hq
theorem K_cod7 (hq : Q (some (.int (nI 0))) h) : Ev L xs d 245 0 [(0, .retAddr 7)] [] h Q := by
  refine Ev.run 1 (pc' := 3) (lv' := [(0, .retAddr 7)]) (st' := [.int (nI 1)]) (h' := h) rfl ?_
  refine Ev.run 1 (pc' := (if nI 1 = 0 then 13 else 6)) (lv' := [(0, .retAddr 7)]) (st' := []) (h' := h) rfl ?_
  refine Ev.ite (fun z => absurd z (by decide)) (fun _ => ?_)
  refine Ev.run 3 (pc' := 14) (lv' := [(0, .retAddr 7)]) (st' := [.int (nI 0)]) (h' := h) rfl ?_
  exact Ev.ret (v := some (.int (nI 0))) rfl hq
theorem K_lat7 (hq : Q (some (.int (nI 1))) h) : Ev L xs d 246 0 [(0, .retAddr 7)] [] h Q := by
  refine Ev.run 1 (pc' := 3) (lv' := [(0, .retAddr 7)]) (st' := [.int (nI 1)]) (h' := h) rfl ?_
  refine Ev.run 1 (pc' := (if nI 1 = 0 then 17 else 6)) (lv' := [(0, .retAddr 7)]) (st' := []) (h' := h) rfl ?_
  refine Ev.ite (fun z => absurd z (by decide)) (fun _ => ?_)
  refine Ev.run 2 (pc' := 10) (lv' := [(0, .retAddr 7)]) (st' := [.int (nI 0)]) (h' := h) rfl ?_
  refine Ev.run 1 (pc' := (if nI 0 = 0 then 13 else 17)) (lv' := [(0, .retAddr 7)]) (st' := []) (h' := h) rfl ?_
  refine Ev.ite (fun _ => ?_) (fun z => absurd rfl z)
  refine Ev.run 2 (pc' := 18) (lv' := [(0, .retAddr 7)]) (st' := [.int (nI 1)]) (h' := h) rfl ?_
  exact Ev.ret (v := some (.int (nI 1))) rfl hq
theorem K_len7 (hq : Q (some (.int (nI 5))) h) : Ev L xs (d + 1) 241 0 [(0, .retAddr 7)] [] h Q := by
  refine Ev.run 4 (pc' := 6) (lv' := [(0, .retAddr 7)]) (st' := [.retAddr 7, .int (nI 5)]) (h' := h) rfl ?_
  refine Ev.call (a := 245) (as := [.retAddr 7]) (rest := [.int (nI 5)]) (lv0 := [(0, .retAddr 7)]) (Q1 := fun r h' => r = some (.int (nI 0)) ∧ h = h') rfl rfl (K_cod7 d h ⟨rfl, rfl⟩) (fun r h' hr => ?_)
  obtain ⟨rfl, rfl⟩ := hr
  refine Ev.run 1 (pc' := 10) (lv' := [(0, .retAddr 7)]) (st' := [.int (nI 5 >>> (nI 0 &&& 31))]) (h' := h) rfl ?_
  refine Ev.topI (show nI 5 >>> (nI 0 &&& 31) = nI 5 by decide) ?_
  exact Ev.ret (v := some (.int (nI 5))) rfl hq
theorem K_cod8 (hq : Q (some (.int (nI 0))) h) : Ev L xs d 245 0 [(0, .retAddr 8)] [] h Q := by
  refine Ev.run 1 (pc' := 3) (lv' := [(0, .retAddr 8)]) (st' := [.int (nI 1)]) (h' := h) rfl ?_
  refine Ev.run 1 (pc' := (if nI 1 = 0 then 13 else 6)) (lv' := [(0, .retAddr 8)]) (st' := []) (h' := h) rfl ?_
  refine Ev.ite (fun z => absurd z (by decide)) (fun _ => ?_)
  refine Ev.run 3 (pc' := 14) (lv' := [(0, .retAddr 8)]) (st' := [.int (nI 0)]) (h' := h) rfl ?_
  exact Ev.ret (v := some (.int (nI 0))) rfl hq
theorem K_lat8 (hq : Q (some (.int (nI 1))) h) : Ev L xs d 246 0 [(0, .retAddr 8)] [] h Q := by
  refine Ev.run 1 (pc' := 3) (lv' := [(0, .retAddr 8)]) (st' := [.int (nI 1)]) (h' := h) rfl ?_
  refine Ev.run 1 (pc' := (if nI 1 = 0 then 17 else 6)) (lv' := [(0, .retAddr 8)]) (st' := []) (h' := h) rfl ?_
  refine Ev.ite (fun z => absurd z (by decide)) (fun _ => ?_)
  refine Ev.run 2 (pc' := 10) (lv' := [(0, .retAddr 8)]) (st' := [.int (nI 0)]) (h' := h) rfl ?_
  refine Ev.run 1 (pc' := (if nI 0 = 0 then 13 else 17)) (lv' := [(0, .retAddr 8)]) (st' := []) (h' := h) rfl ?_
  refine Ev.ite (fun _ => ?_) (fun z => absurd rfl z)
  refine Ev.run 2 (pc' := 18) (lv' := [(0, .retAddr 8)]) (st' := [.int (nI 1)]) (h' := h) rfl ?_
  exact Ev.ret (v := some (.int (nI 1))) rfl hq
theorem K_len8 (hq : Q (some (.int (nI 5))) h) : Ev L xs (d + 1) 241 0 [(0, .retAddr 8)] [] h Q := by
  refine Ev.run 4 (pc' := 6) (lv' := [(0, .retAddr 8)]) (st' := [.retAddr 8, .int (nI 5)]) (h' := h) rfl ?_
  refine Ev.call (a := 245) (as := [.retAddr 8]) (rest := [.int (nI 5)]) (lv0 := [(0, .retAddr 8)]) (Q1 := fun r h' => r = some (.int (nI 0)) ∧ h = h') rfl rfl (K_cod8 d h ⟨rfl, rfl⟩) (fun r h' hr => ?_)
  obtain ⟨rfl, rfl⟩ := hr
  refine Ev.run 1 (pc' := 10) (lv' := [(0, .retAddr 8)]) (st' := [.int (nI 5 >>> (nI 0 &&& 31))]) (h' := h) rfl ?_
  refine Ev.topI (show nI 5 >>> (nI 0 &&& 31) = nI 5 by decide) ?_
  exact Ev.ret (v := some (.int (nI 5))) rfl hq
theorem K_cka0 (hq : Q (some (.int (nI 0))) h) : Ev L xs d 252 0 [(0, .int (nI 0)), (1, .int (nI 5)), (2, .retAddr 15)] [] h Q := by
  refine Ev.run 2 (pc' := (if nI 0 < 0 then 9 else 4)) (lv' := [(0, .int (nI 0)), (1, .int (nI 5)), (2, .retAddr 15)]) (st' := []) (h' := h) rfl ?_
  refine Ev.ite (fun z => absurd z (by decide)) (fun _ => ?_)
  refine Ev.run 3 (pc' := (if nI 0 < nI 5 then 16 else 9)) (lv' := [(0, .int (nI 0)), (1, .int (nI 5)), (2, .retAddr 15)]) (st' := []) (h' := h) rfl ?_
  refine Ev.ite (fun _ => ?_) (fun z => absurd (by decide) z)
  refine Ev.run 1 (pc' := 17) (lv' := [(0, .int (nI 0)), (1, .int (nI 5)), (2, .retAddr 15)]) (st' := [.int (nI 0)]) (h' := h) rfl ?_
  exact Ev.ret (v := some (.int (nI 0))) rfl hq
theorem K_ckb0 (hq : Q none h) : Ev L xs (d + 1) 247 0 [(0, .int (nI 0)), (1, .int (nI 5))] [] h Q := by
  refine Ev.run 3 (pc' := 5) (lv' := [(0, .int (nI 0)), (1, .int (nI 5))]) (st' := [.retAddr 15, .int (nI 5), .int (nI 0)]) (h' := h) rfl ?_
  refine Ev.call (a := 252) (as := [.int (nI 0), .int (nI 5), .retAddr 15]) (rest := []) (lv0 := [(0, .int (nI 0)), (1, .int (nI 5)), (2, .retAddr 15)]) (Q1 := fun r h' => r = some (.int (nI 0)) ∧ h = h') rfl rfl (K_cka0 d h ⟨rfl, rfl⟩) (fun r h' hr => ?_)
  obtain ⟨rfl, rfl⟩ := hr
  refine Ev.run 1 (pc' := 9) (lv' := [(0, .int (nI 0)), (1, .int (nI 5))]) (st' := []) (h' := h) rfl ?_
  exact Ev.ret (v := none) rfl hq
theorem K_cka1 (hq : Q (some (.int (nI 1))) h) : Ev L xs d 252 0 [(0, .int (nI 1)), (1, .int (nI 5)), (2, .retAddr 15)] [] h Q := by
  refine Ev.run 2 (pc' := (if nI 1 < 0 then 9 else 4)) (lv' := [(0, .int (nI 1)), (1, .int (nI 5)), (2, .retAddr 15)]) (st' := []) (h' := h) rfl ?_
  refine Ev.ite (fun z => absurd z (by decide)) (fun _ => ?_)
  refine Ev.run 3 (pc' := (if nI 1 < nI 5 then 16 else 9)) (lv' := [(0, .int (nI 1)), (1, .int (nI 5)), (2, .retAddr 15)]) (st' := []) (h' := h) rfl ?_
  refine Ev.ite (fun _ => ?_) (fun z => absurd (by decide) z)
  refine Ev.run 1 (pc' := 17) (lv' := [(0, .int (nI 1)), (1, .int (nI 5)), (2, .retAddr 15)]) (st' := [.int (nI 1)]) (h' := h) rfl ?_
  exact Ev.ret (v := some (.int (nI 1))) rfl hq
theorem K_ckb1 (hq : Q none h) : Ev L xs (d + 1) 247 0 [(0, .int (nI 1)), (1, .int (nI 5))] [] h Q := by
  refine Ev.run 3 (pc' := 5) (lv' := [(0, .int (nI 1)), (1, .int (nI 5))]) (st' := [.retAddr 15, .int (nI 5), .int (nI 1)]) (h' := h) rfl ?_
  refine Ev.call (a := 252) (as := [.int (nI 1), .int (nI 5), .retAddr 15]) (rest := []) (lv0 := [(0, .int (nI 1)), (1, .int (nI 5)), (2, .retAddr 15)]) (Q1 := fun r h' => r = some (.int (nI 1)) ∧ h = h') rfl rfl (K_cka1 d h ⟨rfl, rfl⟩) (fun r h' hr => ?_)
  obtain ⟨rfl, rfl⟩ := hr
  refine Ev.run 1 (pc' := 9) (lv' := [(0, .int (nI 1)), (1, .int (nI 5))]) (st' := []) (h' := h) rfl ?_
  exact Ev.ret (v := none) rfl hq
theorem K_cka2 (hq : Q (some (.int (nI 2))) h) : Ev L xs d 252 0 [(0, .int (nI 2)), (1, .int (nI 5)), (2, .retAddr 15)] [] h Q := by
  refine Ev.run 2 (pc' := (if nI 2 < 0 then 9 else 4)) (lv' := [(0, .int (nI 2)), (1, .int (nI 5)), (2, .retAddr 15)]) (st' := []) (h' := h) rfl ?_
  refine Ev.ite (fun z => absurd z (by decide)) (fun _ => ?_)
  refine Ev.run 3 (pc' := (if nI 2 < nI 5 then 16 else 9)) (lv' := [(0, .int (nI 2)), (1, .int (nI 5)), (2, .retAddr 15)]) (st' := []) (h' := h) rfl ?_
  refine Ev.ite (fun _ => ?_) (fun z => absurd (by decide) z)
  refine Ev.run 1 (pc' := 17) (lv' := [(0, .int (nI 2)), (1, .int (nI 5)), (2, .retAddr 15)]) (st' := [.int (nI 2)]) (h' := h) rfl ?_
  exact Ev.ret (v := some (.int (nI 2))) rfl hq
theorem K_ckb2 (hq : Q none h) : Ev L xs (d + 1) 247 0 [(0, .int (nI 2)), (1, .int (nI 5))] [] h Q := by
  refine Ev.run 3 (pc' := 5) (lv' := [(0, .int (nI 2)), (1, .int (nI 5))]) (st' := [.retAddr 15, .int (nI 5), .int (nI 2)]) (h' := h) rfl ?_
  refine Ev.call (a := 252) (as := [.int (nI 2), .int (nI 5), .retAddr 15]) (rest := []) (lv0 := [(0, .int (nI 2)), (1, .int (nI 5)), (2, .retAddr 15)]) (Q1 := fun r h' => r = some (.int (nI 2)) ∧ h = h') rfl rfl (K_cka2 d h ⟨rfl, rfl⟩) (fun r h' hr => ?_)
  obtain ⟨rfl, rfl⟩ := hr
  refine Ev.run 1 (pc' := 9) (lv' := [(0, .int (nI 2)), (1, .int (nI 5))]) (st' := []) (h' := h) rfl ?_
  exact Ev.ret (v := none) rfl hq
theorem K_cka3 (hq : Q (some (.int (nI 3))) h) : Ev L xs d 252 0 [(0, .int (nI 3)), (1, .int (nI 5)), (2, .retAddr 15)] [] h Q := by
  refine Ev.run 2 (pc' := (if nI 3 < 0 then 9 else 4)) (lv' := [(0, .int (nI 3)), (1, .int (nI 5)), (2, .retAddr 15)]) (st' := []) (h' := h) rfl ?_
  refine Ev.ite (fun z => absurd z (by decide)) (fun _ => ?_)
  refine Ev.run 3 (pc' := (if nI 3 < nI 5 then 16 else 9)) (lv' := [(0, .int (nI 3)), (1, .int (nI 5)), (2, .retAddr 15)]) (st' := []) (h' := h) rfl ?_
  refine Ev.ite (fun _ => ?_) (fun z => absurd (by decide) z)
  refine Ev.run 1 (pc' := 17) (lv' := [(0, .int (nI 3)), (1, .int (nI 5)), (2, .retAddr 15)]) (st' := [.int (nI 3)]) (h' := h) rfl ?_
  exact Ev.ret (v := some (.int (nI 3))) rfl hq
theorem K_ckb3 (hq : Q none h) : Ev L xs (d + 1) 247 0 [(0, .int (nI 3)), (1, .int (nI 5))] [] h Q := by
  refine Ev.run 3 (pc' := 5) (lv' := [(0, .int (nI 3)), (1, .int (nI 5))]) (st' := [.retAddr 15, .int (nI 5), .int (nI 3)]) (h' := h) rfl ?_
  refine Ev.call (a := 252) (as := [.int (nI 3), .int (nI 5), .retAddr 15]) (rest := []) (lv0 := [(0, .int (nI 3)), (1, .int (nI 5)), (2, .retAddr 15)]) (Q1 := fun r h' => r = some (.int (nI 3)) ∧ h = h') rfl rfl (K_cka3 d h ⟨rfl, rfl⟩) (fun r h' hr => ?_)
  obtain ⟨rfl, rfl⟩ := hr
  refine Ev.run 1 (pc' := 9) (lv' := [(0, .int (nI 3)), (1, .int (nI 5))]) (st' := []) (h' := h) rfl ?_
  exact Ev.ret (v := none) rfl hq
theorem K_cka4 (hq : Q (some (.int (nI 4))) h) : Ev L xs d 252 0 [(0, .int (nI 4)), (1, .int (nI 5)), (2, .retAddr 15)] [] h Q := by
  refine Ev.run 2 (pc' := (if nI 4 < 0 then 9 else 4)) (lv' := [(0, .int (nI 4)), (1, .int (nI 5)), (2, .retAddr 15)]) (st' := []) (h' := h) rfl ?_
  refine Ev.ite (fun z => absurd z (by decide)) (fun _ => ?_)
  refine Ev.run 3 (pc' := (if nI 4 < nI 5 then 16 else 9)) (lv' := [(0, .int (nI 4)), (1, .int (nI 5)), (2, .retAddr 15)]) (st' := []) (h' := h) rfl ?_
  refine Ev.ite (fun _ => ?_) (fun z => absurd (by decide) z)
  refine Ev.run 1 (pc' := 17) (lv' := [(0, .int (nI 4)), (1, .int (nI 5)), (2, .retAddr 15)]) (st' := [.int (nI 4)]) (h' := h) rfl ?_
  exact Ev.ret (v := some (.int (nI 4))) rfl hq
theorem K_ckb4 (hq : Q none h) : Ev L xs (d + 1) 247 0 [(0, .int (nI 4)), (1, .int (nI 5))] [] h Q := by
  refine Ev.run 3 (pc' := 5) (lv' := [(0, .int (nI 4)), (1, .int (nI 5))]) (st' := [.retAddr 15, .int (nI 5), .int (nI 4)]) (h' := h) rfl ?_
  refine Ev.call (a := 252) (as := [.int (nI 4), .int (nI 5), .retAddr 15]) (rest := []) (lv0 := [(0, .int (nI 4)), (1, .int (nI 5)), (2, .retAddr 15)]) (Q1 := fun r h' => r = some (.int (nI 4)) ∧ h = h') rfl rfl (K_cka4 d h ⟨rfl, rfl⟩) (fun r h' hr => ?_)
  obtain ⟨rfl, rfl⟩ := hr
  refine Ev.run 1 (pc' := 9) (lv' := [(0, .int (nI 4)), (1, .int (nI 5))]) (st' := []) (h' := h) rfl ?_
  exact Ev.ret (v := none) rfl hq
theorem K_chc3_0 (hq : Q (some (.int (nI 107))) h) : Ev L xs (d + 2) 248 0 [(0, .retAddr 9), (1, .int (nI 0))] [] h Q := by
  refine Ev.run 3 (pc' := 3) (lv' := [(0, .retAddr 9), (1, .int (nI 0))]) (st' := [.int (nI 5), .int (nI 0)]) (h' := h) rfl ?_
  refine Ev.call (a := 247) (as := [.int (nI 0), .int (nI 5)]) (rest := []) (lv0 := [(0, .int (nI 0)), (1, .int (nI 5))]) (Q1 := fun r h' => r = none ∧ h = h') rfl rfl (K_ckb0 d h ⟨rfl, rfl⟩) (fun r h' hr => ?_)
  obtain ⟨rfl, rfl⟩ := hr
  refine Ev.run 3 (pc' := 9) (lv' := [(0, .retAddr 9), (1, .int (nI 0))]) (st' := [.int (nI 107)]) (h' := h) rfl ?_
  refine Ev.run 2 (pc' := 13) (lv' := [(0, .retAddr 9), (1, .int (nI 0))]) (st' := [.int (nI 107 &&& nI 255)]) (h' := h) rfl ?_
  refine Ev.topI (show nI 107 &&& nI 255 = nI 107 by decide) ?_
  refine Ev.run 1 (pc' := 14) (lv' := [(0, .retAddr 9), (1, .int (nI 0))]) (st' := [.int (((nI 107).toUInt32 % 65536).toInt32)]) (h' := h) rfl ?_
  refine Ev.topI (nI_i2c (by decide)) ?_
  exact Ev_retc _ _ (fun _ => rfl) (by decide) hq
theorem K_chr3_0 (hq : Q (some (.int (nI 107))) h) : Ev L xs (d + 3) 242 0 [(0, .retAddr 3), (1, .int (nI 0))] [] h Q := by
  refine Ev.run 1 (pc' := 1) (lv' := [(0, .retAddr 3), (1, .int (nI 0))]) (st' := [.retAddr 3]) (h' := h) rfl ?_
  refine Ev.call (a := 246) (as := [.retAddr 3]) (rest := []) (lv0 := [(0, .retAddr 3)]) (Q1 := fun r h' => r = some (.int (nI 1)) ∧ h = h') rfl rfl (K_lat3 (d + 2) h ⟨rfl, rfl⟩) (fun r h' hr => ?_)
  obtain ⟨rfl, rfl⟩ := hr
  refine Ev.run 1 (pc' := (if nI 1 = 0 then 16 else 7)) (lv' := [(0, .retAddr 3), (1, .int (nI 0))]) (st' := []) (h' := h) rfl ?_
  refine Ev.ite (fun z => absurd z (by decide)) (fun _ => ?_)
  refine Ev.run 3 (pc' := 12) (lv' := [(0, .retAddr 3), (1, .int (nI 0))]) (st' := [.int (nI 0), .retAddr 9]) (h' := h) rfl ?_
  refine Ev.call (a := 248) (as := [.retAddr 9, .int (nI 0)]) (rest := []) (lv0 := [(0, .retAddr 9), (1, .int (nI 0))]) (Q1 := fun r h' => r = some (.int (nI 107)) ∧ h = h') rfl rfl (K_chc3_0 d h ⟨rfl, rfl⟩) (fun r h' hr => ?_)
  obtain ⟨rfl, rfl⟩ := hr
  exact Ev_retc _ _ (fun _ => rfl) (by decide) hq
theorem K_chc3_1 (hq : Q (some (.int (nI 110))) h) : Ev L xs (d + 2) 248 0 [(0, .retAddr 9), (1, .int (nI 1))] [] h Q := by
  refine Ev.run 3 (pc' := 3) (lv' := [(0, .retAddr 9), (1, .int (nI 1))]) (st' := [.int (nI 5), .int (nI 1)]) (h' := h) rfl ?_
  refine Ev.call (a := 247) (as := [.int (nI 1), .int (nI 5)]) (rest := []) (lv0 := [(0, .int (nI 1)), (1, .int (nI 5))]) (Q1 := fun r h' => r = none ∧ h = h') rfl rfl (K_ckb1 d h ⟨rfl, rfl⟩) (fun r h' hr => ?_)
  obtain ⟨rfl, rfl⟩ := hr
  refine Ev.run 3 (pc' := 9) (lv' := [(0, .retAddr 9), (1, .int (nI 1))]) (st' := [.int (nI 110)]) (h' := h) rfl ?_
  refine Ev.run 2 (pc' := 13) (lv' := [(0, .retAddr 9), (1, .int (nI 1))]) (st' := [.int (nI 110 &&& nI 255)]) (h' := h) rfl ?_
  refine Ev.topI (show nI 110 &&& nI 255 = nI 110 by decide) ?_
  refine Ev.run 1 (pc' := 14) (lv' := [(0, .retAddr 9), (1, .int (nI 1))]) (st' := [.int (((nI 110).toUInt32 % 65536).toInt32)]) (h' := h) rfl ?_
  refine Ev.topI (nI_i2c (by decide)) ?_
  exact Ev_retc _ _ (fun _ => rfl) (by decide) hq
theorem K_chr3_1 (hq : Q (some (.int (nI 110))) h) : Ev L xs (d + 3) 242 0 [(0, .retAddr 3), (1, .int (nI 1))] [] h Q := by
  refine Ev.run 1 (pc' := 1) (lv' := [(0, .retAddr 3), (1, .int (nI 1))]) (st' := [.retAddr 3]) (h' := h) rfl ?_
  refine Ev.call (a := 246) (as := [.retAddr 3]) (rest := []) (lv0 := [(0, .retAddr 3)]) (Q1 := fun r h' => r = some (.int (nI 1)) ∧ h = h') rfl rfl (K_lat3 (d + 2) h ⟨rfl, rfl⟩) (fun r h' hr => ?_)
  obtain ⟨rfl, rfl⟩ := hr
  refine Ev.run 1 (pc' := (if nI 1 = 0 then 16 else 7)) (lv' := [(0, .retAddr 3), (1, .int (nI 1))]) (st' := []) (h' := h) rfl ?_
  refine Ev.ite (fun z => absurd z (by decide)) (fun _ => ?_)
  refine Ev.run 3 (pc' := 12) (lv' := [(0, .retAddr 3), (1, .int (nI 1))]) (st' := [.int (nI 1), .retAddr 9]) (h' := h) rfl ?_
  refine Ev.call (a := 248) (as := [.retAddr 9, .int (nI 1)]) (rest := []) (lv0 := [(0, .retAddr 9), (1, .int (nI 1))]) (Q1 := fun r h' => r = some (.int (nI 110)) ∧ h = h') rfl rfl (K_chc3_1 d h ⟨rfl, rfl⟩) (fun r h' hr => ?_)
  obtain ⟨rfl, rfl⟩ := hr
  exact Ev_retc _ _ (fun _ => rfl) (by decide) hq
theorem K_chc3_2 (hq : Q (some (.int (nI 111))) h) : Ev L xs (d + 2) 248 0 [(0, .retAddr 9), (1, .int (nI 2))] [] h Q := by
  refine Ev.run 3 (pc' := 3) (lv' := [(0, .retAddr 9), (1, .int (nI 2))]) (st' := [.int (nI 5), .int (nI 2)]) (h' := h) rfl ?_
  refine Ev.call (a := 247) (as := [.int (nI 2), .int (nI 5)]) (rest := []) (lv0 := [(0, .int (nI 2)), (1, .int (nI 5))]) (Q1 := fun r h' => r = none ∧ h = h') rfl rfl (K_ckb2 d h ⟨rfl, rfl⟩) (fun r h' hr => ?_)
  obtain ⟨rfl, rfl⟩ := hr
  refine Ev.run 3 (pc' := 9) (lv' := [(0, .retAddr 9), (1, .int (nI 2))]) (st' := [.int (nI 111)]) (h' := h) rfl ?_
  refine Ev.run 2 (pc' := 13) (lv' := [(0, .retAddr 9), (1, .int (nI 2))]) (st' := [.int (nI 111 &&& nI 255)]) (h' := h) rfl ?_
  refine Ev.topI (show nI 111 &&& nI 255 = nI 111 by decide) ?_
  refine Ev.run 1 (pc' := 14) (lv' := [(0, .retAddr 9), (1, .int (nI 2))]) (st' := [.int (((nI 111).toUInt32 % 65536).toInt32)]) (h' := h) rfl ?_
  refine Ev.topI (nI_i2c (by decide)) ?_
  exact Ev_retc _ _ (fun _ => rfl) (by decide) hq
theorem K_chr3_2 (hq : Q (some (.int (nI 111))) h) : Ev L xs (d + 3) 242 0 [(0, .retAddr 3), (1, .int (nI 2))] [] h Q := by
  refine Ev.run 1 (pc' := 1) (lv' := [(0, .retAddr 3), (1, .int (nI 2))]) (st' := [.retAddr 3]) (h' := h) rfl ?_
  refine Ev.call (a := 246) (as := [.retAddr 3]) (rest := []) (lv0 := [(0, .retAddr 3)]) (Q1 := fun r h' => r = some (.int (nI 1)) ∧ h = h') rfl rfl (K_lat3 (d + 2) h ⟨rfl, rfl⟩) (fun r h' hr => ?_)
  obtain ⟨rfl, rfl⟩ := hr
  refine Ev.run 1 (pc' := (if nI 1 = 0 then 16 else 7)) (lv' := [(0, .retAddr 3), (1, .int (nI 2))]) (st' := []) (h' := h) rfl ?_
  refine Ev.ite (fun z => absurd z (by decide)) (fun _ => ?_)
  refine Ev.run 3 (pc' := 12) (lv' := [(0, .retAddr 3), (1, .int (nI 2))]) (st' := [.int (nI 2), .retAddr 9]) (h' := h) rfl ?_
  refine Ev.call (a := 248) (as := [.retAddr 9, .int (nI 2)]) (rest := []) (lv0 := [(0, .retAddr 9), (1, .int (nI 2))]) (Q1 := fun r h' => r = some (.int (nI 111)) ∧ h = h') rfl rfl (K_chc3_2 d h ⟨rfl, rfl⟩) (fun r h' hr => ?_)
  obtain ⟨rfl, rfl⟩ := hr
  exact Ev_retc _ _ (fun _ => rfl) (by decide) hq
theorem K_chc3_3 (hq : Q (some (.int (nI 119))) h) : Ev L xs (d + 2) 248 0 [(0, .retAddr 9), (1, .int (nI 3))] [] h Q := by
  refine Ev.run 3 (pc' := 3) (lv' := [(0, .retAddr 9), (1, .int (nI 3))]) (st' := [.int (nI 5), .int (nI 3)]) (h' := h) rfl ?_
  refine Ev.call (a := 247) (as := [.int (nI 3), .int (nI 5)]) (rest := []) (lv0 := [(0, .int (nI 3)), (1, .int (nI 5))]) (Q1 := fun r h' => r = none ∧ h = h') rfl rfl (K_ckb3 d h ⟨rfl, rfl⟩) (fun r h' hr => ?_)
  obtain ⟨rfl, rfl⟩ := hr
  refine Ev.run 3 (pc' := 9) (lv' := [(0, .retAddr 9), (1, .int (nI 3))]) (st' := [.int (nI 119)]) (h' := h) rfl ?_
  refine Ev.run 2 (pc' := 13) (lv' := [(0, .retAddr 9), (1, .int (nI 3))]) (st' := [.int (nI 119 &&& nI 255)]) (h' := h) rfl ?_
  refine Ev.topI (show nI 119 &&& nI 255 = nI 119 by decide) ?_
  refine Ev.run 1 (pc' := 14) (lv' := [(0, .retAddr 9), (1, .int (nI 3))]) (st' := [.int (((nI 119).toUInt32 % 65536).toInt32)]) (h' := h) rfl ?_
  refine Ev.topI (nI_i2c (by decide)) ?_
  exact Ev_retc _ _ (fun _ => rfl) (by decide) hq
theorem K_chr3_3 (hq : Q (some (.int (nI 119))) h) : Ev L xs (d + 3) 242 0 [(0, .retAddr 3), (1, .int (nI 3))] [] h Q := by
  refine Ev.run 1 (pc' := 1) (lv' := [(0, .retAddr 3), (1, .int (nI 3))]) (st' := [.retAddr 3]) (h' := h) rfl ?_
  refine Ev.call (a := 246) (as := [.retAddr 3]) (rest := []) (lv0 := [(0, .retAddr 3)]) (Q1 := fun r h' => r = some (.int (nI 1)) ∧ h = h') rfl rfl (K_lat3 (d + 2) h ⟨rfl, rfl⟩) (fun r h' hr => ?_)
  obtain ⟨rfl, rfl⟩ := hr
  refine Ev.run 1 (pc' := (if nI 1 = 0 then 16 else 7)) (lv' := [(0, .retAddr 3), (1, .int (nI 3))]) (st' := []) (h' := h) rfl ?_
  refine Ev.ite (fun z => absurd z (by decide)) (fun _ => ?_)
  refine Ev.run 3 (pc' := 12) (lv' := [(0, .retAddr 3), (1, .int (nI 3))]) (st' := [.int (nI 3), .retAddr 9]) (h' := h) rfl ?_
  refine Ev.call (a := 248) (as := [.retAddr 9, .int (nI 3)]) (rest := []) (lv0 := [(0, .retAddr 9), (1, .int (nI 3))]) (Q1 := fun r h' => r = some (.int (nI 119)) ∧ h = h') rfl rfl (K_chc3_3 d h ⟨rfl, rfl⟩) (fun r h' hr => ?_)
  obtain ⟨rfl, rfl⟩ := hr
  exact Ev_retc _ _ (fun _ => rfl) (by decide) hq
theorem K_chc3_4 (hq : Q (some (.int (nI 32))) h) : Ev L xs (d + 2) 248 0 [(0, .retAddr 9), (1, .int (nI 4))] [] h Q := by
  refine Ev.run 3 (pc' := 3) (lv' := [(0, .retAddr 9), (1, .int (nI 4))]) (st' := [.int (nI 5), .int (nI 4)]) (h' := h) rfl ?_
  refine Ev.call (a := 247) (as := [.int (nI 4), .int (nI 5)]) (rest := []) (lv0 := [(0, .int (nI 4)), (1, .int (nI 5))]) (Q1 := fun r h' => r = none ∧ h = h') rfl rfl (K_ckb4 d h ⟨rfl, rfl⟩) (fun r h' hr => ?_)
  obtain ⟨rfl, rfl⟩ := hr
  refine Ev.run 3 (pc' := 9) (lv' := [(0, .retAddr 9), (1, .int (nI 4))]) (st' := [.int (nI 32)]) (h' := h) rfl ?_
  refine Ev.run 2 (pc' := 13) (lv' := [(0, .retAddr 9), (1, .int (nI 4))]) (st' := [.int (nI 32 &&& nI 255)]) (h' := h) rfl ?_
  refine Ev.topI (show nI 32 &&& nI 255 = nI 32 by decide) ?_
  refine Ev.run 1 (pc' := 14) (lv' := [(0, .retAddr 9), (1, .int (nI 4))]) (st' := [.int (((nI 32).toUInt32 % 65536).toInt32)]) (h' := h) rfl ?_
  refine Ev.topI (nI_i2c (by decide)) ?_
  exact Ev_retc _ _ (fun _ => rfl) (by decide) hq
theorem K_chr3_4 (hq : Q (some (.int (nI 32))) h) : Ev L xs (d + 3) 242 0 [(0, .retAddr 3), (1, .int (nI 4))] [] h Q := by
  refine Ev.run 1 (pc' := 1) (lv' := [(0, .retAddr 3), (1, .int (nI 4))]) (st' := [.retAddr 3]) (h' := h) rfl ?_
  refine Ev.call (a := 246) (as := [.retAddr 3]) (rest := []) (lv0 := [(0, .retAddr 3)]) (Q1 := fun r h' => r = some (.int (nI 1)) ∧ h = h') rfl rfl (K_lat3 (d + 2) h ⟨rfl, rfl⟩) (fun r h' hr => ?_)
  obtain ⟨rfl, rfl⟩ := hr
  refine Ev.run 1 (pc' := (if nI 1 = 0 then 16 else 7)) (lv' := [(0, .retAddr 3), (1, .int (nI 4))]) (st' := []) (h' := h) rfl ?_
  refine Ev.ite (fun z => absurd z (by decide)) (fun _ => ?_)
  refine Ev.run 3 (pc' := 12) (lv' := [(0, .retAddr 3), (1, .int (nI 4))]) (st' := [.int (nI 4), .retAddr 9]) (h' := h) rfl ?_
  refine Ev.call (a := 248) (as := [.retAddr 9, .int (nI 4)]) (rest := []) (lv0 := [(0, .retAddr 9), (1, .int (nI 4))]) (Q1 := fun r h' => r = some (.int (nI 32)) ∧ h = h') rfl rfl (K_chc3_4 d h ⟨rfl, rfl⟩) (fun r h' hr => ?_)
  obtain ⟨rfl, rfl⟩ := hr
  exact Ev_retc _ _ (fun _ => rfl) (by decide) hq
theorem K_chc7_0 (hq : Q (some (.int (nI 101))) h) : Ev L xs (d + 2) 248 0 [(0, .retAddr 13), (1, .int (nI 0))] [] h Q := by
  refine Ev.run 3 (pc' := 3) (lv' := [(0, .retAddr 13), (1, .int (nI 0))]) (st' := [.int (nI 5), .int (nI 0)]) (h' := h) rfl ?_
  refine Ev.call (a := 247) (as := [.int (nI 0), .int (nI 5)]) (rest := []) (lv0 := [(0, .int (nI 0)), (1, .int (nI 5))]) (Q1 := fun r h' => r = none ∧ h = h') rfl rfl (K_ckb0 d h ⟨rfl, rfl⟩) (fun r h' hr => ?_)
  obtain ⟨rfl, rfl⟩ := hr
  refine Ev.run 3 (pc' := 9) (lv' := [(0, .retAddr 13), (1, .int (nI 0))]) (st' := [.int (nI 101)]) (h' := h) rfl ?_
  refine Ev.run 2 (pc' := 13) (lv' := [(0, .retAddr 13), (1, .int (nI 0))]) (st' := [.int (nI 101 &&& nI 255)]) (h' := h) rfl ?_
  refine Ev.topI (show nI 101 &&& nI 255 = nI 101 by decide) ?_
  refine Ev.run 1 (pc' := 14) (lv' := [(0, .retAddr 13), (1, .int (nI 0))]) (st' := [.int (((nI 101).toUInt32 % 65536).toInt32)]) (h' := h) rfl ?_
  refine Ev.topI (nI_i2c (by decide)) ?_
  exact Ev_retc _ _ (fun _ => rfl) (by decide) hq
theorem K_chr7_0 (hq : Q (some (.int (nI 101))) h) : Ev L xs (d + 3) 242 0 [(0, .retAddr 7), (1, .int (nI 0))] [] h Q := by
  refine Ev.run 1 (pc' := 1) (lv' := [(0, .retAddr 7), (1, .int (nI 0))]) (st' := [.retAddr 7]) (h' := h) rfl ?_
  refine Ev.call (a := 246) (as := [.retAddr 7]) (rest := []) (lv0 := [(0, .retAddr 7)]) (Q1 := fun r h' => r = some (.int (nI 1)) ∧ h = h') rfl rfl (K_lat7 (d + 2) h ⟨rfl, rfl⟩) (fun r h' hr => ?_)
  obtain ⟨rfl, rfl⟩ := hr
  refine Ev.run 1 (pc' := (if nI 1 = 0 then 16 else 7)) (lv' := [(0, .retAddr 7), (1, .int (nI 0))]) (st' := []) (h' := h) rfl ?_
  refine Ev.ite (fun z => absurd z (by decide)) (fun _ => ?_)
  refine Ev.run 3 (pc' := 12) (lv' := [(0, .retAddr 7), (1, .int (nI 0))]) (st' := [.int (nI 0), .retAddr 13]) (h' := h) rfl ?_
  refine Ev.call (a := 248) (as := [.retAddr 13, .int (nI 0)]) (rest := []) (lv0 := [(0, .retAddr 13), (1, .int (nI 0))]) (Q1 := fun r h' => r = some (.int (nI 101)) ∧ h = h') rfl rfl (K_chc7_0 d h ⟨rfl, rfl⟩) (fun r h' hr => ?_)
  obtain ⟨rfl, rfl⟩ := hr
  exact Ev_retc _ _ (fun _ => rfl) (by decide) hq
theorem K_chc7_1 (hq : Q (some (.int (nI 97))) h) : Ev L xs (d + 2) 248 0 [(0, .retAddr 13), (1, .int (nI 1))] [] h Q := by
  refine Ev.run 3 (pc' := 3) (lv' := [(0, .retAddr 13), (1, .int (nI 1))]) (st' := [.int (nI 5), .int (nI 1)]) (h' := h) rfl ?_
  refine Ev.call (a := 247) (as := [.int (nI 1), .int (nI 5)]) (rest := []) (lv0 := [(0, .int (nI 1)), (1, .int (nI 5))]) (Q1 := fun r h' => r = none ∧ h = h') rfl rfl (K_ckb1 d h ⟨rfl, rfl⟩) (fun r h' hr => ?_)
  obtain ⟨rfl, rfl⟩ := hr
  refine Ev.run 3 (pc' := 9) (lv' := [(0, .retAddr 13), (1, .int (nI 1))]) (st' := [.int (nI 97)]) (h' := h) rfl ?_
  refine Ev.run 2 (pc' := 13) (lv' := [(0, .retAddr 13), (1, .int (nI 1))]) (st' := [.int (nI 97 &&& nI 255)]) (h' := h) rfl ?_
  refine Ev.topI (show nI 97 &&& nI 255 = nI 97 by decide) ?_
  refine Ev.run 1 (pc' := 14) (lv' := [(0, .retAddr 13), (1, .int (nI 1))]) (st' := [.int (((nI 97).toUInt32 % 65536).toInt32)]) (h' := h) rfl ?_
  refine Ev.topI (nI_i2c (by decide)) ?_
  exact Ev_retc _ _ (fun _ => rfl) (by decide) hq
theorem K_chr7_1 (hq : Q (some (.int (nI 97))) h) : Ev L xs (d + 3) 242 0 [(0, .retAddr 7), (1, .int (nI 1))] [] h Q := by
  refine Ev.run 1 (pc' := 1) (lv' := [(0, .retAddr 7), (1, .int (nI 1))]) (st' := [.retAddr 7]) (h' := h) rfl ?_
  refine Ev.call (a := 246) (as := [.retAddr 7]) (rest := []) (lv0 := [(0, .retAddr 7)]) (Q1 := fun r h' => r = some (.int (nI 1)) ∧ h = h') rfl rfl (K_lat7 (d + 2) h ⟨rfl, rfl⟩) (fun r h' hr => ?_)
  obtain ⟨rfl, rfl⟩ := hr
  refine Ev.run 1 (pc' := (if nI 1 = 0 then 16 else 7)) (lv' := [(0, .retAddr 7), (1, .int (nI 1))]) (st' := []) (h' := h) rfl ?_
  refine Ev.ite (fun z => absurd z (by decide)) (fun _ => ?_)
  refine Ev.run 3 (pc' := 12) (lv' := [(0, .retAddr 7), (1, .int (nI 1))]) (st' := [.int (nI 1), .retAddr 13]) (h' := h) rfl ?_
  refine Ev.call (a := 248) (as := [.retAddr 13, .int (nI 1)]) (rest := []) (lv0 := [(0, .retAddr 13), (1, .int (nI 1))]) (Q1 := fun r h' => r = some (.int (nI 97)) ∧ h = h') rfl rfl (K_chc7_1 d h ⟨rfl, rfl⟩) (fun r h' hr => ?_)
  obtain ⟨rfl, rfl⟩ := hr
  exact Ev_retc _ _ (fun _ => rfl) (by decide) hq
theorem K_chc7_2 (hq : Q (some (.int (nI 115))) h) : Ev L xs (d + 2) 248 0 [(0, .retAddr 13), (1, .int (nI 2))] [] h Q := by
  refine Ev.run 3 (pc' := 3) (lv' := [(0, .retAddr 13), (1, .int (nI 2))]) (st' := [.int (nI 5), .int (nI 2)]) (h' := h) rfl ?_
  refine Ev.call (a := 247) (as := [.int (nI 2), .int (nI 5)]) (rest := []) (lv0 := [(0, .int (nI 2)), (1, .int (nI 5))]) (Q1 := fun r h' => r = none ∧ h = h') rfl rfl (K_ckb2 d h ⟨rfl, rfl⟩) (fun r h' hr => ?_)
  obtain ⟨rfl, rfl⟩ := hr
  refine Ev.run 3 (pc' := 9) (lv' := [(0, .retAddr 13), (1, .int (nI 2))]) (st' := [.int (nI 115)]) (h' := h) rfl ?_
  refine Ev.run 2 (pc' := 13) (lv' := [(0, .retAddr 13), (1, .int (nI 2))]) (st' := [.int (nI 115 &&& nI 255)]) (h' := h) rfl ?_
  refine Ev.topI (show nI 115 &&& nI 255 = nI 115 by decide) ?_
  refine Ev.run 1 (pc' := 14) (lv' := [(0, .retAddr 13), (1, .int (nI 2))]) (st' := [.int (((nI 115).toUInt32 % 65536).toInt32)]) (h' := h) rfl ?_
  refine Ev.topI (nI_i2c (by decide)) ?_
  exact Ev_retc _ _ (fun _ => rfl) (by decide) hq
theorem K_chr7_2 (hq : Q (some (.int (nI 115))) h) : Ev L xs (d + 3) 242 0 [(0, .retAddr 7), (1, .int (nI 2))] [] h Q := by
  refine Ev.run 1 (pc' := 1) (lv' := [(0, .retAddr 7), (1, .int (nI 2))]) (st' := [.retAddr 7]) (h' := h) rfl ?_
  refine Ev.call (a := 246) (as := [.retAddr 7]) (rest := []) (lv0 := [(0, .retAddr 7)]) (Q1 := fun r h' => r = some (.int (nI 1)) ∧ h = h') rfl rfl (K_lat7 (d + 2) h ⟨rfl, rfl⟩) (fun r h' hr => ?_)
  obtain ⟨rfl, rfl⟩ := hr
  refine Ev.run 1 (pc' := (if nI 1 = 0 then 16 else 7)) (lv' := [(0, .retAddr 7), (1, .int (nI 2))]) (st' := []) (h' := h) rfl ?_
  refine Ev.ite (fun z => absurd z (by decide)) (fun _ => ?_)
  refine Ev.run 3 (pc' := 12) (lv' := [(0, .retAddr 7), (1, .int (nI 2))]) (st' := [.int (nI 2), .retAddr 13]) (h' := h) rfl ?_
  refine Ev.call (a := 248) (as := [.retAddr 13, .int (nI 2)]) (rest := []) (lv0 := [(0, .retAddr 13), (1, .int (nI 2))]) (Q1 := fun r h' => r = some (.int (nI 115)) ∧ h = h') rfl rfl (K_chc7_2 d h ⟨rfl, rfl⟩) (fun r h' hr => ?_)
  obtain ⟨rfl, rfl⟩ := hr
  exact Ev_retc _ _ (fun _ => rfl) (by decide) hq
theorem K_chc7_3 (hq : Q (some (.int (nI 116))) h) : Ev L xs (d + 2) 248 0 [(0, .retAddr 13), (1, .int (nI 3))] [] h Q := by
  refine Ev.run 3 (pc' := 3) (lv' := [(0, .retAddr 13), (1, .int (nI 3))]) (st' := [.int (nI 5), .int (nI 3)]) (h' := h) rfl ?_
  refine Ev.call (a := 247) (as := [.int (nI 3), .int (nI 5)]) (rest := []) (lv0 := [(0, .int (nI 3)), (1, .int (nI 5))]) (Q1 := fun r h' => r = none ∧ h = h') rfl rfl (K_ckb3 d h ⟨rfl, rfl⟩) (fun r h' hr => ?_)
  obtain ⟨rfl, rfl⟩ := hr
  refine Ev.run 3 (pc' := 9) (lv' := [(0, .retAddr 13), (1, .int (nI 3))]) (st' := [.int (nI 116)]) (h' := h) rfl ?_
  refine Ev.run 2 (pc' := 13) (lv' := [(0, .retAddr 13), (1, .int (nI 3))]) (st' := [.int (nI 116 &&& nI 255)]) (h' := h) rfl ?_
  refine Ev.topI (show nI 116 &&& nI 255 = nI 116 by decide) ?_
  refine Ev.run 1 (pc' := 14) (lv' := [(0, .retAddr 13), (1, .int (nI 3))]) (st' := [.int (((nI 116).toUInt32 % 65536).toInt32)]) (h' := h) rfl ?_
  refine Ev.topI (nI_i2c (by decide)) ?_
  exact Ev_retc _ _ (fun _ => rfl) (by decide) hq
theorem K_chr7_3 (hq : Q (some (.int (nI 116))) h) : Ev L xs (d + 3) 242 0 [(0, .retAddr 7), (1, .int (nI 3))] [] h Q := by
  refine Ev.run 1 (pc' := 1) (lv' := [(0, .retAddr 7), (1, .int (nI 3))]) (st' := [.retAddr 7]) (h' := h) rfl ?_
  refine Ev.call (a := 246) (as := [.retAddr 7]) (rest := []) (lv0 := [(0, .retAddr 7)]) (Q1 := fun r h' => r = some (.int (nI 1)) ∧ h = h') rfl rfl (K_lat7 (d + 2) h ⟨rfl, rfl⟩) (fun r h' hr => ?_)
  obtain ⟨rfl, rfl⟩ := hr
  refine Ev.run 1 (pc' := (if nI 1 = 0 then 16 else 7)) (lv' := [(0, .retAddr 7), (1, .int (nI 3))]) (st' := []) (h' := h) rfl ?_
  refine Ev.ite (fun z => absurd z (by decide)) (fun _ => ?_)
  refine Ev.run 3 (pc' := 12) (lv' := [(0, .retAddr 7), (1, .int (nI 3))]) (st' := [.int (nI 3), .retAddr 13]) (h' := h) rfl ?_
  refine Ev.call (a := 248) (as := [.retAddr 13, .int (nI 3)]) (rest := []) (lv0 := [(0, .retAddr 13), (1, .int (nI 3))]) (Q1 := fun r h' => r = some (.int (nI 116)) ∧ h = h') rfl rfl (K_chc7_3 d h ⟨rfl, rfl⟩) (fun r h' hr => ?_)
  obtain ⟨rfl, rfl⟩ := hr
  exact Ev_retc _ _ (fun _ => rfl) (by decide) hq
theorem K_chc7_4 (hq : Q (some (.int (nI 32))) h) : Ev L xs (d + 2) 248 0 [(0, .retAddr 13), (1, .int (nI 4))] [] h Q := by
  refine Ev.run 3 (pc' := 3) (lv' := [(0, .retAddr 13), (1, .int (nI 4))]) (st' := [.int (nI 5), .int (nI 4)]) (h' := h) rfl ?_
  refine Ev.call (a := 247) (as := [.int (nI 4), .int (nI 5)]) (rest := []) (lv0 := [(0, .int (nI 4)), (1, .int (nI 5))]) (Q1 := fun r h' => r = none ∧ h = h') rfl rfl (K_ckb4 d h ⟨rfl, rfl⟩) (fun r h' hr => ?_)
  obtain ⟨rfl, rfl⟩ := hr
  refine Ev.run 3 (pc' := 9) (lv' := [(0, .retAddr 13), (1, .int (nI 4))]) (st' := [.int (nI 32)]) (h' := h) rfl ?_
  refine Ev.run 2 (pc' := 13) (lv' := [(0, .retAddr 13), (1, .int (nI 4))]) (st' := [.int (nI 32 &&& nI 255)]) (h' := h) rfl ?_
  refine Ev.topI (show nI 32 &&& nI 255 = nI 32 by decide) ?_
  refine Ev.run 1 (pc' := 14) (lv' := [(0, .retAddr 13), (1, .int (nI 4))]) (st' := [.int (((nI 32).toUInt32 % 65536).toInt32)]) (h' := h) rfl ?_
  refine Ev.topI (nI_i2c (by decide)) ?_
  exact Ev_retc _ _ (fun _ => rfl) (by decide) hq
theorem K_chr7_4 (hq : Q (some (.int (nI 32))) h) : Ev L xs (d + 3) 242 0 [(0, .retAddr 7), (1, .int (nI 4))] [] h Q := by
  refine Ev.run 1 (pc' := 1) (lv' := [(0, .retAddr 7), (1, .int (nI 4))]) (st' := [.retAddr 7]) (h' := h) rfl ?_
  refine Ev.call (a := 246) (as := [.retAddr 7]) (rest := []) (lv0 := [(0, .retAddr 7)]) (Q1 := fun r h' => r = some (.int (nI 1)) ∧ h = h') rfl rfl (K_lat7 (d + 2) h ⟨rfl, rfl⟩) (fun r h' hr => ?_)
  obtain ⟨rfl, rfl⟩ := hr
  refine Ev.run 1 (pc' := (if nI 1 = 0 then 16 else 7)) (lv' := [(0, .retAddr 7), (1, .int (nI 4))]) (st' := []) (h' := h) rfl ?_
  refine Ev.ite (fun z => absurd z (by decide)) (fun _ => ?_)
  refine Ev.run 3 (pc' := 12) (lv' := [(0, .retAddr 7), (1, .int (nI 4))]) (st' := [.int (nI 4), .retAddr 13]) (h' := h) rfl ?_
  refine Ev.call (a := 248) (as := [.retAddr 13, .int (nI 4)]) (rest := []) (lv0 := [(0, .retAddr 13), (1, .int (nI 4))]) (Q1 := fun r h' => r = some (.int (nI 32)) ∧ h = h') rfl rfl (K_chc7_4 d h ⟨rfl, rfl⟩) (fun r h' hr => ?_)
  obtain ⟨rfl, rfl⟩ := hr
  exact Ev_retc _ _ (fun _ => rfl) (by decide) hq
theorem K_chc8_0 (hq : Q (some (.int (nI 105))) h) : Ev L xs (d + 2) 248 0 [(0, .retAddr 14), (1, .int (nI 0))] [] h Q := by
  refine Ev.run 3 (pc' := 3) (lv' := [(0, .retAddr 14), (1, .int (nI 0))]) (st' := [.int (nI 5), .int (nI 0)]) (h' := h) rfl ?_
  refine Ev.call (a := 247) (as := [.int (nI 0), .int (nI 5)]) (rest := []) (lv0 := [(0, .int (nI 0)), (1, .int (nI 5))]) (Q1 := fun r h' => r = none ∧ h = h') rfl rfl (K_ckb0 d h ⟨rfl, rfl⟩) (fun r h' hr => ?_)
  obtain ⟨rfl, rfl⟩ := hr
  refine Ev.run 3 (pc' := 9) (lv' := [(0, .retAddr 14), (1, .int (nI 0))]) (st' := [.int (nI 105)]) (h' := h) rfl ?_
  refine Ev.run 2 (pc' := 13) (lv' := [(0, .retAddr 14), (1, .int (nI 0))]) (st' := [.int (nI 105 &&& nI 255)]) (h' := h) rfl ?_
  refine Ev.topI (show nI 105 &&& nI 255 = nI 105 by decide) ?_
  refine Ev.run 1 (pc' := 14) (lv' := [(0, .retAddr 14), (1, .int (nI 0))]) (st' := [.int (((nI 105).toUInt32 % 65536).toInt32)]) (h' := h) rfl ?_
  refine Ev.topI (nI_i2c (by decide)) ?_
  exact Ev_retc _ _ (fun _ => rfl) (by decide) hq
theorem K_chr8_0 (hq : Q (some (.int (nI 105))) h) : Ev L xs (d + 3) 242 0 [(0, .retAddr 8), (1, .int (nI 0))] [] h Q := by
  refine Ev.run 1 (pc' := 1) (lv' := [(0, .retAddr 8), (1, .int (nI 0))]) (st' := [.retAddr 8]) (h' := h) rfl ?_
  refine Ev.call (a := 246) (as := [.retAddr 8]) (rest := []) (lv0 := [(0, .retAddr 8)]) (Q1 := fun r h' => r = some (.int (nI 1)) ∧ h = h') rfl rfl (K_lat8 (d + 2) h ⟨rfl, rfl⟩) (fun r h' hr => ?_)
  obtain ⟨rfl, rfl⟩ := hr
  refine Ev.run 1 (pc' := (if nI 1 = 0 then 16 else 7)) (lv' := [(0, .retAddr 8), (1, .int (nI 0))]) (st' := []) (h' := h) rfl ?_
  refine Ev.ite (fun z => absurd z (by decide)) (fun _ => ?_)
  refine Ev.run 3 (pc' := 12) (lv' := [(0, .retAddr 8), (1, .int (nI 0))]) (st' := [.int (nI 0), .retAddr 14]) (h' := h) rfl ?_
  refine Ev.call (a := 248) (as := [.retAddr 14, .int (nI 0)]) (rest := []) (lv0 := [(0, .retAddr 14), (1, .int (nI 0))]) (Q1 := fun r h' => r = some (.int (nI 105)) ∧ h = h') rfl rfl (K_chc8_0 d h ⟨rfl, rfl⟩) (fun r h' hr => ?_)
  obtain ⟨rfl, rfl⟩ := hr
  exact Ev_retc _ _ (fun _ => rfl) (by decide) hq
theorem K_chc8_1 (hq : Q (some (.int (nI 118))) h) : Ev L xs (d + 2) 248 0 [(0, .retAddr 14), (1, .int (nI 1))] [] h Q := by
  refine Ev.run 3 (pc' := 3) (lv' := [(0, .retAddr 14), (1, .int (nI 1))]) (st' := [.int (nI 5), .int (nI 1)]) (h' := h) rfl ?_
  refine Ev.call (a := 247) (as := [.int (nI 1), .int (nI 5)]) (rest := []) (lv0 := [(0, .int (nI 1)), (1, .int (nI 5))]) (Q1 := fun r h' => r = none ∧ h = h') rfl rfl (K_ckb1 d h ⟨rfl, rfl⟩) (fun r h' hr => ?_)
  obtain ⟨rfl, rfl⟩ := hr
  refine Ev.run 3 (pc' := 9) (lv' := [(0, .retAddr 14), (1, .int (nI 1))]) (st' := [.int (nI 118)]) (h' := h) rfl ?_
  refine Ev.run 2 (pc' := 13) (lv' := [(0, .retAddr 14), (1, .int (nI 1))]) (st' := [.int (nI 118 &&& nI 255)]) (h' := h) rfl ?_
  refine Ev.topI (show nI 118 &&& nI 255 = nI 118 by decide) ?_
  refine Ev.run 1 (pc' := 14) (lv' := [(0, .retAddr 14), (1, .int (nI 1))]) (st' := [.int (((nI 118).toUInt32 % 65536).toInt32)]) (h' := h) rfl ?_
  refine Ev.topI (nI_i2c (by decide)) ?_
  exact Ev_retc _ _ (fun _ => rfl) (by decide) hq
theorem K_chr8_1 (hq : Q (some (.int (nI 118))) h) : Ev L xs (d + 3) 242 0 [(0, .retAddr 8), (1, .int (nI 1))] [] h Q := by
  refine Ev.run 1 (pc' := 1) (lv' := [(0, .retAddr 8), (1, .int (nI 1))]) (st' := [.retAddr 8]) (h' := h) rfl ?_
  refine Ev.call (a := 246) (as := [.retAddr 8]) (rest := []) (lv0 := [(0, .retAddr 8)]) (Q1 := fun r h' => r = some (.int (nI 1)) ∧ h = h') rfl rfl (K_lat8 (d + 2) h ⟨rfl, rfl⟩) (fun r h' hr => ?_)
  obtain ⟨rfl, rfl⟩ := hr
  refine Ev.run 1 (pc' := (if nI 1 = 0 then 16 else 7)) (lv' := [(0, .retAddr 8), (1, .int (nI 1))]) (st' := []) (h' := h) rfl ?_
  refine Ev.ite (fun z => absurd z (by decide)) (fun _ => ?_)
  refine Ev.run 3 (pc' := 12) (lv' := [(0, .retAddr 8), (1, .int (nI 1))]) (st' := [.int (nI 1), .retAddr 14]) (h' := h) rfl ?_
  refine Ev.call (a := 248) (as := [.retAddr 14, .int (nI 1)]) (rest := []) (lv0 := [(0, .retAddr 14), (1, .int (nI 1))]) (Q1 := fun r h' => r = some (.int (nI 118)) ∧ h = h') rfl rfl (K_chc8_1 d h ⟨rfl, rfl⟩) (fun r h' hr => ?_)
  obtain ⟨rfl, rfl⟩ := hr
  exact Ev_retc _ _ (fun _ => rfl) (by decide) hq
theorem K_chc8_2 (hq : Q (some (.int (nI 101))) h) : Ev L xs (d + 2) 248 0 [(0, .retAddr 14), (1, .int (nI 2))] [] h Q := by
  refine Ev.run 3 (pc' := 3) (lv' := [(0, .retAddr 14), (1, .int (nI 2))]) (st' := [.int (nI 5), .int (nI 2)]) (h' := h) rfl ?_
  refine Ev.call (a := 247) (as := [.int (nI 2), .int (nI 5)]) (rest := []) (lv0 := [(0, .int (nI 2)), (1, .int (nI 5))]) (Q1 := fun r h' => r = none ∧ h = h') rfl rfl (K_ckb2 d h ⟨rfl, rfl⟩) (fun r h' hr => ?_)
  obtain ⟨rfl, rfl⟩ := hr
  refine Ev.run 3 (pc' := 9) (lv' := [(0, .retAddr 14), (1, .int (nI 2))]) (st' := [.int (nI 101)]) (h' := h) rfl ?_
  refine Ev.run 2 (pc' := 13) (lv' := [(0, .retAddr 14), (1, .int (nI 2))]) (st' := [.int (nI 101 &&& nI 255)]) (h' := h) rfl ?_
  refine Ev.topI (show nI 101 &&& nI 255 = nI 101 by decide) ?_
  refine Ev.run 1 (pc' := 14) (lv' := [(0, .retAddr 14), (1, .int (nI 2))]) (st' := [.int (((nI 101).toUInt32 % 65536).toInt32)]) (h' := h) rfl ?_
  refine Ev.topI (nI_i2c (by decide)) ?_
  exact Ev_retc _ _ (fun _ => rfl) (by decide) hq
theorem K_chr8_2 (hq : Q (some (.int (nI 101))) h) : Ev L xs (d + 3) 242 0 [(0, .retAddr 8), (1, .int (nI 2))] [] h Q := by
  refine Ev.run 1 (pc' := 1) (lv' := [(0, .retAddr 8), (1, .int (nI 2))]) (st' := [.retAddr 8]) (h' := h) rfl ?_
  refine Ev.call (a := 246) (as := [.retAddr 8]) (rest := []) (lv0 := [(0, .retAddr 8)]) (Q1 := fun r h' => r = some (.int (nI 1)) ∧ h = h') rfl rfl (K_lat8 (d + 2) h ⟨rfl, rfl⟩) (fun r h' hr => ?_)
  obtain ⟨rfl, rfl⟩ := hr
  refine Ev.run 1 (pc' := (if nI 1 = 0 then 16 else 7)) (lv' := [(0, .retAddr 8), (1, .int (nI 2))]) (st' := []) (h' := h) rfl ?_
  refine Ev.ite (fun z => absurd z (by decide)) (fun _ => ?_)
  refine Ev.run 3 (pc' := 12) (lv' := [(0, .retAddr 8), (1, .int (nI 2))]) (st' := [.int (nI 2), .retAddr 14]) (h' := h) rfl ?_
  refine Ev.call (a := 248) (as := [.retAddr 14, .int (nI 2)]) (rest := []) (lv0 := [(0, .retAddr 14), (1, .int (nI 2))]) (Q1 := fun r h' => r = some (.int (nI 101)) ∧ h = h') rfl rfl (K_chc8_2 d h ⟨rfl, rfl⟩) (fun r h' hr => ?_)
  obtain ⟨rfl, rfl⟩ := hr
  exact Ev_retc _ _ (fun _ => rfl) (by decide) hq
theorem K_chc8_3 (hq : Q (some (.int (nI 115))) h) : Ev L xs (d + 2) 248 0 [(0, .retAddr 14), (1, .int (nI 3))] [] h Q := by
  refine Ev.run 3 (pc' := 3) (lv' := [(0, .retAddr 14), (1, .int (nI 3))]) (st' := [.int (nI 5), .int (nI 3)]) (h' := h) rfl ?_
  refine Ev.call (a := 247) (as := [.int (nI 3), .int (nI 5)]) (rest := []) (lv0 := [(0, .int (nI 3)), (1, .int (nI 5))]) (Q1 := fun r h' => r = none ∧ h = h') rfl rfl (K_ckb3 d h ⟨rfl, rfl⟩) (fun r h' hr => ?_)
  obtain ⟨rfl, rfl⟩ := hr
  refine Ev.run 3 (pc' := 9) (lv' := [(0, .retAddr 14), (1, .int (nI 3))]) (st' := [.int (nI 115)]) (h' := h) rfl ?_
  refine Ev.run 2 (pc' := 13) (lv' := [(0, .retAddr 14), (1, .int (nI 3))]) (st' := [.int (nI 115 &&& nI 255)]) (h' := h) rfl ?_
  refine Ev.topI (show nI 115 &&& nI 255 = nI 115 by decide) ?_
  refine Ev.run 1 (pc' := 14) (lv' := [(0, .retAddr 14), (1, .int (nI 3))]) (st' := [.int (((nI 115).toUInt32 % 65536).toInt32)]) (h' := h) rfl ?_
  refine Ev.topI (nI_i2c (by decide)) ?_
  exact Ev_retc _ _ (fun _ => rfl) (by decide) hq
theorem K_chr8_3 (hq : Q (some (.int (nI 115))) h) : Ev L xs (d + 3) 242 0 [(0, .retAddr 8), (1, .int (nI 3))] [] h Q := by
  refine Ev.run 1 (pc' := 1) (lv' := [(0, .retAddr 8), (1, .int (nI 3))]) (st' := [.retAddr 8]) (h' := h) rfl ?_
  refine Ev.call (a := 246) (as := [.retAddr 8]) (rest := []) (lv0 := [(0, .retAddr 8)]) (Q1 := fun r h' => r = some (.int (nI 1)) ∧ h = h') rfl rfl (K_lat8 (d + 2) h ⟨rfl, rfl⟩) (fun r h' hr => ?_)
  obtain ⟨rfl, rfl⟩ := hr
  refine Ev.run 1 (pc' := (if nI 1 = 0 then 16 else 7)) (lv' := [(0, .retAddr 8), (1, .int (nI 3))]) (st' := []) (h' := h) rfl ?_
  refine Ev.ite (fun z => absurd z (by decide)) (fun _ => ?_)
  refine Ev.run 3 (pc' := 12) (lv' := [(0, .retAddr 8), (1, .int (nI 3))]) (st' := [.int (nI 3), .retAddr 14]) (h' := h) rfl ?_
  refine Ev.call (a := 248) (as := [.retAddr 14, .int (nI 3)]) (rest := []) (lv0 := [(0, .retAddr 14), (1, .int (nI 3))]) (Q1 := fun r h' => r = some (.int (nI 115)) ∧ h = h') rfl rfl (K_chc8_3 d h ⟨rfl, rfl⟩) (fun r h' hr => ?_)
  obtain ⟨rfl, rfl⟩ := hr
  exact Ev_retc _ _ (fun _ => rfl) (by decide) hq
theorem K_chc8_4 (hq : Q (some (.int (nI 32))) h) : Ev L xs (d + 2) 248 0 [(0, .retAddr 14), (1, .int (nI 4))] [] h Q := by
  refine Ev.run 3 (pc' := 3) (lv' := [(0, .retAddr 14), (1, .int (nI 4))]) (st' := [.int (nI 5), .int (nI 4)]) (h' := h) rfl ?_
  refine Ev.call (a := 247) (as := [.int (nI 4), .int (nI 5)]) (rest := []) (lv0 := [(0, .int (nI 4)), (1, .int (nI 5))]) (Q1 := fun r h' => r = none ∧ h = h') rfl rfl (K_ckb4 d h ⟨rfl, rfl⟩) (fun r h' hr => ?_)
  obtain ⟨rfl, rfl⟩ := hr
  refine Ev.run 3 (pc' := 9) (lv' := [(0, .retAddr 14), (1, .int (nI 4))]) (st' := [.int (nI 32)]) (h' := h) rfl ?_
  refine Ev.run 2 (pc' := 13) (lv' := [(0, .retAddr 14), (1, .int (nI 4))]) (st' := [.int (nI 32 &&& nI 255)]) (h' := h) rfl ?_
  refine Ev.topI (show nI 32 &&& nI 255 = nI 32 by decide) ?_
  refine Ev.run 1 (pc' := 14) (lv' := [(0, .retAddr 14), (1, .int (nI 4))]) (st' := [.int (((nI 32).toUInt32 % 65536).toInt32)]) (h' := h) rfl ?_
  refine Ev.topI (nI_i2c (by decide)) ?_
  exact Ev_retc _ _ (fun _ => rfl) (by decide) hq
theorem K_chr8_4 (hq : Q (some (.int (nI 32))) h) : Ev L xs (d + 3) 242 0 [(0, .retAddr 8), (1, .int (nI 4))] [] h Q := by
  refine Ev.run 1 (pc' := 1) (lv' := [(0, .retAddr 8), (1, .int (nI 4))]) (st' := [.retAddr 8]) (h' := h) rfl ?_
  refine Ev.call (a := 246) (as := [.retAddr 8]) (rest := []) (lv0 := [(0, .retAddr 8)]) (Q1 := fun r h' => r = some (.int (nI 1)) ∧ h = h') rfl rfl (K_lat8 (d + 2) h ⟨rfl, rfl⟩) (fun r h' hr => ?_)
  obtain ⟨rfl, rfl⟩ := hr
  refine Ev.run 1 (pc' := (if nI 1 = 0 then 16 else 7)) (lv' := [(0, .retAddr 8), (1, .int (nI 4))]) (st' := []) (h' := h) rfl ?_
  refine Ev.ite (fun z => absurd z (by decide)) (fun _ => ?_)
  refine Ev.run 3 (pc' := 12) (lv' := [(0, .retAddr 8), (1, .int (nI 4))]) (st' := [.int (nI 4), .retAddr 14]) (h' := h) rfl ?_
  refine Ev.call (a := 248) (as := [.retAddr 14, .int (nI 4)]) (rest := []) (lv0 := [(0, .retAddr 14), (1, .int (nI 4))]) (Q1 := fun r h' => r = some (.int (nI 32)) ∧ h = h') rfl rfl (K_chc8_4 d h ⟨rfl, rfl⟩) (fun r h' hr => ?_)
  obtain ⟨rfl, rfl⟩ := hr
  exact Ev_retc _ _ (fun _ => rfl) (by decide) hq
end ST
