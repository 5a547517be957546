/-! how many bits, as the JDK counts them -/
def us (x : Int32) (k : Int32) : Int32 := (x.toUInt32 >>> (k.toUInt32 &&& Int32.toUInt32 31)).toInt32
def bc1 (x : Int32) : Int32 := x - (us x (nI 1) &&& Int32.ofNat 1431655765)
def bc2 (x : Int32) : Int32 := (x &&& Int32.ofNat 858993459) + (us x (nI 2) &&& Int32.ofNat 858993459)
def bc3 (x : Int32) : Int32 := (x + us x (nI 4)) &&& Int32.ofNat 252645135
def bc4 (x : Int32) : Int32 := x + us x (nI 8)
def bc5 (x : Int32) : Int32 := x + us x (nI 16)
set_option maxRecDepth 100000 in
theorem bc_ok : ∀ x, x < 4096 → bc5 (bc4 (bc3 (bc2 (bc1 (nI x))))) &&& nI 63 = nI (ones12 x) := by decide +kernel
theorem K_bitCount {L : Nat} {xs : Nat → Int32} (d : Nat) (h : Hp) (x : Nat) (hx : x < 4096) {Q : Po} (hq : Q (some (.int (nI (ones12 x)))) h) : Ev L xs d 253 0 [(0, .int (nI x))] [] h Q := by
  refine Ev.run 8 (pc' := 10) (lv' := [(0, .int (bc1 (nI x)))]) (st' := []) (h' := h) rfl ?_
  refine Ev.run 10 (pc' := 24) (lv' := [(0, .int (bc2 (bc1 (nI x))))]) (st' := []) (h' := h) rfl ?_
  refine Ev.run 8 (pc' := 34) (lv' := [(0, .int (bc3 (bc2 (bc1 (nI x)))))]) (st' := []) (h' := h) rfl ?_
  refine Ev.run 6 (pc' := 41) (lv' := [(0, .int (bc4 (bc3 (bc2 (bc1 (nI x))))))]) (st' := []) (h' := h) rfl ?_
  refine Ev.run 6 (pc' := 48) (lv' := [(0, .int (bc5 (bc4 (bc3 (bc2 (bc1 (nI x)))))))]) (st' := []) (h' := h) rfl ?_
  refine Ev.run 3 (pc' := 52) (lv' := [(0, .int (bc5 (bc4 (bc3 (bc2 (bc1 (nI x)))))))]) (st' := [.int (bc5 (bc4 (bc3 (bc2 (bc1 (nI x))))) &&& nI 63)]) (h' := h) rfl ?_
  refine Ev.topI (bc_ok x hx) ?_
  exact Ev.ret (v := some (.int (nI (ones12 x)))) rfl hq
