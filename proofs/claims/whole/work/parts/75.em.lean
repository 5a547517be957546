/-! the reference's answers hang on its own cells alone -/
def Em (g g' : Nat → Nat → Nat) : Prop := ∀ c, 166 ≤ c → g' c = g c
section EM
variable {g g' : Nat → Nat → Nat}
theorem Em.refl (g : Nat → Nat → Nat) : Em g g := fun _ _ => rfl
theorem Em.symm {a b : Nat → Nat → Nat} (h : Em a b) : Em b a := fun c hc => (h c hc).symm
theorem Em.trans {a b c : Nat → Nat → Nat} (h : Em a b) (k : Em b c) : Em a c := fun x hx => (k x hx).trans (h x hx)
theorem Em.f (h : Em g g') (j : Nat) : g' 166 j = g 166 j := by rw [h 166 (by decide)]
theorem Em.u (h : Em g g') (c j x : Nat) : Em (u2 g c j x) (u2 g' c j x) := fun a ha => by
  funext b
  unfold u2
  rw [h a ha]
theorem Em.r (h : Em g g') (c : Nat) (w : Nat → Nat) : Em (ur g c w) (ur g' c w) := fun a ha => by
  unfold ur
  funext b
  rw [h a ha]
theorem Em.cp (h : Em g g') {c : Nat} (hc : 166 ≤ c) (lo n : Nat) (s : Nat → Nat) : Em (cpR g c lo n s) (cpR g' c lo n s) := fun a ha => by
  funext b
  unfold cpR
  rw [h a ha, h c hc]
theorem Em.own (g : Nat → Nat → Nat) {c : Nat} (hc : c < 166) (j x : Nat) : Em g (u2 g c j x) := fun a ha => by
  funext b
  unfold u2
  rw [if_neg (by omega)]
theorem Em.ownr (g : Nat → Nat → Nat) {c : Nat} (hc : c < 166) (w : Nat → Nat) : Em g (ur g c w) := fun a ha => by
  funext b
  unfold ur
  rw [if_neg (by omega)]
theorem Em.ownc (g : Nat → Nat → Nat) {c : Nat} (hc : c < 166) (lo n : Nat) (s : Nat → Nat) : Em g (cpR g c lo n s) := fun a ha => by
  funext b
  unfold cpR
  rw [if_neg (by omega)]
theorem Em.mI (h : Em g g') (k : MI g) : MI g' := by
  unfold MI
  rw [h 166 (by decide), h 167 (by decide), h 168 (by decide), h 169 (by decide), h 170 (by decide), h 171 (by decide), h 172 (by decide), h 173 (by decide), h 174 (by decide), h 175 (by decide), h 176 (by decide), h 189 (by decide), h 190 (by decide), h 191 (by decide), h 192 (by decide), h 207 (by decide), h 177 (by decide), h 178 (by decide), h 179 (by decide), h 186 (by decide), h 206 (by decide)]
  exact k
theorem Em.f0 (h : Em g g') : g' 166 0 = g 166 0 := h.f 0
theorem Em.f6 (h : Em g g') : g' 166 6 = g 166 6 := h.f 6
theorem Em.f16 (h : Em g g') : g' 166 16 = g 166 16 := h.f 16
theorem Em.f33 (h : Em g g') : g' 166 33 = g 166 33 := h.f 33
theorem Em.f34 (h : Em g g') : g' 166 34 = g 166 34 := h.f 34
theorem Em.f7 (h : Em g g') : g' 166 7 = g 166 7 := h.f 7
theorem Em.f8 (h : Em g g') : g' 166 8 = g 166 8 := h.f 8
theorem Em.f9 (h : Em g g') : g' 166 9 = g 166 9 := h.f 9
theorem Em.f36 (h : Em g g') : g' 166 36 = g 166 36 := h.f 36
theorem Em.f37 (h : Em g g') : g' 166 37 = g 166 37 := h.f 37
theorem Em.f38 (h : Em g g') : g' 166 38 = g 166 38 := h.f 38
theorem Em.f39 (h : Em g g') : g' 166 39 = g 166 39 := h.f 39
theorem Em.f44 (h : Em g g') : g' 166 44 = g 166 44 := h.f 44
theorem Em.f48 (h : Em g g') : g' 166 48 = g 166 48 := h.f 48
theorem Em.f15 (h : Em g g') : g' 166 15 = g 166 15 := h.f 15
theorem Em.f17 (h : Em g g') : g' 166 17 = g 166 17 := h.f 17
theorem Em.f1 (h : Em g g') : g' 166 1 = g 166 1 := h.f 1
theorem Em.f71 (h : Em g g') : g' 166 71 = g 166 71 := h.f 71
theorem Em.r167 (h : Em g g') : g' 167 = g 167 := h 167 (by decide)
theorem Em.r168 (h : Em g g') : g' 168 = g 168 := h 168 (by decide)
theorem Em.r169 (h : Em g g') : g' 169 = g 169 := h 169 (by decide)
theorem Em.r170 (h : Em g g') : g' 170 = g 170 := h 170 (by decide)
theorem Em.r171 (h : Em g g') : g' 171 = g 171 := h 171 (by decide)
theorem Em.r172 (h : Em g g') : g' 172 = g 172 := h 172 (by decide)
theorem Em.r173 (h : Em g g') : g' 173 = g 173 := h 173 (by decide)
theorem Em.r174 (h : Em g g') : g' 174 = g 174 := h 174 (by decide)
theorem Em.r175 (h : Em g g') : g' 175 = g 175 := h 175 (by decide)
theorem Em.r176 (h : Em g g') : g' 176 = g 176 := h 176 (by decide)
theorem Em.r177 (h : Em g g') : g' 177 = g 177 := h 177 (by decide)
theorem Em.r178 (h : Em g g') : g' 178 = g 178 := h 178 (by decide)
theorem Em.r179 (h : Em g g') : g' 179 = g 179 := h 179 (by decide)
theorem Em.r180 (h : Em g g') : g' 180 = g 180 := h 180 (by decide)
theorem Em.r181 (h : Em g g') : g' 181 = g 181 := h 181 (by decide)
theorem Em.r182 (h : Em g g') : g' 182 = g 182 := h 182 (by decide)
theorem Em.r183 (h : Em g g') : g' 183 = g 183 := h 183 (by decide)
theorem Em.r184 (h : Em g g') : g' 184 = g 184 := h 184 (by decide)
theorem Em.r185 (h : Em g g') : g' 185 = g 185 := h 185 (by decide)
theorem Em.r186 (h : Em g g') : g' 186 = g 186 := h 186 (by decide)
theorem Em.r187 (h : Em g g') : g' 187 = g 187 := h 187 (by decide)
theorem Em.r188 (h : Em g g') : g' 188 = g 188 := h 188 (by decide)
theorem Em.r189 (h : Em g g') : g' 189 = g 189 := h 189 (by decide)
theorem Em.r190 (h : Em g g') : g' 190 = g 190 := h 190 (by decide)
theorem Em.r191 (h : Em g g') : g' 191 = g 191 := h 191 (by decide)
theorem Em.r192 (h : Em g g') : g' 192 = g 192 := h 192 (by decide)
theorem Em.r193 (h : Em g g') : g' 193 = g 193 := h 193 (by decide)
theorem Em.r194 (h : Em g g') : g' 194 = g 194 := h 194 (by decide)
theorem Em.r195 (h : Em g g') : g' 195 = g 195 := h 195 (by decide)
theorem Em.r196 (h : Em g g') : g' 196 = g 196 := h 196 (by decide)
theorem Em.r197 (h : Em g g') : g' 197 = g 197 := h 197 (by decide)
theorem Em.r198 (h : Em g g') : g' 198 = g 198 := h 198 (by decide)
theorem Em.r199 (h : Em g g') : g' 199 = g 199 := h 199 (by decide)
theorem Em.r200 (h : Em g g') : g' 200 = g 200 := h 200 (by decide)
theorem Em.r201 (h : Em g g') : g' 201 = g 201 := h 201 (by decide)
theorem Em.r202 (h : Em g g') : g' 202 = g 202 := h 202 (by decide)
theorem Em.r203 (h : Em g g') : g' 203 = g 203 := h 203 (by decide)
theorem Em.r204 (h : Em g g') : g' 204 = g 204 := h 204 (by decide)
theorem Em.r205 (h : Em g g') : g' 205 = g 205 := h 205 (by decide)
theorem Em.r206 (h : Em g g') : g' 206 = g 206 := h 206 (by decide)
theorem Em.r207 (h : Em g g') : g' 207 = g 207 := h 207 (by decide)
theorem Em.xft (h : Em g g') : ft g' = ft g := by
  funext r n i; unfold ft; rw [h.r167, h.r168]
theorem Em.xal (h : Em g g') : al g' = al g := by
  funext i o n; unfold al; rw [h.r167, h.r168]
theorem Em.xfC (h : Em g g') : fC g' = fC g := by unfold fC; rw [h.f16]
theorem Em.xnC (h : Em g g') : nC g' = nC g := by unfold nC; rw [h.f16, h.r177]
theorem Em.xlwF (h : Em g g') : lwF g' = lwF g := by
  funext o w n
  induction n with
  | zero => rfl
  | succ n ih => unfold lwF; rw [ih, h.r178, h.r179]
theorem Em.xlwS (h : Em g g') : lwS g' = lwS g := by
  funext w; unfold lwS; rw [h.xfC, h.xnC, h.xlwF]
theorem Em.xfitA (h : Em g g') : fitA g' = fitA g := by
  funext r n s; unfold fitA; rw [h.xft, h.f0]
theorem Em.xgoG (h : Em g g') : goG g' = goG g := by
  funext r n s; unfold goG; rw [h.xft, h.f0, h.r167, h.r168]
theorem Em.xendS (h : Em g g') : endS g' = endS g := by
  funext l r n; unfold endS; rw [h.xft, h.f0, h.r168]
theorem Em.xallS (h : Em g g') : allS g' = allS g := by unfold allS; rw [h.f0]
theorem Em.xeW (h : Em g g') : eW g' = eW g := by
  funext s i n; unfold eW; rw [h.xlwS, h.xal, h.f0, h.r168]
theorem Em.xwinF (h : Em g g') : winF g' = winF g := by
  funext s wb i n; unfold winF; rw [h.xeW, h.xal, h.f0, h.r167, h.r168]
theorem Em.xwB (h : Em g g') : wB g' = wB g := by
  funext s f
  induction f with
  | zero => funext i; rfl
  | succ f ih => funext i; unfold wB; rw [ih, h.xwinF, h.r168]
theorem Em.xwrS (h : Em g g') : wrS g' = wrS g := by
  funext r n s; unfold wrS; rw [h.xfitA, h.xwinF, h.xwB]
theorem Em.xevF (h : Em g g') : evF g' = evF g := by
  funext p i lo k
  induction k with
  | zero => rfl
  | succ k ih =>
    unfold evF
    rw [ih, h.r182]
    congr 1
    funext st
    unfold evT factS
    rw [h.r171, h.r172, h.r169, h.r168, h.r167]
theorem Em.xkwS (h : Em g g') : kwS g' = kwS g := by
  funext p i
  unfold kwS hldS
  rw [h.r171, h.f33, h.f34, h.xfC, h.xnC, h.r178, h.r180, h.r181, h.xevF]
theorem Em.xknS (h : Em g g') : knS g' = knS g := by
  funext p; unfold knS; rw [h.xkwS, h.f0]
theorem Em.xalS (h : Em g g') : alS g' = alS g := by unfold alS; rw [h.r173, h.f6]
theorem Em.xtnS (h : Em g g') : tnS g' = tnS g := by unfold tnS; rw [h.r173, h.f6, h.f7]
theorem Em.xmaS (h : Em g g') : maS g' = maS g := by
  funext p; unfold maS; rw [h.xgoG, h.r175, h.f9, h.xknS]
theorem Em.xsfS (h : Em g g') : sfS g' = sfS g := by
  funext l; unfold sfS; rw [h.xendS, h.xlwS, h.r175, h.f9]
theorem Em.xsaS (h : Em g g') : saS g' = saS g := by
  funext m; unfold saS; rw [h.xsfS]
theorem Em.xmtS (h : Em g g') : mtS g' = mtS g := by
  funext p l; unfold mtS; rw [h.xgoG, h.r175, h.f9, h.xknS]
theorem Em.xslS (h : Em g g') : slS g' = slS g := by
  funext p m s; unfold slS; rw [h.xmtS, h.r173, h.f6]
theorem Em.xldB (h : Em g g') : ldB g' = ldB g := by
  funext l; unfold ldB; rw [h.xwrS, h.r175, h.f9, h.xallS]
theorem Em.xleS (h : Em g g') : leS g' = leS g := by
  funext p m s; unfold leS; rw [h.xldB, h.xslS]
theorem Em.xdoS (h : Em g g') : doS g' = doS g := by
  funext p; unfold doS; rw [h.r171, h.xslS, h.xmaS, h.xsaS, h.f8, h.f9, h.r172, h.xleS, h.r174]
theorem Em.xadV (h : Em g g') : adV g' = adV g := by
  funext l; unfold adV; rw [h.xsfS]
theorem Em.xasL (h : Em g g') : asL g' = asL g := by
  funext p; unfold asL; rw [h.f8, h.xfitA, h.r175, h.f9, h.xknS]
theorem Em.xasV (h : Em g g') : asV g' = asV g := by unfold asV; rw [h.f8]
theorem Em.xtuD (h : Em g g') : tuD g' = tuD g := by
  funext t; unfold tuD; rw [h.xdoS, h.xtnS]
theorem Em.mloS (h : Em g g') (p : Nat) : Em (loS g p) (loS g' p) := by
  unfold loS
  rw [h.r173, h.f6]
  exact (((h.u _ _ _).u _ _ _).u _ _ _).u _ _ _
theorem Em.mA1 (h : Em g g') (p l : Nat) : Em (A1 g p l) (A1 g' p l) := by
  unfold A1 R1
  rw [h.f9]
  exact ((h.u _ _ _).u _ _ _).u _ _ _
theorem Em.madG (h : Em g g') (p l : Nat) : Em (adG g p l) (adG g' p l) := by
  unfold adG
  rw [h.xsfS, h.r173, h.f6]
  cases sfS g l with
  | true => exact (h.mA1 p l).u _ _ _
  | false => exact ((h.mA1 p l).u _ _ _).mloS p
theorem Em.masG (h : Em g g') (p : Nat) : Em (asG g p) (asG g' p) := by
  unfold asG
  rw [h.xasL]
  exact (h.u _ _ _).mloS _
theorem Em.mplG0 (h : Em g g') (t : Nat) : Em (plG0 g t) (plG0 g' t) := by
  unfold plG0
  rw [h.xtuD, h.xtnS]
  split
  · exact h.masG _
  · exact h.madG _ _
theorem Em.mplG (h : Em g g') (t : Nat) : Em (plG g t) (plG g' t) := Em.mplG0 (h.u 166 36 4294967295) t
theorem Em.xplV0 (h : Em g g') : plV0 g' = plV0 g := by
  funext t; unfold plV0; rw [h.xtuD, h.xasV, h.xadV]
theorem Em.xplV (h : Em g g') : plV g' = plV g := by
  funext t
  exact congrFun (Em.xplV0 (h.u 166 36 4294967295)) t
theorem Em.mitG (n : Nat) : ∀ {g g' : Nat → Nat → Nat}, Em g g' → Em (itG n g) (itG n g') := by
  induction n with
  | zero => intro g g' h; exact h
  | succ n ih =>
    intro g g' h
    show Em (if alS g = 0 then g else itG n (plG g 4294967295)) (if alS g' = 0 then g' else itG n (plG g' 4294967295))
    rw [h.xalS]
    split
    · exact h
    · exact ih (h.mplG _)
theorem Em.mkp (h : Em g g') (r : Nat → Nat) : Em (kpU g r) (kpU g' r) := by
  unfold kpU
  rw [h.f7, h.f8, h.f9, h.r173]
  exact ((((h.u _ _ _).u _ _ _).u _ _ _).cp (by decide) _ _ _).cp (by decide) _ _ _
theorem Em.xflF (t : Nat) : ∀ (f j : Nat) {g g' : Nat → Nat → Nat}, Em g g' → flF t f j g' = flF t f j g := by
  intro f
  induction f with
  | zero => intro j g g' _; rfl
  | succ f ih =>
    intro j g g' h
    unfold flF
    rw [h.xalS, (h.mplG (tj t j)).f36, h.xplV, ih (j + 1) (h.mplG (tj t j))]
theorem Em.mflK (h : Em g g') (r : Nat → Nat) : Em (flK g r) (flK g' r) := ((h.mkp r).u _ _ _).u _ _ _
theorem Em.xflS (h : Em g g') : flS g' = flS g := by
  funext r t
  exact Em.xflF t 60 0 (h.mflK r)
theorem Em.xsmF (h : Em g g') : smF g' = smF g := by
  funext n
  induction n with
  | zero => rfl
  | succ n ih => unfold smF; rw [ih, (Em.mitG (n + 1) h).f9]
theorem Em.xouF (h : Em g g') (P : Nat) : ∀ f k, ouF g' P f k = ouF g P f k := by
  intro f
  induction f with
  | zero => intro k; rfl
  | succ f ih =>
    intro k
    unfold ouF
    rw [(Em.mitG k h).r173, ih]
theorem Em.xlkF (S P : Nat) (sh : Nat → Nat) : ∀ (f k : Nat) {g g' : Nat → Nat → Nat}, Em g g' → lkF S P sh f k g' = lkF S P sh f k g := by
  intro f
  induction f with
  | zero => intro k g g' _; rfl
  | succ f ih =>
    intro k g g' h
    unfold lkF
    rw [h.xalS, (h.mplG _).f36, ih (k + 1) (h.mplG _), ih k (h.mplG _)]
theorem Em.xksS (h : Em g g') : ksS g' = ksS g := by
  funext p i n; unfold ksS; rw [h.f0, h.xal, h.xkwS]
theorem Em.xcoB (h : Em g g') : coB g' = coB g := by
  funext p; unfold coB; rw [h.f44, h.r189, h.r190, h.r191, h.xksS]
theorem Em.zcould (h : Em g g') : rs_could g' = rs_could g := by
  funext p; unfold rs_could; rw [h.f6, h.xcoB]
theorem Em.zcan (h : Em g g') : rs_can g' = rs_can g := by
  funext i n; unfold rs_can; rw [h.f0, h.f6, h.r168, h.xksS]
theorem Em.zhas (h : Em g g') : rs_has g' = rs_has g := by
  funext p x; unfold rs_has; rw [h.f6, h.xfitA, h.r175, h.f9, h.xknS]
theorem Em.zof (h : Em g g') : rs_of g' = rs_of g := by
  funext p x; unfold rs_of; rw [h.f6, h.r171, h.r172, h.r173, h.xmaS, h.xsaS, h.xknS]
theorem Em.zwon (h : Em g g') : rs_won g' = rs_won g := by
  funext x; unfold rs_won; rw [h.xwrS, h.r175, h.f9, h.xallS]
theorem Em.zbegins (h : Em g g') : rs_begins g' = rs_begins g := by
  funext x; unfold rs_begins; rw [h.xwrS, h.r175, h.r169, h.f0]
theorem Em.zturn (h : Em g g') : rs_turn g' = rs_turn g := by
  unfold rs_turn; rw [h.xalS, h.xplV]
theorem Em.mturn (h : Em g g') : Em (gs_turn g) (gs_turn g') := by
  unfold gs_turn
  rw [h.xalS]
  split
  · exact h
  · exact h.mplG _
theorem Em.zon (h : Em g g') (r : Nat → Nat) (n x : Nat) : rs_on g' (kpU g' r) n x = rs_on g (kpU g r) n x := by
  have k := Em.mitG n (h.mkp r)
  unfold rs_on; rw [h.f6, k.f7, k.f9, k.r173]
theorem Em.zrank (h : Em g g') (r : Nat → Nat) (n : Nat) : rs_rank g' (kpU g' r) n = rs_rank g (kpU g r) n := by
  have k := Em.mitG n (h.mkp r)
  unfold rs_rank; rw [h.f6, k.r173]
theorem Em.zends (h : Em g g') : rs_ends g' = rs_ends g := by
  funext r x; unfold rs_ends; rw [h.xflS]
theorem Em.zby (h : Em g g') : rs_by g' = rs_by g := by
  funext r x; unfold rs_by; rw [h.xalS, h.f9, h.xflS]
theorem Em.zmean (h : Em g g') (r : Nat → Nat) (n part : Nat) : rs_mean g' (kpU g' r) n part = rs_mean g (kpU g r) n part := by
  unfold rs_mean; rw [(h.mkp r).xsmF]
theorem Em.zout (h : Em g g') (r : Nat → Nat) (x : Nat) : rs_out g' (kpU g' r) x = rs_out g (kpU g r) x := by
  unfold rs_out; rw [h.f6, (h.mkp r).xouF, (Em.mitG _ (h.mkp r)).r173]
theorem Em.zlooked (h : Em g g') (r : Nat → Nat) : rs_looked g' (kpU g' r) = rs_looked g (kpU g r) := by
  unfold rs_looked; rw [h.f48, h.r192, Em.xlkF _ _ _ 60 0 (h.mkp r)]
theorem Em.kW (h : Em g g') (k : KW g) : KW g' := by
  unfold KW WFc
  rw [h.xfC, h.xnC, h.r178, h.r180, h.r181, h.r182]
  exact k
end EM
