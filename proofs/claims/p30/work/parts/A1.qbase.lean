/-! A1.qbase: two objects of the class side by side, and the script; walks over that world -/
abbrev Mem2 : Type := Mem × Mem
def YP (Y : Env1) : Env1 := (Y.1, Y.2.1, gC, hY Y + 281)
def WP (Y : Env1) (Q : Mem2) : Heap → Prop := fun H => va_P Y.1 vwCl (wl Y Q.1) H ∧ va_P Y.1 vwCl (wl (YP Y) Q.2) H
def AY2 (Y : Env1) : Nat → Prop := fun q => AY Y q ∨ AY (YP Y) q
theorem AYC {Y : Env1} (hG : gY Y = gC) {q : Nat} (h : AY Y q) : hY Y ≤ q ∧ q < hY Y + 281 := by
  obtain ⟨o, ho, rfl⟩ := h
  rw [hG] at ho
  have : gC.length = 281 := by decide +kernel
  omega
theorem AYP {Y : Env1} {q : Nat} (h : AY (YP Y) q) : hY Y + 281 ≤ q ∧ q < hY Y + 562 := by
  obtain ⟨o, ho, rfl⟩ := h
  have h1 : o < gC.length := ho
  have : gC.length = 281 := by decide +kernel
  show hY Y + 281 ≤ hY Y + 281 + o ∧ hY Y + 281 + o < hY Y + 562
  omega
theorem WP.o {Y : Env1} (hG : gY Y = gC) {Q : Mem2} {M1 : Mem} : ∀ H H1, WP Y Q H → va_P Y.1 vwCl (wl Y M1) H1 → (∀ q : Nat, q < H.size → ¬ AY Y q → H1[q]? = H[q]?) → WP Y (M1, Q.2) H1 := fun H H1 h h1 hk =>
  ⟨h1, h.2.kept (fun k q hq => hk q.1 (h.2 k q hq).lt (fun z => by have h2 := AYP ((wl_D (YP Y) Q.2).2 k q hq); have := AYC hG z; omega))⟩
theorem WP.p {Y : Env1} (hG : gY Y = gC) {Q : Mem2} {M1 : Mem} : ∀ H H1, WP Y Q H → va_P (YP Y).1 vwCl (wl (YP Y) M1) H1 → (∀ q : Nat, q < H.size → ¬ AY (YP Y) q → H1[q]? = H[q]?) → WP Y (Q.1, M1) H1 := fun H H1 h h1 hk =>
  ⟨h.1.kept (fun k q hq => hk q.1 (h.1 k q hq).lt (fun z => by have h2 := AYC hG ((wl_D Y Q.1).2 k q hq); have := AYP z; omega)), h1⟩
/-- a start and an end of the law's own methods -/
def PU2 (Y : Env1) (Q : Mem2) (U : State) : Prop := WP Y Q U.heap ∧ va_K Y.1 vwCl (tysY Y) U ∧ ∀ w ∈ NST, va_Nw w U
def PU3 (Y : Env1) (b L : Nat) (xs : Nat → Int32) (Q : Mem2) (U : State) : Prop := PU2 Y Q U ∧ va_X b L xs U U.heap ∧ b < U.heap.size ∧ b < hY Y ∧ L ≤ 260
theorem PU3.blind {Y : Env1} {b L : Nat} {xs : Nat → Int32} {Q : Mem2} {As : List Value} : FrameBlind (va_Pc As (PU3 Y b L xs Q)) := fun a U g mk q => by
  obtain ⟨q0, ⟨qP, qK, qN⟩, qX, qb, qh⟩ := q
  exact ⟨q0, ⟨qP, va_K.moved (u := U) (U := U.calling g mk a) (Vm.Alike.refl U.vm) qK, fun w hw => va_Nw.same (isN_tab (nst_is hw)) (rfl : U.vm = (U.calling g mk a).vm) (qN w hw)⟩, va_X.moved (u := U) (U := U.calling g mk a) (Vm.Alike.refl U.vm) qX, qb, qh⟩
def CqI (l : Launch) (Y : Env1) (b L : Nat) (xs : Nat → Int32) (y : MethodName) (bb : ByteArray) (mL : Nat) (t : FieldType) (lev : Nat) (As : List Value) (Q : Mem2) (r : Int32) (Q1 : Mem2) : Prop := Met l y (Cond.code y bb mL (some t) :: TBL) (rmL lev) (va_Pc As (PU3 Y b L xs Q)) (va_Qi (fun v (_ : Unit) => v = r) (fun _ t => PU2 Y Q1 t) (AY2 Y)) 0 0 (AY2 Y)
/-- what a walk of the law's methods may use -/
def CQQ (X : Cx) (cc : ByteArray) (n lev b L : Nat) (xs : Nat → Int32) : Prop := CX X cc RL n lev gC ∧ (∀ q, AY2 X.2.1.2 q → X.2.1.1 q) ∧ va_X b L xs X.1.2.2.2.2.1 X.1.2.2.2.2.1.heap ∧ b < X.1.2.2.2.2.1.heap.size ∧ ¬ X.2.1.1 b ∧ b < hY X.2.1.2 ∧ L ≤ 260
abbrev AQ (X : Cx) (pc : Nat) (lv : List (Nat × Value)) (st : List Value) (Q : Mem2) : Prop := AG X pc lv st (WP X.2.1.2 Q)
theorem CQQ.K {X : Cx} {cc : ByteArray} {n lev b L : Nat} {xs : Nat → Int32} (S : CQQ X cc n lev b L xs) : va_K X.2.1.2.1 vwCl (tysY X.2.1.2) X.1.2.2.2.2.1 := S.1.2.2.2.2.2.1
theorem CQQ.G {X : Cx} {cc : ByteArray} {n lev b L : Nat} {xs : Nat → Int32} (S : CQQ X cc n lev b L xs) : gY X.2.1.2 = gC := gYX S.1
theorem CQQ.room {X : Cx} {cc : ByteArray} {n lev b L : Nat} {xs : Nat → Int32} (S : CQQ X cc n lev b L xs) : X.2.2.2.1 + 0 ≤ X.1.2.2.2.1.cells ∧ X.2.2.2.2.1 + 0 ≤ X.1.2.2.2.1.slots := ⟨S.1.2.2.2.2.2.2.2.2.2.2.1, S.1.2.2.2.2.2.2.2.2.2.2.2.1⟩
theorem q_sld {X : Cx} {cc : ByteArray} {n lev b L : Nat} {xs : Nat → Int32} (S : CQQ X cc n lev b L xs) {pc : Nat} {lv : List (Nat × Value)} {st : List Value} {P : Heap → Prop} {i : Int32} (hi : inb i L = true) (d : decode cc pc = .ok (.iaload, 1)) (k9 : AG X (pc + 1) lv (.int (xs i.toNatClampNeg) :: st) P) : AG X pc lv (.int i :: .ref b :: st) P := fun H locs ls hl hP hS => va_sld S.1.1 S.1.2.1 S.2.2.1 S.2.2.2.1 S.2.2.2.2.1 hS (inb_in hi) d (k9 H locs ls hl hP hS)
theorem q_slen {X : Cx} {cc : ByteArray} {n lev b L : Nat} {xs : Nat → Int32} (S : CQQ X cc n lev b L xs) {pc : Nat} {lv : List (Nat × Value)} {st : List Value} {P : Heap → Prop} (d : decode cc pc = .ok (.arraylength, 1)) (k9 : AG X (pc + 1) lv (.int (Int32.ofNat L) :: st) P) : AG X pc lv (.ref b :: st) P := fun H locs ls hl hP hS => va_slen S.1.1 S.1.2.1 S.2.2.1 S.2.2.2.1 S.2.2.2.2.1 hS d (k9 H locs ls hl hP hS)
theorem qo_I {X : Cx} {cc : ByteArray} {n lev b L : Nat} {xs : Nat → Int32} (S : CQQ X cc n lev b L xs) {pc : Nat} {lv : List (Nat × Value)} {st rest : List Value} {Q : Mem2} {M1 : Mem} {y : MethodName} {bb : ByteArray} {mL lev2 idx : Nat} {ty : FieldType} {As : List Value} {r : Int32} (hM : CnI X.1.2.1 X.2.1.2 y bb mL ty lev2 (.ref (hY X.2.1.2 + 0) :: As) Q.1 r M1) (F : FCl 7 y.cls TX7 6 tyX7) (wd : WdV y bb mL (some ty) As.length) (hl9 : Cond.methodLink RL idx y ∈ TBL) (hlev : lev2 < lev ∧ mL ≤ 21) (hst : st = As.reverse ++ .ref (hY X.2.1.2 + 0) :: rest) (hrest : (rest.map fun v => v.category).sum ≤ 8) (d : decode cc pc = .ok (.invokevirtual idx, 3)) (k9 : AQ X (pc + 3) lv (.int r :: rest) (M1, Q.2)) : AQ X pc lv st Q :=
  gc_I S.1 (Y := X.2.1.2) (fun q h => S.2.1 q (Or.inl h)) (gn_V S.1 (Y := X.2.1.2) (G2 := gC) S.G S.K (fun H h => h.1) (o := 0) F (by decide +kernel) hM wd hl9 hlev S.room hst hrest d) (WP.o S.G) k9
theorem qo_L {X : Cx} {cc : ByteArray} {n lev b L : Nat} {xs : Nat → Int32} (S : CQQ X cc n lev b L xs) {pc : Nat} {lv : List (Nat × Value)} {st rest : List Value} {Q : Mem2} {M1 : Mem} {y : MethodName} {bb : ByteArray} {mL lev2 idx : Nat} {As : List Value} {r : Int64} (hM : CnL X.1.2.1 X.2.1.2 y bb mL lev2 (.ref (hY X.2.1.2 + 0) :: As) Q.1 r M1) (F : FCl 7 y.cls TX7 6 tyX7) (wd : WdV y bb mL (some .long) As.length) (hl9 : Cond.methodLink RL idx y ∈ TBL) (hlev : lev2 < lev ∧ mL ≤ 21) (hst : st = As.reverse ++ .ref (hY X.2.1.2 + 0) :: rest) (hrest : (rest.map fun v => v.category).sum ≤ 8) (d : decode cc pc = .ok (.invokevirtual idx, 3)) (k9 : AQ X (pc + 3) lv (.long r :: rest) (M1, Q.2)) : AQ X pc lv st Q :=
  gc_L S.1 (Y := X.2.1.2) (fun q h => S.2.1 q (Or.inl h)) (gn_V S.1 (Y := X.2.1.2) (G2 := gC) S.G S.K (fun H h => h.1) (o := 0) F (by decide +kernel) hM wd hl9 hlev S.room hst hrest d) (WP.o S.G) k9
theorem qo_D {X : Cx} {cc : ByteArray} {n lev b L : Nat} {xs : Nat → Int32} (S : CQQ X cc n lev b L xs) {pc : Nat} {lv : List (Nat × Value)} {st rest : List Value} {Q : Mem2} {M1 : Mem} {y : MethodName} {bb : ByteArray} {mL lev2 idx : Nat} {As : List Value} {r : UInt64} (hM : CnD X.1.2.1 X.2.1.2 y bb mL lev2 (.ref (hY X.2.1.2 + 0) :: As) Q.1 r M1) (F : FCl 7 y.cls TX7 6 tyX7) (wd : WdV y bb mL (some .double) As.length) (hl9 : Cond.methodLink RL idx y ∈ TBL) (hlev : lev2 < lev ∧ mL ≤ 21) (hst : st = As.reverse ++ .ref (hY X.2.1.2 + 0) :: rest) (hrest : (rest.map fun v => v.category).sum ≤ 8) (d : decode cc pc = .ok (.invokevirtual idx, 3)) (k9 : AQ X (pc + 3) lv (.double r :: rest) (M1, Q.2)) : AQ X pc lv st Q :=
  gc_D S.1 (Y := X.2.1.2) (fun q h => S.2.1 q (Or.inl h)) (gn_V S.1 (Y := X.2.1.2) (G2 := gC) S.G S.K (fun H h => h.1) (o := 0) F (by decide +kernel) hM wd hl9 hlev S.room hst hrest d) (WP.o S.G) k9
theorem qp_I {X : Cx} {cc : ByteArray} {n lev b L : Nat} {xs : Nat → Int32} (S : CQQ X cc n lev b L xs) {pc : Nat} {lv : List (Nat × Value)} {st rest : List Value} {Q : Mem2} {M1 : Mem} {y : MethodName} {bb : ByteArray} {mL lev2 idx : Nat} {ty : FieldType} {As : List Value} {r : Int32} (hM : CnI X.1.2.1 (YP X.2.1.2) y bb mL ty lev2 (.ref (hY X.2.1.2 + 281 + 0) :: As) Q.2 r M1) (F : FCl 7 y.cls TX7 6 tyX7) (wd : WdV y bb mL (some ty) As.length) (hl9 : Cond.methodLink RL idx y ∈ TBL) (hlev : lev2 < lev ∧ mL ≤ 21) (hst : st = As.reverse ++ .ref (hY X.2.1.2 + 281 + 0) :: rest) (hrest : (rest.map fun v => v.category).sum ≤ 8) (d : decode cc pc = .ok (.invokevirtual idx, 3)) (k9 : AQ X (pc + 3) lv (.int r :: rest) (Q.1, M1)) : AQ X pc lv st Q :=
  gc_I S.1 (Y := (YP X.2.1.2)) (fun q h => S.2.1 q (Or.inr h)) (gn_V S.1 (Y := (YP X.2.1.2)) (G2 := gC) rfl S.K (fun H h => h.2) (o := 0) F (by decide +kernel) hM wd hl9 hlev S.room hst hrest d) (WP.p S.G) k9
theorem qp_L {X : Cx} {cc : ByteArray} {n lev b L : Nat} {xs : Nat → Int32} (S : CQQ X cc n lev b L xs) {pc : Nat} {lv : List (Nat × Value)} {st rest : List Value} {Q : Mem2} {M1 : Mem} {y : MethodName} {bb : ByteArray} {mL lev2 idx : Nat} {As : List Value} {r : Int64} (hM : CnL X.1.2.1 (YP X.2.1.2) y bb mL lev2 (.ref (hY X.2.1.2 + 281 + 0) :: As) Q.2 r M1) (F : FCl 7 y.cls TX7 6 tyX7) (wd : WdV y bb mL (some .long) As.length) (hl9 : Cond.methodLink RL idx y ∈ TBL) (hlev : lev2 < lev ∧ mL ≤ 21) (hst : st = As.reverse ++ .ref (hY X.2.1.2 + 281 + 0) :: rest) (hrest : (rest.map fun v => v.category).sum ≤ 8) (d : decode cc pc = .ok (.invokevirtual idx, 3)) (k9 : AQ X (pc + 3) lv (.long r :: rest) (Q.1, M1)) : AQ X pc lv st Q :=
  gc_L S.1 (Y := (YP X.2.1.2)) (fun q h => S.2.1 q (Or.inr h)) (gn_V S.1 (Y := (YP X.2.1.2)) (G2 := gC) rfl S.K (fun H h => h.2) (o := 0) F (by decide +kernel) hM wd hl9 hlev S.room hst hrest d) (WP.p S.G) k9
theorem qp_D {X : Cx} {cc : ByteArray} {n lev b L : Nat} {xs : Nat → Int32} (S : CQQ X cc n lev b L xs) {pc : Nat} {lv : List (Nat × Value)} {st rest : List Value} {Q : Mem2} {M1 : Mem} {y : MethodName} {bb : ByteArray} {mL lev2 idx : Nat} {As : List Value} {r : UInt64} (hM : CnD X.1.2.1 (YP X.2.1.2) y bb mL lev2 (.ref (hY X.2.1.2 + 281 + 0) :: As) Q.2 r M1) (F : FCl 7 y.cls TX7 6 tyX7) (wd : WdV y bb mL (some .double) As.length) (hl9 : Cond.methodLink RL idx y ∈ TBL) (hlev : lev2 < lev ∧ mL ≤ 21) (hst : st = As.reverse ++ .ref (hY X.2.1.2 + 281 + 0) :: rest) (hrest : (rest.map fun v => v.category).sum ≤ 8) (d : decode cc pc = .ok (.invokevirtual idx, 3)) (k9 : AQ X (pc + 3) lv (.double r :: rest) (Q.1, M1)) : AQ X pc lv st Q :=
  gc_D S.1 (Y := (YP X.2.1.2)) (fun q h => S.2.1 q (Or.inr h)) (gn_V S.1 (Y := (YP X.2.1.2)) (G2 := gC) rfl S.K (fun H h => h.2) (o := 0) F (by decide +kernel) hM wd hl9 hlev S.room hst hrest d) (WP.p S.G) k9
theorem qs_I {X : Cx} {cc : ByteArray} {n lev b L : Nat} {xs : Nat → Int32} (S : CQQ X cc n lev b L xs) {pc : Nat} {lv : List (Nat × Value)} {st rest : List Value} {Q Q1 : Mem2} {y : MethodName} {bb : ByteArray} {mL lev2 idx : Nat} {ty : FieldType} {As : List Value} {r : Int32} (hM : CqI X.1.2.1 X.2.1.2 b L xs y bb mL ty lev2 As Q r Q1) (wd : WdS y bb mL (some ty) As.length) (hl9 : Cond.methodLink RL idx y ∈ TBL) (hlev : lev2 < lev ∧ mL ≤ 21) (hst : st = As.reverse ++ rest) (hrest : (rest.map fun v => v.category).sum ≤ 8) (d : decode cc pc = .ok (.invokestatic idx, 3)) (k9 : AQ X (pc + 3) lv (.int r :: rest) Q1) : AQ X pc lv st Q := fun H locs ls hl hP hS =>
  va_calli (va_runS ⟨S.1.1, S.1.2.1, S.1.2.2.1, S.1.2.2.2.1, S.1.2.2.2.2.1⟩ hM ⟨⟨rfl, rfl, Nat.le_trans hlev.1 S.1.2.2.2.2.2.2.2.2.1, Nat.le_trans (by show 8 + (mL + 11) + 40 * lev2 ≤ 40 * lev; omega) S.1.2.2.2.2.2.2.2.2.2.1, hin_of S.1 wd.1, List.mem_cons_self, S.1.2.2.2.2.1 _ wd.1, S.1.2.2.2.2.1 _ wd.2.2.1, wd.2.2.2.1, hlen_of wd.2.2.2.2, S.1.2.2.2.2.1 _ hl9⟩, S.1.2.2.2.2.1 _ wd.2.1⟩ ⟨PU3.blind, fun U hU hW => ⟨rfl, ⟨by rw [hU]; exact hP, va_K.moved hW.alike S.K, fun w hw => isN_warm (nst_is hw) hW (SN S.1 w hw)⟩, va_X.moved hW.alike (va_X.kept S.2.2.1 (by rw [hU]; exact hS.2.1 b S.2.2.2.1 S.2.2.2.2.1)), by rw [hU]; exact Nat.lt_of_lt_of_le S.2.2.2.1 hS.1, S.2.2.2.2.2⟩⟩ rfl rfl (hl.1.trans S.1.2.2.2.2.2.2.2.1) hst (lv_room hrest) d S.room) hS (fun q _ hq => S.2.1 q hq) (fun q hq => S.2.1 q hq) (fun r9 u t H1 locs1 ht hvm hp hB hz hk hS1 => by subst hp; exact k9 H1 locs1 ls hl (by rw [← ht]; exact hB.1) hS1)
set_option maxHeartbeats 2000000 in
theorem mq_I {l : Launch} {Y : Env1} {b L : Nat} {xs : Nat → Int32} {y : MethodName} {bb : ByteArray} {mL lev : Nat} {As : List Value} {Q Q1 : Mem2} {r : Int32} (hy : plainName y.cls = true) (hown : y.cls = RL) (hG : gY Y = gC) (hlen : (lg_sl As).length ≤ mL)
    (body : ∀ X : Cx, CQQ X bb mL lev b L xs → X.2.1.2 = Y → X.1.2.1 = l → (∀ (pc : Nat) (lv : List (Nat × Value)), decode bb pc = .ok (.ireturn, 1) → AQ X pc lv [.int r] Q1) → AQ X 0 (lv_args 0 As) [] Q) : CqI l Y b L xs y bb mL .int lev As Q r Q1 := by
  refine Met.ofW (cc := bb) (maxL := mL) (ret := (some .int)) hy rfl ?_
  intro p e s m args below meth c s₁ B hml hv
  obtain ⟨rfl, ⟨hP0, hK0, hN0⟩, hX0, hb0, hh0, hL0⟩ := hv
  have hx := B.exec
  have hb := B.bytes
  have hr := B.returns
  have hts := atoms_spec (ws := Cond.code y bb mL (some .int) :: TBL) B.pre
  have hwn : s.vm.findClass RL = some m.cls := by rw [← hown]; exact findClass_of_methodNamed B.named
  have hlocks : meth.locks = false := B.notSynchronized
  have hl := lv_entry As hlen
  rw [lg_entry_eq]
  generalize (lg_sl As ++ List.replicate (mL - (lg_sl As).length) Slot.unset).toArray = ls at hl ⊢
  refine body ((p, l, e, (headSpec (Cond.code y bb mL (some .int) :: TBL) (rmL lev)).room, s, m, As.toArray, below, meth, c), (AY2 Y, Y), (mL, 0, 0, _)) ⟨⟨hx, hb, hml, hwn, fun w h => hts w (List.mem_cons_of_mem _ h), hK0, fun _ h => Or.inl h, rfl, Nat.le_refl _, Nat.le_refl _, Nat.zero_le _, Nat.zero_le _, hG, hN0⟩, fun _ h => h, hX0, hb0, (fun z => by
    have z9 : AY2 Y b := z
    rcases z9 with z9 | z9
    · have := AYC hG z9; omega
    · have := AYP z9; omega), hh0, hL0⟩ rfl rfl ?_ s.heap [] ls hl hP0 va_S.rf
  intro pc lv hd H locs ls2 hl2 hP2 hS2
  refine W.iret hx hb hr (fun t ht hW => ?_) (fun q hq => hS2.2.2 q hq) hd hlocks
  refine ⟨⟨r, (), rfl, rfl, ?_⟩, hS2.F ht⟩
  exact ⟨by rw [ht]; exact hP2, va_K.moved hW.alike hK0, fun w hw => isN_warm (nst_is hw) hW (hN0 w hw)⟩
set_option maxHeartbeats 2000000 in
theorem mq_Z {l : Launch} {Y : Env1} {b L : Nat} {xs : Nat → Int32} {y : MethodName} {bb : ByteArray} {mL lev : Nat} {As : List Value} {Q Q1 : Mem2} {r : Int32} (hy : plainName y.cls = true) (hown : y.cls = RL) (hG : gY Y = gC) (hlen : (lg_sl As).length ≤ mL)
    (body : ∀ X : Cx, CQQ X bb mL lev b L xs → X.2.1.2 = Y → X.1.2.1 = l → (∀ (pc : Nat) (lv : List (Nat × Value)) (v : Int32), decode bb pc = .ok (.ireturn, 1) → v &&& 1 = r → AQ X pc lv [.int v] Q1) → AQ X 0 (lv_args 0 As) [] Q) : CqI l Y b L xs y bb mL .boolean lev As Q r Q1 := by
  refine Met.ofW (cc := bb) (maxL := mL) (ret := (some .boolean)) hy rfl ?_
  intro p e s m args below meth c s₁ B hml hv
  obtain ⟨rfl, ⟨hP0, hK0, hN0⟩, hX0, hb0, hh0, hL0⟩ := hv
  have hx := B.exec
  have hb := B.bytes
  have hr := B.returns
  have hts := atoms_spec (ws := Cond.code y bb mL (some .boolean) :: TBL) B.pre
  have hwn : s.vm.findClass RL = some m.cls := by rw [← hown]; exact findClass_of_methodNamed B.named
  have hlocks : meth.locks = false := B.notSynchronized
  have hl := lv_entry As hlen
  rw [lg_entry_eq]
  generalize (lg_sl As ++ List.replicate (mL - (lg_sl As).length) Slot.unset).toArray = ls at hl ⊢
  refine body ((p, l, e, (headSpec (Cond.code y bb mL (some .boolean) :: TBL) (rmL lev)).room, s, m, As.toArray, below, meth, c), (AY2 Y, Y), (mL, 0, 0, _)) ⟨⟨hx, hb, hml, hwn, fun w h => hts w (List.mem_cons_of_mem _ h), hK0, fun _ h => Or.inl h, rfl, Nat.le_refl _, Nat.le_refl _, Nat.zero_le _, Nat.zero_le _, hG, hN0⟩, fun _ h => h, hX0, hb0, (fun z => by
    have z9 : AY2 Y b := z
    rcases z9 with z9 | z9
    · have := AYC hG z9; omega
    · have := AYP z9; omega), hh0, hL0⟩ rfl rfl ?_ s.heap [] ls hl hP0 va_S.rf
  intro pc lv v hd hv2 H locs ls2 hl2 hP2 hS2
  refine W_zretN hx hb hr (nar_bool v) (fun t ht hW => ?_) (fun q hq => hS2.2.2 q hq) hd hlocks
  refine ⟨⟨_, (), rfl, hv2, ?_⟩, hS2.F ht⟩
  exact ⟨by rw [ht]; exact hP2, va_K.moved hW.alike hK0, fun w hw => isN_warm (nst_is hw) hW (hN0 w hw)⟩
/-- binds and loops over two memories -/
def bq {α β : Type} (x : Option (α × Mem2)) (f : α → Mem2 → Option β) : Option β := x.bind (fun q => f q.1 q.2)
theorem bq_some {α β : Type} {x : Option (α × Mem2)} {f : α → Mem2 → Option β} {y : β} (h : bq x f = some y) : ∃ a M, x = some (a, M) ∧ f a M = some y := by
  obtain ⟨⟨a, M⟩, h1, h2⟩ := Option.bind_eq_some_iff.mp h
  exact ⟨a, M, h1, h2⟩
/-- a call that may throw, where it doesn't -/
def bo {α β : Type} (x : Option ((α ⊕ Nat) × Mem)) (f : α → Mem → Option β) : Option β := x.bind (fun q => match q.1 with
  | .inl v => f v q.2
  | .inr _ => none)
theorem bo_some {α β : Type} {x : Option ((α ⊕ Nat) × Mem)} {f : α → Mem → Option β} {y : β} (h : bo x f = some y) : ∃ a M, x = some (.inl a, M) ∧ f a M = some y := by
  obtain ⟨⟨a, M⟩, h1, h2⟩ := Option.bind_eq_some_iff.mp h
  cases a with
  | inl a => exact ⟨a, M, h1, h2⟩
  | inr k => cases h2
def lpQ {σ ρ : Type} (f : σ → Mem2 → Option ((σ ⊕ ρ) × Mem2)) : Nat → σ → Mem2 → Option (ρ × Mem2)
  | 0, _, _ => none
  | n + 1, s, M => (f s M).bind (fun q => match q.1 with
    | .inl s' => lpQ f n s' q.2
    | .inr r => some (r, q.2))
theorem lpQ_ind {σ ρ : Type} {f : σ → Mem2 → Option ((σ ⊕ ρ) × Mem2)} {r : ρ} {M9 : Mem2} {P : σ → Mem2 → Prop}
    (step : ∀ s M d M', f s M = some (d, M') → (∀ s', d = .inl s' → P s' M') → ((d = .inr r ∧ M' = M9) ∨ ∃ s', d = .inl s') → P s M) : ∀ n s M, lpQ f n s M = some (r, M9) → P s M := by
  intro n
  induction n with
  | zero => intro s M h; cases h
  | succ n ih =>
    intro s M h
    simp only [lpQ] at h
    obtain ⟨⟨d, M1⟩, h1, h2⟩ := Option.bind_eq_some_iff.mp h
    cases d with
    | inl s' => exact step s M _ _ h1 (fun s2 e => by cases e; exact ih s' M1 h2) (Or.inr ⟨s', rfl⟩)
    | inr r2 => cases h2; exact step s M _ _ h1 (fun s2 e => by cases e) (Or.inl ⟨rfl, rfl⟩)
theorem sq2 {α : Type} {a b : α} {M N : Mem2} (h : some (a, M) = some (b, N)) : a = b ∧ M = N := Prod.mk.inj (Option.some.inj h)
