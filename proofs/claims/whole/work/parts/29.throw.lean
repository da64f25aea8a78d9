/-! 29.throw: methods that may throw: contracts, calls, throws -/
def rmX (lev mc ms : Nat) : Room := { frames := lev, cells := mc, slots := ms, locals := 40 * lev }
abbrev setX (X : Cx) (c s : Nat) : Cx := (X.1, X.2.1, (X.2.2.1, c, s, X.2.2.2.2.2))
def exn : Nat → String
  | 1 => "java/lang/IndexOutOfBoundsException"
  | 2 => "java/lang/IllegalArgumentException"
  | _ => "java/lang/IllegalStateException"
def STRS : List (Nat × String) := [(202, "the text is full"), (220, "there is no saved state"), (248, "no such cell"), (251, "no such cell, or no neighbors"), (253, "no such lake"), (259, "too much water"), (263, "an argument is out of range")]
def CSTW : List Cond := [.castable (exn 1) (exn 1), .castable (exn 2) (exn 2), .castable (exn 3) (exn 3), .declares ⟨"java/lang/RuntimeException", "<init>", "(Ljava/lang/String;)V"⟩, .declares ⟨"java/lang/Exception", "<init>", "(Ljava/lang/String;)V"⟩, .declares ⟨"java/lang/Throwable", "<init>", "(Ljava/lang/String;)V"⟩]
def THR (Y : Env1) (H : Heap) (U : State) : Prop := vx_Zq Bundle.tN "UNASSIGNED_STACK" Bundle.steD (AY Y) U H ∧ vx_Zq Bundle.tN "SUPPRESSED_SENTINEL" Bundle.listD (AY Y) U H ∧ (∀ q ∈ STRS, ∃ sa, vk_R RX7 q.1 q.2 sa U) ∧ ∀ w ∈ CSTW, va_Nw w U
def PX (Y : Env1) (M : Mem) (U : State) : Prop := PU Y M U ∧ THR Y U.heap U
def XT (Y : Env1) (ks : Nat → Prop) (M1 : Mem) : String → State → State → Prop := vx_X (fun _ : Unit => True) (fun E _ t => (∃ k, ks k ∧ E = exn k) ∧ va_P Y.1 vwCl (wl Y M1) t.heap) (AY Y)
theorem cst_warm {w : Cond} (h : w ∈ CSTW) {s U : State} (hW : s.WarmedH U.vm) (hz : va_Nw w s) : va_Nw w U := by
  simp only [CSTW, List.mem_cons, List.not_mem_nil, or_false] at h
  rcases h with rfl | rfl | rfl | rfl | rfl | rfl <;> first | exact va_Nw.warmC hW hz | exact va_Nw.warmD hW hz
theorem cst_tab {w : Cond} (h : w ∈ CSTW) : w.onTables = true := by
  simp only [CSTW, List.mem_cons, List.not_mem_nil, or_false] at h
  rcases h with rfl | rfl | rfl | rfl | rfl | rfl <;> rfl
theorem PX.blind {Y : Env1} {M : Mem} {As : List Value} : FrameBlind (va_Pc As (PX Y M)) := fun a U g mk q => by
  obtain ⟨q0, qU, qz, qn, qs, qc⟩ := q
  refine ⟨q0, (PU.blind (As := As) a U g mk ⟨q0, qU⟩).2, ?_, ?_, ?_, ?_⟩
  · exact vx_Zq.moved (u := U) (U := U.calling g mk a) (Vm.Alike.refl U.vm) qz
  · exact vx_Zq.moved (u := U) (U := U.calling g mk a) (Vm.Alike.refl U.vm) qn
  · intro q hq
    obtain ⟨sa, h⟩ := qs q hq
    exact ⟨sa, vk_R.same (u := U) (U := U.calling g mk a) rfl h⟩
  · exact fun w hw => va_Nw.same (cst_tab hw) (rfl : U.vm = (U.calling g mk a).vm) (qc w hw)
theorem THR.go {Y : Env1} {s U : State} {H : Heap} {locs : List Loc} (h : THR Y s.heap s) (hS : va_S (AY Y) s.heap H locs) (hW : s.WarmedH U.vm) : THR Y H U := by
  obtain ⟨qz, qn, qs, qc⟩ := h
  refine ⟨vx_Zq.moved hW.alike (vx_Zq.kept qz (fun a h1 h2 => hS.2.1 a h1 h2)), vx_Zq.moved hW.alike (vx_Zq.kept qn (fun a h1 h2 => hS.2.1 a h1 h2)), ?_, fun w hw => cst_warm hw hW (qc w hw)⟩
  intro q hq
  obtain ⟨sa, h⟩ := qs q hq
  exact ⟨sa, vk_R.warm hW h⟩
def TnI (l : Launch) (Y : Env1) (y : MethodName) (b : ByteArray) (mL : Nat) (t : FieldType) (lev mc ms : Nat) (As : List Value) (M : Mem) (res : Int32 ⊕ Nat) (M1 : Mem) : Prop := vx_Met l y (Cond.code y b mL (some t) :: TBL) (rmX lev mc ms) (va_Pc As (PX Y M)) (va_Qi (fun v (_ : Unit) => res = .inl v) (fun _ t => PU Y M1 t) (AY Y)) (XT Y (fun k => res = .inr k) M1) mc ms (AY Y)
def TnL (l : Launch) (Y : Env1) (y : MethodName) (b : ByteArray) (mL : Nat) (lev mc ms : Nat) (As : List Value) (M : Mem) (res : Int64 ⊕ Nat) (M1 : Mem) : Prop := vx_Met l y (Cond.code y b mL (some .long) :: TBL) (rmX lev mc ms) (va_Pc As (PX Y M)) (va_Ql (fun v (_ : Unit) => res = .inl v) (fun _ t => PU Y M1 t) (AY Y)) (XT Y (fun k => res = .inr k) M1) mc ms (AY Y)
def TnD (l : Launch) (Y : Env1) (y : MethodName) (b : ByteArray) (mL : Nat) (lev mc ms : Nat) (As : List Value) (M : Mem) (res : UInt64 ⊕ Nat) (M1 : Mem) : Prop := vx_Met l y (Cond.code y b mL (some .double) :: TBL) (rmX lev mc ms) (va_Pc As (PX Y M)) (va_Qd (fun v (_ : Unit) => res = .inl v) (fun _ t => PU Y M1 t) (AY Y)) (XT Y (fun k => res = .inr k) M1) mc ms (AY Y)
def TnV (l : Launch) (Y : Env1) (y : MethodName) (b : ByteArray) (mL : Nat) (lev mc ms : Nat) (As : List Value) (M : Mem) (res : Unit ⊕ Nat) (M1 : Mem) : Prop := vx_Met l y (Cond.code y b mL none :: TBL) (rmX lev mc ms) (va_Pc As (PX Y M)) (va_Qv (fun (_ : Unit) => res = .inl ()) (fun _ t => PU Y M1 t) (AY Y)) (XT Y (fun k => res = .inr k) M1) mc ms (AY Y)
/-- a walk that may throw: where it ends, and what it needs for a throw -/
def TX (X : Cx) (ks : Nat → Prop) (M1 : Mem) (mc ms : Nat) : Prop :=
  (∃ Qc, X.2.2.2.2.2 = vx_MQ X.1.2.2.2.2.2.2.2.1 Qc (XT X.2.1.2 ks M1) X.1.2.2.2.2.2.2.1 X.1.2.2.2.2.1 mc ms (AY X.2.1.2)) ∧ (∀ x ∈ X.1.2.2.2.2.2.2.2.2.2.exceptionTable.toList, False) ∧ X.1.2.2.2.2.2.2.2.2.1.locks = false ∧ THR X.2.1.2 X.1.2.2.2.2.1.heap X.1.2.2.2.2.1 ∧ X.1.2.1.stackTraces = false ∧ X.2.1.1 = AY X.2.1.2 ∧ mc ≤ X.1.2.2.2.1.cells ∧ ms ≤ X.1.2.2.2.1.slots
abbrev NMS : List String := ["java/lang/RuntimeException", "java/lang/Exception"]
set_option maxHeartbeats 2000000 in
theorem r_thr {X : Cx} {cc : ByteArray} {n lev : Nat} {G : List (Nat × Nat)} (S : CX X cc RX7 n lev G) {ks : Nat → Prop} {M1 : Mem} {mc ms : Nat} (T : TX X ks M1 mc ms) {pc : Nat} {lv : List (Nat × Value)} {st : List Value} {M : Mem} (k : Nat) (hk : ks k) (hM : M = M1) {ik is ic : Nat} {text : String} (hstr : (is, text) ∈ STRS) (hfit : Bundle.fit (exn k) = true) (hcl : Cond.classLink RX7 ik (exn k) ∈ TBL) (hini : Cond.initialized (exn k) ∈ TBL) (hat : ∀ w ∈ vx_atS RX7 ic (exn k) NMS, w ∈ TBL ∨ w ∈ CSTW) (hgood : ∀ w ∈ Cond.classLink RX7 ik (exn k) :: Cond.initialized (exn k) :: vx_atS RX7 ic (exn k) NMS, vx_ot w = true) (hlev : 6 ≤ lev) (hc : X.2.2.2.1 + 1 ≤ mc) (hs : X.2.2.2.2.1 + 6 ≤ ms) (hst : (st.map fun v => v.category).sum ≤ 8) (d0 : decode cc pc = .ok (.new ik, 3)) (d3 : decode cc (pc + 3) = .ok (.dup, 1)) (d4 : decode cc (pc + 4) = .ok (.ldc is, 2)) (d6 : decode cc (pc + 6) = .ok (.invokespecial ic, 3)) (d9 : decode cc (pc + 9) = .ok (.athrow, 1)) : AW X pc lv st M := by
  intro H locs ls hl hP hS
  obtain ⟨⟨Qc, hQ⟩, hext, hlocks, hthr, htr, hA, hmc, hms⟩ := T
  obtain ⟨hz, hn, hstrs, hcst⟩ := id hthr
  obtain ⟨sa, hsa⟩ := hstrs _ hstr
  rw [hA] at hS
  rw [hQ]
  subst hM
  refine vx_throwS (names := NMS) (A := AY X.2.1.2) S.1 S.2.1 htr S.2.2.2.1 hfit (fun n hn => ?_) (S.2.2.2.2.1 _ hcl) (S.2.2.2.2.1 _ hini) hsa (fun w hw => ?_) hgood hz hn hS (hl.1.trans (S.2.2.2.2.2.2.2.1.trans S.2.2.1.symm)) d0 d3 d4 d6 d9 (fun x hx => (hext x hx).elim) ?_ ?_ (Nat.le_trans hc hmc) (Nat.le_trans hs hms) hlocks (fun t hal hsz hsame => ?_) (fun z hz => hS.2.2 z hz) hc hs
  · have : n = "java/lang/RuntimeException" ∨ n = "java/lang/Exception" := by simpa [NMS] using hn
    rcases this with rfl | rfl <;> decide +kernel
  · rcases hat w hw with h | h
    · exact S.2.2.2.2.1 _ h
    · exact va_Nw.use (cst_tab h) (hcst w h)
  · have := S.2.2.2.2.2.2.2.2.1
    show 2 + 3 < _
    omega
  · have := S.2.2.2.2.2.2.2.2.2.1
    show _ + (13 * 3 + 43) ≤ _
    omega
  · refine ⟨(), trivial, ⟨⟨k, hk, rfl⟩, ?_⟩, Nat.le_trans hS.1 hsz, fun q h1 h2 => ?_⟩
    · exact hP.kept (fun i q hq => hsame q.1 (hP i q hq).lt)
    · rw [hsame q (Nat.lt_of_lt_of_le h1 hS.1)]; exact hS.2.1 q h1 h2
set_option maxHeartbeats 2000000 in
theorem r_thrW {X : Cx} {cc : ByteArray} {n lev : Nat} {G : List (Nat × Nat)} (S : CX X cc RX7 n lev G) {ks : Nat → Prop} {M1 : Mem} {mc ms : Nat} (T : TX X ks M1 mc ms) {pc : Nat} {lv : List (Nat × Value)} {st : List Value} {M : Mem} (k : Nat) (hk : ks k) (hM : M = M1) {ik is ic : Nat} {text : String} (hstr : (is, text) ∈ STRS) (hfit : Bundle.fit (exn k) = true) (hcl : Cond.classLink RX7 ik (exn k) ∈ TBL) (hini : Cond.initialized (exn k) ∈ TBL) (hat : ∀ w ∈ vx_atS RX7 ic (exn k) NMS, w ∈ TBL ∨ w ∈ CSTW) (hgood : ∀ w ∈ Cond.classLink RX7 ik (exn k) :: Cond.initialized (exn k) :: vx_atS RX7 ic (exn k) NMS, vx_ot w = true) (hlev : 6 ≤ lev) (hc : X.2.2.2.1 + 1 ≤ mc) (hs : X.2.2.2.2.1 + 6 ≤ ms) (hst : (st.map fun v => v.category).sum ≤ 8) (d0 : decode cc pc = .ok (.new ik, 3)) (d3 : decode cc (pc + 3) = .ok (.dup, 1)) (d4 : decode cc (pc + 4) = .ok (.ldc_w is, 3)) (d6 : decode cc (pc + 7) = .ok (.invokespecial ic, 3)) (d9 : decode cc (pc + 10) = .ok (.athrow, 1)) : AW X pc lv st M := by
  intro H locs ls hl hP hS
  obtain ⟨⟨Qc, hQ⟩, hext, hlocks, hthr, htr, hA, hmc, hms⟩ := T
  obtain ⟨hz, hn, hstrs, hcst⟩ := id hthr
  obtain ⟨sa, hsa⟩ := hstrs _ hstr
  rw [hA] at hS
  rw [hQ]
  subst hM
  refine vx_throwSW (names := NMS) (A := AY X.2.1.2) S.1 S.2.1 htr S.2.2.2.1 hfit (fun n hn => ?_) (S.2.2.2.2.1 _ hcl) (S.2.2.2.2.1 _ hini) hsa (fun w hw => ?_) hgood hz hn hS (hl.1.trans (S.2.2.2.2.2.2.2.1.trans S.2.2.1.symm)) d0 d3 d4 d6 d9 (fun x hx => (hext x hx).elim) ?_ ?_ (Nat.le_trans hc hmc) (Nat.le_trans hs hms) hlocks (fun t hal hsz hsame => ?_) (fun z hz => hS.2.2 z hz) hc hs
  · have : n = "java/lang/RuntimeException" ∨ n = "java/lang/Exception" := by simpa [NMS] using hn
    rcases this with rfl | rfl <;> decide +kernel
  · rcases hat w hw with h | h
    · exact S.2.2.2.2.1 _ h
    · exact va_Nw.use (cst_tab h) (hcst w h)
  · have := S.2.2.2.2.2.2.2.2.1
    show 2 + 3 < _
    omega
  · have := S.2.2.2.2.2.2.2.2.2.1
    show _ + (13 * 3 + 43) ≤ _
    omega
  · refine ⟨(), trivial, ⟨⟨k, hk, rfl⟩, ?_⟩, Nat.le_trans hS.1 hsz, fun q h1 h2 => ?_⟩
    · exact hP.kept (fun i q hq => hsame q.1 (hP i q hq).lt)
    · rw [hsame q (Nat.lt_of_lt_of_le h1 hS.1)]; exact hS.2.1 q h1 h2
/-- the step over a call that may throw -/
def RX (X : Cx) (pc : Nat) (lv : List (Nat × Value)) (st : List Value) (M : Mem) (rest : List Value) (mc ms : Nat) (Qa : State → Outcome → State → Prop) (XC : String → State → State → Prop) : Prop :=
  ∀ (H : Heap) (locs : List Loc) (ls : Array Slot), lv_has ls X.2.2.1 lv → va_P X.2.1.2.1 vwCl (wl X.2.1.2 M) H → va_S X.2.1.1 X.1.2.2.2.2.1.heap H locs →
    vx_Run X.1.1 X.1.2.1 X.1.2.2.1 X.1.2.2.2.1 X.1.2.2.2.2.1 X.1.2.2.2.2.2.1 X.1.2.2.2.2.2.2.1 X.1.2.2.2.2.2.2.2.1 X.1.2.2.2.2.2.2.2.2.1 X.1.2.2.2.2.2.2.2.2.2 H locs X.2.2.2.1 X.2.2.2.2.1 mc ms (F0 X.1.2.2.2.2.2.1 pc ls st) rest Qa XC (AY X.2.1.2)
set_option maxHeartbeats 2000000 in
theorem xn_V {X : Cx} {cc : ByteArray} {own : String} {n lev : Nat} {G : List (Nat × Nat)} (S : CX X cc own n lev G) (hthr : THR X.2.1.2 X.1.2.2.2.2.1.heap X.1.2.2.2.2.1) (hA : X.2.1.1 = AY X.2.1.2) {pc : Nat} {lv : List (Nat × Value)} {st rest : List Value} {M : Mem} {y : MethodName} {b : ByteArray} {mL lev2 idx mc ms : Nat} {ret : Option FieldType} {As : List Value} {Qc : Array Value → State → Outcome → State → Prop} {XC : String → State → State → Prop} {o ci : Nat} {T : u_T} {N : Nat} {ty : Nat → FieldType} (F : FCl ci y.cls T N ty) (ho : kG G o = ci) (hM : vx_Met X.1.2.1 y (Cond.code y b mL ret :: TBL) (rmX lev2 mc ms) (va_Pc (.ref (hY X.2.1.2 + o) :: As) (PX X.2.1.2 M)) Qc XC mc ms (AY X.2.1.2)) (wd : WdV y b mL ret As.length) (hl9 : Cond.methodLink own idx y ∈ TBL) (hlev : lev2 < lev ∧ mL ≤ 21) (hcR : X.2.2.2.1 + mc ≤ X.1.2.2.2.1.cells ∧ X.2.2.2.2.1 + ms ≤ X.1.2.2.2.1.slots) (hst : st = As.reverse ++ .ref (hY X.2.1.2 + o) :: rest) (hrest : (rest.map fun v => v.category).sum ≤ 8) (d : decode cc pc = .ok (.invokevirtual idx, 3)) : RX X pc lv st M rest mc ms (Qc (.ref (hY X.2.1.2 + o) :: As).toArray) XC := fun H locs ls hl hP hS => vx_runV ⟨S.1, S.2.1, S.2.2.1, S.2.2.2.1, S.2.2.2.2.1⟩ hM ⟨⟨rfl, rfl, Nat.le_trans hlev.1 S.2.2.2.2.2.2.2.2.1, Nat.le_trans (by show 8 + (mL + 11) + 40 * lev2 ≤ 40 * lev; omega) S.2.2.2.2.2.2.2.2.2.1, hin_of S wd.1, List.mem_cons_self, S.2.2.2.2.1 _ wd.1, S.2.2.2.2.1 _ wd.2.2.2.1, wd.2.2.2.2.1, hlen_of wd.2.2.2.2.2, S.2.2.2.2.1 _ hl9⟩, S.2.2.2.2.1 _ wd.2.1, S.2.2.2.2.1 _ wd.2.2.1⟩ ⟨PX.blind, va_recv S.2.2.2.2.2.1 hP F.1 (wl_obj (gYX S) ho F.2.1), fun U hU hW => ⟨rfl, ⟨by rw [hU]; exact hP, va_K.moved hW.alike S.2.2.2.2.2.1, fun w hw => isN_warm (nst_is hw) hW (SN S w hw)⟩, by rw [hU]; exact hthr.go (by rw [← hA]; exact hS) hW⟩⟩ rfl rfl (hl.1.trans S.2.2.2.2.2.2.2.1) hst (lv_room hrest) d hcR
set_option maxHeartbeats 2000000 in
theorem xn_S {X : Cx} {cc : ByteArray} {own : String} {n lev : Nat} {G : List (Nat × Nat)} (S : CX X cc own n lev G) (hthr : THR X.2.1.2 X.1.2.2.2.2.1.heap X.1.2.2.2.2.1) (hA : X.2.1.1 = AY X.2.1.2) {pc : Nat} {lv : List (Nat × Value)} {st rest : List Value} {M : Mem} {y : MethodName} {b : ByteArray} {mL lev2 idx mc ms : Nat} {ret : Option FieldType} {As : List Value} {Qc : Array Value → State → Outcome → State → Prop} {XC : String → State → State → Prop} (hM : vx_Met X.1.2.1 y (Cond.code y b mL ret :: TBL) (rmX lev2 mc ms) (va_Pc As (PX X.2.1.2 M)) Qc XC mc ms (AY X.2.1.2)) (wd : WdS y b mL ret As.length) (hl9 : Cond.methodLink own idx y ∈ TBL) (hlev : lev2 < lev ∧ mL ≤ 21) (hcR : X.2.2.2.1 + mc ≤ X.1.2.2.2.1.cells ∧ X.2.2.2.2.1 + ms ≤ X.1.2.2.2.1.slots) (hst : st = As.reverse ++ rest) (hrest : (rest.map fun v => v.category).sum ≤ 8) (d : decode cc pc = .ok (.invokestatic idx, 3)) : RX X pc lv st M rest mc ms (Qc As.toArray) XC := fun H locs ls hl hP hS => vx_runS ⟨S.1, S.2.1, S.2.2.1, S.2.2.2.1, S.2.2.2.2.1⟩ hM ⟨⟨rfl, rfl, Nat.le_trans hlev.1 S.2.2.2.2.2.2.2.2.1, Nat.le_trans (by show 8 + (mL + 11) + 40 * lev2 ≤ 40 * lev; omega) S.2.2.2.2.2.2.2.2.2.1, hin_of S wd.1, List.mem_cons_self, S.2.2.2.2.1 _ wd.1, S.2.2.2.2.1 _ wd.2.2.1, wd.2.2.2.1, hlen_of wd.2.2.2.2, S.2.2.2.2.1 _ hl9⟩, S.2.2.2.2.1 _ wd.2.1⟩ ⟨PX.blind, fun U hU hW => ⟨rfl, ⟨by rw [hU]; exact hP, va_K.moved hW.alike S.2.2.2.2.2.1, fun w hw => isN_warm (nst_is hw) hW (SN S w hw)⟩, by rw [hU]; exact hthr.go (by rw [← hA]; exact hS) hW⟩⟩ rfl rfl (hl.1.trans S.2.2.2.2.2.2.2.1) hst (lv_room hrest) d hcR
set_option maxHeartbeats 2000000 in
theorem xc_I {X : Cx} {cc : ByteArray} {own : String} {n lev : Nat} {G : List (Nat × Nat)} (S : CX X cc own n lev G) {ks : Nat → Prop} {M1 : Mem} {mc ms : Nat} (T : TX X ks M1 mc ms) {pc : Nat} {lv : List (Nat × Value)} {st rest : List Value} {M M2 : Mem} {mc2 ms2 : Nat} {a : Array Value} (c9 s9 : Nat) (hc9 : X.2.2.2.1 + mc2 = c9) (hs9 : X.2.2.2.2.1 + ms2 = s9) (hc : c9 ≤ mc) (hs : s9 ≤ ms) {res : Int32 ⊕ Nat} (h : RX X pc lv st M rest mc2 ms2 (va_Qi (fun v (_ : Unit) => res = .inl v) (fun _ t => PU X.2.1.2 M2 t) (AY X.2.1.2) a) (XT X.2.1.2 (fun k => res = .inr k) M2)) (hprop : ∀ k, res = .inr k → ks k ∧ M2 = M1) (k9 : ∀ v, res = .inl v → AW (setX X c9 s9) (pc + 3) lv (.int v :: rest) M2) : AW X pc lv st M := fun H locs ls hl hP hS => vx_calli (h H locs ls hl hP hS) hS (fun q _ hq => S.2.2.2.2.2.2.1 q hq) (fun q hq => S.2.2.2.2.2.2.1 q hq) (fun q _ hq => S.2.2.2.2.2.2.1 q hq) (fun E ce q9 u t H1 locs1 ht hvm hp hB hz hk hS1 h1 h2 h3 => by
    obtain ⟨⟨Qc, hQ⟩, hext, hlocks, hthr, htr, hA, hmc, hms⟩ := T
    obtain ⟨⟨k, hk1, hE⟩, hP1⟩ := hB
    obtain ⟨hk2, hM2⟩ := hprop k hk1
    subst hM2
    rw [hQ]
    refine vx_out (fun x hx => (hext x hx).elim) hlocks h1 h2 h3 (fun t2 ht2 _ => ⟨(), trivial, ⟨⟨k, hk2, hE⟩, by rw [ht2, ← ht]; exact hP1⟩, (by rw [hA] at hS1; exact hS1.F ht2)⟩) (fun z hz => by rw [← hA]; exact hS1.2.2 z hz) (by omega) (by omega)) (fun r9 u t H1 locs1 ht hvm hp hB hz hk hS1 => by subst hc9; subst hs9; exact k9 r9 hp H1 locs1 ls hl (by rw [← ht]; exact hB.1) hS1)
set_option maxHeartbeats 2000000 in
theorem xc_L {X : Cx} {cc : ByteArray} {own : String} {n lev : Nat} {G : List (Nat × Nat)} (S : CX X cc own n lev G) {ks : Nat → Prop} {M1 : Mem} {mc ms : Nat} (T : TX X ks M1 mc ms) {pc : Nat} {lv : List (Nat × Value)} {st rest : List Value} {M M2 : Mem} {mc2 ms2 : Nat} {a : Array Value} (c9 s9 : Nat) (hc9 : X.2.2.2.1 + mc2 = c9) (hs9 : X.2.2.2.2.1 + ms2 = s9) (hc : c9 ≤ mc) (hs : s9 ≤ ms) {res : Int64 ⊕ Nat} (h : RX X pc lv st M rest mc2 ms2 (va_Ql (fun v (_ : Unit) => res = .inl v) (fun _ t => PU X.2.1.2 M2 t) (AY X.2.1.2) a) (XT X.2.1.2 (fun k => res = .inr k) M2)) (hprop : ∀ k, res = .inr k → ks k ∧ M2 = M1) (k9 : ∀ v, res = .inl v → AW (setX X c9 s9) (pc + 3) lv (.long v :: rest) M2) : AW X pc lv st M := fun H locs ls hl hP hS => vx_calll (h H locs ls hl hP hS) hS (fun q _ hq => S.2.2.2.2.2.2.1 q hq) (fun q hq => S.2.2.2.2.2.2.1 q hq) (fun q _ hq => S.2.2.2.2.2.2.1 q hq) (fun E ce q9 u t H1 locs1 ht hvm hp hB hz hk hS1 h1 h2 h3 => by
    obtain ⟨⟨Qc, hQ⟩, hext, hlocks, hthr, htr, hA, hmc, hms⟩ := T
    obtain ⟨⟨k, hk1, hE⟩, hP1⟩ := hB
    obtain ⟨hk2, hM2⟩ := hprop k hk1
    subst hM2
    rw [hQ]
    refine vx_out (fun x hx => (hext x hx).elim) hlocks h1 h2 h3 (fun t2 ht2 _ => ⟨(), trivial, ⟨⟨k, hk2, hE⟩, by rw [ht2, ← ht]; exact hP1⟩, (by rw [hA] at hS1; exact hS1.F ht2)⟩) (fun z hz => by rw [← hA]; exact hS1.2.2 z hz) (by omega) (by omega)) (fun r9 u t H1 locs1 ht hvm hp hB hz hk hS1 => by subst hc9; subst hs9; exact k9 r9 hp H1 locs1 ls hl (by rw [← ht]; exact hB.1) hS1)
set_option maxHeartbeats 2000000 in
theorem xc_D {X : Cx} {cc : ByteArray} {own : String} {n lev : Nat} {G : List (Nat × Nat)} (S : CX X cc own n lev G) {ks : Nat → Prop} {M1 : Mem} {mc ms : Nat} (T : TX X ks M1 mc ms) {pc : Nat} {lv : List (Nat × Value)} {st rest : List Value} {M M2 : Mem} {mc2 ms2 : Nat} {a : Array Value} (c9 s9 : Nat) (hc9 : X.2.2.2.1 + mc2 = c9) (hs9 : X.2.2.2.2.1 + ms2 = s9) (hc : c9 ≤ mc) (hs : s9 ≤ ms) {res : UInt64 ⊕ Nat} (h : RX X pc lv st M rest mc2 ms2 (va_Qd (fun v (_ : Unit) => res = .inl v) (fun _ t => PU X.2.1.2 M2 t) (AY X.2.1.2) a) (XT X.2.1.2 (fun k => res = .inr k) M2)) (hprop : ∀ k, res = .inr k → ks k ∧ M2 = M1) (k9 : ∀ v, res = .inl v → AW (setX X c9 s9) (pc + 3) lv (.double v :: rest) M2) : AW X pc lv st M := fun H locs ls hl hP hS => vx_calld (h H locs ls hl hP hS) hS (fun q _ hq => S.2.2.2.2.2.2.1 q hq) (fun q hq => S.2.2.2.2.2.2.1 q hq) (fun q _ hq => S.2.2.2.2.2.2.1 q hq) (fun E ce q9 u t H1 locs1 ht hvm hp hB hz hk hS1 h1 h2 h3 => by
    obtain ⟨⟨Qc, hQ⟩, hext, hlocks, hthr, htr, hA, hmc, hms⟩ := T
    obtain ⟨⟨k, hk1, hE⟩, hP1⟩ := hB
    obtain ⟨hk2, hM2⟩ := hprop k hk1
    subst hM2
    rw [hQ]
    refine vx_out (fun x hx => (hext x hx).elim) hlocks h1 h2 h3 (fun t2 ht2 _ => ⟨(), trivial, ⟨⟨k, hk2, hE⟩, by rw [ht2, ← ht]; exact hP1⟩, (by rw [hA] at hS1; exact hS1.F ht2)⟩) (fun z hz => by rw [← hA]; exact hS1.2.2 z hz) (by omega) (by omega)) (fun r9 u t H1 locs1 ht hvm hp hB hz hk hS1 => by subst hc9; subst hs9; exact k9 r9 hp H1 locs1 ls hl (by rw [← ht]; exact hB.1) hS1)
set_option maxHeartbeats 2000000 in
theorem xc_V {X : Cx} {cc : ByteArray} {own : String} {n lev : Nat} {G : List (Nat × Nat)} (S : CX X cc own n lev G) {ks : Nat → Prop} {M1 : Mem} {mc ms : Nat} (T : TX X ks M1 mc ms) {pc : Nat} {lv : List (Nat × Value)} {st rest : List Value} {M M2 : Mem} {mc2 ms2 : Nat} {a : Array Value} (c9 s9 : Nat) (hc9 : X.2.2.2.1 + mc2 = c9) (hs9 : X.2.2.2.2.1 + ms2 = s9) (hc : c9 ≤ mc) (hs : s9 ≤ ms) {res : Unit ⊕ Nat} (h : RX X pc lv st M rest mc2 ms2 (va_Qv (fun (_ : Unit) => res = .inl ()) (fun _ t => PU X.2.1.2 M2 t) (AY X.2.1.2) a) (XT X.2.1.2 (fun k => res = .inr k) M2)) (hprop : ∀ k, res = .inr k → ks k ∧ M2 = M1) (k9 : res = .inl () → AW (setX X c9 s9) (pc + 3) lv rest M2) : AW X pc lv st M := fun H locs ls hl hP hS => vx_callv (h H locs ls hl hP hS) hS (fun q _ hq => S.2.2.2.2.2.2.1 q hq) (fun q hq => S.2.2.2.2.2.2.1 q hq) (fun q _ hq => S.2.2.2.2.2.2.1 q hq) (fun E ce q9 u t H1 locs1 ht hvm hp hB hz hk hS1 h1 h2 h3 => by
    obtain ⟨⟨Qc, hQ⟩, hext, hlocks, hthr, htr, hA, hmc, hms⟩ := T
    obtain ⟨⟨k, hk1, hE⟩, hP1⟩ := hB
    obtain ⟨hk2, hM2⟩ := hprop k hk1
    subst hM2
    rw [hQ]
    refine vx_out (fun x hx => (hext x hx).elim) hlocks h1 h2 h3 (fun t2 ht2 _ => ⟨(), trivial, ⟨⟨k, hk2, hE⟩, by rw [ht2, ← ht]; exact hP1⟩, (by rw [hA] at hS1; exact hS1.F ht2)⟩) (fun z hz => by rw [← hA]; exact hS1.2.2 z hz) (by omega) (by omega)) (fun u t H1 locs1 ht hvm hp hB hz hk hS1 => by subst hc9; subst hs9; exact k9 hp H1 locs1 ls hl (by rw [← ht]; exact hB.1) hS1)
set_option maxHeartbeats 2000000 in
theorem mtx_I {l : Launch} {Y : Env1} {y : MethodName} {b : ByteArray} {mL lev mc ms : Nat} {own : String} {G : List (Nat × Nat)} {As : List Value} {M M1 : Mem} {res : Int32 ⊕ Nat} (hfl : l.stackTraces = false) (hy : plainName y.cls = true) (hown : y.cls = own) (hG : gY Y = G) (hlen : (lg_sl As).length ≤ mL)
    (body : ∀ X : Cx, (∀ c s, c ≤ mc → s ≤ ms → CX (setX X c s) b own mL lev G) → (∀ c s, TX (setX X c s) (fun k => res = .inr k) M1 mc ms) → X.2.1.2 = Y → X.1.2.1 = l → (∀ (c s : Nat) (pc : Nat) (lv : List (Nat × Value)) (v : Int32), c ≤ mc → s ≤ ms → decode b pc = .ok (.ireturn, 1) → res = .inl v → AW (setX X c s) pc lv [.int v] M1) → AW (setX X 0 0) 0 (lv_args 0 As) [] M) : TnI l Y y b mL .int lev mc ms As M res M1 := by
  refine vx_ofW (cc := b) (maxL := mL) (ret := (some .int)) hy rfl ?_
  intro p e s m args below meth c s₁ B hml hext hv
  obtain ⟨rfl, ⟨hP0, hK0, hN0⟩, hT0⟩ := hv
  have hx := B.exec
  have hb := B.bytes
  have hr := B.returns
  have hts := atoms_spec (ws := Cond.code y b mL (some .int) :: TBL) B.pre
  have hwn : s.vm.findClass own = some m.cls := by rw [← hown]; exact findClass_of_methodNamed B.named
  have hlocks : meth.locks = false := B.notSynchronized
  have hl := lv_entry As hlen
  rw [lg_entry_eq]
  generalize (lg_sl As ++ List.replicate (mL - (lg_sl As).length) Slot.unset).toArray = ls at hl ⊢
  refine body ((p, l, e, (headSpec (Cond.code y b mL (some .int) :: TBL) (rmX lev mc ms)).room, s, m, As.toArray, below, meth, c), (AY Y, Y), (mL, 0, 0, _)) (fun c9 s9 hc9 hs9 => ⟨hx, hb, hml, hwn, fun w h => hts w (List.mem_cons_of_mem _ h), hK0, fun _ h => h, rfl, Nat.le_refl _, Nat.le_refl _, hc9, hs9, hG, hN0⟩) (fun c9 s9 => ⟨⟨_, rfl⟩, hext, hlocks, hT0, hfl, rfl, Nat.le_refl _, Nat.le_refl _⟩) rfl rfl ?_ s.heap [] ls hl hP0 va_S.rf
  intro c9 s9 pc lv v hc9 hs9 hd hv2 H locs ls2 hl2 hP2 hS2
  refine W.widen hc9 hs9 (vx_ret (W.iret hx hb hr (fun t ht hW => ?_) (fun q hq => hS2.2.2 q hq) hd hlocks))
  refine ⟨⟨v, (), rfl, hv2, ?_⟩, hS2.F ht⟩
  exact ⟨by rw [ht]; exact hP2, va_K.moved hW.alike hK0, fun w hw => isN_warm (nst_is hw) hW (hN0 w hw)⟩
set_option maxHeartbeats 2000000 in
theorem mtx_Z {l : Launch} {Y : Env1} {y : MethodName} {b : ByteArray} {mL lev mc ms : Nat} {own : String} {G : List (Nat × Nat)} {As : List Value} {M M1 : Mem} {res : Int32 ⊕ Nat} (hfl : l.stackTraces = false) (hy : plainName y.cls = true) (hown : y.cls = own) (hG : gY Y = G) (hlen : (lg_sl As).length ≤ mL)
    (body : ∀ X : Cx, (∀ c s, c ≤ mc → s ≤ ms → CX (setX X c s) b own mL lev G) → (∀ c s, TX (setX X c s) (fun k => res = .inr k) M1 mc ms) → X.2.1.2 = Y → X.1.2.1 = l → (∀ (c s : Nat) (pc : Nat) (lv : List (Nat × Value)) (v : Int32), c ≤ mc → s ≤ ms → decode b pc = .ok (.ireturn, 1) → res = .inl (v &&& 1) → AW (setX X c s) pc lv [.int v] M1) → AW (setX X 0 0) 0 (lv_args 0 As) [] M) : TnI l Y y b mL .boolean lev mc ms As M res M1 := by
  refine vx_ofW (cc := b) (maxL := mL) (ret := (some .boolean)) hy rfl ?_
  intro p e s m args below meth c s₁ B hml hext hv
  obtain ⟨rfl, ⟨hP0, hK0, hN0⟩, hT0⟩ := hv
  have hx := B.exec
  have hb := B.bytes
  have hr := B.returns
  have hts := atoms_spec (ws := Cond.code y b mL (some .boolean) :: TBL) B.pre
  have hwn : s.vm.findClass own = some m.cls := by rw [← hown]; exact findClass_of_methodNamed B.named
  have hlocks : meth.locks = false := B.notSynchronized
  have hl := lv_entry As hlen
  rw [lg_entry_eq]
  generalize (lg_sl As ++ List.replicate (mL - (lg_sl As).length) Slot.unset).toArray = ls at hl ⊢
  refine body ((p, l, e, (headSpec (Cond.code y b mL (some .boolean) :: TBL) (rmX lev mc ms)).room, s, m, As.toArray, below, meth, c), (AY Y, Y), (mL, 0, 0, _)) (fun c9 s9 hc9 hs9 => ⟨hx, hb, hml, hwn, fun w h => hts w (List.mem_cons_of_mem _ h), hK0, fun _ h => h, rfl, Nat.le_refl _, Nat.le_refl _, hc9, hs9, hG, hN0⟩) (fun c9 s9 => ⟨⟨_, rfl⟩, hext, hlocks, hT0, hfl, rfl, Nat.le_refl _, Nat.le_refl _⟩) rfl rfl ?_ s.heap [] ls hl hP0 va_S.rf
  intro c9 s9 pc lv v hc9 hs9 hd hv2 H locs ls2 hl2 hP2 hS2
  refine W.widen hc9 hs9 (vx_ret (W_zretN hx hb hr (nar_bool v) (fun t ht hW => ?_) (fun q hq => hS2.2.2 q hq) hd hlocks))
  refine ⟨⟨_, (), rfl, hv2, ?_⟩, hS2.F ht⟩
  exact ⟨by rw [ht]; exact hP2, va_K.moved hW.alike hK0, fun w hw => isN_warm (nst_is hw) hW (hN0 w hw)⟩
set_option maxHeartbeats 2000000 in
theorem mtx_L {l : Launch} {Y : Env1} {y : MethodName} {b : ByteArray} {mL lev mc ms : Nat} {own : String} {G : List (Nat × Nat)} {As : List Value} {M M1 : Mem} {res : Int64 ⊕ Nat} (hfl : l.stackTraces = false) (hy : plainName y.cls = true) (hown : y.cls = own) (hG : gY Y = G) (hlen : (lg_sl As).length ≤ mL)
    (body : ∀ X : Cx, (∀ c s, c ≤ mc → s ≤ ms → CX (setX X c s) b own mL lev G) → (∀ c s, TX (setX X c s) (fun k => res = .inr k) M1 mc ms) → X.2.1.2 = Y → X.1.2.1 = l → (∀ (c s : Nat) (pc : Nat) (lv : List (Nat × Value)) (v : Int64), c ≤ mc → s ≤ ms → decode b pc = .ok (.lreturn, 1) → res = .inl v → AW (setX X c s) pc lv [.long v] M1) → AW (setX X 0 0) 0 (lv_args 0 As) [] M) : TnL l Y y b mL lev mc ms As M res M1 := by
  refine vx_ofW (cc := b) (maxL := mL) (ret := (some .long)) hy rfl ?_
  intro p e s m args below meth c s₁ B hml hext hv
  obtain ⟨rfl, ⟨hP0, hK0, hN0⟩, hT0⟩ := hv
  have hx := B.exec
  have hb := B.bytes
  have hr := B.returns
  have hts := atoms_spec (ws := Cond.code y b mL (some .long) :: TBL) B.pre
  have hwn : s.vm.findClass own = some m.cls := by rw [← hown]; exact findClass_of_methodNamed B.named
  have hlocks : meth.locks = false := B.notSynchronized
  have hl := lv_entry As hlen
  rw [lg_entry_eq]
  generalize (lg_sl As ++ List.replicate (mL - (lg_sl As).length) Slot.unset).toArray = ls at hl ⊢
  refine body ((p, l, e, (headSpec (Cond.code y b mL (some .long) :: TBL) (rmX lev mc ms)).room, s, m, As.toArray, below, meth, c), (AY Y, Y), (mL, 0, 0, _)) (fun c9 s9 hc9 hs9 => ⟨hx, hb, hml, hwn, fun w h => hts w (List.mem_cons_of_mem _ h), hK0, fun _ h => h, rfl, Nat.le_refl _, Nat.le_refl _, hc9, hs9, hG, hN0⟩) (fun c9 s9 => ⟨⟨_, rfl⟩, hext, hlocks, hT0, hfl, rfl, Nat.le_refl _, Nat.le_refl _⟩) rfl rfl ?_ s.heap [] ls hl hP0 va_S.rf
  intro c9 s9 pc lv v hc9 hs9 hd hv2 H locs ls2 hl2 hP2 hS2
  refine W.widen hc9 hs9 (vx_ret (W.lret hx hb hr (fun t ht hW => ?_) (fun q hq => hS2.2.2 q hq) hd hlocks))
  refine ⟨⟨v, (), rfl, hv2, ?_⟩, hS2.F ht⟩
  exact ⟨by rw [ht]; exact hP2, va_K.moved hW.alike hK0, fun w hw => isN_warm (nst_is hw) hW (hN0 w hw)⟩
set_option maxHeartbeats 2000000 in
theorem mtx_D {l : Launch} {Y : Env1} {y : MethodName} {b : ByteArray} {mL lev mc ms : Nat} {own : String} {G : List (Nat × Nat)} {As : List Value} {M M1 : Mem} {res : UInt64 ⊕ Nat} (hfl : l.stackTraces = false) (hy : plainName y.cls = true) (hown : y.cls = own) (hG : gY Y = G) (hlen : (lg_sl As).length ≤ mL)
    (body : ∀ X : Cx, (∀ c s, c ≤ mc → s ≤ ms → CX (setX X c s) b own mL lev G) → (∀ c s, TX (setX X c s) (fun k => res = .inr k) M1 mc ms) → X.2.1.2 = Y → X.1.2.1 = l → (∀ (c s : Nat) (pc : Nat) (lv : List (Nat × Value)) (v : UInt64), c ≤ mc → s ≤ ms → decode b pc = .ok (.dreturn, 1) → res = .inl v → AW (setX X c s) pc lv [.double v] M1) → AW (setX X 0 0) 0 (lv_args 0 As) [] M) : TnD l Y y b mL lev mc ms As M res M1 := by
  refine vx_ofW (cc := b) (maxL := mL) (ret := (some .double)) hy rfl ?_
  intro p e s m args below meth c s₁ B hml hext hv
  obtain ⟨rfl, ⟨hP0, hK0, hN0⟩, hT0⟩ := hv
  have hx := B.exec
  have hb := B.bytes
  have hr := B.returns
  have hts := atoms_spec (ws := Cond.code y b mL (some .double) :: TBL) B.pre
  have hwn : s.vm.findClass own = some m.cls := by rw [← hown]; exact findClass_of_methodNamed B.named
  have hlocks : meth.locks = false := B.notSynchronized
  have hl := lv_entry As hlen
  rw [lg_entry_eq]
  generalize (lg_sl As ++ List.replicate (mL - (lg_sl As).length) Slot.unset).toArray = ls at hl ⊢
  refine body ((p, l, e, (headSpec (Cond.code y b mL (some .double) :: TBL) (rmX lev mc ms)).room, s, m, As.toArray, below, meth, c), (AY Y, Y), (mL, 0, 0, _)) (fun c9 s9 hc9 hs9 => ⟨hx, hb, hml, hwn, fun w h => hts w (List.mem_cons_of_mem _ h), hK0, fun _ h => h, rfl, Nat.le_refl _, Nat.le_refl _, hc9, hs9, hG, hN0⟩) (fun c9 s9 => ⟨⟨_, rfl⟩, hext, hlocks, hT0, hfl, rfl, Nat.le_refl _, Nat.le_refl _⟩) rfl rfl ?_ s.heap [] ls hl hP0 va_S.rf
  intro c9 s9 pc lv v hc9 hs9 hd hv2 H locs ls2 hl2 hP2 hS2
  refine W.widen hc9 hs9 (vx_ret (W.dret hx hb hr (fun t ht hW => ?_) (fun q hq => hS2.2.2 q hq) hd hlocks))
  refine ⟨⟨v, (), rfl, hv2, ?_⟩, hS2.F ht⟩
  exact ⟨by rw [ht]; exact hP2, va_K.moved hW.alike hK0, fun w hw => isN_warm (nst_is hw) hW (hN0 w hw)⟩
set_option maxHeartbeats 2000000 in
theorem mtx_V {l : Launch} {Y : Env1} {y : MethodName} {b : ByteArray} {mL lev mc ms : Nat} {own : String} {G : List (Nat × Nat)} {As : List Value} {M M1 : Mem} {res : Unit ⊕ Nat} (hfl : l.stackTraces = false) (hy : plainName y.cls = true) (hown : y.cls = own) (hG : gY Y = G) (hlen : (lg_sl As).length ≤ mL)
    (body : ∀ X : Cx, (∀ c s, c ≤ mc → s ≤ ms → CX (setX X c s) b own mL lev G) → (∀ c s, TX (setX X c s) (fun k => res = .inr k) M1 mc ms) → X.2.1.2 = Y → X.1.2.1 = l → (∀ (c s : Nat) (pc : Nat) (lv : List (Nat × Value)), c ≤ mc → s ≤ ms → decode b pc = .ok (.return_, 1) → res = .inl () → AW (setX X c s) pc lv [] M1) → AW (setX X 0 0) 0 (lv_args 0 As) [] M) : TnV l Y y b mL lev mc ms As M res M1 := by
  refine vx_ofW (cc := b) (maxL := mL) (ret := none) hy rfl ?_
  intro p e s m args below meth c s₁ B hml hext hv
  obtain ⟨rfl, ⟨hP0, hK0, hN0⟩, hT0⟩ := hv
  have hx := B.exec
  have hb := B.bytes
  have hr := B.returns
  have hts := atoms_spec (ws := Cond.code y b mL none :: TBL) B.pre
  have hwn : s.vm.findClass own = some m.cls := by rw [← hown]; exact findClass_of_methodNamed B.named
  have hlocks : meth.locks = false := B.notSynchronized
  have hl := lv_entry As hlen
  rw [lg_entry_eq]
  generalize (lg_sl As ++ List.replicate (mL - (lg_sl As).length) Slot.unset).toArray = ls at hl ⊢
  refine body ((p, l, e, (headSpec (Cond.code y b mL none :: TBL) (rmX lev mc ms)).room, s, m, As.toArray, below, meth, c), (AY Y, Y), (mL, 0, 0, _)) (fun c9 s9 hc9 hs9 => ⟨hx, hb, hml, hwn, fun w h => hts w (List.mem_cons_of_mem _ h), hK0, fun _ h => h, rfl, Nat.le_refl _, Nat.le_refl _, hc9, hs9, hG, hN0⟩) (fun c9 s9 => ⟨⟨_, rfl⟩, hext, hlocks, hT0, hfl, rfl, Nat.le_refl _, Nat.le_refl _⟩) rfl rfl ?_ s.heap [] ls hl hP0 va_S.rf
  intro c9 s9 pc lv hc9 hs9 hd hv2 H locs ls2 hl2 hP2 hS2
  refine W.widen hc9 hs9 (vx_ret (W.vret hx hb hr (fun t ht hW => ?_) (fun q hq => hS2.2.2 q hq) hd hlocks))
  refine ⟨⟨(), rfl, hv2, ?_⟩, hS2.F ht⟩
  exact ⟨by rw [ht]; exact hP2, va_K.moved hW.alike hK0, fun w hw => isN_warm (nst_is hw) hW (hN0 w hw)⟩
