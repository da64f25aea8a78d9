/-! 99c.init: constructors, over worlds that grow -/
def wE (h : Nat) (es : List va_E) : va_W := es.mapIdx (fun o e => (h + o, e))
theorem wE_get {h i : Nat} {es : List va_E} {e : va_E} (hi : es[i]? = some e) : (wE h es)[i]? = some (h + i, e) := by simp [wE, hi]
theorem wE_len (h : Nat) (es : List va_E) : (wE h es).length = es.length := by simp [wE]
theorem wE_D (h : Nat) (es : List va_E) : va_D (fun q => h ≤ q) (wE h es) := by
  refine ⟨fun i j p q hi hj hpq => ?_, fun k q hk => ?_⟩
  · simp only [wE, List.getElem?_mapIdx, Option.map_eq_some_iff] at hi hj
    obtain ⟨a, -, rfl⟩ := hi
    obtain ⟨b, -, rfl⟩ := hj
    have : h + i = h + j := hpq
    omega
  · simp only [wE, List.getElem?_mapIdx, Option.map_eq_some_iff] at hk
    obtain ⟨a, ha, rfl⟩ := hk
    show h ≤ h + k
    omega
theorem wE_app (h : Nat) (es fs : List va_E) : wE h (es ++ fs) = wE h es ++ wE (h + es.length) fs := by
  unfold wE
  rw [List.mapIdx_append]
  congr 1
  apply List.ext_getElem?
  intro i
  simp only [List.getElem?_mapIdx]
  cases fs[i]? with
  | none => rfl
  | some e => simp; omega
theorem wE_set {h i : Nat} {es : List va_E} {e : va_E} : (wE h es).set i (h + i, e) = wE h (es.set i e) := by
  apply List.ext_getElem?
  intro j
  unfold wE
  rw [List.getElem?_mapIdx]
  by_cases hj : i = j
  · subst hj
    by_cases hl : i < es.length
    · rw [List.getElem?_set_self (by simpa using hl), List.getElem?_set_self hl]; rfl
    · rw [List.getElem?_eq_none (by simp; omega), List.getElem?_eq_none (by simp; omega)]; rfl
  · rw [List.getElem?_set_ne hj, List.getElem?_set_ne hj, List.getElem?_mapIdx]
abbrev stX (X : Cx) : State := X.1.2.2.2.2.1
def GPw (Y : Env1) (es : List va_E) : Heap → Prop := fun H => va_P Y.1 vwCl (wE (hY Y) es) H
/-- how many cells there are, from what is counted -/
theorem GPw.size {X : Cx} {es : List va_E} {H : Heap} (h : GPw X.2.1.2 es H) (hne : 0 < es.length) (hcnt : (stX X).heap.size + X.2.2.2.1 = hY X.2.1.2 + es.length) (hle : H.size ≤ (stX X).heap.size + X.2.2.2.1) : H.size = hY X.2.1.2 + es.length := by
  have hi : es[es.length - 1]? = some (es[es.length - 1]'(by omega)) := List.getElem?_eq_getElem (by omega)
  have := (h (es.length - 1) _ (wE_get hi)).lt
  have h2 : hY X.2.1.2 + (es.length - 1) < H.size := this
  omega
theorem g_size {X : Cx} {pc : Nat} {lv : List (Nat × Value)} {st : List Value} {P : Heap → Prop} (k9 : AG X pc lv st (fun H => P H ∧ H.size ≤ (stX X).heap.size + X.2.2.2.1)) : AG X pc lv st P := fun H locs ls hl hP hS T hT Z => k9 H locs ls hl ⟨hP, by rw [← hT]; exact Z.heapSize⟩ hS T hT Z
theorem i_new {X : Cx} {cc : ByteArray} {own : String} {n lev : Nat} {G : List (Nat × Nat)} (S : CX X cc own n lev G) {ci : Nat} {C : String} {T : u_T} {N : Nat} {ty : Nat → FieldType} (F : FCl ci C T N ty) {pc idx : Nat} {lv : List (Nat × Value)} {st : List Value} {es : List va_E} {fs : List Value} (hne : 0 < es.length) (hcnt : (stX X).heap.size + X.2.2.2.1 = hY X.2.1.2 + es.length)
    (hwl : Cond.classLink own idx C ∈ TBL) (hwi : Cond.instantiable C N ∈ TBL) (hwn : Cond.initialized C ∈ TBL) (hfs : ∀ j, j < N → defaultValue (ty j) = vp_V fs j) {c1 s1 : Nat} (hc1 : X.2.2.2.1 + 1 = c1) (hs1 : X.2.2.2.2.1 + N = s1) (hc : c1 ≤ X.1.2.2.2.1.cells) (hs : s1 ≤ X.1.2.2.2.1.slots) (d : decode cc pc = .ok (.new idx, 3))
    (k9 : AG (setX X c1 s1) (pc + 3) lv (.ref (hY X.2.1.2 + es.length) :: st) (GPw X.2.1.2 (es ++ [.inr (ci, fs)]))) : AG X pc lv st (GPw X.2.1.2 es) := by
  subst hc1
  subst hs1
  refine g_size (fun H locs ls hl hP hS => ?_)
  have hz := GPw.size hP.1 hne hcnt hP.2
  have hKn := S.2.2.2.2.2.1.1 ci _ F.1
  refine W.newcK S.1 S.2.1 S.2.2.2.1 (S.2.2.2.2.1 _ hwl) (S.2.2.2.2.1 _ hwi) (S.2.2.2.2.1 _ hwn) rfl d hc hs hKn.2.1 hz fun H1 kC hkC e1 z1 o1 => ?_
  have hk : ∀ (k : Nat) (x : Nat × va_E), (wE (hY X.2.1.2) es)[k]? = some x → H1[x.1]? = H[x.1]? := fun k x hx => o1 x.1 (by have := (hP.1 k x hx).lt; rw [hz] at this; exact this)
  refine k9 H1 locs ls hl ?_ ⟨Nat.le_trans hS.1 (by omega), fun x h1 h2 => (o1 x (by have := hS.1; have : x < (stX X).heap.size := h1; omega)).trans (hS.2.1 x h1 h2), hS.2.2⟩
  show va_P _ vwCl (wE (hY X.2.1.2) (es ++ [.inr (ci, fs)])) H1
  rw [wE_app]
  refine (va_P.kept hP.1 hk).app (fun k x hx => ?_)
  have hk1 : k < 1 := by simpa [wE] using (List.getElem?_eq_some_iff.mp hx).1
  obtain rfl : k = 0 := by omega
  cases hx
  exact ⟨_, F.1, (u_born ty S.2.2.2.2.1 F.2.2.1 hKn hkC e1 F.2.2.2.1).to hfs⟩
theorem i_narr {X : Cx} {cc : ByteArray} {own : String} {n lev : Nat} {G : List (Nat × Nat)} (S : CX X cc own n lev G) {pc N : Nat} {lv : List (Nat × Value)} {st : List Value} {es : List va_E} {atype : ArrayType} {nv : Int32} {cA0 : ClassId} {a0 : vp_A} (hne : 0 < es.length) (hcnt : (stX X).heap.size + X.2.2.2.1 = hY X.2.1.2 + es.length)
    (harr : Cond.arrayClass (newarray.typeOf atype) ∈ TBL) (hT : (stX X).vm.findClass ("[" ++ (newarray.typeOf atype).toString) = some cA0) (ha : ∀ cA : ClassId, vp_cell cA a0 = arrV cA N (fun _ => defaultValue (newarray.typeOf atype))) (hn : ¬ nv < 0) (hN : nv.toNatClampNeg = N) (hb : N * componentBytes (newarray.typeOf atype) ≤ 536870912) {c1 s1 : Nat} (hc1 : X.2.2.2.1 + 1 = c1) (hs1 : X.2.2.2.2.1 + N = s1) (hc : c1 ≤ X.1.2.2.2.1.cells) (hs : s1 ≤ X.1.2.2.2.1.slots) (d : decode cc pc = .ok (.newarray atype, 2))
    (k9 : AG (setX X c1 s1) (pc + 2) lv (.ref (hY X.2.1.2 + es.length) :: st) (GPw X.2.1.2 (es ++ [.inl (cA0, a0)]))) : AG X pc lv (.int nv :: st) (GPw X.2.1.2 es) := by
  subst hc1
  subst hs1
  refine g_size (fun H locs ls hl hP hS => ?_)
  have hz := GPw.size hP.1 hne hcnt hP.2
  refine va_newaK S.1 S.2.1 (S.2.2.2.2.1 _ harr) rfl d rfl hn hN hb hc hs hz fun H1 cA e1 z1 o1 hAr hNm => ?_
  obtain rfl : cA = cA0 := Option.some.inj (hNm.symm.trans hT)
  have hk : ∀ (k : Nat) (x : Nat × va_E), (wE (hY X.2.1.2) es)[k]? = some x → H1[x.1]? = H[x.1]? := fun k x hx => o1 x.1 (by have := (hP.1 k x hx).lt; rw [hz] at this; exact this)
  refine k9 H1 locs ls hl ?_ ⟨Nat.le_trans hS.1 (by omega), fun x h1 h2 => (o1 x (by have := hS.1; have : x < (stX X).heap.size := h1; omega)).trans (hS.2.1 x h1 h2), hS.2.2⟩
  show va_P _ vwCl (wE (hY X.2.1.2) (es ++ [.inl (cA, a0)])) H1
  rw [wE_app]
  refine (va_P.kept hP.1 hk).app (fun k x hx => ?_)
  have hk1 : k < 1 := by simpa [wE] using (List.getElem?_eq_some_iff.mp hx).1
  obtain rfl : k = 0 := by omega
  cases hx
  show H1[hY X.2.1.2 + es.length]? = some (vp_cell _ _)
  rw [ha]
  exact e1
theorem i_put {X : Cx} {cc : ByteArray} {own : String} {n lev : Nat} {G : List (Nat × Nat)} (S : CX X cc own n lev G) (hA : X.2.1.1 = fun q => hY X.2.1.2 ≤ q) (hin : X.1.2.2.2.2.2.2.2.2.1.name = "<init>") {ci : Nat} {T : u_T} {N : Nat} {ty : Nat → FieldType} (F : FCl ci own T N ty) {pc idx v : Nat} {lv : List (Nat × Value)} {st : List Value} {tl : List va_E} {fs : List Value} (k : Nat) (hk : k < N) (hw : Cond.fieldLink own idx (T k).1 (T k).2.1 (T k).2.2.1 ∈ TBL) (hfin : (T k).2.2.2 = true) (hdecl : (T k).1 = own) {rty : FieldType} (hd : parseFieldDescriptor (T k).2.2.1 = some rty) (hnar : narrow rty (.ref v) = .ref v) (hfit : fits rty (.ref v) = true) (hlen : k < fs.length) (d : decode cc pc = .ok (.putfield idx, 3))
    (k9 : AG X (pc + 3) lv st (GPw X.2.1.2 (.inr (ci, fs.set k (.ref v)) :: tl))) : AG X pc lv (.ref v :: .ref (hY X.2.1.2) :: st) (GPw X.2.1.2 (.inr (ci, fs) :: tl)) := fun H locs ls hl hP hS =>
  va_putF S.1 S.2.1 S.2.2.2.2.1 F.2.2.1 ty F.2.2.2.1 F.2.2.2.2.1 S.2.2.2.1 S.2.2.2.2.2.1 hP (show va_D X.2.1.1 (wE (hY X.2.1.2) (.inr (ci, fs) :: tl)) by rw [hA]; exact wE_D _ _) hS 0 (wE_get (i := 0) rfl) F.1 k hk (S.2.2.2.2.1 _ hw) (fun _ h9 => h9) hfin hin hdecl hd hnar hfit hlen d (fun H1 locs1 hP1 _ hS1 => k9 H1 locs1 ls hl (by
    have e : (wE (hY X.2.1.2) (.inr (ci, fs) :: tl)).set 0 (hY X.2.1.2 + 0, .inr (ci, fs.set k (.ref v))) = wE (hY X.2.1.2) (.inr (ci, fs.set k (.ref v)) :: tl) := wE_set
    rw [e] at hP1
    exact hP1) hS1)
theorem i_obj {X : Cx} {cc : ByteArray} {own : String} {n lev : Nat} {G : List (Nat × Nat)} (S : CX X cc own n lev G) (hlev : 1 ≤ lev) {pc idx a : Nat} {lv : List (Nat × Value)} {st : List Value} {P : Heap → Prop} (hw1 : Cond.methodLink own idx Lib.objectInit ∈ TBL) (hw2 : Cond.instanceMethod Lib.objectInit ∈ TBL) (hw3 : Cond.code Lib.objectInit ⟨#[0xb1]⟩ 1 none ∈ TBL) (hst : (st.map fun v => v.category).sum ≤ 8) (d : decode cc pc = .ok (.invokespecial idx, 3)) (k9 : AG X (pc + 3) lv st P) : AG X pc lv (.ref a :: st) P := fun H locs ls hl hP hS => by
  have h1 : 2 * (F0 X.1.2.2.2.2.2.1 pc ls (.ref a :: st)).monitorRoom + (st.map fun v => v.category).sum ≤ 8 := lv_room hst
  have h2 := S.2.2.2.2.2.2.2.2.2.1
  have h3 := S.2.2.2.2.2.2.2.2.1
  exact W.objInit S.1 S.2.1 S.2.2.2.1 (S.2.2.2.2.1 _ hw1) (S.2.2.2.2.1 _ hw2) (S.2.2.2.2.1 _ hw3) rfl ((hl.1.trans S.2.2.2.2.2.2.2.1).trans S.2.2.1.symm) rfl d (by omega) (by omega) (k9 H locs ls hl hP hS)
theorem i_mmax {X : Cx} {cc : ByteArray} {own : String} {n lev : Nat} {G : List (Nat × Nat)} (S : CX X cc own n lev G) {pc : Nat} {lv : List (Nat × Value)} {st : List Value} {P : Heap → Prop} {idx : Nat} {x y : Int32} (hw : Cond.methodLink own idx Lib.Math.max.name ∈ TBL) (hw2 : Cond.static Lib.Math.max.name ∈ TBL) (hw3 : Cond.initialized "java/lang/Math" ∈ TBL) (hw4 : Cond.code Lib.Math.max.name Lib.Math.max.code 2 (some .int) ∈ TBL) (hlev : 1 ≤ lev) (hst : (st.map fun v => v.category).sum ≤ 8) (d : decode cc pc = .ok (.invokestatic idx, 3)) (k9 : AG X (pc + 3) lv (.int (JM_max x y) :: st) P) : AG X pc lv (.int y :: .int x :: st) P := fun H locs ls hl hP hS => va_mmax S.1 S.2.1 (S.2.2.1.trans (hl.1.trans S.2.2.2.2.2.2.2.1).symm) S.2.2.2.1 (S.2.2.2.2.1 _ hw) (S.2.2.2.2.1 _ hw2) (S.2.2.2.2.1 _ hw3) (S.2.2.2.2.1 _ hw4) (by have := S.2.2.2.2.2.2.2.2.1; omega) (by have := S.2.2.2.2.2.2.2.2.2.1; omega) S.2.2.2.2.2.2.2.2.2.2.1 S.2.2.2.2.2.2.2.2.2.2.2.1 d (k9 H locs ls hl hP hS)
/-- a constructor's contract: the object alone at the start, all its cells at the end -/
def PIi (Y : Env1) (e : va_E) (U : State) : Prop := U.heap.size = hY Y + 1 ∧ va_P Y.1 vwCl (wE (hY Y) [e]) U.heap ∧ va_K Y.1 vwCl (tysY Y) U ∧ (∀ w ∈ NST, va_Nw w U) ∧ va_AO RX6 U
def Ini (l : Launch) (Y : Env1) (y : MethodName) (b : ByteArray) (mL lev mc ms : Nat) (As : List Value) (e : va_E) (sub : List va_E) : Prop := Met l y (Cond.code y b mL none :: TBL) (rmX lev mc ms) (va_Pc (.ref (hY Y) :: As) (PIi Y e)) (va_Qv (fun (_ : Unit) => True) (fun _ t => va_P Y.1 vwCl (wE (hY Y) sub) t.heap) (fun q => hY Y ≤ q)) mc ms (fun q => hY Y ≤ q)
theorem PIi.blind {Y : Env1} {e : va_E} {As : List Value} : FrameBlind (va_Pc As (PIi Y e)) := fun a U g mk q => by
  obtain ⟨q0, q1, qP, qK, qN, qO⟩ := q
  exact ⟨q0, q1, qP, va_K.moved (u := U) (U := U.calling g mk a) (Vm.Alike.refl U.vm) qK, fun w hw => va_Nw.same (isN_tab (nst_is hw)) (rfl : U.vm = (U.calling g mk a).vm) (qN w hw), va_AO.moved (u := U) (U := U.calling g mk a) (Vm.Alike.refl U.vm) qO⟩
def WdI (y : MethodName) (b : ByteArray) (mL : Nat) (nA : Nat) : Prop := Cond.code y b mL none ∈ TBL ∧ Cond.instanceMethod y ∈ TBL ∧ Cond.initialized y.cls ∈ TBL ∧ (y.cls ≠ "java/lang/invoke/MethodHandle" ∧ y.cls ≠ "java/lang/invoke/VarHandle") ∧ (parseMethodDescriptor y.desc).map (fun d => d.parameters.length) = some nA ∧ y.name = "<init>"
set_option maxHeartbeats 2000000 in
theorem i_call {X : Cx} {cc : ByteArray} {own : String} {n lev : Nat} {G : List (Nat × Nat)} (S : CX X cc own n lev G) (hA : ∀ q, hY X.2.1.2 ≤ q → X.2.1.1 q) (hAO : va_AO RX6 (stX X)) {pc idx mL lev2 mc ms : Nat} {lv : List (Nat × Value)} {st rest : List Value} {es sub : List va_E} {e : va_E} {y : MethodName} {b : ByteArray} {As : List Value} (hcnt : (stX X).heap.size + X.2.2.2.1 = hY X.2.1.2 + es.length + 1)
    (hM : Ini X.1.2.1 (X.2.1.2.1, X.2.1.2.2.1, [], hY X.2.1.2 + es.length) y b mL lev2 mc ms As e sub) (wd : WdI y b mL As.length) (hl9 : Cond.methodLink own idx y ∈ TBL ∨ ∃ host, Cond.methodLinkNest own idx y host ∈ NST) (hlev : lev2 < lev ∧ mL ≤ 21) {c1 s1 : Nat} (hc1 : X.2.2.2.1 + mc = c1) (hs1 : X.2.2.2.2.1 + ms = s1) (hc : c1 ≤ X.1.2.2.2.1.cells) (hs : s1 ≤ X.1.2.2.2.1.slots) (hst : st = As.reverse ++ .ref (hY X.2.1.2 + es.length) :: rest) (hrest : (rest.map fun v => v.category).sum ≤ 8) (d : decode cc pc = .ok (.invokespecial idx, 3))
    (k9 : AG (setX X c1 s1) (pc + 3) lv rest (GPw X.2.1.2 (es ++ sub))) : AG X pc lv st (GPw X.2.1.2 (es ++ [e])) := by
  subst hc1
  subst hs1
  refine g_size (fun H locs ls hl hP hS => ?_)
  have hz := GPw.size hP.1 (by simp) (by rw [hcnt]; simp; omega) hP.2
  have hz2 : H.size = hY X.2.1.2 + es.length + 1 := by rw [hz]; simp; omega
  have hsp : va_P X.2.1.2.1 vwCl (wE (hY X.2.1.2) es ++ wE (hY X.2.1.2 + es.length) [e]) H := by
    have := hP.1
    unfold GPw at this
    rw [wE_app] at this
    exact this
  have hE : va_P X.2.1.2.1 vwCl (wE (hY X.2.1.2 + es.length) [e]) H := fun k q hk => hsp ((wE (hY X.2.1.2) es).length + k) q (by rw [List.getElem?_append_right (by omega), Nat.add_sub_cancel_left]; exact hk)
  have hF : va_P X.2.1.2.1 vwCl (wE (hY X.2.1.2) es) H := fun k q hk => hsp k q (by rw [List.getElem?_append_left (List.getElem?_eq_some_iff.mp hk).1]; exact hk)
  have run : va_Run X.1.1 X.1.2.1 X.1.2.2.1 X.1.2.2.2.1 X.1.2.2.2.2.1 X.1.2.2.2.2.2.1 X.1.2.2.2.2.2.2.1 X.1.2.2.2.2.2.2.2.1 X.1.2.2.2.2.2.2.2.2.1 X.1.2.2.2.2.2.2.2.2.2 H locs X.2.2.2.1 X.2.2.2.2.1 mc ms (F0 X.1.2.2.2.2.2.1 pc ls st) rest (va_Qv (fun (_ : Unit) => True) (fun _ t => va_P X.2.1.2.1 vwCl (wE (hY X.2.1.2 + es.length) sub) t.heap) (fun q => hY X.2.1.2 + es.length ≤ q) (Value.ref (hY X.2.1.2 + es.length) :: As).toArray) (fun q => hY X.2.1.2 + es.length ≤ q) := by
    rcases hl9 with h9 | ⟨host, h9⟩
    · exact va_runI ⟨S.1, S.2.1, S.2.2.1, S.2.2.2.1, S.2.2.2.2.1⟩ hM ⟨⟨rfl, rfl, Nat.le_trans hlev.1 S.2.2.2.2.2.2.2.2.1, Nat.le_trans (by show 8 + (mL + 11) + 40 * lev2 ≤ 40 * lev; omega) S.2.2.2.2.2.2.2.2.2.1, hin_of S wd.1, List.mem_cons_self, S.2.2.2.2.1 _ wd.1, S.2.2.2.2.1 _ wd.2.2.1, wd.2.2.2.1, hlen_of wd.2.2.2.2.1, S.2.2.2.2.1 _ h9⟩, wd.2.2.2.2.2, S.2.2.2.2.1 _ wd.2.1⟩ ⟨PIi.blind, fun U hU hW => ⟨rfl, by rw [hU]; exact hz2, by rw [hU]; exact hE, va_K.moved hW.alike S.2.2.2.2.2.1, fun w hw => isN_warm (nst_is hw) hW (SN S w hw), va_AO.moved hW.alike hAO⟩⟩ rfl rfl (hl.1.trans S.2.2.2.2.2.2.2.1) hst (lv_room hrest) d ⟨hc, hs⟩
    · exact va_runIN ⟨S.1, S.2.1, S.2.2.1, S.2.2.2.1, S.2.2.2.2.1⟩ hM ⟨⟨⟨rfl, rfl, Nat.le_trans hlev.1 S.2.2.2.2.2.2.2.2.1, Nat.le_trans (by show 8 + (mL + 11) + 40 * lev2 ≤ 40 * lev; omega) S.2.2.2.2.2.2.2.2.2.1, hin_of S wd.1, List.mem_cons_self⟩, S.2.2.2.2.1 _ wd.1, S.2.2.2.2.1 _ wd.2.2.1, wd.2.2.2.1, hlen_of wd.2.2.2.2.1, va_Nw.use rfl (SN S _ h9)⟩, wd.2.2.2.2.2, S.2.2.2.2.1 _ wd.2.1⟩ ⟨PIi.blind, fun U hU hW => ⟨rfl, by rw [hU]; exact hz2, by rw [hU]; exact hE, va_K.moved hW.alike S.2.2.2.2.2.1, fun w hw => isN_warm (nst_is hw) hW (SN S w hw), va_AO.moved hW.alike hAO⟩⟩ rfl rfl (hl.1.trans S.2.2.2.2.2.2.2.1) hst (lv_room hrest) d ⟨hc, hs⟩
  refine va_callv run hS (fun q _ hq => hA q (Nat.le_trans (Nat.le_add_right _ _) hq)) (fun q hq => hA q (Nat.le_trans (Nat.le_add_right _ _) hq)) (fun u t H1 locs1 ht hvm hp hB hz9 hk hS1 => ?_)
  refine k9 H1 locs1 ls hl ?_ hS1
  show va_P _ vwCl (wE (hY X.2.1.2) (es ++ sub)) H1
  rw [wE_app]
  refine va_P.app (va_P.kept hF (fun k q hq => hk q.1 (hF k q hq).lt (fun z => ?_))) (by rw [← ht]; exact hB)
  have hlt : k < es.length := by have := (List.getElem?_eq_some_iff.mp hq).1; rw [wE_len] at this; exact this
  have e2 := wE_get (h := hY X.2.1.2) (List.getElem?_eq_getElem hlt)
  rw [hq] at e2
  have e3 : q.1 = hY X.2.1.2 + k := congrArg Prod.fst (Option.some.inj e2)
  omega
set_option maxHeartbeats 2000000 in
theorem met_ini {l : Launch} {Y : Env1} {y : MethodName} {b : ByteArray} {mL lev mc ms : Nat} {own : String} {As : List Value} {e : va_E} {sub : List va_E} (hy : plainName y.cls = true) (hown : y.cls = own) (hnm : y.name = "<init>") (hG : gY Y = []) (hlen : (lg_sl (.ref (hY Y) :: As)).length ≤ mL)
    (body : ∀ X : Cx, (∀ c s, c ≤ mc → s ≤ ms → CX (setX X c s) b own mL lev []) → X.2.1.2 = Y → X.1.2.1 = l → X.2.1.1 = (fun q => hY X.2.1.2 ≤ q) → (stX X).heap.size = hY X.2.1.2 + 1 → X.1.2.2.2.2.2.2.2.2.1.name = "<init>" → va_AO RX6 (stX X) → (∀ (pc : Nat) (lv : List (Nat × Value)), decode b pc = .ok (.return_, 1) → AG (setX X mc ms) pc lv [] (GPw Y sub)) → AG (setX X 0 0) 0 (lv_args 0 (.ref (hY Y) :: As)) [] (GPw Y [e])) : Ini l Y y b mL lev mc ms As e sub := by
  refine Met.ofW (cc := b) (maxL := mL) (ret := none) hy rfl ?_
  intro p ev s m args below meth c s₁ B hml hv
  obtain ⟨rfl, hsz, hP0, hK0, hN0, hO0⟩ := hv
  have hx := B.exec
  have hb := B.bytes
  have hr := B.returns
  have hts := atoms_spec (ws := Cond.code y b mL none :: TBL) B.pre
  have hwn : s.vm.findClass own = some m.cls := by rw [← hown]; exact findClass_of_methodNamed B.named
  have hlocks : meth.locks = false := B.notSynchronized
  have hin : meth.name = "<init>" := (name_of_methodNamed B.named B.method).1.trans hnm
  have hl := lv_entry (.ref (hY Y) :: As) hlen
  rw [lg_entry_eq]
  generalize (lg_sl (.ref (hY Y) :: As) ++ List.replicate (mL - (lg_sl (.ref (hY Y) :: As)).length) Slot.unset).toArray = ls at hl ⊢
  refine body ((p, l, ev, (headSpec (Cond.code y b mL none :: TBL) (rmX lev mc ms)).room, s, m, (.ref (hY Y) :: As).toArray, below, meth, c), ((fun q => hY Y ≤ q), Y), (mL, 0, 0, _)) (fun c1 s1 h1 h2 => ⟨hx, hb, hml, hwn, fun w h => hts w (List.mem_cons_of_mem _ h), hK0, fun q h => ?_, rfl, Nat.le_refl _, Nat.le_refl _, h1, h2, hG, hN0⟩) rfl rfl rfl hsz hin hO0 ?_ s.heap [] ls hl hP0 va_S.rf
  · obtain ⟨o, ho, rfl⟩ := h
    exact Nat.le_add_right _ _
  · intro pc lv hd H locs ls2 hl2 hP2 hS2
    exact W.vret hx hb hr (fun t ht hW => ⟨⟨(), rfl, trivial, by show va_P Y.1 vwCl (wE (hY Y) sub) t.heap; rw [ht]; exact hP2⟩, hS2.F ht⟩) (fun q hq => hS2.2.2 q hq) hd hlocks
/-- cells as they are born, and as a constructor leaves them -/
def dfl (k : Nat) : List Value := (fl k).map (fun t => if t.1 = 0 then .int 0 else if t.1 = 1 then .long 0 else .null)
def zfs (q k : Nat) : List Value := (fl k).map (fun t => if t.1 = 0 then .int 0 else if t.1 = 1 then .long 0 else .ref (q + t.2))
def zc (T3 : ClassId × ClassId × ClassId) (q : Nat) (t : Nat × Nat) : va_E := if t.1 = 9 then .inl (T3.1, t.2, .inl (fun _ => 0)) else if t.1 = 10 then .inl (T3.2.1, t.2, .inr (.inl (fun _ => 0))) else .inr (t.1, zfs q t.1)
def zs (T3 : ClassId × ClassId × ClassId) (q : Nat) (G : List (Nat × Nat)) : List va_E := G.mapIdx (fun o t => zc T3 (q + o) t)
theorem zs_len (T3 : ClassId × ClassId × ClassId) (q : Nat) (G : List (Nat × Nat)) : (zs T3 q G).length = G.length := by simp [zs]
theorem zs_app (T3 : ClassId × ClassId × ClassId) (q : Nat) (G G2 : List (Nat × Nat)) : zs T3 q (G ++ G2) = zs T3 q G ++ zs T3 (q + G.length) G2 := by
  unfold zs
  rw [List.mapIdx_append]
  congr 1
  apply List.ext_getElem?
  intro i
  simp only [List.getElem?_mapIdx]
  cases G2[i]? with
  | none => rfl
  | some e => simp only [Option.map_some]; rw [show q + (i + G.length) = q + G.length + i by omega]
theorem zs_cons (T3 : ClassId × ClassId × ClassId) (q : Nat) (t : Nat × Nat) (G : List (Nat × Nat)) : zs T3 q (t :: G) = zc T3 q t :: zs T3 (q + 1) G := by
  rw [show t :: G = [t] ++ G from rfl, zs_app]
  rfl
theorem CX_c {X : Cx} {cc : ByteArray} {own : String} {n lev : Nat} {G : List (Nat × Nat)} (S : CX X cc own n lev G) : X.2.2.2.1 ≤ X.1.2.2.2.1.cells := S.2.2.2.2.2.2.2.2.2.2.1
theorem CX_s {X : Cx} {cc : ByteArray} {own : String} {n lev : Nat} {G : List (Nat × Nat)} (S : CX X cc own n lev G) : X.2.2.2.2.1 ≤ X.1.2.2.2.1.slots := S.2.2.2.2.2.2.2.2.2.2.2.1
theorem i_sipush {X : Cx} {cc : ByteArray} {own : String} {n lev : Nat} {G : List (Nat × Nat)} (S : CX X cc own n lev G) {pc : Nat} {lv : List (Nat × Value)} {st : List Value} {P : Heap → Prop} {c : Int} (v : Int32) (d : decode cc pc = .ok (.sipush c, 3)) (hv : (Int16.ofInt c).toInt32 = v) (k9 : AG X (pc + 3) lv (.int v :: st) P) : AG X pc lv st P := fun H locs ls hl hP hS => lv_sipush S.1 S.2.1 d hv (k9 H locs ls hl hP hS)
set_option maxHeartbeats 2000000 in
/-- a field that gets an object of its own -/
theorem i_sub {X : Cx} {cc : ByteArray} {own : String} {n lev mcT msT : Nat} (S : ∀ c s, c ≤ mcT → s ≤ msT → CX (setX X c s) cc own n lev []) (hA : X.2.1.1 = fun q => hY X.2.1.2 ≤ q) (hs0 : (stX X).heap.size = hY X.2.1.2 + 1) (hin : X.1.2.2.2.2.2.2.2.2.1.name = "<init>") (hAO : va_AO RX6 (stX X)) {k : Nat} {T : u_T} {N : Nat} {ty : Nat → FieldType} (F : FCl k own T N ty) {k2 : Nat} {C2 : String} {T2 : u_T} {N2 : Nat} {ty2 : Nat → FieldType} (F2 : FCl k2 C2 T2 N2 ty2) {fs : List Value} {G G2 : List (Nat × Nat)} {c s mL lev2 ms : Nat} {y : MethodName} {b : ByteArray} {As : List Value} {lv : List (Nat × Value)} (hlv : lv[0]? = some (0, .ref (hY X.2.1.2))) (pc pc5 : Nat) {i1 i2 i3 : Nat} (fk : Nat)
    (hc : c = G.length) (hcT : c + G2.length ≤ mcT) (hsT : s + N2 + ms ≤ msT) (hG2 : 0 < G2.length)
    (hM : ∀ Y : Env1, gY Y = [] → Ini X.1.2.1 Y y b mL lev2 (G2.length - 1) ms As (.inr (k2, dfl k2)) (zs Y.2.1 (hY Y) G2))
    (wd : WdI y b mL As.length) (hl9 : Cond.methodLink own i2 y ∈ TBL ∨ ∃ host, Cond.methodLinkNest own i2 y host ∈ NST) (hlev : lev2 < lev ∧ mL ≤ 21)
    (hwl : Cond.classLink own i1 C2 ∈ TBL) (hwi : Cond.instantiable C2 N2 ∈ TBL) (hwn : Cond.initialized C2 ∈ TBL) (hdf : ∀ j, j < N2 → defaultValue (ty2 j) = vp_V (dfl k2) j)
    (hw : Cond.fieldLink own i3 (T fk).1 (T fk).2.1 (T fk).2.2.1 ∈ TBL) (hfk : fk < N) (hfin : (T fk).2.2.2 = true) (hdecl : (T fk).1 = own) {rty : FieldType} (hd : parseFieldDescriptor (T fk).2.2.1 = some rty) (hnar : ∀ v, narrow rty (.ref v) = .ref v) (hfit : ∀ v, fits rty (.ref v) = true) (hlen : fk < fs.length)
    (d0 : decode cc pc = .ok (.aload_n 0, 1)) (d1 : decode cc (pc + 1) = .ok (.new i1, 3)) (d4 : decode cc (pc + 4) = .ok (.dup, 1))
    (hpush : ∀ c1 s1, c1 ≤ mcT → s1 ≤ msT → ∀ (st : List Value) (P : Heap → Prop), AG (setX X c1 s1) pc5 lv (As.reverse ++ st) P → AG (setX X c1 s1) (pc + 5) lv st P)
    (d5 : decode cc pc5 = .ok (.invokespecial i2, 3)) (d8 : decode cc (pc5 + 3) = .ok (.putfield i3, 3))
    (k9 : AG (setX X (c + G2.length) (s + N2 + ms)) (pc5 + 3 + 3) lv [] (GPw X.2.1.2 (.inr (k, fs.set fk (.ref (hY X.2.1.2 + 1 + G.length))) :: zs X.2.1.2.2.1 (hY X.2.1.2 + 1) (G ++ G2)))) :
    AG (setX X c s) pc lv [] (GPw X.2.1.2 (.inr (k, fs) :: zs X.2.1.2.2.1 (hY X.2.1.2 + 1) G)) := by
  have S0 := S c s (by omega) (by omega)
  have S1 := S (c + 1) (s + N2) (by omega) (by omega)
  have S2 := S (c + G2.length) (s + N2 + ms) hcT hsT
  have hlen1 : ((.inr (k, fs) :: zs X.2.1.2.2.1 (hY X.2.1.2 + 1) G : List va_E)).length = G.length + 1 := by rw [List.length_cons, zs_len]
  have hq : hY X.2.1.2 + ((.inr (k, fs) :: zs X.2.1.2.2.1 (hY X.2.1.2 + 1) G : List va_E)).length = hY X.2.1.2 + 1 + G.length := by rw [hlen1]; omega
  refine g_aload_n S0 d0 0 hlv ?_
  refine i_new (X := setX X c s) (es := .inr (k, fs) :: zs X.2.1.2.2.1 (hY X.2.1.2 + 1) G) (fs := dfl k2) (c1 := c + 1) (s1 := s + N2) S0 F2 (by rw [hlen1]; omega) (by show (stX X).heap.size + c = hY X.2.1.2 + _; rw [hlen1, hs0]; omega) hwl hwi hwn hdf rfl rfl (CX_c S1) (CX_s S1) d1 ?_
  refine g_dup S1 d4 rfl ?_
  refine hpush _ _ (by omega) (by omega) _ _ ?_
  refine i_call (X := setX X (c + 1) (s + N2)) (es := .inr (k, fs) :: zs X.2.1.2.2.1 (hY X.2.1.2 + 1) G) (c1 := c + G2.length) (s1 := s + N2 + ms) (rest := [.ref (hY X.2.1.2 + ((.inr (k, fs) :: zs X.2.1.2.2.1 (hY X.2.1.2 + 1) G : List va_E)).length), .ref (hY X.2.1.2)]) S1 (fun q h => by show X.2.1.1 q; rw [hA]; exact h) hAO (by show (stX X).heap.size + (c + 1) = hY X.2.1.2 + _ + 1; rw [hlen1, hs0]; omega) (hM (X.2.1.2.1, X.2.1.2.2.1, [], hY X.2.1.2 + ((.inr (k, fs) :: zs X.2.1.2.2.1 (hY X.2.1.2 + 1) G : List va_E)).length) rfl) wd hl9 hlev (by show c + 1 + (G2.length - 1) = c + G2.length; omega) rfl (CX_c S2) (CX_s S2) rfl (Nat.le_of_ble_eq_true rfl) d5 ?_
  have e9 : zs X.2.1.2.2.1 (hY X.2.1.2 + 1) G ++ zs X.2.1.2.2.1 (hY X.2.1.2 + ((.inr (k, fs) :: zs X.2.1.2.2.1 (hY X.2.1.2 + 1) G : List va_E)).length) G2 = zs X.2.1.2.2.1 (hY X.2.1.2 + 1) (G ++ G2) := by rw [hq, zs_app]
  show AG (setX X (c + G2.length) (s + N2 + ms)) (pc5 + 3) lv [.ref (hY X.2.1.2 + ((.inr (k, fs) :: zs X.2.1.2.2.1 (hY X.2.1.2 + 1) G : List va_E)).length), .ref (hY X.2.1.2)] (GPw X.2.1.2 (.inr (k, fs) :: (zs X.2.1.2.2.1 (hY X.2.1.2 + 1) G ++ zs X.2.1.2.2.1 (hY X.2.1.2 + ((.inr (k, fs) :: zs X.2.1.2.2.1 (hY X.2.1.2 + 1) G : List va_E)).length) G2)))
  rw [e9, hq]
  exact i_put (X := setX X (c + G2.length) (s + N2 + ms)) S2 hA hin F fk hfk hw hfin hdecl hd (hnar _) (hfit _) hlen d8 k9
