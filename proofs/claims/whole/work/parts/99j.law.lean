/-! 99j.law: the law from its start; what stands before and behind began as kit/laws/SKELETON.whole.lean.txt -/
/-! THE CLAIM OUT OF ONE WALK OF THE LAW'S BODY. Your part is whole_start (and what it stands on); all else here is the same for every law, but numbers. -/
def R_law : String := "LakeLevelsLaw"
def lw_P (b : Addr) (xs : List Int32) (args : Array Value) (s : State) : Prop := args = #[.ref b] ∧ s.IntsAt b xs ∧ xs.length ≤ 2048 ∧ (Jvm.Cond.and given_1 narrow_1).before args s = true
/-- what a walk over the start with the record d0 says of its end, said of the start itself -/
theorem lw_closed {s t : State} {o : Outcome} {d0 : Drawn} {L : List Loc} {k n : Nat} (hd0 : s.drawn.sameBut d0 lw_cs) (hv : ∃ v, o = .returned v) (hW : (s.setDrawn d0).WarmedH t.vm) (hs : (s.setDrawn d0).sameButNew ({ t with vm := s.vm } : State) L k n) : State.butDraws s t lw_cs (fun t1 => Framed s o t1 L k n) := by
  have h2 : t.drawn = d0 := congrArg State.drawn hs.1
  refine ⟨⟨hv, hW, State.sameButNew.setDrawn hs s.drawn⟩, ?_, by decide⟩
  rw [h2]
  exact hd0
def lw_Q (_ : Array Value) (s : State) (o : Outcome) (t : State) : Prop := o = .returned (some (.int 1)) ∧ State.butDraws s t lw_cs (fun t1 => Framed s o t1 [] 601024 7293034)
def lw_Z (below : List Frame) (a : Array Value) (s : State) : State → Prop := fun t => ∃ o, t.status = .running ∧ Ended t below o ∧ lw_Q a s o t
/-- the law's own end, with 1 on the stack, nothing written that was there before, its room as the claim has it; d0: the record of draws at this point (at the entry s.drawn: begin with 'refine W.base ?_' and 'have hd0 := Drawn.sameBut.refl s.drawn lw_cs') -/
theorem lw_ret {p : Program} {l : Launch} {e : Env} {s : State} {m : MethodId} {below : List Frame} {meth : Method} {c : Code} {b : Nat} {d0 : Drawn} (hd0 : s.drawn.sameBut d0 lw_cs) (hx : p.tables.exec = Jvm.exec) (hb : c.code = code) (hr : meth.sig.returnType = ret) (hlocks : meth.locks = false) {pc : Nat} {H : Heap} {ls : Array Slot} (hdg : decode code pc = .ok (.ireturn, 1)) : W p l e room_1 (s.setDrawn d0) m #[Value.ref b] below meth c H [] 601024 7293034 (lw_Z below #[Value.ref b] s) (F0 m pc ls [.int 1]) := by
  intro T hT X
  obtain ⟨fs, hret, hrun, hended, hW, hframe⟩ := X.leave (v := some (.int 1)) (hlocks := hlocks) (fun h => by rw [hr] at h; cases h)
  have hmeth' : T.vm.method? m = some meth := X.method'
  refine ⟨T.setFrames fs, ?_, .returned (some (.int 1)), hrun, hended, rfl, lw_closed hd0 ⟨_, rfl⟩ hW hframe⟩
  jvm_step X.here [X.here.top, hx, hb, hdg, hmeth', hr, ret, narrow_b1]
  (try refine ⟨rfl, ?_⟩); (try refine ⟨rfl, ?_⟩)
  first | (intro acts; rw [hret _ acts rfl rfl rfl]) | rw [hret _ _ rfl rfl rfl]
  exact Steps.refl _
/-- what holds at the law's entry: the machine, the code, the tables' words (any of lw_tbl by 'hts w (by decide +kernel)'), the script of L ints xs at the cell b, what the Statement gives of the start (any of its parts by flat_of_before) -/
def lw_At (p : Program) (s : State) (m : MethodId) (meth : Method) (c : Code) (b L : Nat) (xs : Nat → Int32) : Prop :=
  p.tables.exec = Jvm.exec ∧ c.code = code ∧ meth.sig.returnType = ret ∧ c.maxLocals = 9 ∧ s.vm.findClass R_law = some m.cls ∧ (∀ w ∈ lw_tbl, w.before #[Value.ref b] s = true) ∧ va_X b L xs s s.heap ∧ b < s.heap.size ∧ meth.locks = false ∧ (Jvm.Cond.and given_1 narrow_1).before #[Value.ref b] s = true
theorem st_not {s : State} {args : Array Value} (hgv : (Jvm.Cond.and given_1 narrow_1).before args s = true) : va_Nc (exn 2) (exn 1) s ∧ va_Nc (exn 3) (exn 1) s ∧ va_Nc (exn 3) (exn 2) s := by
  have hs := flat_of_before _ hgv
  exact ⟨va_Nc.of (hs (.not (.castable "java/lang/IllegalArgumentException" "java/lang/IndexOutOfBoundsException")) (by decide +kernel)), va_Nc.of (hs (.not (.castable "java/lang/IllegalStateException" "java/lang/IndexOutOfBoundsException")) (by decide +kernel)), va_Nc.of (hs (.not (.castable "java/lang/IllegalStateException" "java/lang/IllegalArgumentException")) (by decide +kernel))⟩
theorem st_ref {s : State} {b : Nat} (hts : ∀ w ∈ lw_tbl, w.before #[Value.ref b] s = true) (hgv : (Jvm.Cond.and given_1 narrow_1).before #[Value.ref b] s = true) : ∀ q ∈ STRS, ∃ sa, vk_R RX7 q.1 q.2 sa s := by
  have hs := flat_of_before _ hgv
  have one : ∀ (k : Nat) (tx : String), (Cond.stringRef RX7 k tx).before #[Value.ref b] s = true → (Cond.exactly (.string RX7 k) "java/lang/String").before #[Value.ref b] s = true → ∃ sa, vk_R RX7 k tx sa s := by
    intro k tx h1 h2
    obtain ⟨a, _, _, _, ha, _⟩ := Cond.exactly_spec h2
    exact ⟨a, vk_R.of h1 ha⟩
  intro q hq
  simp only [STRS, List.mem_cons, List.not_mem_nil, or_false] at hq
  rcases hq with rfl | rfl | rfl | rfl | rfl | rfl | rfl
  · exact one 202 _ (hts _ (List.mem_append_right _ (tz_5 (List.mem_of_getElem? (i := 16) rfl)))) (hs (.exactly (.string "LakeLevels" 202) "java/lang/String") (by decide +kernel))
  · exact one 220 _ (hts _ (List.mem_append_right _ (tz_5 (List.mem_of_getElem? (i := 28) rfl)))) (hs (.exactly (.string "LakeLevels" 220) "java/lang/String") (by decide +kernel))
  · exact one 248 _ (hts _ (List.mem_append_right _ (tz_4 (List.mem_of_getElem? (i := 30) rfl)))) (hs (.exactly (.string "LakeLevels" 248) "java/lang/String") (by decide +kernel))
  · exact one 251 _ (hts _ (List.mem_append_right _ (tz_4 (List.mem_of_getElem? (i := 70) rfl)))) (hs (.exactly (.string "LakeLevels" 251) "java/lang/String") (by decide +kernel))
  · exact one 253 _ (hts _ (List.mem_append_right _ (tz_4 (List.mem_of_getElem? (i := 183) rfl)))) (hs (.exactly (.string "LakeLevels" 253) "java/lang/String") (by decide +kernel))
  · exact one 259 _ (hts _ (List.mem_append_right _ (tz_4 (List.mem_of_getElem? (i := 132) rfl)))) (hs (.exactly (.string "LakeLevels" 259) "java/lang/String") (by decide +kernel))
  · exact one 263 _ (hts _ (List.mem_append_right _ (tz_3 (List.mem_of_getElem? (i := 221) rfl)))) (hs (.exactly (.string "LakeLevels" 263) "java/lang/String") (by decide +kernel))
theorem st_THB {s : State} {b : Nat} (hts : ∀ w ∈ lw_tbl, w.before #[Value.ref b] s = true) (hgv : (Jvm.Cond.and given_1 narrow_1).before #[Value.ref b] s = true) : THB (fun q => s.heap.size ≤ q) s.heap s := by
  have hs := flat_of_before _ hgv
  refine ⟨vx_Zqof (hts _ (List.mem_append_right _ (tz_3 (List.mem_of_getElem? (i := 207) rfl)))) (hts _ (List.mem_append_right _ (tz_1 (List.mem_of_getElem? (i := 14) rfl)))) (hs (.isRef (.static "java/lang/Throwable" "UNASSIGNED_STACK" "[Ljava/lang/StackTraceElement;")) (by decide +kernel)) (fun a h => Nat.not_le.mpr h), vx_Zqof (hts _ (List.mem_append_right _ (tz_3 (List.mem_of_getElem? (i := 209) rfl)))) (hts _ (List.mem_append_right _ (tz_1 (List.mem_of_getElem? (i := 14) rfl)))) (hs (.isRef (.static "java/lang/Throwable" "SUPPRESSED_SENTINEL" "Ljava/util/List;")) (by decide +kernel)) (fun a h => Nat.not_le.mpr h), st_ref hts hgv, ?_⟩
  intro w hw
  have hot := cst_tab hw
  simp only [CSTW, List.mem_cons, List.not_mem_nil, or_false] at hw
  rcases hw with rfl | rfl | rfl | rfl | rfl | rfl
  · exact va_Nw.of hot (hts _ (List.mem_append_right _ (tz_4 (List.mem_of_getElem? (i := 23) rfl))))
  · exact va_Nw.of hot (hts _ (List.mem_append_right _ (tz_3 (List.mem_of_getElem? (i := 182) rfl))))
  · exact va_Nw.of hot (hts _ (List.mem_append_right _ (tz_4 (List.mem_of_getElem? (i := 125) rfl))))
  · exact va_Nw.of hot (hts _ (List.mem_append_right _ (tz_3 (List.mem_of_getElem? (i := 184) rfl))))
  · exact va_Nw.of hot (hts _ (List.mem_append_right _ (tz_3 (List.mem_of_getElem? (i := 186) rfl))))
  · exact va_Nw.of hot (hts _ (List.mem_append_right _ (tz_3 (List.mem_of_getElem? (i := 188) rfl))))
/-- what the law's walk may use, at its start -/
theorem st_LX {p : Program} {e : Env} {s : State} {m : MethodId} {below : List Frame} {meth : Method} {c : Code} (l : Launch) (hflags : l.flags = flags0) {b L : Nat} {xs : Nat → Int32} (hL : L ≤ 2048) (C0 : lw_At p s m meth c b L xs) {D : va_G} {T3 : ClassId × ClassId × ClassId} {cD : ClassId} (hK : ∀ (G : List (Nat × Nat)) (h : Nat), va_K D vwCl (tysY (D, T3, G, h)) s) (hKd : va_K D vwCl [(cD, .double)] s) : LX (((p, l, e, room_1, s, m, #[Value.ref b], below, meth, c), ((fun q => s.heap.size ≤ q), (D, T3, gC, s.heap.size)), (9, 0, 0, lw_Z below #[Value.ref b] s)) : Cx) b L xs cD := by
  obtain ⟨hx, hb, hr, hml, hown, hts, hX, hbl, hlocks, hgv⟩ := id C0
  obtain ⟨n1, n2, n3⟩ := st_not hgv
  refine ⟨fun c1 s1 h1 h2 => ⟨hx, hb, hml, hown, fun w h => hts w (tb_in h), hK gC s.heap.size, fun q hq => ?_, rfl, Nat.le_of_ble_eq_true rfl, Nat.le_of_ble_eq_true rfl, h1, h2, rfl, fun w hw => va_Nw.of (isN_tab (nst_is hw)) (hts w (List.mem_append_right _ (List.mem_filter.mp hw).1))⟩, rfl, rfl, hX, hbl, hL, st_THB hts hgv, hKd, n1, n2, n3, ?_, rfl, rfl⟩
  · obtain ⟨o, _, rfl⟩ := hq
    exact Nat.le_add_right _ _
  · show (!l.flags.contains noTraceFlag) = false
    rw [hflags]
    decide +kernel
theorem whole_start {p : Program} {e : Env} {s : State} {m : MethodId} {below : List Frame} {meth : Method} {c : Code} (l : Launch) (hflags : l.flags = flags0) {b L : Nat} {xs : Nat → Int32} (hL : L ≤ 2048) (C0 : lw_At p s m meth c b L xs) : W p l e room_1 s m #[Value.ref b] below meth c s.heap [] 0 0 (lw_Z below #[Value.ref b] s) (entryFrame m ([Value.ref b] : List Value).toArray 9) := by
  obtain ⟨hx, hb, hr, hml, hown, hts, hX, hbl, hlocks, hgv⟩ := id C0
  obtain ⟨D, T3, cD, hK, hKd, hAO⟩ := st_K hts
  have hd0 := Drawn.sameBut.refl s.drawn lw_cs
  have Z := st_LX (p := p) (e := e) (m := m) (below := below) (meth := meth) (c := c) l hflags hL C0 hK hKd
  have k0 := w_all Z hAO (fun c1 s1 i Mc Mm vo vd hc1 hs1 => by
    refine g_iconst (Z.1 c1 s1 hc1 hs1) (1 : Int32) dL_law_1697 rfl ?_
    intro H locs ls hl hP hS
    exact va_forget (fun q hq => hS.2.2 q hq) (W.widen hc1 hs1 (lw_ret hd0 hx hb hr hlocks dL_law_1698)))
  have hl := lv_entry ([.ref b]) (n := 9) (Nat.le_of_ble_eq_true rfl)
  rw [lg_entry_eq]
  generalize (lg_sl ([.ref b]) ++ List.replicate (9 - (lg_sl ([.ref b])).length) Slot.unset).toArray = ls at hl ⊢
  have hl : lv_has ls 9 [(0, .ref b)] := hl
  exact k0 s.heap [] ls hl rfl va_S.rf
