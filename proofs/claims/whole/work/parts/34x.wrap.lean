/-! 34.wrap: the law's wrappers: a call, its answer into a row of one place, its throws as numbers -/
def BW (Y : Env1) (ao : Nat) : Nat → Prop := fun q => AY Y q ∨ q = ao
def PW (Y : Env1) (ao : Nat) (e : va_E) (q : ClassId × FieldType) (M : Mem) (U : State) : Prop := PU Y M U ∧ va_P Y.1 vwCl [(ao, e)] U.heap ∧ THB (BW Y ao) U.heap U ∧ va_K Y.1 vwCl [q] U ∧ va_Nc (exn 2) (exn 1) U ∧ va_Nc (exn 3) (exn 1) U ∧ va_Nc (exn 3) (exn 2) U
def WC (l : Launch) (Y : Env1) (y : MethodName) (b : ByteArray) (mL : Nat) (hh : List (Nat × Nat × Nat × Nat)) (lev mc ms : Nat) (As : List Value) (ao : Nat) (e e1 : va_E) (q : ClassId × FieldType) (M : Mem) (k0 : Int32) (M1 : Mem) : Prop :=
  Met l y (Cond.codeWith y b mL (some .int) hh :: TBL) (rmX lev mc ms) (va_Pc As (PW Y ao e q M)) (va_Qi (fun v (_ : Unit) => v = k0) (fun _ t => PE Y M1 [(ao, e1)] t.heap) (BW Y ao)) mc ms (BW Y ao)
theorem PW.blind {Y : Env1} {ao : Nat} {e : va_E} {q : ClassId × FieldType} {M : Mem} {As : List Value} : FrameBlind (va_Pc As (PW Y ao e q M)) := fun a U g mk z => by
  obtain ⟨q0, qU, qe, qt, qK, n1, n2, n3⟩ := z
  exact ⟨q0, (PU.blind (As := As) a U g mk ⟨q0, qU⟩).2, qe, qt.calling, va_K.moved (u := U) (U := U.calling g mk a) (Vm.Alike.refl U.vm) qK, va_Nc.moved (u := U) (U := U.calling g mk a) (Vm.Alike.refl U.vm) n1, va_Nc.moved (u := U) (U := U.calling g mk a) (Vm.Alike.refl U.vm) n2, va_Nc.moved (u := U) (U := U.calling g mk a) (Vm.Alike.refl U.vm) n3⟩
theorem Met_ofWH {l : Launch} {y : MethodName} {ws ws' : List Cond} {rm : Room} {Pc : Array Value → State → Prop} {Qc : Array Value → State → Outcome → State → Prop} {mc ms : Nat} {free : Addr → Prop} {cc : ByteArray} {maxL : Nat} {ret : Option FieldType} {hh : List (Nat × Nat × Nat × Nat)}
    (hy : plainName y.cls = true) (hw : ws = Cond.codeWith y cc maxL ret hh :: ws')
    (body : ∀ p e s m args below meth c s₁, BodyLoose p l y (headSpec ws rm) cc maxL ret e s m args below meth c s₁ → c.maxLocals = maxL → c.exceptionTable.toList = tableOf hh → Pc args s →
      W p l e (headSpec ws rm).room s m args below meth c s.heap [] 0 0 (MQ below Qc args s mc ms free) (entryFrame m args maxL)) : Met l y ws rm Pc Qc mc ms free := by
  refine MetFree.of_bodyS (code := cc) (maxLocals := maxL) (ret := ret) hy ?_ ?_
  · intro args s m h hn
    obtain ⟨m9, meth, c, hn9, h1, h2, h3, h4, -, h5, h6, -⟩ := Cond.codeWith_spec (atoms_spec (ws := ws) h _ (by rw [hw]; exact List.mem_cons_self))
    cases hn.symm.trans hn9
    exact ⟨meth, c, h1, h2, h3, h4, h5, h6⟩
  · intro p e s m args below meth c s₁ B hml hP _
    have ht := vx_table (x := y) B (atoms_spec (ws := ws) B.pre _ (by rw [hw]; exact List.mem_cons_self))
    obtain ⟨t, a1, o, b1, b2, b3⟩ := body p e s m args below meth c s₁ B hml ht hP s₁ (by rw [B.state]; rfl) (Stand.of_body B)
    exact ⟨t, o, a1, b1, b2, ⟨b3.1, b3.2⟩⟩
set_option maxHeartbeats 2000000 in
theorem mw {l : Launch} {Y : Env1} {y : MethodName} {b : ByteArray} {mL lev mc ms : Nat} {hh : List (Nat × Nat × Nat × Nat)} {As : List Value} {ao : Nat} {e e1 : va_E} {q : ClassId × FieldType} {M M1 : Mem} {k0 : Int32} (hy : plainName y.cls = true) (hown : y.cls = RL) (hG : gY Y = gC) (hlen : (lg_sl As).length ≤ mL)
    (body : ∀ X : Cx, (∀ c s, c ≤ mc → s ≤ ms → CX (setX X c s) b RL mL lev gC) → X.2.1.2 = Y → X.2.1.1 = BW Y ao → X.1.2.1 = l → X.1.2.2.2.2.2.2.2.2.2.exceptionTable.toList = tableOf hh → THB (BW Y ao) X.1.2.2.2.2.1.heap X.1.2.2.2.2.1 → va_K Y.1 vwCl [q] X.1.2.2.2.2.1 → va_Nc (exn 2) (exn 1) X.1.2.2.2.2.1 → va_Nc (exn 3) (exn 1) X.1.2.2.2.2.1 → va_Nc (exn 3) (exn 2) X.1.2.2.2.2.1 → (mc = X.1.2.2.2.1.cells ∧ ms = X.1.2.2.2.1.slots) →
      (∀ (c s : Nat) (pc : Nat) (lv : List (Nat × Value)), c ≤ mc → s ≤ ms → decode b pc = .ok (.ireturn, 1) → AG (setX X c s) pc lv [.int k0] (PE Y M1 [(ao, e1)])) → AG (setX X 0 0) 0 (lv_args 0 As) [] (PE Y M [(ao, e)])) : WC l Y y b mL hh lev mc ms As ao e e1 q M k0 M1 := by
  refine Met_ofWH (cc := b) (maxL := mL) (ret := some .int) hy rfl ?_
  intro p e s m args below meth c s₁ B hml hext hv
  obtain ⟨rfl, ⟨hP0, hK0, hN0⟩, hPe, hT0, hKq, n1, n2, n3⟩ := hv
  have hx := B.exec
  have hb := B.bytes
  have hr := B.returns
  have hts := atoms_spec (ws := Cond.codeWith y b mL (some .int) hh :: TBL) B.pre
  have hwn : s.vm.findClass RL = some m.cls := by rw [← hown]; exact findClass_of_methodNamed B.named
  have hlocks : meth.locks = false := B.notSynchronized
  have hl := lv_entry As hlen
  rw [lg_entry_eq]
  generalize (lg_sl As ++ List.replicate (mL - (lg_sl As).length) Slot.unset).toArray = ls at hl ⊢
  refine body ((p, l, e, (headSpec (Cond.codeWith y b mL (some .int) hh :: TBL) (rmX lev mc ms)).room, s, m, As.toArray, below, meth, c), (BW Y ao, Y), (mL, 0, 0, _)) (fun c9 s9 hc9 hs9 => ⟨hx, hb, hml, hwn, fun w h => hts w (List.mem_cons_of_mem _ h), hK0, fun _ h => Or.inl h, rfl, Nat.le_refl _, Nat.le_refl _, hc9, hs9, hG, hN0⟩) rfl rfl rfl hext hT0 hKq n1 n2 n3 ⟨rfl, rfl⟩ ?_ s.heap [] ls hl (PE.mk hP0 hPe) va_S.rf
  intro c9 s9 pc lv hc9 hs9 hd H locs ls2 hl2 hP2 hS2
  refine W.widen hc9 hs9 (W.iret hx hb hr (fun t ht hW => ?_) (fun q hq => hS2.2.2 q hq) hd hlocks)
  exact ⟨⟨k0, (), rfl, rfl, by show PE Y M1 [(ao, e1)] t.heap; rw [ht]; exact hP2⟩, hS2.F ht⟩
theorem PE1.call {Y : Env1} {M M1 : Mem} {ao : Nat} {e : va_E} (hao : ¬ AY Y ao) : ∀ H H1, PE Y M [(ao, e)] H → va_P Y.1 vwCl (wl Y M1) H1 → (∀ q : Nat, q < H.size → ¬ AY Y q → H1[q]? = H[q]?) → PE Y M1 [(ao, e)] H1 := fun H H1 h h1 hk => h.call (fun k q hq => by
  have : q = (ao, e) := by
    match k, hq with
    | 0, hq => exact (Option.some.inj hq).symm
  rw [this]; exact hao) h1 hk
theorem PE1.D {Y : Env1} {M : Mem} {ao : Nat} {e : va_E} (hao : ¬ AY Y ao) : va_D (BW Y ao) (wl Y M ++ [(ao, e)]) := by
  refine va_D.app ((wl_D Y M).weaken (fun _ _ _ h => Or.inl h)) ⟨fun i j p q hi hj hpq => ?_, fun k q hk => ?_⟩ (fun i j p q hi hj hpq => ?_)
  · match i, j, hi, hj with
    | 0, 0, _, _ => rfl
  · match k, hk with
    | 0, hk => cases hk; exact Or.inr rfl
  · match j, hj with
    | 0, hj => cases hj; exact hao (by have h2 := (wl_D Y M).2 i p hi; rw [hpq] at h2; exact h2)
set_option maxRecDepth 100000 in
set_option maxHeartbeats 4000000 in
theorem c_LW_begin (l : Launch) (hfl : l.stackTraces = false) (Y : Env1) (hG : gY Y = gC) (ao : Nat) (hao : ¬ AY Y ao) (a1 : Int32) (a2 : Int32) (cA : ClassId) (f : Nat → Int64) (M : Mem) (res : Int32 ⊕ Nat) (M1 : Mem) (hE : LL_begin a1 a2 M = some (res, M1)) (k0 : Int32) (e1 : va_E) (hin : ∀ v, res = .inl v → k0 = 0 ∧ e1 = (.inl (cA, 1, .inr (.inl (vp_updL f 0 v.toInt64))))) (hex : ∀ k, res = .inr k → (k = 2 ∧ k0 = 1 ∧ e1 = (.inl (cA, 1, .inr (.inl f))))) : WC l Y yL_begin cL_begin 5 [(0, 10, 13, 13)] 8 2 12 [.ref (hY Y + 0), .int a1, .int a2, .ref ao] ao (.inl (cA, 1, .inr (.inl f))) e1 (cA, .long) M k0 M1 := by
  refine mw (by decide +kernel) rfl hG (Nat.le_of_ble_eq_true rfl) (fun X hS hY1 hA hl1 hext hthr hKq n1 n2 n3 hroom hret => ?_)
  subst hY1
  subst hl1
  have S0 := hS 0 0 (Nat.zero_le _) (Nat.zero_le _)
  have S1 := hS 2 12 (Nat.le_refl _) (Nat.le_refl _)
  have hD : ∀ M e, va_D X.2.1.1 (wl X.2.1.2 M ++ [(ao, e)]) := fun M e => by rw [hA]; exact PE1.D hao
  have hYA : ∀ q, AY X.2.1.2 q → X.2.1.1 q := fun q h => by rw [hA]; exact Or.inl h
  have hthr : THB X.2.1.1 X.1.2.2.2.2.1.heap X.1.2.2.2.2.1 := by rw [hA]; exact hthr
  show AG (setX X 0 0) 0 [(0, .ref (hY X.2.1.2 + 0)), (1, .int a1), (2, .int a2), (3, .ref ao)] [] (PE X.2.1.2 M [(ao, (.inl (cA, 1, .inr (.inl f))))])
  refine g_aload_n S0 dL_begin_0 3 rfl ?_
  refine g_iconst S0 (0 : Int32) dL_begin_1 rfl ?_
  refine g_aload_n S0 dL_begin_2 0 rfl ?_
  refine g_iload_n S0 dL_begin_3 1 rfl ?_
  refine g_iload_n S0 dL_begin_4 2 rfl ?_
  refine gxc_I S0 hYA (gx_V S0 (gYX S0) S0.2.2.2.2.2.1 (fun H h => PE.reg h) fc7 (by decide) hthr hYA (c_LL_begin _ hfl _ (gYX S0) a1 a2 M _ _ hE) wdX7_begin q_1048 ⟨Nat.le_of_ble_eq_true rfl, Nat.le_of_ble_eq_true rfl⟩ ⟨by rw [← hroom.1]; exact Nat.le_of_ble_eq_true rfl, by rw [← hroom.2]; exact Nat.le_of_ble_eq_true rfl⟩ rfl (Nat.le_of_ble_eq_true rfl) dL_begin_5) (PE1.call hao) (fun k hk => ?_) (fun v hv => ?_)
  · have hk2 := hex k hk
    show AGX (setX X 2 12) 5 [(0, .ref (hY X.2.1.2 + 0)), (1, .int a1), (2, .int a2), (3, .ref ao)] [.int 0, .ref ao] _ _
    obtain ⟨rfl, rfl, rfl⟩ := hk2
    refine g_catch S1 [] ⟨0, 10, 13, 13⟩ [] hext (fun z hz => nomatch hz) (by decide) (by decide) q_1053 (hthr.2.2.2 _ (by simp [CSTW])) (fun q9 => ?_)
    refine g_astore (lv2 := [(4, .ref q9), (0, .ref (hY X.2.1.2 + 0)), (1, .int a1), (2, .int a2), (3, .ref ao)]) S1 dL_begin_13 (by decide) rfl ?_
    refine g_iconst S1 (1 : Int32) dL_begin_15 rfl ?_
    exact hret _ _ _ _ (Nat.le_refl _) (Nat.le_refl _) dL_begin_16
  · obtain ⟨rfl, rfl⟩ := hin v hv
    show AG (setX X 2 12) 8 [(0, .ref (hY X.2.1.2 + 0)), (1, .int a1), (2, .int a2), (3, .ref ao)] [.int v, .int 0, .ref ao] _
    refine g_i2l S1 dL_begin_8 ?_
    refine g_lstE S1 (hD _ _) hKq 0 rfl (by decide) dL_begin_9 ?_
    refine g_goto S1 17 dL_begin_10 (by decide) ?_
    refine g_iconst S1 (0 : Int32) dL_begin_17 rfl ?_
    exact hret _ _ _ _ (Nat.le_refl _) (Nat.le_refl _) dL_begin_18
set_option maxRecDepth 100000 in
set_option maxHeartbeats 4000000 in
theorem c_LW_setHeight (l : Launch) (hfl : l.stackTraces = false) (Y : Env1) (hG : gY Y = gC) (ao : Nat) (hao : ¬ AY Y ao) (a1 : Int32) (a2 : Int32) (cA : ClassId) (f : Nat → Int64) (M : Mem) (res : Int32 ⊕ Nat) (M1 : Mem) (hE : LL_setHeight a1 a2 M = some (res, M1)) (k0 : Int32) (e1 : va_E) (hin : ∀ v, res = .inl v → k0 = 0 ∧ e1 = (.inl (cA, 1, .inr (.inl (vp_updL f 0 v.toInt64))))) (hex : ∀ k, res = .inr k → (k = 1 ∧ k0 = 1 ∧ e1 = (.inl (cA, 1, .inr (.inl f)))) ∨ (k = 2 ∧ k0 = 2 ∧ e1 = (.inl (cA, 1, .inr (.inl f))))) : WC l Y yL_setHeight cL_setHeight 5 [(0, 10, 13, 18), (0, 10, 17, 13)] 8 2 12 [.ref (hY Y + 0), .int a1, .int a2, .ref ao] ao (.inl (cA, 1, .inr (.inl f))) e1 (cA, .long) M k0 M1 := by
  refine mw (by decide +kernel) rfl hG (Nat.le_of_ble_eq_true rfl) (fun X hS hY1 hA hl1 hext hthr hKq n1 n2 n3 hroom hret => ?_)
  subst hY1
  subst hl1
  have S0 := hS 0 0 (Nat.zero_le _) (Nat.zero_le _)
  have S1 := hS 2 12 (Nat.le_refl _) (Nat.le_refl _)
  have hD : ∀ M e, va_D X.2.1.1 (wl X.2.1.2 M ++ [(ao, e)]) := fun M e => by rw [hA]; exact PE1.D hao
  have hYA : ∀ q, AY X.2.1.2 q → X.2.1.1 q := fun q h => by rw [hA]; exact Or.inl h
  have hthr : THB X.2.1.1 X.1.2.2.2.2.1.heap X.1.2.2.2.2.1 := by rw [hA]; exact hthr
  show AG (setX X 0 0) 0 [(0, .ref (hY X.2.1.2 + 0)), (1, .int a1), (2, .int a2), (3, .ref ao)] [] (PE X.2.1.2 M [(ao, (.inl (cA, 1, .inr (.inl f))))])
  refine g_aload_n S0 dL_setHeight_0 3 rfl ?_
  refine g_iconst S0 (0 : Int32) dL_setHeight_1 rfl ?_
  refine g_aload_n S0 dL_setHeight_2 0 rfl ?_
  refine g_iload_n S0 dL_setHeight_3 1 rfl ?_
  refine g_iload_n S0 dL_setHeight_4 2 rfl ?_
  refine gxc_I S0 hYA (gx_V S0 (gYX S0) S0.2.2.2.2.2.1 (fun H h => PE.reg h) fc7 (by decide) hthr hYA (c_LL_setHeight _ hfl _ (gYX S0) a1 a2 M _ _ hE) wdX7_setHeight q_1054 ⟨Nat.le_of_ble_eq_true rfl, Nat.le_of_ble_eq_true rfl⟩ ⟨by rw [← hroom.1]; exact Nat.le_of_ble_eq_true rfl, by rw [← hroom.2]; exact Nat.le_of_ble_eq_true rfl⟩ rfl (Nat.le_of_ble_eq_true rfl) dL_setHeight_5) (PE1.call hao) (fun k hk => ?_) (fun v hv => ?_)
  · have hk2 := hex k hk
    show AGX (setX X 2 12) 5 [(0, .ref (hY X.2.1.2 + 0)), (1, .int a1), (2, .int a2), (3, .ref ao)] [.int 0, .ref ao] _ _
    rcases hk2 with ⟨rfl, rfl, rfl⟩ | ⟨rfl, rfl, rfl⟩
    · refine g_catch S1 [] ⟨0, 10, 13, 18⟩ [⟨0, 10, 17, 13⟩] hext (fun z hz => nomatch hz) (by decide) (by decide) q_1059 (hthr.2.2.2 _ (by simp [CSTW])) (fun q9 => ?_)
      refine g_astore (lv2 := [(4, .ref q9), (0, .ref (hY X.2.1.2 + 0)), (1, .int a1), (2, .int a2), (3, .ref ao)]) S1 dL_setHeight_13 (by decide) rfl ?_
      refine g_iconst S1 (1 : Int32) dL_setHeight_15 rfl ?_
      exact hret _ _ _ _ (Nat.le_refl _) (Nat.le_refl _) dL_setHeight_16
    · refine g_catch S1 [⟨0, 10, 13, 18⟩] ⟨0, 10, 17, 13⟩ [] hext (List.forall_mem_cons.mpr ⟨Or.inr ⟨by decide, _, q_1059, n1⟩, fun _ h => absurd h List.not_mem_nil⟩) (by decide) (by decide) q_1053 (hthr.2.2.2 _ (by simp [CSTW])) (fun q9 => ?_)
      refine g_astore (lv2 := [(4, .ref q9), (0, .ref (hY X.2.1.2 + 0)), (1, .int a1), (2, .int a2), (3, .ref ao)]) S1 dL_setHeight_17 (by decide) rfl ?_
      refine g_iconst S1 (2 : Int32) dL_setHeight_19 rfl ?_
      exact hret _ _ _ _ (Nat.le_refl _) (Nat.le_refl _) dL_setHeight_20
  · obtain ⟨rfl, rfl⟩ := hin v hv
    show AG (setX X 2 12) 8 [(0, .ref (hY X.2.1.2 + 0)), (1, .int a1), (2, .int a2), (3, .ref ao)] [.int v, .int 0, .ref ao] _
    refine g_i2l S1 dL_setHeight_8 ?_
    refine g_lstE S1 (hD _ _) hKq 0 rfl (by decide) dL_setHeight_9 ?_
    refine g_goto S1 21 dL_setHeight_10 (by decide) ?_
    refine g_iconst S1 (0 : Int32) dL_setHeight_21 rfl ?_
    exact hret _ _ _ _ (Nat.le_refl _) (Nat.le_refl _) dL_setHeight_22
set_option maxRecDepth 100000 in
set_option maxHeartbeats 4000000 in
theorem c_LW_setDrain (l : Launch) (hfl : l.stackTraces = false) (Y : Env1) (hG : gY Y = gC) (ao : Nat) (hao : ¬ AY Y ao) (a1 : Int32) (a2 : Int32) (cA : ClassId) (f : Nat → Int64) (M : Mem) (res : Int32 ⊕ Nat) (M1 : Mem) (hE : LL_setDrain a1 a2 M = some (res, M1)) (k0 : Int32) (e1 : va_E) (hin : ∀ v, res = .inl v → k0 = 0 ∧ e1 = (.inl (cA, 1, .inr (.inl (vp_updL f 0 (if v = 0 then (0 : Int64) else (1 : Int64))))))) (hex : ∀ k, res = .inr k → (k = 1 ∧ k0 = 1 ∧ e1 = (.inl (cA, 1, .inr (.inl f))))) : WC l Y yL_setDrain cL_setDrain 5 [(0, 17, 20, 18)] 8 1 6 [.ref (hY Y + 0), .int a1, .int a2, .ref ao] ao (.inl (cA, 1, .inr (.inl f))) e1 (cA, .long) M k0 M1 := by
  refine mw (by decide +kernel) rfl hG (Nat.le_of_ble_eq_true rfl) (fun X hS hY1 hA hl1 hext hthr hKq n1 n2 n3 hroom hret => ?_)
  subst hY1
  subst hl1
  have S0 := hS 0 0 (Nat.zero_le _) (Nat.zero_le _)
  have S1 := hS 1 6 (Nat.le_refl _) (Nat.le_refl _)
  have hD : ∀ M e, va_D X.2.1.1 (wl X.2.1.2 M ++ [(ao, e)]) := fun M e => by rw [hA]; exact PE1.D hao
  have hYA : ∀ q, AY X.2.1.2 q → X.2.1.1 q := fun q h => by rw [hA]; exact Or.inl h
  have hthr : THB X.2.1.1 X.1.2.2.2.2.1.heap X.1.2.2.2.2.1 := by rw [hA]; exact hthr
  show AG (setX X 0 0) 0 [(0, .ref (hY X.2.1.2 + 0)), (1, .int a1), (2, .int a2), (3, .ref ao)] [] (PE X.2.1.2 M [(ao, (.inl (cA, 1, .inr (.inl f))))])
  refine g_aload_n S0 dL_setDrain_0 3 rfl ?_
  refine g_iconst S0 (0 : Int32) dL_setDrain_1 rfl ?_
  refine g_aload_n S0 dL_setDrain_2 0 rfl ?_
  refine g_iload_n S0 dL_setDrain_3 1 rfl ?_
  refine g_iload_n S0 dL_setDrain_4 2 rfl ?_
  refine gxc_I S0 hYA (gx_V S0 (gYX S0) S0.2.2.2.2.2.1 (fun H h => PE.reg h) fc7 (by decide) hthr hYA (c_LL_setDrain _ hfl _ (gYX S0) a1 a2 M _ _ hE) wdX7_setDrain q_1060 ⟨Nat.le_of_ble_eq_true rfl, Nat.le_of_ble_eq_true rfl⟩ ⟨by rw [← hroom.1]; exact Nat.le_of_ble_eq_true rfl, by rw [← hroom.2]; exact Nat.le_of_ble_eq_true rfl⟩ rfl (Nat.le_of_ble_eq_true rfl) dL_setDrain_5) (PE1.call hao) (fun k hk => ?_) (fun v hv => ?_)
  · have hk2 := hex k hk
    show AGX (setX X 1 6) 5 [(0, .ref (hY X.2.1.2 + 0)), (1, .int a1), (2, .int a2), (3, .ref ao)] [.int 0, .ref ao] _ _
    obtain ⟨rfl, rfl, rfl⟩ := hk2
    refine g_catch S1 [] ⟨0, 17, 20, 18⟩ [] hext (fun z hz => nomatch hz) (by decide) (by decide) q_1059 (hthr.2.2.2 _ (by simp [CSTW])) (fun q9 => ?_)
    refine g_astore (lv2 := [(4, .ref q9), (0, .ref (hY X.2.1.2 + 0)), (1, .int a1), (2, .int a2), (3, .ref ao)]) S1 dL_setDrain_20 (by decide) rfl ?_
    refine g_iconst S1 (1 : Int32) dL_setDrain_22 rfl ?_
    exact hret _ _ _ _ (Nat.le_refl _) (Nat.le_refl _) dL_setDrain_23
  · obtain ⟨rfl, rfl⟩ := hin v hv
    show AG (setX X 1 6) 8 [(0, .ref (hY X.2.1.2 + 0)), (1, .int a1), (2, .int a2), (3, .ref ao)] [.int v, .int 0, .ref ao] _
    refine g_if_eq S1 15 dL_setDrain_8 (by decide) (fun c => ?_) (fun c => ?_)
    · refine g_lconst S1 (0 : Int64) dL_setDrain_15 rfl ?_
      rw [if_pos c] at hret
      refine g_lstE S1 (hD _ _) hKq 0 rfl (by decide) dL_setDrain_16 ?_
      refine g_goto S1 24 dL_setDrain_17 (by decide) ?_
      refine g_iconst S1 (0 : Int32) dL_setDrain_24 rfl ?_
      exact hret _ _ _ _ (Nat.le_refl _) (Nat.le_refl _) dL_setDrain_25
    · refine g_lconst S1 (1 : Int64) dL_setDrain_11 rfl ?_
      refine g_goto S1 16 dL_setDrain_12 (by decide) ?_
      rw [if_neg c] at hret
      refine g_lstE S1 (hD _ _) hKq 0 rfl (by decide) dL_setDrain_16 ?_
      refine g_goto S1 24 dL_setDrain_17 (by decide) ?_
      refine g_iconst S1 (0 : Int32) dL_setDrain_24 rfl ?_
      exact hret _ _ _ _ (Nat.le_refl _) (Nat.le_refl _) dL_setDrain_25
set_option maxRecDepth 100000 in
set_option maxHeartbeats 4000000 in
theorem c_LW_setGate (l : Launch) (hfl : l.stackTraces = false) (Y : Env1) (hG : gY Y = gC) (ao : Nat) (hao : ¬ AY Y ao) (a1 : Int32) (a2 : Int32) (a3 : Int32) (cA : ClassId) (f : Nat → Int64) (M : Mem) (res : Int32 ⊕ Nat) (M1 : Mem) (hE : LL_setGate a1 a2 a3 M = some (res, M1)) (k0 : Int32) (e1 : va_E) (hin : ∀ v, res = .inl v → k0 = 0 ∧ e1 = (.inl (cA, 1, .inr (.inl (vp_updL f 0 v.toInt64))))) (hex : ∀ k, res = .inr k → (k = 1 ∧ k0 = 1 ∧ e1 = (.inl (cA, 1, .inr (.inl f)))) ∨ (k = 2 ∧ k0 = 2 ∧ e1 = (.inl (cA, 1, .inr (.inl f))))) : WC l Y yL_setGate cL_setGate 6 [(0, 12, 15, 18), (0, 12, 19, 13)] 8 2 12 [.ref (hY Y + 0), .int a1, .int a2, .int a3, .ref ao] ao (.inl (cA, 1, .inr (.inl f))) e1 (cA, .long) M k0 M1 := by
  refine mw (by decide +kernel) rfl hG (Nat.le_of_ble_eq_true rfl) (fun X hS hY1 hA hl1 hext hthr hKq n1 n2 n3 hroom hret => ?_)
  subst hY1
  subst hl1
  have S0 := hS 0 0 (Nat.zero_le _) (Nat.zero_le _)
  have S1 := hS 2 12 (Nat.le_refl _) (Nat.le_refl _)
  have hD : ∀ M e, va_D X.2.1.1 (wl X.2.1.2 M ++ [(ao, e)]) := fun M e => by rw [hA]; exact PE1.D hao
  have hYA : ∀ q, AY X.2.1.2 q → X.2.1.1 q := fun q h => by rw [hA]; exact Or.inl h
  have hthr : THB X.2.1.1 X.1.2.2.2.2.1.heap X.1.2.2.2.2.1 := by rw [hA]; exact hthr
  show AG (setX X 0 0) 0 [(0, .ref (hY X.2.1.2 + 0)), (1, .int a1), (2, .int a2), (3, .int a3), (4, .ref ao)] [] (PE X.2.1.2 M [(ao, (.inl (cA, 1, .inr (.inl f))))])
  refine g_aload S0 dL_setGate_0 4 rfl ?_
  refine g_iconst S0 (0 : Int32) dL_setGate_2 rfl ?_
  refine g_aload_n S0 dL_setGate_3 0 rfl ?_
  refine g_iload_n S0 dL_setGate_4 1 rfl ?_
  refine g_iload_n S0 dL_setGate_5 2 rfl ?_
  refine g_iload_n S0 dL_setGate_6 3 rfl ?_
  refine gxc_I S0 hYA (gx_V S0 (gYX S0) S0.2.2.2.2.2.1 (fun H h => PE.reg h) fc7 (by decide) hthr hYA (c_LL_setGate _ hfl _ (gYX S0) a1 a2 a3 M _ _ hE) wdX7_setGate q_1065 ⟨Nat.le_of_ble_eq_true rfl, Nat.le_of_ble_eq_true rfl⟩ ⟨by rw [← hroom.1]; exact Nat.le_of_ble_eq_true rfl, by rw [← hroom.2]; exact Nat.le_of_ble_eq_true rfl⟩ rfl (Nat.le_of_ble_eq_true rfl) dL_setGate_7) (PE1.call hao) (fun k hk => ?_) (fun v hv => ?_)
  · have hk2 := hex k hk
    show AGX (setX X 2 12) 7 [(0, .ref (hY X.2.1.2 + 0)), (1, .int a1), (2, .int a2), (3, .int a3), (4, .ref ao)] [.int 0, .ref ao] _ _
    rcases hk2 with ⟨rfl, rfl, rfl⟩ | ⟨rfl, rfl, rfl⟩
    · refine g_catch S1 [] ⟨0, 12, 15, 18⟩ [⟨0, 12, 19, 13⟩] hext (fun z hz => nomatch hz) (by decide) (by decide) q_1059 (hthr.2.2.2 _ (by simp [CSTW])) (fun q9 => ?_)
      refine g_astore (lv2 := [(5, .ref q9), (0, .ref (hY X.2.1.2 + 0)), (1, .int a1), (2, .int a2), (3, .int a3), (4, .ref ao)]) S1 dL_setGate_15 (by decide) rfl ?_
      refine g_iconst S1 (1 : Int32) dL_setGate_17 rfl ?_
      exact hret _ _ _ _ (Nat.le_refl _) (Nat.le_refl _) dL_setGate_18
    · refine g_catch S1 [⟨0, 12, 15, 18⟩] ⟨0, 12, 19, 13⟩ [] hext (List.forall_mem_cons.mpr ⟨Or.inr ⟨by decide, _, q_1059, n1⟩, fun _ h => absurd h List.not_mem_nil⟩) (by decide) (by decide) q_1053 (hthr.2.2.2 _ (by simp [CSTW])) (fun q9 => ?_)
      refine g_astore (lv2 := [(5, .ref q9), (0, .ref (hY X.2.1.2 + 0)), (1, .int a1), (2, .int a2), (3, .int a3), (4, .ref ao)]) S1 dL_setGate_19 (by decide) rfl ?_
      refine g_iconst S1 (2 : Int32) dL_setGate_21 rfl ?_
      exact hret _ _ _ _ (Nat.le_refl _) (Nat.le_refl _) dL_setGate_22
  · obtain ⟨rfl, rfl⟩ := hin v hv
    show AG (setX X 2 12) 10 [(0, .ref (hY X.2.1.2 + 0)), (1, .int a1), (2, .int a2), (3, .int a3), (4, .ref ao)] [.int v, .int 0, .ref ao] _
    refine g_i2l S1 dL_setGate_10 ?_
    refine g_lstE S1 (hD _ _) hKq 0 rfl (by decide) dL_setGate_11 ?_
    refine g_goto S1 23 dL_setGate_12 (by decide) ?_
    refine g_iconst S1 (0 : Int32) dL_setGate_23 rfl ?_
    exact hret _ _ _ _ (Nat.le_refl _) (Nat.le_refl _) dL_setGate_24
set_option maxRecDepth 100000 in
set_option maxHeartbeats 4000000 in
theorem c_LW_random (l : Launch) (hfl : l.stackTraces = false) (Y : Env1) (hG : gY Y = gC) (ao : Nat) (hao : ¬ AY Y ao) (a1 : Int32) (a2 : Int32) (cA : ClassId) (f : Nat → Int64) (M : Mem) (res : Int32 ⊕ Nat) (M1 : Mem) (hE : LL_random a1 a2 M = some (res, M1)) (k0 : Int32) (e1 : va_E) (hin : ∀ v, res = .inl v → k0 = 0 ∧ e1 = (.inl (cA, 1, .inr (.inl (vp_updL f 0 v.toInt64))))) (hex : ∀ k, res = .inr k → (k = 2 ∧ k0 = 1 ∧ e1 = (.inl (cA, 1, .inr (.inl f))))) : WC l Y yL_random cL_random 5 [(0, 10, 13, 13)] 8 2 12 [.ref (hY Y + 0), .int a1, .int a2, .ref ao] ao (.inl (cA, 1, .inr (.inl f))) e1 (cA, .long) M k0 M1 := by
  refine mw (by decide +kernel) rfl hG (Nat.le_of_ble_eq_true rfl) (fun X hS hY1 hA hl1 hext hthr hKq n1 n2 n3 hroom hret => ?_)
  subst hY1
  subst hl1
  have S0 := hS 0 0 (Nat.zero_le _) (Nat.zero_le _)
  have S1 := hS 2 12 (Nat.le_refl _) (Nat.le_refl _)
  have hD : ∀ M e, va_D X.2.1.1 (wl X.2.1.2 M ++ [(ao, e)]) := fun M e => by rw [hA]; exact PE1.D hao
  have hYA : ∀ q, AY X.2.1.2 q → X.2.1.1 q := fun q h => by rw [hA]; exact Or.inl h
  have hthr : THB X.2.1.1 X.1.2.2.2.2.1.heap X.1.2.2.2.2.1 := by rw [hA]; exact hthr
  show AG (setX X 0 0) 0 [(0, .ref (hY X.2.1.2 + 0)), (1, .int a1), (2, .int a2), (3, .ref ao)] [] (PE X.2.1.2 M [(ao, (.inl (cA, 1, .inr (.inl f))))])
  refine g_aload_n S0 dL_random_0 3 rfl ?_
  refine g_iconst S0 (0 : Int32) dL_random_1 rfl ?_
  refine g_aload_n S0 dL_random_2 0 rfl ?_
  refine g_iload_n S0 dL_random_3 1 rfl ?_
  refine g_iload_n S0 dL_random_4 2 rfl ?_
  refine gxc_I S0 hYA (gx_V S0 (gYX S0) S0.2.2.2.2.2.1 (fun H h => PE.reg h) fc7 (by decide) hthr hYA (c_LL_random _ hfl _ (gYX S0) a1 a2 M _ _ hE) wdX7_random q_1070 ⟨Nat.le_of_ble_eq_true rfl, Nat.le_of_ble_eq_true rfl⟩ ⟨by rw [← hroom.1]; exact Nat.le_of_ble_eq_true rfl, by rw [← hroom.2]; exact Nat.le_of_ble_eq_true rfl⟩ rfl (Nat.le_of_ble_eq_true rfl) dL_random_5) (PE1.call hao) (fun k hk => ?_) (fun v hv => ?_)
  · have hk2 := hex k hk
    show AGX (setX X 2 12) 5 [(0, .ref (hY X.2.1.2 + 0)), (1, .int a1), (2, .int a2), (3, .ref ao)] [.int 0, .ref ao] _ _
    obtain ⟨rfl, rfl, rfl⟩ := hk2
    refine g_catch S1 [] ⟨0, 10, 13, 13⟩ [] hext (fun z hz => nomatch hz) (by decide) (by decide) q_1053 (hthr.2.2.2 _ (by simp [CSTW])) (fun q9 => ?_)
    refine g_astore (lv2 := [(4, .ref q9), (0, .ref (hY X.2.1.2 + 0)), (1, .int a1), (2, .int a2), (3, .ref ao)]) S1 dL_random_13 (by decide) rfl ?_
    refine g_iconst S1 (1 : Int32) dL_random_15 rfl ?_
    exact hret _ _ _ _ (Nat.le_refl _) (Nat.le_refl _) dL_random_16
  · obtain ⟨rfl, rfl⟩ := hin v hv
    show AG (setX X 2 12) 8 [(0, .ref (hY X.2.1.2 + 0)), (1, .int a1), (2, .int a2), (3, .ref ao)] [.int v, .int 0, .ref ao] _
    refine g_i2l S1 dL_random_8 ?_
    refine g_lstE S1 (hD _ _) hKq 0 rfl (by decide) dL_random_9 ?_
    refine g_goto S1 17 dL_random_10 (by decide) ?_
    refine g_iconst S1 (0 : Int32) dL_random_17 rfl ?_
    exact hret _ _ _ _ (Nat.le_refl _) (Nat.le_refl _) dL_random_18
set_option maxRecDepth 100000 in
set_option maxHeartbeats 4000000 in
theorem c_LW_cell (l : Launch) (hfl : l.stackTraces = false) (Y : Env1) (hG : gY Y = gC) (ao : Nat) (hao : ¬ AY Y ao) (a1 : Int32) (a2 : Int32) (cA : ClassId) (f : Nat → Int64) (M : Mem) (res : Int32 ⊕ Nat) (M1 : Mem) (hE : LL_cell a1 a2 M = some (res, M1)) (k0 : Int32) (e1 : va_E) (hin : ∀ v, res = .inl v → k0 = 0 ∧ e1 = (.inl (cA, 1, .inr (.inl (vp_updL f 0 v.toInt64))))) (hex : ∀ k, res = .inr k → (k = 1 ∧ k0 = 1 ∧ e1 = (.inl (cA, 1, .inr (.inl f)))) ∨ (k = 2 ∧ k0 = 2 ∧ e1 = (.inl (cA, 1, .inr (.inl f))))) : WC l Y yL_cell cL_cell 5 [(0, 10, 13, 18), (0, 10, 17, 13)] 8 2 12 [.ref (hY Y + 0), .int a1, .int a2, .ref ao] ao (.inl (cA, 1, .inr (.inl f))) e1 (cA, .long) M k0 M1 := by
  refine mw (by decide +kernel) rfl hG (Nat.le_of_ble_eq_true rfl) (fun X hS hY1 hA hl1 hext hthr hKq n1 n2 n3 hroom hret => ?_)
  subst hY1
  subst hl1
  have S0 := hS 0 0 (Nat.zero_le _) (Nat.zero_le _)
  have S1 := hS 2 12 (Nat.le_refl _) (Nat.le_refl _)
  have hD : ∀ M e, va_D X.2.1.1 (wl X.2.1.2 M ++ [(ao, e)]) := fun M e => by rw [hA]; exact PE1.D hao
  have hYA : ∀ q, AY X.2.1.2 q → X.2.1.1 q := fun q h => by rw [hA]; exact Or.inl h
  have hthr : THB X.2.1.1 X.1.2.2.2.2.1.heap X.1.2.2.2.2.1 := by rw [hA]; exact hthr
  show AG (setX X 0 0) 0 [(0, .ref (hY X.2.1.2 + 0)), (1, .int a1), (2, .int a2), (3, .ref ao)] [] (PE X.2.1.2 M [(ao, (.inl (cA, 1, .inr (.inl f))))])
  refine g_aload_n S0 dL_cell_0 3 rfl ?_
  refine g_iconst S0 (0 : Int32) dL_cell_1 rfl ?_
  refine g_aload_n S0 dL_cell_2 0 rfl ?_
  refine g_iload_n S0 dL_cell_3 1 rfl ?_
  refine g_iload_n S0 dL_cell_4 2 rfl ?_
  refine gxc_I S0 hYA (gx_V S0 (gYX S0) S0.2.2.2.2.2.1 (fun H h => PE.reg h) fc7 (by decide) hthr hYA (c_LL_cell _ hfl _ (gYX S0) a1 a2 M _ _ hE) wdX7_cell q_1075 ⟨Nat.le_of_ble_eq_true rfl, Nat.le_of_ble_eq_true rfl⟩ ⟨by rw [← hroom.1]; exact Nat.le_of_ble_eq_true rfl, by rw [← hroom.2]; exact Nat.le_of_ble_eq_true rfl⟩ rfl (Nat.le_of_ble_eq_true rfl) dL_cell_5) (PE1.call hao) (fun k hk => ?_) (fun v hv => ?_)
  · have hk2 := hex k hk
    show AGX (setX X 2 12) 5 [(0, .ref (hY X.2.1.2 + 0)), (1, .int a1), (2, .int a2), (3, .ref ao)] [.int 0, .ref ao] _ _
    rcases hk2 with ⟨rfl, rfl, rfl⟩ | ⟨rfl, rfl, rfl⟩
    · refine g_catch S1 [] ⟨0, 10, 13, 18⟩ [⟨0, 10, 17, 13⟩] hext (fun z hz => nomatch hz) (by decide) (by decide) q_1059 (hthr.2.2.2 _ (by simp [CSTW])) (fun q9 => ?_)
      refine g_astore (lv2 := [(4, .ref q9), (0, .ref (hY X.2.1.2 + 0)), (1, .int a1), (2, .int a2), (3, .ref ao)]) S1 dL_cell_13 (by decide) rfl ?_
      refine g_iconst S1 (1 : Int32) dL_cell_15 rfl ?_
      exact hret _ _ _ _ (Nat.le_refl _) (Nat.le_refl _) dL_cell_16
    · refine g_catch S1 [⟨0, 10, 13, 18⟩] ⟨0, 10, 17, 13⟩ [] hext (List.forall_mem_cons.mpr ⟨Or.inr ⟨by decide, _, q_1059, n1⟩, fun _ h => absurd h List.not_mem_nil⟩) (by decide) (by decide) q_1053 (hthr.2.2.2 _ (by simp [CSTW])) (fun q9 => ?_)
      refine g_astore (lv2 := [(4, .ref q9), (0, .ref (hY X.2.1.2 + 0)), (1, .int a1), (2, .int a2), (3, .ref ao)]) S1 dL_cell_17 (by decide) rfl ?_
      refine g_iconst S1 (2 : Int32) dL_cell_19 rfl ?_
      exact hret _ _ _ _ (Nat.le_refl _) (Nat.le_refl _) dL_cell_20
  · obtain ⟨rfl, rfl⟩ := hin v hv
    show AG (setX X 2 12) 8 [(0, .ref (hY X.2.1.2 + 0)), (1, .int a1), (2, .int a2), (3, .ref ao)] [.int v, .int 0, .ref ao] _
    refine g_i2l S1 dL_cell_8 ?_
    refine g_lstE S1 (hD _ _) hKq 0 rfl (by decide) dL_cell_9 ?_
    refine g_goto S1 21 dL_cell_10 (by decide) ?_
    refine g_iconst S1 (0 : Int32) dL_cell_21 rfl ?_
    exact hret _ _ _ _ (Nat.le_refl _) (Nat.le_refl _) dL_cell_22
set_option maxRecDepth 100000 in
set_option maxHeartbeats 4000000 in
theorem c_LW_between (l : Launch) (hfl : l.stackTraces = false) (Y : Env1) (hG : gY Y = gC) (ao : Nat) (hao : ¬ AY Y ao) (a1 : Int32) (a2 : Int32) (a3 : Int32) (cA : ClassId) (f : Nat → Int64) (M : Mem) (res : Int32 ⊕ Nat) (M1 : Mem) (hE : LL_between a1 a2 a3 M = some (res, M1)) (k0 : Int32) (e1 : va_E) (hin : ∀ v, res = .inl v → k0 = 0 ∧ e1 = (.inl (cA, 1, .inr (.inl (vp_updL f 0 v.toInt64))))) (hex : ∀ k, res = .inr k → (k = 1 ∧ k0 = 1 ∧ e1 = (.inl (cA, 1, .inr (.inl f))))) : WC l Y yL_between cL_between 6 [(0, 12, 15, 18)] 8 1 6 [.ref (hY Y + 0), .int a1, .int a2, .int a3, .ref ao] ao (.inl (cA, 1, .inr (.inl f))) e1 (cA, .long) M k0 M1 := by
  refine mw (by decide +kernel) rfl hG (Nat.le_of_ble_eq_true rfl) (fun X hS hY1 hA hl1 hext hthr hKq n1 n2 n3 hroom hret => ?_)
  subst hY1
  subst hl1
  have S0 := hS 0 0 (Nat.zero_le _) (Nat.zero_le _)
  have S1 := hS 1 6 (Nat.le_refl _) (Nat.le_refl _)
  have hD : ∀ M e, va_D X.2.1.1 (wl X.2.1.2 M ++ [(ao, e)]) := fun M e => by rw [hA]; exact PE1.D hao
  have hYA : ∀ q, AY X.2.1.2 q → X.2.1.1 q := fun q h => by rw [hA]; exact Or.inl h
  have hthr : THB X.2.1.1 X.1.2.2.2.2.1.heap X.1.2.2.2.2.1 := by rw [hA]; exact hthr
  show AG (setX X 0 0) 0 [(0, .ref (hY X.2.1.2 + 0)), (1, .int a1), (2, .int a2), (3, .int a3), (4, .ref ao)] [] (PE X.2.1.2 M [(ao, (.inl (cA, 1, .inr (.inl f))))])
  refine g_aload S0 dL_between_0 4 rfl ?_
  refine g_iconst S0 (0 : Int32) dL_between_2 rfl ?_
  refine g_aload_n S0 dL_between_3 0 rfl ?_
  refine g_iload_n S0 dL_between_4 1 rfl ?_
  refine g_iload_n S0 dL_between_5 2 rfl ?_
  refine g_iload_n S0 dL_between_6 3 rfl ?_
  refine gxc_I S0 hYA (gx_V S0 (gYX S0) S0.2.2.2.2.2.1 (fun H h => PE.reg h) fc7 (by decide) hthr hYA (c_LL_between _ hfl _ (gYX S0) a1 a2 a3 M _ _ hE) wdX7_between q_1080 ⟨Nat.le_of_ble_eq_true rfl, Nat.le_of_ble_eq_true rfl⟩ ⟨by rw [← hroom.1]; exact Nat.le_of_ble_eq_true rfl, by rw [← hroom.2]; exact Nat.le_of_ble_eq_true rfl⟩ rfl (Nat.le_of_ble_eq_true rfl) dL_between_7) (PE1.call hao) (fun k hk => ?_) (fun v hv => ?_)
  · have hk2 := hex k hk
    show AGX (setX X 1 6) 7 [(0, .ref (hY X.2.1.2 + 0)), (1, .int a1), (2, .int a2), (3, .int a3), (4, .ref ao)] [.int 0, .ref ao] _ _
    obtain ⟨rfl, rfl, rfl⟩ := hk2
    refine g_catch S1 [] ⟨0, 12, 15, 18⟩ [] hext (fun z hz => nomatch hz) (by decide) (by decide) q_1059 (hthr.2.2.2 _ (by simp [CSTW])) (fun q9 => ?_)
    refine g_astore (lv2 := [(5, .ref q9), (0, .ref (hY X.2.1.2 + 0)), (1, .int a1), (2, .int a2), (3, .int a3), (4, .ref ao)]) S1 dL_between_15 (by decide) rfl ?_
    refine g_iconst S1 (1 : Int32) dL_between_17 rfl ?_
    exact hret _ _ _ _ (Nat.le_refl _) (Nat.le_refl _) dL_between_18
  · obtain ⟨rfl, rfl⟩ := hin v hv
    show AG (setX X 1 6) 10 [(0, .ref (hY X.2.1.2 + 0)), (1, .int a1), (2, .int a2), (3, .int a3), (4, .ref ao)] [.int v, .int 0, .ref ao] _
    refine g_i2l S1 dL_between_10 ?_
    refine g_lstE S1 (hD _ _) hKq 0 rfl (by decide) dL_between_11 ?_
    refine g_goto S1 19 dL_between_12 (by decide) ?_
    refine g_iconst S1 (0 : Int32) dL_between_19 rfl ?_
    exact hret _ _ _ _ (Nat.le_refl _) (Nat.le_refl _) dL_between_20
set_option maxRecDepth 100000 in
set_option maxHeartbeats 4000000 in
theorem c_LW_count (l : Launch) (hfl : l.stackTraces = false) (Y : Env1) (hG : gY Y = gC) (ao : Nat) (hao : ¬ AY Y ao) (a1 : Int32) (cA : ClassId) (f : Nat → Int64) (M : Mem) (res : Int32 ⊕ Nat) (M1 : Mem) (hE : LL_count a1 M = some (res, M1)) (k0 : Int32) (e1 : va_E) (hin : ∀ v, res = .inl v → k0 = 0 ∧ e1 = (.inl (cA, 1, .inr (.inl (vp_updL f 0 v.toInt64))))) (hex : ∀ k, res = .inr k → (k = 2 ∧ k0 = 1 ∧ e1 = (.inl (cA, 1, .inr (.inl f))))) : WC l Y yL_count cL_count 4 [(0, 9, 12, 13)] 8 1 6 [.ref (hY Y + 0), .int a1, .ref ao] ao (.inl (cA, 1, .inr (.inl f))) e1 (cA, .long) M k0 M1 := by
  refine mw (by decide +kernel) rfl hG (Nat.le_of_ble_eq_true rfl) (fun X hS hY1 hA hl1 hext hthr hKq n1 n2 n3 hroom hret => ?_)
  subst hY1
  subst hl1
  have S0 := hS 0 0 (Nat.zero_le _) (Nat.zero_le _)
  have S1 := hS 1 6 (Nat.le_refl _) (Nat.le_refl _)
  have hD : ∀ M e, va_D X.2.1.1 (wl X.2.1.2 M ++ [(ao, e)]) := fun M e => by rw [hA]; exact PE1.D hao
  have hYA : ∀ q, AY X.2.1.2 q → X.2.1.1 q := fun q h => by rw [hA]; exact Or.inl h
  have hthr : THB X.2.1.1 X.1.2.2.2.2.1.heap X.1.2.2.2.2.1 := by rw [hA]; exact hthr
  show AG (setX X 0 0) 0 [(0, .ref (hY X.2.1.2 + 0)), (1, .int a1), (2, .ref ao)] [] (PE X.2.1.2 M [(ao, (.inl (cA, 1, .inr (.inl f))))])
  refine g_aload_n S0 dL_count_0 2 rfl ?_
  refine g_iconst S0 (0 : Int32) dL_count_1 rfl ?_
  refine g_aload_n S0 dL_count_2 0 rfl ?_
  refine g_iload_n S0 dL_count_3 1 rfl ?_
  refine gxc_I S0 hYA (gx_V S0 (gYX S0) S0.2.2.2.2.2.1 (fun H h => PE.reg h) fc7 (by decide) hthr hYA (c_LL_count _ hfl _ (gYX S0) a1 M _ _ hE) wdX7_count q_1085 ⟨Nat.le_of_ble_eq_true rfl, Nat.le_of_ble_eq_true rfl⟩ ⟨by rw [← hroom.1]; exact Nat.le_of_ble_eq_true rfl, by rw [← hroom.2]; exact Nat.le_of_ble_eq_true rfl⟩ rfl (Nat.le_of_ble_eq_true rfl) dL_count_4) (PE1.call hao) (fun k hk => ?_) (fun v hv => ?_)
  · have hk2 := hex k hk
    show AGX (setX X 1 6) 4 [(0, .ref (hY X.2.1.2 + 0)), (1, .int a1), (2, .ref ao)] [.int 0, .ref ao] _ _
    obtain ⟨rfl, rfl, rfl⟩ := hk2
    refine g_catch S1 [] ⟨0, 9, 12, 13⟩ [] hext (fun z hz => nomatch hz) (by decide) (by decide) q_1053 (hthr.2.2.2 _ (by simp [CSTW])) (fun q9 => ?_)
    refine g_astore_n (lv2 := [(3, .ref q9), (0, .ref (hY X.2.1.2 + 0)), (1, .int a1), (2, .ref ao)]) S1 dL_count_12 (by decide) rfl ?_
    refine g_iconst S1 (1 : Int32) dL_count_13 rfl ?_
    exact hret _ _ _ _ (Nat.le_refl _) (Nat.le_refl _) dL_count_14
  · obtain ⟨rfl, rfl⟩ := hin v hv
    show AG (setX X 1 6) 7 [(0, .ref (hY X.2.1.2 + 0)), (1, .int a1), (2, .ref ao)] [.int v, .int 0, .ref ao] _
    refine g_i2l S1 dL_count_7 ?_
    refine g_lstE S1 (hD _ _) hKq 0 rfl (by decide) dL_count_8 ?_
    refine g_goto S1 15 dL_count_9 (by decide) ?_
    refine g_iconst S1 (0 : Int32) dL_count_15 rfl ?_
    exact hret _ _ _ _ (Nat.le_refl _) (Nat.le_refl _) dL_count_16
set_option maxRecDepth 100000 in
set_option maxHeartbeats 4000000 in
theorem c_LW_pour (l : Launch) (hfl : l.stackTraces = false) (Y : Env1) (hG : gY Y = gC) (ao : Nat) (hao : ¬ AY Y ao) (a1 : Int32) (a2 : Int32) (cA : ClassId) (f : Nat → Int64) (M : Mem) (res : Int32 ⊕ Nat) (M1 : Mem) (hE : LL_pour a1 a2 M = some (res, M1)) (k0 : Int32) (e1 : va_E) (hin : ∀ v, res = .inl v → k0 = 0 ∧ e1 = (.inl (cA, 1, .inr (.inl (vp_updL f 0 v.toInt64))))) (hex : ∀ k, res = .inr k → (k = 1 ∧ k0 = 1 ∧ e1 = (.inl (cA, 1, .inr (.inl f)))) ∨ (k = 2 ∧ k0 = 2 ∧ e1 = (.inl (cA, 1, .inr (.inl f)))) ∨ (k = 3 ∧ k0 = 3 ∧ e1 = (.inl (cA, 1, .inr (.inl f))))) : WC l Y yL_pour cL_pour 5 [(0, 10, 13, 18), (0, 10, 17, 13), (0, 10, 21, 45)] 8 3 18 [.ref (hY Y + 0), .int a1, .int a2, .ref ao] ao (.inl (cA, 1, .inr (.inl f))) e1 (cA, .long) M k0 M1 := by
  refine mw (by decide +kernel) rfl hG (Nat.le_of_ble_eq_true rfl) (fun X hS hY1 hA hl1 hext hthr hKq n1 n2 n3 hroom hret => ?_)
  subst hY1
  subst hl1
  have S0 := hS 0 0 (Nat.zero_le _) (Nat.zero_le _)
  have S1 := hS 3 18 (Nat.le_refl _) (Nat.le_refl _)
  have hD : ∀ M e, va_D X.2.1.1 (wl X.2.1.2 M ++ [(ao, e)]) := fun M e => by rw [hA]; exact PE1.D hao
  have hYA : ∀ q, AY X.2.1.2 q → X.2.1.1 q := fun q h => by rw [hA]; exact Or.inl h
  have hthr : THB X.2.1.1 X.1.2.2.2.2.1.heap X.1.2.2.2.2.1 := by rw [hA]; exact hthr
  show AG (setX X 0 0) 0 [(0, .ref (hY X.2.1.2 + 0)), (1, .int a1), (2, .int a2), (3, .ref ao)] [] (PE X.2.1.2 M [(ao, (.inl (cA, 1, .inr (.inl f))))])
  refine g_aload_n S0 dL_pour_0 3 rfl ?_
  refine g_iconst S0 (0 : Int32) dL_pour_1 rfl ?_
  refine g_aload_n S0 dL_pour_2 0 rfl ?_
  refine g_iload_n S0 dL_pour_3 1 rfl ?_
  refine g_iload_n S0 dL_pour_4 2 rfl ?_
  refine gxc_I S0 hYA (gx_V S0 (gYX S0) S0.2.2.2.2.2.1 (fun H h => PE.reg h) fc7 (by decide) hthr hYA (c_LL_pour _ hfl _ (gYX S0) a1 a2 M _ _ hE) wdX7_pour q_1090 ⟨Nat.le_of_ble_eq_true rfl, Nat.le_of_ble_eq_true rfl⟩ ⟨by rw [← hroom.1]; exact Nat.le_of_ble_eq_true rfl, by rw [← hroom.2]; exact Nat.le_of_ble_eq_true rfl⟩ rfl (Nat.le_of_ble_eq_true rfl) dL_pour_5) (PE1.call hao) (fun k hk => ?_) (fun v hv => ?_)
  · have hk2 := hex k hk
    show AGX (setX X 3 18) 5 [(0, .ref (hY X.2.1.2 + 0)), (1, .int a1), (2, .int a2), (3, .ref ao)] [.int 0, .ref ao] _ _
    rcases hk2 with ⟨rfl, rfl, rfl⟩ | ⟨rfl, rfl, rfl⟩ | ⟨rfl, rfl, rfl⟩
    · refine g_catch S1 [] ⟨0, 10, 13, 18⟩ [⟨0, 10, 17, 13⟩, ⟨0, 10, 21, 45⟩] hext (fun z hz => nomatch hz) (by decide) (by decide) q_1059 (hthr.2.2.2 _ (by simp [CSTW])) (fun q9 => ?_)
      refine g_astore (lv2 := [(4, .ref q9), (0, .ref (hY X.2.1.2 + 0)), (1, .int a1), (2, .int a2), (3, .ref ao)]) S1 dL_pour_13 (by decide) rfl ?_
      refine g_iconst S1 (1 : Int32) dL_pour_15 rfl ?_
      exact hret _ _ _ _ (Nat.le_refl _) (Nat.le_refl _) dL_pour_16
    · refine g_catch S1 [⟨0, 10, 13, 18⟩] ⟨0, 10, 17, 13⟩ [⟨0, 10, 21, 45⟩] hext (List.forall_mem_cons.mpr ⟨Or.inr ⟨by decide, _, q_1059, n1⟩, fun _ h => absurd h List.not_mem_nil⟩) (by decide) (by decide) q_1053 (hthr.2.2.2 _ (by simp [CSTW])) (fun q9 => ?_)
      refine g_astore (lv2 := [(4, .ref q9), (0, .ref (hY X.2.1.2 + 0)), (1, .int a1), (2, .int a2), (3, .ref ao)]) S1 dL_pour_17 (by decide) rfl ?_
      refine g_iconst S1 (2 : Int32) dL_pour_19 rfl ?_
      exact hret _ _ _ _ (Nat.le_refl _) (Nat.le_refl _) dL_pour_20
    · refine g_catch S1 [⟨0, 10, 13, 18⟩, ⟨0, 10, 17, 13⟩] ⟨0, 10, 21, 45⟩ [] hext (List.forall_mem_cons.mpr ⟨Or.inr ⟨by decide, _, q_1059, n2⟩, List.forall_mem_cons.mpr ⟨Or.inr ⟨by decide, _, q_1053, n3⟩, fun _ h => absurd h List.not_mem_nil⟩⟩) (by decide) (by decide) q_1095 (hthr.2.2.2 _ (by simp [CSTW])) (fun q9 => ?_)
      refine g_astore (lv2 := [(4, .ref q9), (0, .ref (hY X.2.1.2 + 0)), (1, .int a1), (2, .int a2), (3, .ref ao)]) S1 dL_pour_21 (by decide) rfl ?_
      refine g_iconst S1 (3 : Int32) dL_pour_23 rfl ?_
      exact hret _ _ _ _ (Nat.le_refl _) (Nat.le_refl _) dL_pour_24
  · obtain ⟨rfl, rfl⟩ := hin v hv
    show AG (setX X 3 18) 8 [(0, .ref (hY X.2.1.2 + 0)), (1, .int a1), (2, .int a2), (3, .ref ao)] [.int v, .int 0, .ref ao] _
    refine g_i2l S1 dL_pour_8 ?_
    refine g_lstE S1 (hD _ _) hKq 0 rfl (by decide) dL_pour_9 ?_
    refine g_goto S1 25 dL_pour_10 (by decide) ?_
    refine g_iconst S1 (0 : Int32) dL_pour_25 rfl ?_
    exact hret _ _ _ _ (Nat.le_refl _) (Nat.le_refl _) dL_pour_26
set_option maxRecDepth 100000 in
set_option maxHeartbeats 4000000 in
theorem c_LW_rain (l : Launch) (hfl : l.stackTraces = false) (Y : Env1) (hG : gY Y = gC) (ao : Nat) (hao : ¬ AY Y ao) (a1 : Int32) (cA : ClassId) (f : Nat → Int64) (M : Mem) (res : Int32 ⊕ Nat) (M1 : Mem) (hE : LL_rain a1 M = some (res, M1)) (k0 : Int32) (e1 : va_E) (hin : ∀ v, res = .inl v → k0 = 0 ∧ e1 = (.inl (cA, 1, .inr (.inl (vp_updL f 0 v.toInt64))))) (hex : ∀ k, res = .inr k → (k = 2 ∧ k0 = 1 ∧ e1 = (.inl (cA, 1, .inr (.inl f)))) ∨ (k = 3 ∧ k0 = 2 ∧ e1 = (.inl (cA, 1, .inr (.inl f))))) : WC l Y yL_rain cL_rain 4 [(0, 9, 12, 13), (0, 9, 15, 45)] 8 2 12 [.ref (hY Y + 0), .int a1, .ref ao] ao (.inl (cA, 1, .inr (.inl f))) e1 (cA, .long) M k0 M1 := by
  refine mw (by decide +kernel) rfl hG (Nat.le_of_ble_eq_true rfl) (fun X hS hY1 hA hl1 hext hthr hKq n1 n2 n3 hroom hret => ?_)
  subst hY1
  subst hl1
  have S0 := hS 0 0 (Nat.zero_le _) (Nat.zero_le _)
  have S1 := hS 2 12 (Nat.le_refl _) (Nat.le_refl _)
  have hD : ∀ M e, va_D X.2.1.1 (wl X.2.1.2 M ++ [(ao, e)]) := fun M e => by rw [hA]; exact PE1.D hao
  have hYA : ∀ q, AY X.2.1.2 q → X.2.1.1 q := fun q h => by rw [hA]; exact Or.inl h
  have hthr : THB X.2.1.1 X.1.2.2.2.2.1.heap X.1.2.2.2.2.1 := by rw [hA]; exact hthr
  show AG (setX X 0 0) 0 [(0, .ref (hY X.2.1.2 + 0)), (1, .int a1), (2, .ref ao)] [] (PE X.2.1.2 M [(ao, (.inl (cA, 1, .inr (.inl f))))])
  refine g_aload_n S0 dL_rain_0 2 rfl ?_
  refine g_iconst S0 (0 : Int32) dL_rain_1 rfl ?_
  refine g_aload_n S0 dL_rain_2 0 rfl ?_
  refine g_iload_n S0 dL_rain_3 1 rfl ?_
  refine gxc_I S0 hYA (gx_V S0 (gYX S0) S0.2.2.2.2.2.1 (fun H h => PE.reg h) fc7 (by decide) hthr hYA (c_LL_rain _ hfl _ (gYX S0) a1 M _ _ hE) wdX7_rain q_1096 ⟨Nat.le_of_ble_eq_true rfl, Nat.le_of_ble_eq_true rfl⟩ ⟨by rw [← hroom.1]; exact Nat.le_of_ble_eq_true rfl, by rw [← hroom.2]; exact Nat.le_of_ble_eq_true rfl⟩ rfl (Nat.le_of_ble_eq_true rfl) dL_rain_4) (PE1.call hao) (fun k hk => ?_) (fun v hv => ?_)
  · have hk2 := hex k hk
    show AGX (setX X 2 12) 4 [(0, .ref (hY X.2.1.2 + 0)), (1, .int a1), (2, .ref ao)] [.int 0, .ref ao] _ _
    rcases hk2 with ⟨rfl, rfl, rfl⟩ | ⟨rfl, rfl, rfl⟩
    · refine g_catch S1 [] ⟨0, 9, 12, 13⟩ [⟨0, 9, 15, 45⟩] hext (fun z hz => nomatch hz) (by decide) (by decide) q_1053 (hthr.2.2.2 _ (by simp [CSTW])) (fun q9 => ?_)
      refine g_astore_n (lv2 := [(3, .ref q9), (0, .ref (hY X.2.1.2 + 0)), (1, .int a1), (2, .ref ao)]) S1 dL_rain_12 (by decide) rfl ?_
      refine g_iconst S1 (1 : Int32) dL_rain_13 rfl ?_
      exact hret _ _ _ _ (Nat.le_refl _) (Nat.le_refl _) dL_rain_14
    · refine g_catch S1 [⟨0, 9, 12, 13⟩] ⟨0, 9, 15, 45⟩ [] hext (List.forall_mem_cons.mpr ⟨Or.inr ⟨by decide, _, q_1053, n3⟩, fun _ h => absurd h List.not_mem_nil⟩) (by decide) (by decide) q_1095 (hthr.2.2.2 _ (by simp [CSTW])) (fun q9 => ?_)
      refine g_astore_n (lv2 := [(3, .ref q9), (0, .ref (hY X.2.1.2 + 0)), (1, .int a1), (2, .ref ao)]) S1 dL_rain_15 (by decide) rfl ?_
      refine g_iconst S1 (2 : Int32) dL_rain_16 rfl ?_
      exact hret _ _ _ _ (Nat.le_refl _) (Nat.le_refl _) dL_rain_17
  · obtain ⟨rfl, rfl⟩ := hin v hv
    show AG (setX X 2 12) 7 [(0, .ref (hY X.2.1.2 + 0)), (1, .int a1), (2, .ref ao)] [.int v, .int 0, .ref ao] _
    refine g_i2l S1 dL_rain_7 ?_
    refine g_lstE S1 (hD _ _) hKq 0 rfl (by decide) dL_rain_8 ?_
    refine g_goto S1 18 dL_rain_9 (by decide) ?_
    refine g_iconst S1 (0 : Int32) dL_rain_18 rfl ?_
    exact hret _ _ _ _ (Nat.le_refl _) (Nat.le_refl _) dL_rain_19
set_option maxRecDepth 100000 in
set_option maxHeartbeats 4000000 in
theorem c_LW_evaporate (l : Launch) (hfl : l.stackTraces = false) (Y : Env1) (hG : gY Y = gC) (ao : Nat) (hao : ¬ AY Y ao) (a1 : Int32) (cA : ClassId) (f : Nat → Int64) (M : Mem) (res : Int32 ⊕ Nat) (M1 : Mem) (hE : LL_evaporate a1 M = some (res, M1)) (k0 : Int32) (e1 : va_E) (hin : ∀ v, res = .inl v → k0 = 0 ∧ e1 = (.inl (cA, 1, .inr (.inl (vp_updL f 0 v.toInt64))))) (hex : ∀ k, res = .inr k → (k = 2 ∧ k0 = 1 ∧ e1 = (.inl (cA, 1, .inr (.inl f))))) : WC l Y yL_evaporate cL_evaporate 4 [(0, 9, 12, 13)] 8 1 6 [.ref (hY Y + 0), .int a1, .ref ao] ao (.inl (cA, 1, .inr (.inl f))) e1 (cA, .long) M k0 M1 := by
  refine mw (by decide +kernel) rfl hG (Nat.le_of_ble_eq_true rfl) (fun X hS hY1 hA hl1 hext hthr hKq n1 n2 n3 hroom hret => ?_)
  subst hY1
  subst hl1
  have S0 := hS 0 0 (Nat.zero_le _) (Nat.zero_le _)
  have S1 := hS 1 6 (Nat.le_refl _) (Nat.le_refl _)
  have hD : ∀ M e, va_D X.2.1.1 (wl X.2.1.2 M ++ [(ao, e)]) := fun M e => by rw [hA]; exact PE1.D hao
  have hYA : ∀ q, AY X.2.1.2 q → X.2.1.1 q := fun q h => by rw [hA]; exact Or.inl h
  have hthr : THB X.2.1.1 X.1.2.2.2.2.1.heap X.1.2.2.2.2.1 := by rw [hA]; exact hthr
  show AG (setX X 0 0) 0 [(0, .ref (hY X.2.1.2 + 0)), (1, .int a1), (2, .ref ao)] [] (PE X.2.1.2 M [(ao, (.inl (cA, 1, .inr (.inl f))))])
  refine g_aload_n S0 dL_evaporate_0 2 rfl ?_
  refine g_iconst S0 (0 : Int32) dL_evaporate_1 rfl ?_
  refine g_aload_n S0 dL_evaporate_2 0 rfl ?_
  refine g_iload_n S0 dL_evaporate_3 1 rfl ?_
  refine gxc_I S0 hYA (gx_V S0 (gYX S0) S0.2.2.2.2.2.1 (fun H h => PE.reg h) fc7 (by decide) hthr hYA (c_LL_evaporate _ hfl _ (gYX S0) a1 M _ _ hE) wdX7_evaporate q_1101 ⟨Nat.le_of_ble_eq_true rfl, Nat.le_of_ble_eq_true rfl⟩ ⟨by rw [← hroom.1]; exact Nat.le_of_ble_eq_true rfl, by rw [← hroom.2]; exact Nat.le_of_ble_eq_true rfl⟩ rfl (Nat.le_of_ble_eq_true rfl) dL_evaporate_4) (PE1.call hao) (fun k hk => ?_) (fun v hv => ?_)
  · have hk2 := hex k hk
    show AGX (setX X 1 6) 4 [(0, .ref (hY X.2.1.2 + 0)), (1, .int a1), (2, .ref ao)] [.int 0, .ref ao] _ _
    obtain ⟨rfl, rfl, rfl⟩ := hk2
    refine g_catch S1 [] ⟨0, 9, 12, 13⟩ [] hext (fun z hz => nomatch hz) (by decide) (by decide) q_1053 (hthr.2.2.2 _ (by simp [CSTW])) (fun q9 => ?_)
    refine g_astore_n (lv2 := [(3, .ref q9), (0, .ref (hY X.2.1.2 + 0)), (1, .int a1), (2, .ref ao)]) S1 dL_evaporate_12 (by decide) rfl ?_
    refine g_iconst S1 (1 : Int32) dL_evaporate_13 rfl ?_
    exact hret _ _ _ _ (Nat.le_refl _) (Nat.le_refl _) dL_evaporate_14
  · obtain ⟨rfl, rfl⟩ := hin v hv
    show AG (setX X 1 6) 7 [(0, .ref (hY X.2.1.2 + 0)), (1, .int a1), (2, .ref ao)] [.int v, .int 0, .ref ao] _
    refine g_i2l S1 dL_evaporate_7 ?_
    refine g_lstE S1 (hD _ _) hKq 0 rfl (by decide) dL_evaporate_8 ?_
    refine g_goto S1 15 dL_evaporate_9 (by decide) ?_
    refine g_iconst S1 (0 : Int32) dL_evaporate_15 rfl ?_
    exact hret _ _ _ _ (Nat.le_refl _) (Nat.le_refl _) dL_evaporate_16
set_option maxRecDepth 100000 in
set_option maxHeartbeats 4000000 in
theorem c_LW_take (l : Launch) (hfl : l.stackTraces = false) (Y : Env1) (hG : gY Y = gC) (ao : Nat) (hao : ¬ AY Y ao) (a1 : Int32) (a2 : Int32) (cA : ClassId) (f : Nat → Int64) (M : Mem) (res : Int32 ⊕ Nat) (M1 : Mem) (hE : LL_take a1 a2 M = some (res, M1)) (k0 : Int32) (e1 : va_E) (hin : ∀ v, res = .inl v → k0 = 0 ∧ e1 = (.inl (cA, 1, .inr (.inl (vp_updL f 0 v.toInt64))))) (hex : ∀ k, res = .inr k → (k = 1 ∧ k0 = 1 ∧ e1 = (.inl (cA, 1, .inr (.inl f)))) ∨ (k = 2 ∧ k0 = 2 ∧ e1 = (.inl (cA, 1, .inr (.inl f))))) : WC l Y yL_take cL_take 5 [(0, 10, 13, 18), (0, 10, 17, 13)] 8 2 12 [.ref (hY Y + 0), .int a1, .int a2, .ref ao] ao (.inl (cA, 1, .inr (.inl f))) e1 (cA, .long) M k0 M1 := by
  refine mw (by decide +kernel) rfl hG (Nat.le_of_ble_eq_true rfl) (fun X hS hY1 hA hl1 hext hthr hKq n1 n2 n3 hroom hret => ?_)
  subst hY1
  subst hl1
  have S0 := hS 0 0 (Nat.zero_le _) (Nat.zero_le _)
  have S1 := hS 2 12 (Nat.le_refl _) (Nat.le_refl _)
  have hD : ∀ M e, va_D X.2.1.1 (wl X.2.1.2 M ++ [(ao, e)]) := fun M e => by rw [hA]; exact PE1.D hao
  have hYA : ∀ q, AY X.2.1.2 q → X.2.1.1 q := fun q h => by rw [hA]; exact Or.inl h
  have hthr : THB X.2.1.1 X.1.2.2.2.2.1.heap X.1.2.2.2.2.1 := by rw [hA]; exact hthr
  show AG (setX X 0 0) 0 [(0, .ref (hY X.2.1.2 + 0)), (1, .int a1), (2, .int a2), (3, .ref ao)] [] (PE X.2.1.2 M [(ao, (.inl (cA, 1, .inr (.inl f))))])
  refine g_aload_n S0 dL_take_0 3 rfl ?_
  refine g_iconst S0 (0 : Int32) dL_take_1 rfl ?_
  refine g_aload_n S0 dL_take_2 0 rfl ?_
  refine g_iload_n S0 dL_take_3 1 rfl ?_
  refine g_iload_n S0 dL_take_4 2 rfl ?_
  refine gxc_I S0 hYA (gx_V S0 (gYX S0) S0.2.2.2.2.2.1 (fun H h => PE.reg h) fc7 (by decide) hthr hYA (c_LL_take _ hfl _ (gYX S0) a1 a2 M _ _ hE) wdX7_take q_1106 ⟨Nat.le_of_ble_eq_true rfl, Nat.le_of_ble_eq_true rfl⟩ ⟨by rw [← hroom.1]; exact Nat.le_of_ble_eq_true rfl, by rw [← hroom.2]; exact Nat.le_of_ble_eq_true rfl⟩ rfl (Nat.le_of_ble_eq_true rfl) dL_take_5) (PE1.call hao) (fun k hk => ?_) (fun v hv => ?_)
  · have hk2 := hex k hk
    show AGX (setX X 2 12) 5 [(0, .ref (hY X.2.1.2 + 0)), (1, .int a1), (2, .int a2), (3, .ref ao)] [.int 0, .ref ao] _ _
    rcases hk2 with ⟨rfl, rfl, rfl⟩ | ⟨rfl, rfl, rfl⟩
    · refine g_catch S1 [] ⟨0, 10, 13, 18⟩ [⟨0, 10, 17, 13⟩] hext (fun z hz => nomatch hz) (by decide) (by decide) q_1059 (hthr.2.2.2 _ (by simp [CSTW])) (fun q9 => ?_)
      refine g_astore (lv2 := [(4, .ref q9), (0, .ref (hY X.2.1.2 + 0)), (1, .int a1), (2, .int a2), (3, .ref ao)]) S1 dL_take_13 (by decide) rfl ?_
      refine g_iconst S1 (1 : Int32) dL_take_15 rfl ?_
      exact hret _ _ _ _ (Nat.le_refl _) (Nat.le_refl _) dL_take_16
    · refine g_catch S1 [⟨0, 10, 13, 18⟩] ⟨0, 10, 17, 13⟩ [] hext (List.forall_mem_cons.mpr ⟨Or.inr ⟨by decide, _, q_1059, n1⟩, fun _ h => absurd h List.not_mem_nil⟩) (by decide) (by decide) q_1053 (hthr.2.2.2 _ (by simp [CSTW])) (fun q9 => ?_)
      refine g_astore (lv2 := [(4, .ref q9), (0, .ref (hY X.2.1.2 + 0)), (1, .int a1), (2, .int a2), (3, .ref ao)]) S1 dL_take_17 (by decide) rfl ?_
      refine g_iconst S1 (2 : Int32) dL_take_19 rfl ?_
      exact hret _ _ _ _ (Nat.le_refl _) (Nat.le_refl _) dL_take_20
  · obtain ⟨rfl, rfl⟩ := hin v hv
    show AG (setX X 2 12) 8 [(0, .ref (hY X.2.1.2 + 0)), (1, .int a1), (2, .int a2), (3, .ref ao)] [.int v, .int 0, .ref ao] _
    refine g_i2l S1 dL_take_8 ?_
    refine g_lstE S1 (hD _ _) hKq 0 rfl (by decide) dL_take_9 ?_
    refine g_goto S1 21 dL_take_10 (by decide) ?_
    refine g_iconst S1 (0 : Int32) dL_take_21 rfl ?_
    exact hret _ _ _ _ (Nat.le_refl _) (Nat.le_refl _) dL_take_22
set_option maxRecDepth 100000 in
set_option maxHeartbeats 4000000 in
theorem c_LW_balance (l : Launch) (hfl : l.stackTraces = false) (Y : Env1) (hG : gY Y = gC) (ao : Nat) (hao : ¬ AY Y ao) (a1 : Int32) (cA : ClassId) (f : Nat → Int64) (M : Mem) (res : Int64 ⊕ Nat) (M1 : Mem) (hE : LL_balance a1 M = some (res, M1)) (k0 : Int32) (e1 : va_E) (hin : ∀ v, res = .inl v → k0 = 0 ∧ e1 = (.inl (cA, 1, .inr (.inl (vp_updL f 0 v))))) (hex : ∀ k, res = .inr k → (k = 2 ∧ k0 = 1 ∧ e1 = (.inl (cA, 1, .inr (.inl f))))) : WC l Y yL_balance cL_balance 4 [(0, 8, 11, 13)] 8 1 6 [.ref (hY Y + 0), .int a1, .ref ao] ao (.inl (cA, 1, .inr (.inl f))) e1 (cA, .long) M k0 M1 := by
  refine mw (by decide +kernel) rfl hG (Nat.le_of_ble_eq_true rfl) (fun X hS hY1 hA hl1 hext hthr hKq n1 n2 n3 hroom hret => ?_)
  subst hY1
  subst hl1
  have S0 := hS 0 0 (Nat.zero_le _) (Nat.zero_le _)
  have S1 := hS 1 6 (Nat.le_refl _) (Nat.le_refl _)
  have hD : ∀ M e, va_D X.2.1.1 (wl X.2.1.2 M ++ [(ao, e)]) := fun M e => by rw [hA]; exact PE1.D hao
  have hYA : ∀ q, AY X.2.1.2 q → X.2.1.1 q := fun q h => by rw [hA]; exact Or.inl h
  have hthr : THB X.2.1.1 X.1.2.2.2.2.1.heap X.1.2.2.2.2.1 := by rw [hA]; exact hthr
  show AG (setX X 0 0) 0 [(0, .ref (hY X.2.1.2 + 0)), (1, .int a1), (2, .ref ao)] [] (PE X.2.1.2 M [(ao, (.inl (cA, 1, .inr (.inl f))))])
  refine g_aload_n S0 dL_balance_0 2 rfl ?_
  refine g_iconst S0 (0 : Int32) dL_balance_1 rfl ?_
  refine g_aload_n S0 dL_balance_2 0 rfl ?_
  refine g_iload_n S0 dL_balance_3 1 rfl ?_
  refine gxc_L S0 hYA (gx_V S0 (gYX S0) S0.2.2.2.2.2.1 (fun H h => PE.reg h) fc7 (by decide) hthr hYA (c_LL_balance _ hfl _ (gYX S0) a1 M _ _ hE) wdX7_balance q_1111 ⟨Nat.le_of_ble_eq_true rfl, Nat.le_of_ble_eq_true rfl⟩ ⟨by rw [← hroom.1]; exact Nat.le_of_ble_eq_true rfl, by rw [← hroom.2]; exact Nat.le_of_ble_eq_true rfl⟩ rfl (Nat.le_of_ble_eq_true rfl) dL_balance_4) (PE1.call hao) (fun k hk => ?_) (fun v hv => ?_)
  · have hk2 := hex k hk
    show AGX (setX X 1 6) 4 [(0, .ref (hY X.2.1.2 + 0)), (1, .int a1), (2, .ref ao)] [.int 0, .ref ao] _ _
    obtain ⟨rfl, rfl, rfl⟩ := hk2
    refine g_catch S1 [] ⟨0, 8, 11, 13⟩ [] hext (fun z hz => nomatch hz) (by decide) (by decide) q_1053 (hthr.2.2.2 _ (by simp [CSTW])) (fun q9 => ?_)
    refine g_astore_n (lv2 := [(3, .ref q9), (0, .ref (hY X.2.1.2 + 0)), (1, .int a1), (2, .ref ao)]) S1 dL_balance_11 (by decide) rfl ?_
    refine g_iconst S1 (1 : Int32) dL_balance_12 rfl ?_
    exact hret _ _ _ _ (Nat.le_refl _) (Nat.le_refl _) dL_balance_13
  · obtain ⟨rfl, rfl⟩ := hin v hv
    show AG (setX X 1 6) 7 [(0, .ref (hY X.2.1.2 + 0)), (1, .int a1), (2, .ref ao)] [.long v, .int 0, .ref ao] _
    refine g_lstE S1 (hD _ _) hKq 0 rfl (by decide) dL_balance_7 ?_
    refine g_goto S1 14 dL_balance_8 (by decide) ?_
    refine g_iconst S1 (0 : Int32) dL_balance_14 rfl ?_
    exact hret _ _ _ _ (Nat.le_refl _) (Nat.le_refl _) dL_balance_15
set_option maxRecDepth 100000 in
set_option maxHeartbeats 4000000 in
theorem c_LW_lake (l : Launch) (hfl : l.stackTraces = false) (Y : Env1) (hG : gY Y = gC) (ao : Nat) (hao : ¬ AY Y ao) (a1 : Int32) (a2 : Int32) (cA : ClassId) (f : Nat → Int64) (M : Mem) (res : Int32 ⊕ Nat) (M1 : Mem) (hE : LL_lake a1 a2 M = some (res, M1)) (k0 : Int32) (e1 : va_E) (hin : ∀ v, res = .inl v → k0 = 0 ∧ e1 = (.inl (cA, 1, .inr (.inl (vp_updL f 0 v.toInt64))))) (hex : ∀ k, res = .inr k → (k = 1 ∧ k0 = 1 ∧ e1 = (.inl (cA, 1, .inr (.inl f)))) ∨ (k = 2 ∧ k0 = 2 ∧ e1 = (.inl (cA, 1, .inr (.inl f))))) : WC l Y yL_lake cL_lake 5 [(0, 10, 13, 18), (0, 10, 17, 13)] 8 2 12 [.ref (hY Y + 0), .int a1, .int a2, .ref ao] ao (.inl (cA, 1, .inr (.inl f))) e1 (cA, .long) M k0 M1 := by
  refine mw (by decide +kernel) rfl hG (Nat.le_of_ble_eq_true rfl) (fun X hS hY1 hA hl1 hext hthr hKq n1 n2 n3 hroom hret => ?_)
  subst hY1
  subst hl1
  have S0 := hS 0 0 (Nat.zero_le _) (Nat.zero_le _)
  have S1 := hS 2 12 (Nat.le_refl _) (Nat.le_refl _)
  have hD : ∀ M e, va_D X.2.1.1 (wl X.2.1.2 M ++ [(ao, e)]) := fun M e => by rw [hA]; exact PE1.D hao
  have hYA : ∀ q, AY X.2.1.2 q → X.2.1.1 q := fun q h => by rw [hA]; exact Or.inl h
  have hthr : THB X.2.1.1 X.1.2.2.2.2.1.heap X.1.2.2.2.2.1 := by rw [hA]; exact hthr
  show AG (setX X 0 0) 0 [(0, .ref (hY X.2.1.2 + 0)), (1, .int a1), (2, .int a2), (3, .ref ao)] [] (PE X.2.1.2 M [(ao, (.inl (cA, 1, .inr (.inl f))))])
  refine g_aload_n S0 dL_lake_0 3 rfl ?_
  refine g_iconst S0 (0 : Int32) dL_lake_1 rfl ?_
  refine g_aload_n S0 dL_lake_2 0 rfl ?_
  refine g_iload_n S0 dL_lake_3 1 rfl ?_
  refine g_iload_n S0 dL_lake_4 2 rfl ?_
  refine gxc_I S0 hYA (gx_V S0 (gYX S0) S0.2.2.2.2.2.1 (fun H h => PE.reg h) fc7 (by decide) hthr hYA (c_LL_lake _ hfl _ (gYX S0) a1 a2 M _ _ hE) wdX7_lake q_1116 ⟨Nat.le_of_ble_eq_true rfl, Nat.le_of_ble_eq_true rfl⟩ ⟨by rw [← hroom.1]; exact Nat.le_of_ble_eq_true rfl, by rw [← hroom.2]; exact Nat.le_of_ble_eq_true rfl⟩ rfl (Nat.le_of_ble_eq_true rfl) dL_lake_5) (PE1.call hao) (fun k hk => ?_) (fun v hv => ?_)
  · have hk2 := hex k hk
    show AGX (setX X 2 12) 5 [(0, .ref (hY X.2.1.2 + 0)), (1, .int a1), (2, .int a2), (3, .ref ao)] [.int 0, .ref ao] _ _
    rcases hk2 with ⟨rfl, rfl, rfl⟩ | ⟨rfl, rfl, rfl⟩
    · refine g_catch S1 [] ⟨0, 10, 13, 18⟩ [⟨0, 10, 17, 13⟩] hext (fun z hz => nomatch hz) (by decide) (by decide) q_1059 (hthr.2.2.2 _ (by simp [CSTW])) (fun q9 => ?_)
      refine g_astore (lv2 := [(4, .ref q9), (0, .ref (hY X.2.1.2 + 0)), (1, .int a1), (2, .int a2), (3, .ref ao)]) S1 dL_lake_13 (by decide) rfl ?_
      refine g_iconst S1 (1 : Int32) dL_lake_15 rfl ?_
      exact hret _ _ _ _ (Nat.le_refl _) (Nat.le_refl _) dL_lake_16
    · refine g_catch S1 [⟨0, 10, 13, 18⟩] ⟨0, 10, 17, 13⟩ [] hext (List.forall_mem_cons.mpr ⟨Or.inr ⟨by decide, _, q_1059, n1⟩, fun _ h => absurd h List.not_mem_nil⟩) (by decide) (by decide) q_1053 (hthr.2.2.2 _ (by simp [CSTW])) (fun q9 => ?_)
      refine g_astore (lv2 := [(4, .ref q9), (0, .ref (hY X.2.1.2 + 0)), (1, .int a1), (2, .int a2), (3, .ref ao)]) S1 dL_lake_17 (by decide) rfl ?_
      refine g_iconst S1 (2 : Int32) dL_lake_19 rfl ?_
      exact hret _ _ _ _ (Nat.le_refl _) (Nat.le_refl _) dL_lake_20
  · obtain ⟨rfl, rfl⟩ := hin v hv
    show AG (setX X 2 12) 8 [(0, .ref (hY X.2.1.2 + 0)), (1, .int a1), (2, .int a2), (3, .ref ao)] [.int v, .int 0, .ref ao] _
    refine g_i2l S1 dL_lake_8 ?_
    refine g_lstE S1 (hD _ _) hKq 0 rfl (by decide) dL_lake_9 ?_
    refine g_goto S1 21 dL_lake_10 (by decide) ?_
    refine g_iconst S1 (0 : Int32) dL_lake_21 rfl ?_
    exact hret _ _ _ _ (Nat.le_refl _) (Nat.le_refl _) dL_lake_22
set_option maxRecDepth 100000 in
set_option maxHeartbeats 4000000 in
theorem c_LW_lakeCells (l : Launch) (hfl : l.stackTraces = false) (Y : Env1) (hG : gY Y = gC) (ao : Nat) (hao : ¬ AY Y ao) (a1 : Int32) (cA : ClassId) (f : Nat → Int64) (M : Mem) (res : Int64 ⊕ Nat) (M1 : Mem) (hE : LL_lakeCells a1 M = some (res, M1)) (k0 : Int32) (e1 : va_E) (hin : ∀ v, res = .inl v → k0 = 0 ∧ e1 = (.inl (cA, 1, .inr (.inl (vp_updL f 0 v))))) (hex : ∀ k, res = .inr k → (k = 1 ∧ k0 = 1 ∧ e1 = (.inl (cA, 1, .inr (.inl f))))) : WC l Y yL_lakeCells cL_lakeCells 4 [(0, 8, 11, 18)] 8 1 6 [.ref (hY Y + 0), .int a1, .ref ao] ao (.inl (cA, 1, .inr (.inl f))) e1 (cA, .long) M k0 M1 := by
  refine mw (by decide +kernel) rfl hG (Nat.le_of_ble_eq_true rfl) (fun X hS hY1 hA hl1 hext hthr hKq n1 n2 n3 hroom hret => ?_)
  subst hY1
  subst hl1
  have S0 := hS 0 0 (Nat.zero_le _) (Nat.zero_le _)
  have S1 := hS 1 6 (Nat.le_refl _) (Nat.le_refl _)
  have hD : ∀ M e, va_D X.2.1.1 (wl X.2.1.2 M ++ [(ao, e)]) := fun M e => by rw [hA]; exact PE1.D hao
  have hYA : ∀ q, AY X.2.1.2 q → X.2.1.1 q := fun q h => by rw [hA]; exact Or.inl h
  have hthr : THB X.2.1.1 X.1.2.2.2.2.1.heap X.1.2.2.2.2.1 := by rw [hA]; exact hthr
  show AG (setX X 0 0) 0 [(0, .ref (hY X.2.1.2 + 0)), (1, .int a1), (2, .ref ao)] [] (PE X.2.1.2 M [(ao, (.inl (cA, 1, .inr (.inl f))))])
  refine g_aload_n S0 dL_lakeCells_0 2 rfl ?_
  refine g_iconst S0 (0 : Int32) dL_lakeCells_1 rfl ?_
  refine g_aload_n S0 dL_lakeCells_2 0 rfl ?_
  refine g_iload_n S0 dL_lakeCells_3 1 rfl ?_
  refine gxc_L S0 hYA (gx_V S0 (gYX S0) S0.2.2.2.2.2.1 (fun H h => PE.reg h) fc7 (by decide) hthr hYA (c_LL_lakeCells _ hfl _ (gYX S0) a1 M _ _ hE) wdX7_lakeCells q_1121 ⟨Nat.le_of_ble_eq_true rfl, Nat.le_of_ble_eq_true rfl⟩ ⟨by rw [← hroom.1]; exact Nat.le_of_ble_eq_true rfl, by rw [← hroom.2]; exact Nat.le_of_ble_eq_true rfl⟩ rfl (Nat.le_of_ble_eq_true rfl) dL_lakeCells_4) (PE1.call hao) (fun k hk => ?_) (fun v hv => ?_)
  · have hk2 := hex k hk
    show AGX (setX X 1 6) 4 [(0, .ref (hY X.2.1.2 + 0)), (1, .int a1), (2, .ref ao)] [.int 0, .ref ao] _ _
    obtain ⟨rfl, rfl, rfl⟩ := hk2
    refine g_catch S1 [] ⟨0, 8, 11, 18⟩ [] hext (fun z hz => nomatch hz) (by decide) (by decide) q_1059 (hthr.2.2.2 _ (by simp [CSTW])) (fun q9 => ?_)
    refine g_astore_n (lv2 := [(3, .ref q9), (0, .ref (hY X.2.1.2 + 0)), (1, .int a1), (2, .ref ao)]) S1 dL_lakeCells_11 (by decide) rfl ?_
    refine g_iconst S1 (1 : Int32) dL_lakeCells_12 rfl ?_
    exact hret _ _ _ _ (Nat.le_refl _) (Nat.le_refl _) dL_lakeCells_13
  · obtain ⟨rfl, rfl⟩ := hin v hv
    show AG (setX X 1 6) 7 [(0, .ref (hY X.2.1.2 + 0)), (1, .int a1), (2, .ref ao)] [.long v, .int 0, .ref ao] _
    refine g_lstE S1 (hD _ _) hKq 0 rfl (by decide) dL_lakeCells_7 ?_
    refine g_goto S1 14 dL_lakeCells_8 (by decide) ?_
    refine g_iconst S1 (0 : Int32) dL_lakeCells_14 rfl ?_
    exact hret _ _ _ _ (Nat.le_refl _) (Nat.le_refl _) dL_lakeCells_15
set_option maxRecDepth 100000 in
set_option maxHeartbeats 4000000 in
theorem c_LW_level (l : Launch) (hfl : l.stackTraces = false) (Y : Env1) (hG : gY Y = gC) (ao : Nat) (hao : ¬ AY Y ao) (a1 : Int32) (a2 : Int32) (cA : ClassId) (f : Nat → Int64) (M : Mem) (res : Int32 ⊕ Nat) (M1 : Mem) (hE : LL_level a1 a2 M = some (res, M1)) (k0 : Int32) (e1 : va_E) (hin : ∀ v, res = .inl v → k0 = 0 ∧ e1 = (.inl (cA, 1, .inr (.inl (vp_updL f 0 v.toInt64))))) (hex : ∀ k, res = .inr k → (k = 1 ∧ k0 = 1 ∧ e1 = (.inl (cA, 1, .inr (.inl f)))) ∨ (k = 2 ∧ k0 = 2 ∧ e1 = (.inl (cA, 1, .inr (.inl f))))) : WC l Y yL_level cL_level 5 [(0, 10, 13, 18), (0, 10, 17, 13)] 8 2 12 [.ref (hY Y + 0), .int a1, .int a2, .ref ao] ao (.inl (cA, 1, .inr (.inl f))) e1 (cA, .long) M k0 M1 := by
  refine mw (by decide +kernel) rfl hG (Nat.le_of_ble_eq_true rfl) (fun X hS hY1 hA hl1 hext hthr hKq n1 n2 n3 hroom hret => ?_)
  subst hY1
  subst hl1
  have S0 := hS 0 0 (Nat.zero_le _) (Nat.zero_le _)
  have S1 := hS 2 12 (Nat.le_refl _) (Nat.le_refl _)
  have hD : ∀ M e, va_D X.2.1.1 (wl X.2.1.2 M ++ [(ao, e)]) := fun M e => by rw [hA]; exact PE1.D hao
  have hYA : ∀ q, AY X.2.1.2 q → X.2.1.1 q := fun q h => by rw [hA]; exact Or.inl h
  have hthr : THB X.2.1.1 X.1.2.2.2.2.1.heap X.1.2.2.2.2.1 := by rw [hA]; exact hthr
  show AG (setX X 0 0) 0 [(0, .ref (hY X.2.1.2 + 0)), (1, .int a1), (2, .int a2), (3, .ref ao)] [] (PE X.2.1.2 M [(ao, (.inl (cA, 1, .inr (.inl f))))])
  refine g_aload_n S0 dL_level_0 3 rfl ?_
  refine g_iconst S0 (0 : Int32) dL_level_1 rfl ?_
  refine g_aload_n S0 dL_level_2 0 rfl ?_
  refine g_iload_n S0 dL_level_3 1 rfl ?_
  refine g_iload_n S0 dL_level_4 2 rfl ?_
  refine gxc_I S0 hYA (gx_V S0 (gYX S0) S0.2.2.2.2.2.1 (fun H h => PE.reg h) fc7 (by decide) hthr hYA (c_LL_level _ hfl _ (gYX S0) a1 a2 M _ _ hE) wdX7_level q_1126 ⟨Nat.le_of_ble_eq_true rfl, Nat.le_of_ble_eq_true rfl⟩ ⟨by rw [← hroom.1]; exact Nat.le_of_ble_eq_true rfl, by rw [← hroom.2]; exact Nat.le_of_ble_eq_true rfl⟩ rfl (Nat.le_of_ble_eq_true rfl) dL_level_5) (PE1.call hao) (fun k hk => ?_) (fun v hv => ?_)
  · have hk2 := hex k hk
    show AGX (setX X 2 12) 5 [(0, .ref (hY X.2.1.2 + 0)), (1, .int a1), (2, .int a2), (3, .ref ao)] [.int 0, .ref ao] _ _
    rcases hk2 with ⟨rfl, rfl, rfl⟩ | ⟨rfl, rfl, rfl⟩
    · refine g_catch S1 [] ⟨0, 10, 13, 18⟩ [⟨0, 10, 17, 13⟩] hext (fun z hz => nomatch hz) (by decide) (by decide) q_1059 (hthr.2.2.2 _ (by simp [CSTW])) (fun q9 => ?_)
      refine g_astore (lv2 := [(4, .ref q9), (0, .ref (hY X.2.1.2 + 0)), (1, .int a1), (2, .int a2), (3, .ref ao)]) S1 dL_level_13 (by decide) rfl ?_
      refine g_iconst S1 (1 : Int32) dL_level_15 rfl ?_
      exact hret _ _ _ _ (Nat.le_refl _) (Nat.le_refl _) dL_level_16
    · refine g_catch S1 [⟨0, 10, 13, 18⟩] ⟨0, 10, 17, 13⟩ [] hext (List.forall_mem_cons.mpr ⟨Or.inr ⟨by decide, _, q_1059, n1⟩, fun _ h => absurd h List.not_mem_nil⟩) (by decide) (by decide) q_1053 (hthr.2.2.2 _ (by simp [CSTW])) (fun q9 => ?_)
      refine g_astore (lv2 := [(4, .ref q9), (0, .ref (hY X.2.1.2 + 0)), (1, .int a1), (2, .int a2), (3, .ref ao)]) S1 dL_level_17 (by decide) rfl ?_
      refine g_iconst S1 (2 : Int32) dL_level_19 rfl ?_
      exact hret _ _ _ _ (Nat.le_refl _) (Nat.le_refl _) dL_level_20
  · obtain ⟨rfl, rfl⟩ := hin v hv
    show AG (setX X 2 12) 8 [(0, .ref (hY X.2.1.2 + 0)), (1, .int a1), (2, .int a2), (3, .ref ao)] [.int v, .int 0, .ref ao] _
    refine g_i2l S1 dL_level_8 ?_
    refine g_lstE S1 (hD _ _) hKq 0 rfl (by decide) dL_level_9 ?_
    refine g_goto S1 21 dL_level_10 (by decide) ?_
    refine g_iconst S1 (0 : Int32) dL_level_21 rfl ?_
    exact hret _ _ _ _ (Nat.le_refl _) (Nat.le_refl _) dL_level_22
set_option maxRecDepth 100000 in
set_option maxHeartbeats 4000000 in
theorem c_LW_depth (l : Launch) (hfl : l.stackTraces = false) (Y : Env1) (hG : gY Y = gC) (ao : Nat) (hao : ¬ AY Y ao) (a1 : Int32) (cA : ClassId) (f : Nat → UInt64) (M : Mem) (res : UInt64 ⊕ Nat) (M1 : Mem) (hE : LL_depth a1 M = some (res, M1)) (k0 : Int32) (e1 : va_E) (hin : ∀ v, res = .inl v → k0 = 0 ∧ e1 = (.inl (cA, 1, .inr (.inr (.inr (.inl (vf_upd f 0 v))))))) (hex : ∀ k, res = .inr k → (k = 1 ∧ k0 = 1 ∧ e1 = (.inl (cA, 1, .inr (.inr (.inr (.inl f))))))) : WC l Y yL_depth cL_depth 4 [(0, 8, 11, 18)] 8 1 6 [.ref (hY Y + 0), .int a1, .ref ao] ao (.inl (cA, 1, .inr (.inr (.inr (.inl f))))) e1 (cA, .double) M k0 M1 := by
  refine mw (by decide +kernel) rfl hG (Nat.le_of_ble_eq_true rfl) (fun X hS hY1 hA hl1 hext hthr hKq n1 n2 n3 hroom hret => ?_)
  subst hY1
  subst hl1
  have S0 := hS 0 0 (Nat.zero_le _) (Nat.zero_le _)
  have S1 := hS 1 6 (Nat.le_refl _) (Nat.le_refl _)
  have hD : ∀ M e, va_D X.2.1.1 (wl X.2.1.2 M ++ [(ao, e)]) := fun M e => by rw [hA]; exact PE1.D hao
  have hYA : ∀ q, AY X.2.1.2 q → X.2.1.1 q := fun q h => by rw [hA]; exact Or.inl h
  have hthr : THB X.2.1.1 X.1.2.2.2.2.1.heap X.1.2.2.2.2.1 := by rw [hA]; exact hthr
  show AG (setX X 0 0) 0 [(0, .ref (hY X.2.1.2 + 0)), (1, .int a1), (2, .ref ao)] [] (PE X.2.1.2 M [(ao, (.inl (cA, 1, .inr (.inr (.inr (.inl f))))))])
  refine g_aload_n S0 dL_depth_0 2 rfl ?_
  refine g_iconst S0 (0 : Int32) dL_depth_1 rfl ?_
  refine g_aload_n S0 dL_depth_2 0 rfl ?_
  refine g_iload_n S0 dL_depth_3 1 rfl ?_
  refine gxc_D S0 hYA (gx_V S0 (gYX S0) S0.2.2.2.2.2.1 (fun H h => PE.reg h) fc7 (by decide) hthr hYA (c_LL_depth _ hfl _ (gYX S0) a1 M _ _ hE) wdX7_depth q_1131 ⟨Nat.le_of_ble_eq_true rfl, Nat.le_of_ble_eq_true rfl⟩ ⟨by rw [← hroom.1]; exact Nat.le_of_ble_eq_true rfl, by rw [← hroom.2]; exact Nat.le_of_ble_eq_true rfl⟩ rfl (Nat.le_of_ble_eq_true rfl) dL_depth_4) (PE1.call hao) (fun k hk => ?_) (fun v hv => ?_)
  · have hk2 := hex k hk
    show AGX (setX X 1 6) 4 [(0, .ref (hY X.2.1.2 + 0)), (1, .int a1), (2, .ref ao)] [.int 0, .ref ao] _ _
    obtain ⟨rfl, rfl, rfl⟩ := hk2
    refine g_catch S1 [] ⟨0, 8, 11, 18⟩ [] hext (fun z hz => nomatch hz) (by decide) (by decide) q_1059 (hthr.2.2.2 _ (by simp [CSTW])) (fun q9 => ?_)
    refine g_astore_n (lv2 := [(3, .ref q9), (0, .ref (hY X.2.1.2 + 0)), (1, .int a1), (2, .ref ao)]) S1 dL_depth_11 (by decide) rfl ?_
    refine g_iconst S1 (1 : Int32) dL_depth_12 rfl ?_
    exact hret _ _ _ _ (Nat.le_refl _) (Nat.le_refl _) dL_depth_13
  · obtain ⟨rfl, rfl⟩ := hin v hv
    show AG (setX X 1 6) 7 [(0, .ref (hY X.2.1.2 + 0)), (1, .int a1), (2, .ref ao)] [.double v, .int 0, .ref ao] _
    refine g_dstE S1 (hD _ _) hKq 0 rfl (by decide) dL_depth_7 ?_
    refine g_goto S1 14 dL_depth_8 (by decide) ?_
    refine g_iconst S1 (0 : Int32) dL_depth_14 rfl ?_
    exact hret _ _ _ _ (Nat.le_refl _) (Nat.le_refl _) dL_depth_15
set_option maxRecDepth 100000 in
set_option maxHeartbeats 4000000 in
theorem c_LW_course (l : Launch) (hfl : l.stackTraces = false) (Y : Env1) (hG : gY Y = gC) (ao : Nat) (hao : ¬ AY Y ao) (a1 : Int32) (cA : ClassId) (f : Nat → Int64) (M : Mem) (res : Int64 ⊕ Nat) (M1 : Mem) (hE : LL_course a1 M = some (res, M1)) (k0 : Int32) (e1 : va_E) (hin : ∀ v, res = .inl v → k0 = 0 ∧ e1 = (.inl (cA, 1, .inr (.inl (vp_updL f 0 v))))) (hex : ∀ k, res = .inr k → (k = 1 ∧ k0 = 1 ∧ e1 = (.inl (cA, 1, .inr (.inl f))))) : WC l Y yL_course cL_course 4 [(0, 8, 11, 18)] 8 1 6 [.ref (hY Y + 0), .int a1, .ref ao] ao (.inl (cA, 1, .inr (.inl f))) e1 (cA, .long) M k0 M1 := by
  refine mw (by decide +kernel) rfl hG (Nat.le_of_ble_eq_true rfl) (fun X hS hY1 hA hl1 hext hthr hKq n1 n2 n3 hroom hret => ?_)
  subst hY1
  subst hl1
  have S0 := hS 0 0 (Nat.zero_le _) (Nat.zero_le _)
  have S1 := hS 1 6 (Nat.le_refl _) (Nat.le_refl _)
  have hD : ∀ M e, va_D X.2.1.1 (wl X.2.1.2 M ++ [(ao, e)]) := fun M e => by rw [hA]; exact PE1.D hao
  have hYA : ∀ q, AY X.2.1.2 q → X.2.1.1 q := fun q h => by rw [hA]; exact Or.inl h
  have hthr : THB X.2.1.1 X.1.2.2.2.2.1.heap X.1.2.2.2.2.1 := by rw [hA]; exact hthr
  show AG (setX X 0 0) 0 [(0, .ref (hY X.2.1.2 + 0)), (1, .int a1), (2, .ref ao)] [] (PE X.2.1.2 M [(ao, (.inl (cA, 1, .inr (.inl f))))])
  refine g_aload_n S0 dL_course_0 2 rfl ?_
  refine g_iconst S0 (0 : Int32) dL_course_1 rfl ?_
  refine g_aload_n S0 dL_course_2 0 rfl ?_
  refine g_iload_n S0 dL_course_3 1 rfl ?_
  refine gxc_L S0 hYA (gx_V S0 (gYX S0) S0.2.2.2.2.2.1 (fun H h => PE.reg h) fc7 (by decide) hthr hYA (c_LL_course _ hfl _ (gYX S0) a1 M _ _ hE) wdX7_course q_1136 ⟨Nat.le_of_ble_eq_true rfl, Nat.le_of_ble_eq_true rfl⟩ ⟨by rw [← hroom.1]; exact Nat.le_of_ble_eq_true rfl, by rw [← hroom.2]; exact Nat.le_of_ble_eq_true rfl⟩ rfl (Nat.le_of_ble_eq_true rfl) dL_course_4) (PE1.call hao) (fun k hk => ?_) (fun v hv => ?_)
  · have hk2 := hex k hk
    show AGX (setX X 1 6) 4 [(0, .ref (hY X.2.1.2 + 0)), (1, .int a1), (2, .ref ao)] [.int 0, .ref ao] _ _
    obtain ⟨rfl, rfl, rfl⟩ := hk2
    refine g_catch S1 [] ⟨0, 8, 11, 18⟩ [] hext (fun z hz => nomatch hz) (by decide) (by decide) q_1059 (hthr.2.2.2 _ (by simp [CSTW])) (fun q9 => ?_)
    refine g_astore_n (lv2 := [(3, .ref q9), (0, .ref (hY X.2.1.2 + 0)), (1, .int a1), (2, .ref ao)]) S1 dL_course_11 (by decide) rfl ?_
    refine g_iconst S1 (1 : Int32) dL_course_12 rfl ?_
    exact hret _ _ _ _ (Nat.le_refl _) (Nat.le_refl _) dL_course_13
  · obtain ⟨rfl, rfl⟩ := hin v hv
    show AG (setX X 1 6) 7 [(0, .ref (hY X.2.1.2 + 0)), (1, .int a1), (2, .ref ao)] [.long v, .int 0, .ref ao] _
    refine g_lstE S1 (hD _ _) hKq 0 rfl (by decide) dL_course_7 ?_
    refine g_goto S1 14 dL_course_8 (by decide) ?_
    refine g_iconst S1 (0 : Int32) dL_course_14 rfl ?_
    exact hret _ _ _ _ (Nat.le_refl _) (Nat.le_refl _) dL_course_15
set_option maxRecDepth 100000 in
set_option maxHeartbeats 4000000 in
theorem c_LW_amountFor (l : Launch) (hfl : l.stackTraces = false) (Y : Env1) (hG : gY Y = gC) (ao : Nat) (hao : ¬ AY Y ao) (a1 : Int32) (a2 : Int32) (cA : ClassId) (f : Nat → Int64) (M : Mem) (res : Int32 ⊕ Nat) (M1 : Mem) (hE : LL_amountFor a1 a2 M = some (res, M1)) (k0 : Int32) (e1 : va_E) (hin : ∀ v, res = .inl v → k0 = 0 ∧ e1 = (.inl (cA, 1, .inr (.inl (vp_updL f 0 v.toInt64))))) (hex : ∀ k, res = .inr k → (k = 1 ∧ k0 = 1 ∧ e1 = (.inl (cA, 1, .inr (.inl f))))) : WC l Y yL_amountFor cL_amountFor 5 [(0, 10, 13, 18)] 8 2 12 [.ref (hY Y + 0), .int a1, .int a2, .ref ao] ao (.inl (cA, 1, .inr (.inl f))) e1 (cA, .long) M k0 M1 := by
  refine mw (by decide +kernel) rfl hG (Nat.le_of_ble_eq_true rfl) (fun X hS hY1 hA hl1 hext hthr hKq n1 n2 n3 hroom hret => ?_)
  subst hY1
  subst hl1
  have S0 := hS 0 0 (Nat.zero_le _) (Nat.zero_le _)
  have S1 := hS 2 12 (Nat.le_refl _) (Nat.le_refl _)
  have hD : ∀ M e, va_D X.2.1.1 (wl X.2.1.2 M ++ [(ao, e)]) := fun M e => by rw [hA]; exact PE1.D hao
  have hYA : ∀ q, AY X.2.1.2 q → X.2.1.1 q := fun q h => by rw [hA]; exact Or.inl h
  have hthr : THB X.2.1.1 X.1.2.2.2.2.1.heap X.1.2.2.2.2.1 := by rw [hA]; exact hthr
  show AG (setX X 0 0) 0 [(0, .ref (hY X.2.1.2 + 0)), (1, .int a1), (2, .int a2), (3, .ref ao)] [] (PE X.2.1.2 M [(ao, (.inl (cA, 1, .inr (.inl f))))])
  refine g_aload_n S0 dL_amountFor_0 3 rfl ?_
  refine g_iconst S0 (0 : Int32) dL_amountFor_1 rfl ?_
  refine g_aload_n S0 dL_amountFor_2 0 rfl ?_
  refine g_iload_n S0 dL_amountFor_3 1 rfl ?_
  refine g_iload_n S0 dL_amountFor_4 2 rfl ?_
  refine gxc_I S0 hYA (gx_V S0 (gYX S0) S0.2.2.2.2.2.1 (fun H h => PE.reg h) fc7 (by decide) hthr hYA (c_LL_amountFor _ hfl _ (gYX S0) a1 a2 M _ _ hE) wdX7_amountFor q_1141 ⟨Nat.le_of_ble_eq_true rfl, Nat.le_of_ble_eq_true rfl⟩ ⟨by rw [← hroom.1]; exact Nat.le_of_ble_eq_true rfl, by rw [← hroom.2]; exact Nat.le_of_ble_eq_true rfl⟩ rfl (Nat.le_of_ble_eq_true rfl) dL_amountFor_5) (PE1.call hao) (fun k hk => ?_) (fun v hv => ?_)
  · have hk2 := hex k hk
    show AGX (setX X 2 12) 5 [(0, .ref (hY X.2.1.2 + 0)), (1, .int a1), (2, .int a2), (3, .ref ao)] [.int 0, .ref ao] _ _
    obtain ⟨rfl, rfl, rfl⟩ := hk2
    refine g_catch S1 [] ⟨0, 10, 13, 18⟩ [] hext (fun z hz => nomatch hz) (by decide) (by decide) q_1059 (hthr.2.2.2 _ (by simp [CSTW])) (fun q9 => ?_)
    refine g_astore (lv2 := [(4, .ref q9), (0, .ref (hY X.2.1.2 + 0)), (1, .int a1), (2, .int a2), (3, .ref ao)]) S1 dL_amountFor_13 (by decide) rfl ?_
    refine g_iconst S1 (1 : Int32) dL_amountFor_15 rfl ?_
    exact hret _ _ _ _ (Nat.le_refl _) (Nat.le_refl _) dL_amountFor_16
  · obtain ⟨rfl, rfl⟩ := hin v hv
    show AG (setX X 2 12) 8 [(0, .ref (hY X.2.1.2 + 0)), (1, .int a1), (2, .int a2), (3, .ref ao)] [.int v, .int 0, .ref ao] _
    refine g_i2l S1 dL_amountFor_8 ?_
    refine g_lstE S1 (hD _ _) hKq 0 rfl (by decide) dL_amountFor_9 ?_
    refine g_goto S1 17 dL_amountFor_10 (by decide) ?_
    refine g_iconst S1 (0 : Int32) dL_amountFor_17 rfl ?_
    exact hret _ _ _ _ (Nat.le_refl _) (Nat.le_refl _) dL_amountFor_18
set_option maxRecDepth 100000 in
set_option maxHeartbeats 4000000 in
theorem c_LW_withoutGate (l : Launch) (hfl : l.stackTraces = false) (Y : Env1) (hG : gY Y = gC) (ao : Nat) (hao : ¬ AY Y ao) (a1 : Int32) (a2 : Int32) (cA : ClassId) (f : Nat → Int64) (M : Mem) (res : Int32 ⊕ Nat) (M1 : Mem) (hE : LL_withoutGate a1 a2 M = some (res, M1)) (k0 : Int32) (e1 : va_E) (hin : ∀ v, res = .inl v → k0 = 0 ∧ e1 = (.inl (cA, 1, .inr (.inl (vp_updL f 0 v.toInt64))))) (hex : ∀ k, res = .inr k → (k = 1 ∧ k0 = 1 ∧ e1 = (.inl (cA, 1, .inr (.inl f))))) : WC l Y yL_withoutGate cL_withoutGate 5 [(0, 10, 13, 18)] 8 1 6 [.ref (hY Y + 0), .int a1, .int a2, .ref ao] ao (.inl (cA, 1, .inr (.inl f))) e1 (cA, .long) M k0 M1 := by
  refine mw (by decide +kernel) rfl hG (Nat.le_of_ble_eq_true rfl) (fun X hS hY1 hA hl1 hext hthr hKq n1 n2 n3 hroom hret => ?_)
  subst hY1
  subst hl1
  have S0 := hS 0 0 (Nat.zero_le _) (Nat.zero_le _)
  have S1 := hS 1 6 (Nat.le_refl _) (Nat.le_refl _)
  have hD : ∀ M e, va_D X.2.1.1 (wl X.2.1.2 M ++ [(ao, e)]) := fun M e => by rw [hA]; exact PE1.D hao
  have hYA : ∀ q, AY X.2.1.2 q → X.2.1.1 q := fun q h => by rw [hA]; exact Or.inl h
  have hthr : THB X.2.1.1 X.1.2.2.2.2.1.heap X.1.2.2.2.2.1 := by rw [hA]; exact hthr
  show AG (setX X 0 0) 0 [(0, .ref (hY X.2.1.2 + 0)), (1, .int a1), (2, .int a2), (3, .ref ao)] [] (PE X.2.1.2 M [(ao, (.inl (cA, 1, .inr (.inl f))))])
  refine g_aload_n S0 dL_withoutGate_0 3 rfl ?_
  refine g_iconst S0 (0 : Int32) dL_withoutGate_1 rfl ?_
  refine g_aload_n S0 dL_withoutGate_2 0 rfl ?_
  refine g_iload_n S0 dL_withoutGate_3 1 rfl ?_
  refine g_iload_n S0 dL_withoutGate_4 2 rfl ?_
  refine gxc_I S0 hYA (gx_V S0 (gYX S0) S0.2.2.2.2.2.1 (fun H h => PE.reg h) fc7 (by decide) hthr hYA (c_LL_withoutGate _ hfl _ (gYX S0) a1 a2 M _ _ hE) wdX7_withoutGate q_1146 ⟨Nat.le_of_ble_eq_true rfl, Nat.le_of_ble_eq_true rfl⟩ ⟨by rw [← hroom.1]; exact Nat.le_of_ble_eq_true rfl, by rw [← hroom.2]; exact Nat.le_of_ble_eq_true rfl⟩ rfl (Nat.le_of_ble_eq_true rfl) dL_withoutGate_5) (PE1.call hao) (fun k hk => ?_) (fun v hv => ?_)
  · have hk2 := hex k hk
    show AGX (setX X 1 6) 5 [(0, .ref (hY X.2.1.2 + 0)), (1, .int a1), (2, .int a2), (3, .ref ao)] [.int 0, .ref ao] _ _
    obtain ⟨rfl, rfl, rfl⟩ := hk2
    refine g_catch S1 [] ⟨0, 10, 13, 18⟩ [] hext (fun z hz => nomatch hz) (by decide) (by decide) q_1059 (hthr.2.2.2 _ (by simp [CSTW])) (fun q9 => ?_)
    refine g_astore (lv2 := [(4, .ref q9), (0, .ref (hY X.2.1.2 + 0)), (1, .int a1), (2, .int a2), (3, .ref ao)]) S1 dL_withoutGate_13 (by decide) rfl ?_
    refine g_iconst S1 (1 : Int32) dL_withoutGate_15 rfl ?_
    exact hret _ _ _ _ (Nat.le_refl _) (Nat.le_refl _) dL_withoutGate_16
  · obtain ⟨rfl, rfl⟩ := hin v hv
    show AG (setX X 1 6) 8 [(0, .ref (hY X.2.1.2 + 0)), (1, .int a1), (2, .int a2), (3, .ref ao)] [.int v, .int 0, .ref ao] _
    refine g_i2l S1 dL_withoutGate_8 ?_
    refine g_lstE S1 (hD _ _) hKq 0 rfl (by decide) dL_withoutGate_9 ?_
    refine g_goto S1 17 dL_withoutGate_10 (by decide) ?_
    refine g_iconst S1 (0 : Int32) dL_withoutGate_17 rfl ?_
    exact hret _ _ _ _ (Nat.le_refl _) (Nat.le_refl _) dL_withoutGate_18
set_option maxRecDepth 100000 in
set_option maxHeartbeats 4000000 in
theorem c_LW_append (l : Launch) (hfl : l.stackTraces = false) (Y : Env1) (hG : gY Y = gC) (ao : Nat) (hao : ¬ AY Y ao) (a1 : Int32) (cA : ClassId) (f : Nat → Int64) (M : Mem) (res : Int32 ⊕ Nat) (M1 : Mem) (hE : LL_append a1 M = some (res, M1)) (k0 : Int32) (e1 : va_E) (hin : ∀ v, res = .inl v → k0 = 0 ∧ e1 = (.inl (cA, 1, .inr (.inl (vp_updL f 0 v.toInt64))))) (hex : ∀ k, res = .inr k → (k = 2 ∧ k0 = 1 ∧ e1 = (.inl (cA, 1, .inr (.inl f)))) ∨ (k = 3 ∧ k0 = 2 ∧ e1 = (.inl (cA, 1, .inr (.inl f))))) : WC l Y yL_append cL_append 4 [(0, 9, 12, 13), (0, 9, 15, 45)] 8 2 12 [.ref (hY Y + 0), .int a1, .ref ao] ao (.inl (cA, 1, .inr (.inl f))) e1 (cA, .long) M k0 M1 := by
  refine mw (by decide +kernel) rfl hG (Nat.le_of_ble_eq_true rfl) (fun X hS hY1 hA hl1 hext hthr hKq n1 n2 n3 hroom hret => ?_)
  subst hY1
  subst hl1
  have S0 := hS 0 0 (Nat.zero_le _) (Nat.zero_le _)
  have S1 := hS 2 12 (Nat.le_refl _) (Nat.le_refl _)
  have hD : ∀ M e, va_D X.2.1.1 (wl X.2.1.2 M ++ [(ao, e)]) := fun M e => by rw [hA]; exact PE1.D hao
  have hYA : ∀ q, AY X.2.1.2 q → X.2.1.1 q := fun q h => by rw [hA]; exact Or.inl h
  have hthr : THB X.2.1.1 X.1.2.2.2.2.1.heap X.1.2.2.2.2.1 := by rw [hA]; exact hthr
  show AG (setX X 0 0) 0 [(0, .ref (hY X.2.1.2 + 0)), (1, .int a1), (2, .ref ao)] [] (PE X.2.1.2 M [(ao, (.inl (cA, 1, .inr (.inl f))))])
  refine g_aload_n S0 dL_append_0 2 rfl ?_
  refine g_iconst S0 (0 : Int32) dL_append_1 rfl ?_
  refine g_aload_n S0 dL_append_2 0 rfl ?_
  refine g_iload_n S0 dL_append_3 1 rfl ?_
  refine gxc_I S0 hYA (gx_V S0 (gYX S0) S0.2.2.2.2.2.1 (fun H h => PE.reg h) fc7 (by decide) hthr hYA (c_LL_append _ hfl _ (gYX S0) a1 M _ _ hE) wdX7_append q_1151 ⟨Nat.le_of_ble_eq_true rfl, Nat.le_of_ble_eq_true rfl⟩ ⟨by rw [← hroom.1]; exact Nat.le_of_ble_eq_true rfl, by rw [← hroom.2]; exact Nat.le_of_ble_eq_true rfl⟩ rfl (Nat.le_of_ble_eq_true rfl) dL_append_4) (PE1.call hao) (fun k hk => ?_) (fun v hv => ?_)
  · have hk2 := hex k hk
    show AGX (setX X 2 12) 4 [(0, .ref (hY X.2.1.2 + 0)), (1, .int a1), (2, .ref ao)] [.int 0, .ref ao] _ _
    rcases hk2 with ⟨rfl, rfl, rfl⟩ | ⟨rfl, rfl, rfl⟩
    · refine g_catch S1 [] ⟨0, 9, 12, 13⟩ [⟨0, 9, 15, 45⟩] hext (fun z hz => nomatch hz) (by decide) (by decide) q_1053 (hthr.2.2.2 _ (by simp [CSTW])) (fun q9 => ?_)
      refine g_astore_n (lv2 := [(3, .ref q9), (0, .ref (hY X.2.1.2 + 0)), (1, .int a1), (2, .ref ao)]) S1 dL_append_12 (by decide) rfl ?_
      refine g_iconst S1 (1 : Int32) dL_append_13 rfl ?_
      exact hret _ _ _ _ (Nat.le_refl _) (Nat.le_refl _) dL_append_14
    · refine g_catch S1 [⟨0, 9, 12, 13⟩] ⟨0, 9, 15, 45⟩ [] hext (List.forall_mem_cons.mpr ⟨Or.inr ⟨by decide, _, q_1053, n3⟩, fun _ h => absurd h List.not_mem_nil⟩) (by decide) (by decide) q_1095 (hthr.2.2.2 _ (by simp [CSTW])) (fun q9 => ?_)
      refine g_astore_n (lv2 := [(3, .ref q9), (0, .ref (hY X.2.1.2 + 0)), (1, .int a1), (2, .ref ao)]) S1 dL_append_15 (by decide) rfl ?_
      refine g_iconst S1 (2 : Int32) dL_append_16 rfl ?_
      exact hret _ _ _ _ (Nat.le_refl _) (Nat.le_refl _) dL_append_17
  · obtain ⟨rfl, rfl⟩ := hin v hv
    show AG (setX X 2 12) 7 [(0, .ref (hY X.2.1.2 + 0)), (1, .int a1), (2, .ref ao)] [.int v, .int 0, .ref ao] _
    refine g_i2l S1 dL_append_7 ?_
    refine g_lstE S1 (hD _ _) hKq 0 rfl (by decide) dL_append_8 ?_
    refine g_goto S1 18 dL_append_9 (by decide) ?_
    refine g_iconst S1 (0 : Int32) dL_append_18 rfl ?_
    exact hret _ _ _ _ (Nat.le_refl _) (Nat.le_refl _) dL_append_19
set_option maxRecDepth 100000 in
set_option maxHeartbeats 4000000 in
theorem c_LW_undo (l : Launch) (hfl : l.stackTraces = false) (Y : Env1) (hG : gY Y = gC) (ao : Nat) (hao : ¬ AY Y ao) (cA : ClassId) (f : Nat → Int64) (M : Mem) (res : Int32 ⊕ Nat) (M1 : Mem) (hE : LL_undo M = some (res, M1)) (k0 : Int32) (e1 : va_E) (hin : ∀ v, res = .inl v → k0 = 0 ∧ e1 = (.inl (cA, 1, .inr (.inl (vp_updL f 0 v.toInt64))))) (hex : ∀ k, res = .inr k → (k = 3 ∧ k0 = 1 ∧ e1 = (.inl (cA, 1, .inr (.inl f))))) : WC l Y yL_undo cL_undo 3 [(0, 8, 11, 45)] 8 1 6 [.ref (hY Y + 0), .ref ao] ao (.inl (cA, 1, .inr (.inl f))) e1 (cA, .long) M k0 M1 := by
  refine mw (by decide +kernel) rfl hG (Nat.le_of_ble_eq_true rfl) (fun X hS hY1 hA hl1 hext hthr hKq n1 n2 n3 hroom hret => ?_)
  subst hY1
  subst hl1
  have S0 := hS 0 0 (Nat.zero_le _) (Nat.zero_le _)
  have S1 := hS 1 6 (Nat.le_refl _) (Nat.le_refl _)
  have hD : ∀ M e, va_D X.2.1.1 (wl X.2.1.2 M ++ [(ao, e)]) := fun M e => by rw [hA]; exact PE1.D hao
  have hYA : ∀ q, AY X.2.1.2 q → X.2.1.1 q := fun q h => by rw [hA]; exact Or.inl h
  have hthr : THB X.2.1.1 X.1.2.2.2.2.1.heap X.1.2.2.2.2.1 := by rw [hA]; exact hthr
  show AG (setX X 0 0) 0 [(0, .ref (hY X.2.1.2 + 0)), (1, .ref ao)] [] (PE X.2.1.2 M [(ao, (.inl (cA, 1, .inr (.inl f))))])
  refine g_aload_n S0 dL_undo_0 1 rfl ?_
  refine g_iconst S0 (0 : Int32) dL_undo_1 rfl ?_
  refine g_aload_n S0 dL_undo_2 0 rfl ?_
  refine gxc_I S0 hYA (gx_V S0 (gYX S0) S0.2.2.2.2.2.1 (fun H h => PE.reg h) fc7 (by decide) hthr hYA (c_LL_undo _ hfl _ (gYX S0)  M _ _ hE) wdX7_undo q_1156 ⟨Nat.le_of_ble_eq_true rfl, Nat.le_of_ble_eq_true rfl⟩ ⟨by rw [← hroom.1]; exact Nat.le_of_ble_eq_true rfl, by rw [← hroom.2]; exact Nat.le_of_ble_eq_true rfl⟩ rfl (Nat.le_of_ble_eq_true rfl) dL_undo_3) (PE1.call hao) (fun k hk => ?_) (fun v hv => ?_)
  · have hk2 := hex k hk
    show AGX (setX X 1 6) 3 [(0, .ref (hY X.2.1.2 + 0)), (1, .ref ao)] [.int 0, .ref ao] _ _
    obtain ⟨rfl, rfl, rfl⟩ := hk2
    refine g_catch S1 [] ⟨0, 8, 11, 45⟩ [] hext (fun z hz => nomatch hz) (by decide) (by decide) q_1095 (hthr.2.2.2 _ (by simp [CSTW])) (fun q9 => ?_)
    refine g_astore_n (lv2 := [(2, .ref q9), (0, .ref (hY X.2.1.2 + 0)), (1, .ref ao)]) S1 dL_undo_11 (by decide) rfl ?_
    refine g_iconst S1 (1 : Int32) dL_undo_12 rfl ?_
    exact hret _ _ _ _ (Nat.le_refl _) (Nat.le_refl _) dL_undo_13
  · obtain ⟨rfl, rfl⟩ := hin v hv
    show AG (setX X 1 6) 6 [(0, .ref (hY X.2.1.2 + 0)), (1, .ref ao)] [.int v, .int 0, .ref ao] _
    refine g_i2l S1 dL_undo_6 ?_
    refine g_lstE S1 (hD _ _) hKq 0 rfl (by decide) dL_undo_7 ?_
    refine g_goto S1 14 dL_undo_8 (by decide) ?_
    refine g_iconst S1 (0 : Int32) dL_undo_14 rfl ?_
    exact hret _ _ _ _ (Nat.le_refl _) (Nat.le_refl _) dL_undo_15
