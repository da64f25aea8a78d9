/-! 99f.lake: the constructor of LakeLevels -/
set_option maxHeartbeats 2000000 in
/-- a field that gets an object of its own -/
theorem i_subT {X : Cx} {cc : ByteArray} {own : String} {n lev mcT msT : Nat} (S : ∀ c s, c ≤ mcT → s ≤ msT → CX (setX X c s) cc own n lev []) (hA : X.2.1.1 = fun q => hY X.2.1.2 ≤ q) (hs0 : (stX X).heap.size = hY X.2.1.2 + 1) (hin : X.1.2.2.2.2.2.2.2.2.1.name = "<init>") (hAO : va_AO RX6 (stX X)) {k : Nat} {T : u_T} {N : Nat} {ty : Nat → FieldType} (F : FCl k own T N ty) {k2 : Nat} {C2 : String} {T2 : u_T} {N2 : Nat} {ty2 : Nat → FieldType} (F2 : FCl k2 C2 T2 N2 ty2) {fs : List Value} {tl : List va_E} {q : Nat} {G2 : List (Nat × Nat)} {c s mL lev2 ms : Nat} {y : MethodName} {b : ByteArray} {As : List Value} {lv : List (Nat × Value)} (hlv : lv[0]? = some (0, .ref (hY X.2.1.2))) (pc pc5 : Nat) {i1 i2 i3 : Nat} (fk : Nat)
    (hc : c = tl.length) (hq9 : hY X.2.1.2 + 1 + tl.length = q) (hcT : c + G2.length ≤ mcT) (hsT : s + N2 + ms ≤ msT) (hG2 : 0 < G2.length)
    (hM : ∀ Y : Env1, gY Y = [] → Ini X.1.2.1 Y y b mL lev2 (G2.length - 1) ms As (.inr (k2, dfl k2)) (zs Y.2.1 (hY Y) G2))
    (wd : WdI y b mL As.length) (hl9 : Cond.methodLink own i2 y ∈ TBL ∨ ∃ host, Cond.methodLinkNest own i2 y host ∈ NST) (hlev : lev2 < lev ∧ mL ≤ 21)
    (hwl : Cond.classLink own i1 C2 ∈ TBL) (hwi : Cond.instantiable C2 N2 ∈ TBL) (hwn : Cond.initialized C2 ∈ TBL) (hdf : ∀ j, j < N2 → defaultValue (ty2 j) = vp_V (dfl k2) j)
    (hw : Cond.fieldLink own i3 (T fk).1 (T fk).2.1 (T fk).2.2.1 ∈ TBL) (hfk : fk < N) (hfin : (T fk).2.2.2 = true) (hdecl : (T fk).1 = own) {rty : FieldType} (hd : parseFieldDescriptor (T fk).2.2.1 = some rty) (hnar : ∀ v, narrow rty (.ref v) = .ref v) (hfit : ∀ v, fits rty (.ref v) = true) (hlen : fk < fs.length)
    (d0 : decode cc pc = .ok (.aload_n 0, 1)) (d1 : decode cc (pc + 1) = .ok (.new i1, 3)) (d4 : decode cc (pc + 4) = .ok (.dup, 1))
    (hpush : ∀ c1 s1, c1 ≤ mcT → s1 ≤ msT → ∀ (st : List Value) (P : Heap → Prop), AG (setX X c1 s1) pc5 lv (As.reverse ++ st) P → AG (setX X c1 s1) (pc + 5) lv st P)
    (d5 : decode cc pc5 = .ok (.invokespecial i2, 3)) (d8 : decode cc (pc5 + 3) = .ok (.putfield i3, 3))
    (k9 : AG (setX X (c + G2.length) (s + N2 + ms)) (pc5 + 3 + 3) lv [] (GPw X.2.1.2 (.inr (k, fs.set fk (.ref q)) :: (tl ++ zs X.2.1.2.2.1 q G2)))) :
    AG (setX X c s) pc lv [] (GPw X.2.1.2 (.inr (k, fs) :: tl)) := by
  have S0 := S c s (by omega) (by omega)
  have S1 := S (c + 1) (s + N2) (by omega) (by omega)
  have S2 := S (c + G2.length) (s + N2 + ms) hcT hsT
  have hlen1 : ((.inr (k, fs) :: tl : List va_E)).length = tl.length + 1 := by rw [List.length_cons]
  have hq : hY X.2.1.2 + ((.inr (k, fs) :: tl : List va_E)).length = q := by rw [hlen1]; omega
  refine g_aload_n S0 d0 0 hlv ?_
  refine i_new (X := setX X c s) (es := .inr (k, fs) :: tl) (fs := dfl k2) (c1 := c + 1) (s1 := s + N2) S0 F2 (by rw [hlen1]; omega) (by show (stX X).heap.size + c = hY X.2.1.2 + _; rw [hlen1, hs0]; omega) hwl hwi hwn hdf rfl rfl (CX_c S1) (CX_s S1) d1 ?_
  refine g_dup S1 d4 rfl ?_
  refine hpush _ _ (by omega) (by omega) _ _ ?_
  refine i_call (X := setX X (c + 1) (s + N2)) (es := .inr (k, fs) :: tl) (c1 := c + G2.length) (s1 := s + N2 + ms) (rest := [.ref (hY X.2.1.2 + ((.inr (k, fs) :: tl : List va_E)).length), .ref (hY X.2.1.2)]) S1 (fun q h => by show X.2.1.1 q; rw [hA]; exact h) hAO (by show (stX X).heap.size + (c + 1) = hY X.2.1.2 + _ + 1; rw [hlen1, hs0]; omega) (hM (X.2.1.2.1, X.2.1.2.2.1, [], hY X.2.1.2 + ((.inr (k, fs) :: tl : List va_E)).length) rfl) wd hl9 hlev (by show c + 1 + (G2.length - 1) = c + G2.length; omega) rfl (CX_c S2) (CX_s S2) rfl (Nat.le_of_ble_eq_true rfl) d5 ?_
  show AG (setX X (c + G2.length) (s + N2 + ms)) (pc5 + 3) lv [.ref (hY X.2.1.2 + ((.inr (k, fs) :: tl : List va_E)).length), .ref (hY X.2.1.2)] (GPw X.2.1.2 (.inr (k, fs) :: (tl ++ zs X.2.1.2.2.1 (hY X.2.1.2 + ((.inr (k, fs) :: tl : List va_E)).length) G2)))
  rw [hq]
  exact i_put (X := setX X (c + G2.length) (s + N2 + ms)) S2 hA hin F fk hfk hw hfin hdecl hd (hnar _) (hfit _) hlen d8 k9

def Mz : Mem := (fun _ _ => 0, fun _ _ => 0)
def cellsY (Y : Env1) (M : Mem) : List va_E := (gY Y).mapIdx (fun o q => cellY Y M o q)
theorem wl_E (Y : Env1) (M : Mem) : wl Y M = wE (hY Y) (cellsY Y M) := by
  apply List.ext_getElem?
  intro i
  simp only [wl, wE, cellsY, List.getElem?_mapIdx]
  cases (gY Y)[i]? <;> rfl
theorem cellsY_len (Y : Env1) (M : Mem) : (cellsY Y M).length = (gY Y).length := by simp [cellsY]
theorem z_cell {Y : Env1} {k : Nat} {t : Nat × Nat} (ht : t.1 ≠ 11) : cellY Y Mz k t = zc Y.2.1 (hY Y + k) t := by
  unfold cellY zc
  by_cases h9 : t.1 = 9
  · rw [if_pos h9, if_pos h9]; rfl
  · rw [if_neg h9, if_neg h9]
    by_cases h10 : t.1 = 10
    · rw [if_pos h10, if_pos h10]; rfl
    · rw [if_neg h10, if_neg h10, if_neg ht]
      refine congrArg Sum.inr (Prod.ext rfl ?_)
      show fvals (hY Y) Mz t.1 k = zfs (hY Y + k) t.1
      apply List.ext_getElem?
      intro i
      unfold fvals zfs
      simp only [List.getElem?_mapIdx, List.getElem?_map]
      cases (fl t.1)[i]? with
      | none => rfl
      | some x =>
        simp only [Option.map_some]
        unfold fval
        rw [Nat.add_assoc]
        rfl
theorem zs_get {T3 : ClassId × ClassId × ClassId} {q i : Nat} {G : List (Nat × Nat)} {t : Nat × Nat} (h : G[i]? = some t) : (zs T3 q G)[i]? = some (zc T3 (q + i) t) := by simp [zs, h]
theorem z_P0 {Y : Env1} (h1 : ∀ t ∈ gY Y, t.1 ≠ 11) : wl Y Mz = wE (hY Y) (zs Y.2.1 (hY Y) (gY Y)) := by
  rw [wl_E]
  congr 1
  apply List.ext_getElem?
  intro i
  simp only [cellsY, zs, List.getElem?_mapIdx]
  cases h : (gY Y)[i]? with
  | none => rfl
  | some t =>
    simp only [Option.map_some]
    rw [z_cell (h1 t (List.mem_of_getElem? h))]
theorem z_P {Y : Env1} {H : Heap} {G1 G2 : List (Nat × Nat)} {f : Nat → Option Nat} (hG : gY Y = G1 ++ (11, 4) :: G2) (h1 : ∀ t ∈ G1, t.1 ≠ 11) (h2 : ∀ t ∈ G2, t.1 ≠ 11) (hf : ∀ j, j < 4 → f j = some (hY Y + (97 + 46 * j))) (h : va_P Y.1 vwCl (wE (hY Y) (zs Y.2.1 (hY Y) G1 ++ .inl (Y.2.1.2.2, 4, .inr (.inr (.inr (.inr f)))) :: zs Y.2.1 (hY Y + G1.length + 1) G2)) H) : va_P Y.1 vwCl (wl Y Mz) H := by
  intro k q hk
  rw [wl_E] at hk
  unfold wE cellsY at hk
  simp only [List.getElem?_mapIdx, Option.map_eq_some_iff] at hk
  obtain ⟨e, ⟨t, ht, rfl⟩, rfl⟩ := hk
  rw [hG] at ht
  by_cases hl : k < G1.length
  · rw [List.getElem?_append_left hl] at ht
    have e1 : (zs Y.2.1 (hY Y) G1 ++ .inl (Y.2.1.2.2, 4, .inr (.inr (.inr (.inr f)))) :: zs Y.2.1 (hY Y + G1.length + 1) G2)[k]? = some (zc Y.2.1 (hY Y + k) t) := by
      rw [List.getElem?_append_left (by rw [zs_len]; exact hl)]
      exact zs_get ht
    have := h k _ (wE_get e1)
    rw [z_cell (h1 t (List.mem_of_getElem? ht))]
    exact this
  · rw [List.getElem?_append_right (by omega)] at ht
    by_cases hz : k - G1.length = 0
    · rw [hz] at ht
      cases ht
      have e1 : (zs Y.2.1 (hY Y) G1 ++ .inl (Y.2.1.2.2, 4, .inr (.inr (.inr (.inr f)))) :: zs Y.2.1 (hY Y + G1.length + 1) G2)[k]? = some (.inl (Y.2.1.2.2, 4, .inr (.inr (.inr (.inr f))))) := by
        rw [List.getElem?_append_right (by rw [zs_len]; omega), zs_len, hz]
        rfl
      have h9 := h k _ (wE_get e1)
      have h8 : H[hY Y + k]? = some (vp_cell Y.2.1.2.2 (4, .inr (.inr (.inr (.inr f))))) := h9
      show H[hY Y + k]? = some (vp_cell Y.2.1.2.2 (4, .inr (.inr (.inr (.inr (fun j => some (hY Y + (97 + 46 * j))))))))
      rw [h8, vp_cell_q, vp_cell_q]
      refine congrArg some ?_
      unfold arrV
      congr 1
      apply Array.ext
      · simp
      · intro i hi1 hi2
        simp only [Array.getElem_ofFn]
        rw [hf i (by simpa using hi1)]
    · obtain ⟨j, hj⟩ : ∃ j, k - G1.length = j + 1 := ⟨k - G1.length - 1, by omega⟩
      rw [hj, List.getElem?_cons_succ] at ht
      have e1 : (zs Y.2.1 (hY Y) G1 ++ .inl (Y.2.1.2.2, 4, .inr (.inr (.inr (.inr f)))) :: zs Y.2.1 (hY Y + G1.length + 1) G2)[k]? = some (zc Y.2.1 (hY Y + k) t) := by
        rw [List.getElem?_append_right (by rw [zs_len]; omega), zs_len, hj, List.getElem?_cons_succ, zs_get ht]
        rw [show hY Y + G1.length + 1 + j = hY Y + k by omega]
      have := h k _ (wE_get e1)
      rw [z_cell (h2 t (List.mem_of_getElem? ht))]
      exact this
theorem i_get {X : Cx} {cc : ByteArray} {own : String} {n lev : Nat} {G : List (Nat × Nat)} (S : CX X cc own n lev G) {ci : Nat} {C : String} {T : u_T} {N : Nat} {ty : Nat → FieldType} (F : FCl ci C T N ty) {pc idx : Nat} {lv : List (Nat × Value)} {st : List Value} {tl : List va_E} {fs : List Value} (k : Nat) (hk : k < N) (hw : Cond.fieldLink own idx (T k).1 (T k).2.1 (T k).2.2.1 ∈ TBL) {v : Value} (hv : fs[k]? = some v) (d : decode cc pc = .ok (.getfield idx, 3)) (k9 : AG X (pc + 3) lv (v :: st) (GPw X.2.1.2 (.inr (ci, fs) :: tl))) : AG X pc lv (.ref (hY X.2.1.2) :: st) (GPw X.2.1.2 (.inr (ci, fs) :: tl)) := fun H locs ls hl hP hS =>
  va_get S.1 S.2.1 S.2.2.2.2.1 F.2.2.1 S.2.2.2.1 S.2.2.2.2.2.1 hP 0 (wE_get (i := 0) rfl) F.1 k hk (S.2.2.2.2.1 _ hw) (fun _ h => h) hv d (k9 H locs ls hl hP hS)
theorem i_alen {X : Cx} {cc : ByteArray} {own : String} {n lev : Nat} {G : List (Nat × Nat)} (S : CX X cc own n lev G) {pc : Nat} {lv : List (Nat × Value)} {st : List Value} {es : List va_E} {q : Nat} {f : Nat → Option Nat} (he : es[q]? = some (.inl (X.2.1.2.2.1.2.2, 4, .inr (.inr (.inr (.inr f)))))) (d : decode cc pc = .ok (.arraylength, 1)) (k9 : AG X (pc + 1) lv (.int (4 : Int32) :: st) (GPw X.2.1.2 es)) : AG X pc lv (.ref (hY X.2.1.2 + q) :: st) (GPw X.2.1.2 es) := fun H locs ls hl hP hS =>
  va_alen S.1 S.2.1 S.2.2.2.2.2.1 hP q 2 (wE_get he) rfl rfl d (k9 H locs ls hl hP hS)
theorem i_aast {X : Cx} {cc : ByteArray} {own : String} {n lev : Nat} {G : List (Nat × Nat)} (S : CX X cc own n lev G) (hA : X.2.1.1 = fun q => hY X.2.1.2 ≤ q) {pc : Nat} {lv : List (Nat × Value)} {st : List Value} {es : List va_E} {q v : Nat} {f : Nat → Option Nat} {vs : List Value} {i : Int32} (he : es[q]? = some (.inl (X.2.1.2.2.1.2.2, 4, .inr (.inr (.inr (.inr f)))))) (hv : es[v]? = some (.inr (6, vs))) (hi : vp_in i 4) (d : decode cc pc = .ok (.aastore, 1)) (k9 : AG X (pc + 1) lv st (GPw X.2.1.2 (es.set q (.inl (X.2.1.2.2.1.2.2, 4, .inr (.inr (.inr (.inr (va_up f i.toNatClampNeg (some (hY X.2.1.2 + v)))))))))) ) : AG X pc lv (.ref (hY X.2.1.2 + v) :: .int i :: .ref (hY X.2.1.2 + q) :: st) (GPw X.2.1.2 es) := fun H locs ls hl hP hS =>
  va_astq S.1 S.2.1 S.2.2.2.2.2.1 hP (show va_D X.2.1.1 (wE (hY X.2.1.2) es) by rw [hA]; exact wE_D _ _) hS q 2 v 6 (wE_get he) rfl (wE_get hv) fc6.1 hi d (fun H1 locs1 hP1 _ hS1 => k9 H1 locs1 ls hl (by rw [wE_set] at hP1; exact hP1) hS1)
theorem i_anew {X : Cx} {cc : ByteArray} {own : String} {n lev : Nat} {G : List (Nat × Nat)} (S : CX X cc own n lev G) (hAO : va_AO RX6 (stX X)) {pc idx : Nat} {lv : List (Nat × Value)} {st : List Value} {es : List va_E} (hne : 0 < es.length) (hcnt : (stX X).heap.size + X.2.2.2.1 = hY X.2.1.2 + es.length) (hwl : Cond.classLink own idx RX6 ∈ TBL) {c1 s1 : Nat} (hc1 : X.2.2.2.1 + 1 = c1) (hs1 : X.2.2.2.2.1 + 4 = s1) (hc : c1 ≤ X.1.2.2.2.1.cells) (hs : s1 ≤ X.1.2.2.2.1.slots) (d : decode cc pc = .ok (.anewarray idx, 3)) {q : Nat} (hq : hY X.2.1.2 + es.length = q)
    (k9 : AG (setX X c1 s1) (pc + 3) lv (.ref q :: st) (GPw X.2.1.2 (es ++ [.inl (X.2.1.2.2.1.2.2, 4, .inr (.inr (.inr (.inr (fun _ => none)))))]))) : AG X pc lv (.int (4 : Int32) :: st) (GPw X.2.1.2 es) := by
  subst hc1
  subst hs1
  refine g_size (fun H locs ls hl hP hS => ?_)
  have hz := GPw.size hP.1 hne hcnt hP.2
  refine W.anew S.1 S.2.1 S.2.2.2.1 (S.2.2.2.2.1 _ hwl) (va_AO.use hAO) rfl d rfl (by decide) (by decide) hc hs fun cA kA comp f1 f2 f3 f4 => ?_
  obtain ⟨kA2, comp2, g1, g2, g3, g4⟩ := (S.2.2.2.2.2.1.2 2 _ rfl).2
  obtain rfl : cA = X.2.1.2.2.1.2.2 := Option.some.inj (f1.symm.trans g4)
  generalize hH1 : H.push ({ cls := X.2.1.2.2.1.2.2, slots := Array.replicate (4 : Int32).toNatClampNeg .null, vm := .none } : Cell) = H1
  have z1 : H1.size = H.size + 1 := by rw [← hH1, Array.size_push]
  have e1 : H1[H.size]? = some (arrV X.2.1.2.2.1.2.2 (4 : Int32).toNatClampNeg (fun _ => .null)) := by rw [← hH1, Array.getElem?_push_size, ← arrV_new]
  have o1 : ∀ q : Nat, q < H.size → H1[q]? = H[q]? := fun q hq => by rw [← hH1, Array.getElem?_push, if_neg (Nat.ne_of_lt hq)]
  have hk : ∀ (k : Nat) (x : Nat × va_E), (wE (hY X.2.1.2) es)[k]? = some x → H1[x.1]? = H[x.1]? := fun k x hx => o1 x.1 ((hP.1 k x hx).lt)
  have k8 := k9 H1 locs ls hl (by
    show va_P _ vwCl (wE (hY X.2.1.2) (es ++ [.inl (X.2.1.2.2.1.2.2, 4, .inr (.inr (.inr (.inr (fun _ => none)))))])) H1
    rw [wE_app]
    refine (va_P.kept hP.1 hk).app (fun k x hx => ?_)
    have hk1 : k < 1 := by simpa [wE] using (List.getElem?_eq_some_iff.mp hx).1
    obtain rfl : k = 0 := by omega
    cases hx
    show H1[hY X.2.1.2 + es.length]? = some (vp_cell _ _)
    rw [← hz]
    exact e1) ⟨Nat.le_trans hS.1 (by omega), fun x h1 h2 => (o1 x (by have := hS.1; have : x < (stX X).heap.size := h1; omega)).trans (hS.2.1 x h1 h2), hS.2.2⟩
  rw [← hq, ← hz] at k8
  exact k8
