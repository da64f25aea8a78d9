/-! A8.start: the two objects at the start; the walk up to where the law's own work begins, and to its end -/
/-- what is owed of the law as a function -/
def LAWOK : Prop := ∀ (Ma M1 : Mem), GR_lay 2 (1 : Int32) (1 : Int32) Mz = some ((), Ma) → WD_restart 1 Ma = some ((), M1) → ∀ (L : Nat) (xs : Nat → Int32), L ≤ 260 → ∃ Q1 : Mem2, LW_law L xs (M1, M1) = some ((1 : Int32), Q1)
theorem st_K {s : State} {args : Array Value} (hts : ∀ w ∈ lw_tbl, w.before args s = true) : ∃ (D : va_G) (T3 : ClassId × ClassId × ClassId), (∀ (G : List (Nat × Nat)) (h : Nat), va_K D vwCl (tysY (D, T3, G, h)) s) ∧ va_AO RX6 s := by
  have hT : ∀ w ∈ TBL, w.before args s = true := fun w h => hts w (tb_in h)
  obtain ⟨c0, i0, k0⟩ := u_known hT fc0.2.2.1 (hT _ zi_34)
  obtain ⟨c1, i1, k1⟩ := u_known hT fc1.2.2.1 (hT _ zi_140)
  obtain ⟨c2, i2, k2⟩ := u_known hT fc2.2.2.1 (hT _ zi_230)
  obtain ⟨c3, i3, k3⟩ := u_known hT fc3.2.2.1 (hT _ zi_40)
  obtain ⟨c4, i4, k4⟩ := u_known hT fc4.2.2.1 (hT _ zi_108)
  obtain ⟨c5, i5, k5⟩ := u_known hT fc5.2.2.1 (hT _ zi_102)
  obtain ⟨c6, i6, k6⟩ := u_known hT fc6.2.2.1 (hT _ zi_28)
  obtain ⟨c7, i7, k7⟩ := u_known hT fc7.2.2.1 (hT _ zi_20)
  obtain ⟨dC, dI, hKc⟩ : ∃ (dC : Nat → ClassId) (dI : Nat → Nat → Nat), ∀ (k : Nat) (q : vw_C), vwCl[k]? = some q → u_Kn s q.1 q.2.1 q.2.2 (dC k) (dI k) := by
    refine ⟨fun k => if k = 0 then c0 else if k = 1 then c1 else if k = 2 then c2 else if k = 3 then c3 else if k = 4 then c4 else if k = 5 then c5 else if k = 6 then c6 else c7, fun k => if k = 0 then i0 else if k = 1 then i1 else if k = 2 then i2 else if k = 3 then i3 else if k = 4 then i4 else if k = 5 then i5 else if k = 6 then i6 else i7, ?_⟩
    intro k q hq
    match k, hq with
    | 0, hq => cases hq; exact k0
    | 1, hq => cases hq; exact k1
    | 2, hq => cases hq; exact k2
    | 3, hq => cases hq; exact k3
    | 4, hq => cases hq; exact k4
    | 5, hq => cases hq; exact k5
    | 6, hq => cases hq; exact k6
    | 7, hq => cases hq; exact k7
    | k + 8, hq => simp [vwCl] at hq
  obtain ⟨aI, kI, oI, f1, f2, f3⟩ := Cond.arrayClass_spec (hT _ zi_52)
  obtain ⟨aL, kL, oL, g1, g2, g3⟩ := Cond.arrayClass_spec (hT _ zi_118)
  have hAO : (Cond.arrayOver (.object RX6)).before args s = true := hts _ (List.mem_append_right _ (tz_1 (List.mem_of_getElem? (i := 228) rfl)))
  obtain ⟨comp, aW, kW, w1, w2, w3, w4, w5⟩ := Cond.arrayOver_spec hAO
  refine ⟨(dC, dI), (aI, aL, aW), fun G h => ⟨hKc, fun k q hq => ?_⟩, ?_⟩
  · match k, hq with
    | 0, hq => cases hq; exact ⟨fun n z => ⟨fun k h => (by cases h), kI, f2, oI, f3⟩, f1⟩
    | 1, hq => cases hq; exact ⟨fun n z => ⟨fun k h => (by cases h), kL, g2, oL, g3⟩, g1⟩
    | 2, hq => cases hq; exact ⟨fun n z => ⟨fun k h => (by cases h), kW, w3, comp, w4⟩, kW, comp, w3, w4, w1, w5⟩
    | k + 3, hq => simp [tysY] at hq
  · exact va_AO.of hAO
theorem i_new0 {X : Cx} {cc : ByteArray} {own : String} {n lev : Nat} {G : List (Nat × Nat)} (S : CX X cc own n lev G) {ci : Nat} {C : String} {T : u_T} {N : Nat} {ty : Nat → FieldType} (F : FCl ci C T N ty) {pc idx : Nat} {lv : List (Nat × Value)} {st : List Value} {fs : List Value} (hsz : (stX X).heap.size = hY X.2.1.2)
    (hwl : Cond.classLink own idx C ∈ TBL) (hwi : Cond.instantiable C N ∈ TBL) (hwn : Cond.initialized C ∈ TBL) (hfs : ∀ j, j < N → defaultValue (ty j) = vp_V fs j) {c1 s1 : Nat} (hc1 : X.2.2.2.1 + 1 = c1) (hs1 : X.2.2.2.2.1 + N = s1) (hc : c1 ≤ X.1.2.2.2.1.cells) (hs : s1 ≤ X.1.2.2.2.1.slots) (d : decode cc pc = .ok (.new idx, 3))
    (k9 : AG (setX X c1 s1) (pc + 3) lv (.ref (hY X.2.1.2) :: st) (GPw X.2.1.2 [.inr (ci, fs)])) : AG X pc lv st (fun H => H = (stX X).heap) := by
  subst hc1
  subst hs1
  intro H locs ls hl hP hS
  have hz : H.size = hY X.2.1.2 := by rw [show H = (stX X).heap from hP]; exact hsz
  have hKn := S.2.2.2.2.2.1.1 ci _ F.1
  refine W.newcK S.1 S.2.1 S.2.2.2.1 (S.2.2.2.2.1 _ hwl) (S.2.2.2.2.1 _ hwi) (S.2.2.2.2.1 _ hwn) rfl d hc hs hKn.2.1 hz fun H1 kC hkC e1 z1 o1 => ?_
  refine k9 H1 locs ls hl ?_ ⟨Nat.le_trans hS.1 (by omega), fun x h1 h2 => (o1 x (by have := hS.1; have : x < (stX X).heap.size := h1; omega)).trans (hS.2.1 x h1 h2), hS.2.2⟩
  intro k x hx
  have hk1 : k < 1 := by simpa [wE] using (List.getElem?_eq_some_iff.mp hx).1
  obtain rfl : k = 0 := by omega
  cases hx
  exact ⟨_, F.1, (u_born ty S.2.2.2.2.1 F.2.2.1 hKn hkC e1 F.2.2.2.1).to hfs⟩
theorem wp_of {Y : Env1} (hG : gY Y = gC) {Mo Mp : Mem} {H : Heap} (h : GPw Y (([] ++ cellsY Y Mo) ++ cellsY (YP Y) Mp) H) : WP Y (Mo, Mp) H := by
  have l1 : (cellsY Y Mo).length = 281 := by rw [cellsY_len, hG]; decide +kernel
  have l2 : (cellsY (YP Y) Mp).length = 281 := by rw [cellsY_len]; show gC.length = 281; decide +kernel
  rw [List.nil_append] at h
  have hm : hY (YP Y) = hY Y + 281 := rfl
  unfold GPw at h
  rw [wE_app, l1] at h
  have w1 : (wE (hY Y) (cellsY Y Mo)).length = 281 := by rw [wE_len, l1]
  refine ⟨?_, ?_⟩
  · rw [wl_E]
    exact fun k q hk => h k q (by
      have hlt := (List.getElem?_eq_some_iff.mp hk).1
      rw [List.getElem?_append_left hlt]
      exact hk)
  · rw [wl_E, hm]
    exact fun k q hk => h (281 + k) q (by
      rw [List.getElem?_append_right (by omega), w1, Nat.add_sub_cancel_left]
      exact hk)
theorem df7 : ∀ j, j < 6 → defaultValue (tyX7 j) = vp_V (dfl 7) j := fun j hj => by rcases (show j = 0 ∨ j = 1 ∨ j = 2 ∨ j = 3 ∨ j = 4 ∨ j = 5 by omega) with rfl | rfl | rfl | rfl | rfl | rfl <;> rfl
set_option maxHeartbeats 1000000 in
theorem w_a {X : Cx} (S : ∀ c1 s1, c1 ≤ 600130 → s1 ≤ 7301080 → CX (setX X c1 s1) cL_law RL 13 10 gC) (hA : X.2.1.1 = fun q => hY X.2.1.2 ≤ q) (hs0 : (stX X).heap.size = hY X.2.1.2) (hAO : va_AO RX6 (stX X)) {b : Nat} {sub : List va_E} (kI : ∀ Y : Env1, gY Y = [] → hY Y = hY X.2.1.2 → Y.1 = X.2.1.2.1 → Y.2.1 = X.2.1.2.2.1 → Ini X.1.2.1 Y yX7_init cX7_init 2 6 280 9063 [] (.inr (7, dfl 7)) sub)
    (k9 : AG (setX X 281 9069) 8 [(1, .ref (hY X.2.1.2)), (0, .ref b)] [] (GPw X.2.1.2 ([] ++ sub))) : AG (setX X 0 0) 0 [(0, .ref b)] [] (fun H => H = (stX X).heap) := by
  have S0 := S 0 0 (Nat.le_of_ble_eq_true rfl) (Nat.le_of_ble_eq_true rfl)
  have S1 := S 1 6 (Nat.le_of_ble_eq_true rfl) (Nat.le_of_ble_eq_true rfl)
  have S2 := S 281 9069 (Nat.le_of_ble_eq_true rfl) (Nat.le_of_ble_eq_true rfl)
  refine i_new0 (X := setX X 0 0) (fs := dfl 7) (c1 := 1) (s1 := 6) S0 fc7 hs0 zi_19 zi_20 zi_1 df7 rfl rfl (CX_c S1) (CX_s S1) dL_law_0 ?_
  refine g_dup S1 dL_law_3 rfl ?_
  refine i_call (X := setX X 1 6) (es := []) (sub := sub) (c1 := 281) (s1 := 9069) (As := []) (rest := [.ref (hY X.2.1.2)]) S1 (fun q h => by show X.2.1.1 q; rw [hA]; exact h) hAO (by show (stX X).heap.size + 1 = hY X.2.1.2 + 0 + 1; rw [hs0]) (kI _ rfl rfl rfl rfl) wdi_X7 (Or.inl zi_21) (by decide) (by show 1 + 280 = 281; decide) (by show 6 + 9063 = 9069; decide) (CX_c S2) (CX_s S2) rfl (Nat.le_of_ble_eq_true rfl) dL_law_4 ?_
  exact g_astore_n (lv2 := [(1, .ref (hY X.2.1.2)), (0, .ref b)]) S2 dL_law_7 (by decide) rfl k9
set_option maxHeartbeats 1000000 in
theorem w_b {X : Cx} (S : ∀ c1 s1, c1 ≤ 600130 → s1 ≤ 7301080 → CX (setX X c1 s1) cL_law RL 13 10 gC) (hA : X.2.1.1 = fun q => hY X.2.1.2 ≤ q) (hs0 : (stX X).heap.size = hY X.2.1.2) (hAO : va_AO RX6 (stX X)) {b : Nat} {A sub : List va_E} (hl1 : A.length = 281) (kI : ∀ Y : Env1, gY Y = [] → hY Y = hY X.2.1.2 + A.length → Y.1 = X.2.1.2.1 → Y.2.1 = X.2.1.2.2.1 → Ini X.1.2.1 Y yX7_init cX7_init 2 6 280 9063 [] (.inr (7, dfl 7)) sub)
    (k9 : AG (setX X 562 18138) 16 [(2, .ref (hY X.2.1.2 + 281)), (1, .ref (hY X.2.1.2)), (0, .ref b)] [] (GPw X.2.1.2 (A ++ sub))) : AG (setX X 281 9069) 8 [(1, .ref (hY X.2.1.2)), (0, .ref b)] [] (GPw X.2.1.2 A) := by
  have S2 := S 281 9069 (Nat.le_of_ble_eq_true rfl) (Nat.le_of_ble_eq_true rfl)
  have S3 := S 282 9075 (Nat.le_of_ble_eq_true rfl) (Nat.le_of_ble_eq_true rfl)
  have S4 := S 562 18138 (Nat.le_of_ble_eq_true rfl) (Nat.le_of_ble_eq_true rfl)
  refine i_new (X := setX X 281 9069) (es := A) (fs := dfl 7) (c1 := 282) (s1 := 9075) S2 fc7 (by rw [hl1]; decide) (by show (stX X).heap.size + 281 = hY X.2.1.2 + A.length; rw [hl1, hs0]) zi_19 zi_20 zi_1 df7 (by show 281 + 1 = 282; decide) (by show 9069 + 6 = 9075; decide) (CX_c S3) (CX_s S3) dL_law_8 ?_
  refine g_dup S3 dL_law_11 rfl ?_
  refine i_call (X := setX X 282 9075) (es := A) (sub := sub) (c1 := 562) (s1 := 18138) (As := []) (rest := [.ref (hY X.2.1.2 + A.length)]) S3 (fun q h => by show X.2.1.1 q; rw [hA]; exact h) hAO (by show (stX X).heap.size + 282 = hY X.2.1.2 + A.length + 1; rw [hl1, hs0]) (kI _ rfl rfl rfl rfl) wdi_X7 (Or.inl zi_21) (by decide) (by show 282 + 280 = 562; decide) (by show 9075 + 9063 = 18138; decide) (CX_c S4) (CX_s S4) rfl (Nat.le_of_ble_eq_true rfl) dL_law_12 ?_
  rw [hl1]
  exact g_astore_n (lv2 := [(2, .ref (hY X.2.1.2 + 281)), (1, .ref (hY X.2.1.2)), (0, .ref b)]) S4 dL_law_15 (by decide) rfl k9
theorem Ini_at {l : Launch} {Y Y2 : Env1} {y : MethodName} {b : ByteArray} {mL lev mc ms : Nat} {As : List Value} {e : va_E} {sub : List va_E} (h1 : Y.1 = Y2.1) (h2 : Y.2.1 = Y2.2.1) (h3 : hY Y = hY Y2) (h4 : gY Y = []) (h : Ini l (Y2.1, Y2.2.1, [], hY Y2) y b mL lev mc ms As e sub) : Ini l Y y b mL lev mc ms As e sub := by
  obtain ⟨D, T3, G, q⟩ := Y
  obtain rfl : D = Y2.1 := h1
  obtain rfl : T3 = Y2.2.1 := h2
  obtain rfl : q = hY Y2 := h3
  obtain rfl : G = [] := h4
  exact h
set_option maxHeartbeats 1000000 in
/-- the whole walk, from the entry, over what is known of the context -/
theorem w_all (hlaw : LAWOK) {Ma M1 : Mem} (h1 : GR_lay 2 (1 : Int32) (1 : Int32) Mz = some ((), Ma)) (h2 : WD_restart 1 Ma = some ((), M1)) {X : Cx} {b L : Nat} {xs : Nat → Int32} (S : ∀ c1 s1, c1 ≤ 600130 → s1 ≤ 7301080 → CX (setX X c1 s1) cL_law RL 13 10 gC) (hA : X.2.1.1 = fun q => hY X.2.1.2 ≤ q) (hs0 : (stX X).heap.size = hY X.2.1.2) (hAO : va_AO RX6 (stX X)) (hX : va_X b L xs (stX X) (stX X).heap) (hbl : b < (stX X).heap.size) (hL : L ≤ 260)
    (fin : ∀ (pc : Nat) (lv : List (Nat × Value)) (Q : Mem2), decode cL_law pc = .ok (.ireturn, 1) → AQ (setX X 562 18138) pc lv [.int (1 : Int32)] Q) :
    AG (setX X 0 0) 0 [(0, .ref b)] [] (fun H => H = (stX X).heap) := by
  obtain ⟨Q1, hE⟩ := hlaw Ma M1 h1 h2 L xs hL
  have S4 := S 562 18138 (Nat.le_of_ble_eq_true rfl) (Nat.le_of_ble_eq_true rfl)
  have hG : gY X.2.1.2 = gC := gYX (X := setX X 562 18138) S4
  have lA : (cellsY X.2.1.2 M1).length = 281 := by rw [cellsY_len, hG]; decide +kernel
  have eY : (X.2.1.2.1, X.2.1.2.2.1, gC, hY X.2.1.2) = X.2.1.2 := by rw [← hG]; rfl
  refine w_a S hA hs0 hAO (sub := cellsY X.2.1.2 M1) (fun Y g1 g2 g3 g4 => ?_) ?_
  · have k := k_X7 X.1.2.1 (X.2.1.2.1, X.2.1.2.2.1, [], hY X.2.1.2) rfl Ma M1 h1 h2
    have e : cellsY (X.2.1.2.1, X.2.1.2.2.1, gC, hY X.2.1.2) M1 = cellsY X.2.1.2 M1 := by rw [eY]
    have k' : Ini X.1.2.1 (X.2.1.2.1, X.2.1.2.2.1, [], hY X.2.1.2) yX7_init cX7_init 2 6 280 9063 [] (.inr (7, dfl 7)) (cellsY (X.2.1.2.1, X.2.1.2.2.1, gC, hY X.2.1.2) M1) := k
    rw [e] at k'
    exact Ini_at g3 g4 g2 g1 k'
  refine w_b S hA hs0 hAO (A := [] ++ cellsY X.2.1.2 M1) (sub := cellsY (YP X.2.1.2) M1) (by rw [List.nil_append, lA]) (fun Y g1 g2 g3 g4 => ?_) ?_
  · rw [List.nil_append, lA] at g2
    have k := k_X7 X.1.2.1 (X.2.1.2.1, X.2.1.2.2.1, [], hY X.2.1.2 + 281) rfl Ma M1 h1 h2
    exact Ini_at (Y2 := (X.2.1.2.1, X.2.1.2.2.1, [], hY X.2.1.2 + 281)) g3 g4 g2 g1 k
  have hin : ∀ q, AY2 X.2.1.2 q → X.2.1.1 q := fun q hq => by
    rw [hA]
    rcases hq with hq | hq
    · exact (AYC hG hq).1
    · have := AYP hq
      show hY X.2.1.2 ≤ q
      omega
  have SQ : CQQ (setX X 562 18138) cL_law 13 10 b L xs := ⟨S4, hin, hX, hbl, fun z => by
    have z2 : X.2.1.1 b := z
    rw [hA] at z2
    have z3 : hY X.2.1.2 ≤ b := z2
    omega, by show b < hY X.2.1.2; omega, hL⟩
  have k16 := w_law SQ (M1, M1) (1 : Int32) Q1 hE (fun pc lv hd => fin pc lv Q1 hd)
  exact fun H locs ls hl hP hS => k16 H locs ls hl (wp_of hG hP) hS
