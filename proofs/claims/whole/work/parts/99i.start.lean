/-! 99i.start: the two objects at the start -/
theorem Inv_start : ∃ Ma M1 M2, GR_lay 2 (1 : Int32) (1 : Int32) Mz = some ((), Ma) ∧ WD_restart 1 Ma = some ((), M1) ∧ MD_begins (1 : Int32) (1 : Int32) Mz = some ((), M2) ∧ Inv M1 M2 := by
  obtain ⟨Ma, a1, a2, a3⟩ := c_lay (g := 2) (sz_w (w := 1) (Or.inl rfl)).1 (M := Mz) (W := 1) (H := 1) (by omega) (by omega)
  have w := G0_WFg (W := 1) (H := 1) (by omega) (by omega)
  obtain ⟨M1, b1, b2, b3⟩ := c_restartW (w := 1) (Or.inl rfl) a2 w (G0_lk 1 1)
  obtain ⟨M2, c1, c2, c3⟩ := e_begins (M := Mz) (W := 1) (H := 1) (by omega) (by omega)
  have g1 : ∀ o q, (o = 0 ∨ o = 94) → gI M1 o q = 0 := fun o q ho => by
    rw [b3.gI (by omega), a3.gI (by omega)]
    rfl
  have g2 : ∀ o q, gI M2 o q = 0 := fun o q => by unfold gI; rw [c3.1]; rfl
  refine ⟨Ma, M1, M2, a1, b1, c1, fnd (G0 1 1), b2, c2, fnd_WF w, WB_new, ?_, ?_⟩
  · exact ⟨0, 0, fun _ => G0 1 1, by omega, by omega, g1 0 5 (Or.inl rfl), g1 0 4 (Or.inl rfl), g2 0 3, fun i hi => absurd hi (by omega)⟩
  · exact ⟨0, by omega, g1 94 1 (Or.inr rfl), g2 0 21, fun i hi => absurd hi (by omega)⟩
theorem st_K {s : State} {args : Array Value} (hts : ∀ w ∈ lw_tbl, w.before args s = true) : ∃ (D : va_G) (T3 : ClassId × ClassId × ClassId) (cD : ClassId), (∀ (G : List (Nat × Nat)) (h : Nat), va_K D vwCl (tysY (D, T3, G, h)) s) ∧ va_K D vwCl [(cD, .double)] s ∧ va_AO RX6 s := by
  have hT : ∀ w ∈ TBL, w.before args s = true := fun w h => hts w (tb_in h)
  obtain ⟨c0, i0, k0⟩ := u_known hT fc0.2.2.1 (hT _ zi_35)
  obtain ⟨c1, i1, k1⟩ := u_known hT fc1.2.2.1 (hT _ zi_142)
  obtain ⟨c2, i2, k2⟩ := u_known hT fc2.2.2.1 (hT _ zi_232)
  obtain ⟨c3, i3, k3⟩ := u_known hT fc3.2.2.1 (hT _ zi_41)
  obtain ⟨c4, i4, k4⟩ := u_known hT fc4.2.2.1 (hT _ zi_110)
  obtain ⟨c5, i5, k5⟩ := u_known hT fc5.2.2.1 (hT _ zi_104)
  obtain ⟨c6, i6, k6⟩ := u_known hT fc6.2.2.1 (hT _ zi_29)
  obtain ⟨c7, i7, k7⟩ := u_known hT fc7.2.2.1 (hT _ zi_21)
  obtain ⟨c8, i8, k8⟩ := u_known hT fc8.2.2.1 (hT _ zi_990)
  obtain ⟨dC, dI, hKc⟩ : ∃ (dC : Nat → ClassId) (dI : Nat → Nat → Nat), ∀ (k : Nat) (q : vw_C), vwCl[k]? = some q → u_Kn s q.1 q.2.1 q.2.2 (dC k) (dI k) := by
    refine ⟨fun k => if k = 0 then c0 else if k = 1 then c1 else if k = 2 then c2 else if k = 3 then c3 else if k = 4 then c4 else if k = 5 then c5 else if k = 6 then c6 else if k = 7 then c7 else c8, fun k => if k = 0 then i0 else if k = 1 then i1 else if k = 2 then i2 else if k = 3 then i3 else if k = 4 then i4 else if k = 5 then i5 else if k = 6 then i6 else if k = 7 then i7 else i8, ?_⟩
    intro k q hq
    match k, hq with
    | 0, hq => cases hq; exact k0
    | 1, hq => cases hq; exact k1
    | 2, hq => cases hq; exact k2
    | 3, hq => cases hq; exact k3
    | 4, hq => cases hq; exact k4
    | 5, hq => cases hq; exact k5
    | 6, hq => cases hq; exact k6
    | 7, hq => cases hq; exact k7
    | 8, hq => cases hq; exact k8
    | k + 9, hq => simp [vwCl] at hq
  obtain ⟨aI, kI, oI, f1, f2, f3⟩ := Cond.arrayClass_spec (hT _ zi_53)
  obtain ⟨aL, kL, oL, g1, g2, g3⟩ := Cond.arrayClass_spec (hT _ zi_120)
  obtain ⟨aD, kD, oD, d1, d2, d3⟩ := Cond.arrayClass_spec (hT _ zi_1452)
  have hAO : (Cond.arrayOver (.object RX6)).before args s = true := hts _ (List.mem_append_right _ (tz_1 (List.mem_of_getElem? (i := 230) rfl)))
  obtain ⟨comp, aW, kW, w1, w2, w3, w4, w5⟩ := Cond.arrayOver_spec hAO
  refine ⟨(dC, dI), (aI, aL, aW), aD, fun G h => ⟨hKc, fun k q hq => ?_⟩, ⟨hKc, fun k q hq => ?_⟩, ?_⟩
  · match k, hq with
    | 0, hq => cases hq; exact ⟨fun n z => ⟨fun k h => (by cases h), kI, f2, oI, f3⟩, f1⟩
    | 1, hq => cases hq; exact ⟨fun n z => ⟨fun k h => (by cases h), kL, g2, oL, g3⟩, g1⟩
    | 2, hq => cases hq; exact ⟨fun n z => ⟨fun k h => (by cases h), kW, w3, comp, w4⟩, kW, comp, w3, w4, w1, w5⟩
    | k + 3, hq => simp [tysY] at hq
  · match k, hq with
    | 0, hq => cases hq; exact ⟨fun n z => ⟨fun k h => (by cases h), kD, d2, oD, d3⟩, d1⟩
    | k + 1, hq => simp at hq
  · exact va_AO.of hAO
theorem i_new0 {X : Cx} {cc : ByteArray} {own : String} {n lev : Nat} {G : List (Nat × Nat)} (S : CX X cc own n lev G) {ci : Nat} {C : String} {T : u_T} {N : Nat} {ty : Nat → FieldType} (F : FCl ci C T N ty) {pc idx : Nat} {lv : List (Nat × Value)} {st : List Value} {fs : List Value} (hsz : (stX X).heap.size = hY X.2.1.2)
    (hwl : Cond.classLink own idx C ∈ TBL) (hwi : Cond.instantiable C N ∈ TBL) (hwn : Cond.initialized C ∈ TBL) (hfs : ∀ j, j < N → defaultValue (ty j) = vp_V fs j) {c1 s1 : Nat} (hc1 : X.2.2.2.1 + 1 = c1) (hs1 : X.2.2.2.2.1 + N = s1) (hc : c1 ≤ X.1.2.2.2.1.cells) (hs : s1 ≤ X.1.2.2.2.1.slots) (d : decode cc pc = .ok (.new idx, 3))
    (k9 : AG (setX X c1 s1) (pc + 3) lv (.ref (hY X.2.1.2) :: st) (GPw X.2.1.2 [.inr (ci, fs)])) : AG X pc lv st (fun H => H = (stX X).heap) := by
  subst hc1
  subst hs1
  intro H locs ls hl hP hS
  have hz : H.size = hY X.2.1.2 := by rw [show H = (stX X).heap from hP]; exact hsz
  have hKn := S.2.2.2.2.2.1.1 ci _ F.1
  refine W.newcK S.1 S.2.1 S.2.2.2.1 (S.2.2.2.2.1 _ hwl) (S.2.2.2.2.1 _ hwi) (S.2.2.2.2.1 _ hwn) rfl d hc hs hKn.2.1 hz fun H1 kC hkC e1 z1 o1 => ?_
  refine k9 H1 locs ls hl ?_ ⟨Nat.le_trans hS.1 (by omega), fun x h1 h2 => (o1 x (by have := hS.1; have : x < (stX X).heap.size := h1; omega)).trans (hS.2.1 x h1 h2), hS.2.2⟩
  intro k x hx
  have hk1 : k < 1 := by simpa [wE] using (List.getElem?_eq_some_iff.mp hx).1
  obtain rfl : k = 0 := by omega
  cases hx
  exact ⟨_, F.1, (u_born ty S.2.2.2.2.1 F.2.2.1 hKn hkC e1 F.2.2.2.1).to hfs⟩
theorem lwp_of {Y : Env1} (hG : gY Y = gC) {cD : ClassId} {Mc Mm : Mem} {H : Heap} (h : GPw Y (((([] ++ cellsY Y Mc) ++ cellsY (YM Y) Mm) ++ [.inl (Y.2.1.2.1, 1, .inr (.inl (fun _ => 0)))]) ++ [.inl (cD, 1, .inr (.inr (.inr (.inl (fun _ => 0)))))]) H) : LWP Y cD Mc Mm (fun _ => 0) (fun _ => 0) H := by
  have l1 : (cellsY Y Mc).length = 281 := by rw [cellsY_len, hG]; decide +kernel
  have l2 : (cellsY (YM Y) Mm).length = 14 := by rw [cellsY_len]; show gM.length = 14; decide +kernel
  rw [List.nil_append] at h
  have hm : hY (YM Y) = hY Y + 281 := rfl
  unfold GPw at h
  rw [wE_app, wE_app, wE_app] at h
  have l3 : (cellsY Y Mc ++ cellsY (YM Y) Mm).length = 295 := by rw [List.length_append, l1, l2]
  have l4 : ((cellsY Y Mc ++ cellsY (YM Y) Mm) ++ [.inl (Y.2.1.2.1, 1, .inr (.inl (fun _ => 0)))] : List va_E).length = 296 := by rw [List.length_append, l3]; rfl
  rw [l1, l3, l4] at h
  have w1 : (wE (hY Y) (cellsY Y Mc)).length = 281 := by rw [wE_len, l1]
  have w2 : (wE (hY Y + 281) (cellsY (YM Y) Mm)).length = 14 := by rw [wE_len, l2]
  refine ⟨?_, ?_, ?_, ?_⟩
  · rw [wl_E]
    exact fun k q hk => h k q (by
      have hlt := (List.getElem?_eq_some_iff.mp hk).1
      rw [List.getElem?_append_left (by simp [w1, w2]; omega), List.getElem?_append_left (by simp [w1, w2]; omega), List.getElem?_append_left hlt]
      exact hk)
  · rw [wl_E, hm]
    exact fun k q hk => h (281 + k) q (by
      have hlt := (List.getElem?_eq_some_iff.mp hk).1
      rw [List.getElem?_append_left (by simp [w1, w2]; omega), List.getElem?_append_left (by simp [w1, w2]; omega), List.getElem?_append_right (by omega), w1, Nat.add_sub_cancel_left]
      exact hk)
  · exact fun k q hk => h (295 + k) q (by
      have hlt : k < 1 := (List.getElem?_eq_some_iff.mp hk).1
      obtain rfl : k = 0 := by omega
      rw [List.getElem?_append_left (by simp [l1, l2, wE]), List.getElem?_append_right (by simp [w1, w2])]
      simp only [List.length_append, w1, w2]
      exact hk)
  · exact fun k q hk => h (296 + k) q (by
      have hlt : k < 1 := (List.getElem?_eq_some_iff.mp hk).1
      obtain rfl : k = 0 := by omega
      rw [List.getElem?_append_right (by simp [l1, l2, wE])]
      simp only [List.length_append, w1, w2]
      exact hk)
