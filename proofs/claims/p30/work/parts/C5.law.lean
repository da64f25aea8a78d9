/-! C5.law: the law's loop, and its end -/
theorem wat_PO {A : Ab} (hA : GI A) {c x : Int} (hx : 0 ≤ x) (hw : wat A + x ≤ 1000000) : wat (PO A c x) ≤ wat A + x := by
  obtain ⟨g1, g2, g3⟩ := pG_WF (A := A) (prd A + nl x)
  have hWp := g1 hA.1
  have hk : PK (pG A (prd A + nl x)) (lk A c) := by rw [← g3]; exact PK_lk hWp c
  obtain ⟨p1, p2, p3, _⟩ := prl_WF hWp hk hx (by omega)
  show wat (prl prN (pG A (prd A + nl x)) (lk A c) x) ≤ _
  omega
/-- what holds of the object at each turn of the law's loop -/
def TRN (Q : Mem2) (N : Int) (i : Int) : Prop := ∃ A nx cnt, IC Q.1 A nx cnt ∧ nn A = N ∧ wat A ≤ 300 * i ∧ (i ≤ cnt ∨ cnt = 4)
theorem TRN_up {Q : Mem2} {A : Ab} {N i nx cnt : Int} (h : IC Q.1 A nx (cn cnt)) (hn : nn A = N) (hw : wat A ≤ 300 * (i + 1)) (hc : i ≤ cnt ∨ cnt = 4) (hc4 : 0 ≤ cnt ∧ cnt ≤ 4) : TRN Q N (i + 1) := by
  refine ⟨A, nx, cn cnt, h, hn, hw, ?_⟩
  unfold cn
  split <;> omega
theorem t_300 {Q : Mem2} {N i : Int} (h : TRN Q N i) (L : Nat) (xs : Nat → Int32) (v4 v5 : Int32) : LW_law_L81_J300 L xs (1 : Int32) v4 v5 Q = some (.inl ((1 : Int32), v5 + (1 : Int32)), Q) := by
  obtain ⟨A, nx, cnt, hI, _⟩ := h
  unfold LW_law_L81_J300
  rw [if_neg (by decide), w_sound hI, bq_s]
  rfl
theorem t_turn {Q : Mem2} {N i : Int} (h : TRN Q N i) (hi : 0 ≤ i ∧ i < 12) {L : Nat} (hL : L ≤ 260) (xs : Nat → Int32) : ∃ Q', LW_law_L81 L xs (ni N) (1 : Int32) (ni i) Q = some (.inl ((1 : Int32), ni i + (1 : Int32)), Q') ∧ TRN Q' N (i + 1) := by
  obtain ⟨A, nx, cnt, hI, hN, hwt, hcn⟩ := h
  have hn := nn_bd hI.2.1.1.1
  have hc4 := hI.2.2.2.1
  have hw0 := wat0 hI.2.1.1
  obtain ⟨x1, e1⟩ := cell_ok hL xs (k := 10 + i) (by omega) (by omega)
  obtain ⟨c, hc, e2⟩ := up_ok (isr x1 (3 : Int32)) (N := N) (by omega) (by omega)
  have hb : ∃ a : Int, (0 ≤ a ∧ a < 300) ∧ LW_up (isr x1 (9 : Int32)) (if ¬ ((isr x1 (8 : Int32)) &&& (1 : Int32)) = 0 then (300 : Int32) else (10 : Int32)) = some (ni a) := by
    by_cases q : ((isr x1 (8 : Int32)) &&& (1 : Int32)) = 0
    · rw [if_neg (not_not_intro q)]
      obtain ⟨v, hv, f⟩ := up_ok (isr x1 (9 : Int32)) (N := 10) (by omega) (by omega)
      exact ⟨v, by omega, f⟩
    · rw [if_pos q]
      obtain ⟨v, hv, f⟩ := up_ok (isr x1 (9 : Int32)) (N := 300) (by omega) (by omega)
      exact ⟨v, by omega, f⟩
  obtain ⟨a, ha, e3⟩ := hb
  obtain ⟨z0, z1, z2, z3⟩ := kb hI
  have hc1 : c < nn A := by omega
  unfold LW_law_L81
  rw [if_neg (by rw [show (12 : Int32) = ni 12 from rfl, ni_le (by omega) (by omega) (by omega) (by omega)]; omega), if_neg (by decide), show (10 : Int32) = ni 10 from rfl, ni_add, e1, b1_s, e2, b1_s]
  unfold LW_law_L81_J137
  rw [show ni 10 = (10 : Int32) from rfl, e3, b1_s]
  by_cases q5 : (5 : Int32) ≤ (x1 &&& (7 : Int32))
  · rw [if_pos q5]
    by_cases q6 : (x1 &&& (7 : Int32)) = (5 : Int32)
    · -- evaporate
      rw [if_neg (not_not_intro q6), z1, bo_s, show (3 : Int32) = ni 3 from rfl, ni_irm (by omega) (by omega) (by omega) (by omega), show (1 : Int32) = ni 1 from rfl, ni_add]
      obtain ⟨M1, p1, p2, p3, p4⟩ := k_evaporate hI (r := 1 + a % 3) (by omega)
      obtain ⟨g1, g2, g3⟩ := GI_EV hI.2.1 (1 + a % 3).toNat
      have hs' := evS_rg hI.2.1.1 (1 + a % 3).toNat
      have hwb := hI.2.1.2.1.1
      obtain ⟨y0, y1, y2, y3⟩ := kb p2
      have hT : TRN (M1, Q.2) N (i + 1) := TRN_up (A := EV A (1 + a % 3).toNat) p2 (by rw [← g2.nn]; exact hN) (by omega) hcn hc4
      rw [show ni 1 = (1 : Int32) from rfl, p1, bo_s, ni_64 (by omega) (by omega), if_neg (by rw [nl_lt (by omega) (by omega) (by omega) (by omega)]; omega), y1, bo_s, nl_sub, g3, if_neg (not_not_intro rfl)]
      unfold LW_law_L81_J220
      exact ⟨_, t_300 hT L xs _ _, hT⟩
    · -- setHeight
      obtain ⟨M1, p1, p2, p3, p4⟩ := k_setHeight hI hc.1 hc1 (v := a % 100) (by omega)
      obtain ⟨y0, y1, y2, y3⟩ := kb p2
      have gB : WFg (aI A 1 c (a % 100)) := p3.symm.WFg p2.2.1.1.1
      have hnB : nn (aI A 1 c (a % 100)) = nn A := (nb_of (show (aI A 1 c (a % 100)).1 0 = A.1 0 from by funext j; simp [aI])).2
      have hn2 : nn (CH A (aI A 1 c (a % 100))) = N := by rw [← p3.nn, hnB]; exact hN
      have hw2 := wat_CH hI.2.1 gB hnB
      have hT : TRN (M1, Q.2) N (i + 1) := TRN_up (A := CH A (aI A 1 c (a % 100))) p2 hn2 (by omega) hcn hc4
      have hh : ht (CH A (aI A 1 c (a % 100))) c = a % 100 := by
        rw [show ht (CH A (aI A 1 c (a % 100))) c = ht (aI A 1 c (a % 100)) c from (p3.ht c).symm]
        show (if (1 : Nat) = 1 ∧ c = c then a % 100 else A.1 1 c) = a % 100
        rw [if_pos ⟨rfl, rfl⟩]
      rw [if_pos q6, z1, bo_s, z2, bo_s, (kc hI c hc.1 hc1).1, bo_s, show (100 : Int32) = ni 100 from rfl, ni_irm (by omega) (by omega) (by omega) (by omega), p1, bo_s, if_neg (not_not_intro rfl), y1, bo_s, y2, bo_s, if_neg (not_not_intro p4), (kc p2 c hc.1 (by omega)).1, bo_s, hh, if_neg (not_not_intro rfl)]
      unfold LW_law_L81_J299
      exact ⟨_, t_300 hT L xs _ _, hT⟩
  · rw [if_neg q5]
    obtain ⟨M1, p1, p2⟩ := w_raised hI hc.1 hc1 (x := a) (by omega) (by omega)
    obtain ⟨g1, g2, g3, g4⟩ := GI_PO (c := c) hI.2.1 (x := a) ha.1 (by omega)
    have hw2 := wat_PO (c := c) hI.2.1 (x := a) ha.1 (by omega)
    have hT : TRN (M1, Q.2) N (i + 1) := TRN_up (A := PO A c a) p2 (by rw [← g2.1.nn]; exact hN) (by omega) hcn hc4
    rw [p1, bq_s]
    exact ⟨_, t_300 hT L xs _ _, hT⟩
theorem t_loop {Q : Mem2} {N : Int} (h : TRN Q N 0) {L : Nat} (hL : L ≤ 260) (xs : Nat → Int32) : ∃ Q', lpQ (fun s M9 => LW_law_L81 L xs (ni N) s.1 s.2 M9) FUEL ((1 : Int32), (0 : Int32)) Q = some ((1 : Int32), Q') ∧ TRN Q' N 12 := by
  obtain ⟨r, Q', e, rfl, h2⟩ := lpQ_to (f := fun s M9 => LW_law_L81 L xs (ni N) s.1 s.2 M9) 12 (by omega) (fun i s M => s = ((1 : Int32), ni (i : Int)) ∧ TRN M N i) (fun r M => r = (1 : Int32) ∧ TRN M N 12) (by
    rintro i hi s M ⟨rfl, h⟩
    obtain ⟨Q', e, h2⟩ := t_turn h (i := (i : Int)) (by omega) hL xs
    refine ⟨_, Q', e, ?_, h2⟩
    rw [show (1 : Int32) = ni 1 from rfl, ni_add]; rfl) (by
    rintro s M ⟨rfl, h⟩
    refine ⟨_, _, ?_, rfl, h⟩
    unfold LW_law_L81
    dsimp only
    rw [if_pos (by decide)]) (s := ((1 : Int32), (0 : Int32))) (M := Q) ⟨rfl, h⟩
  exact ⟨Q', e, h2⟩
theorem pG_isw (A : Ab) (g : Int64) (c : Int) : isw (pG A g) c = isw A c := by
  rw [Bool.eq_iff_iff, isw_iff, isw_iff, (pG_WF (A := A) g).2.2 c, pG_msk, ← (pG_ge A g).nd]
  exact Iff.rfl
theorem wb_PO (A : Ab) (a b x : Int) : wb A a b x = isw (PO A a x) b := by
  unfold wb PO
  rw [show prl prN (pG A (prd A + nl x)) (lk A a) x = pG (prl prN A (lk A a) x) (prd A + nl x) from pG_prl _ _ _ _ _]
  exact (pG_isw _ _ _).symm
theorem f_525 {Q : Mem2} {A : Ab} {nx cnt : Int} (h : IC Q.1 A nx cnt) {L : Nat} {xs : Nat → Int32} {a b r : Int} (a0 : 0 ≤ a) (a1 : a < nn A) (b0 : 0 ≤ b) (b1 : b < nn A) (hr : -1 ≤ r ∧ r ≤ 100000) (hw : 0 < r → wb A a b r = true) : ∃ Q', LW_law_J525 L xs (ni a) (ni b) (ni r) (1 : Int32) Q = some ((1 : Int32), Q') := by
  obtain ⟨z0, z1, z2, z3⟩ := kb h
  have hw0 := wat0 h.2.1.1
  have hwb := h.2.1.2.1.1
  unfold LW_law_J525
  rw [if_neg (by decide)]
  by_cases q : r < 1
  · rw [if_pos (by rw [show (1 : Int32) = ni 1 from rfl, ni_lt (by omega) (by omega) (by omega) (by omega)]; exact q)]
    exact ⟨_, rfl⟩
  · rw [if_neg (by rw [show (1 : Int32) = ni 1 from rfl, ni_lt (by omega) (by omega) (by omega) (by omega)]; exact q), z1, bo_s, ni_64 (by omega) (by omega), nl_add, show (1000000 : Int64) = nl 1000000 from rfl]
    by_cases y : 1000000 < wat A + r
    · rw [if_pos (by rw [nl_lt (by omega) (by omega) (by omega) (by omega)]; exact y)]
      exact ⟨_, rfl⟩
    · rw [if_neg (by rw [nl_lt (by omega) (by omega) (by omega) (by omega)]; exact y)]
      obtain ⟨s, M1, p1, p2, p3⟩ := k_pour h a0 a1 (x := r) (by omega) (by omega)
      obtain ⟨g1, g2, g3, g4⟩ := GI_PO (c := a) h.2.1 (x := r) (by omega) (by omega)
      have hnn : nn (PO A a r) = nn A := g2.1.nn.symm
      have hwet : isw (PO A a r) b = true := by
        have := hw (by omega)
        have e := wb_PO A a b r
        rw [e] at this
        exact this
      obtain ⟨t, M2, q1, q2, q3, q4, q5⟩ := k_amount p3 a0 (by rw [hnn]; exact a1) b0 (by rw [hnn]; exact b1)
      have ht : t = 0 := q4.mpr hwet
      rw [p1, bo_s, if_neg (by rw [show (0 : Int32) = ni 0 from rfl, ni_lt (by omega) (by omega) (by omega) (by omega)]; omega), (kc p3 b b0 (by rw [hnn]; exact b1)).2.2.2.1, bo_s, hwet, if_neg (by decide), q1, bo_s, ht]
      exact ⟨_, rfl⟩
