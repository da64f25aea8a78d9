/-! C6.end: the law as a function answers 1 -/
theorem bpos (x : Int) (h0 : 0 ≤ x) (h1 : x ≤ 2000000) : (if ni x ≤ 0 then (0 : Int32) else (1 : Int32)) = bI (0 < x) := by
  by_cases q : x ≤ 0
  · rw [if_pos (by rw [show (0 : Int32) = ni 0 from rfl, ni_le (by omega) (by omega) (by omega) (by omega)]; exact q), bI_f (by omega)]
  · rw [if_neg (by rw [show (0 : Int32) = ni 0 from rfl, ni_le (by omega) (by omega) (by omega) (by omega)]; exact q), bI_t (by omega)]
theorem f_404 {Q : Mem2} {A : Ab} {nx cnt : Int} (h : IC Q.1 A nx cnt) {L : Nat} (hL : L ≤ 260) (xs : Nat → Int32) : ∃ Q', LW_law_J404 L xs (ni (nn A)) (1 : Int32) Q = some ((1 : Int32), Q') := by
  have hn := nn_bd h.2.1.1.1
  obtain ⟨s0, e0⟩ := cell_ok hL xs (k := 30) (by omega) (by omega)
  obtain ⟨s1, e1⟩ := cell_ok hL xs (k := 31) (by omega) (by omega)
  obtain ⟨a, ha, f0⟩ := up_ok s0 (N := nn A) (by omega) (by omega)
  obtain ⟨b, hb, f1⟩ := up_ok s1 (N := nn A) (by omega) (by omega)
  obtain ⟨r, M1, p1, p2, p3, p4, p5⟩ := k_amount h ha.1 ha.2 hb.1 hb.2
  have dd := dps_bd (RM_gm A) h.2.1.1 (nn A).toNat (Nat.le_refl _)
  have dw := dps_wet h.2.1.1 (nn A).toNat (Nat.le_refl _)
  have dp := k_deepest (M := M1) p2
  -- behind the second question
  have tail : ∀ (M2 : Mem) (t : Int), IC M2 A nx cnt → (0 ≤ (dps A (nn A).toNat).1 → t = 0) → (-1 ≤ t ∧ t ≤ 100000) → ∃ Q', LW_law_J479 L xs (1 : Int32) (ni a) (ni b) (ni r) (ni t) (M2, Q.2) = some ((1 : Int32), Q') := by
    intro M2 t h2 ht htb
    have h497 : ∃ Q', LW_law_J497 L xs (ni a) (ni b) (ni r) (M2, Q.2) = some ((1 : Int32), Q') := by
      have h100 : (if (100000 : Int32) < ni r then (0 : Int32) else (1 : Int32)) = (1 : Int32) := if_neg (by rw [show (100000 : Int32) = ni 100000 from rfl, ni_lt (by omega) (by omega) (by omega) (by omega)]; omega)
      have h525 := f_525 (Q := (M2, Q.2)) h2 (L := L) (xs := xs) ha.1 ha.2 hb.1 hb.2 p3 p5
      unfold LW_law_J497 LW_law_J513
      by_cases q : r = 0
      · have hw : isw A b = true := p4.mp q
        rw [if_neg (by rw [q]; decide), (kc h2 b hb.1 hb.2).2.2.2.1, bo_s, hw, if_neg (by decide), h100]
        exact h525
      · rw [if_pos (by rw [show (0 : Int32) = ni 0 from rfl, ni_eq (by omega) (by omega) (by omega) (by omega)]; exact q), h100]
        exact h525
    unfold LW_law_J479
    rw [if_neg (by decide), k_deepest (M := M2) h2, b1_s]
    by_cases q : (dps A (nn A).toNat).1 < 0
    · rw [if_pos (by rw [show (0 : Int32) = ni 0 from rfl, ni_lt (by omega) (by omega) (by omega) (by omega)]; exact q)]
      exact h497
    · rw [if_neg (by rw [show (0 : Int32) = ni 0 from rfl, ni_lt (by omega) (by omega) (by omega) (by omega)]; exact q), ht (by omega), if_neg (by decide)]
      exact h497
  unfold LW_law_J404
  rw [show (30 : Int32) = ni 30 from rfl, e0, b1_s, f0, b1_s, show (31 : Int32) = ni 31 from rfl, e1, b1_s, f1, b1_s, if_neg (by decide), p1, bo_s]
  unfold LW_law_J447
  rw [if_neg (by decide), dp, b1_s]
  by_cases q : 0 ≤ (dps A (nn A).toNat).1
  · have hd := dw.resolve_left (fun z => by omega)
    rw [if_pos (by rw [show (0 : Int32) = ni 0 from rfl, ni_le (by omega) (by omega) (by omega) (by omega)]; exact q), b1_s]
    unfold LW_law_J472
    obtain ⟨t, M2, q1, q2, q3, q4, q5⟩ := k_amount p2 ha.1 ha.2 hd.1 hd.2.1
    rw [q1, bo_s]
    exact tail M2 t q2 (fun _ => q4.mpr hd.2.2) q3
  · rw [if_neg (by rw [show (0 : Int32) = ni 0 from rfl, ni_le (by omega) (by omega) (by omega) (by omega)]; exact q)]
    unfold LW_law_J472
    obtain ⟨t, M2, q1, q2, q3, q4, q5⟩ := k_amount p2 ha.1 ha.2 hb.1 hb.2
    rw [q1, bo_s]
    exact tail M2 t q2 (fun z => absurd z q) q3
theorem f_342 {Q : Mem2} {A : Ab} {nx : Int} (h : IC Q.1 A nx 4) {L : Nat} (hL : L ≤ 260) (xs : Nat → Int32) : ∃ Q', LW_law_J342 L xs (1 : Int32) (ni (nn A)) (LL_mix (dgv A (gI Q.1 94 1).toInt64) ((gI Q.1 0 4).toInt64)) (if ni (wta A) ≤ 0 then (0 : Int32) else (1 : Int32)) Q = some ((1 : Int32), Q') := by
  obtain ⟨b1, b2, b3, b4, b5⟩ := ni_bds h.2.1.1
  obtain ⟨M1, p1, p2, p3, p4⟩ := k_evaporate h (r := 100) (by omega)
  have e100 : (100 : Int).toNat = 100 := rfl
  rw [e100] at p1 p2
  have hs' := evS_rg h.2.1.1 100
  have hwb := h.2.1.2.1.1
  have hcn : cn 4 = 4 := rfl
  rw [hcn] at p2
  obtain ⟨M2, u1, u2, u3⟩ := k_undo p2 h.2.2.1 (by omega) h.2.1 p3
  have hwet : bI (0 < wta A) = bI (0 < evS 100 A) := by
    by_cases z : 0 < wta A
    · have := dry_one h.2.1.1 z
      have := evS_mono h.2.1.1 99
      rw [bI_t z, bI_t (by show 0 < evS (99 + 1) A; omega)]
    · have := dry_zero h.2.1.1 (show wta A = 0 by omega) 100
      rw [bI_f z, bI_f (by omega)]
  have hmix : LL_mix (dgv A (gI M2 94 1).toInt64) ((gI M2 0 4).toInt64) = LL_mix (dgv A (gI Q.1 94 1).toInt64) ((gI Q.1 0 4).toInt64) - (1 : Int64) := by
    rw [u3, p4, u2.2.2.2.2.2, h.2.2.2.2.2, ni_64 (by omega) (by omega), ni_64 (by omega) (by omega)]
    unfold LL_mix
    rw [Int64.sub_eq_add_neg, Int64.add_assoc]
    rfl
  unfold LW_law_J342
  rw [if_neg (by decide), show (100 : Int32) = ni 100 from rfl, p1, bo_s]
  unfold LW_law_J358
  rw [if_neg (by decide)]
  unfold LW_law_J374
  rw [bpos _ (by omega) (by omega), bpos _ (by omega) (by omega), hwet, if_neg (not_not_intro rfl), u1, bo_s, if_neg (by decide), k_digest u2, b1_s, hmix, if_neg (not_not_intro rfl)]
  exact f_404 (Q := (M2, Q.2)) u2 hL xs
theorem law_ok : LAWOK := by
  intro Ma M1 h1 h2 L xs hL
  have wf := G0_WFg (W := 1) (H := 1) (by omega) (by omega)
  obtain ⟨Ma', a1, a2, a3⟩ := c_lay (g := 2) (sz_w (w := 1) (Or.inl rfl)).1 (M := Mz) (W := 1) (H := 1) (by omega) (by omega)
  obtain rfl : Ma' = Ma := by
    have : some ((), Ma') = some ((), Ma) := a1.symm.trans h1
    exact (si2 this).2
  obtain ⟨M1', r1, r2, r3⟩ := c_restartW (w := 1) (Or.inl rfl) a2 wf (G0_lk 1 1)
  obtain rfl : M1' = M1 := (si2 (r1.symm.trans h2)).2
  have g1 : ∀ o q, (o = 0 ∨ o = 94) → gI M1' o q = 0 := fun o q ho => by
    rw [r3.gI (by omega), a3.gI (by omega)]
    rfl
  have I0 : IC M1' (fnd (G0 1 1)) 0 0 := ⟨r2, GI_fnd wf (G0_lk 1 1), by omega, by omega, g1 0 5 (Or.inl rfl), g1 0 4 (Or.inl rfl)⟩
  obtain ⟨Mo, A, nx, cnt, W, H, l1, l2, l3, l4, l5, l6⟩ := w_lays (Q := (M1', M1')) I0 hL xs
  obtain ⟨Mp, t1, t2, t3⟩ := w_tells (Q := (Mo, M1')) l2 I0 l3 l4 l5 (by rw [g1 94 1 (Or.inr rfl)]; decide)
  obtain ⟨Mq, q1, q2, q3⟩ := k_parse t2 l2.2.1.1.1 t3
  have ge := GE_XF l2.2.1.1.1 l3
  have gf : GE A (fnd (XF A)) := ge.trans (fnd_ge _)
  obtain ⟨n0, n1, n2, n3, n4, n5⟩ := kn l2
  have hb : bnn A = npt (XF A) := by rw [l2.2.1.2.1.2.1, ge.npt]
  have hnn : ni (wd A) * ni (hg A) = ni (nn A) := by rw [ni_mul]; rfl
  have ha := w_areBasins (Q := (Mo, Mq)) l2 q2 gf
  have hs' := w_sound (Q := (Mo, Mq)) l2
  have hT : TRN (Mo, Mq) (nn A) 0 := ⟨A, nx, cnt, l2, rfl, by omega, Or.inl l2.2.2.2.1.1⟩
  obtain ⟨Q2, k1, B, nx2, cnt2, k2, k3, k4, k5⟩ := t_loop hT hL xs
  have hc4 := k2.2.2.2.1
  have hc : cnt2 = 4 := by omega
  rw [hc] at k2
  obtain ⟨m0, m1, m2, m3, m4, m5⟩ := kn k2
  obtain ⟨Q3, e9⟩ := f_342 k2 hL xs
  refine ⟨Q3, ?_⟩
  unfold LW_law
  rw [l1, bq_s, if_neg (by decide), t1, bq_s, if_neg (by decide)]
  show b2 (LL_parse Mp) _ = _
  rw [q1, b2_s]
  show bo (LL_count (2 : Int32) Mo) _ = _
  rw [n2, bo_s, hb, if_neg (not_not_intro rfl), ha, bq_s, if_neg (by decide), hs', bq_s]
  unfold LW_law_J64
  show bo (LL_count (0 : Int32) Mo) _ = _
  rw [n0, bo_s, n1, bo_s, hnn]
  rw [show (if (1 : Int32) = 0 then (0 : Int32) else (1 : Int32)) = 1 from rfl, k1, bq_s, k_digest k2, b1_s, m4, bo_s, ← k3]
  exact e9
