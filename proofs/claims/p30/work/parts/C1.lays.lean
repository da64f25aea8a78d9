/-! C1.lays: the law's lays says 1, and what ground it lays -/
theorem and31 (v : Int32) : ∃ m : Int, (0 ≤ m ∧ m < 2147483648) ∧ v &&& (2147483647 : Int32) = ni m := by
  obtain ⟨m, hm, e⟩ := i32 (v &&& (2147483647 : Int32))
  refine ⟨m, ⟨?_, hm.2⟩, e⟩
  have h1 : (v &&& (2147483647 : Int32)).toBitVec.msb = false := by
    rw [Int32.toBitVec_and, BitVec.msb_and]
    have : (2147483647 : Int32).toBitVec.msb = false := by decide
    rw [this, Bool.and_false]
  have h2 : 0 ≤ (v &&& (2147483647 : Int32)).toInt := by
    show 0 ≤ (v &&& (2147483647 : Int32)).toBitVec.toInt
    rw [BitVec.toInt_eq_msb_cond, h1]
    simp
  rw [e, ni_toInt (by omega) (by omega)] at h2
  exact h2
theorem up_ok (v : Int32) {N : Int} (h0 : 1 ≤ N) (h1 : N ≤ 2000000) : ∃ r : Int, (0 ≤ r ∧ r < N) ∧ LW_up v (ni N) = some (ni r) := by
  obtain ⟨m, hm, e⟩ := and31 v
  refine ⟨m % N, ⟨Int.emod_nonneg _ (by omega), Int.emod_lt_of_pos _ (by omega)⟩, ?_⟩
  unfold LW_up
  rw [e, ni_irm (by omega) (by omega) (by omega) (by omega), ck_d]
  rw [show (0 : Int32) = ni 0 from rfl, ni_eq (by omega) (by omega) (by omega) (by omega)]
  omega
theorem cell_ok {L : Nat} (hL : L ≤ 260) (xs : Nat → Int32) {k : Int} (h0 : 0 ≤ k) (h1 : k ≤ 1000) : ∃ v, LW_cell L xs (ni k) = some v := by
  unfold LW_cell
  rw [show Int32.ofNat L = ni (L : Int) from rfl]
  by_cases z : (L : Int) ≤ k
  · rw [if_pos (by rw [ni_le (by omega) (by omega) (by omega) (by omega)]; exact z)]
    exact ⟨_, rfl⟩
  · rw [if_neg (by rw [ni_le (by omega) (by omega) (by omega) (by omega)]; exact z), ni_inb (by omega) (by omega), ck_d (by omega)]
    exact ⟨_, rfl⟩
/-- the ground as the law lays it -/
def GRD (A : Ab) (W H k : Int) : Prop := (wd A = W ∧ hg A = H) ∧ (∀ c, ¬ (0 ≤ c ∧ c < W * H) → ht A c = 0) ∧ (∀ c, grt A c = -1 ∧ gdn A c = -1) ∧ (∀ c, hs (drn A) c = true → 0 ≤ c ∧ c < W * H) ∧ ct (W * H).toNat (fun c => hs (drn A) c) ≤ k
theorem GRD_ge {A B : Ab} {W H k : Int} (g : GE A B) (h : GRD A W H k) : GRD B W H k := by
  obtain ⟨g1, g2, g3, g4, g5, g6⟩ := g
  obtain ⟨⟨h1, h2⟩, h3, h4, h5, h6⟩ := h
  refine ⟨⟨by rw [← g1]; exact h1, by rw [← g2]; exact h2⟩, fun c hc => by rw [show ht B c = ht A c from (congrFun g3 c).symm]; exact h3 c hc, fun c => ⟨by rw [show grt B c = grt A c from (congrFun g4 c).symm]; exact (h4 c).1, by rw [show gdn B c = gdn A c from (congrFun g5 c).symm]; exact (h4 c).2⟩, by rw [← g6]; exact h5, by rw [← g6]; exact h6⟩
theorem GRD_0 (W H : Int) : GRD (G0 W H) W H 0 := by
  refine ⟨⟨rfl, rfl⟩, fun c _ => rfl, fun c => ⟨rfl, rfl⟩, fun c hc => ?_, ?_⟩
  · have : hs 0 c = true := hc
    rw [hs_zero] at this
    exact absurd this (by simp)
  · rw [ct_zero (fun i _ => by show hs 0 (i : Int) = false; exact hs_zero _)]
    exact Int.le_refl _
theorem GRD_sc {A : Ab} {W H k s m : Int} (h : GRD A W H k) : ∀ i : Nat, (i : Int) ≤ W * H → GRD (scA A s m i) W H k := by
  intro i
  induction i with
  | zero => intro _; exact h
  | succ i ih =>
    intro hi
    obtain ⟨h1, h2, h3, h4, h5⟩ := ih (by omega)
    refine ⟨h1, fun c hc => ?_, h3, h4, h5⟩
    simp only [scA]
    show (if (1 : Nat) = 1 ∧ c = (i : Int) then _ else _) = _
    rw [if_neg (by omega)]
    exact h2 c hc
theorem GRD_dr {A : Ab} {W H k c : Int} (h : GRD A W H k) (c0 : 0 ≤ c) (c1 : c < W * H) (hWH : W * H ≤ 36) : GRD (aL A 0 0 (drn A ||| sbit c)) W H (k + 1) := by
  obtain ⟨h1, h2, h3, h4, h5⟩ := h
  have hd : ∀ d, hs (drn (aL A 0 0 (drn A ||| sbit c))) d = (hs (drn A) d || decide (d = c)) := by
    intro d
    show hs (drn A ||| sbit c) d = _
    rw [hs_or, hs_bit c0 (by omega)]
  refine ⟨h1, h2, h3, fun d hdd => ?_, ?_⟩
  · rw [hd, Bool.or_eq_true] at hdd
    rcases hdd with z | z
    · exact h4 d z
    · have := of_decide_eq_true z; omega
  · rw [ct_congr (q := fun d => hs (drn A) (d : Int) || decide ((d : Int) = c)) (fun i _ => hd i)]
    have one : ∀ n : Nat, ct n (fun d => hs (drn A) (d : Int) || decide ((d : Int) = c)) ≤ ct n (fun d => hs (drn A) (d : Int)) + (if c < n then 1 else 0) := by
      intro n
      induction n with
      | zero => simp [ct, sm]; split <;> omega
      | succ n ih =>
        rw [ct_succ, ct_succ]
        by_cases e : (n : Int) = c
        · have t1 : (if c < (n : Int) then (1 : Int) else 0) = 0 := if_neg (by omega)
          have t2 : (if c < ((n + 1 : Nat) : Int) then (1 : Int) else 0) = 1 := if_pos (by omega)
          rw [t1] at ih
          rw [t2]
          split <;> split <;> omega
        · rw [decide_eq_false e, Bool.or_false]
          have : (if c < (n : Int) then (1 : Int) else 0) ≤ (if c < ((n + 1 : Nat) : Int) then (1 : Int) else 0) := by split <;> split <;> omega
          omega
    have := one (W * H).toNat
    split at this <;> omega
theorem sea_drain {A : Ab} (hG : GI A) {c : Int} (c0 : 0 ≤ c) (c1 : c < nn A) (h : hs (drn A) c = true) : 0 < ct (nn A).toNat (fun c => decide (bas A c = -1)) := by
  have g := hG.1.1
  have e := ((con_end g 36 c c0 c1 (lower_36 g c0 c1)).2).mp ⟨c, con_self (n := 35) g c0 c1, h⟩
  have hb := hG.2.1.2.2.1 c c0 c1
  refine ct_pos (p := fun c => decide (bas A (c : Int) = -1)) (i := c.toNat) (by omega) ?_
  rw [Int.toNat_of_nonneg c0]
  exact decide_eq_true (hb.trans e)
theorem wat_CH {A B : Ab} (hA : GI A) (hB : WFg B) (hn : nn B = nn A) : wat (CH A B) ≤ wat A := by
  obtain ⟨p1, p2, p3, p4⟩ := CH_pre hA.1 hn
  have hwt := wat_fnd B
  have h1 := hA.2.1.1
  have r := rep_ok (f := npl A) (fnd_WF hB) (lown A 36).toNat (fun i hi => p3 i (by omega)) (by omega)
  have := r.2.1
  show wat (rep (npl A) (npv A) (lown A 36).toNat (fnd B)) ≤ _
  omega
theorem l_134 {Q : Mem2} {A : Ab} {nx cnt : Int} (h : IC Q.1 A nx cnt) {L : Nat} {xs : Nat → Int32} (v2 v3 v5 : Int32) (d : Bool) (hd : d = true → 0 < ct (nn A).toNat (fun c => decide (bas A c = -1))) : LW_lays_L88_J134 L xs v2 v3 (1 : Int32) v5 (bI (d = true)) Q = some (.inl ((1 : Int32), v5 + (1 : Int32)), Q) := by
  obtain ⟨b1, b2, b3, b4, b5⟩ := ni_bds h.2.1.1
  obtain ⟨n0, n1, n2, n3, n4, n5⟩ := kn h
  unfold LW_lays_L88_J134
  rw [if_neg (by decide)]
  simp only [bB0]
  cases d with
  | false => rw [if_pos rfl]
  | true =>
    have := hd rfl
    rw [if_neg (by simp), n5, bo_s, if_neg (by rw [show (0 : Int32) = ni 0 from rfl, ni_le (by omega) (by omega) (by omega) (by omega)]; omega)]
theorem w_lays {Q : Mem2} {A0 : Ab} {nx cnt : Int} (h : IC Q.1 A0 nx cnt) {L : Nat} (hL : L ≤ 260) (xs : Nat → Int32) : ∃ M' A nx' cnt' W H, LW_lays L xs Q = some ((1 : Int32), (M', Q.2)) ∧ IC M' A nx' cnt' ∧ GRD A W H 3 ∧ (1 ≤ W ∧ W ≤ 5) ∧ (1 ≤ H ∧ H ≤ 5) ∧ wat A ≤ 0 := by
  obtain ⟨s0, e0⟩ := cell_ok hL xs (k := 0) (by omega) (by omega)
  obtain ⟨s1, e1⟩ := cell_ok hL xs (k := 1) (by omega) (by omega)
  obtain ⟨s2, e2⟩ := cell_ok hL xs (k := 2) (by omega) (by omega)
  obtain ⟨s3, e3⟩ := cell_ok hL xs (k := 3) (by omega) (by omega)
  obtain ⟨w, hw, f0⟩ := up_ok s0 (N := 5) (by omega) (by omega)
  obtain ⟨z, hz, f1⟩ := up_ok s1 (N := 5) (by omega) (by omega)
  obtain ⟨u, hu, f2⟩ := up_ok s2 (N := 1000000) (by omega) (by omega)
  have hb : ∃ v : Int, (0 ≤ v ∧ v ≤ 99) ∧ LW_up s3 (if ¬ (s3 &&& (1 : Int32)) = 0 then (100 : Int32) else (8 : Int32)) = some (ni v) := by
    by_cases q : (s3 &&& (1 : Int32)) = 0
    · rw [if_neg (not_not_intro q)]
      obtain ⟨v, hv, f⟩ := up_ok s3 (N := 8) (by omega) (by omega)
      exact ⟨v, by omega, f⟩
    · rw [if_pos q]
      obtain ⟨v, hv, f⟩ := up_ok s3 (N := 100) (by omega) (by omega)
      exact ⟨v, by omega, f⟩
  obtain ⟨v, hv, f3⟩ := hb
  have hWH : (1 + w) * (1 + z) ≤ 25 := by
    have := Int.mul_le_mul (show 1 + w ≤ 5 by omega) (show 1 + z ≤ 5 by omega) (by omega) (by omega)
    omega
  have hWH1 : 1 ≤ (1 + w) * (1 + z) := by
    have := Int.mul_le_mul (show 1 ≤ 1 + w by omega) (show 1 ≤ 1 + z by omega) (by omega) (by omega)
    omega
  obtain ⟨M1, p1, p2⟩ := k_begin h (W := 1 + w) (H := 1 + z) (by omega) (by omega)
  have hn1 : nn (fnd (G0 (1 + w) (1 + z))) = (1 + w) * (1 + z) := by rw [fnd_nn, G0_nn]
  obtain ⟨M2, r1, r2, r3⟩ := k_random p2 (s := u) (v := v) (by omega) hv
  have g1 : GRD (fnd (G0 (1 + w) (1 + z))) (1 + w) (1 + z) 0 := GRD_ge (fnd_ge _) (GRD_0 _ _)
  have g2 := GRD_ge r3 (GRD_sc (s := u) (m := v + 1) g1 (nn (fnd (G0 (1 + w) (1 + z)))).toNat (by omega))
  have hw0 : wat (CH (fnd (G0 (1 + w) (1 + z))) (scA (fnd (G0 (1 + w) (1 + z))) u (v + 1) (nn (fnd (G0 (1 + w) (1 + z)))).toNat)) ≤ 0 := by
    have := wat_CH p2.2.1 (scA_WFg (A := fnd (G0 (1 + w) (1 + z))) (fnd_WFg (G0_WFg (by omega) (by omega))) (s := u) (m := v + 1) (by omega) (nn (fnd (G0 (1 + w) (1 + z)))).toNat) (nb_of (show (scA (fnd (G0 (1 + w) (1 + z))) u (v + 1) (nn (fnd (G0 (1 + w) (1 + z)))).toNat).1 0 = (fnd (G0 (1 + w) (1 + z))).1 0 from (scA_A _ _ _ _).2 0 (by decide))).2
    rw [wat_fnd] at this
    exact this
  -- the loop
  obtain ⟨r, Q3, l1, rfl, ⟨A, nx', cnt', i1, i2, iw⟩, l3⟩ := lpQ_to (f := fun s M9 => LW_lays_L88 L xs (ni (1 + w)) (ni (1 + z)) s.1 s.2 M9) 3 (by omega) (fun i s M => s = ((1 : Int32), ni (i : Int)) ∧ (∃ A nx' cnt', IC M.1 A nx' cnt' ∧ GRD A (1 + w) (1 + z) i ∧ wat A ≤ 0) ∧ M.2 = Q.2) (fun r M => r = (1 : Int32) ∧ (∃ A nx' cnt', IC M.1 A nx' cnt' ∧ GRD A (1 + w) (1 + z) 3 ∧ wat A ≤ 0) ∧ M.2 = Q.2) (by
    rintro i hi s M ⟨rfl, ⟨A, nx', cnt', i1, i2, iw⟩, i3⟩
    have hnn : nn A = (1 + w) * (1 + z) := by show wd A * hg A = _; rw [i2.1.1, i2.1.2]
    have hone : ni (i : Int) + (1 : Int32) = ni ((i + 1 : Nat) : Int) := by rw [show (1 : Int32) = ni 1 from rfl, ni_add]; rfl
    obtain ⟨x1, ex1⟩ := cell_ok hL xs (k := 4 + (i : Int)) (by omega) (by omega)
    have kk : GRD A (1 + w) (1 + z) ((i + 1 : Nat) : Int) := ⟨i2.1, i2.2.1, i2.2.2.1, i2.2.2.2.1, Int.le_trans i2.2.2.2.2 (by omega)⟩
    unfold LW_lays_L88
    dsimp only
    rw [if_neg (by rw [show (3 : Int32) = ni 3 from rfl, ni_le (by omega) (by omega) (by omega) (by omega)]; omega), show (4 : Int32) = ni 4 from rfl, ni_add, ex1, b1_s]
    by_cases q : (x1 &&& (3 : Int32)) = 0
    · rw [if_neg (not_not_intro q), ni_mul]
      obtain ⟨c, hc, fc⟩ := up_ok (isr x1 (2 : Int32)) (N := (1 + w) * (1 + z)) (by omega) (by omega)
      obtain ⟨M4, d1, d2, d3⟩ := k_setDrain i1 (c := c) (by omega) (by omega)
      have hge := GRD_ge d3 (GRD_dr i2 (c := c) (by omega) (by omega) (by omega))
      have hn4 : nn (CH A (aL A 0 0 (drn A ||| sbit c))) = (1 + w) * (1 + z) := by show wd _ * hg _ = _; rw [hge.1.1, hge.1.2]
      rw [fc, b1_s, d1, bo_s]
      refine ⟨((1 : Int32), ni (i : Int) + (1 : Int32)), (M4, M.2), ?_, ?_, ⟨_, _, _, d2, hge, Int.le_trans (wat_CH i1.2.1 (show WFg (aL A 0 0 (drn A ||| sbit c)) from i1.2.1.1.1) rfl) iw⟩, i3⟩
      · have e9 : (if bI (hs (drn A) c = true) = 0 then (0 : Int32) else (1 : Int32)) = bI (hs (drn A) c = true) := by
          cases hs (drn A) c <;> decide
        rw [e9]
        refine l_134 (Q := (M4, M.2)) d2 _ _ _ _ (fun q => sea_drain d2.2.1 (c := c) (by omega) (by omega) ?_)
        have : hs (drn (aL A 0 0 (drn A ||| sbit c))) c = true := by
          show hs (drn A ||| sbit c) c = true
          rw [hs_or, q]; rfl
        rw [← d3.2.2.2.2.2]
        exact this
      · rw [hone]
    · rw [if_pos q]
      unfold LW_lays_L88_J133
      have := l_134 i1 (L := L) (xs := xs) (ni (1 + w)) (ni (1 + z)) (ni (i : Int)) false (fun q => absurd q (by simp))
      rw [show bI (false = true) = (0 : Int32) from rfl] at this
      exact ⟨_, _, this, by rw [hone], ⟨A, nx', cnt', i1, kk, iw⟩, i3⟩) (by
    rintro s M ⟨rfl, ⟨A, nx', cnt', i1, i2, iw⟩, i3⟩
    refine ⟨_, _, ?_, rfl, ⟨A, nx', cnt', i1, i2, iw⟩, i3⟩
    unfold LW_lays_L88
    dsimp only
    rw [if_pos (by decide)]) (s := ((1 : Int32), (0 : Int32))) (M := (M2, Q.2)) ⟨rfl, ⟨_, _, _, r2, g2, hw0⟩, rfl⟩
  refine ⟨Q3.1, A, nx', cnt', 1 + w, 1 + z, ?_, i1, i2, by omega, by omega, iw⟩
  unfold LW_lays
  rw [show (0 : Int32) = ni 0 from rfl, e0, b1_s, show (5 : Int32) = ni 5 from rfl, f0, b1_s, show (1 : Int32) = ni 1 from rfl, e1, b1_s, f1, b1_s, ni_add, ni_add, p1, bo_s, ni_mul, if_neg (not_not_intro rfl), show (2 : Int32) = ni 2 from rfl, e2, b1_s, show (1000000 : Int32) = ni 1000000 from rfl, f2, b1_s, show (3 : Int32) = ni 3 from rfl, e3, b1_s, b1_s]
  unfold LW_lays_J69
  rw [show ni 1 = (1 : Int32) from rfl, show ni 0 = (0 : Int32) from rfl, f3, b1_s, r1, bo_s]
  have hg := scA_WFg (A := fnd (G0 (1 + w) (1 + z))) (fnd_WFg (G0_WFg (by omega) (by omega))) (s := u) (m := v + 1) (by omega) (nn (fnd (G0 (1 + w) (1 + z)))).toNat
  have hp := npt_bd hg
  have hp2 := nn_bd hg
  rw [if_neg (by rw [show (0 : Int32) = ni 0 from rfl, ni_lt (by omega) (by omega) (by omega) (by omega)]; omega)]
  unfold LW_lays_J83
  rw [l1, bq_s]
  show some ((1 : Int32) &&& 1, Q3) = some (1, (Q3.1, Q.2))
  rw [← l3]
  rfl
