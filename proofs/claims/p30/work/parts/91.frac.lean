/-! doubles: a fraction of small numbers, and their order -/
def frac (p q : Nat) : UInt64 := FP.Core.of64 (FP.Core.roundRatio FP.Core.b64 false p q 0)
theorem frac_val {p q : Nat} (hq : 0 < q) : FP.Core.val64 (frac p q) = FP.Core.roundRatio FP.Core.b64 false p q 0 :=
  FP.Core.val64_of64 (FP.Core.roundRatio_fits FP.Core.good_b64 false p hq 0)
theorem frac_nn {p q : Nat} (hq : 0 < q) : FP.Core.val64 (frac p q) ≠ .nan := by
  rw [frac_val hq]; exact FP.Core.roundRatio_ne_nan _ _ _ _ _
theorem frac_cg {p q p' q' : Nat} (hq : 0 < q) (hq' : 0 < q') (h : p * q' = p' * q) : frac p q = frac p' q' := by
  unfold frac
  rw [FP.Core.roundRatio_congr (f := FP.Core.b64) (s := false) (e := 0) (e' := 0) hq hq' (by simpa using h)]
theorem nn64_of {r : UInt64} (h : FP.Core.val64 r ≠ .nan) : nn64 r = true := by
  unfold nn64
  rw [decide_eq_true_iff, UInt64.le_iff_toNat_le, FP.Core.mask_toNat]
  exact (FP.Core.ne_nan r).mp h
theorem dcl_self {r : UInt64} (h : FP.Core.val64 r ≠ .nan) : dcl r r = 0 := by
  have e : FP.dcmp r r = some .eq := FP.Core.dcmp_refl ((FP.Core.notNaN_iff r).mpr h)
  unfold dcl
  rw [e]
  rfl
theorem frac_zval {p q : Nat} (hq : 0 < q) : FP.Core.zval FP.Core.b64 (FP.Core.val64 (frac p q)) = (FP.Core.zmag FP.Core.b64 (FP.Core.roundRatio FP.Core.b64 false p q 0) : Int) := by
  rw [frac_val hq]
  unfold FP.Core.zval
  rw [FP.Core.sgn_roundRatio]
  rfl
theorem vee (c : Nat) (hc : c < 9007199254740992) : ∃ V, FP.Core.fits FP.Core.b64 V ∧ V ≠ .nan ∧ FP.Core.zmag FP.Core.b64 V = c * 2 ^ 1062 := by
  obtain ⟨c', q', h1, h2⟩ := FP.Core.round_exact FP.Core.good_b64 false (c := c) (q := -12) (show c < 2 ^ 53 by omega) (by decide +kernel) (by decide +kernel)
  refine ⟨.fin false c' q', by rw [← h1]; exact FP.Core.round_fits FP.Core.good_b64 _, (fun z => nomatch z), ?_⟩
  show FP.Core.inUnits c' q' FP.Core.b64.qmin = _
  rw [h2]
  rfl
theorem frac_lt {p q p' q' : Nat} (hq : 0 < q) (hq1 : q ≤ 36) (hq' : 0 < q') (hq1' : q' ≤ 36) (hp : p ≤ 2000000) (h : p * q' < p' * q) : FP.dcmp (frac p q) (frac p' q') = some .lt := by
  refine FP.Core.dcmp_lt.mpr ⟨frac_nn hq, frac_nn hq', ?_⟩
  rw [frac_zval hq, frac_zval hq']
  have hc : 4096 * p / q ≤ 4096 * p := Nat.div_le_self _ _
  obtain ⟨V, v1, v2, v3⟩ := vee (4096 * p / q + 1) (by omega)
  obtain ⟨U, u1, u2, u3⟩ := vee (4096 * p / q + 2) (by omega)
  have d1 : 4096 * p < (4096 * p / q + 1) * q := by
    have := Nat.lt_mul_div_succ (4096 * p) hq
    rw [Nat.mul_comm q] at this
    exact this
  have d2 : (4096 * p / q + 2) * q' ≤ 4096 * p' := by
    have d3 : 4096 * p / q * q ≤ 4096 * p := Nat.div_mul_le_self _ _
    have d4 : q * q' ≤ 36 * 36 := Nat.mul_le_mul hq1 hq1'
    refine Nat.le_of_mul_le_mul_right ?_ hq
    calc (4096 * p / q + 2) * q' * q = (4096 * p / q * q) * q' + 2 * (q * q') := by rw [Nat.add_mul, Nat.add_mul, Nat.mul_right_comm, Nat.mul_assoc 2 q' q, Nat.mul_comm q' q]
      _ ≤ 4096 * p * q' + 2 * (36 * 36) := Nat.add_le_add (Nat.mul_le_mul_right _ d3) (Nat.mul_le_mul_left _ d4)
      _ ≤ 4096 * p' * q := by rw [Nat.mul_assoc, Nat.mul_assoc]; omega
  have h0 : FP.Core.b64.qmin ≤ 0 := by decide +kernel
  have e74 : ∀ n : Nat, FP.Core.inUnits n 0 FP.Core.b64.qmin = n * 4096 * 2 ^ 1062 := fun n => by
    show n * 2 ^ 1074 = _
    rw [Nat.mul_assoc, show (2 : Nat) ^ 1074 = 4096 * 2 ^ 1062 by rw [show (4096 : Nat) = 2 ^ 12 by decide, ← Nat.pow_add]]
  have e0 : (FP.Core.b64.qmin - FP.Core.b64.qmin).toNat = 0 := by decide +kernel
  have a1 := FP.Core.zmag_roundRatio_le (s := false) (A := p) (e := 0) FP.Core.good_b64 hq v1 v2 (Int.le_refl _) h0 (by
    rw [e0, v3, e74, Nat.pow_zero, Nat.mul_one, Nat.mul_right_comm (4096 * p / q + 1)]
    refine Nat.mul_le_mul_right _ ?_
    omega)
  have a2 := FP.Core.zmag_roundRatio_ge (s := false) (A := p') (e := 0) FP.Core.good_b64 hq' u1 (Int.le_refl _) h0 (by
    rw [e0, u3, e74, Nat.pow_zero, Nat.mul_one, Nat.mul_right_comm (4096 * p / q + 2)]
    refine Nat.mul_le_mul_right _ ?_
    omega)
  have a3 : (4096 * p / q + 1) * 2 ^ 1062 < (4096 * p / q + 2) * 2 ^ 1062 := Nat.mul_lt_mul_of_pos_right (by omega) (Nat.two_pow_pos _)
  rw [v3] at a1
  rw [u3] at a2
  exact Int.ofNat_lt.mpr (Nat.lt_of_le_of_lt a1 (Nat.lt_of_lt_of_le a3 a2))
theorem dcl_frac {p q p' q' : Nat} (hq : 0 < q) (hq1 : q ≤ 36) (hq' : 0 < q') (hq1' : q' ≤ 36) (hp : p ≤ 2000000) (hp' : p' ≤ 2000000) : (dcl (frac p q) (frac p' q') ≤ 0) = (p * q' ≤ p' * q) := by
  rcases Nat.lt_trichotomy (p * q') (p' * q) with z | z | z
  · have e := frac_lt hq hq1 hq' hq1' hp z
    unfold dcl
    rw [e]
    exact propext ⟨fun _ => Nat.le_of_lt z, fun _ => by decide⟩
  · rw [frac_cg hq hq' z, dcl_self (frac_nn hq')]
    exact propext ⟨fun _ => Nat.le_of_eq z, fun _ => by decide⟩
  · have e := frac_lt hq' hq1' hq hq1 hp' z
    have e2 : FP.dcmp (frac p q) (frac p' q') = some .gt := by
      have := FP.Core.dcmp_swap (frac p' q') (frac p q)
      rw [show FP.Core.dcmp (frac p' q') (frac p q) = some .lt from e] at this
      exact this
    unfold dcl
    rw [e2]
    exact propext ⟨fun y => absurd y (by decide), fun y => absurd z (by omega)⟩
theorem frac_zero : FP.dconst0 = frac 0 1 := by
  have h : FP.Core.roundRatio FP.Core.b64 false 0 1 0 = .fin false 0 FP.Core.b64.qmin := rfl
  unfold frac
  rw [h]
  decide +kernel
theorem l2d_nat {p : Nat} (hp : p < 9007199254740992) : ∃ c q, FP.Core.val64 (FP.Core.l2d (nl p)) = .fin false c q ∧ c * 2 ^ q.toNat = p * 2 ^ (-q).toNat := by
  have hi : (nl p).toInt = p := nl_toInt (by omega) (by omega)
  have h1 := FP.Core.l2d_int (a := nl p) (by rw [hi]; show p ≤ 2 ^ 53; omega)
  have h2 : FP.Core.val64 (FP.Core.l2d (nl p)) = FP.Core.roundRatio FP.Core.b64 (decide ((nl p).toInt < 0)) (nl p).toInt.natAbs 1 0 := FP.Core.val64_l2d (nl p)
  have h3 : decide ((nl p).toInt < 0) = false := by rw [hi]; simp
  rw [h3] at h2
  obtain ⟨s, c, q, h⟩ := FP.Core.l2d_fin (nl p)
  have h4 := congrArg FP.Core.sgn h2
  rw [FP.Core.sgn_roundRatio, h] at h4
  have h5 : s = false := h4
  subst h5
  refine ⟨c, q, h, ?_⟩
  unfold FP.Core.DInt at h1
  rw [h, hi] at h1
  have h6 : ((c * 2 ^ q.toNat : Nat) : Int) = (p : Int) * ((2 ^ (-q).toNat : Nat) : Int) := h1
  exact Int.ofNat_inj.mp (by rw [h6, ← Int.natCast_mul])
theorem frac_ddiv {p q : Nat} (hp : p < 9007199254740992) (hq : 0 < q) (hq1 : q < 9007199254740992) : FP.ddiv (FP.l2d (nl p)) (FP.l2d (nl q)) = frac p q := by
  obtain ⟨c, e, c1, c2⟩ := l2d_nat hp
  obtain ⟨d, r, d1, d2⟩ := l2d_nat hq1
  have hd : d ≠ 0 := by
    intro z
    rw [z, Nat.zero_mul] at d2
    have := Nat.mul_pos hq (Nat.two_pow_pos (-r).toNat)
    omega
  have hv : FP.Core.val64 (FP.Core.ddiv (FP.Core.l2d (nl p)) (FP.Core.l2d (nl q))) = FP.Core.roundRatio FP.Core.b64 false c d (e - r) := by
    rw [FP.Core.val64_ddiv, c1, d1]
    show (if d = 0 then _ else FP.Core.roundRatio FP.Core.b64 false c d (e - r)) = _
    rw [if_neg hd]
  have hk : FP.Core.roundRatio FP.Core.b64 false c d (e - r) = FP.Core.roundRatio FP.Core.b64 false p q 0 := by
    refine FP.Core.roundRatio_congr (Nat.pos_of_ne_zero hd) hq ?_
    have k1 : (e - r - 0).toNat + (-e).toNat + r.toNat = (0 - (e - r)).toNat + e.toNat + (-r).toNat := by omega
    refine Nat.eq_of_mul_eq_mul_right (Nat.mul_pos (Nat.two_pow_pos (-e).toNat) (Nat.two_pow_pos r.toNat)) ?_
    calc c * q * 2 ^ (e - r - 0).toNat * (2 ^ (-e).toNat * 2 ^ r.toNat) = c * q * 2 ^ ((e - r - 0).toNat + (-e).toNat + r.toNat) := by rw [Nat.pow_add, Nat.pow_add]; ac_rfl
      _ = c * q * 2 ^ ((0 - (e - r)).toNat + e.toNat + (-r).toNat) := by rw [k1]
      _ = (c * 2 ^ e.toNat) * (q * 2 ^ (-r).toNat) * 2 ^ (0 - (e - r)).toNat := by rw [Nat.pow_add, Nat.pow_add]; ac_rfl
      _ = (p * 2 ^ (-e).toNat) * (d * 2 ^ r.toNat) * 2 ^ (0 - (e - r)).toNat := by rw [c2, d2]
      _ = p * d * 2 ^ (0 - (e - r)).toNat * (2 ^ (-e).toNat * 2 ^ r.toNat) := by ac_rfl
  show FP.Core.ddiv (FP.Core.l2d (nl p)) (FP.Core.l2d (nl q)) = frac p q
  have hn : FP.Core.val64 (FP.Core.ddiv (FP.Core.l2d (nl p)) (FP.Core.l2d (nl q))) ≠ .nan := by
    rw [hv]; exact FP.Core.roundRatio_ne_nan _ _ _ _ _
  rw [← FP.Core.of64_val64 hn, hv, hk]
  rfl
/-- a fraction that is written in its lowest terms is the same double -/
theorem frac_low {a b : Int} (ha : 0 ≤ a) (ha1 : a ≤ 2000000) (hb : 0 < b) (hb1 : b ≤ 36) : FP.ddiv (FP.l2d (nl (a / (Int.gcd a b : Nat)))) (FP.l2d (nl (b / (Int.gcd a b : Nat)))) = frac a.toNat b.toNat ∧ 0 < b / (Int.gcd a b : Nat) := by
  have hg := gcd_pos (x := a) hb
  obtain ⟨u, hu⟩ := Int.gcd_dvd_left a b
  obtain ⟨v, hv⟩ := Int.gcd_dvd_right a b
  generalize ((Int.gcd a b : Nat) : Int) = g at hg hu hv
  have e1 : a / g = u := by rw [hu]; exact Int.mul_ediv_cancel_left u (by omega)
  have e2 : b / g = v := by rw [hv]; exact Int.mul_ediv_cancel_left v (by omega)
  have hv0 : 0 < v := by
    rcases Int.lt_or_le 0 v with z | z
    · exact z
    · have := Int.mul_nonpos_of_nonneg_of_nonpos (Int.le_of_lt hg) z
      omega
  have hu0 : 0 ≤ u := by
    rcases Int.lt_or_le u 0 with z | z
    · have := Int.mul_neg_of_pos_of_neg hg z
      omega
    · exact z
  have hua : u ≤ a := by
    have := Int.mul_le_mul_of_nonneg_right (show (1 : Int) ≤ g by omega) hu0
    omega
  have hvb : v ≤ b := by
    have := Int.mul_le_mul_of_nonneg_right (show (1 : Int) ≤ g by omega) (Int.le_of_lt hv0)
    omega
  rw [e1, e2]
  refine ⟨?_, hv0⟩
  obtain ⟨m, rfl⟩ : ∃ m : Nat, u = m := ⟨u.toNat, by omega⟩
  obtain ⟨n, rfl⟩ : ∃ n : Nat, v = n := ⟨v.toNat, by omega⟩
  rw [frac_ddiv (by omega) (by omega) (by omega)]
  refine frac_cg (by omega) (by omega) ?_
  refine Int.ofNat_inj.mp ?_
  rw [Int.natCast_mul, Int.natCast_mul, Int.toNat_of_nonneg ha, Int.toNat_of_nonneg (Int.le_of_lt hb), hu, hv]
  ac_rfl
