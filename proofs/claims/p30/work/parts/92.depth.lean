/-! depth and deepest -/
def dN (A : Ab) (c : Int) : Int := vol A (lk A c) + wS A (lk A c) - wB A (lk A c) * ht A c
def dD (A : Ab) (c : Int) : Int := wB A (lk A c)
def dep (A : Ab) (c : Int) : UInt64 := if isw A c = true then frac (dN A c).toNat (dD A c).toNat else FP.dconst0
theorem isw_num {M : Mem} {A : Ab} (hM : RM M A) (hW : WF A) {c : Int} (c0 : 0 ≤ c) (c1 : c < nn A) (hi : isw A c = true) : (0 ≤ lk A c ∧ lk A c < 71 ∧ msk A (lk A c) ≠ 0) ∧ 0 < vol A (lk A c) ∧ (0 < dN A c ∧ dN A c ≤ 1300000) ∧ (0 < dD A c ∧ dD A c ≤ 36) := by
  have hn := nn_bd hW.1
  have hne : lk A c ≠ -1 := by
    intro z
    unfold isw at hi
    rw [z] at hi
    simp at hi
  have hw : wt A (lk A c) c = true := by
    unfold isw at hi
    simp only [Bool.and_eq_true] at hi
    exact hi.2
  rcases lk_rg hW.2.1 c with z | ⟨k0, k1, k2, k3, k4⟩
  · exact absurd z hne
  have hvb := (hW.2.1.1 (lk A c) k0 (by omega)).2.2.2
  have hV : 0 < vol A (lk A c) := by
    rcases Int.lt_or_le 0 (vol A (lk A c)) with z | z
    · exact z
    · have := dry_none (A := A) (k := lk A c) (by omega) c
      rw [this] at hw
      exact absurd hw (by simp)
  obtain ⟨M', x, y, _, _, _, _, hL⟩ := e_levels hM hW.1 hW.2.1 k0 (show lk A c < 72 by omega) k4
  have hh := LV_wet hW.1 hvb.1 hL c0 c1 k3
  obtain ⟨e1, e2, e3⟩ := LV_pos hW.1 hV hL
  have hd : nd A (msk A (lk A c)) (ht A c) < vol A (lk A c) := by
    unfold wt at hw
    rw [k3, Bool.true_and] at hw
    exact of_decide_eq_true hw
  have hlt : y * ht A c < x := hh.mpr hd
  have sb := wS_bd hW.1 (lk A c)
  have bb := wB_bd hW.1 (lk A c)
  have hb := ht_bd hW.1 c0 (show c < 36 by omega)
  have hm : 0 ≤ wB A (lk A c) * ht A c := Int.mul_nonneg bb.1 hb.1
  unfold dN dD
  rw [e1, e2] at hlt
  rw [e2] at e3
  exact ⟨⟨k0, k1, k4⟩, hV, ⟨by omega, by omega⟩, e3, bb.2⟩
theorem c_depthValue {Mc M : Mem} {A : Ab} (hC : RW 1 Mc A) (hM : RM M A) (hW : WF A) {c : Int} (c0 : 0 ≤ c) (c1 : c < nn A) : LL_depthValue (ni c) Mc = some (dep A c) := by
  have hn := nn_bd hW.1
  have zl := (sz_w (w := 1) (Or.inl rfl)).2.2.1
  have hk : fAtI 37 (ni c) Mc = ni (lk A c) := hC.1.2.2.2.2.2 c c0 (by omega)
  unfold LL_depthValue dep
  rw [hk]
  by_cases hi : isw A c = true
  · obtain ⟨⟨k0, k1, k2⟩, hV, hN, hD⟩ := isw_num hM hW c0 c1 hi
    obtain ⟨x, x1, x2, x3, x4⟩ := c_wetOne hC hW k0 k1 k2
    have f23 : fAtI 23 (ni (lk A c)) Mc = ni (vol A (lk A c)) := (hC.1.2.2.2.2.1 (lk A c) k0 k1 k2).1
    have f3 : fAtI 3 (ni c) Mc = ni (ht A c) := hC.1.1.2.1 c c0 (by omega)
    have hx : hs x c = true := by
      rw [x2]
      unfold isw at hi
      simp only [Bool.and_eq_true] at hi
      exact hi.2
    have hl := frac_low (a := dN A c) (b := dD A c) (by omega) (by omega) hD.1 hD.2
    have hg := gcd_pos (x := dN A c) hD.1
    have hgl := gcd_le (x := dN A c) hD.1
    have q1 : dN A c / (Int.gcd (dN A c) (dD A c) : Nat) ≤ dN A c := Int.ediv_le_self _ (by omega)
    have q2 : dD A c / (Int.gcd (dN A c) (dD A c) : Nat) ≤ dD A c := Int.ediv_le_self _ (by omega)
    have q3 : 0 ≤ dN A c / (Int.gcd (dN A c) (dD A c) : Nat) := Int.ediv_nonneg (by omega) (by omega)
    rw [x1, b1_s, LL_has_eq x c0 (by omega), if_pos hi]
    simp only [bI_z]
    rw [if_pos (fun z => z hx), x4, b1_s, f23, JL_bitCount_eq, x3, f3, ni_add, ni_mul, ni_sub]
    rw [show ni (vol A (lk A c) + wS A (lk A c) - wB A (lk A c) * ht A c) = ni (dN A c) from rfl, show ni (wB A (lk A c)) = ni (dD A c) from rfl]
    rw [c_commonDivisor (by omega) (by omega) hD.1 hD.2, b1_s, c_reduced (x := dD A c) (by omega) (by omega) hg (by omega), b1_s]
    simp (disch := omega) only [show (0 : Int32) = ni 0 from rfl, ni_le]
    rw [if_neg (by omega), c_reduced (x := dN A c) (by omega) (by omega) hg (by omega), b1_s]
    have e1 : FP.i2d (ni (dN A c / (Int.gcd (dN A c) (dD A c) : Nat))) = FP.l2d (nl (dN A c / (Int.gcd (dN A c) (dD A c) : Nat))) := by
      have := FP.Core.i2d_l2d (ni (dN A c / (Int.gcd (dN A c) (dD A c) : Nat)))
      rw [ni_64 (by omega) (by omega)] at this
      exact this
    have e2 : FP.i2d (ni (dD A c / (Int.gcd (dN A c) (dD A c) : Nat))) = FP.l2d (nl (dD A c / (Int.gcd (dN A c) (dD A c) : Nat))) := by
      have := FP.Core.i2d_l2d (ni (dD A c / (Int.gcd (dN A c) (dD A c) : Nat)))
      rw [ni_64 (by omega) (by omega)] at this
      exact this
    rw [e1, e2, hl.1, nn64_of (frac_nn (by omega))]
    rfl
  · have hr := lk_rg hW.2.1 c
    obtain ⟨x, x1, x2⟩ := c_wetLake (l := 20) (g := 2) (k := lk A c) hC.1.1 hC.1.2.1 hC.1.2.2.2 hW.1 hW.2.1 zl (by omega) (by omega) (by
      rcases hr with e | ⟨_, _, _, _, e⟩
      · exact Or.inl e
      · exact Or.inr e)
    have hx : ¬ hs x c = true := by
      rw [x2]
      exact hi
    rw [x1, b1_s, LL_has_eq x c0 (by omega), if_neg hi]
    simp only [bI_z]
    rw [if_neg (fun z => z hx)]
theorem e_num {M : Mem} {A : Ab} (hM : RM M A) (hW : WF A) {c : Int} (c0 : 0 ≤ c) (c1 : c < nn A) (hi : isw A c = true) : MD_lakeOf (ni c) M = some (ni (lk A c)) ∧ ∃ M', MD_levels (ni (lk A c)) M = some ((), M') ∧ FrL M M' ∧ MD_height (ni c) M' = some (ni (ht A c)) ∧ gL M' 0 13 - gL M' 0 14 * (ni (ht A c)).toInt64 = nl (dN A c) ∧ gL M' 0 14 = nl (dD A c) := by
  have hn := nn_bd hW.1
  obtain ⟨⟨k0, k1, k2⟩, hV, hN, hD⟩ := isw_num hM hW c0 c1 hi
  obtain ⟨M', x, y, p1, p2, p3, p4, hL⟩ := e_levels hM hW.1 hW.2.1 k0 (show lk A c < 72 by omega) k2
  obtain ⟨e1, e2, e3⟩ := LV_pos hW.1 hV hL
  have hb := ht_bd hW.1 c0 (show c < 36 by omega)
  refine ⟨e_lakeOf hM hW.2.1 c0 (by omega), M', p1, p2, e_height (p2.RM hM) c0 (by omega), ?_, ?_⟩
  · rw [p3, p4, ni_64 (by omega) (by omega), nl_mul, nl_sub, e1, e2]
    rfl
  · rw [p4, e2]
    rfl
theorem sim16 : Sim16 Inv := by
  intro Mc Mm a0 hI
  have hI0 := hI
  obtain ⟨A, hC, hM, hW, hw, hS, hT⟩ := hI
  have hn := nn_bd hW.1
  obtain ⟨c, hc, rfl⟩ := i32 a0
  unfold MD_depth LL_depth
  rw [e_isCell hM hW.1 hc.1 hc.2, one_bI, e_goes, b2_s, c_needCell hC.1.1 hW.1 hc.1 hc.2]
  simp only [bI_z]
  by_cases q1 : 0 ≤ c ∧ c < nn A
  · have hM1 : RM (sI Mm 0 4 (ni (gz (0 ≤ c ∧ c < nn A) True True))) A := RM_of hM (fun k _ => rfl)
    have hg4 : gI (sI Mm 0 4 (ni (gz (0 ≤ c ∧ c < nn A) True True))) 0 4 = 0 := by
      rw [sI_eq]; unfold gz; rw [if_pos q1, if_pos trivial, if_pos trivial]; rfl
    rw [if_pos q1, bx_l, if_neg (fun z => z ⟨q1, trivial, trivial⟩), c_depthValue hC hM hW q1.1 q1.2, b1_s]
    obtain ⟨M1, p1, p2⟩ := e_isWet hM1 hW.1 hW.2.1 q1.1 q1.2
    have hI1 := Inv_FS (Inv_goes hI0 (ni (gz (0 ≤ c ∧ c < nn A) True True))) (FrL_FS p2)
    rw [p1, b2_s]
    simp only [bI_n0]
    unfold dep
    by_cases hi : isw A c = true
    · obtain ⟨r1, M2, r2, r3, r4, r5, r6⟩ := e_num (p2.RM hM1) hW q1.1 q1.2 hi
      obtain ⟨_, hV, hN, hD⟩ := isw_num hM hW q1.1 q1.2 hi
      have hl := frac_low (a := dN A c) (b := dD A c) (by omega) (by omega) hD.1 hD.2
      have hg := gcd_pos (x := dN A c) hD.1
      have hgl := gcd_le (x := dN A c) hD.1
      have hg0 : (¬ nl ((Int.gcd (dN A c) (dD A c) : Nat) : Int) = (0 : Int64)) := by
        rw [show (0 : Int64) = nl 0 from rfl, nl_eq (by omega) (by omega) (by omega) (by omega)]
        omega
      have hr := frac_nn (p := (dN A c).toNat) (q := (dD A c).toNat) (by omega)
      rw [if_pos hi, if_pos hi, r1, b1_s, r2, b2_s, r4, b1_s, r5, r6, e_divisor (by omega) (by omega) (by omega) (by omega), b1_s, ck_d hg0, ck_d hg0, nl_div (by omega) (by omega) hg (by omega), nl_div (by omega) (by omega) hg (by omega), hl.1, nn64_of hr]
      refine ⟨_, _, _, _, rfl, rfl, Inv_FS hI1 (FrL_FS r3), Or.inl ⟨_, rfl, ?_, rfl, dcl_self hr⟩⟩
      rw [(FrL_FS r3).1, (FrL_FS p2).1, hg4]
    · rw [if_neg hi, if_neg hi]
      refine ⟨_, _, _, _, rfl, rfl, hI1, Or.inl ⟨_, rfl, ?_, rfl, ?_⟩⟩
      · rw [(FrL_FS p2).1, hg4]
      · rw [frac_zero]; exact dcl_self (frac_nn (by omega))
  · rw [if_neg q1, bx_r, if_pos (fun z => q1 z.1)]
    refine ⟨_, _, _, _, rfl, rfl, Inv_goes hI0 _, Or.inr ⟨rfl, ?_⟩⟩
    rw [sI_eq]; unfold gz; rw [if_neg q1]; rfl
/-- the deepest of the first cells -/
def dps (A : Ab) : Nat → Int × Int × Int
  | 0 => (-1, 0, 1)
  | i + 1 => if isw A i = true then (if dN A i * (dps A i).2.2 ≤ (dps A i).2.1 * dD A i then dps A i else ((i : Int), dN A i, dD A i)) else dps A i
theorem dps_bd {M : Mem} {A : Ab} (hM : RM M A) (hW : WF A) (i : Nat) (hi : i ≤ (nn A).toNat) : (0 ≤ (dps A i).2.1 ∧ (dps A i).2.1 ≤ 1300000) ∧ (0 < (dps A i).2.2 ∧ (dps A i).2.2 ≤ 36) ∧ (-1 ≤ (dps A i).1 ∧ (dps A i).1 < i) ∧ ((dps A i).1 = -1 → dps A i = (-1, 0, 1)) := by
  have hn := nn_bd hW.1
  induction i with
  | zero => exact ⟨⟨by simp [dps], by simp [dps]⟩, ⟨by simp [dps], by simp [dps]⟩, ⟨by simp [dps], by simp [dps]⟩, fun _ => rfl⟩
  | succ i ih =>
    obtain ⟨h1, h2, h3, h4⟩ := ih (by omega)
    simp only [dps]
    by_cases q : isw A i = true
    · obtain ⟨_, hV, hN, hD⟩ := isw_num hM hW (show (0 : Int) ≤ i by omega) (show (i : Int) < nn A by omega) q
      rw [if_pos q]
      by_cases z : dN A i * (dps A i).2.2 ≤ (dps A i).2.1 * dD A i
      · rw [if_pos z]; exact ⟨h1, h2, ⟨h3.1, by omega⟩, h4⟩
      · rw [if_neg z]; exact ⟨⟨by show 0 ≤ dN A i; omega, by show dN A i ≤ 1300000; omega⟩, hD, ⟨by show (-1 : Int) ≤ i; omega, by show (i : Int) < (i + 1 : Nat); omega⟩, fun y => absurd y (by show ¬ (i : Int) = -1; omega)⟩
    · rw [if_neg q]; exact ⟨h1, h2, ⟨h3.1, by omega⟩, h4⟩
theorem c_deepest {Mc M : Mem} {A : Ab} (hC : RW 1 Mc A) (hM : RM M A) (hW : WF A) : LL_deepest Mc = some (ni (dps A (nn A).toNat).1) := by
  have hn := nn_bd hW.1
  have key : lpR (fun s => LL_deepest_L7 s.1 s.2.1 s.2.2 Mc) FUEL ((-1 : Int32), FP.dconst0, (0 : Int32)) = some (ni (dps A (nn A).toNat).1) := by
    refine lpR_to (fun i => (ni (dps A i).1, frac (dps A i).2.1.toNat (dps A i).2.2.toNat, ni (i : Int))) _ (nn A).toNat (by omega) ?_ ?_ ?_
    · intro i hi
      obtain ⟨h1, h2, h3, h4⟩ := dps_bd hM hW i (by omega)
      unfold LL_deepest_L7
      dsimp only
      rw [hC.1.1.1.2.2.1, c_depthValue hC hM hW (show (0 : Int) ≤ i by omega) (show (i : Int) < nn A by omega), b1_s, ni_s]
      simp (disch := omega) only [ni_le]
      rw [if_neg (by omega)]
      simp only [dps]
      unfold dep
      by_cases q : isw A i = true
      · obtain ⟨_, hV, hN, hD⟩ := isw_num hM hW (show (0 : Int) ≤ i by omega) (show (i : Int) < nn A by omega) q
        have e : (dcl (frac (dN A i).toNat (dD A i).toNat) (frac (dps A i).2.1.toNat (dps A i).2.2.toNat) ≤ 0) = (dN A i * (dps A i).2.2 ≤ (dps A i).2.1 * dD A i) := by
          rw [dcl_frac (by omega) (by omega) (by omega) (by omega) (by omega) (by omega)]
          rw [← Int.ofNat_le, Int.natCast_mul, Int.natCast_mul, Int.toNat_of_nonneg (by omega), Int.toNat_of_nonneg (by omega), Int.toNat_of_nonneg (by omega), Int.toNat_of_nonneg (by omega)]
        rw [if_pos q, if_pos q]
        simp only [e]
        by_cases z : dN A i * (dps A i).2.2 ≤ (dps A i).2.1 * dD A i
        · rw [if_pos z, if_pos z, if_pos z]
        · rw [if_neg z, if_neg z, if_neg z]
      · have e : (dcl FP.dconst0 (frac (dps A i).2.1.toNat (dps A i).2.2.toNat) ≤ 0) := by
          rw [frac_zero, dcl_frac (by omega) (by omega) (by omega) (by omega) (by omega) (by omega)]
          omega
        rw [if_neg q, if_neg q, if_pos e, if_pos e]
    · unfold LL_deepest_L7
      dsimp only
      rw [hC.1.1.1.2.2.1]
      simp (disch := omega) only [ni_le]
      rw [if_pos (by omega)]
    · rw [frac_zero]; rfl
  unfold LL_deepest
  rw [key, b1_s]
theorem e_deepest {M : Mem} {A : Ab} (hM : RM M A) (hW : WF A) : ∃ M', MD_deepest M = some (ni (dps A (nn A).toNat).1, M') ∧ FrL (sI M 0 4 (0 : Int32)) M' := by
  have hn := nn_bd hW.1
  have hM1 : RM (sI M 0 4 (0 : Int32)) A := RM_of hM (fun k _ => rfl)
  have key : ∃ r M', lpM (fun s M9 => MD_deepest_L15 s.1 s.2.1 s.2.2.1 s.2.2.2 M9) FUEL ((-1 : Int32), (0 : Int64), (1 : Int64), (0 : Int32)) (sI M 0 4 (0 : Int32)) = some (r, M') ∧ (r = ni (dps A (nn A).toNat).1 ∧ FrL (sI M 0 4 (0 : Int32)) M') := by
    refine lpM_to (nn A).toNat (by omega) (fun i s M' => s = (ni (dps A i).1, nl (dps A i).2.1, nl (dps A i).2.2, ni (i : Int)) ∧ FrL (sI M 0 4 (0 : Int32)) M') _ ?_ ?_ ⟨rfl, FrL.rfl'⟩
    · rintro i hi s M1 ⟨rfl, F⟩
      obtain ⟨h1, h2, h3, h4⟩ := dps_bd hM hW i (by omega)
      have R1 := F.RM hM1
      obtain ⟨M2, p1, p2⟩ := e_isWet R1 hW.1 hW.2.1 (show (0 : Int) ≤ i by omega) (show (i : Int) < nn A by omega)
      unfold MD_deepest_L15
      dsimp only
      rw [e_many R1, p1, b2_s, ni_s]
      simp (disch := omega) only [ni_le, bI_z]
      rw [if_neg (by omega)]
      simp only [dps]
      by_cases q : isw A i = true
      · obtain ⟨r1, M3, r2, r3, r4, r5, r6⟩ := e_num (p2.RM R1) hW (show (0 : Int) ≤ i by omega) (show (i : Int) < nn A by omega) q
        obtain ⟨_, hV, hN, hD⟩ := isw_num hM hW (show (0 : Int) ≤ i by omega) (show (i : Int) < nn A by omega) q
        have m1 : 0 ≤ dN A i * (dps A i).2.2 ∧ dN A i * (dps A i).2.2 ≤ 1300000 * 36 := ⟨Int.mul_nonneg (by omega) (by omega), Int.mul_le_mul hN.2 h2.2 (by omega) (by omega)⟩
        have m2 : 0 ≤ (dps A i).2.1 * dD A i ∧ (dps A i).2.1 * dD A i ≤ 1300000 * 36 := ⟨Int.mul_nonneg (by omega) (by omega), Int.mul_le_mul h1.2 hD.2 (by omega) (by omega)⟩
        rw [if_neg (fun z => z q), r1, b1_s, r2, b2_s, r4, b1_s, r5, r6, nl_mul, nl_mul, if_pos q]
        simp (disch := omega) only [show (-1 : Int32) = ni (-1) from rfl, nl_le, ni_eq]
        refine ⟨_, M3, rfl, ?_, (F.trans p2).trans r3⟩
        by_cases y : (dps A i).1 = -1
        · have hy := h4 y
          rw [if_pos y, if_pos y, if_pos y, if_neg (by rw [hy]; show ¬ dN A i * 1 ≤ 0 * dD A i; omega)]
        · rw [if_neg y, if_neg y, if_neg y]
          by_cases z : dN A i * (dps A i).2.2 ≤ (dps A i).2.1 * dD A i
          · rw [if_pos z, if_pos z, if_pos z, if_pos z]
          · rw [if_neg z, if_neg z, if_neg z, if_neg z]
      · rw [if_pos q, if_neg q]
        exact ⟨_, M2, rfl, rfl, F.trans p2⟩
    · rintro s M1 ⟨rfl, F⟩
      unfold MD_deepest_L15
      dsimp only
      rw [e_many (F.RM hM1)]
      simp (disch := omega) only [ni_le]
      rw [if_pos (by omega)]
      exact ⟨_, M1, rfl, rfl, F⟩
  obtain ⟨r, M', k1, rfl, k2⟩ := key
  refine ⟨M', ?_, k2⟩
  unfold MD_deepest
  rw [k1, b2_s]
theorem sim17 : Sim17 Inv := by
  intro Mc Mm hI
  have hI0 := hI
  obtain ⟨A, hC, hM, hW, hw, hS, hT⟩ := hI
  obtain ⟨M', p1, p2⟩ := e_deepest hM hW
  exact ⟨_, M', c_deepest hC hM hW, p1, Inv_FS (Inv_goes hI0 0) (FrL_FS p2)⟩
