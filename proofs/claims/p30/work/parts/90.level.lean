/-! 90.level: the level of a lake -/
def wS (A : Ab) (k : Int) : Int := sm (nn A).toNat (fun c => if wt A k c = true then ht A c else 0)
def wB (A : Ab) (k : Int) : Int := ct (nn A).toNat (fun c => wt A k c)
theorem wB_bd {A : Ab} (g : WFg A) (k : Int) : 0 ≤ wB A k ∧ wB A k ≤ 36 := by
  have hn := nn_bd g
  have := ct_bd (nn A).toNat (fun c => wt A k c)
  unfold wB
  omega
theorem wS_bd {A : Ab} (g : WFg A) (k : Int) : 0 ≤ wS A k ∧ wS A k ≤ 3600 := by
  have hn := nn_bd g
  have hh : ∀ i : Nat, i < (nn A).toNat → 0 ≤ ht A i ∧ ht A i ≤ 99 := fun i hi => g.2.2.1 i (by omega) (by omega)
  have h1 : 0 ≤ wS A k := sm_nonneg (fun i hi => by have := hh i hi; split <;> omega)
  have h2 : wS A k ≤ ((nn A).toNat : Int) * 99 := sm_bd (fun i hi => by have := hh i hi; split <;> omega)
  refine ⟨h1, ?_⟩
  have : ((nn A).toNat : Int) * 99 ≤ 36 * 99 := Int.mul_le_mul_of_nonneg_right (by omega) (by omega)
  omega
theorem LV_pos {A : Ab} (g : WFg A) {k a b : Int} (hV : 0 < vol A k) (h : LV A (msk A k) (vol A k) a b) : a = vol A k + wS A k ∧ b = wB A k ∧ 0 < b := by
  obtain ⟨v, e1, e2, e3, e4⟩ := LV_cells g hV h
  have hw : ∀ i : Nat, i < (nn A).toNat → wt A k i = (hs (msk A k) i && decide (ht A i ≤ v)) := by
    intro i hi
    unfold wt
    by_cases z : hs (msk A k) i = true
    · rw [z, Bool.true_and, Bool.true_and]
      exact decide_eq_decide.mpr (by rw [e4 i (by omega) (by omega) z])
    · rw [Bool.eq_false_iff.mpr z, Bool.false_and, Bool.false_and]
  refine ⟨?_, ?_, e3⟩
  · rw [e1]
    refine congrArg (vol A k + ·) ?_
    unfold hv wS
    refine sm_congr (fun i hi => ?_)
    rw [hw i hi]
    by_cases z : hs (msk A k) i = true ∧ ht A i ≤ v
    · rw [if_pos z, if_pos (by simp [z])]
    · rw [if_neg z, if_neg (by simpa using z)]
  · rw [e2]
    unfold bl wB
    exact ct_congr (fun i hi => (hw i hi).symm)
theorem wet_some {A : Ab} {k : Int} (h : 0 < wB A k) : ∃ c, 0 ≤ c ∧ c < nn A ∧ wt A k c = true := by
  by_cases q : ∃ c, 0 ≤ c ∧ c < nn A ∧ wt A k c = true
  · exact q
  · exfalso
    have : wB A k = 0 := ct_zero (fun i hi => by
      cases e : wt A k i with
      | false => rfl
      | true => exact absurd ⟨(i : Int), by omega, by omega, e⟩ q)
    omega
theorem dry_none {A : Ab} {k : Int} (h : vol A k = 0) (c : Int) : wt A k c = false := by
  unfold wt
  have := nd_nonneg A (msk A k) (ht A c)
  rw [h, decide_eq_false (by omega), Bool.and_false]
def lev (A : Ab) (k j : Int) : Int :=
  if 0 < vol A k then (if ¬ j = 0 then wB A k / (Int.gcd (vol A k + wS A k) (wB A k) : Nat) else (vol A k + wS A k) / (Int.gcd (vol A k + wS A k) (wB A k) : Nat))
  else (if ¬ j = 0 then 1 else ht A (lp A (msk A k)))
theorem gcd_pos {x y : Int} (h : 0 < y) : 0 < ((Int.gcd x y : Nat) : Int) := by
  have : 0 < Int.gcd x y := Int.gcd_pos_of_ne_zero_right _ (by omega)
  omega
theorem gcd_le {x y : Int} (h : 0 < y) : ((Int.gcd x y : Nat) : Int) ≤ y := Int.le_of_dvd h (Int.gcd_dvd_right ..)
/-- the wet cells of a lake, on this side -/
theorem c_wetOne {Mc : Mem} {A : Ab} (hC : RW 1 Mc A) (hW : WF A) {k : Int} (h0 : 0 ≤ k) (h1 : k < 71) (hz : msk A k ≠ 0) : ∃ x, LK_wetCells 20 2 (ni k) Mc = some x ∧ (∀ c, hs x c = wt A k c) ∧ pc x = wB A k ∧ GR_heightSum 2 x Mc = some (ni (wS A k)) := by
  have zl := (sz_w (w := 1) (Or.inl rfl)).2.2.1
  obtain ⟨x, x1, x2⟩ := c_wetLake hC.1.1 hC.1.2.1 hC.1.2.2.2 hW.1 hW.2.1 zl (by omega) h1 (Or.inr hz)
  have x3 : ∀ c, hs x c = wt A k c := fun c => by rw [x2, decide_eq_false (by omega)]; rfl
  have hin : ∀ c, wt A k c = true → 0 ≤ c ∧ c < nn A := fun c hc => by
    unfold wt at hc
    rw [Bool.and_eq_true] at hc
    exact hW.2.1.2.1 k c h0 (by omega) hc.1
  refine ⟨x, x1, x3, pc_ct hW.1 x3 hin, ?_⟩
  have h2 := c_heightSum (g := 2) hC.1.1 hW.1 x
  rw [h2]
  refine congrArg some (congrArg ni (sm_congr (fun i hi => ?_)))
  rw [x3]
theorem c_level {Mc : Mem} {A : Ab} (hC : RW 1 Mc A) (hW : WF A) {k j : Int} (h0 : 0 ≤ k) (h1 : k < 71) (ht' : there A k = 1) (hz : msk A k ≠ 0) {a b : Int} (hL : LV A (msk A k) (vol A k) a b) (j0 : 0 ≤ j ∧ j ≤ 1) : LL_levelPart (ni k) (ni j) Mc = some (ni (lev A k j)) := by
  have hn := nn_bd hW.1
  obtain ⟨x, x1, x2, x3, x4⟩ := c_wetOne hC hW h0 h1 hz
  have hvb := (hW.2.1.1 k h0 (by omega)).2.2.2
  have sb := wS_bd hW.1 k
  have bb := wB_bd hW.1 k
  have f23 : fAtI 23 (ni k) Mc = ni (vol A k) := (hC.1.2.2.2.2.1 k h0 h1 hz).1
  have hm : ∀ c, hs (msk A k) c = true → 0 ≤ c ∧ c < nn A := fun c hc => hW.2.1.2.1 k c h0 (by omega) hc
  have lps := lp_spec hW.1 hm hz
  have l1 : LK_lowestPlace 20 2 (ni k) Mc = some (ni (lp A (msk A k))) := c_lowestPlace (l := 20) (g := 2) hC.1.1 hC.1.2.1 hW.1 (hC.1.2.2.2.1 k h0 h1) hm hz
  have f3 : fAtI 3 (ni (lp A (msk A k))) Mc = ni (ht A (lp A (msk A k))) := hC.1.1.2.1 _ lps.1.1 (by omega)
  unfold LL_levelPart LL_levelPart_J104 lev
  rw [x1, b1_s, x4, b1_s, f23, JL_bitCount_eq, x3, l1, b1_s, f3, ni_add]
  simp (disch := omega) only [show (0 : Int32) = ni 0 from rfl, ni_eq]
  by_cases hV : 0 < vol A k
  · obtain ⟨e1, e2, e3⟩ := LV_pos hW.1 hV hL
    have hB : 0 < wB A k := by omega
    obtain ⟨c, c0, c1, c2⟩ := wet_some hB
    have hx : x ≠ 0 := by
      intro e
      have := x2 c
      rw [e, c2] at this
      simp [hs] at this
    have hg := gcd_pos (x := vol A k + wS A k) hB
    have hgl := gcd_le (x := vol A k + wS A k) hB
    rw [if_pos hx, if_pos hV, c_commonDivisor (by omega) (by omega) hB (by omega), b1_s]
    by_cases q : j = 0
    · rw [if_neg (fun z => z q), if_neg (fun z => z q), c_reduced (by omega) (by omega) hg (by omega), b1_s]
    · rw [if_pos q, if_pos q, c_reduced (by omega) (by omega) hg (by omega), b1_s]
  · have hv0 : vol A k = 0 := by omega
    have hx : x = 0 := by
      refine pc_zero ?_
      rw [x3]
      exact ct_zero (fun i hi => dry_none hv0 _)
    rw [if_neg (fun z => z hx), if_neg hV]
    by_cases q : j = 0
    · rw [if_neg (fun z => z q), if_neg (fun z => z q)]
    · rw [if_pos q, if_pos q]; rfl
theorem e_level {A : Ab} (hW : WF A) {k j : Int} (h0 : 0 ≤ k) (h1 : k < 71) (ht' : there A k = 1) (hz : msk A k ≠ 0) {a b : Int} (hL : LV A (msk A k) (vol A k) a b) (j0 : 0 ≤ j ∧ j ≤ 1) : (0 ≤ a ∧ a ≤ 1300000) ∧ (0 < b ∧ b ≤ 36) ∧ 0 < ((Int.gcd a b : Nat) : Int) ∧ (if ¬ j = 0 then b else a) / (Int.gcd a b : Nat) = lev A k j := by
  have hn := nn_bd hW.1
  have hvb := (hW.2.1.1 k h0 (by omega)).2.2.2
  have sb := wS_bd hW.1 k
  have bb := wB_bd hW.1 k
  have hm : ∀ c, hs (msk A k) c = true → 0 ≤ c ∧ c < nn A := fun c hc => hW.2.1.2.1 k c h0 (by omega) hc
  have lps := lp_spec hW.1 hm hz
  unfold lev
  by_cases hV : 0 < vol A k
  · obtain ⟨e1, e2, e3⟩ := LV_pos hW.1 hV hL
    rw [if_pos hV, ← e1, ← e2]
    refine ⟨by omega, by omega, gcd_pos e3, ?_⟩
    by_cases q : j = 0
    · rw [if_neg (fun z => z q), if_neg (fun z => z q)]
    · rw [if_pos q, if_pos q]
  · have hv0 : vol A k = 0 := by omega
    rw [hv0] at hL
    obtain ⟨v, e1, e2, e3, e4, c, c0, c1, c2, c3⟩ := LV_dry hW.1 hL
    have hbl : b ≤ 36 := by
      obtain ⟨u, u1, u2, u3, u4⟩ := hL
      have := bl_bd hW.1 (msk A k) u
      omega
    have hgc : ((Int.gcd a b : Nat) : Int) = b := by
      rw [e1, Int.gcd_mul_right_left]
      omega
    have hl : ht A (lp A (msk A k)) = v := by
      have h1' := e4 (lp A (msk A k)) lps.1.1 lps.1.2 lps.2.1
      by_cases z : c = lp A (msk A k)
      · rw [← z]; exact c3
      · have := lps.2.2 c c2 z
        unfold kl at this
        omega
    have hab : a ≤ 3600 := by
      rw [e1]
      have : b * v ≤ 36 * 99 := Int.mul_le_mul hbl e3.2 e3.1 (by omega)
      omega
    have ha0 : 0 ≤ a := by rw [e1]; exact Int.mul_nonneg (by omega) e3.1
    rw [if_neg hV, hgc]
    refine ⟨by omega, by omega, e2, ?_⟩
    by_cases q : j = 0
    · rw [if_neg (fun z => z q), if_neg (fun z => z q), e1, hl]
      exact Int.mul_ediv_cancel_left _ (by omega)
    · rw [if_pos q, if_pos q]
      exact Int.ediv_self (by omega)
theorem sim15 : Sim15 Inv := by
  intro Mc Mm a0 a1 hI
  have hI0 := hI
  obtain ⟨A, hC, hM, hW, hw, hS, hT⟩ := hI
  obtain ⟨x, hx, rfl⟩ := i32 a0
  obtain ⟨j, hj, rfl⟩ := i32 a1
  have hle := lown_le A 36
  obtain ⟨M1, p1, p2, p3⟩ := e_isLake hM hW hx.1 hx.2
  have hI1 : Inv Mc M1 := Inv_FS hI0 (FrO_FS p2)
  unfold MD_level LL_level
  rw [p1, b2_s, ni_64 hj.1 hj.2, show (0 : Int64) = nl 0 from rfl, show (1 : Int64) = nl 1 from rfl, e_in (by omega) (by omega) (by omega) (by omega) (by omega) (by omega), one_bI, e_goes, b2_s, c_needLake hC.1.2.2.2 hW hx.1 hx.2]
  simp only [bI_z]
  by_cases q1 : 0 ≤ x ∧ x < lown A 36
  · rw [if_pos q1, bx_l, show (0 : Int32) = ni 0 from rfl, show bI True = ni 1 from rfl, c_needWithin hj.1 hj.2 (by omega) (by omega) (by omega) (by omega)]
    by_cases q2 : 0 ≤ j ∧ j ≤ 1
    · obtain ⟨c, c1, c2, c3, c4, c5, c6, c7, c8⟩ := pof_in hW.2.1 q1.1 q1.2
      have hM1 : RM (sI M1 0 4 (ni (gz (0 ≤ x ∧ x < lown A 36) (0 ≤ j ∧ j ≤ 1) True))) A := RM_of ((FrO_FS p2).RM hM) (fun k _ => rfl)
      obtain ⟨M2, r1, r2, r3⟩ := e_orders hM1 hW.1 hW.2.1
      have R2 := (FrO_FS r2).RM hM1
      have ho := r3.2 x.toNat (by omega)
      rw [Int.toNat_of_nonneg q1.1] at ho
      obtain ⟨M3, a, b, s1, s2, s3, s4, s5⟩ := e_levels R2 hW.1 hW.2.1 c5.1 (show pof A x < 72 by omega) c7
      obtain ⟨l1, l2, l3, l4⟩ := e_level hW c5.1 c5.2 c6 c7 s5 q2
      have hgl := gcd_le (x := a) l2.1
      have hd : (if ¬ ni j = (0 : Int32) then gL M3 0 14 else gL M3 0 13) = nl (if ¬ j = 0 then b else a) := by
        rw [s3, s4]
        simp (disch := omega) only [show (0 : Int32) = ni 0 from rfl, ni_eq]
        split <;> rfl
      rw [if_pos q2, bx_l, if_neg (fun z => z ⟨q1, q2, trivial⟩), c_level hC hW c5.1 c5.2 c6 c7 s5 q2, b1_s]
      unfold MD_levelPart
      rw [r1, b2_s, ni_nat q1.1 (by omega), ho, ni_inb (by omega) (by omega), ck_d (by omega), s1, b2_s, hd, s3, s4, e_divisor (by omega) (by omega) (by omega) (by omega), b1_s, ck_d (by rw [show (0 : Int64) = nl 0 from rfl, nl_eq (by omega) (by omega) (by omega) (by omega)]; omega), nl_div (by split <;> omega) (by split <;> omega) l3 (by omega), nl_32, l4, b2_s]
      refine ⟨_, _, _, _, rfl, rfl, Inv_FS (Inv_FS (Inv_goes hI1 _) (FrO_FS r2)) (FrL_FS s2), Or.inl ⟨_, rfl, ?_, rfl⟩⟩
      rw [(FrL_FS s2).1, (FrO_FS r2).1, sI_eq]; unfold gz; rw [if_pos q1, if_pos q2, if_pos trivial]
    · rw [if_neg q2, bx_r, if_pos (fun z => q2 z.2.1)]
      refine ⟨_, _, _, _, rfl, rfl, Inv_goes hI1 _, Or.inr (Or.inr ⟨rfl, ?_⟩)⟩
      rw [sI_eq]; unfold gz; rw [if_pos q1, if_neg q2]; rfl
  · rw [if_neg q1, bx_r, if_pos (fun z => q1 z.1)]
    refine ⟨_, _, _, _, rfl, rfl, Inv_goes hI1 _, Or.inr (Or.inl ⟨rfl, ?_⟩)⟩
    rw [sI_eq]; unfold gz; rw [if_neg q1]; rfl
