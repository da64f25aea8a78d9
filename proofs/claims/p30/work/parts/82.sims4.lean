/-! 82.sims4: lakes, told; water taken -/
theorem SVI_FS {Mc Mm Mm' : Mem} (h : SVI Mc Mm) (f : FS Mm Mm') : SVI Mc Mm' := SVI_fr (P := fun _ => False) h Fr.rfl' (fun p z => z.elim) f.2.1 f.2.2.2.2.2
theorem TXI_FS {Mc Mm Mm' : Mem} (h : TXI Mc Mm) (f : FS Mm Mm') : TXI Mc Mm' := TXI_fr (P := fun _ => False) h Fr.rfl' (fun p z => z.elim) f.2.2.1 f.2.2.2.1
theorem FS_goes (M : Mem) (v : Int32) : gI (sI M 0 4 v) 0 3 = gI M 0 3 ∧ gI (sI M 0 4 v) 0 21 = gI M 0 21 ∧ (∀ q, gI (sI M 0 4 v) 12 q = gI M 12 q) ∧ (∀ q, gL (sI M 0 4 v) 1 q = gL M 1 q) ∧ ∀ q, gL (sI M 0 4 v) 2 q = gL M 2 q := ⟨by rw [sI_ne (by omega)], by rw [sI_ne (by omega)], fun q => by rw [sI_ne (by omega)], fun _ => rfl, fun _ => rfl⟩
theorem RW_mk {w : Nat} {M : Mem} {A B : Ab} (hG : RG (w + 1) M A) (hT : RT (w + 1) M A) (hY : RY (w + 12) M A (bnn A) (bas A)) (ge : GE A B) (h1 : bnn B = bnn A) (h2 : bas B = bas A) (hL : RLs (w + 19) M B) (l3 : gL M w 3 = prd B) (l4 : gL M w 4 = lst B) (l5 : gL M w 5 = gon B) : RW w M B := by
  refine ⟨⟨ge.RG hG, ge.RT hT, ?_, hL⟩, l3, l4, l5⟩
  rw [h1, h2]
  unfold RY at *
  rw [← ge.nn, ← ge.pl, ← ge.tg]
  exact hY
theorem e_isLake {M : Mem} {A : Ab} (h : RM M A) (hW : WF A) {x : Int} (h1 : -2147483648 ≤ x) (h2 : x < 2147483648) : ∃ M', MD_isLake (ni x) M = some (bI (0 ≤ x ∧ x < lown A 36), M') ∧ FrO M M' ∧ OR M' A := by
  have hle := lown_le A 36
  have hl0 := lown_nonneg A 36
  obtain ⟨M1, p1, p2, p3⟩ := e_orders h hW.1 hW.2.1
  refine ⟨M1, ?_, p2, p3⟩
  unfold MD_isLake
  rw [p1, b2_s, p3.1, ni_64 h1 h2, ni_64 (by omega) (by omega), show (1 : Int64) = nl 1 from rfl, nl_sub, show (0 : Int64) = nl 0 from rfl, e_in (by omega) (by omega) (by omega) (by omega) (by omega) (by omega), bI_a]
  refine congrArg some (Prod.ext (bI_c ?_) rfl)
  omega
theorem OR_goes {M : Mem} {A : Ab} (h : OR M A) (v : Int32) : OR (sI M 0 4 v) A := by
  refine ⟨by rw [sI_ne (by omega)]; exact h.1, fun i hi => by rw [sI_ne (by omega)]; exact h.2 i hi⟩
theorem sim14 : Sim14 Inv := by
  intro Mc Mm a0 hI
  have hI0 := hI
  obtain ⟨A, hC, hM, hW, hw, hS, hT⟩ := hI
  obtain ⟨x, hx, rfl⟩ := i32 a0
  have hle := lown_le A 36
  obtain ⟨M1, p1, p2, p3⟩ := e_isLake hM hW hx.1 hx.2
  have hI1 : Inv Mc M1 := Inv_FS hI0 (FrO_FS p2)
  have hM' : RM (sI M1 0 4 (ni (gz (0 ≤ x ∧ x < lown A 36) True True))) A := RM_of ((FrO_FS p2).RM hM) (fun k _ => rfl)
  unfold MD_lakeCells LL_lakeCells
  rw [p1, b2_s, one_bI, e_goes, b2_s, c_needLake hC.1.2.2.2 hW hx.1 hx.2]
  simp only [bI_z]
  by_cases q1 : 0 ≤ x ∧ x < lown A 36
  · obtain ⟨c, c1, c2, c3, c4, c5, c6, c7, c8⟩ := pof_in hW.2.1 q1.1 q1.2
    have ho := (OR_goes p3 (ni (gz (0 ≤ x ∧ x < lown A 36) True True))).2 x.toNat (by omega)
    rw [Int.toNat_of_nonneg q1.1] at ho
    have hL := hC.1.2.2.2.1 (pof A x) c5.1 c5.2
    rw [if_pos q1, bx_l, if_neg (fun z => z ⟨q1, trivial, trivial⟩), ni_nat q1.1 (by omega), ho, ni_inb (by omega) (by omega), ck_d (by omega), ixb 152 c5.1 (by omega) (152 : Int32) rfl, ck_t, ix 152 (by omega) c5.1 (by omega) (152 : Int32) rfl, RM_msk hM' c5.1 (by omega), show (21 : Nat) = 1 + 19 + 1 from rfl, hL]
    refine ⟨_, _, _, _, rfl, rfl, Inv_goes hI1 _, Or.inl ⟨_, rfl, ?_, rfl⟩⟩
    rw [sI_eq]; unfold gz; rw [if_pos q1, if_pos trivial, if_pos trivial]; rfl
  · rw [if_neg q1, bx_r, if_pos (fun z => q1 z.1)]
    refine ⟨_, _, _, _, rfl, rfl, Inv_goes hI1 _, Or.inr ⟨rfl, ?_⟩⟩
    rw [sI_eq]; unfold gz; rw [if_neg q1]; rfl
/-- how many basins -/
theorem ff_none (n : Nat) (p : Nat → Bool) : (ff (n + 1) p = -1) ↔ (ff n p = -1 ∧ p n = false) := by
  simp only [ff]
  by_cases e : ff n p = -1
  · rw [if_pos e]
    by_cases q : p n = true
    · rw [if_pos q]; simp [q]
    · rw [if_neg q]; simp [e]; simpa using q
  · rw [if_neg e]; simp [e]
theorem e_basinsOf {M : Mem} {A : Ab} (h : RM M A) (g : WFg A) (hB : BS A) (m : Int64) : MD_basinsOf m M = some (ni (bct A m)) := by
  have hn := nn_bd g
  have inner : ∀ c : Nat, (c : Int) < nn A → ∀ t : Bool, lpR (fun s => MD_basinsOf_L49 m (0 : Int32) (ni (c : Int)) s.1 s.2 M) FUEL (bI (t = true), (0 : Int32)) = some (bI (t = true ∧ ff c (fun b => hs (pits A) b && decide (bas A b = bas A c)) = -1)) := by
    intro c hc t
    refine lpR_to (fun i => (bI (t = true ∧ ff i (fun b => hs (pits A) b && decide (bas A b = bas A c)) = -1), ni (i : Int))) _ c (by omega) ?_ ?_ ?_
    · intro i hi
      have b1' := bas_bd g hB (c := i) (by omega) (by omega)
      have b2' := bas_bd g hB (c := c) (by omega) (by omega)
      unfold MD_basinsOf_L49
      dsimp only
      rw [RM_pits h]
      simp (disch := omega) only [MD_has_eq, bI_z, show (116 : Int32) = ni 116 from rfl, show (1 : Int32) = ni 1 from rfl, ni_le, ni_add, ni_inb, ni_nat, show (116 + (i : Int)).toNat = 116 + (i : Int).toNat by omega, show (116 + (c : Int)).toNat = 116 + (c : Int).toNat by omega, RM_bas h (c := i) (by omega) (by omega), RM_bas h (c := c) (by omega) (by omega), nl_eq, ff_none]
      rw [if_neg (by omega), ck_d (by omega), ck_d (by omega)]
      by_cases q1 : t = true ∧ ff i (fun b => hs (pits A) b && decide (bas A b = bas A c)) = -1
      · rw [if_neg (by simp [q1])]
        by_cases q2 : hs (pits A) i = true
        · rw [if_neg (by simp [q2])]
          by_cases q3 : bas A i = bas A c
          · rw [if_pos q3, bI_f (by simp [q2, q3])]; rfl
          · rw [if_neg q3, bI_t (by simp [q1, q3])]; rfl
        · rw [if_pos q2, bI_t (by simp [q1, q2])]; rfl
      · rw [if_pos q1, bI_f (fun z => q1 ⟨z.1, z.2.1⟩)]; rfl
    · unfold MD_basinsOf_L49
      dsimp only
      rw [if_pos (by rw [ni_le (by omega) (by omega) (by omega) (by omega)]; omega)]
    · refine Prod.ext ?_ rfl
      dsimp only
      exact bI_c (by simp [ff])
  have key : lpR (fun s => MD_basinsOf_L5 m s.1 s.2 M) FUEL ((0 : Int32), (0 : Int32)) = some (ni (bct A m)) := by
    refine lpR_to (fun i => (ni (ct i (fun c => hs m c && fp A c)), ni (i : Int))) _ (nn A).toNat (by omega) ?_ ?_ rfl
    · intro i hi
      have hcb := ct_bd i (fun c => hs m c && fp A c)
      unfold MD_basinsOf_L5
      dsimp only
      rw [e_many h, RM_pits h, MD_has_eq _ (show 0 ≤ (i : Int) by omega) (by omega), MD_has_eq _ (show 0 ≤ (i : Int) by omega) (by omega)]
      simp (disch := omega) only [ni_le]
      rw [if_neg (by omega)]
      have ht0 : (if bI (hs m i = true) = 0 then (0 : Int32) else (if bI (hs (pits A) i = true) = 0 then (0 : Int32) else (1 : Int32))) = bI ((hs m i && hs (pits A) i) = true) := by
        simp only [bI_z]
        cases hs m i <;> cases hs (pits A) i <;> simp [bI]
      rw [ht0]
      unfold MD_basinsOf_L5_J44
      have hv : ∀ v3 : Int32, lpR (fun s => MD_basinsOf_L49 m v3 (ni (i : Int)) s.1 s.2 M) FUEL (bI ((hs m i && hs (pits A) i) = true), (0 : Int32)) = some (bI ((hs m i && hs (pits A) i) = true ∧ ff i (fun b => hs (pits A) b && decide (bas A b = bas A i)) = -1)) := fun v3 => inner i (by omega) (hs m i && hs (pits A) i)
      rw [hv, b1_s, b01, bI_ni, show (1 : Int32) = ni 1 from rfl, ni_add, ni_add, ct_succ]
      refine congrArg some (congrArg Sum.inl (Prod.ext (congrArg ni ?_) rfl))
      unfold fp
      rw [Int.toNat_natCast]
      simp only [Bool.and_eq_true, decide_eq_true_eq, and_assoc]
    · unfold MD_basinsOf_L5
      dsimp only
      rw [e_many h]
      simp (disch := omega) only [ni_le]
      rw [if_pos (by omega)]
      rfl
  unfold MD_basinsOf
  rw [key, b1_s]
def kv (A : Ab) (k j : Int) : Int :=
  if j = 0 then vol A k else if j = 1 then cap A (msk A k) else if j = 2 then lo (msk A k) else if j = 3 then pc (msk A k)
  else if j = 4 then wtn A (msk A k) else if j = 5 then bct A (msk A k) else if j = 6 then pth A (ps A (msk A k))
  else if j = 7 then psa (ps A (msk A k)) else if j = 8 then psb A (ps A (msk A k)) else lvol A k
theorem c_lake {Mc : Mem} {A : Ab} (hC : RW 1 Mc A) (hW : WF A) {k j : Int} (h0 : 0 ≤ k) (h1 : k < 71) (ht : there A k = 1) (hz : msk A k ≠ 0) (j0 : 0 ≤ j ∧ j ≤ 9) : LL_lakeValue (ni k) (ni j) Mc = some (ni (kv A k j)) := by
  have hn := nn_bd hW.1
  have zl := (sz_w (w := 1) (Or.inl rfl)).2.2.1
  have zg := (sz_w (w := 1) (Or.inl rfl)).1
  obtain ⟨k1, k2, k3, k4, k5, _⟩ := hC.1.2.2.2.2.1 k h0 h1 hz
  have km := hC.1.2.2.2.1 k h0 h1
  obtain ⟨x, x1, x2⟩ := c_wetLake hC.1.1 hC.1.2.1 hC.1.2.2.2 hW.1 hW.2.1 zl (by omega) h1 (Or.inr hz)
  have x3 : pc x = wtn A (msk A k) := by
    rw [wtn_lake hW.2.1 h0 (by omega) ht]
    refine pc_ct hW.1 (p := fun c => wt A k c) (fun c => ?_) (fun c hc => ?_)
    · rw [x2, decide_eq_false (by omega)]; rfl
    · unfold wt at hc
      rw [Bool.and_eq_true] at hc
      exact hW.2.1.2.1 k c h0 (by omega) hc.1
  have hp : ps A (msk A k) = -1 ∨ (0 ≤ ps A (msk A k) ∧ ps A (msk A k) < 4 * nn A) := ps_rg' hW.1 _
  have e9 : fAtI 9 (ni (ps A (msk A k))) Mc = ni (pth A (ps A (msk A k))) := by
    unfold pth
    rcases hp with e | ⟨e0, e1⟩
    · rw [if_pos e, e, fAtI_out zg.2.2.2.1 (by omega) (by omega) (by omega)]
    · rw [if_neg (by omega)]
      exact RT_sd hC.1.2.1 e0 e1
  have e5 : fAtI 5 (ni (ps A (msk A k))) Mc = ni (psb A (ps A (msk A k))) := by
    unfold psb
    rcases hp with e | ⟨e0, e1⟩
    · rw [if_pos e, e, fAtI_out zg.2.1 (by omega) (by omega) (by omega)]
    · rw [if_neg (by omega)]
      exact RG_sd hC.1.1 e0 e1
  have e7 : (if ¬ (ni (ps A (msk A k))) = (-1 : Int32) then ((ni (ps A (msk A k))) / (4 : Int32)) else (-1 : Int32)) = ni (psa (ps A (msk A k))) := by
    unfold psa
    rcases hp with e | ⟨e0, e1⟩
    · rw [if_pos e, e, if_neg (by simp; rfl)]; rfl
    · rw [if_neg (show ¬ ps A (msk A k) = -1 by omega)]
      simp (disch := omega) only [show (-1 : Int32) = ni (-1) from rfl, ni_eq]
      rw [if_pos (by omega), show (4 : Int32) = ni 4 from rfl, ni_div e0 (by omega) (by omega) (by omega)]
  have f23 : fAtI 23 (ni k) Mc = ni (vol A k) := k1
  have f25 : fAtI 25 (ni k) Mc = ni (cap A (msk A k)) := k2
  have f27 : fAtI 27 (ni k) Mc = ni (ps A (msk A k)) := k3
  have f29 : fAtI 29 (ni k) Mc = ni (lvol A k) := k4
  have f31 : fAtI 31 (ni k) Mc = ni (bct A (msk A k)) := k5
  have f21 : fAtL 21 (ni k) Mc = msk A k := km
  have w1 : LK_wetCells 20 2 (ni k) Mc = some x := x1
  unfold LL_lakeValue kv
  rw [f23, f25, f27, f29, f31, f21, w1, b1_s, e9, e5, e7, LL_lowestIn_eq, JL_bitCount_eq, JL_bitCount_eq, x3]
  simp (disch := omega) only [show (0 : Int32) = ni 0 from rfl, show (1 : Int32) = ni 1 from rfl, show (2 : Int32) = ni 2 from rfl, show (3 : Int32) = ni 3 from rfl, show (4 : Int32) = ni 4 from rfl, show (5 : Int32) = ni 5 from rfl, show (6 : Int32) = ni 6 from rfl, show (7 : Int32) = ni 7 from rfl, show (8 : Int32) = ni 8 from rfl, ni_eq]
  (repeat' split) <;> rfl
theorem e_lake {M : Mem} {A : Ab} (hM : RM M A) (hW : WF A) (hB : BS A) {x j : Int} (h0 : 0 ≤ x) (h1 : x < lown A 36) (j0 : 0 ≤ j ∧ j ≤ 9) : ∃ M', MD_lakeValue (ni x) (ni j) M = some (ni (kv A (pof A x) j), M') ∧ FS M M' := by
  have hle := lown_le A 36
  obtain ⟨c, c1, c2, c3, c4, c5, c6, c7, c8⟩ := pof_in hW.2.1 h0 h1
  obtain ⟨M1, p1, p2, p3⟩ := e_orders hM hW.1 hW.2.1
  have R1 := (FrO_FS p2).RM hM
  have ho := p3.2 x.toNat (by omega)
  rw [Int.toNat_of_nonneg h0] at ho
  have hb := hW.2.1.1 (pof A x) c5.1 (by omega)
  unfold MD_lakeValue kv
  rw [p1, b2_s, ni_nat h0 (by omega), ho, ni_inb (by omega) (by omega), ck_d (by omega), ixb 152 c5.1 (by omega) (152 : Int32) rfl, ck_t, ix 152 (by omega) c5.1 (by omega) (152 : Int32) rfl, RM_msk R1 c5.1 (by omega), ixb 224 c5.1 (by omega) (224 : Int32) rfl, ck_t, ix 224 (by omega) c5.1 (by omega) (224 : Int32) rfl, RM_vol R1 c5.1 (by omega), nl_32, MD_lowest_eq c7, b1_s, MD_bits_eq, b1_s, e_basinsOf R1 hW.1 hB, b1_s]
  simp (disch := omega) only [show (0 : Int32) = ni 0 from rfl, show (1 : Int32) = ni 1 from rfl, show (2 : Int32) = ni 2 from rfl, show (3 : Int32) = ni 3 from rfl, show (4 : Int32) = ni 4 from rfl, show (5 : Int32) = ni 5 from rfl, show (9 : Int32) = ni 9 from rfl, ni_eq]
  by_cases q0 : j = 0
  · rw [if_pos q0, if_pos q0]; exact ⟨_, rfl, FrO_FS p2⟩
  rw [if_neg q0, if_neg q0]
  by_cases q1 : j = 1
  · rw [if_pos q1, if_pos q1]
    obtain ⟨M2, r1, r2⟩ := e_capacity R1 hW.1 c5.1 (show pof A x < 72 by omega)
    rw [r1, b2_s, nl_32]
    exact ⟨_, rfl, (FrO_FS p2).trans (FrP_FS r2.1)⟩
  rw [if_neg q1, if_neg q1]
  by_cases q2 : j = 2
  · rw [if_pos q2, if_pos q2]; exact ⟨_, rfl, FrO_FS p2⟩
  rw [if_neg q2, if_neg q2]
  by_cases q3 : j = 3
  · rw [if_pos q3, if_pos q3]; exact ⟨_, rfl, FrO_FS p2⟩
  rw [if_neg q3, if_neg q3]
  by_cases q4 : j = 4
  · rw [if_pos q4, if_pos q4]
    obtain ⟨M2, r1, r2⟩ := e_wetOf R1 hW.1 hW.2.1 (msk A (pof A x))
    rw [r1, b2_s]
    exact ⟨_, rfl, (FrO_FS p2).trans (FrL_FS r2)⟩
  rw [if_neg q4, if_neg q4]
  by_cases q5 : j = 5
  · rw [if_pos q5, if_pos q5]; exact ⟨_, rfl, FrO_FS p2⟩
  rw [if_neg q5, if_neg q5]
  by_cases q9 : j = 9
  · rw [if_pos q9, if_neg (by omega), if_neg (by omega), if_neg (by omega)]
    obtain ⟨M2, r1, r2⟩ := e_leastVolume R1 hW.1 c5.1 (show pof A x < 72 by omega) hb.2.1 hb.2.2.1
    rw [r1, b2_s, nl_32]
    exact ⟨_, rfl, (FrO_FS p2).trans (FrP_FS r2)⟩
  rw [if_neg q9]
  obtain ⟨M2, r1, r2⟩ := e_findsPass R1 hW.1 c5.1 (show pof A x < 72 by omega)
  unfold MD_lakeValue_J132
  rw [r1, b2_s, r2.2.1, r2.2.2.1, r2.2.2.2]
  refine ⟨M2, ?_, (FrO_FS p2).trans (FrP_FS r2.1)⟩
  simp (disch := omega) only [show (6 : Int32) = ni 6 from rfl, show (7 : Int32) = ni 7 from rfl, ni_eq]
  by_cases q6 : j = 6
  · rw [if_neg (by simp [q6]), if_pos q6]
  rw [if_pos q6, if_neg q6]
  by_cases q7 : j = 7
  · rw [if_neg (by simp [q7]), if_pos q7]
  rw [if_pos q7, if_neg q7, if_pos (by omega)]
theorem sim13 : Sim13 Inv := by
  intro Mc Mm a0 a1 hI
  have hI0 := hI
  obtain ⟨A, hC, hM, hW, hw, hS, hT⟩ := hI
  obtain ⟨x, hx, rfl⟩ := i32 a0
  obtain ⟨j, hj, rfl⟩ := i32 a1
  have hle := lown_le A 36
  obtain ⟨M1, p1, p2, p3⟩ := e_isLake hM hW hx.1 hx.2
  have hI1 : Inv Mc M1 := Inv_FS hI0 (FrO_FS p2)
  unfold MD_lake LL_lake
  rw [p1, b2_s, ni_64 hj.1 hj.2, show (0 : Int64) = nl 0 from rfl, show (9 : Int64) = nl 9 from rfl, e_in (by omega) (by omega) (by omega) (by omega) (by omega) (by omega), one_bI, e_goes, b2_s, c_needLake hC.1.2.2.2 hW hx.1 hx.2]
  simp only [bI_z]
  by_cases q1 : 0 ≤ x ∧ x < lown A 36
  · rw [if_pos q1, bx_l, show (0 : Int32) = ni 0 from rfl, show (9 : Int32) = ni 9 from rfl, c_needWithin hj.1 hj.2 (by omega) (by omega) (by omega) (by omega)]
    by_cases q2 : 0 ≤ j ∧ j ≤ 9
    · obtain ⟨c, c1, c2, c3, c4, c5, c6, c7, c8⟩ := pof_in hW.2.1 q1.1 q1.2
      rw [if_pos q2, bx_l, if_neg (fun z => z ⟨q1, q2, trivial⟩), c_lake hC hW c5.1 c5.2 c6 c7 q2, b1_s]
      obtain ⟨M2, r1, r2⟩ := e_lake (M := sI M1 0 4 (ni (gz (0 ≤ x ∧ x < lown A 36) (0 ≤ j ∧ j ≤ 9) True))) (RM_of ((FrO_FS p2).RM hM) (fun k _ => rfl)) hW hw.2 q1.1 q1.2 q2
      rw [r1, b2_s]
      refine ⟨_, _, _, _, rfl, rfl, Inv_FS (Inv_goes hI1 _) r2, Or.inl ⟨_, rfl, ?_, rfl⟩⟩
      rw [r2.1, sI_eq]; unfold gz; rw [if_pos q1, if_pos q2, if_pos trivial]
    · rw [if_neg q2, bx_r, if_pos (fun z => q2 z.2.1)]
      refine ⟨_, _, _, _, rfl, rfl, Inv_goes hI1 _, Or.inr (Or.inr ⟨rfl, ?_⟩)⟩
      rw [sI_eq]; unfold gz; rw [if_pos q1, if_neg q2]; rfl
  · rw [if_neg q1, bx_r, if_pos (fun z => q1 z.1)]
    refine ⟨_, _, _, _, rfl, rfl, Inv_goes hI1 _, Or.inr (Or.inl ⟨rfl, ?_⟩)⟩
    rw [sI_eq]; unfold gz; rw [if_neg q1]; rfl
