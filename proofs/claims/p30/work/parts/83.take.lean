/-! 83.take: water taken -/
theorem DW_ok {A : Ab} (hW : WF A) {k a : Int} (h0 : 0 ≤ k) (h1 : k < 71) (ht : there A k = 1) (a0 : 0 ≤ a) (a1 : a ≤ vol A k) : WF (DW A k a) ∧ wat (DW A k a) = wat A - a ∧ KP A (DW A k a) := by
  have hz := hW.2.1.2.2.1 k h0 (by omega) ht
  have hsk := sz_bd hW h0 (show k < 72 by omega) hz
  obtain ⟨e1, e2, e3, _⟩ := dw_ok 71 A k a hW h0 (by omega) ht a0 a1 (by omega)
  exact ⟨e1, e2, e3⟩
theorem OR_V {M M' : Mem} {A : Ab} (h : OR M A) (f : FrV M M') : OR M' A := by
  refine ⟨?_, fun i hi => ?_⟩
  · have : gI M' 0 12 = gI M 0 12 := f.1 0 12 (by omega)
    rw [this]; exact h.1
  · have : gI M' 7 i = gI M 7 i := f.1 7 i (by omega)
    rw [this]; exact h.2 i hi
theorem sim11 : Sim11 Inv := by
  intro Mc Mm a0 a1 hI
  have hI0 := hI
  obtain ⟨A, hC, hM, hW, hw, hS, hT⟩ := hI
  have hwt : wat A ≤ 1000000 := hw.1
  obtain ⟨x, hx, rfl⟩ := i32 a0
  obtain ⟨a, ha, rfl⟩ := i32 a1
  have hle := lown_le A 36
  obtain ⟨M1, p1, p2, p3⟩ := e_isLake hM hW hx.1 hx.2
  have hI1 : Inv Mc M1 := Inv_FS hI0 (FrO_FS p2)
  have R1 : RM M1 A := (FrO_FS p2).RM hM
  unfold MD_take LL_take
  rw [p1, b2_s, c_needLake hC.1.2.2.2 hW hx.1 hx.2]
  simp only [bI_z]
  by_cases q1 : 0 ≤ x ∧ x < lown A 36
  · obtain ⟨c, c1, c2, c3, c4, c5, c6, c7, c8⟩ := pof_in hW.2.1 q1.1 q1.2
    have hv := (hW.2.1.1 _ c5.1 (show pof A x < 72 by omega)).2.2.2
    have hmem := wat_mem hW.2.1 c5.1 (show pof A x < 72 by omega) c6
    have ho := p3.2 x.toNat (by omega)
    rw [Int.toNat_of_nonneg q1.1] at ho
    have f23 : fAtI 23 (ni (pof A x)) Mc = ni (vol A (pof A x)) := (hC.1.2.2.2.2.1 (pof A x) c5.1 c5.2 c7).1
    rw [if_pos q1, bx_l, f23, if_neg (fun z => z q1), if_neg (fun z => z q1)]
    unfold MD_take_J35
    rw [show nM 7 = 36 from by decide +kernel, show nM 1 = 513 from rfl, ni_inb (by omega) (by omega), ck_d (by omega), ni_nat q1.1 (by omega), ho, ixb 224 c5.1 (by omega) (224 : Int32) rfl, ck_t, ix 224 (by omega) c5.1 (by omega) (224 : Int32) rfl, RM_vol R1 c5.1 (by omega), ni_64 ha.1 ha.2, show (0 : Int64) = nl 0 from rfl, e_in (by omega) (by omega) (by omega) (by omega) (by omega) (by omega), b01, bI_t q1, one_bI]
    unfold MD_take_J49
    rw [one_bI, e_goes, b2_s, show (0 : Int32) = ni 0 from rfl, c_needWithin ha.1 ha.2 (by omega) (by omega) (by omega) (by omega)]
    simp only [show ni 0 = (0 : Int32) from rfl, bI_n0]
    by_cases q2 : 0 ≤ a ∧ a ≤ vol A (pof A x)
    · rw [if_pos q2, bx_l, if_pos ⟨trivial, q2, trivial⟩]
      have gg := FS_goes M1 (ni (gz True (0 ≤ a ∧ a ≤ vol A (pof A x)) True))
      obtain ⟨Mc1, Mm1, s1, s2, RC, RMm, S1, T1, V1, F1⟩ := both_save (Mm := sI M1 0 4 (ni (gz True (0 ≤ a ∧ a ≤ vol A (pof A x)) True))) hC (RM_of R1 (fun k _ => rfl)) hW hw (SVI_fr (P := fun _ => False) (SVI_FS hS (FrO_FS p2)) Fr.rfl' (fun p z => z.elim) gg.1 gg.2.2.2.2) (TXI_fr (P := fun _ => False) (TXI_FS hT (FrO_FS p2)) Fr.rfl' (fun p z => z.elim) gg.2.1 gg.2.2.1)
      have O1 := OR_V (OR_goes p3 (ni (gz True (0 ≤ a ∧ a ≤ vol A (pof A x)) True))) V1
      have ho1 := O1.2 x.toNat (by omega)
      rw [Int.toNat_of_nonneg q1.1] at ho1
      have E1 : gI Mm1 0 4 = 0 := by
        have : gI Mm1 0 4 = gI (sI M1 0 4 (ni (gz True (0 ≤ a ∧ a ≤ vol A (pof A x)) True))) 0 4 := V1.1 0 4 (by omega)
        rw [this, sI_eq]; unfold gz; rw [if_pos trivial, if_pos q2, if_pos trivial]; rfl
      obtain ⟨w1, w2, w3⟩ := DW_ok hW c5.1 c5.2 c6 q2.1 q2.2
      obtain ⟨Mc2, d1, d2, d3⟩ := c_draw (l := 20) (sz_w (w := 1) (Or.inl rfl)).2.2.1 RC.1.2.2.2 hW c5.1 c5.2 c6 q2.1 q2.2
      obtain ⟨Mm2, r1, r2, r3⟩ := e_takes RMm hW c5.1 c5.2 c6 q2.1 q2.2
      have hWg : WF (DWg A (pof A x) a) := (dG_WF _).1 w1
      obtain ⟨Mm3, t1, t2, t3⟩ := e_orders r2 hWg.1 hWg.2.1
      have fs : Fr (fun p => p = 1) Mc2 (sL Mc2 1 5 ((gL Mc2 1 5) + (ni a).toInt64)) := Fr.sL rfl
      have g5 : gL Mc2 1 5 = gon A := by rw [d3.gL (by unfold isLk; omega)]; exact RC.2.2.2
      have nLk : ∀ p, p < 22 → ¬ isLk 20 p := fun p hp z => by unfold isLk at z; omega
      have RCd : RW 1 (sL Mc2 1 5 ((gL Mc2 1 5) + (ni a).toInt64)) (DWg A (pof A x) a) := by
        refine RW_mk (A := A) (RG_fr (RG_fr RC.1.1 d3 (nLk _ (by omega)) (nLk _ (by omega)) (nLk _ (by omega)) (nLk _ (by omega))) fs (by omega) (by omega) (by omega) (by omega)) (RT_fr (RT_fr RC.1.2.1 d3 (nLk _ (by omega)) (nLk _ (by omega))) fs (by omega) (by omega)) (RY_fr (RY_fr RC.1.2.2.1 d3 (nLk _ (by omega)) (nLk _ (by omega)) (nLk _ (by omega)) (nLk _ (by omega))) fs (by omega) (by omega) (by omega) (by omega)) (w3.1.trans (dG_ge _ _)) ?_ ?_ (RLs_long (A := DW A (pof A x) a) rfl (fun j => by simp [DWg, aL, msk]) (by simp [DWg, aL, drn]) (by simp [DWg, aL, pits]) (RLs_fr d2 fs (by omega) (by omega) (by omega) (by omega) (by omega) (by omega) (by omega) (by omega) (by omega))) ?_ ?_ ?_
        · have : bnn (DWg A (pof A x) a) = bnn (DW A (pof A x) a) := by simp [DWg, aL, bnn]
          rw [this]; exact w3.2.1
        · have : bas (DWg A (pof A x) a) = bas (DW A (pof A x) a) := by simp [DWg, aL, bas]
          rw [this]; exact w3.2.2.1
        · have e1 : prd (DWg A (pof A x) a) = prd (DW A (pof A x) a) := by simp [DWg, aL, prd]
          have e2 : gL Mc2 1 3 = gL Mc1 1 3 := d3.gL (nLk _ (by omega))
          rw [e1, w3.2.2.2.2.2.2, ← RC.2.1, ← e2]; simp [gL, sL]
        · have e1 : lst (DWg A (pof A x) a) = lst (DW A (pof A x) a) := by simp [DWg, aL, lst]
          have e2 : gL Mc2 1 4 = gL Mc1 1 4 := d3.gL (nLk _ (by omega))
          rw [e1, w3.2.2.2.2.1, ← RC.2.2.1, ← e2]; simp [gL, sL]
        · have e1 : gon (DWg A (pof A x) a) = gon A + nl a := by simp [DWg, aL, gon]
          rw [e1, g5, ni_64 ha.1 ha.2]; simp [gL, sL]
      have d1' : LK_draw 20 (ni (pof A x)) (ni a) Mc1 = some ((), Mc2) := d1
      have t4 : LK_total 20 (sL Mc2 1 5 ((gL Mc2 1 5) + (ni a).toInt64)) = some (ni (lown (DWg A (pof A x) a) 36)) := c_total RCd.1.2.2.2 hWg.2.1
      have FF : Fr (fun p => isLk 20 p ∨ p = 1) Mc1 (sL Mc2 1 5 ((gL Mc2 1 5) + (ni a).toInt64)) := (d3.mono (fun p hp => Or.inl hp)).trans (fs.mono (fun p hp => Or.inr hp))
      have ft := FrO_FS t2
      have gt3 : gI Mm2 0 3 = gI Mm1 0 3 := r3.1 0 3 (by omega) (by omega)
      have gt4 : gI Mm2 0 4 = gI Mm1 0 4 := r3.1 0 4 (by omega) (by omega)
      have gt21 : gI Mm2 0 21 = gI Mm1 0 21 := r3.1 0 21 (by omega) (by omega)
      have gt12 : ∀ q, gI Mm2 12 q = gI Mm1 12 q := fun q => r3.1 12 q (by omega) (by omega)
      have gl2 : ∀ q, gL Mm2 2 q = gL Mm1 2 q := fun q => r3.2 2 q (by omega) (by omega)
      have h64 := ni_64 ha.1 ha.2
      rw [h64] at t4 RCd FF
      rw [s1, b2_s, d1', b2_s, t4, b1_s, s2, b2_s, ni_nat q1.1 (by omega), ni_inb (by omega) (by omega), ck_d (by omega), ho1, h64, r1, b2_s, t1, b2_s, t3.1]
      refine ⟨_, _, _, _, rfl, rfl, ⟨_, RCd, ft.RM r2, hWg, ⟨?_, BS_dG _ (BS_KP w3 hw.2)⟩, ?_, ?_⟩, Or.inl ⟨_, rfl, ?_, rfl⟩⟩
      · have : wat (DWg A (pof A x) a) = wat (DW A (pof A x) a) := (dG_WF _).2.1
        rw [this, w2]; omega
      · exact SVI_fr S1 FF (fun p hp => by unfold isLk at hp; omega) (ft.2.1.trans gt3) (fun q => (ft.2.2.2.2.2 q).trans (gl2 q))
      · exact TXI_fr T1 FF (fun p hp => by unfold isLk at hp; omega) (ft.2.2.1.trans gt21) (fun q => (ft.2.2.2.1 q).trans (gt12 q))
      · rw [ft.1, gt4, E1]
    · rw [if_neg q2, bx_r, if_neg (fun z => q2 z.2.1)]
      refine ⟨_, _, _, _, rfl, rfl, Inv_goes hI1 _, Or.inr (Or.inr ⟨rfl, ?_⟩)⟩
      rw [sI_eq]; unfold gz; rw [if_pos trivial, if_neg q2]; rfl
  · rw [if_neg q1, bx_r, if_pos q1, bI_f q1]
    unfold MD_take_J48 MD_take_J49
    rw [show MD_goes (0 : Int32) (0 : Int32) (1 : Int32) M1 = MD_goes (bI False) (bI False) (bI True) M1 from rfl, e_goes, b2_s, if_neg (by rw [bI_n0]; exact fun z => z.1)]
    refine ⟨_, _, _, _, rfl, rfl, Inv_goes hI1 _, Or.inr (Or.inl ⟨rfl, ?_⟩)⟩
    rw [sI_eq]; unfold gz; rw [if_neg (fun z => z)]; rfl
