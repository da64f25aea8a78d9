/-! 79.sims: rain, evaporate, balance, text, undo -/
theorem sim9 : Sim9 Inv := by
  intro Mc Mm a0 hI
  have hI0 := hI
  obtain ⟨A, hC, hM, hW, hw, hS, hT⟩ := hI
  have hwt : wat A ≤ 1000000 := hw.1
  have hn := nn_bd hW.1
  obtain ⟨x, hx, rfl⟩ := i32 a0
  have hw0 : 0 ≤ wat A := (wat_bd hW.2.1 72 (by omega)).1
  have hxn : -200000000000 ≤ x * nn A ∧ x * nn A ≤ 200000000000 := by
    obtain ⟨e1, e2⟩ := wh_cases hW.1
    unfold nn
    rcases e1 with e | e | e | e | e | e <;> rcases e2 with f | f | f | f | f | f <;> rw [e, f] <;> omega
  have hm : MD_rain (ni x) Mm = b2 (MD_goes (bI (0 ≤ x ∧ x ≤ 1000)) (bI (wat A + x * nn A ≤ 1000000)) (bI True) Mm) fun x1 M2 => (if ¬ x1 = 0 then b2 (MD_save M2) fun x3 M4 => b2 (lpM (fun s M9 => MD_rain_L58 (ni x) (gL M4 1 3) s M9) FUEL (0 : Int32) M4) <| fun e5 M6 => some (((gL M6 1 3) - (gL M4 1 3)).toInt32, M6) else some ((0 : Int32), M2)) := by
    unfold MD_rain MD_rain_J35
    rw [e_water hM hW.2.1, b1_s, e_many hM, ni_64 hx.1 hx.2, ni_64 (by omega) (by omega), nl_mul, nl_add, show (0 : Int64) = nl 0 from rfl, show (1000 : Int64) = nl 1000 from rfl, e_in (by omega) (by omega) (by omega) (by omega) (by omega) (by omega), show (1000000 : Int64) = nl 1000000 from rfl, ← one_bI]
    simp (disch := omega) only [nl_lt]
    by_cases q : 1000000 < wat A + x * nn A
    · rw [if_pos q, bI_f (p := wat A + x * nn A ≤ 1000000) (by omega)]
    · rw [if_neg q, bI_t (p := wat A + x * nn A ≤ 1000000) (by omega)]
  rw [hm, e_goes, b2_s]
  simp only [bI_n0]
  unfold LL_rain
  rw [show (0 : Int32) = ni 0 from rfl, show (1000 : Int32) = ni 1000 from rfl, c_needWithin hx.1 hx.2 (by omega) (by omega) (by omega) (by omega)]
  by_cases q1 : 0 ≤ x ∧ x ≤ 1000
  · have hxb : x * nn A ≤ 36000 := by
      obtain ⟨e1, e2⟩ := wh_cases hW.1
      unfold nn
      rcases e1 with e | e | e | e | e | e <;> rcases e2 with f | f | f | f | f | f <;> rw [e, f] <;> omega
    have hxb0 : 0 ≤ x * nn A := Int.mul_nonneg q1.1 (by omega)
    have hg2 : gI Mc 2 2 = ni (nn A) := hC.1.1.1.2.2.1
    rw [if_pos q1, bx_l, hg2, ni_mul, c_needRoom hC.1.2.2.2 hW (by omega) (by omega)]
    by_cases q2 : wat A + x * nn A ≤ 1000000
    · rw [if_pos q2, bx_l, if_pos ⟨q1, q2, trivial⟩]
      obtain ⟨Mc1, Mm1, s1, s2, RC, RMm, S1, T1, E1⟩ := both_go hC hM hW hw hS hT (ni (gz (0 ≤ x ∧ x ≤ 1000) (wat A + x * nn A ≤ 1000000) True))
      have hg2' : gI Mc1 2 2 = ni (nn A) := RC.1.1.1.2.2.1
      rw [s1, s2, b2_s, b2_s, hg2', ni_mul, ni_64 (by omega) (by omega), RC.2.1, RM_lost RMm]
      have hpC := c_poured RC (prd A + nl (x * nn A))
      have hWp := (pG_WF (A := A) (prd A + nl (x * nn A))).1 hW
      have hwp : wat (pG A (prd A + nl (x * nn A))) = wat A := (pG_WF (A := A) (prd A + nl (x * nn A))).2.1
      have hnp : nn (pG A (prd A + nl (x * nn A))) = nn A := ((pG_ge A (prd A + nl (x * nn A))).nn).symm
      obtain ⟨Mc2, p1, p2, p3⟩ := c_pourAtAll (Or.inl rfl) hpC hWp q1.1 q1.2 (by rw [hnp, hwp]; omega)
      rw [hnp, (pG_rep _ _ _ _ _).2] at p1
      rw [hnp, (pG_rep _ _ _ _ _).1] at p2
      obtain ⟨r9, Mm2, r1, r2, r3⟩ := e_rain RMm hW q1.1 q1.2 (by omega) (lst A)
      have hsm : sm (nn A).toNat (fun _ => x) ≤ x * nn A := by
        have : ∀ n : Nat, sm n (fun _ => x) = x * n := by
          intro n
          induction n with
          | zero => simp [sm]
          | succ n ih => simp only [sm]; rw [ih]; push_cast; rw [Int.mul_add]; omega
        rw [this, Int.toNat_of_nonneg (by omega)]
        exact Int.le_refl _
      obtain ⟨t1, t2, t3⟩ := rls_ok (f := fun c => (c : Int)) (v := fun _ => x) hW (nn A).toNat (fun i _ => q1.1) (by omega)
      obtain ⟨j1, j2, j3, j4, j5, j6, _⟩ := rep_ok (f := fun c => (c : Int)) (v := fun _ => x) hW (nn A).toNat (fun i _ => q1.1) (by omega)
      rw [show (0 : Int32) = ni 0 from rfl] at r1
      rw [p1, r1, b2_s, b2_s]
      refine ⟨_, _, _, _, rfl, rfl, ⟨_, p2, r2, (pG_WF _).1 j1, ⟨by rw [(pG_WF _).2.1]; omega, BS_pG _ (BS_ge j3 j4 j5 j6 hw.2)⟩, ?_, ?_⟩, Or.inl ⟨_, rfl, ?_, ?_⟩⟩
      · refine SVI_fr S1 ((Fr.sL (P := fun p => 1 ≤ p ∧ p < 47) (by omega)).trans p3) (fun p hp => by omega) (r3.I (by omega)) (fun q => r3.L (by omega))
      · refine TXI_fr T1 ((Fr.sL (P := fun p => 1 ≤ p ∧ p < 47) (by omega)).trans p3) (fun p hp => by omega) (r3.I (by omega)) (fun q => r3.I (by omega))
      · rw [r3.I (by omega), E1]; unfold gz; rw [if_pos q1, if_pos q2, if_pos trivial]
      · rw [RM_lost r2]
        have : lst (pG (rep (fun c => (c : Int)) (fun _ => x) (nn A).toNat A) (prd A + nl (x * nn A))) = lst A + nl (rls (fun c => (c : Int)) (fun _ => x) (nn A).toNat A) := by
          rw [← t1]; simp [pG, aL, lst]
        rw [this, Int64.add_comm, Int64.add_sub_cancel, nl_32]
    · rw [if_neg q2, bx_r, if_neg (fun z => q2 z.2.1)]
      refine ⟨_, _, _, _, rfl, rfl, Inv_goes hI0 _, Or.inr (Or.inr ⟨rfl, ?_⟩)⟩
      rw [sI_eq]; unfold gz; rw [if_pos q1, if_neg q2]; rfl
  · rw [if_neg q1, bx_r, if_neg (fun z => q1 z.1)]
    refine ⟨_, _, _, _, rfl, rfl, Inv_goes hI0 _, Or.inr (Or.inl ⟨rfl, ?_⟩)⟩
    rw [sI_eq]; unfold gz; rw [if_neg q1]; rfl
theorem sim10 : Sim10 Inv := by
  intro Mc Mm a0 hI
  have hI0 := hI
  obtain ⟨A, hC, hM, hW, hw, hS, hT⟩ := hI
  have hwt : wat A ≤ 1000000 := hw.1
  obtain ⟨x, hx, rfl⟩ := i32 a0
  unfold MD_evaporate LL_evaporate
  rw [ni_64 hx.1 hx.2, show (0 : Int64) = nl 0 from rfl, show (100 : Int64) = nl 100 from rfl, e_in (by omega) (by omega) (by omega) (by omega) (by omega) (by omega), one_bI, e_goes, b2_s, show (0 : Int32) = ni 0 from rfl, show (100 : Int32) = ni 100 from rfl, c_needWithin hx.1 hx.2 (by omega) (by omega) (by omega) (by omega)]
  simp only [show ni 0 = (0 : Int32) from rfl, bI_n0]
  by_cases q1 : 0 ≤ x ∧ x ≤ 100
  · rw [if_pos q1, bx_l, if_pos ⟨q1, trivial, trivial⟩]
    obtain ⟨Mc1, Mm1, s1, s2, RC, RMm, S1, T1, E1⟩ := both_go hC hM hW hw hS hT (ni (gz (0 ≤ x ∧ x ≤ 100) True True))
    rw [s1, s2, b2_s, b2_s, RM_gone RMm]
    obtain ⟨Mc2, p1, p2, p3⟩ := c_dry (Or.inl rfl) RC hW q1.1 q1.2
    obtain ⟨r9, Mm2, r1, r2, r3⟩ := e_rounds RMm hW q1.1 q1.2 (gon A)
    obtain ⟨j1, j2, j3, j4⟩ := evA_ok hW x.toNat
    rw [p1, r1, b2_s, b2_s]
    refine ⟨_, _, _, _, rfl, rfl, ⟨_, p2, r2, (dG_WF _).1 j1, ⟨by rw [(dG_WF _).2.1]; have := hw.1; omega, BS_dG _ (BS_KP j3 hw.2)⟩, ?_, ?_⟩, Or.inl ⟨_, rfl, ?_, ?_⟩⟩
    · exact SVI_fr S1 p3 (fun p hp => by omega) (r3.1 0 3 (by omega) (by omega) (by omega) (by omega)) (fun q => r3.2 2 q (by omega) (by omega) (by omega) (by omega))
    · exact TXI_fr T1 p3 (fun p hp => by omega) (r3.1 0 21 (by omega) (by omega) (by omega) (by omega)) (fun q => r3.1 12 q (by omega) (by omega) (by omega) (by omega))
    · have : gI Mm2 0 4 = gI Mm1 0 4 := r3.1 0 4 (by omega) (by omega) (by omega) (by omega)
      rw [this, E1]; unfold gz; rw [if_pos q1, if_pos trivial, if_pos trivial]; rfl
    · rw [RM_gone r2]
      have : gon (dG (evA x.toNat A) (gon A + nl (evS x.toNat A))) = gon A + nl (evS x.toNat A) := by simp [dG, aL, gon]
      rw [this, Int64.add_comm, Int64.add_sub_cancel, nl_32]
  · rw [if_neg q1, bx_r, if_neg (fun z => q1 z.1)]
    refine ⟨_, _, _, _, rfl, rfl, Inv_goes hI0 _, Or.inr ⟨rfl, ?_⟩⟩
    rw [sI_eq]; unfold gz; rw [if_neg q1]; rfl
/-- the balance -/
def balV (A : Ab) (x : Int) : Int64 := if x = 0 then prd A else if x = 1 then nl (wat A) else if x = 2 then lst A else gon A
theorem c_balance {Mc : Mem} {A : Ab} (hC : RW 1 Mc A) (hW : WF A) {x : Int} (h : 0 ≤ x ∧ x ≤ 3) : LL_balanceValue (ni x) Mc = some (balV A x) := by
  have hw := wat_bd hW.2.1 72 (by omega)
  have hw' : 0 ≤ wat A ∧ wat A ≤ 86400000 := hw
  unfold LL_balanceValue balV
  rw [c_water hC.1.2.2.2 hW.2.1 hW.1, b1_s, hC.2.1, hC.2.2.1, hC.2.2.2, ni_64 (by omega) (by omega)]
  simp (disch := omega) only [show (0 : Int32) = ni 0 from rfl, show (1 : Int32) = ni 1 from rfl, show (2 : Int32) = ni 2 from rfl, ni_eq]
  split
  · rfl
  · split
    · rfl
    · split <;> rfl
theorem e_balance {Mm : Mem} {A : Ab} (hM : RM Mm A) (hW : WF A) {x : Int} (h : 0 ≤ x ∧ x ≤ 3) : MD_balanceOf (ni x) Mm = some (balV A x) := by
  unfold MD_balanceOf balV
  rw [e_water hM hW.2.1, b1_s, RM_lost hM, RM_gone hM, RM_pour hM]
  simp (disch := omega) only [show (0 : Int32) = ni 0 from rfl, show (1 : Int32) = ni 1 from rfl, show (2 : Int32) = ni 2 from rfl, ni_eq]
  by_cases q0 : x = 0
  · rw [if_neg (by simp [q0]), if_pos q0]
  · rw [if_pos q0, if_neg q0]
    by_cases q1 : x = 1
    · rw [if_neg (by simp [q1]), if_pos q1]
    · rw [if_pos q1, if_neg q1]
      by_cases q2 : x = 2
      · rw [if_neg (by simp [q2]), if_pos q2]
      · rw [if_pos q2, if_neg q2]
theorem sim12 : Sim12 Inv := by
  intro Mc Mm a0 hI
  have hI0 := hI
  obtain ⟨A, hC, hM, hW, hw, hS, hT⟩ := hI
  have hwt : wat A ≤ 1000000 := hw.1
  obtain ⟨x, hx, rfl⟩ := i32 a0
  unfold MD_balance LL_balance
  rw [ni_64 hx.1 hx.2, show (0 : Int64) = nl 0 from rfl, show (3 : Int64) = nl 3 from rfl, e_in (by omega) (by omega) (by omega) (by omega) (by omega) (by omega), one_bI, e_goes, b2_s, show (0 : Int32) = ni 0 from rfl, show (3 : Int32) = ni 3 from rfl, c_needWithin hx.1 hx.2 (by omega) (by omega) (by omega) (by omega)]
  simp only [show ni 0 = (0 : Int32) from rfl, bI_z]
  by_cases q1 : 0 ≤ x ∧ x ≤ 3
  · rw [if_pos q1, bx_l, if_neg (by simp [q1]), c_balance hC hW q1, b1_s, e_balance (RM_of (M' := sI Mm 0 4 (ni (gz (0 ≤ x ∧ x ≤ 3) True True))) hM (fun k _ => rfl)) hW q1, b1_s]
    refine ⟨_, _, _, _, rfl, rfl, Inv_goes hI0 _, Or.inl ⟨_, rfl, ?_, rfl⟩⟩
    rw [sI_eq]; unfold gz; rw [if_pos q1, if_pos trivial, if_pos trivial]; rfl
  · rw [if_neg q1, bx_r, if_pos (by simp; omega)]
    refine ⟨_, _, _, _, rfl, rfl, Inv_goes hI0 _, Or.inr ⟨rfl, ?_⟩⟩
    rw [sI_eq]; unfold gz; rw [if_neg q1]; rfl
theorem sim23 : Sim23 Inv := by
  intro Mc Mm hI
  obtain ⟨A, hC, hM, hW, hw, hS, tl, ht, t1, t2, t3⟩ := hI
  have fs : Fr (fun p => p = 94) Mc (sI Mc 94 1 (0 : Int32)) := Fr.sI rfl
  refine ⟨ni tl, sI Mc 94 1 (0 : Int32), sI (sI Mm 0 4 (0 : Int32)) 0 21 (0 : Int32), ?_, ?_, ⟨A, RW_fr hC fs (fun p x y z => by omega), RM_of hM (fun k _ => rfl), hW, hw, SVI_fr hS fs (fun p hp => by omega) (by rw [sI_ne (by omega), sI_ne (by omega)]) (fun q => rfl), 0, by omega, sI_eq _ _ _ _, sI_eq _ _ _ _, fun i hi => by omega⟩⟩
  · unfold LL_clearText
    rw [t1]
  · unfold MD_clearText
    rw [sI_ne (by omega), t2]
theorem sim22 : Sim22 Inv := by
  intro Mc Mm a0 hI
  have hI0 := hI
  obtain ⟨A, hC, hM, hW, hw, hS, tl, ht, t1, t2, t3⟩ := hI
  obtain ⟨x, hx, rfl⟩ := i32 a0
  have hr : (if (150 : Int32) ≤ gI Mm 0 21 then (0 : Int32) else (1 : Int32)) = bI (tl < 150) := by
    rw [t2]
    simp (disch := omega) only [show (150 : Int32) = ni 150 from rfl, ni_le]
    by_cases q : 150 ≤ tl
    · rw [if_pos q, bI_f (by omega)]
    · rw [if_neg q, bI_t (by omega)]
  unfold MD_append MD_append_J25 LL_append LT_add
  rw [hr, ni_64 hx.1 hx.2, show (0 : Int64) = nl 0 from rfl, show (127 : Int64) = nl 127 from rfl, e_in (by omega) (by omega) (by omega) (by omega) (by omega) (by omega)]
  have hg := e_goes (p := 0 ≤ x ∧ x ≤ 127) (q := tl < 150) (r := True) Mm
  rw [← one_bI] at hg
  rw [hg, b2_s, show (0 : Int32) = ni 0 from rfl, show (127 : Int32) = ni 127 from rfl, c_needWithin hx.1 hx.2 (by omega) (by omega) (by omega) (by omega)]
  simp only [show ni 0 = (0 : Int32) from rfl, bI_n0]
  by_cases q1 : 0 ≤ x ∧ x ≤ 127
  · rw [if_pos q1, bx_l, t1]
    by_cases q2 : tl < 150
    · have e21 : gI (sI Mm 0 4 (ni (gz (0 ≤ x ∧ x ≤ 127) (tl < 150) True))) 0 21 = ni tl := by rw [sI_ne (by omega)]; exact t2
      have hnat : (ni tl).toNatClampNeg = tl.toNat := ni_nat (by omega) (by omega)
      have hc1 : gI (fPutI 95 (ni tl) (ni x) Mc) 94 1 = ni tl := by
        rw [(Fr.put (P := fun p => p = 95 + 1) rfl).gI (by omega)]; exact t1
      rw [if_pos (by rw [show (150 : Int32) = ni 150 from rfl, ni_lt (by omega) (by omega) (by omega) (by omega)]; exact q2), if_pos ⟨q1, q2, trivial⟩, e21, hnat, b2_s, hc1, ni_inb (by omega) (by omega), ck_d (by omega)]
      have e21' : gI (sI (sI Mm 0 4 (ni (gz (0 ≤ x ∧ x ≤ 127) (tl < 150) True))) 12 tl.toNat (ni x)) 0 21 = ni tl := by rw [sI_ne (by omega)]; exact e21
      rw [e21', show (1 : Int32) = ni 1 from rfl, ni_add]
      have fs : Fr (fun p => p = 94 ∨ p = 96) Mc (sI (fPutI 95 (ni tl) (ni x) Mc) 94 1 (ni (tl + 1))) := (Fr.put (by omega)).trans (Fr.sI (by omega))
      have z95 : nC (95 + 1) = 150 := by decide +kernel
      refine ⟨_, _, _, _, rfl, rfl, ⟨A, RW_fr hC fs (fun p x y z => by omega), RM_of hM (fun k _ => rfl), hW, hw, SVI_fr hS fs (fun p hp => by omega) (by rw [sI_ne (by omega), sI_ne (by omega), sI_ne (by omega)]) (fun q => rfl), tl + 1, by omega, sI_eq _ _ _ _, sI_eq _ _ _ _, fun i hi => ?_⟩, Or.inl ⟨_, rfl, ?_, ?_⟩⟩
      · by_cases e : (i : Int) = tl
        · refine ⟨x, q1, ?_, ?_⟩
          · rw [at_sI (by omega), e, at_eq z95 (by omega) (by omega) (by omega)]
          · rw [sI_ne (by omega)]
            have : i = tl.toNat := by omega
            rw [this, sI_eq]
        · obtain ⟨v, v1, v2, v3⟩ := t3 i (by omega)
          refine ⟨v, v1, ?_, ?_⟩
          · rw [at_sI (by omega), at_x z95 (by omega) (by omega) (by omega) (by omega) (by omega) e]; exact v2
          · rw [sI_ne (by omega), sI_ne (by omega), sI_ne (by omega)]; exact v3
      · rw [sI_ne (by omega), sI_ne (by omega), sI_eq]; unfold gz; rw [if_pos q1, if_pos q2, if_pos trivial]; rfl
      · rw [sI_eq, sI_eq]
    · rw [if_neg (by rw [show (150 : Int32) = ni 150 from rfl, ni_lt (by omega) (by omega) (by omega) (by omega)]; exact q2), if_neg (fun z => q2 z.2.1)]
      refine ⟨_, _, _, _, rfl, rfl, Inv_goes hI0 _, Or.inr (Or.inr ⟨rfl, ?_⟩)⟩
      rw [sI_eq]; unfold gz; rw [if_pos q1, if_neg q2]; rfl
  · rw [if_neg q1, bx_r, if_neg (fun z => q1 z.1)]
    refine ⟨_, _, _, _, rfl, rfl, Inv_goes hI0 _, Or.inr (Or.inl ⟨rfl, ?_⟩)⟩
    rw [sI_eq]; unfold gz; rw [if_neg q1]; rfl
theorem sim25 : Sim25 Inv := by
  intro Mc Mm hI
  have hI0 := hI
  obtain ⟨A, hC, hM, hW, hw, ⟨nx, cnt, S, hn, hc, e5, e4, e3, hs⟩, hT⟩ := hI
  have hr : (if gI Mm 0 3 ≤ 0 then (0 : Int32) else (1 : Int32)) = bI (0 < cnt) := by
    rw [e3]
    simp (disch := omega) only [show (0 : Int32) = ni 0 from rfl, ni_le]
    by_cases q : cnt ≤ 0
    · rw [if_pos q, bI_f (by omega)]; rfl
    · rw [if_neg q, bI_t (by omega)]
  have hg := e_goes (p := 0 < cnt) (q := True) (r := True) Mm
  rw [← one_bI] at hg
  unfold MD_undo MD_undo_J13 LL_undo
  rw [hr, hg, b2_s, e4]
  simp only [bI_n0]
  by_cases q : 0 < cnt
  · rw [if_pos (by rw [show (0 : Int32) = ni 0 from rfl, ni_lt (by omega) (by omega) (by omega) (by omega)]; exact q), if_pos ⟨q, trivial, trivial⟩]
    have hnx : irm ((gI Mc 0 5 + (4 : Int32)) - (1 : Int32)) (4 : Int32) = ni ((nx + 3) % 4) := by
      rw [e5, show (4 : Int32) = ni 4 from rfl, show (1 : Int32) = ni 1 from rfl, ni_add, ni_sub, ni_irm (by omega) (by omega) (by omega) (by omega)]
      refine congrArg ni ?_; omega
    have hA : gI (sI Mc 0 5 (ni ((nx + 3) % 4))) 0 4 = ni cnt := by rw [sI_ne (by omega), e4]
    have hB : ∀ v, gI (sI (sI Mc 0 5 (ni ((nx + 3) % 4))) 0 4 v) 0 5 = ni ((nx + 3) % 4) := fun v => by rw [sI_ne (by omega), sI_eq]
    rw [hnx, hA, show (1 : Int32) = ni 1 from rfl, ni_sub, hB, fSavedAt_eq (by omega) (by omega)]
    have hsl : slot ((nx + 3) % 4) 0 0 = slot nx cnt ((cnt - 1 : Int)) := by unfold slot; omega
    obtain ⟨a1, a2, a3, a4⟩ := hs (cnt - 1).toNat (by omega)
    rw [Int.toNat_of_nonneg (by omega)] at a1
    have fs : Fr (fun p => p = 0) Mc (sI (sI Mc 0 5 (ni ((nx + 3) % 4))) 0 4 (ni (cnt - 1))) := (Fr.sI (P := fun p => p = 0) rfl).trans (Fr.sI (P := fun p => p = 0) rfl)
    have hsb : 97 ≤ slot nx cnt (cnt - 1) := by unfold slot; omega
    obtain ⟨Mc2, p1, p2, p3⟩ := c_copy (Or.inl rfl) (slot_W nx cnt (cnt - 1)) (Or.inl (by omega)) (RW_fr a1 fs (fun p x y z => by omega))
    rw [hsl, p1, b2_s]
    -- the other side
    have key : ∃ r M', lpM (fun s M9 => MD_undo_L35 s M9) FUEL (0 : Int32) (sI (sI Mm 0 4 (ni (gz (0 < cnt) True True))) 0 3 (ni (cnt - 1))) = some (r, M') ∧ (M'.1 = (sI (sI Mm 0 4 (ni (gz (0 < cnt) True True))) 0 3 (ni (cnt - 1))).1 ∧ (∀ o q, o ≠ 1 → M'.2 o q = Mm.2 o q) ∧ (∀ q, q < 513 → gL M' 1 q = gL Mm 2 (513 * (cnt - 1).toNat + q))) := by
      refine lpM_to 513 (by omega) (fun i s M' => s = ni (i : Int) ∧ M'.1 = (sI (sI Mm 0 4 (ni (gz (0 < cnt) True True))) 0 3 (ni (cnt - 1))).1 ∧ (∀ o q, o ≠ 1 → M'.2 o q = Mm.2 o q) ∧ (∀ q, q < i → gL M' 1 q = gL Mm 2 (513 * (cnt - 1).toNat + q))) _ ?_ ?_ ⟨rfl, rfl, fun _ _ _ => rfl, fun q hq => by omega⟩
      · rintro i hi s M1 ⟨rfl, f1, f2, f3⟩
        have e : gI M1 0 3 = ni (cnt - 1) := by unfold gI; rw [f1]; exact sI_eq _ _ _ _
        have hv : ∀ j, gL M1 2 j = gL Mm 2 j := fun j => f2 2 j (by omega)
        unfold MD_undo_L35
        rw [e]
        simp (disch := omega) only [show (513 : Int32) = ni 513 from rfl, ni_mul, ni_add, ni_le, ni_inb, ni_nat, ni_s, Int.toNat_natCast]
        rw [if_neg (by omega), ck_d (by omega), ck_d (by omega), show (513 * (cnt - 1) + (i : Int)).toNat = 513 * (cnt - 1).toNat + i by omega, hv]
        refine ⟨_, _, rfl, rfl, f1, fun o q ho => ?_, fun q hq => ?_⟩
        · rw [← f2 o q ho]; simp [sL, ho]
        · rw [gL_s1]
          by_cases z : q = i
          · rw [if_pos z, z]
          · rw [if_neg z]; exact f3 q (by omega)
      · rintro s M1 ⟨rfl, f1, f2, f3⟩
        refine ⟨(), M1, ?_, f1, f2, f3⟩
        unfold MD_undo_L35
        rw [if_pos (by decide)]
    obtain ⟨r9, Mm2, k1, k2, k3, k4⟩ := key
    have gi : ∀ o j, gI Mm2 o j = gI (sI (sI Mm 0 4 (ni (gz (0 < cnt) True True))) 0 3 (ni (cnt - 1))) o j := fun o j => by unfold gI; rw [k2]
    rw [sI_ne (by omega), e3, ni_sub, k1, b2_s, gi, sI_eq]
    have c4 : gI Mc2 0 4 = ni (cnt - 1) := by rw [p3.gI (by omega), sI_eq]
    have c5 : gI Mc2 0 5 = ni ((nx + 3) % 4) := by rw [p3.gI (by omega), sI_ne (by omega), sI_eq]
    refine ⟨_, _, _, _, rfl, rfl, ⟨S (cnt - 1).toNat, p2, RM_back a2 k4, a3, a4, ⟨(nx + 3) % 4, cnt - 1, S, by omega, by omega, c5, c4, by rw [gi, sI_eq], fun i hi => ?_⟩, ?_⟩, Or.inl ⟨_, rfl, ?_, ?_⟩⟩
    · obtain ⟨b1, b2', b3, b4⟩ := hs i (by omega)
      have : slot ((nx + 3) % 4) (cnt - 1) (i : Int) = slot nx cnt i := by unfold slot; omega
      rw [this]
      refine ⟨RW_fr (RW_fr b1 fs (fun p x y z => by have : 97 ≤ slot nx cnt i := (by unfold slot; omega); omega)) p3 (fun p x y z => by have : 97 ≤ slot nx cnt i := (by unfold slot; omega); omega), RMo_of b2' (fun q _ => k3 2 _ (by omega)), b3, b4⟩
    · refine TXI_fr hT (P := fun p => p < 47) ((fs.mono (fun p hp => by omega)).trans (p3.mono (fun p hp => by omega))) (fun p hp => by omega) ?_ (fun q => ?_)
      · rw [gi, sI_ne (by omega), sI_ne (by omega)]
      · rw [gi, sI_ne (by omega), sI_ne (by omega)]
    · rw [gi, sI_ne (by omega), sI_eq]; unfold gz; rw [if_pos q, if_pos trivial, if_pos trivial]; rfl
    · exact c4.symm
  · rw [if_neg (by rw [show (0 : Int32) = ni 0 from rfl, ni_lt (by omega) (by omega) (by omega) (by omega)]; exact q), if_neg (fun z => q z.1)]
    refine ⟨_, _, _, _, rfl, rfl, Inv_goes hI0 _, Or.inr ⟨rfl, ?_⟩⟩
    rw [sI_eq]; unfold gz; rw [if_neg q]; rfl
