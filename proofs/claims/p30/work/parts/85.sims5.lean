/-! 85.sims5: heights, drains, gates, random ground -/
theorem sim1 : Sim1 Inv := by
  intro Mc Mm a0 a1 hI
  have hI0 := hI
  obtain ⟨A, hC, hM, hW, hw, hS, hT⟩ := hI
  have hn := nn_bd hW.1
  obtain ⟨c, hc, rfl⟩ := i32 a0
  obtain ⟨v, hv', rfl⟩ := i32 a1
  unfold MD_setHeight LL_setHeight
  rw [e_isCell hM hW.1 hc.1 hc.2, ni_64 hv'.1 hv'.2, show (0 : Int64) = nl 0 from rfl, show (99 : Int64) = nl 99 from rfl, e_in (by omega) (by omega) (by omega) (by omega) (by omega) (by omega), one_bI, e_goes, b2_s, c_needCell hC.1.1 hW.1 hc.1 hc.2, show (0 : Int32) = ni 0 from rfl, show (99 : Int32) = ni 99 from rfl]
  simp only [show ni 0 = (0 : Int32) from rfl, bI_n0]
  by_cases q1 : 0 ≤ c ∧ c < nn A
  · rw [if_pos q1, bx_l, show (0 : Int32) = ni 0 from rfl, c_needWithin hv'.1 hv'.2 (by omega) (by omega) (by omega) (by omega)]
    by_cases q2 : 0 ≤ v ∧ v ≤ 99
    · rw [if_pos q2, bx_l, if_pos ⟨q1, q2, trivial⟩]
      obtain ⟨Mc1, Mm1, s1, s2, RC, RMm, S1, T1, E1⟩ := both_go hC hM hW hw hS hT (ni (gz (0 ≤ c ∧ c < nn A) (0 ≤ v ∧ v ≤ 99) True))
      obtain ⟨Mc2, Mm2, n1, n2, G2, L2, H2, C2, RM2, P2, S2, T2, E2⟩ := both_note RC RMm hW S1 T1
      have gB : WFg (aI A 1 c v) := by
        obtain ⟨w1, w2, w3, w4, w5⟩ := hW.1
        refine ⟨by simpa [aI, wd] using w1, by simpa [aI, hg] using w2, fun d d0 d1 => ?_, fun d d0 d1 => by simpa [aI, grt] using w4 d d0 d1, fun d d0 d1 => by simpa [aI, gdn] using w5 d d0 d1⟩
        have := w3 d d0 d1
        simp only [aI, ht] at *
        split <;> omega
      have hnB : nn (aI A 1 c v) = nn A := (nb_of (show (aI A 1 c v).1 0 = A.1 0 from by funext j; simp [aI])).2
      have fp' : Fr (fun p => p = 4) Mc2 (fPutI 3 (ni c) (ni v) Mc2) := Fr.put rfl
      have G3 : RG 2 (fPutI 3 (ni c) (ni v) Mc2) (aI A 1 c v) := RG_ht (g := 2) G2 (sz_w (w := 1) (Or.inl rfl)).1 q1.1 (by omega) v
      obtain ⟨Mc3, Mm3, r1, r2, r3, r4, r5, r6⟩ := both_renew (Mc := fPutI 3 (ni c) (ni v) Mc2) (Mm := sL Mm2 1 (8 + c.toNat) (nl v)) (A := A) (B := aI A 1 c v) hW hw.1 gB hnB G3
        (by rw [fp'.gL (by omega), fp'.gL (by omega), fp'.gL (by omega), L2, L2, L2]; simpa [aI, prd, lst, gon] using ⟨RC.2.1, RC.2.2.1, RC.2.2.2⟩)
        (CD_fr C2 fp' (by omega) (by omega) (by omega)) (RS_ht RM2 q1.1 (by omega) v) (PD_s1 P2 _ _) (SVI_s1 (SVI_fr S2 fp' (fun p hp => by omega) rfl (fun _ => rfl)) _ _) (TXI_s1 (TXI_fr T2 fp' (fun p hp => by omega) rfl (fun _ => rfl)) _ _)
      rw [s1, s2, b2_s, b2_s, n1, n2, b2_s, b2_s, r1, b2_s, e_height RM2 q1.1 (by omega), b1_s, ixb 8 q1.1 (by omega) (8 : Int32) rfl, ck_t, ix 8 (by omega) q1.1 (by omega) (8 : Int32) rfl, r2, b2_s]
      have h3 : fAtI 3 (ni c) Mc = ni (ht A c) := hC.1.1.2.1 c q1.1 (by omega)
      rw [h3]
      refine ⟨_, _, _, _, rfl, rfl, r3, Or.inl ⟨_, rfl, ?_, rfl⟩⟩
      have e9 : gI (sL Mm2 1 (8 + c.toNat) (nl v)) 0 4 = gI Mm2 0 4 := rfl
      rw [r4, e9, E2, E1]; unfold gz; rw [if_pos q1, if_pos q2, if_pos trivial]
    · rw [if_neg q2, bx_r, if_neg (fun z => q2 z.2.1)]
      refine ⟨_, _, _, _, rfl, rfl, Inv_goes hI0 _, Or.inr (Or.inr ⟨rfl, ?_⟩)⟩
      rw [sI_eq]; unfold gz; rw [if_pos q1, if_neg q2]; rfl
  · rw [if_neg q1, bx_r, if_neg (fun z => q1 z.1)]
    refine ⟨_, _, _, _, rfl, rfl, Inv_goes hI0 _, Or.inr (Or.inl ⟨rfl, ?_⟩)⟩
    rw [sI_eq]; unfold gz; rw [if_neg q1]; rfl
theorem sim2 : Sim2 Inv := by
  intro Mc Mm a0 a1 hI
  have hI0 := hI
  obtain ⟨A, hC, hM, hW, hw, hS, hT⟩ := hI
  have hn := nn_bd hW.1
  obtain ⟨c, hc, rfl⟩ := i32 a0
  unfold MD_setDrain LL_setDrain
  rw [e_isCell hM hW.1 hc.1 hc.2, one_bI, e_goes, b2_s, c_needCell hC.1.1 hW.1 hc.1 hc.2]
  simp only [bI_n0]
  by_cases q1 : 0 ≤ c ∧ c < nn A
  · rw [if_pos q1, bx_l, if_pos ⟨q1, trivial, trivial⟩]
    obtain ⟨Mc1, Mm1, s1, s2, RC, RMm, S1, T1, E1⟩ := both_go hC hM hW hw hS hT (ni (gz (0 ≤ c ∧ c < nn A) True True))
    obtain ⟨Mc2, Mm2, n1, n2, G2, L2, H2, C2, RM2, P2, S2, T2, E2⟩ := both_note RC RMm hW S1 T1
    let X : Int64 := if a1 = 0 then (drn A &&& (sbit c ^^^ (-1 : Int64))) else (drn A ||| sbit c)
    have gB : WFg (aL A 0 0 X) := hW.1
    have fp' : Fr (fun p => p = 2) Mc2 (sL Mc2 2 3 X) := Fr.sL rfl
    have G3 : RG 2 (sL Mc2 2 3 X) (aL A 0 0 X) := RG_dr (g := 2) G2 X
    obtain ⟨Mc3, Mm3, r1, r2, r3, r4, r5, r6⟩ := both_renew (Mc := sL Mc2 2 3 X) (Mm := sL Mm2 1 2 X) (A := A) (B := aL A 0 0 X) hW hw.1 gB rfl G3
      (by rw [fp'.gL (by omega), fp'.gL (by omega), fp'.gL (by omega), L2, L2, L2]; simpa [aL, prd, lst, gon] using ⟨RC.2.1, RC.2.2.1, RC.2.2.2⟩)
      (CD_fr C2 fp' (by omega) (by omega) (by omega)) (RS_dr RM2 X) (PD_s1 P2 _ _) (SVI_s1 (SVI_fr S2 fp' (fun p hp => by omega) rfl (fun _ => rfl)) _ _) (TXI_s1 (TXI_fr T2 fp' (fun p hp => by omega) rfl (fun _ => rfl)) _ _)
    have hp : GR_putDrain 2 (ni c) a1 Mc2 = some ((), sL Mc2 2 3 X) := by
      unfold GR_putDrain
      rw [G2.1.2.2.2, LL_bit_eq]
    unfold MD_setDrain_J71
    rw [s1, s2, b2_s, b2_s, n1, n2, b2_s, b2_s, hp, b2_s, r1, b2_s, RM_dr RM2, show inb (2 : Int32) (nM 1) = true from by decide +kernel, ck_t, show (2 : Int32).toNatClampNeg = 2 from by decide +kernel]
    have r2' : MD_changes (sL Mm2 1 2 (if a1 = 0 then (drn A &&& ((lsh (1 : Int64) (ni c)) ^^^ (-1 : Int64))) else (drn A ||| (lsh (1 : Int64) (ni c))))) = some ((), Mm3) := r2
    rw [r2', b2_s, hC.1.1.1.2.2.2, LL_has_eq _ q1.1 (by omega), MD_has_eq _ q1.1 (by omega), ← one_bI, bI_a]
    refine ⟨_, _, _, _, rfl, rfl, r3, Or.inl ⟨_, rfl, ?_, ?_⟩⟩
    · have e9 : gI (sL Mm2 1 2 X) 0 4 = gI Mm2 0 4 := rfl
      rw [r4, e9, E2, E1]; unfold gz; rw [if_pos q1, if_pos trivial, if_pos trivial]; rfl
    · simp only [bI_z]
      by_cases z : hs (drn A) c = true
      · right; exact ⟨fun y => y z, fun y => y z⟩
      · left; exact ⟨z, z⟩
  · rw [if_neg q1, bx_r, if_neg (fun z => q1 z.1)]
    refine ⟨_, _, _, _, rfl, rfl, Inv_goes hI0 _, Or.inr ⟨rfl, ?_⟩⟩
    rw [sI_eq]; unfold gz; rw [if_neg q1]; rfl
theorem RS_sgt {M : Mem} {A : Ab} (h : RM M A) (w : WFg A) {a b : Int} (p : pair A a b) (v : Int) : RM (sL M 1 (gta A a b).toNat (nl v)) (sgt A a b v) := by
  have hn := nn_bd w
  have pa := p.1
  have pb := p.2.1
  have hl : 0 ≤ lsr2 a b ∧ lsr2 a b < 36 := by unfold lsr2; split <;> omega
  unfold gta sgt
  by_cases q : mor2 a b = nb A (lsr2 a b) 2
  · rw [if_pos q, if_pos q, show (44 + lsr2 a b).toNat = 44 + (lsr2 a b).toNat by omega]
    exact RS_gr h hl.1 hl.2 v
  · rw [if_neg q, if_neg q, show (80 + lsr2 a b).toNat = 80 + (lsr2 a b).toNat by omega]
    exact RS_gd h hl.1 hl.2 v
theorem sim3 : Sim3 Inv := by
  intro Mc Mm a0 a1 a2 hI
  have hI0 := hI
  obtain ⟨A, hC, hM, hW, hw, hS, hT⟩ := hI
  have hn := nn_bd hW.1
  obtain ⟨a, ha, rfl⟩ := i32 a0
  obtain ⟨b, hb, rfl⟩ := i32 a1
  obtain ⟨v, hv', rfl⟩ := i32 a2
  unfold MD_setGate LL_setGate
  rw [e_isPair hM hW.1 ha.1 ha.2 hb.1 hb.2, b1_s, ni_64 hv'.1 hv'.2, show (-1 : Int64) = nl (-1) from rfl, show (99 : Int64) = nl 99 from rfl, e_in (by omega) (by omega) (by omega) (by omega) (by omega) (by omega), show (1 : Int32) = bI True from rfl, e_goes (p := pair A a b), b2_s, c_needNeighbors hC.1.1 hW.1 ha.1 ha.2 hb.1 hb.2, show (-bI True : Int32) = ni (-1) from rfl, show (99 : Int32) = ni 99 from rfl]
  simp only [bI_n0]
  by_cases q1 : pair A a b
  · rw [if_pos q1, bx_l, c_needWithin hv'.1 hv'.2 (by omega) (by omega) (by omega) (by omega)]
    by_cases q2 : -1 ≤ v ∧ v ≤ 99
    · rw [if_pos q2, bx_l, if_pos ⟨q1, q2, trivial⟩]
      obtain ⟨Mc1, Mm1, s1, s2, RC, RMm, S1, T1, E1⟩ := both_go hC hM hW hw hS hT (ni (gz (pair A a b) (-1 ≤ v ∧ v ≤ 99) True))
      obtain ⟨Mc2, Mm2, n1, n2, G2, L2, H2, C2, RM2, P2, S2, T2, E2⟩ := both_note RC RMm hW S1 T1
      have gB : WFg (sgt A a b v) := sgt_WFg hW.1 q2
      have hnB : nn (sgt A a b v) = nn A := sgt_nb.2
      obtain ⟨eA, eB⟩ := sgt_A (A := A) (a := a) (b := b) (v := v)
      have fp' : Fr (fun p => p = 8) Mc2 (fPutI 7 (ni (4 * b + sd A b a)) (ni v) (fPutI 7 (ni (4 * a + sd A a b)) (ni v) Mc2)) := (Fr.put (P := fun p => p = 8) rfl).trans (Fr.put rfl)
      have G3 : RG 2 (fPutI 7 (ni (4 * b + sd A b a)) (ni v) (fPutI 7 (ni (4 * a + sd A a b)) (ni v) Mc2)) (sgt A a b v) := RG_gate (g := 2) G2 (sz_w (w := 1) (Or.inl rfl)).1 hW.1 q1 (pair_sy hW.1 q1) v
      have hp : GR_putGate 2 (ni a) (ni b) (ni v) Mc2 = some ((), fPutI 7 (ni (4 * b + sd A b a)) (ni v) (fPutI 7 (ni (4 * a + sd A a b)) (ni v) Mc2)) := c_putGate (g := 2) G2 hW.1 q1
      obtain ⟨g1, g2⟩ := gta_val RM2 hW.1 q1.1.1 q1.1.2 q1.2.1.1 q1.2.1.2
      obtain ⟨Mc3, Mm3, r1, r2, r3, r4, r5, r6⟩ := both_renew (Mc := fPutI 7 (ni (4 * b + sd A b a)) (ni v) (fPutI 7 (ni (4 * a + sd A a b)) (ni v) Mc2)) (Mm := sL Mm2 1 (gta A a b).toNat (nl v)) (A := A) (B := sgt A a b v) hW hw.1 gB hnB G3
        (by
          rw [fp'.gL (by omega), fp'.gL (by omega), fp'.gL (by omega), L2, L2, L2]
          refine ⟨?_, ?_, ?_⟩
          · show _ = (sgt A a b v).2 0 4; rw [eA]; exact RC.2.1
          · show _ = (sgt A a b v).2 0 2; rw [eA]; exact RC.2.2.1
          · show _ = (sgt A a b v).2 0 3; rw [eA]; exact RC.2.2.2)
        (CD_fr C2 fp' (by omega) (by omega) (by omega)) (RS_sgt RM2 hW.1 q1 v) (PD_s1 P2 _ _) (SVI_s1 (SVI_fr S2 fp' (fun p hp => by omega) rfl (fun _ => rfl)) _ _) (TXI_s1 (TXI_fr T2 fp' (fun p hp => by omega) rfl (fun _ => rfl)) _ _)
      have h7 : fAtI 7 (ni (4 * a + sd A a b)) Mc = ni (gt A a b) := by
        obtain ⟨t1, t2, t3⟩ := sd_ok q1
        have := hC.1.1.2.2.2 a (sd A a b) q1.1.1 q1.1.2 t1.1 t1.2 (by rw [t2]; have := q1.2.1; omega)
        rw [t2] at this; exact this
      rw [c_sideTo hC.1.1 hW.1 ha.1 ha.2 hb.1 hb.2, if_pos q1, b1_s, h7, s1, s2, b2_s, b2_s, n1, n2, b2_s, b2_s, hp, b2_s, r1, b2_s, e_gateAt RM2 hW.1 q1.1.1 q1.1.2 q1.2.1.1 q1.2.1.2, b1_s, b1_s, ni_inb (by omega) (by omega), ck_d (by omega), ck_d (by omega), ni_nat (by omega) (by omega), r2, b2_s, g2, nl_32]
      refine ⟨_, _, _, _, rfl, rfl, r3, Or.inl ⟨_, rfl, ?_, rfl⟩⟩
      have e9 : gI (sL Mm2 1 (gta A a b).toNat (nl v)) 0 4 = gI Mm2 0 4 := rfl
      rw [r4, e9, E2, E1]; unfold gz; rw [if_pos q1, if_pos q2, if_pos trivial]; rfl
    · rw [if_neg q2, bx_r, if_neg (fun z => q2 z.2.1)]
      refine ⟨_, _, _, _, rfl, rfl, Inv_goes hI0 _, Or.inr (Or.inr ⟨rfl, ?_⟩)⟩
      rw [sI_eq]; unfold gz; rw [if_pos q1, if_neg q2]; rfl
  · rw [if_neg q1, bx_r, if_neg (fun z => q1 z.1)]
    refine ⟨_, _, _, _, rfl, rfl, Inv_goes hI0 _, Or.inr (Or.inl ⟨rfl, ?_⟩)⟩
    rw [sI_eq]; unfold gz; rw [if_neg q1]; rfl
/-- random heights -/
def sdn (s : Int) : Nat → Int
  | 0 => s
  | i + 1 => (1103515245 * sdn s i + 12345) % 2147483648
def scA (A : Ab) (s m : Int) : Nat → Ab
  | 0 => A
  | i + 1 => aI (scA A s m i) 1 (i : Int) (sdn s (i + 1) / 65536 % m)
theorem sdn_bd {s : Int} (h : 0 ≤ s ∧ s < 2147483648) : ∀ i, 0 ≤ sdn s i ∧ sdn s i < 2147483648 := by
  intro i
  cases i with
  | zero => exact h
  | succ i => simp only [sdn]; omega
theorem scA_A (A : Ab) (s m : Int) : ∀ i : Nat, (scA A s m i).2 = A.2 ∧ ∀ f, f ≠ 1 → (scA A s m i).1 f = A.1 f := by
  intro i
  induction i with
  | zero => exact ⟨rfl, fun _ _ => rfl⟩
  | succ i ih =>
    refine ⟨ih.1, fun f hf => ?_⟩
    rw [← ih.2 f hf]
    funext j
    simp [scA, aI, hf]
theorem scA_WFg {A : Ab} (w : WFg A) {s m : Int} (hm : 1 ≤ m ∧ m ≤ 100) : ∀ i : Nat, WFg (scA A s m i) := by
  intro i
  induction i with
  | zero => exact w
  | succ i ih =>
    obtain ⟨w1, w2, w3, w4, w5⟩ := ih
    refine ⟨by simpa [scA, aI, wd] using w1, by simpa [scA, aI, hg] using w2, fun d d0 d1 => ?_, fun d d0 d1 => by simpa [scA, aI, grt] using w4 d d0 d1, fun d d0 d1 => by simpa [scA, aI, gdn] using w5 d d0 d1⟩
    have := w3 d d0 d1
    have h1 : 0 ≤ sdn s (i + 1) / 65536 % m := Int.emod_nonneg _ (by omega)
    have h2 : sdn s (i + 1) / 65536 % m < m := Int.emod_lt_of_pos _ (by omega)
    simp only [scA, aI, ht] at *
    split <;> omega
theorem lcg {s : Int} (h : 0 ≤ s ∧ s < 2147483648) {m : Int} (hm : 1 ≤ m ∧ m ≤ 100) : lrm (((1103515245 : Int64) * nl s) + (12345 : Int64)) (2147483648 : Int64) = nl ((1103515245 * s + 12345) % 2147483648) ∧ lrm (nl ((1103515245 * s + 12345) % 2147483648) / (65536 : Int64)) (nl m) = nl ((1103515245 * s + 12345) % 2147483648 / 65536 % m) := by
  refine ⟨?_, ?_⟩
  · rw [show (1103515245 : Int64) = nl 1103515245 from rfl, show (12345 : Int64) = nl 12345 from rfl, show (2147483648 : Int64) = nl 2147483648 from rfl, nl_mul, nl_add, nl_lrm (by omega) (by omega) (by omega) (by omega)]
  · rw [show (65536 : Int64) = nl 65536 from rfl, nl_div (by omega) (by omega) (by omega) (by omega), nl_lrm (by omega) (by omega) (by omega) (by omega)]
theorem c_scatter {g : Nat} (zg : SzG g) {M : Mem} {A : Ab} (h : RG g M A) (w : WFg A) {s v : Int} (hs' : 0 ≤ s ∧ s ≤ 999999) (hv' : 0 ≤ v ∧ v ≤ 99) : ∃ M', GR_scatter g (ni s) (ni v) M = some ((), M') ∧ RG g M' (scA A s (v + 1) (nn A).toNat) ∧ Fr (fun p => p = g + 1 + 1) M M' := by
  have hn := nn_bd w
  have key : ∃ r M', lpM (fun s M9 => GR_scatter_L11 g ((ni v) + (1 : Int32)) s.1 s.2 M9) FUEL ((ni s).toInt64, (0 : Int32)) M = some (r, M') ∧ (RG g M' (scA A s (v + 1) (nn A).toNat) ∧ Fr (fun p => p = g + 1 + 1) M M') := by
    refine lpM_to (nn A).toNat (by omega) (fun i st M' => st = (nl (sdn s i), ni (i : Int)) ∧ RG g M' (scA A s (v + 1) i) ∧ Fr (fun p => p = g + 1 + 1) M M') _ ?_ ?_ ⟨by rw [ni_64 (by omega) (by omega)]; rfl, h, Fr.rfl'⟩
    · rintro i hi st M1 ⟨rfl, R, F⟩
      obtain ⟨l1, l2⟩ := lcg (sdn_bd (s := s) (by omega) i) (m := v + 1) (by omega)
      have hd : 0 ≤ (1103515245 * sdn s i + 12345) % 2147483648 / 65536 % (v + 1) := Int.emod_nonneg _ (by omega)
      have hd2 : (1103515245 * sdn s i + 12345) % 2147483648 / 65536 % (v + 1) < v + 1 := Int.emod_lt_of_pos _ (by omega)
      have h2 : gI M1 g 2 = ni (nn A) := by rw [F.gI (by omega)]; exact h.1.2.2.1
      unfold GR_scatter_L11
      dsimp only
      rw [h2, l1, show (1 : Int32) = ni 1 from rfl, ni_add, ni_64 (by omega) (by omega), l2, nl_32]
      simp (disch := omega) only [show (0 : Int32) = ni 0 from rfl, show (0 : Int64) = nl 0 from rfl, ni_le, nl_eq, ni_add]
      rw [if_neg (by omega), if_neg (by omega), ck_d (by omega)]
      exact ⟨_, _, rfl, rfl, RG_ht R zg (by omega) (by omega) _, F.trans (Fr.put rfl)⟩
    · rintro st M1 ⟨rfl, R, F⟩
      have h2 : gI M1 g 2 = ni (nn A) := by rw [F.gI (by omega)]; exact h.1.2.2.1
      refine ⟨(), M1, ?_, R, F⟩
      unfold GR_scatter_L11
      dsimp only
      rw [h2]
      simp (disch := omega) only [ni_le]
      rw [if_pos (by omega)]
  obtain ⟨r, M', k1, k2, k3⟩ := key
  refine ⟨M', ?_, k2, k3⟩
  unfold GR_scatter
  rw [k1, b2_s]
theorem e_scatter {M : Mem} {A : Ab} (h : RM M A) (w : WFg A) {s v : Int} (hs' : 0 ≤ s ∧ s ≤ 999999) (hv' : 0 ≤ v ∧ v ≤ 99) : ∃ r M', lpM (fun s M9 => MD_random_L54 (ni v) s.1 s.2 M9) FUEL (nl s, (0 : Int32)) M = some (r, M') ∧ RM M' (scA A s (v + 1) (nn A).toNat) ∧ M'.1 = M.1 ∧ ∀ o q, o ≠ 1 → M'.2 o q = M.2 o q := by
  have hn := nn_bd w
  have key : ∃ r M', lpM (fun s M9 => MD_random_L54 (ni v) s.1 s.2 M9) FUEL (nl s, (0 : Int32)) M = some (r, M') ∧ (RM M' (scA A s (v + 1) (nn A).toNat) ∧ M'.1 = M.1 ∧ ∀ o q, o ≠ 1 → M'.2 o q = M.2 o q) := by
    refine lpM_to (nn A).toNat (by omega) (fun i st M' => st = (nl (sdn s i), ni (i : Int)) ∧ RM M' (scA A s (v + 1) i) ∧ M'.1 = M.1 ∧ ∀ o q, o ≠ 1 → M'.2 o q = M.2 o q) _ ?_ ?_ ⟨rfl, h, rfl, fun _ _ _ => rfl⟩
    · rintro i hi st M1 ⟨rfl, R, F1, F2⟩
      obtain ⟨l1, l2⟩ := lcg (sdn_bd (s := s) (by omega) i) (m := v + 1) (by omega)
      have h2 : MD_many M1 = ni (nn A) := by
        rw [e_many R]
        exact congrArg ni (nb_of ((scA_A A s (v + 1) i).2 0 (by omega))).2
      unfold MD_random_L54
      dsimp only
      rw [h2, l1, ni_64 (by omega) (by omega), show (1 : Int64) = nl 1 from rfl, nl_add, l2]
      simp (disch := omega) only [show (0 : Int64) = nl 0 from rfl, ni_le, nl_eq, show (1 : Int32) = ni 1 from rfl, show (8 : Int32) = ni 8 from rfl, ni_add, ni_inb, ni_nat]
      rw [if_neg (by omega), ck_d (by omega), ck_d (by omega), show (8 + (i : Int)).toNat = 8 + (i : Int).toNat by omega]
      refine ⟨_, _, rfl, rfl, RS_ht R (by omega) (by omega) _, F1, fun o q ho => ?_⟩
      rw [← F2 o q ho]; simp [sL, ho]
    · rintro st M1 ⟨rfl, R, F1, F2⟩
      have h2 : MD_many M1 = ni (nn A) := by
        rw [e_many R]
        exact congrArg ni (nb_of ((scA_A A s (v + 1) _).2 0 (by omega))).2
      refine ⟨(), M1, ?_, R, F1, F2⟩
      unfold MD_random_L54
      dsimp only
      rw [h2]
      simp (disch := omega) only [ni_le]
      rw [if_pos (by omega)]
  exact key
theorem sim4 : Sim4 Inv := by
  intro Mc Mm a0 a1 hI
  have hI0 := hI
  obtain ⟨A, hC, hM, hW, hw, hS, hT⟩ := hI
  have hn := nn_bd hW.1
  obtain ⟨s, hs', rfl⟩ := i32 a0
  obtain ⟨v, hv', rfl⟩ := i32 a1
  unfold MD_random MD_random_J30 LL_random
  have hr : (if (MD_in (ni s).toInt64 (0 : Int64) (999999 : Int64)) = 0 then (0 : Int32) else (if (MD_in (ni v).toInt64 (0 : Int64) (99 : Int64)) = 0 then (0 : Int32) else (1 : Int32))) = bI ((0 ≤ s ∧ s ≤ 999999) ∧ (0 ≤ v ∧ v ≤ 99)) := by
    rw [ni_64 hs'.1 hs'.2, ni_64 hv'.1 hv'.2, show (0 : Int64) = nl 0 from rfl, show (999999 : Int64) = nl 999999 from rfl, show (99 : Int64) = nl 99 from rfl, e_in (by omega) (by omega) (by omega) (by omega) (by omega) (by omega), e_in (by omega) (by omega) (by omega) (by omega) (by omega) (by omega)]
    simp only [bI_z]
    by_cases y1 : 0 ≤ s ∧ s ≤ 999999
    · by_cases y2 : 0 ≤ v ∧ v ≤ 99
      · rw [if_neg (fun z => z y1), if_neg (fun z => z y2), bI_t ⟨y1, y2⟩]
      · rw [if_neg (fun z => z y1), if_pos y2, bI_f (fun z => y2 z.2)]
    · rw [if_pos y1, bI_f (fun z => y1 z.1)]
  have hg := e_goes (p := (0 ≤ s ∧ s ≤ 999999) ∧ (0 ≤ v ∧ v ≤ 99)) (q := True) (r := True) Mm
  rw [← one_bI] at hg
  rw [hr, hg, b2_s, show (0 : Int32) = ni 0 from rfl, show (999999 : Int32) = ni 999999 from rfl, show (99 : Int32) = ni 99 from rfl, c_needWithin hs'.1 hs'.2 (by omega) (by omega) (by omega) (by omega)]
  simp only [show ni 0 = (0 : Int32) from rfl, bI_n0]
  by_cases q1 : 0 ≤ s ∧ s ≤ 999999
  · rw [if_pos q1, bx_l, show (0 : Int32) = ni 0 from rfl, c_needWithin hv'.1 hv'.2 (by omega) (by omega) (by omega) (by omega)]
    by_cases q2 : 0 ≤ v ∧ v ≤ 99
    · rw [if_pos q2, bx_l, if_pos ⟨⟨q1, q2⟩, trivial, trivial⟩]
      obtain ⟨Mc1, Mm1, s1, s2, RC, RMm, S1, T1, E1⟩ := both_go hC hM hW hw hS hT (ni (gz ((0 ≤ s ∧ s ≤ 999999) ∧ (0 ≤ v ∧ v ≤ 99)) True True))
      obtain ⟨Mc2, Mm2, n1, n2, G2, L2, H2, C2, RM2, P2, S2, T2, E2⟩ := both_note RC RMm hW S1 T1
      have gB : WFg (scA A s (v + 1) (nn A).toNat) := scA_WFg hW.1 (by omega) _
      obtain ⟨eA, eB⟩ := scA_A A s (v + 1) (nn A).toNat
      have hnB : nn (scA A s (v + 1) (nn A).toNat) = nn A := (nb_of (eB 0 (by omega))).2
      obtain ⟨Mc3, c1, c2, c3⟩ := c_scatter (g := 2) (sz_w (w := 1) (Or.inl rfl)).1 G2 hW.1 q1 q2
      obtain ⟨r9, Mm3, d1, d2, d3, d4⟩ := e_scatter RM2 hW.1 q1 q2
      obtain ⟨Mc4, Mm4, r1, r2, r3, r4, r5, r6⟩ := both_renew (Mc := Mc3) (Mm := Mm3) (A := A) (B := scA A s (v + 1) (nn A).toNat) hW hw.1 gB hnB c2
        (by
          rw [c3.gL (by omega), c3.gL (by omega), c3.gL (by omega), L2, L2, L2]
          refine ⟨?_, ?_, ?_⟩
          · show _ = (scA A s (v + 1) (nn A).toNat).2 0 4; rw [eA]; exact RC.2.1
          · show _ = (scA A s (v + 1) (nn A).toNat).2 0 2; rw [eA]; exact RC.2.2.1
          · show _ = (scA A s (v + 1) (nn A).toNat).2 0 3; rw [eA]; exact RC.2.2.2)
        (CD_fr C2 c3 (by omega) (by omega) (by omega)) d2 ⟨by unfold gI; rw [d3]; exact P2.1, fun n hn => ⟨by unfold gI; rw [d3]; exact (P2.2 n hn).1, (d4 8 n (by omega)).trans (P2.2 n hn).2⟩⟩ (SVI_fr S2 c3 (fun p hp => by omega) (by unfold gI; rw [d3]) (fun q => d4 2 q (by omega))) (TXI_fr T2 c3 (fun p hp => by omega) (by unfold gI; rw [d3]) (fun q => by unfold gI; rw [d3]))
      rw [show (0 : Int32) = ni 0 from rfl] at d1
      rw [s1, s2, b2_s, b2_s, n1, n2, b2_s, b2_s, c1, b2_s, r1, b2_s, ni_64 hs'.1 hs'.2, d1, b2_s, r2, b2_s, r5, r6, nl_32]
      refine ⟨_, _, _, _, rfl, rfl, r3, Or.inl ⟨_, rfl, ?_, rfl⟩⟩
      have e9 : gI Mm3 0 4 = gI Mm2 0 4 := by unfold gI; rw [d3]
      rw [r4, e9, E2, E1]; unfold gz; rw [if_pos ⟨q1, q2⟩, if_pos trivial, if_pos trivial]
    · rw [if_neg q2, bx_r, if_neg (fun z => q2 z.1.2)]
      refine ⟨_, _, _, _, rfl, rfl, Inv_goes hI0 _, Or.inr ⟨rfl, ?_⟩⟩
      rw [sI_eq]; unfold gz; rw [if_neg (fun z => q2 z.2)]; rfl
  · rw [if_neg q1, bx_r, if_neg (fun z => q1 z.1.1)]
    refine ⟨_, _, _, _, rfl, rfl, Inv_goes hI0 _, Or.inr ⟨rfl, ?_⟩⟩
    rw [sI_eq]; unfold gz; rw [if_neg (fun z => q1 z.1)]; rfl
