/-! 78.need: what the calls demand -/
theorem i32 (a : Int32) : ∃ x : Int, (-2147483648 ≤ x ∧ x < 2147483648) ∧ a = ni x := ⟨a.toInt, ⟨by have := Int32.le_toInt a; omega, by have := Int32.toInt_lt a; omega⟩, ni_of a⟩
theorem bI_n0 {p : Prop} [Decidable p] : (¬ bI p = 0) = p := by
  rw [show (bI p = 0) = ¬ p from bI_z]
  simp
def gz (p q r : Prop) [Decidable p] [Decidable q] [Decidable r] : Int := if p then (if q then (if r then 0 else 3) else 2) else 1
theorem e_goes {p q r : Prop} [Decidable p] [Decidable q] [Decidable r] (M : Mem) : MD_goes (bI p) (bI q) (bI r) M = some (bI (p ∧ q ∧ r), sI M 0 4 (ni (gz p q r))) := by
  unfold MD_goes MD_goes_J26 gz
  by_cases hp : p
  · by_cases hq : q
    · by_cases hr : r
      · simp [bI, hp, hq, hr, gI, sI]; rfl
      · simp [bI, hp, hq, hr, gI, sI]; rfl
    · simp [bI, hp, hq, gI, sI]; rfl
  · simp [bI, hp, gI, sI]; rfl
theorem one_bI : (1 : Int32) = bI True := by simp [bI]
def FrG (M M' : Mem) : Prop := (∀ o q, ¬ (o = 0 ∧ q = 4) → M'.1 o q = M.1 o q) ∧ M'.2 = M.2
theorem FrG_s (M : Mem) (v : Int32) : FrG M (sI M 0 4 v) := ⟨fun o q h => by simp [sI, h], rfl⟩
/-- the state of both is the same after a look at it -/
theorem Inv_goes {Mc Mm : Mem} (h : Inv Mc Mm) (v : Int32) : Inv Mc (sI Mm 0 4 v) := by
  obtain ⟨A, hC, hM, hW, hw, hS, hT⟩ := h
  refine ⟨A, hC, RM_of hM (fun k _ => rfl), hW, hw, SVI_fr (P := fun _ => False) hS Fr.rfl' (fun p z => z.elim) (by simp [gI, sI]) (fun q => rfl), TXI_fr (P := fun _ => False) hT Fr.rfl' (fun p z => z.elim) (by simp [gI, sI]) (fun q => by simp [gI, sI])⟩
theorem c_exists {g : Nat} {M : Mem} {A : Ab} (hG : RG g M A) (w : WFg A) {x : Int} (h1 : -2147483648 ≤ x) (h2 : x < 2147483648) : GR_exists g (ni x) M = bI (0 ≤ x ∧ x < nn A) := by
  have hn := nn_bd w
  unfold GR_exists bI
  rw [hG.1.2.2.1]
  simp (disch := omega) only [show (0 : Int32) = ni 0 from rfl, ni_lt, ni_le]
  by_cases q1 : x < 0
  · rw [if_pos q1, if_neg (by omega)]
  · rw [if_neg q1]
    by_cases q2 : nn A ≤ x
    · rw [if_pos q2, if_neg (by omega)]
    · rw [if_neg q2, if_pos (by omega)]
theorem c_needCell {M : Mem} {A : Ab} (hG : RG 2 M A) (w : WFg A) {x : Int} (h1 : -2147483648 ≤ x) (h2 : x < 2147483648) : LL_needCell (ni x) M = some (if 0 ≤ x ∧ x < nn A then .inl () else .inr 1, M) := by
  unfold LL_needCell
  rw [c_exists hG w h1 h2]
  simp only [bI_n0]
  split <;> rfl
theorem c_needWithin {M : Mem} {x a b : Int} (h1 : -2147483648 ≤ x) (h2 : x < 2147483648) (h3 : -2147483648 ≤ a) (h4 : a < 2147483648) (h5 : -2147483648 ≤ b) (h6 : b < 2147483648) : LL_needWithin (ni x) (ni a) (ni b) M = some (if a ≤ x ∧ x ≤ b then .inl () else .inr 2, M) := by
  unfold LL_needWithin
  simp (disch := omega) only [ni_lt, ni_le]
  by_cases q1 : x < a
  · rw [if_pos q1, if_neg (by omega)]
  · rw [if_neg q1]
    by_cases q2 : x ≤ b
    · rw [if_pos q2, if_pos (by omega)]
    · rw [if_neg q2, if_neg (by omega)]
theorem c_needRoom {M : Mem} {A : Ab} (hL : RLs 20 M A) (h : WF A) {x : Int} (h1 : -1000000000 ≤ x) (h2 : x < 1000000000) : LL_needRoom (ni x) M = some (if wat A + x ≤ 1000000 then .inl () else .inr 3, M) := by
  have hw := wat_bd h.2.1 72 (by omega)
  have hw' : 0 ≤ wat A ∧ wat A ≤ 86400000 := hw
  unfold LL_needRoom
  rw [c_water hL h.2.1 h.1, b1_s, ni_add]
  simp (disch := omega) only [show (1000000 : Int32) = ni 1000000 from rfl, ni_le]
  split <;> rfl
theorem c_needLake {M : Mem} {A : Ab} (hL : RLs 20 M A) (h : WF A) {x : Int} (h1 : -2147483648 ≤ x) (h2 : x < 2147483648) : LL_needLake (ni x) M = some (if 0 ≤ x ∧ x < lown A 36 then .inl (ni (pof A x)) else .inr 1, M) := by
  unfold LL_needLake
  rw [c_placeOf hL h.2.1 h1 h2, b1_s]
  by_cases q : 0 ≤ x ∧ x < lown A 36
  · obtain ⟨c, c1, c2, c3, c4, c5, c6, c7, c8⟩ := pof_in h.2.1 q.1 q.2
    rw [if_pos q, if_pos (by rw [show (-1 : Int32) = ni (-1) from rfl, ni_eq (by omega) (by omega) (by omega) (by omega)]; omega)]
  · rw [if_neg q, pof_out (by omega), if_neg (by simp; rfl)]
theorem bx_l {α β : Type} (v : α) (M : Mem) (f : α → Mem → Option ((β ⊕ Nat) × Mem)) : bx (some (.inl v, M)) f = f v M := rfl
theorem bx_r {α β : Type} (k : Nat) (M : Mem) (f : α → Mem → Option ((β ⊕ Nat) × Mem)) : bx (some (.inr k, M)) f = some (.inr k, M) := rfl
theorem both_go {Mc Mm : Mem} {A : Ab} (hC : RW 1 Mc A) (hM : RM Mm A) (hW : WF A) (hw : WB A) (hS : SVI Mc Mm) (hT : TXI Mc Mm) (v : Int32) : ∃ Mc' Mm', LL_save Mc = some ((), Mc') ∧ MD_save (sI Mm 0 4 v) = some ((), Mm') ∧ RW 1 Mc' A ∧ RM Mm' A ∧ SVI Mc' Mm' ∧ TXI Mc' Mm' ∧ gI Mm' 0 4 = v := by
  obtain ⟨Mc1, Mm1, s1, s2, RC, RMm, S1, T1, V1, F1⟩ := both_save hC (RM_of (M' := sI Mm 0 4 v) hM (fun k _ => rfl)) hW hw (SVI_fr (P := fun _ => False) hS Fr.rfl' (fun p z => z.elim) (by simp [gI, sI]) (fun q => rfl)) (TXI_fr (P := fun _ => False) hT Fr.rfl' (fun p z => z.elim) (by simp [gI, sI]) (fun q => by simp [gI, sI]))
  refine ⟨Mc1, Mm1, s1, s2, RC, RMm, S1, T1, ?_⟩
  have : gI Mm1 0 4 = gI (sI Mm 0 4 v) 0 4 := V1.1 0 4 (by omega)
  rw [this, sI_eq]
theorem c_poured {M : Mem} {A : Ab} (RC : RW 1 M A) (v : Int64) : RW 1 (sL M 1 3 v) (pG A v) := by
  have hs' : Fr (fun p => p = 1) M (sL M 1 3 v) := Fr.sL rfl
  have ge := pG_ge A v
  refine ⟨⟨ge.RG (RG_fr RC.1.1 hs' (by omega) (by omega) (by omega) (by omega)), ge.RT (RT_fr RC.1.2.1 hs' (by omega) (by omega)), ?_, RLs_long (A := A) rfl (pG_msk A _) (by simp [pG, aL, drn]) (by simp [pG, aL, pits]) (RLs_fr RC.1.2.2.2 hs' (by omega) (by omega) (by omega) (by omega) (by omega) (by omega) (by omega) (by omega) (by omega))⟩, ?_, ?_, ?_⟩
  · have y2 := RY_fr RC.1.2.2.1 hs' (by omega) (by omega) (by omega) (by omega)
    show RY 13 _ _ (bnn A) (bas A)
    unfold RY at *
    rw [← ge.nn, ← ge.pl, ← ge.tg]
    exact y2
  · simp [pG, aL, prd, gL, sL]
  · have := RC.2.2.1
    simpa [pG, aL, lst, gL, sL] using this
  · have := RC.2.2.2
    simpa [pG, aL, gon, gL, sL] using this
theorem sim8 : Sim8 Inv := by
  intro Mc Mm a0 a1 hI
  have hI0 := hI
  obtain ⟨A, hC, hM, hW, hw, hS, hT⟩ := hI
  have hwt : wat A ≤ 1000000 := hw.1
  have hn := nn_bd hW.1
  obtain ⟨c, hc, rfl⟩ := i32 a0
  obtain ⟨x, hx, rfl⟩ := i32 a1
  have hw0 : 0 ≤ wat A := (wat_bd hW.2.1 72 (by omega)).1
  -- the other side's tests
  have hm : MD_pour (ni c) (ni x) Mm = b2 (MD_goes (bI (0 ≤ c ∧ c < nn A)) (bI (0 ≤ x ∧ x ≤ 100000)) (bI (wat A + x ≤ 1000000)) Mm) fun x1 M2 => (if ¬ x1 = 0 then b2 (MD_save M2) fun x3 M4 => b2 (MD_pours (ni c) (ni x).toInt64 (sL M4 1 5 ((gL M4 1 5) + (ni x).toInt64))) fun x5 M6 => some (((gL M6 1 3) - (gL M4 1 3)).toInt32, M6) else some ((0 : Int32), M2)) := by
    unfold MD_pour MD_pour_J34
    rw [e_water hM hW.2.1, b1_s, e_isCell hM hW.1 hc.1 hc.2, ni_64 hx.1 hx.2, nl_add, show (0 : Int64) = nl 0 from rfl, show (100000 : Int64) = nl 100000 from rfl, e_in (by omega) (by omega) (by omega) (by omega) (by omega) (by omega), show (1000000 : Int64) = nl 1000000 from rfl]
    simp (disch := omega) only [nl_lt]
    by_cases q : 1000000 < wat A + x
    · rw [if_pos q, bI_f (p := wat A + x ≤ 1000000) (by omega)]
    · rw [if_neg q, bI_t (p := wat A + x ≤ 1000000) (by omega)]
  rw [hm, e_goes, b2_s]
  simp only [bI_n0]
  unfold LL_pour
  rw [c_needCell hC.1.1 hW.1 hc.1 hc.2, show (0 : Int32) = ni 0 from rfl, show (100000 : Int32) = ni 100000 from rfl]
  by_cases q1 : 0 ≤ c ∧ c < nn A
  · rw [if_pos q1, bx_l, c_needWithin hx.1 hx.2 (by omega) (by omega) (by omega) (by omega)]
    by_cases q2 : 0 ≤ x ∧ x ≤ 100000
    · rw [if_pos q2, bx_l, c_needRoom hC.1.2.2.2 hW (by omega) (by omega)]
      by_cases q3 : wat A + x ≤ 1000000
      · rw [if_pos q3, bx_l, if_pos ⟨q1, q2, q3⟩]
        have hI1 := Inv_goes hI0 (ni (gz (0 ≤ c ∧ c < nn A) (0 ≤ x ∧ x ≤ 100000) (wat A + x ≤ 1000000)))
        obtain ⟨Mc1, Mm1, s1, s2, RC, RMm, S1, T1, V1, F1⟩ := both_save hC (RM_of (M' := sI Mm 0 4 (ni (gz (0 ≤ c ∧ c < nn A) (0 ≤ x ∧ x ≤ 100000) (wat A + x ≤ 1000000)))) hM (fun k _ => rfl)) hW hw (SVI_fr (P := fun _ => False) hS Fr.rfl' (fun p z => z.elim) (by simp [gI, sI]) (fun q => rfl)) (TXI_fr (P := fun _ => False) hT Fr.rfl' (fun p z => z.elim) (by simp [gI, sI]) (fun q => by simp [gI, sI]))
        have e0 : gz (0 ≤ c ∧ c < nn A) (0 ≤ x ∧ x ≤ 100000) (wat A + x ≤ 1000000) = 0 := by unfold gz; rw [if_pos q1, if_pos q2, if_pos q3]
        rw [s1, s2, b2_s, b2_s, ni_64 hx.1 hx.2, RM_pour RMm, RM_lost RMm, RC.2.1]
        -- poured
        have hpC : RW 1 (sL Mc1 1 3 (prd A + nl x)) (pG A (prd A + nl x)) := by
          have hs' : Fr (fun p => p = 1) Mc1 (sL Mc1 1 3 (prd A + nl x)) := Fr.sL rfl
          have ge := pG_ge A (prd A + nl x)
          refine ⟨⟨ge.RG (RG_fr RC.1.1 hs' (by omega) (by omega) (by omega) (by omega)), ge.RT (RT_fr RC.1.2.1 hs' (by omega) (by omega)), ?_, RLs_long (A := A) rfl (pG_msk A _) (by simp [pG, aL, drn]) (by simp [pG, aL, pits]) (RLs_fr RC.1.2.2.2 hs' (by omega) (by omega) (by omega) (by omega) (by omega) (by omega) (by omega) (by omega) (by omega))⟩, ?_, ?_, ?_⟩
          · have y2 := RY_fr RC.1.2.2.1 hs' (by omega) (by omega) (by omega) (by omega)
            show RY 13 _ _ (bnn A) (bas A)
            unfold RY at *
            rw [← ge.nn, ← ge.pl, ← ge.tg]
            exact y2
          · simp [pG, aL, prd, gL, sL]
          · have := RC.2.2.1
            simpa [pG, aL, lst, gL, sL] using this
          · have := RC.2.2.2
            simpa [pG, aL, gon, gL, sL] using this
        have hpM : RM (sL Mm1 1 5 (prd A + nl x)) (pG A (prd A + nl x)) := RS_pour RMm (prd A + nl x)
        have hWp := (pG_WF (A := A) (prd A + nl x)).1 hW
        have hwp : wat (pG A (prd A + nl x)) = wat A := (pG_WF (A := A) (prd A + nl x)).2.1
        have hnp : nn (pG A (prd A + nl x)) = nn A := ((pG_ge A (prd A + nl x)).nn).symm
        obtain ⟨Mc2, p1, p2, p3, p4⟩ := c_pourAt (Or.inl rfl) hpC hWp q1.1 (by rw [hnp]; exact q1.2) q2.1 (by rw [hwp]; omega)
        obtain ⟨Mm2, r1, r2, r3⟩ := e_pours hpM hWp q1.1 (by rw [hnp]; exact q1.2) q2.1 (by rw [hwp]; omega)
        obtain ⟨w1, w2, w3, w4, w5, w6, w7, w8, w9, w10⟩ := prl_WF hWp (PK_lk hWp c) q2.1 (by rw [hwp]; omega)
        rw [p1, r1, b2_s, b2_s]
        have hlost : (gL Mm2 1 3 - lst A).toInt32 = ni (pr prN (pG A (prd A + nl x)) (lk (pG A (prd A + nl x)) c) x).2 := by
          rw [RM_lost r2, w8]
          have : lst (pG A (prd A + nl x)) = lst A := by simp [pG, aL, lst]
          rw [this, Int64.add_comm, Int64.add_sub_cancel, nl_32]
        refine ⟨_, _, _, _, rfl, rfl, ⟨_, p2, r2, w1, ⟨by omega, BS_ge w4 w5 w6 w7 (BS_pG _ hw.2)⟩, ?_, ?_⟩, Or.inl ⟨_, rfl, ?_, hlost⟩⟩
        · refine SVI_fr S1 ((Fr.sL (P := fun p => 1 ≤ p ∧ p < 47) (by omega)).trans (p3.mono (fun p hp => by unfold isLk at hp; omega))) (fun p hp => by omega) ?_ (fun q => ?_)
          · rw [r3.I (by omega)]; rfl
          · rw [r3.L (by omega)]; simp [gL, sL]
        · refine TXI_fr T1 ((Fr.sL (P := fun p => 1 ≤ p ∧ p < 47) (by omega)).trans (p3.mono (fun p hp => by unfold isLk at hp; omega))) (fun p hp => by omega) ?_ (fun q => ?_)
          · rw [r3.I (by omega)]; rfl
          · rw [r3.I (by omega)]; rfl
        · rw [r3.I (by omega)]
          show gI Mm1 0 4 = 0
          have : gI Mm1 0 4 = gI (sI Mm 0 4 (ni (gz (0 ≤ c ∧ c < nn A) (0 ≤ x ∧ x ≤ 100000) (wat A + x ≤ 1000000)))) 0 4 := V1.1 0 4 (by omega)
          rw [this, sI_eq, e0]; rfl
      · rw [if_neg q3, bx_r, if_neg (fun z => q3 z.2.2)]
        refine ⟨_, _, _, _, rfl, rfl, Inv_goes hI0 _, Or.inr (Or.inr (Or.inr ⟨rfl, ?_⟩))⟩
        rw [sI_eq]; unfold gz; rw [if_pos q1, if_pos q2, if_neg q3]; rfl
    · rw [if_neg q2, bx_r, if_neg (fun z => q2 z.2.1)]
      refine ⟨_, _, _, _, rfl, rfl, Inv_goes hI0 _, Or.inr (Or.inr (Or.inl ⟨rfl, ?_⟩))⟩
      rw [sI_eq]; unfold gz; rw [if_pos q1, if_neg q2]; rfl
  · rw [if_neg q1, bx_r, if_neg (fun z => q1 z.1)]
    refine ⟨_, _, _, _, rfl, rfl, Inv_goes hI0 _, Or.inr (Or.inl ⟨rfl, ?_⟩)⟩
    rw [sI_eq]; unfold gz; rw [if_neg q1]; rfl
