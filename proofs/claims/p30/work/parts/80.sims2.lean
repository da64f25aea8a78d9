/-! 80.sims2: cell, between, count -/
def FS (M M' : Mem) : Prop := gI M' 0 4 = gI M 0 4 ∧ gI M' 0 3 = gI M 0 3 ∧ gI M' 0 21 = gI M 0 21 ∧ (∀ q, gI M' 12 q = gI M 12 q) ∧ (∀ q, q < 513 → gL M' 1 q = gL M 1 q) ∧ ∀ q, gL M' 2 q = gL M 2 q
theorem FS.rfl' {M : Mem} : FS M M := ⟨rfl, rfl, rfl, fun _ => rfl, fun _ _ => rfl, fun _ => rfl⟩
theorem FS.trans {M M' M'' : Mem} (h : FS M M') (k : FS M' M'') : FS M M'' := ⟨k.1.trans h.1, k.2.1.trans h.2.1, k.2.2.1.trans h.2.2.1, fun q => (k.2.2.2.1 q).trans (h.2.2.2.1 q), fun q hq => (k.2.2.2.2.1 q hq).trans (h.2.2.2.2.1 q hq), fun q => (k.2.2.2.2.2 q).trans (h.2.2.2.2.2 q)⟩
theorem FS.RM {M M' : Mem} (h : FS M M') {A : Ab} (r : RM M A) : RM M' A := RM_of r (fun k hk => h.2.2.2.2.1 k hk)
theorem Inv_FS {Mc Mm Mm' : Mem} (h : Inv Mc Mm) (f : FS Mm Mm') : Inv Mc Mm' := by
  obtain ⟨A, hC, hM, hW, hw, hS, hT⟩ := h
  exact ⟨A, hC, f.RM hM, hW, hw, SVI_fr (P := fun _ => False) hS Fr.rfl' (fun p z => z.elim) f.2.1 f.2.2.2.2.2, TXI_fr (P := fun _ => False) hT Fr.rfl' (fun p z => z.elim) f.2.2.1 f.2.2.2.1⟩
theorem FrO_FS {M M' : Mem} (h : FrO M M') : FS M M' := by
  refine ⟨h.2 0 4 (by omega) (by omega), h.2 0 3 (by omega) (by omega), h.2 0 21 (by omega) (by omega), fun q => h.2 12 q (by omega) (by omega), fun q _ => ?_, fun q => ?_⟩ <;> (unfold gL; rw [h.1])
theorem FrL_FS {M M' : Mem} (h : FrL M M') : FS M M' := by
  refine ⟨?_, ?_, ?_, fun q => ?_, fun q _ => h.2 1 q (by omega), fun q => h.2 2 q (by omega)⟩ <;> (unfold gI; rw [h.1])
theorem FrP_FS {M M' : Mem} (h : FrP M M') : FS M M' := by
  refine ⟨h.2 0 4 (by omega), h.2 0 3 (by omega), h.2 0 21 (by omega), fun q => h.2 12 q (by omega), fun q _ => ?_, fun q => ?_⟩ <;> (unfold gL; rw [h.1])
/-- neighbors -/
abbrev pair (A : Ab) (a b : Int) : Prop := (0 ≤ a ∧ a < nn A) ∧ (0 ≤ b ∧ b < nn A) ∧ (nb A a 0 = b ∨ nb A a 1 = b ∨ nb A a 2 = b ∨ nb A a 3 = b)
def sd (A : Ab) (a b : Int) : Int := if nb A a 0 = b then 0 else if nb A a 1 = b then 1 else if nb A a 2 = b then 2 else if nb A a 3 = b then 3 else 4
theorem sd_ok {A : Ab} {a b : Int} (h : pair A a b) : (0 ≤ sd A a b ∧ sd A a b < 4) ∧ nb A a (sd A a b) = b ∧ ∀ j, 0 ≤ j → j < sd A a b → nb A a j ≠ b := by
  obtain ⟨_, _, h⟩ := h
  have hj : ∀ j : Int, 0 ≤ j → j < 4 → j = 0 ∨ j = 1 ∨ j = 2 ∨ j = 3 := fun j _ _ => by omega
  unfold sd
  by_cases q0 : nb A a 0 = b
  · rw [if_pos q0]; exact ⟨by omega, q0, fun j _ _ => by omega⟩
  · rw [if_neg q0]
    by_cases q1 : nb A a 1 = b
    · rw [if_pos q1]; refine ⟨by omega, q1, fun j z1 z2 => ?_⟩
      obtain rfl : j = 0 := by omega
      exact q0
    · rw [if_neg q1]
      by_cases q2 : nb A a 2 = b
      · rw [if_pos q2]; refine ⟨by omega, q2, fun j z1 z2 => ?_⟩
        obtain rfl | rfl : j = 0 ∨ j = 1 := by omega
        · exact q0
        · exact q1
      · rw [if_neg q2]
        by_cases q3 : nb A a 3 = b
        · rw [if_pos q3]; refine ⟨by omega, q3, fun j z1 z2 => ?_⟩
          obtain rfl | rfl | rfl : j = 0 ∨ j = 1 ∨ j = 2 := by omega
          · exact q0
          · exact q1
          · exact q2
        · rcases h with h | h | h | h
          · exact absurd h q0
          · exact absurd h q1
          · exact absurd h q2
          · exact absurd h q3
theorem c_sideTo {g : Nat} {M : Mem} {A : Ab} (hG : RG g M A) (w : WFg A) {a b : Int} (h1 : -2147483648 ≤ a) (h2 : a < 2147483648) (h3 : -2147483648 ≤ b) (h4 : b < 2147483648) : GR_sideTo g (ni a) (ni b) M = some (ni (if pair A a b then 4 * a + sd A a b else -1)) := by
  have hn := nn_bd w
  unfold GR_sideTo
  rw [c_exists hG w h1 h2, c_exists hG w h3 h4]
  simp only [bI_z, Classical.not_not]
  by_cases pa : 0 ≤ a ∧ a < nn A
  · rw [if_neg (by simp [pa])]
    by_cases pb : 0 ≤ b ∧ b < nn A
    · rw [if_pos pb]
      have hst : ∀ i : Nat, (i : Int) < 4 → nb A a i ≠ b → GR_sideTo_L22 g (ni a) (ni b) (ni (4 * a + (i : Int))) M = some (.inl (ni (4 * a + ((i + 1 : Nat) : Int)))) := by
        intro i hi hne
        have hr := nb_rg (s := i) w pa.1 pa.2
        unfold GR_sideTo_L22
        rw [hG.2.2.1 a i pa.1 pa.2 (by omega) (by omega)]
        simp (disch := omega) only [show (4 : Int32) = ni 4 from rfl, show (1 : Int32) = ni 1 from rfl, ni_mul, ni_add, ni_le, ni_eq]
        rw [if_neg (by omega), if_pos hne]
        refine congrArg some (congrArg Sum.inl (congrArg ni ?_))
        push_cast
        omega
      by_cases pr : pair A a b
      · obtain ⟨s1, s2, s3⟩ := sd_ok pr
        rw [if_pos pr]
        have key : lpR (fun s => GR_sideTo_L22 g (ni a) (ni b) s M) FUEL ((4 : Int32) * ni a) = some (.inr (ni (4 * a + sd A a b))) := by
          refine lpR_to (fun i => ni (4 * a + (i : Int))) _ (sd A a b).toNat (by omega) (fun i hi => hst i (by omega) (s3 i (by omega) (by omega))) ?_ ?_
          · have hr := nb_rg (s := sd A a b) w pa.1 pa.2
            rw [Int.toNat_of_nonneg s1.1]
            unfold GR_sideTo_L22
            rw [hG.2.2.1 a _ pa.1 pa.2 (by omega) (by omega), s2]
            simp (disch := omega) only [show (4 : Int32) = ni 4 from rfl, ni_mul, ni_add, ni_le, ni_eq]
            rw [if_neg (by omega), if_neg (by simp)]
          · rw [show (4 : Int32) = ni 4 from rfl, ni_mul]
            refine congrArg ni ?_
            simp
        rw [key, b1_s]
        rfl
      · rw [if_neg pr]
        have hne : ∀ i : Nat, (i : Int) < 4 → nb A a i ≠ b := by
          intro i hi e
          apply pr
          refine ⟨pa, pb, ?_⟩
          obtain q | q | q | q : (i : Int) = 0 ∨ (i : Int) = 1 ∨ (i : Int) = 2 ∨ (i : Int) = 3 := by omega
          all_goals (rw [q] at e; simp only [e, true_or, or_true])
        have key : lpR (fun s => GR_sideTo_L22 g (ni a) (ni b) s M) FUEL ((4 : Int32) * ni a) = some (.inl ()) := by
          refine lpR_to (fun i => ni (4 * a + (i : Int))) _ 4 (by omega) (fun i hi => hst i (by omega) (hne i (by omega))) ?_ ?_
          · unfold GR_sideTo_L22
            simp (disch := omega) only [show (4 : Int32) = ni 4 from rfl, ni_mul, ni_add, ni_le, ni_eq]
            rw [if_pos (by omega)]
          · rw [show (4 : Int32) = ni 4 from rfl, ni_mul]
            refine congrArg ni ?_
            simp
        rw [key, b1_s]
        rfl
    · rw [if_neg pb, if_neg (fun z => pb z.2.1)]
      rfl
  · rw [if_pos (by simp; omega), if_neg (fun z => pa z.1)]
    rfl
theorem c_needNeighbors {M : Mem} {A : Ab} (hG : RG 2 M A) (w : WFg A) {a b : Int} (h1 : -2147483648 ≤ a) (h2 : a < 2147483648) (h3 : -2147483648 ≤ b) (h4 : b < 2147483648) : LL_needNeighbors (ni a) (ni b) M = some (if pair A a b then .inl () else .inr 1, M) := by
  have hn := nn_bd w
  unfold LL_needNeighbors
  rw [c_sideTo hG w h1 h2 h3 h4, b1_s]
  by_cases p : pair A a b
  · obtain ⟨s1, s2, s3⟩ := sd_ok p
    have := p.1
    rw [if_pos p, if_pos p]
    simp (disch := omega) only [show (-1 : Int32) = ni (-1) from rfl, ni_eq]
    rw [if_pos (by omega)]
  · rw [if_neg p, if_neg p]
    rw [if_neg (by simp; rfl)]
theorem sim6 : Sim6 Inv := by
  intro Mc Mm a0 a1 a2 hI
  have hI0 := hI
  obtain ⟨A, hC, hM, hW, hw, hS, hT⟩ := hI
  have hn := nn_bd hW.1
  obtain ⟨a, ha, rfl⟩ := i32 a0
  obtain ⟨b, hb, rfl⟩ := i32 a1
  unfold MD_between LL_between
  rw [e_isPair hM hW.1 ha.1 ha.2 hb.1 hb.2, b1_s, one_bI, e_goes (p := pair A a b), b2_s, c_needNeighbors hC.1.1 hW.1 ha.1 ha.2 hb.1 hb.2]
  simp only [bI_n0]
  have hM' : RM (sI Mm 0 4 (ni (gz (pair A a b) True True))) A := RM_of hM (fun k _ => rfl)
  by_cases p : pair A a b
  · rw [if_pos p, bx_l, if_pos ⟨p, trivial, trivial⟩, c_sideTo hC.1.1 hW.1 ha.1 ha.2 hb.1 hb.2, if_pos p, b1_s]
    obtain ⟨s1, s2, s3⟩ := sd_ok p
    obtain ⟨p1, p2, _⟩ := id p
    have e7 : fAtI 7 (ni (4 * a + sd A a b)) Mc = ni (gt A a b) := by
      have := hC.1.1.2.2.2 a (sd A a b) p1.1 p1.2 s1.1 s1.2 (by omega)
      rw [s2] at this; exact this
    have e9 : fAtI 9 (ni (4 * a + sd A a b)) Mc = ni (thr A a b) := by
      have := hC.1.2.1.1 a (sd A a b) p1.1 p1.2 s1.1 s1.2
      unfold ths at this
      rw [s2, if_neg (by omega)] at this; exact this
    have e0 : gI (sI Mm 0 4 (ni (gz (pair A a b) True True))) 0 4 = 0 := by
      rw [sI_eq]; unfold gz; rw [if_pos p, if_pos trivial, if_pos trivial]; rfl
    obtain ⟨g1, g2⟩ := gta_val hM' hW.1 p1.1 p1.2 p2.1 p2.2
    rw [e7, e9]
    by_cases q : a2 = 0
    · rw [if_pos q, if_pos q, e_gateAt hM' hW.1 p1.1 p1.2 p2.1 p2.2, b1_s, ni_inb (by omega) (by omega), ck_d (by omega), ni_nat (by omega) (by omega), g2, nl_32]
      exact ⟨_, _, _, _, rfl, rfl, Inv_goes hI0 _, Or.inl ⟨_, rfl, e0, rfl⟩⟩
    · rw [if_neg q, if_neg q, e_threshold hM' hW.1 p1.1 p1.2 p2.1 p2.2, b1_s]
      exact ⟨_, _, _, _, rfl, rfl, Inv_goes hI0 _, Or.inl ⟨_, rfl, e0, rfl⟩⟩
  · rw [if_neg p, bx_r, if_neg (fun z => p z.1)]
    refine ⟨_, _, _, _, rfl, rfl, Inv_goes hI0 _, Or.inr ⟨rfl, ?_⟩⟩
    rw [sI_eq]; unfold gz; rw [if_neg p]; rfl
theorem seaT {w : Nat} {M : Mem} {A : Ab} (hG : RG (w + 1) M A) (g : WFg A) (hY : RY (w + 12) M A (bnn A) (bas A)) (hb : ∀ c, 0 ≤ c → c < nn A → -2147483648 ≤ bas A c ∧ bas A c < 2147483648) : WD_seaTotal w M = some (ni (ct (nn A).toNat (fun c => decide (bas A c = -1)))) := by
  have hn := nn_bd g
  unfold WD_seaTotal
  have key : lpR (fun s => WD_seaTotal_L4 w s.1 s.2 M) FUEL ((0 : Int32), (0 : Int32)) = some (ni (ct (nn A).toNat (fun c => decide (bas A c = -1)))) := by
    refine lpR_to (fun i => (ni (ct i (fun c => decide (bas A c = -1))), ni (i : Int))) _ (nn A).toNat (by omega) ?_ ?_ rfl
    · intro i hi
      have hc := ct_bd i (fun c => decide (bas A c = -1))
      have hbi := hb i (by omega) (by omega)
      have e := hY.2.2 i (by omega) (by omega)
      rw [if_pos (by omega)] at e
      unfold WD_seaTotal_L4
      dsimp only
      rw [hG.1.2.2.1, show w + 17 = w + 12 + 5 from rfl, e]
      simp (disch := omega) only [show (1 : Int32) = ni 1 from rfl, show (0 : Int32) = ni 0 from rfl, ni_neg, ni_eq, ni_le]
      rw [if_neg (by omega), ct_succ]
      by_cases z : bas A i = -1
      · rw [if_neg (by simp [z]), if_pos (by simp [z]), ni_add, ni_add]; rfl
      · rw [if_pos z, if_neg (by simp [z]), ni_add, ni_add]; rfl
    · unfold WD_seaTotal_L4
      dsimp only
      rw [hG.1.2.2.1]
      simp (disch := omega) only [ni_le]
      rw [if_pos (by omega)]
  rw [key, b1_s]
theorem e_seaCells {M : Mem} {A : Ab} (h : RM M A) (g : WFg A) (hb : ∀ c, 0 ≤ c → c < nn A → -2147483648 ≤ bas A c ∧ bas A c < 2147483648) : MD_seaCells M = some (ni (ct (nn A).toNat (fun c => decide (bas A c = -1)))) := by
  have hn := nn_bd g
  unfold MD_seaCells
  have key : lpR (fun s => MD_seaCells_L4 s.1 s.2 M) FUEL ((0 : Int32), (0 : Int32)) = some (ni (ct (nn A).toNat (fun c => decide (bas A c = -1)))) := by
    refine lpR_to (fun i => (ni (ct i (fun c => decide (bas A c = -1))), ni (i : Int))) _ (nn A).toNat (by omega) ?_ ?_ rfl
    · intro i hi
      have hc := ct_bd i (fun c => decide (bas A c = -1))
      have hbi := hb i (by omega) (by omega)
      have e := RM_bas h (c := i) (by omega) (by omega)
      unfold MD_seaCells_L4
      dsimp only
      rw [e_many h]
      simp (disch := omega) only [show (116 : Int32) = ni 116 from rfl, show (1 : Int32) = ni 1 from rfl, show (0 : Int32) = ni 0 from rfl, show (-1 : Int64) = nl (-1) from rfl, ni_le, ni_add, ni_inb, ni_nat]
      rw [if_neg (by omega), ck_d (by omega), show (116 + (i : Int)).toNat = 116 + (i : Int).toNat by omega, e, ct_succ]
      simp (disch := omega) only [nl_eq]
      by_cases z : bas A i = -1
      · rw [if_neg (by simp [z]), if_pos (by simp [z])]; rfl
      · rw [if_pos z, if_neg (by simp [z])]; rfl
    · unfold MD_seaCells_L4
      dsimp only
      rw [e_many h]
      simp (disch := omega) only [ni_le]
      rw [if_pos (by omega)]
  rw [key, b1_s]
theorem bas_bd {A : Ab} (g : WFg A) (hB : BS A) {c : Int} (h0 : 0 ≤ c) (h1 : c < nn A) : -1 ≤ bas A c ∧ bas A c ≤ 36 := by
  have := bsn_rg g h0 h1
  have := npt_bd g
  have := nn_bd g
  rw [hB.2.1 c h0 h1]
  omega
