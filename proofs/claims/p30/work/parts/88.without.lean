/-! 88.without: a gate left out -/
theorem CD_frw {w : Nat} {M M' : Mem} {N : Int} {f v : Nat → Int} {P : Nat → Prop} (h : CD w M N f v) (F : Fr P M M') (h1 : ¬ P w) (h2 : ¬ P (w + 42 + 1)) (h3 : ¬ P (w + 44 + 1)) : CD w M' N f v := by
  refine ⟨by rw [F.gI h1]; exact h.1, fun n hn => ?_⟩
  rw [F.at h2, F.at h3]
  exact h.2 n hn
theorem sim21 : Sim21 Inv := by
  intro Mc Mm a0 a1 hI
  have hI0 := hI
  obtain ⟨A, hC, hM, hW, hw, hS, hT⟩ := hI
  have hn := nn_bd hW.1
  obtain ⟨a, ha, rfl⟩ := i32 a0
  obtain ⟨b, hb, rfl⟩ := i32 a1
  have zg := (sz_w (w := 47) (Or.inr (Or.inl rfl))).1
  have zl := (sz_w (w := 47) (Or.inr (Or.inl rfl))).2.2.1
  have zl1 := (sz_w (w := 1) (Or.inl rfl)).2.2.1
  unfold MD_withoutGate LL_withoutGate
  rw [e_isPair hM hW.1 ha.1 ha.2 hb.1 hb.2, b1_s, one_bI, e_goes (p := pair A a b), b2_s, c_needNeighbors hC.1.1 hW.1 ha.1 ha.2 hb.1 hb.2]
  simp only [bI_n0]
  by_cases q1 : pair A a b
  · rw [if_pos q1, bx_l, if_pos ⟨q1, trivial, trivial⟩]
    have hM0 : RM (sI Mm 0 4 (ni (gz (pair A a b) True True))) A := RM_of hM (fun k _ => rfl)
    have hS0 := SVI_goes hS (ni (gz (pair A a b) True True))
    have hT0 := TXI_goes hT (ni (gz (pair A a b) True True))
    have e4 : gI (sI Mm 0 4 (ni (gz (pair A a b) True True))) 0 4 = 0 := by
      rw [sI_eq]; unfold gz; rw [if_pos q1, if_pos trivial, if_pos trivial]; rfl
    have gB : WFg (sgt A a b (-1)) := sgt_WFg hW.1 (by omega)
    have hnB : nn (sgt A a b (-1)) = nn A := sgt_nb.2
    obtain ⟨eA, eB⟩ := sgt_A (A := A) (a := a) (b := b) (v := -1)
    obtain ⟨p1, p2, p3, p4⟩ := CH_pre hW hnB
    have hwt := hw.1
    obtain ⟨o1, o2, o3, o4⟩ := CH_ok hW hw.1 gB hnB
    -- the other side
    obtain ⟨m1, t1, F1⟩ := e_wet hM0 hW.1 hW.2.1
    have R1 := (FrL_FS F1).RM hM0
    obtain ⟨m2, t2, f1, f2, f3⟩ := e_lays m1
    have R2 := lays_RM R1 f2
    obtain ⟨m3, t3, F3, P3⟩ := e_remembers R2 hW
    have R3 := F3.RM R2
    obtain ⟨g1, g2⟩ := gta_val R3 hW.1 q1.1.1 q1.1.2 q1.2.1.1 q1.2.1.2
    obtain ⟨m4, t4, R4, F4⟩ := e_changes (RS_sgt R3 hW.1 q1 (-1)) gB p1 (PD_s1 P3 _ _) p2 p3 (by omega)
    have R4' : RM m4 (CH A (sgt A a b (-1))) := R4
    obtain ⟨m5, t5, F5⟩ := e_wet R4' o1.1 o1.2.1
    obtain ⟨m6, t6, g3, g4, g5⟩ := e_takesBack m5
    have fs : FS (sI Mm 0 4 (ni (gz (pair A a b) True True))) m6 := (FrL_FS F1).trans (aside f1 f2 f3 ((((FX.ofR F3).trans (FX.s1 _ _)).trans (FX.ofC F4)).trans (FX.ofL F5)) g3 g4 g5)
    -- this side
    obtain ⟨c1, u1, W1, G1⟩ := c_copy (o := 47) (a := 1) (Or.inr (Or.inl rfl)) (Or.inl rfl) (Or.inr (by omega)) hC
    obtain ⟨c2, u2, C2, G2, L2⟩ := c_noteLakes (w := 47) (Or.inr (Or.inl rfl)) W1.1 hW
    have RG2 : RG 48 c2 A := RG_fr (g := 48) W1.1.1 G2 (by omega) (by omega) (by omega) (by omega)
    have hp := c_putGate (g := 48) (v := -1) RG2 hW.1 q1
    have RG3 := RG_gate (g := 48) RG2 zg hW.1 q1 (pair_sy hW.1 q1) (-1)
    have G3 : Fr (fun p => p = 54) c2 (fPutI (48 + 5) (ni (4 * b + sd A b a)) (ni (-1)) (fPutI (48 + 5) (ni (4 * a + sd A a b)) (ni (-1)) c2)) := (Fr.put (P := fun p => p = 54) rfl).trans (Fr.put rfl)
    obtain ⟨c4, u4, W4, G4⟩ := c_renew (w := 47) (Or.inr (Or.inl rfl)) RG3 gB (by
        rw [G3.gL (by omega), G3.gL (by omega), G3.gL (by omega), L2, L2, L2]
        refine ⟨?_, ?_, ?_⟩
        · show _ = (sgt A a b (-1)).2 0 4; rw [eA]; exact W1.2.1
        · show _ = (sgt A a b (-1)).2 0 2; rw [eA]; exact W1.2.2.1
        · show _ = (sgt A a b (-1)).2 0 3; rw [eA]; exact W1.2.2.2) p1 (CD_frw C2 G3 (by omega) (by omega) (by omega)) p2 p3 (by omega)
    have W4' : RW 47 c4 (CH A (sgt A a b (-1))) := W4
    have FF : Fr (fun p => 47 ≤ p ∧ p < 93) Mc c4 := (((G1.mono (fun p hp => by omega)).trans (G2.mono (fun p hp => by omega))).trans (G3.mono (fun p hp => by omega))).trans (G4.mono (fun p hp => by omega))
    have hC4 : RW 1 c4 A := RW_fr hC FF (fun p x y z => by omega)
    have v1 := c_wetTotal (w := 47) W4'.1.1 W4'.1.2.1 W4'.1.2.2.2 o1.1 o1.2.1 zl
    have v2 := c_wetTotal (w := 1) hC4.1.1 hC4.1.2.1 hC4.1.2.2.2 hW.1 hW.2.1 zl1
    have hp' : GR_putGate 48 (ni a) (ni b) (-bI True) c2 = some ((), fPutI (48 + 5) (ni (4 * b + sd A b a)) (ni (-1)) (fPutI (48 + 5) (ni (4 * a + sd A a b)) (ni (-1)) c2)) := hp
    have t4' : MD_changes (sL m3 1 (gta A a b).toNat (-1 : Int64)) = some ((), m4) := t4
    rw [u1, b2_s, u2, b2_s, hp', b2_s, u4, b2_s, v1, b1_s, v2, b1_s, t1, b2_s, t2, b2_s, t3, b2_s, e_gateAt R3 hW.1 q1.1.1 q1.1.2 q1.2.1.1 q1.2.1.2, b1_s, ni_inb (by omega) (by omega), ck_d (by omega), ni_nat (by omega) (by omega), t4', b2_s, t5, b2_s, t6, b2_s]
    exact ⟨_, _, _, _, rfl, rfl, Inv_spare hC hM0 hW hw hS0 hT0 FF fs, Or.inl ⟨_, rfl, fs.1.trans e4, rfl⟩⟩
  · rw [if_neg q1, bx_r, if_neg (fun z => q1 z.1)]
    refine ⟨_, _, _, _, rfl, rfl, Inv_goes hI0 _, Or.inr ⟨rfl, ?_⟩⟩
    rw [sI_eq]; unfold gz; rw [if_neg q1]; rfl
