/-! 99a.parse: the last of the reading -/
theorem sim24 : Sim24 Inv := by
  intro Mc Mm hI
  obtain ⟨A, hC, hM, hW, hw, hS, hT⟩ := hI
  obtain ⟨tl, tl0, t1, t2, t3⟩ := id hT
  let T : Nat → Int := fun i => (gI Mm 12 i).toInt
  have hv : ∀ i : Nat, (i : Int) < tl → (0 ≤ T i ∧ T i ≤ 127) ∧ fAtI 95 (ni (i : Int)) Mc = ni (T i) ∧ gI Mm 12 i = ni (T i) := by
    intro i hi
    obtain ⟨v, v1, v2, v3⟩ := t3 i hi
    have e : T i = v := by
      show (gI Mm 12 i).toInt = v
      rw [v3, ni_toInt (by omega) (by omega)]
    rw [e]
    exact ⟨v1, v2, v3⟩
  have hTT : TTx T tl := ⟨tl0, fun i hi => (hv i hi).1⟩
  obtain ⟨p0, _, ep⟩ := i32 (gI Mc 94 2)
  obtain ⟨f0, _, ef⟩ := i32 (gI Mc 94 3)
  have hP : PCx T tl p0 f0 Mc := ⟨t1, ep, ef, fun i hi => (hv i hi).2.1⟩
  obtain ⟨Mc1, k1, k2, k3, k4⟩ := c_readInto hTT hP
  obtain ⟨Mm1, a1, a2, a3, a4⟩ := e_lays (sI Mm 0 4 (0 : Int32))
  have g1 : ∀ o q, gI Mm1 o q = gI (sI Mm 0 4 (0 : Int32)) o q := fun o q => by unfold gI; rw [a2]
  obtain ⟨m0, _, em⟩ := i32 (gI Mm1 0 22)
  have hQ : PMx T tl m0 Mm1 := ⟨by rw [g1, sI_ne (by omega)]; exact t2, em, fun i hi => by rw [g1, sI_ne (by omega)]; exact (hv i hi).2.2⟩
  obtain ⟨Mm2, b1, b2, b3⟩ := e_reads hTT hQ
  obtain ⟨q9, hq9, c1, c2⟩ := k2
  have RC1 : RW 1 Mc1 A := RW_fr hC k4 (fun p x y z => by omega)
  have tx : ∀ M, gI M 0 21 = gI Mm 0 21 → (∀ q, gI M 12 q = gI Mm 12 q) → TXI Mc1 M := fun M e1 e2 => ⟨tl, tl0, c1.1, by rw [e1]; exact t2, fun i hi => ⟨T i, (hv i hi).1, c1.2.2.2 i hi, by rw [e2]; exact (hv i hi).2.2⟩⟩
  have sv : ∀ M, gI M 0 3 = gI Mm 0 3 → (∀ q, gL M 2 q = gL Mm 2 q) → SVI Mc1 M := fun M e1 e2 => SVI_fr hS k4 (fun p hp => by omega) e1 e2
  have x21 : gI Mm2 0 21 = gI Mm 0 21 := by rw [b3.2.2.1, g1, sI_ne (by omega)]
  have x12 : ∀ q, gI Mm2 12 q = gI Mm 12 q := fun q => by rw [b3.2.2.2.1, g1, sI_ne (by omega)]
  have x3 : gI Mm2 0 3 = gI Mm 0 3 := by rw [b3.2.1, g1, sI_ne (by omega)]
  have y2 : ∀ q, gL Mm2 2 q = gL Mm 2 q := fun q => by rw [b3.2.2.2.2.2]; exact a3 2 q (by omega)
  have y3 : ∀ q, q < 513 → gL Mm2 3 q = gL Mm 1 q := fun q hq => by rw [b3.2.2.2.2.1]; exact a4 q hq
  unfold LL_parse MD_parse
  rw [k1, b2_s, a1, b2_s, b1, b2_s]
  have kb := k3.1
  by_cases hf : (rdS T tl).2.1 = -1
  · obtain ⟨d1, d2⟩ := b2.1 hf
    obtain ⟨_, G1⟩ := c2 hf
    obtain ⟨_, w, l⟩ := k3.2 hf
    obtain ⟨Mm3, e1, e2, e3⟩ := e_finds d2 w
    obtain ⟨Mm4, f1, f2, f3, f4, f5⟩ := e_swap Mm3
    have g4 : ∀ o q, gI Mm4 o q = gI Mm2 o q := fun o q => by unfold gI; rw [f2, e3.1]
    have z2 : ∀ q, gL Mm4 2 q = gL Mm 2 q := fun q => by
      rw [← y2 q]
      exact (f3 2 q (by omega) (by omega)).trans (e3.2 2 q (by omega) (by omega))
    have R4 : RM Mm4 A := RM_of hM (fun q hq => by rw [f4 q hq, ← y3 q hq]; exact e3.2 3 q (by omega) (by omega))
    obtain ⟨Mc5, Mm5, h1, h2, h3, h4, h5, h6, h7, h8⟩ := both_save RC1 R4 hW hw (sv Mm4 (by rw [g4, x3]) z2) (tx Mm4 (by rw [g4, x21]) (fun q => by rw [g4, x12]))
    have G5 : RG 48 Mc5 (rdS T tl).2.2 := RG_fr G1 h8 (by omega) (by omega) (by omega) (by omega)
    obtain ⟨Mc6, i1, i2, i3, _⟩ := c_groundCopy (o := 1) (a := 47) (Or.inl rfl) (Or.inr (Or.inl rfl)) (Or.inl (by omega)) G5
    obtain ⟨Mc7, j1, j2, j3⟩ := c_restartW (w := 1) (Or.inl rfl) i2 w l
    obtain ⟨Mm6, l1, l2, l3, l4⟩ := e_takesBack Mm5
    have FF : Fr (fun p => 1 ≤ p ∧ p < 47) Mc5 Mc7 := (i3.mono (fun p hp => by omega)).trans (j3.mono (fun p hp => by omega))
    have g6 : ∀ o q, gI Mm6 o q = gI Mm5 o q := fun o q => by unfold gI; rw [l2]
    have R6 : RM Mm6 (fnd (rdS T tl).2.2) := RM_of e2 (fun q hq => by rw [l4 q hq, show gL Mm5 3 q = gL Mm4 3 q from h7.2 3 q (by omega), f5 q hq])
    rw [bI_t hf, hf, if_pos (show ni (-1) = (-1 : Int32) from rfl), if_pos (by decide), h1, b2_s, i1, b2_s, j1, b2_s, e1, b2_s, f1, b2_s, h2, b2_s, l1, b2_s, RM_bn R6, nl_32, j2.1.2.2.1.1]
    refine ⟨_, _, _, rfl, rfl, ⟨_, j2, R6, fnd_WF w, WB_new, ?_, ?_⟩⟩
    · exact SVI_fr h5 FF (fun p hp => by omega) (g6 0 3) (fun q => l3 2 q (by omega))
    · exact TXI_fr h6 FF (fun p hp => by omega) (g6 0 21) (fun q => g6 12 q)
  · have d1 := b2.2 hf
    obtain ⟨Mm6, l1, l2, l3, l4⟩ := e_takesBack Mm2
    have g6 : ∀ o q, gI Mm6 o q = gI Mm2 o q := fun o q => by unfold gI; rw [l2]
    have R6 : RM Mm6 A := RM_of hM (fun q hq => by rw [l4 q hq, y3 q hq])
    have hne : ¬ (ni (rdS T tl).2.1 = (-1 : Int32)) := by
      rw [show (-1 : Int32) = ni (-1) from rfl, ni_eq (by omega) (by omega) (by omega) (by omega)]
      exact hf
    rw [if_neg hne, bI_f hf, if_neg (by decide), l1, b2_s, g6, d1.2.1]
    refine ⟨_, _, _, rfl, rfl, ⟨A, RC1, R6, hW, hw, ?_, ?_⟩⟩
    · exact sv Mm6 (by rw [g6, x3]) (fun q => by rw [← y2 q]; exact l3 2 q (by omega))
    · exact tx Mm6 (by rw [g6, x21]) (fun q => by rw [g6, x12])
