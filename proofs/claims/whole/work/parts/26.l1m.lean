set_option maxRecDepth 100000 in
set_option maxHeartbeats 4000000 in
theorem c_MD_lakeValue (l : Launch) (Y : Env1) (hG : gY Y = gM) (a1 : Int32) (a2 : Int32) (M : Mem) (r : Int32) (M1 : Mem) (hE : MD_lakeValue a1 a2 M = some (r, M1)) : CnI l Y yX8_lakeValue cX8_lakeValue 6 .int 7 [.ref (hY Y + 0), .int a1, .int a2] M r M1 := by
  refine met_I (own := RX8) (by decide +kernel) rfl hG (Nat.le_of_ble_eq_true rfl) (fun X S hY1 hl1 hret => ?_)
  subst hY1
  subst hl1
  show AW X 0 [(0, .ref (hY X.2.1.2 + 0)), (1, .int a1), (2, .int a2)] [] M
  have J132 : ∀ (v2 : Int32) (v3 : Int32) (M : Mem), MD_lakeValue_J132 v2 v3 M = some (r, M1) → AW X 132 [(0, .ref (hY X.2.1.2 + 0)), (2, .int v2), (3, .int v3)] [] M := by
    intro v2 v3 M hE
    unfold MD_lakeValue_J132 at hE
    refine r_aload_n S dX8_lakeValue_132 0 rfl ?_
    refine r_iload_n S dX8_lakeValue_133 2 rfl ?_
    obtain ⟨x1, M2, h9, hE⟩ := b2_some hE
    refine rc_V S (rn_V S fc8 (by decide) (c_MD_findsPass _ _ (gYX S) v3 M _ _ h9) wdX8_findsPass q_597 ⟨Nat.le_of_ble_eq_true rfl, Nat.le_of_ble_eq_true rfl⟩ rfl (Nat.le_of_ble_eq_true rfl) dX8_lakeValue_134) ?_
    refine r_iload_n S dX8_lakeValue_137 1 rfl ?_
    refine r_bipush S (6 : Int32) dX8_lakeValue_138 rfl ?_
    refine r_icmp_ne S 150 dX8_lakeValue_140 (by decide) (fun c => ?_) (fun c => ?_)
    · try simp only [if_pos c] at hE
      refine r_iload_n S dX8_lakeValue_150 1 rfl ?_
      refine r_bipush S (7 : Int32) dX8_lakeValue_151 rfl ?_
      refine r_icmp_ne S 163 dX8_lakeValue_153 (by decide) (fun c => ?_) (fun c => ?_)
      · try simp only [if_pos c] at hE
        refine r_aload_n S dX8_lakeValue_163 0 rfl ?_
        refine r_getI S fc8 (by decide) 7 rfl q_596 dX8_lakeValue_164 ?_
        obtain ⟨rfl, rfl⟩ := si2 hE
        exact hret _ _ dX8_lakeValue_167
      · try simp only [if_neg (not_not_intro c)] at hE
        refine r_aload_n S dX8_lakeValue_156 0 rfl ?_
        refine r_getI S fc8 (by decide) 6 rfl q_595 dX8_lakeValue_157 ?_
        refine r_goto S 167 dX8_lakeValue_160 (by decide) ?_
        obtain ⟨rfl, rfl⟩ := si2 hE
        exact hret _ _ dX8_lakeValue_167
    · try simp only [if_neg (not_not_intro c)] at hE
      refine r_aload_n S dX8_lakeValue_143 0 rfl ?_
      refine r_getI S fc8 (by decide) 8 rfl q_594 dX8_lakeValue_144 ?_
      refine r_goto S 167 dX8_lakeValue_147 (by decide) ?_
      obtain ⟨rfl, rfl⟩ := si2 hE
      exact hret _ _ dX8_lakeValue_167
  unfold MD_lakeValue at hE
  refine r_aload_n S dX8_lakeValue_0 0 rfl ?_
  obtain ⟨x1, M2, h9, hE⟩ := b2_some hE
  refine rc_V S (rn_V S fc8 (by decide) (c_MD_orders _ _ (gYX S)  M _ _ h9) wdX8_orders q_641 ⟨Nat.le_of_ble_eq_true rfl, Nat.le_of_ble_eq_true rfl⟩ rfl (Nat.le_of_ble_eq_true rfl) dX8_lakeValue_1) ?_
  refine r_aload_n S dX8_lakeValue_4 0 rfl ?_
  refine r_getRK S fc8 (by decide) 11 7 rfl rfl q_640 dX8_lakeValue_5 ?_
  refine r_iload_n S dX8_lakeValue_8 1 rfl ?_
  obtain ⟨hi, hE⟩ := ck_some hE
  refine r_iald S (by decide) hi dX8_lakeValue_9 ?_
  refine r_istore_n (lv2 := [(3, .int (gI M2 7 a1.toNatClampNeg)), (0, .ref (hY X.2.1.2 + 0)), (1, .int a1), (2, .int a2)]) S dX8_lakeValue_10 (by decide) rfl ?_
  refine r_aload_n S dX8_lakeValue_11 1 rfl ?_
  refine r_getRK S fc8 (by decide) 0 1 rfl rfl q_523 dX8_lakeValue_12 ?_
  refine r_sipush S (152 : Int32) dX8_lakeValue_15 rfl ?_
  refine r_iload_n S dX8_lakeValue_18 0 rfl ?_
  refine r_iadd S dX8_lakeValue_19 ?_
  obtain ⟨hi, hE⟩ := ck_some hE
  refine r_lald S (by decide) hi dX8_lakeValue_20 ?_
  refine r_lstore (lv2 := [(4, .long (gL M2 1 ((152 : Int32) + (gI M2 7 a1.toNatClampNeg)).toNatClampNeg)), (3, .int (gI M2 7 a1.toNatClampNeg)), (0, .ref (hY X.2.1.2 + 0)), (1, .int a1), (2, .int a2)]) S dX8_lakeValue_21 (by decide) rfl ?_
  refine r_iload_n S dX8_lakeValue_23 4 rfl ?_
  by_cases c0 : a2 = (0 : Int32)
  · rw [if_pos c0] at hE
    refine r_tin S 80 (0 : Int32) c0 dX8_lakeValue_24 (by decide) (by decide) rfl (by decide) ?_
    refine r_aload_n S dX8_lakeValue_80 2 rfl ?_
    refine r_getRK S fc8 (by decide) 0 1 rfl rfl q_523 dX8_lakeValue_81 ?_
    refine r_sipush S (224 : Int32) dX8_lakeValue_84 rfl ?_
    refine r_iload_n S dX8_lakeValue_87 1 rfl ?_
    refine r_iadd S dX8_lakeValue_88 ?_
    obtain ⟨hi, hE⟩ := ck_some hE
    refine r_lald S (by decide) hi dX8_lakeValue_89 ?_
    refine r_l2i S dX8_lakeValue_90 ?_
    obtain ⟨rfl, rfl⟩ := si2 hE
    exact hret _ _ dX8_lakeValue_91
  · rw [if_neg c0] at hE
    by_cases c1 : a2 = (1 : Int32)
    · rw [if_pos c1] at hE
      refine r_tin S 92 (1 : Int32) c1 dX8_lakeValue_24 (by decide) (by decide) rfl (by decide) ?_
      refine r_aload_n S dX8_lakeValue_92 2 rfl ?_
      refine r_iload_n S dX8_lakeValue_93 1 rfl ?_
      obtain ⟨x3, M4, h9, hE⟩ := b2_some hE
      refine rc_L S (rn_V S fc8 (by decide) (c_MD_capacity _ _ (gYX S) (gI M2 7 a1.toNatClampNeg) M2 _ _ h9) wdX8_capacity q_602 ⟨Nat.le_of_ble_eq_true rfl, Nat.le_of_ble_eq_true rfl⟩ rfl (Nat.le_of_ble_eq_true rfl) dX8_lakeValue_94) ?_
      refine r_l2i S dX8_lakeValue_97 ?_
      obtain ⟨rfl, rfl⟩ := si2 hE
      exact hret _ _ dX8_lakeValue_98
    · rw [if_neg c1] at hE
      by_cases c2 : a2 = (2 : Int32)
      · rw [if_pos c2] at hE
        refine r_tin S 99 (2 : Int32) c2 dX8_lakeValue_24 (by decide) (by decide) rfl (by decide) ?_
        refine r_lload S dX8_lakeValue_99 0 rfl ?_
        obtain ⟨x5, h9, hE⟩ := b1_some hE
        refine rc_I S (rn_S S (c_MD_lowest _ _ (gYX S) (gL M2 1 ((152 : Int32) + (gI M2 7 a1.toNatClampNeg)).toNatClampNeg) M2 _ h9) wdX8_lowest q_590 ⟨Nat.le_of_ble_eq_true rfl, Nat.le_of_ble_eq_true rfl⟩ rfl (Nat.le_of_ble_eq_true rfl) dX8_lakeValue_101) ?_
        obtain ⟨rfl, rfl⟩ := si2 hE
        exact hret _ _ dX8_lakeValue_104
      · rw [if_neg c2] at hE
        by_cases c3 : a2 = (3 : Int32)
        · rw [if_pos c3] at hE
          refine r_tin S 105 (3 : Int32) c3 dX8_lakeValue_24 (by decide) (by decide) rfl (by decide) ?_
          refine r_lload S dX8_lakeValue_105 0 rfl ?_
          obtain ⟨x6, h9, hE⟩ := b1_some hE
          refine rc_I S (rn_S S (c_MD_bits _ _ (gYX S) (gL M2 1 ((152 : Int32) + (gI M2 7 a1.toNatClampNeg)).toNatClampNeg) M2 _ h9) wdX8_bits q_776 ⟨Nat.le_of_ble_eq_true rfl, Nat.le_of_ble_eq_true rfl⟩ rfl (Nat.le_of_ble_eq_true rfl) dX8_lakeValue_107) ?_
          obtain ⟨rfl, rfl⟩ := si2 hE
          exact hret _ _ dX8_lakeValue_110
        · rw [if_neg c3] at hE
          by_cases c4 : a2 = (4 : Int32)
          · rw [if_pos c4] at hE
            refine r_tin S 111 (4 : Int32) c4 dX8_lakeValue_24 (by decide) (by decide) rfl (by decide) ?_
            refine r_aload_n S dX8_lakeValue_111 2 rfl ?_
            refine r_lload S dX8_lakeValue_112 0 rfl ?_
            obtain ⟨x7, M8, h9, hE⟩ := b2_some hE
            refine rc_I S (rn_V S fc8 (by decide) (c_MD_wetOf _ _ (gYX S) (gL M2 1 ((152 : Int32) + (gI M2 7 a1.toNatClampNeg)).toNatClampNeg) M2 _ _ h9) wdX8_wetOf q_658 ⟨Nat.le_of_ble_eq_true rfl, Nat.le_of_ble_eq_true rfl⟩ rfl (Nat.le_of_ble_eq_true rfl) dX8_lakeValue_114) ?_
            obtain ⟨rfl, rfl⟩ := si2 hE
            exact hret _ _ dX8_lakeValue_117
          · rw [if_neg c4] at hE
            by_cases c5 : a2 = (5 : Int32)
            · rw [if_pos c5] at hE
              refine r_tin S 118 (5 : Int32) c5 dX8_lakeValue_24 (by decide) (by decide) rfl (by decide) ?_
              refine r_aload_n S dX8_lakeValue_118 2 rfl ?_
              refine r_lload S dX8_lakeValue_119 0 rfl ?_
              obtain ⟨x9, h9, hE⟩ := b1_some hE
              refine rc_I S (rn_V S fc8 (by decide) (c_MD_basinsOf _ _ (gYX S) (gL M2 1 ((152 : Int32) + (gI M2 7 a1.toNatClampNeg)).toNatClampNeg) M2 _ h9) wdX8_basinsOf q_771 ⟨Nat.le_of_ble_eq_true rfl, Nat.le_of_ble_eq_true rfl⟩ rfl (Nat.le_of_ble_eq_true rfl) dX8_lakeValue_121) ?_
              obtain ⟨rfl, rfl⟩ := si2 hE
              exact hret _ _ dX8_lakeValue_124
            · rw [if_neg c5] at hE
              by_cases c9 : a2 = (9 : Int32)
              · rw [if_pos c9] at hE
                refine r_tin S 125 (9 : Int32) c9 dX8_lakeValue_24 (by decide) (by decide) rfl (by decide) ?_
                refine r_aload_n S dX8_lakeValue_125 2 rfl ?_
                refine r_iload_n S dX8_lakeValue_126 1 rfl ?_
                obtain ⟨x10, M11, h9, hE⟩ := b2_some hE
                refine rc_L S (rn_V S fc8 (by decide) (c_MD_leastVolume _ _ (gYX S) (gI M2 7 a1.toNatClampNeg) M2 _ _ h9) wdX8_leastVolume q_629 ⟨Nat.le_of_ble_eq_true rfl, Nat.le_of_ble_eq_true rfl⟩ rfl (Nat.le_of_ble_eq_true rfl) dX8_lakeValue_127) ?_
                refine r_l2i S dX8_lakeValue_130 ?_
                obtain ⟨rfl, rfl⟩ := si2 hE
                exact hret _ _ dX8_lakeValue_131
              · rw [if_neg c9] at hE
                by_cases c6 : a2 = (6 : Int32)
                · refine r_tin S 132 (6 : Int32) c6 dX8_lakeValue_24 (by decide) (by decide) rfl (by decide) ?_
                  exact r_sub [2, 4, 1] rfl (J132 a2 (gI M2 7 a1.toNatClampNeg) M2 hE)
                · by_cases c7 : a2 = (7 : Int32)
                  · refine r_tin S 132 (7 : Int32) c7 dX8_lakeValue_24 (by decide) (by decide) rfl (by decide) ?_
                    exact r_sub [2, 4, 1] rfl (J132 a2 (gI M2 7 a1.toNatClampNeg) M2 hE)
                  · by_cases c8 : a2 = (8 : Int32)
                    · refine r_tin S 132 (8 : Int32) c8 dX8_lakeValue_24 (by decide) (by decide) rfl (by decide) ?_
                      exact r_sub [2, 4, 1] rfl (J132 a2 (gI M2 7 a1.toNatClampNeg) M2 hE)
                    · have e0 : (a2).toInt ≠ 0 := fun h => c0 (Int32.toInt_inj.mp h)
                      have e1 : (a2).toInt ≠ 1 := fun h => c1 (Int32.toInt_inj.mp h)
                      have e2 : (a2).toInt ≠ 2 := fun h => c2 (Int32.toInt_inj.mp h)
                      have e3 : (a2).toInt ≠ 3 := fun h => c3 (Int32.toInt_inj.mp h)
                      have e4 : (a2).toInt ≠ 4 := fun h => c4 (Int32.toInt_inj.mp h)
                      have e5 : (a2).toInt ≠ 5 := fun h => c5 (Int32.toInt_inj.mp h)
                      have e6 : (a2).toInt ≠ 6 := fun h => c6 (Int32.toInt_inj.mp h)
                      have e7 : (a2).toInt ≠ 7 := fun h => c7 (Int32.toInt_inj.mp h)
                      have e8 : (a2).toInt ≠ 8 := fun h => c8 (Int32.toInt_inj.mp h)
                      have e9 : (a2).toInt ≠ 9 := fun h => c9 (Int32.toInt_inj.mp h)
                      refine r_tout S 132 dX8_lakeValue_24 (by omega) (by decide) ?_
                      exact r_sub [2, 4, 1] rfl (J132 a2 (gI M2 7 a1.toNatClampNeg) M2 hE)
set_option maxRecDepth 100000 in
set_option maxHeartbeats 4000000 in
theorem c_MD_lake (l : Launch) (Y : Env1) (hG : gY Y = gM) (a1 : Int32) (a2 : Int32) (M : Mem) (r : Int32) (M1 : Mem) (hE : MD_lake a1 a2 M = some (r, M1)) : CnI l Y yX8_lake cX8_lake 3 .int 8 [.ref (hY Y + 0), .int a1, .int a2] M r M1 := by
  refine met_I (own := RX8) (by decide +kernel) rfl hG (Nat.le_of_ble_eq_true rfl) (fun X S hY1 hl1 hret => ?_)
  subst hY1
  subst hl1
  show AW X 0 [(0, .ref (hY X.2.1.2 + 0)), (1, .int a1), (2, .int a2)] [] M
  unfold MD_lake at hE
  refine r_aload_n S dX8_lake_0 0 rfl ?_
  refine r_aload_n S dX8_lake_1 0 rfl ?_
  refine r_iload_n S dX8_lake_2 1 rfl ?_
  obtain ⟨x1, M2, h9, hE⟩ := b2_some hE
  refine rc_I S (rn_V S fc8 (by decide) (c_MD_isLake _ _ (gYX S) a1 M _ _ h9) wdX8_isLake q_760 ⟨Nat.le_of_ble_eq_true rfl, Nat.le_of_ble_eq_true rfl⟩ rfl (Nat.le_of_ble_eq_true rfl) dX8_lake_3) ?_
  refine r_iload_n S dX8_lake_6 2 rfl ?_
  refine r_i2l S dX8_lake_7 ?_
  refine r_lconst S (0 : Int64) dX8_lake_8 rfl ?_
  refine r_ldc2 S (v := 9) q_780 dX8_lake_9 ?_
  refine rc_I S (rn_S S (c_MD_in _ _ (gYX S) a2.toInt64 (0 : Int64) (9 : Int64) M2 _ rfl) wdX8_in q_530 ⟨Nat.le_of_ble_eq_true rfl, Nat.le_of_ble_eq_true rfl⟩ rfl (Nat.le_of_ble_eq_true rfl) dX8_lake_12) ?_
  refine r_iconst S (1 : Int32) dX8_lake_15 rfl ?_
  obtain ⟨x3, M4, h9, hE⟩ := b2_some hE
  refine rc_I S (rn_V S fc8 (by decide) (c_MD_goes _ _ (gYX S) x1 (MD_in a2.toInt64 (0 : Int64) (9 : Int64)) (1 : Int32) M2 _ _ h9) wdX8_goes q_677 ⟨Nat.le_of_ble_eq_true rfl, Nat.le_of_ble_eq_true rfl⟩ rfl (Nat.le_of_ble_eq_true rfl) dX8_lake_16) ?_
  refine r_if_eq S 31 dX8_lake_19 (by decide) (fun c => ?_) (fun c => ?_)
  · rw [if_pos c] at hE
    refine r_iconst S (0 : Int32) dX8_lake_31 rfl ?_
    obtain ⟨rfl, rfl⟩ := si2 hE
    exact hret _ _ dX8_lake_32
  · rw [if_neg c] at hE
    refine r_aload_n S dX8_lake_22 0 rfl ?_
    refine r_iload_n S dX8_lake_23 1 rfl ?_
    refine r_iload_n S dX8_lake_24 2 rfl ?_
    obtain ⟨x5, M6, h9, hE⟩ := b2_some hE
    refine rc_I S (rn_V S fc8 (by decide) (c_MD_lakeValue _ _ (gYX S) a1 a2 M4 _ _ h9) wdX8_lakeValue q_781 ⟨Nat.le_of_ble_eq_true rfl, Nat.le_of_ble_eq_true rfl⟩ rfl (Nat.le_of_ble_eq_true rfl) dX8_lake_25) ?_
    refine r_goto S 32 dX8_lake_28 (by decide) ?_
    obtain ⟨rfl, rfl⟩ := si2 hE
    exact hret _ _ dX8_lake_32
set_option maxRecDepth 100000 in
set_option maxHeartbeats 4000000 in
theorem c_MD_lakeCells (l : Launch) (Y : Env1) (hG : gY Y = gM) (a1 : Int32) (M : Mem) (r : Int64) (M1 : Mem) (hE : MD_lakeCells a1 M = some (r, M1)) : CnL l Y yX8_lakeCells cX8_lakeCells 2 4 [.ref (hY Y + 0), .int a1] M r M1 := by
  refine met_L (own := RX8) (by decide +kernel) rfl hG (Nat.le_of_ble_eq_true rfl) (fun X S hY1 hl1 hret => ?_)
  subst hY1
  subst hl1
  show AW X 0 [(0, .ref (hY X.2.1.2 + 0)), (1, .int a1)] [] M
  unfold MD_lakeCells at hE
  refine r_aload_n S dX8_lakeCells_0 0 rfl ?_
  refine r_aload_n S dX8_lakeCells_1 0 rfl ?_
  refine r_iload_n S dX8_lakeCells_2 1 rfl ?_
  obtain ⟨x1, M2, h9, hE⟩ := b2_some hE
  refine rc_I S (rn_V S fc8 (by decide) (c_MD_isLake _ _ (gYX S) a1 M _ _ h9) wdX8_isLake q_760 ⟨Nat.le_of_ble_eq_true rfl, Nat.le_of_ble_eq_true rfl⟩ rfl (Nat.le_of_ble_eq_true rfl) dX8_lakeCells_3) ?_
  refine r_iconst S (1 : Int32) dX8_lakeCells_6 rfl ?_
  refine r_iconst S (1 : Int32) dX8_lakeCells_7 rfl ?_
  obtain ⟨x3, M4, h9, hE⟩ := b2_some hE
  refine rc_I S (rn_V S fc8 (by decide) (c_MD_goes _ _ (gYX S) x1 (1 : Int32) (1 : Int32) M2 _ _ h9) wdX8_goes q_677 ⟨Nat.le_of_ble_eq_true rfl, Nat.le_of_ble_eq_true rfl⟩ rfl (Nat.le_of_ble_eq_true rfl) dX8_lakeCells_8) ?_
  refine r_if_eq S 32 dX8_lakeCells_11 (by decide) (fun c => ?_) (fun c => ?_)
  · rw [if_pos c] at hE
    refine r_lconst S (0 : Int64) dX8_lakeCells_32 rfl ?_
    obtain ⟨rfl, rfl⟩ := si2 hE
    exact hret _ _ dX8_lakeCells_33
  · rw [if_neg c] at hE
    refine r_aload_n S dX8_lakeCells_14 0 rfl ?_
    refine r_getRK S fc8 (by decide) 0 1 rfl rfl q_523 dX8_lakeCells_15 ?_
    refine r_sipush S (152 : Int32) dX8_lakeCells_18 rfl ?_
    refine r_aload_n S dX8_lakeCells_21 0 rfl ?_
    refine r_getRK S fc8 (by decide) 11 7 rfl rfl q_640 dX8_lakeCells_22 ?_
    refine r_iload_n S dX8_lakeCells_25 1 rfl ?_
    obtain ⟨hi, hE⟩ := ck_some hE
    refine r_iald S (by decide) hi dX8_lakeCells_26 ?_
    refine r_iadd S dX8_lakeCells_27 ?_
    obtain ⟨hi, hE⟩ := ck_some hE
    refine r_lald S (by decide) hi dX8_lakeCells_28 ?_
    refine r_goto S 33 dX8_lakeCells_29 (by decide) ?_
    obtain ⟨rfl, rfl⟩ := si2 hE
    exact hret _ _ dX8_lakeCells_33
set_option maxRecDepth 100000 in
set_option maxHeartbeats 4000000 in
theorem c_MD_levelPart (l : Launch) (Y : Env1) (hG : gY Y = gM) (a1 : Int32) (a2 : Int32) (M : Mem) (r : Int32) (M1 : Mem) (hE : MD_levelPart a1 a2 M = some (r, M1)) : CnI l Y yX8_levelPart cX8_levelPart 5 .int 3 [.ref (hY Y + 0), .int a1, .int a2] M r M1 := by
  refine met_I (own := RX8) (by decide +kernel) rfl hG (Nat.le_of_ble_eq_true rfl) (fun X S hY1 hl1 hret => ?_)
  subst hY1
  subst hl1
  show AW X 0 [(0, .ref (hY X.2.1.2 + 0)), (1, .int a1), (2, .int a2)] [] M
  unfold MD_levelPart at hE
  refine r_aload_n S dX8_levelPart_0 0 rfl ?_
  obtain ⟨x1, M2, h9, hE⟩ := b2_some hE
  refine rc_V S (rn_V S fc8 (by decide) (c_MD_orders _ _ (gYX S)  M _ _ h9) wdX8_orders q_641 ⟨Nat.le_of_ble_eq_true rfl, Nat.le_of_ble_eq_true rfl⟩ rfl (Nat.le_of_ble_eq_true rfl) dX8_levelPart_1) ?_
  refine r_aload_n S dX8_levelPart_4 0 rfl ?_
  refine r_aload_n S dX8_levelPart_5 0 rfl ?_
  refine r_getRK S fc8 (by decide) 11 7 rfl rfl q_640 dX8_levelPart_6 ?_
  refine r_iload_n S dX8_levelPart_9 1 rfl ?_
  obtain ⟨hi, hE⟩ := ck_some hE
  refine r_iald S (by decide) hi dX8_levelPart_10 ?_
  obtain ⟨x3, M4, h9, hE⟩ := b2_some hE
  refine rc_V S (rn_V S fc8 (by decide) (c_MD_levels _ _ (gYX S) (gI M2 7 a1.toNatClampNeg) M2 _ _ h9) wdX8_levels q_648 ⟨Nat.le_of_ble_eq_true rfl, Nat.le_of_ble_eq_true rfl⟩ rfl (Nat.le_of_ble_eq_true rfl) dX8_levelPart_11) ?_
  refine r_aload_n S dX8_levelPart_14 0 rfl ?_
  refine r_getL S fc8 (by decide) 13 rfl q_647 dX8_levelPart_15 ?_
  refine r_aload_n S dX8_levelPart_18 0 rfl ?_
  refine r_getL S fc8 (by decide) 14 rfl q_646 dX8_levelPart_19 ?_
  obtain ⟨x5, h9, hE⟩ := b1_some hE
  refine rc_L S (rn_S S (c_MD_divisor _ _ (gYX S) (gL M4 0 13) (gL M4 0 14) M4 _ h9) wdX8_divisor q_786 ⟨Nat.le_of_ble_eq_true rfl, Nat.le_of_ble_eq_true rfl⟩ rfl (Nat.le_of_ble_eq_true rfl) dX8_levelPart_22) ?_
  refine r_lstore_n (lv2 := [(3, .long x5), (0, .ref (hY X.2.1.2 + 0)), (1, .int a1), (2, .int a2)]) S dX8_levelPart_25 (by decide) rfl ?_
  refine r_iload_n S dX8_levelPart_26 3 rfl ?_
  refine r_if_ne S 37 dX8_levelPart_27 (by decide) (fun c => ?_) (fun c => ?_)
  · try simp only [if_pos c] at hE
    refine r_aload_n S dX8_levelPart_37 1 rfl ?_
    refine r_getL S fc8 (by decide) 14 rfl q_646 dX8_levelPart_38 ?_
    refine r_lload_n S dX8_levelPart_41 0 rfl ?_
    obtain ⟨hy, hE⟩ := ck_some hE
    refine r_ldiv S dX8_levelPart_42 (of_decide_eq_true hy) ?_
    refine r_l2i S dX8_levelPart_43 ?_
    obtain ⟨rfl, rfl⟩ := si2 hE
    exact hret _ _ dX8_levelPart_44
  · try simp only [if_neg (not_not_intro c)] at hE
    refine r_aload_n S dX8_levelPart_30 1 rfl ?_
    refine r_getL S fc8 (by decide) 13 rfl q_647 dX8_levelPart_31 ?_
    refine r_goto S 41 dX8_levelPart_34 (by decide) ?_
    refine r_lload_n S dX8_levelPart_41 0 rfl ?_
    obtain ⟨hy, hE⟩ := ck_some hE
    refine r_ldiv S dX8_levelPart_42 (of_decide_eq_true hy) ?_
    refine r_l2i S dX8_levelPart_43 ?_
    obtain ⟨rfl, rfl⟩ := si2 hE
    exact hret _ _ dX8_levelPart_44
set_option maxRecDepth 100000 in
set_option maxHeartbeats 4000000 in
theorem c_MD_level (l : Launch) (Y : Env1) (hG : gY Y = gM) (a1 : Int32) (a2 : Int32) (M : Mem) (r : Int32) (M1 : Mem) (hE : MD_level a1 a2 M = some (r, M1)) : CnI l Y yX8_level cX8_level 3 .int 4 [.ref (hY Y + 0), .int a1, .int a2] M r M1 := by
  refine met_I (own := RX8) (by decide +kernel) rfl hG (Nat.le_of_ble_eq_true rfl) (fun X S hY1 hl1 hret => ?_)
  subst hY1
  subst hl1
  show AW X 0 [(0, .ref (hY X.2.1.2 + 0)), (1, .int a1), (2, .int a2)] [] M
  unfold MD_level at hE
  refine r_aload_n S dX8_level_0 0 rfl ?_
  refine r_aload_n S dX8_level_1 0 rfl ?_
  refine r_iload_n S dX8_level_2 1 rfl ?_
  obtain ⟨x1, M2, h9, hE⟩ := b2_some hE
  refine rc_I S (rn_V S fc8 (by decide) (c_MD_isLake _ _ (gYX S) a1 M _ _ h9) wdX8_isLake q_760 ⟨Nat.le_of_ble_eq_true rfl, Nat.le_of_ble_eq_true rfl⟩ rfl (Nat.le_of_ble_eq_true rfl) dX8_level_3) ?_
  refine r_iload_n S dX8_level_6 2 rfl ?_
  refine r_i2l S dX8_level_7 ?_
  refine r_lconst S (0 : Int64) dX8_level_8 rfl ?_
  refine r_lconst S (1 : Int64) dX8_level_9 rfl ?_
  refine rc_I S (rn_S S (c_MD_in _ _ (gYX S) a2.toInt64 (0 : Int64) (1 : Int64) M2 _ rfl) wdX8_in q_530 ⟨Nat.le_of_ble_eq_true rfl, Nat.le_of_ble_eq_true rfl⟩ rfl (Nat.le_of_ble_eq_true rfl) dX8_level_10) ?_
  refine r_iconst S (1 : Int32) dX8_level_13 rfl ?_
  obtain ⟨x3, M4, h9, hE⟩ := b2_some hE
  refine rc_I S (rn_V S fc8 (by decide) (c_MD_goes _ _ (gYX S) x1 (MD_in a2.toInt64 (0 : Int64) (1 : Int64)) (1 : Int32) M2 _ _ h9) wdX8_goes q_677 ⟨Nat.le_of_ble_eq_true rfl, Nat.le_of_ble_eq_true rfl⟩ rfl (Nat.le_of_ble_eq_true rfl) dX8_level_14) ?_
  refine r_if_eq S 29 dX8_level_17 (by decide) (fun c => ?_) (fun c => ?_)
  · rw [if_pos c] at hE
    refine r_iconst S (0 : Int32) dX8_level_29 rfl ?_
    obtain ⟨rfl, rfl⟩ := si2 hE
    exact hret _ _ dX8_level_30
  · rw [if_neg c] at hE
    refine r_aload_n S dX8_level_20 0 rfl ?_
    refine r_iload_n S dX8_level_21 1 rfl ?_
    refine r_iload_n S dX8_level_22 2 rfl ?_
    obtain ⟨x5, M6, h9, hE⟩ := b2_some hE
    refine rc_I S (rn_V S fc8 (by decide) (c_MD_levelPart _ _ (gYX S) a1 a2 M4 _ _ h9) wdX8_levelPart q_790 ⟨Nat.le_of_ble_eq_true rfl, Nat.le_of_ble_eq_true rfl⟩ rfl (Nat.le_of_ble_eq_true rfl) dX8_level_23) ?_
    refine r_goto S 30 dX8_level_26 (by decide) ?_
    obtain ⟨rfl, rfl⟩ := si2 hE
    exact hret _ _ dX8_level_30
set_option maxRecDepth 100000 in
set_option maxHeartbeats 4000000 in
theorem c_MD_depth (l : Launch) (Y : Env1) (hG : gY Y = gM) (a1 : Int32) (M : Mem) (r : UInt64) (M1 : Mem) (hE : MD_depth a1 M = some (r, M1)) : CnD l Y yX8_depth cX8_depth 6 3 [.ref (hY Y + 0), .int a1] M r M1 := by
  refine met_D (own := RX8) (by decide +kernel) rfl hG (Nat.le_of_ble_eq_true rfl) (fun X S hY1 hl1 hret => ?_)
  subst hY1
  subst hl1
  show AW X 0 [(0, .ref (hY X.2.1.2 + 0)), (1, .int a1)] [] M
  unfold MD_depth at hE
  refine r_aload_n S dX8_depth_0 0 rfl ?_
  refine r_aload_n S dX8_depth_1 0 rfl ?_
  refine r_iload_n S dX8_depth_2 1 rfl ?_
  refine rc_I S (rn_V S fc8 (by decide) (c_MD_isCell _ _ (gYX S) a1 M _ rfl) wdX8_isCell q_539 ⟨Nat.le_of_ble_eq_true rfl, Nat.le_of_ble_eq_true rfl⟩ rfl (Nat.le_of_ble_eq_true rfl) dX8_depth_3) ?_
  refine r_iconst S (1 : Int32) dX8_depth_6 rfl ?_
  refine r_iconst S (1 : Int32) dX8_depth_7 rfl ?_
  obtain ⟨x1, M2, h9, hE⟩ := b2_some hE
  refine rc_I S (rn_V S fc8 (by decide) (c_MD_goes _ _ (gYX S) (MD_isCell a1 M) (1 : Int32) (1 : Int32) M _ _ h9) wdX8_goes q_677 ⟨Nat.le_of_ble_eq_true rfl, Nat.le_of_ble_eq_true rfl⟩ rfl (Nat.le_of_ble_eq_true rfl) dX8_depth_8) ?_
  refine r_if_eq S 22 dX8_depth_11 (by decide) (fun c => ?_) (fun c => ?_)
  · rw [if_pos c] at hE
    refine r_dconst0 S dX8_depth_22 ?_
    obtain ⟨rfl, rfl⟩ := si2 hE
    exact hret _ _ dX8_depth_23
  · rw [if_neg c] at hE
    refine r_aload_n S dX8_depth_14 0 rfl ?_
    refine r_iload_n S dX8_depth_15 1 rfl ?_
    obtain ⟨x3, M4, h9, hE⟩ := b2_some hE
    refine rc_I S (rn_V S fc8 (by decide) (c_MD_isWet _ _ (gYX S) a1 M2 _ _ h9) wdX8_isWet q_653 ⟨Nat.le_of_ble_eq_true rfl, Nat.le_of_ble_eq_true rfl⟩ rfl (Nat.le_of_ble_eq_true rfl) dX8_depth_16) ?_
    refine r_if_ne S 24 dX8_depth_19 (by decide) (fun c => ?_) (fun c => ?_)
    · rw [if_pos c] at hE
      refine r_aload_n S dX8_depth_24 0 rfl ?_
      refine r_aload_n S dX8_depth_25 0 rfl ?_
      refine r_iload_n S dX8_depth_26 1 rfl ?_
      obtain ⟨x5, h9, hE⟩ := b1_some hE
      refine rc_I S (rn_V S fc8 (by decide) (c_MD_lakeOf _ _ (gYX S) a1 M4 _ h9) wdX8_lakeOf q_612 ⟨Nat.le_of_ble_eq_true rfl, Nat.le_of_ble_eq_true rfl⟩ rfl (Nat.le_of_ble_eq_true rfl) dX8_depth_27) ?_
      obtain ⟨x6, M7, h9, hE⟩ := b2_some hE
      refine rc_V S (rn_V S fc8 (by decide) (c_MD_levels _ _ (gYX S) x5 M4 _ _ h9) wdX8_levels q_648 ⟨Nat.le_of_ble_eq_true rfl, Nat.le_of_ble_eq_true rfl⟩ rfl (Nat.le_of_ble_eq_true rfl) dX8_depth_30) ?_
      refine r_aload_n S dX8_depth_33 0 rfl ?_
      refine r_getL S fc8 (by decide) 13 rfl q_647 dX8_depth_34 ?_
      refine r_aload_n S dX8_depth_37 0 rfl ?_
      refine r_getL S fc8 (by decide) 14 rfl q_646 dX8_depth_38 ?_
      refine r_aload_n S dX8_depth_41 0 rfl ?_
      refine r_iload_n S dX8_depth_42 1 rfl ?_
      obtain ⟨x8, h9, hE⟩ := b1_some hE
      refine rc_I S (rn_V S fc8 (by decide) (c_MD_height _ _ (gYX S) a1 M7 _ h9) wdX8_height q_559 ⟨Nat.le_of_ble_eq_true rfl, Nat.le_of_ble_eq_true rfl⟩ rfl (Nat.le_of_ble_eq_true rfl) dX8_depth_43) ?_
      refine r_i2l S dX8_depth_46 ?_
      refine r_lmul S dX8_depth_47 ?_
      refine r_lsub S dX8_depth_48 ?_
      refine r_lstore_n (lv2 := [(2, .long ((gL M7 0 13) - ((gL M7 0 14) * x8.toInt64))), (0, .ref (hY X.2.1.2 + 0)), (1, .int a1)]) S dX8_depth_49 (by decide) rfl ?_
      refine r_lload_n S dX8_depth_50 0 rfl ?_
      refine r_aload_n S dX8_depth_51 1 rfl ?_
      refine r_getL S fc8 (by decide) 14 rfl q_646 dX8_depth_52 ?_
      obtain ⟨x9, h9, hE⟩ := b1_some hE
      refine rc_L S (rn_S S (c_MD_divisor _ _ (gYX S) ((gL M7 0 13) - ((gL M7 0 14) * x8.toInt64)) (gL M7 0 14) M7 _ h9) wdX8_divisor q_786 ⟨Nat.le_of_ble_eq_true rfl, Nat.le_of_ble_eq_true rfl⟩ rfl (Nat.le_of_ble_eq_true rfl) dX8_depth_55) ?_
      refine r_lstore (lv2 := [(4, .long x9), (2, .long ((gL M7 0 13) - ((gL M7 0 14) * x8.toInt64))), (0, .ref (hY X.2.1.2 + 0)), (1, .int a1)]) S dX8_depth_58 (by decide) rfl ?_
      refine r_lload_n S dX8_depth_60 1 rfl ?_
      refine r_lload S dX8_depth_61 0 rfl ?_
      obtain ⟨hy, hE⟩ := ck_some hE
      refine r_ldiv S dX8_depth_63 (of_decide_eq_true hy) ?_
      refine r_l2d S dX8_depth_64 ?_
      refine r_aload_n S dX8_depth_65 2 rfl ?_
      refine r_getL S fc8 (by decide) 14 rfl q_646 dX8_depth_66 ?_
      refine r_lload S dX8_depth_69 0 rfl ?_
      obtain ⟨hy, hE⟩ := ck_some hE
      refine r_ldiv S dX8_depth_71 (of_decide_eq_true hy) ?_
      refine r_l2d S dX8_depth_72 ?_
      obtain ⟨hn, hE⟩ := ck_some hE
      refine r_ddiv S dX8_depth_73 hn ?_
      obtain ⟨rfl, rfl⟩ := si2 hE
      exact hret _ _ dX8_depth_74
    · rw [if_neg (not_not_intro c)] at hE
      refine r_dconst0 S dX8_depth_22 ?_
      obtain ⟨rfl, rfl⟩ := si2 hE
      exact hret _ _ dX8_depth_23
set_option maxRecDepth 100000 in
set_option maxHeartbeats 4000000 in
theorem c_MD_deepest (l : Launch) (Y : Env1) (hG : gY Y = gM) (M : Mem) (r : Int32) (M1 : Mem) (hE : MD_deepest M = some (r, M1)) : CnI l Y yX8_deepest cX8_deepest 9 .int 3 [.ref (hY Y + 0)] M r M1 := by
  refine met_I (own := RX8) (by decide +kernel) rfl hG (Nat.le_of_ble_eq_true rfl) (fun X S hY1 hl1 hret => ?_)
  subst hY1
  subst hl1
  show AW X 0 [(0, .ref (hY X.2.1.2 + 0))] [] M
  have L15 : ∀ (e : (Int32)) (M2 : Mem), AW X 100 [(1, .int e)] [] M2 → ∀ (n : Nat) (s : Int32 × Int64 × Int64 × Int32) (M : Mem), lpM (fun s M => MD_deepest_L15 s.1 s.2.1 s.2.2.1 s.2.2.2 M) n s M = some (e, M2) → AW X 15 [(0, .ref (hY X.2.1.2 + 0)), (1, .int s.1), (2, .long s.2.1), (4, .long s.2.2.1), (6, .int s.2.2.2)] [] M := by
    intro e M2 hX
    refine lpM_ind (P := fun (s : Int32 × Int64 × Int64 × Int32) (M : Mem) => AW X 15 [(0, .ref (hY X.2.1.2 + 0)), (1, .int s.1), (2, .long s.2.1), (4, .long s.2.2.1), (6, .int s.2.2.2)] [] M) ?_
    rintro ⟨v1, v2, v4, v6⟩ M d M3 hE hC hD
    replace hE : MD_deepest_L15 v1 v2 v4 v6 M = some (d, M3) := hE
    show AW X 15 [(0, .ref (hY X.2.1.2 + 0)), (1, .int v1), (2, .long v2), (4, .long v4), (6, .int v6)] [] M
    have J82 : ∀ (v6 : Int32) (v7 : Int64) (M : Mem), MD_deepest_L15_J82 v6 v7 M = some (d, M3) → AW X 82 [(0, .ref (hY X.2.1.2 + 0)), (6, .int v6), (7, .long v7)] [] M := by
      intro v6 v7 M hE
      unfold MD_deepest_L15_J82 at hE
      refine r_iload S dX8_deepest_82 1 rfl ?_
      refine r_istore_n (lv2 := [(1, .int v6), (0, .ref (hY X.2.1.2 + 0)), (6, .int v6), (7, .long v7)]) S dX8_deepest_84 (by decide) rfl ?_
      refine r_lload S dX8_deepest_85 3 rfl ?_
      refine r_lstore_n (lv2 := [(2, .long v7), (1, .int v6), (0, .ref (hY X.2.1.2 + 0)), (6, .int v6), (7, .long v7)]) S dX8_deepest_87 (by decide) rfl ?_
      refine r_aload_n S dX8_deepest_88 2 rfl ?_
      refine r_getL S fc8 (by decide) 14 rfl q_646 dX8_deepest_89 ?_
      refine r_lstore (lv2 := [(4, .long (gL M 0 14)), (2, .long v7), (1, .int v6), (0, .ref (hY X.2.1.2 + 0)), (6, .int v6), (7, .long v7)]) S dX8_deepest_92 (by decide) rfl ?_
      refine r_iinc (lv2 := [(6, .int (v6 + (1 : Int32))), (4, .long (gL M 0 14)), (2, .long v7), (1, .int v6), (0, .ref (hY X.2.1.2 + 0)), (7, .long v7)]) S dX8_deepest_94 (j := 4) rfl (by decide) rfl ?_
      refine r_goto S 15 dX8_deepest_97 (by decide) ?_
      obtain ⟨rfl, rfl⟩ := si2 hE
      exact r_sub (lv2 := [(0, .ref (hY X.2.1.2 + 0)), (1, .int v6), (2, .long v7), (4, .long (gL M 0 14)), (6, .int (v6 + (1 : Int32)))]) [4, 3, 2, 1, 0] rfl (hC (v6, v7, (gL M 0 14), (v6 + (1 : Int32))) rfl)
    unfold MD_deepest_L15 at hE
    refine r_iload S dX8_deepest_15 4 rfl ?_
    refine r_aload_n S dX8_deepest_17 0 rfl ?_
    refine rc_I S (rn_V S fc8 (by decide) (c_MD_many _ _ (gYX S)  M _ rfl) wdX8_many q_525 ⟨Nat.le_of_ble_eq_true rfl, Nat.le_of_ble_eq_true rfl⟩ rfl (Nat.le_of_ble_eq_true rfl) dX8_deepest_18) ?_
    refine r_icmp_ge S 100 dX8_deepest_21 (by decide) (fun c => ?_) (fun c => ?_)
    · rw [if_pos c] at hE
      obtain ⟨rfl, rfl⟩ := si2 hE
      rcases hD with ⟨h1, h2⟩ | ⟨_, h1⟩
      · obtain rfl := sir h1
        subst h2
        exact r_sub [1] rfl hX
      · exact (sil h1).elim
    · rw [if_neg c] at hE
      refine r_aload_n S dX8_deepest_24 0 rfl ?_
      refine r_iload S dX8_deepest_25 4 rfl ?_
      obtain ⟨x1, M2, h9, hE⟩ := b2_some hE
      refine rc_I S (rn_V S fc8 (by decide) (c_MD_isWet _ _ (gYX S) v6 M _ _ h9) wdX8_isWet q_653 ⟨Nat.le_of_ble_eq_true rfl, Nat.le_of_ble_eq_true rfl⟩ rfl (Nat.le_of_ble_eq_true rfl) dX8_deepest_27) ?_
      refine r_if_eq S 94 dX8_deepest_30 (by decide) (fun c => ?_) (fun c => ?_)
      · rw [if_pos c] at hE
        refine r_iinc (lv2 := [(6, .int (v6 + (1 : Int32))), (0, .ref (hY X.2.1.2 + 0)), (1, .int v1), (2, .long v2), (4, .long v4)]) S dX8_deepest_94 (j := 4) rfl (by decide) rfl ?_
        refine r_goto S 15 dX8_deepest_97 (by decide) ?_
        obtain ⟨rfl, rfl⟩ := si2 hE
        exact r_sub (lv2 := [(0, .ref (hY X.2.1.2 + 0)), (1, .int v1), (2, .long v2), (4, .long v4), (6, .int (v6 + (1 : Int32)))]) [1, 2, 3, 4, 0] rfl (hC (v1, v2, v4, (v6 + (1 : Int32))) rfl)
      · rw [if_neg c] at hE
        refine r_aload_n S dX8_deepest_33 0 rfl ?_
        refine r_aload_n S dX8_deepest_34 0 rfl ?_
        refine r_iload S dX8_deepest_35 4 rfl ?_
        obtain ⟨x3, h9, hE⟩ := b1_some hE
        refine rc_I S (rn_V S fc8 (by decide) (c_MD_lakeOf _ _ (gYX S) v6 M2 _ h9) wdX8_lakeOf q_612 ⟨Nat.le_of_ble_eq_true rfl, Nat.le_of_ble_eq_true rfl⟩ rfl (Nat.le_of_ble_eq_true rfl) dX8_deepest_37) ?_
        obtain ⟨x4, M5, h9, hE⟩ := b2_some hE
        refine rc_V S (rn_V S fc8 (by decide) (c_MD_levels _ _ (gYX S) x3 M2 _ _ h9) wdX8_levels q_648 ⟨Nat.le_of_ble_eq_true rfl, Nat.le_of_ble_eq_true rfl⟩ rfl (Nat.le_of_ble_eq_true rfl) dX8_deepest_40) ?_
        refine r_aload_n S dX8_deepest_43 0 rfl ?_
        refine r_getL S fc8 (by decide) 13 rfl q_647 dX8_deepest_44 ?_
        refine r_aload_n S dX8_deepest_47 0 rfl ?_
        refine r_getL S fc8 (by decide) 14 rfl q_646 dX8_deepest_48 ?_
        refine r_aload_n S dX8_deepest_51 0 rfl ?_
        refine r_iload S dX8_deepest_52 4 rfl ?_
        obtain ⟨x6, h9, hE⟩ := b1_some hE
        refine rc_I S (rn_V S fc8 (by decide) (c_MD_height _ _ (gYX S) v6 M5 _ h9) wdX8_height q_559 ⟨Nat.le_of_ble_eq_true rfl, Nat.le_of_ble_eq_true rfl⟩ rfl (Nat.le_of_ble_eq_true rfl) dX8_deepest_54) ?_
        refine r_i2l S dX8_deepest_57 ?_
        refine r_lmul S dX8_deepest_58 ?_
        refine r_lsub S dX8_deepest_59 ?_
        refine r_lstore (lv2 := [(7, .long ((gL M5 0 13) - ((gL M5 0 14) * x6.toInt64))), (0, .ref (hY X.2.1.2 + 0)), (1, .int v1), (2, .long v2), (4, .long v4), (6, .int v6)]) S dX8_deepest_60 (by decide) rfl ?_
        refine r_iload_n S dX8_deepest_62 2 rfl ?_
        refine r_iconst S (-1 : Int32) dX8_deepest_63 rfl ?_
        refine r_icmp_eq S 82 dX8_deepest_64 (by decide) (fun c => ?_) (fun c => ?_)
        · try simp only [if_pos c] at hE
          refine r_iload S dX8_deepest_82 5 rfl ?_
          refine r_istore_n (lv2 := [(1, .int v6), (7, .long ((gL M5 0 13) - ((gL M5 0 14) * x6.toInt64))), (0, .ref (hY X.2.1.2 + 0)), (2, .long v2), (4, .long v4), (6, .int v6)]) S dX8_deepest_84 (by decide) rfl ?_
          refine r_lload S dX8_deepest_85 1 rfl ?_
          refine r_lstore_n (lv2 := [(2, .long ((gL M5 0 13) - ((gL M5 0 14) * x6.toInt64))), (1, .int v6), (7, .long ((gL M5 0 13) - ((gL M5 0 14) * x6.toInt64))), (0, .ref (hY X.2.1.2 + 0)), (4, .long v4), (6, .int v6)]) S dX8_deepest_87 (by decide) rfl ?_
          refine r_aload_n S dX8_deepest_88 3 rfl ?_
          refine r_getL S fc8 (by decide) 14 rfl q_646 dX8_deepest_89 ?_
          refine r_lstore (lv2 := [(4, .long (gL M5 0 14)), (2, .long ((gL M5 0 13) - ((gL M5 0 14) * x6.toInt64))), (1, .int v6), (7, .long ((gL M5 0 13) - ((gL M5 0 14) * x6.toInt64))), (0, .ref (hY X.2.1.2 + 0)), (6, .int v6)]) S dX8_deepest_92 (by decide) rfl ?_
          refine r_iinc (lv2 := [(6, .int (v6 + (1 : Int32))), (4, .long (gL M5 0 14)), (2, .long ((gL M5 0 13) - ((gL M5 0 14) * x6.toInt64))), (1, .int v6), (7, .long ((gL M5 0 13) - ((gL M5 0 14) * x6.toInt64))), (0, .ref (hY X.2.1.2 + 0))]) S dX8_deepest_94 (j := 5) rfl (by decide) rfl ?_
          refine r_goto S 15 dX8_deepest_97 (by decide) ?_
          obtain ⟨rfl, rfl⟩ := si2 hE
          exact r_sub (lv2 := [(0, .ref (hY X.2.1.2 + 0)), (1, .int v6), (2, .long ((gL M5 0 13) - ((gL M5 0 14) * x6.toInt64))), (4, .long (gL M5 0 14)), (6, .int (v6 + (1 : Int32)))]) [5, 3, 2, 1, 0] rfl (hC (v6, ((gL M5 0 13) - ((gL M5 0 14) * x6.toInt64)), (gL M5 0 14), (v6 + (1 : Int32))) rfl)
        · try simp only [if_neg c] at hE
          refine r_lload S dX8_deepest_67 0 rfl ?_
          refine r_lload S dX8_deepest_69 4 rfl ?_
          refine r_lmul S dX8_deepest_71 ?_
          refine r_lload_n S dX8_deepest_72 3 rfl ?_
          refine r_aload_n S dX8_deepest_73 1 rfl ?_
          refine r_getL S fc8 (by decide) 14 rfl q_646 dX8_deepest_74 ?_
          refine r_lmul S dX8_deepest_77 ?_
          refine r_lcmp_le S 94 dX8_deepest_78 dX8_deepest_79 (by decide) (fun c => ?_) (fun c => ?_)
          · try simp only [if_pos c] at hE
            refine r_iinc (lv2 := [(6, .int (v6 + (1 : Int32))), (7, .long ((gL M5 0 13) - ((gL M5 0 14) * x6.toInt64))), (0, .ref (hY X.2.1.2 + 0)), (1, .int v1), (2, .long v2), (4, .long v4)]) S dX8_deepest_94 (j := 5) rfl (by decide) rfl ?_
            refine r_goto S 15 dX8_deepest_97 (by decide) ?_
            obtain ⟨rfl, rfl⟩ := si2 hE
            exact r_sub (lv2 := [(0, .ref (hY X.2.1.2 + 0)), (1, .int v1), (2, .long v2), (4, .long v4), (6, .int (v6 + (1 : Int32)))]) [2, 3, 4, 5, 0] rfl (hC (v1, v2, v4, (v6 + (1 : Int32))) rfl)
          · try simp only [if_neg c] at hE
            refine r_iload S dX8_deepest_82 5 rfl ?_
            refine r_istore_n (lv2 := [(1, .int v6), (7, .long ((gL M5 0 13) - ((gL M5 0 14) * x6.toInt64))), (0, .ref (hY X.2.1.2 + 0)), (2, .long v2), (4, .long v4), (6, .int v6)]) S dX8_deepest_84 (by decide) rfl ?_
            refine r_lload S dX8_deepest_85 1 rfl ?_
            refine r_lstore_n (lv2 := [(2, .long ((gL M5 0 13) - ((gL M5 0 14) * x6.toInt64))), (1, .int v6), (7, .long ((gL M5 0 13) - ((gL M5 0 14) * x6.toInt64))), (0, .ref (hY X.2.1.2 + 0)), (4, .long v4), (6, .int v6)]) S dX8_deepest_87 (by decide) rfl ?_
            refine r_aload_n S dX8_deepest_88 3 rfl ?_
            refine r_getL S fc8 (by decide) 14 rfl q_646 dX8_deepest_89 ?_
            refine r_lstore (lv2 := [(4, .long (gL M5 0 14)), (2, .long ((gL M5 0 13) - ((gL M5 0 14) * x6.toInt64))), (1, .int v6), (7, .long ((gL M5 0 13) - ((gL M5 0 14) * x6.toInt64))), (0, .ref (hY X.2.1.2 + 0)), (6, .int v6)]) S dX8_deepest_92 (by decide) rfl ?_
            refine r_iinc (lv2 := [(6, .int (v6 + (1 : Int32))), (4, .long (gL M5 0 14)), (2, .long ((gL M5 0 13) - ((gL M5 0 14) * x6.toInt64))), (1, .int v6), (7, .long ((gL M5 0 13) - ((gL M5 0 14) * x6.toInt64))), (0, .ref (hY X.2.1.2 + 0))]) S dX8_deepest_94 (j := 5) rfl (by decide) rfl ?_
            refine r_goto S 15 dX8_deepest_97 (by decide) ?_
            obtain ⟨rfl, rfl⟩ := si2 hE
            exact r_sub (lv2 := [(0, .ref (hY X.2.1.2 + 0)), (1, .int v6), (2, .long ((gL M5 0 13) - ((gL M5 0 14) * x6.toInt64))), (4, .long (gL M5 0 14)), (6, .int (v6 + (1 : Int32)))]) [5, 3, 2, 1, 0] rfl (hC (v6, ((gL M5 0 13) - ((gL M5 0 14) * x6.toInt64)), (gL M5 0 14), (v6 + (1 : Int32))) rfl)
  unfold MD_deepest at hE
  refine r_aload_n S dX8_deepest_0 0 rfl ?_
  refine r_iconst S (0 : Int32) dX8_deepest_1 rfl ?_
  refine r_putI S fc8 (by decide) 4 rfl rfl (by decide +kernel) q_520 dX8_deepest_2 ?_
  refine r_iconst S (-1 : Int32) dX8_deepest_5 rfl ?_
  refine r_istore_n (lv2 := [(1, .int (-1 : Int32)), (0, .ref (hY X.2.1.2 + 0))]) S dX8_deepest_6 (by decide) rfl ?_
  refine r_lconst S (0 : Int64) dX8_deepest_7 rfl ?_
  refine r_lstore_n (lv2 := [(2, .long (0 : Int64)), (1, .int (-1 : Int32)), (0, .ref (hY X.2.1.2 + 0))]) S dX8_deepest_8 (by decide) rfl ?_
  refine r_lconst S (1 : Int64) dX8_deepest_9 rfl ?_
  refine r_lstore (lv2 := [(4, .long (1 : Int64)), (2, .long (0 : Int64)), (1, .int (-1 : Int32)), (0, .ref (hY X.2.1.2 + 0))]) S dX8_deepest_10 (by decide) rfl ?_
  refine r_iconst S (0 : Int32) dX8_deepest_12 rfl ?_
  refine r_istore (lv2 := [(6, .int (0 : Int32)), (4, .long (1 : Int64)), (2, .long (0 : Int64)), (1, .int (-1 : Int32)), (0, .ref (hY X.2.1.2 + 0))]) S dX8_deepest_13 (by decide) rfl ?_
  obtain ⟨e1, M2, h9, hE⟩ := b2_some hE
  refine r_sub [4, 3, 2, 1, 0] rfl (L15   e1 M2 ?_ _ _ (sI M 0 4 (0 : Int32)) h9)
  refine r_iload_n S dX8_deepest_100 0 rfl ?_
  obtain ⟨rfl, rfl⟩ := si2 hE
  exact hret _ _ dX8_deepest_101
set_option maxRecDepth 100000 in
set_option maxHeartbeats 4000000 in
theorem c_MD_course (l : Launch) (Y : Env1) (hG : gY Y = gM) (a1 : Int32) (M : Mem) (r : Int64) (M1 : Mem) (hE : MD_course a1 M = some (r, M1)) : CnL l Y yX8_course cX8_course 7 6 [.ref (hY Y + 0), .int a1] M r M1 := by
  refine met_L (own := RX8) (by decide +kernel) rfl hG (Nat.le_of_ble_eq_true rfl) (fun X S hY1 hl1 hret => ?_)
  subst hY1
  subst hl1
  show AW X 0 [(0, .ref (hY X.2.1.2 + 0)), (1, .int a1)] [] M
  have L49 : ∀ (M : Mem) (e : (Int64)), AW X 95 [(4, .long e)] [] M → ∀ (n : Nat) (s : Int64 × Int32), lpR (fun s => MD_course_L49 s.1 s.2 M) n s = some e → AW X 49 [(0, .ref (hY X.2.1.2 + 0)), (4, .long s.1), (6, .int s.2)] [] M := by
    intro M e hX
    refine lpR_ind (P := fun (s : Int64 × Int32) => AW X 49 [(0, .ref (hY X.2.1.2 + 0)), (4, .long s.1), (6, .int s.2)] [] M) ?_
    rintro ⟨v4, v6⟩ d hE hC hD
    replace hE : MD_course_L49 v4 v6 M = some d := hE
    show AW X 49 [(0, .ref (hY X.2.1.2 + 0)), (4, .long v4), (6, .int v6)] [] M
    unfold MD_course_L49 at hE
    refine r_iload S dX8_course_49 2 rfl ?_
    refine r_iconst S (-1 : Int32) dX8_course_51 rfl ?_
    refine r_icmp_eq S 95 dX8_course_52 (by decide) (fun c => ?_) (fun c => ?_)
    · rw [if_pos c] at hE
      obtain rfl := si1 hE
      rcases hD with h1 | ⟨_, h1⟩
      · obtain rfl := sir h1
        exact r_sub [1] rfl hX
      · exact (sil h1).elim
    · rw [if_neg c] at hE
      refine r_aload_n S dX8_course_55 0 rfl ?_
      refine r_iload S dX8_course_56 2 rfl ?_
      obtain ⟨x1, h9, hE⟩ := b1_some hE
      refine rc_L S (rn_V S fc8 (by decide) (c_MD_plain _ _ (gYX S) v6 M _ h9) wdX8_plain q_573 ⟨Nat.le_of_ble_eq_true rfl, Nat.le_of_ble_eq_true rfl⟩ rfl (Nat.le_of_ble_eq_true rfl) dX8_course_58) ?_
      refine r_lstore_n (lv2 := [(2, .long x1), (0, .ref (hY X.2.1.2 + 0)), (4, .long v4), (6, .int v6)]) S dX8_course_61 (by decide) rfl ?_
      refine r_lload S dX8_course_62 2 rfl ?_
      refine r_lload_n S dX8_course_64 0 rfl ?_
      refine r_lor S dX8_course_65 ?_
      refine r_lstore (lv2 := [(4, .long (v4 ||| x1)), (2, .long x1), (0, .ref (hY X.2.1.2 + 0)), (6, .int v6)]) S dX8_course_66 (by decide) rfl ?_
      refine r_lload_n S dX8_course_68 1 rfl ?_
      refine r_aload_n S dX8_course_69 2 rfl ?_
      refine r_getRK S fc8 (by decide) 0 1 rfl rfl q_523 dX8_course_70 ?_
      refine r_iconst S (2 : Int32) dX8_course_73 rfl ?_
      refine r_laldK S 2 rfl (by decide) (by decide) dX8_course_74 ?_
      refine r_land S dX8_course_75 ?_
      refine r_lconst S (0 : Int64) dX8_course_76 rfl ?_
      refine r_lcmp_eq S 85 dX8_course_77 dX8_course_78 (by decide) (fun c => ?_) (fun c => ?_)
      · rw [if_pos c] at hE
        refine r_aload_n S dX8_course_85 2 rfl ?_
        refine r_lload_n S dX8_course_86 1 rfl ?_
        obtain ⟨x2, h9, hE⟩ := b1_some hE
        refine rc_I S (rn_V S fc8 (by decide) (c_MD_way _ _ (gYX S) x1 M _ h9) wdX8_way q_578 ⟨Nat.le_of_ble_eq_true rfl, Nat.le_of_ble_eq_true rfl⟩ rfl (Nat.le_of_ble_eq_true rfl) dX8_course_87) ?_
        refine r_istore (lv2 := [(6, .int x2), (4, .long (v4 ||| x1)), (2, .long x1), (0, .ref (hY X.2.1.2 + 0))]) S dX8_course_90 (by decide) rfl ?_
        refine r_goto S 49 dX8_course_92 (by decide) ?_
        obtain rfl := si1 hE
        exact r_sub (lv2 := [(0, .ref (hY X.2.1.2 + 0)), (4, .long (v4 ||| x1)), (6, .int x2)]) [3, 1, 0] rfl (hC ((v4 ||| x1), x2) rfl)
      · rw [if_neg c] at hE
        refine r_iconst S (-1 : Int32) dX8_course_81 rfl ?_
        refine r_goto S 90 dX8_course_82 (by decide) ?_
        refine r_istore (lv2 := [(6, .int (-1 : Int32)), (4, .long (v4 ||| x1)), (2, .long x1), (0, .ref (hY X.2.1.2 + 0))]) S dX8_course_90 (by decide) rfl ?_
        refine r_goto S 49 dX8_course_92 (by decide) ?_
        obtain rfl := si1 hE
        exact r_sub (lv2 := [(0, .ref (hY X.2.1.2 + 0)), (4, .long (v4 ||| x1)), (6, .int (-1 : Int32))]) [3, 1, 0] rfl (hC ((v4 ||| x1), (-1 : Int32)) rfl)
  have J47 : ∀ (v4 : Int64) (t0 : Int32) (M : Mem), MD_course_J47 v4 t0 M = some (r, M1) → AW X 47 [(0, .ref (hY X.2.1.2 + 0)), (4, .long v4)] [.int t0] M := by
    intro v4 t0 M hE
    unfold MD_course_J47 at hE
    refine r_istore (lv2 := [(6, .int t0), (0, .ref (hY X.2.1.2 + 0)), (4, .long v4)]) S dX8_course_47 (by decide) rfl ?_
    obtain ⟨e1, h9, hE⟩ := b1_some hE
    refine r_sub [1, 2, 0] rfl (L49  M e1 ?_ _ _  h9)
    refine r_lload S dX8_course_95 0 rfl ?_
    obtain ⟨rfl, rfl⟩ := si2 hE
    exact hret _ _ dX8_course_97
  unfold MD_course at hE
  refine r_aload_n S dX8_course_0 0 rfl ?_
  refine r_aload_n S dX8_course_1 0 rfl ?_
  refine r_iload_n S dX8_course_2 1 rfl ?_
  refine rc_I S (rn_V S fc8 (by decide) (c_MD_isCell _ _ (gYX S) a1 M _ rfl) wdX8_isCell q_539 ⟨Nat.le_of_ble_eq_true rfl, Nat.le_of_ble_eq_true rfl⟩ rfl (Nat.le_of_ble_eq_true rfl) dX8_course_3) ?_
  refine r_iconst S (1 : Int32) dX8_course_6 rfl ?_
  refine r_iconst S (1 : Int32) dX8_course_7 rfl ?_
  obtain ⟨x1, M2, h9, hE⟩ := b2_some hE
  refine rc_I S (rn_V S fc8 (by decide) (c_MD_goes _ _ (gYX S) (MD_isCell a1 M) (1 : Int32) (1 : Int32) M _ _ h9) wdX8_goes q_677 ⟨Nat.le_of_ble_eq_true rfl, Nat.le_of_ble_eq_true rfl⟩ rfl (Nat.le_of_ble_eq_true rfl) dX8_course_8) ?_
  refine r_if_ne S 16 dX8_course_11 (by decide) (fun c => ?_) (fun c => ?_)
  · rw [if_pos c] at hE
    refine r_aload_n S dX8_course_16 0 rfl ?_
    refine r_iload_n S dX8_course_17 1 rfl ?_
    obtain ⟨x3, h9, hE⟩ := b1_some hE
    refine rc_L S (rn_V S fc8 (by decide) (c_MD_plain _ _ (gYX S) a1 M2 _ h9) wdX8_plain q_573 ⟨Nat.le_of_ble_eq_true rfl, Nat.le_of_ble_eq_true rfl⟩ rfl (Nat.le_of_ble_eq_true rfl) dX8_course_18) ?_
    refine r_lstore_n (lv2 := [(2, .long x3), (0, .ref (hY X.2.1.2 + 0)), (1, .int a1)]) S dX8_course_21 (by decide) rfl ?_
    refine r_lload_n S dX8_course_22 0 rfl ?_
    refine r_lstore (lv2 := [(4, .long x3), (2, .long x3), (0, .ref (hY X.2.1.2 + 0)), (1, .int a1)]) S dX8_course_23 (by decide) rfl ?_
    refine r_lload_n S dX8_course_25 1 rfl ?_
    refine r_aload_n S dX8_course_26 2 rfl ?_
    refine r_getRK S fc8 (by decide) 0 1 rfl rfl q_523 dX8_course_27 ?_
    refine r_iconst S (2 : Int32) dX8_course_30 rfl ?_
    refine r_laldK S 2 rfl (by decide) (by decide) dX8_course_31 ?_
    refine r_land S dX8_course_32 ?_
    refine r_lconst S (0 : Int64) dX8_course_33 rfl ?_
    refine r_lcmp_eq S 42 dX8_course_34 dX8_course_35 (by decide) (fun c => ?_) (fun c => ?_)
    · rw [if_pos c] at hE
      refine r_aload_n S dX8_course_42 2 rfl ?_
      refine r_lload_n S dX8_course_43 1 rfl ?_
      obtain ⟨x4, h9, hE⟩ := b1_some hE
      refine rc_I S (rn_V S fc8 (by decide) (c_MD_way _ _ (gYX S) x3 M2 _ h9) wdX8_way q_578 ⟨Nat.le_of_ble_eq_true rfl, Nat.le_of_ble_eq_true rfl⟩ rfl (Nat.le_of_ble_eq_true rfl) dX8_course_44) ?_
      exact r_sub [2, 0] rfl (J47 x3 x4 M2 hE)
    · rw [if_neg c] at hE
      refine r_iconst S (-1 : Int32) dX8_course_38 rfl ?_
      refine r_goto S 47 dX8_course_39 (by decide) ?_
      exact r_sub [2, 0] rfl (J47 x3 (-1 : Int32) M2 hE)
  · rw [if_neg (not_not_intro c)] at hE
    refine r_lconst S (0 : Int64) dX8_course_14 rfl ?_
    obtain ⟨rfl, rfl⟩ := si2 hE
    exact hret _ _ dX8_course_15
set_option maxRecDepth 100000 in
set_option maxHeartbeats 4000000 in
theorem c_MD_wets (l : Launch) (Y : Env1) (hG : gY Y = gM) (a1 : Int32) (a2 : Int32) (a3 : Int32) (M : Mem) (r : Int32) (M1 : Mem) (hE : MD_wets a1 a2 a3 M = some (r, M1)) : CnI l Y yX8_wets cX8_wets 5 .boolean 8 [.ref (hY Y + 0), .int a1, .int a2, .int a3] M r M1 := by
  refine met_Z (own := RX8) (by decide +kernel) rfl hG (Nat.le_of_ble_eq_true rfl) (fun X S hY1 hl1 hret => ?_)
  subst hY1
  subst hl1
  show AW X 0 [(0, .ref (hY X.2.1.2 + 0)), (1, .int a1), (2, .int a2), (3, .int a3)] [] M
  unfold MD_wets at hE
  refine r_aload_n S dX8_wets_0 0 rfl ?_
  obtain ⟨x1, M2, h9, hE⟩ := b2_some hE
  refine rc_V S (rn_V S fc8 (by decide) (c_MD_lays _ _ (gYX S)  M _ _ h9) wdX8_lays q_795 ⟨Nat.le_of_ble_eq_true rfl, Nat.le_of_ble_eq_true rfl⟩ rfl (Nat.le_of_ble_eq_true rfl) dX8_wets_1) ?_
  refine r_aload_n S dX8_wets_4 0 rfl ?_
  refine r_iload_n S dX8_wets_5 1 rfl ?_
  refine r_iload_n S dX8_wets_6 3 rfl ?_
  refine r_i2l S dX8_wets_7 ?_
  obtain ⟨x3, M4, h9, hE⟩ := b2_some hE
  refine rc_V S (rn_V S fc8 (by decide) (c_MD_pours _ _ (gYX S) a1 a3.toInt64 M2 _ _ h9) wdX8_pours q_671 ⟨Nat.le_of_ble_eq_true rfl, Nat.le_of_ble_eq_true rfl⟩ rfl (Nat.le_of_ble_eq_true rfl) dX8_wets_8) ?_
  refine r_aload_n S dX8_wets_11 0 rfl ?_
  refine r_iload_n S dX8_wets_12 2 rfl ?_
  obtain ⟨x5, M6, h9, hE⟩ := b2_some hE
  refine rc_I S (rn_V S fc8 (by decide) (c_MD_isWet _ _ (gYX S) a2 M4 _ _ h9) wdX8_isWet q_653 ⟨Nat.le_of_ble_eq_true rfl, Nat.le_of_ble_eq_true rfl⟩ rfl (Nat.le_of_ble_eq_true rfl) dX8_wets_13) ?_
  refine r_istore (lv2 := [(4, .int x5), (0, .ref (hY X.2.1.2 + 0)), (1, .int a1), (2, .int a2), (3, .int a3)]) S dX8_wets_16 (by decide) rfl ?_
  refine r_aload_n S dX8_wets_18 1 rfl ?_
  obtain ⟨x7, M8, h9, hE⟩ := b2_some hE
  refine rc_V S (rn_V S fc8 (by decide) (c_MD_takesBack _ _ (gYX S)  M6 _ _ h9) wdX8_takesBack q_800 ⟨Nat.le_of_ble_eq_true rfl, Nat.le_of_ble_eq_true rfl⟩ rfl (Nat.le_of_ble_eq_true rfl) dX8_wets_19) ?_
  refine r_iload S dX8_wets_22 0 rfl ?_
  obtain ⟨rfl, rfl⟩ := si2 hE
  exact hret _ _ _ dX8_wets_24 rfl
set_option maxRecDepth 100000 in
set_option maxHeartbeats 4000000 in
theorem c_MD_amountFor (l : Launch) (Y : Env1) (hG : gY Y = gM) (a1 : Int32) (a2 : Int32) (M : Mem) (r : Int32) (M1 : Mem) (hE : MD_amountFor a1 a2 M = some (r, M1)) : CnI l Y yX8_amountFor cX8_amountFor 7 .int 9 [.ref (hY Y + 0), .int a1, .int a2] M r M1 := by
  refine met_I (own := RX8) (by decide +kernel) rfl hG (Nat.le_of_ble_eq_true rfl) (fun X S hY1 hl1 hret => ?_)
  subst hY1
  subst hl1
  show AW X 0 [(0, .ref (hY X.2.1.2 + 0)), (1, .int a1), (2, .int a2)] [] M
  have L63 : ∀ (v1 : Int32) (v2 : Int32) (e : (Int32)) (M2 : Mem), AW X 118 [(4, .int e)] [] M2 → ∀ (n : Nat) (s : Int32 × Int32) (M : Mem), lpM (fun s M => MD_amountFor_L63 v1 v2 s.1 s.2 M) n s M = some (e, M2) → AW X 63 [(0, .ref (hY X.2.1.2 + 0)), (1, .int v1), (2, .int v2), (3, .int s.1), (4, .int s.2)] [] M := by
    intro v1 v2 e M2 hX
    refine lpM_ind (P := fun (s : Int32 × Int32) (M : Mem) => AW X 63 [(0, .ref (hY X.2.1.2 + 0)), (1, .int v1), (2, .int v2), (3, .int s.1), (4, .int s.2)] [] M) ?_
    rintro ⟨v3, v4⟩ M d M3 hE hC hD
    replace hE : MD_amountFor_L63 v1 v2 v3 v4 M = some (d, M3) := hE
    show AW X 63 [(0, .ref (hY X.2.1.2 + 0)), (1, .int v1), (2, .int v2), (3, .int v3), (4, .int v4)] [] M
    have J101 : ∀ (v3 : Int32) (v5 : Int32) (v6 : Int32) (t0 : Int32) (M : Mem), MD_amountFor_L63_J101 v1 v2 v3 v5 v6 t0 M = some (d, M3) → AW X 101 [(0, .ref (hY X.2.1.2 + 0)), (1, .int v1), (2, .int v2), (3, .int v3), (5, .int v5), (6, .int v6)] [.int t0] M := by
      intro v3 v5 v6 t0 M hE
      unfold MD_amountFor_L63_J101 at hE
      refine r_istore (lv2 := [(4, .int t0), (0, .ref (hY X.2.1.2 + 0)), (1, .int v1), (2, .int v2), (3, .int v3), (5, .int v5), (6, .int v6)]) S dX8_amountFor_101 (by decide) rfl ?_
      refine r_iload S dX8_amountFor_103 6 rfl ?_
      refine r_if_eq S 112 dX8_amountFor_105 (by decide) (fun c => ?_) (fun c => ?_)
      · try simp only [if_pos c] at hE
        refine r_iload S dX8_amountFor_112 5 rfl ?_
        refine r_istore_n (lv2 := [(3, .int v5), (4, .int t0), (0, .ref (hY X.2.1.2 + 0)), (1, .int v1), (2, .int v2), (5, .int v5), (6, .int v6)]) S dX8_amountFor_114 (by decide) rfl ?_
        refine r_goto S 63 dX8_amountFor_115 (by decide) ?_
        obtain ⟨rfl, rfl⟩ := si2 hE
        exact r_sub (lv2 := [(0, .ref (hY X.2.1.2 + 0)), (1, .int v1), (2, .int v2), (3, .int v5), (4, .int t0)]) [2, 3, 4, 0, 1] rfl (hC (v5, t0) rfl)
      · try simp only [if_neg c] at hE
        refine r_iload_n S dX8_amountFor_108 4 rfl ?_
        refine r_goto S 114 dX8_amountFor_109 (by decide) ?_
        refine r_istore_n (lv2 := [(3, .int v3), (4, .int t0), (0, .ref (hY X.2.1.2 + 0)), (1, .int v1), (2, .int v2), (5, .int v5), (6, .int v6)]) S dX8_amountFor_114 (by decide) rfl ?_
        refine r_goto S 63 dX8_amountFor_115 (by decide) ?_
        obtain ⟨rfl, rfl⟩ := si2 hE
        exact r_sub (lv2 := [(0, .ref (hY X.2.1.2 + 0)), (1, .int v1), (2, .int v2), (3, .int v3), (4, .int t0)]) [2, 3, 4, 0, 1] rfl (hC (v3, t0) rfl)
    unfold MD_amountFor_L63 at hE
    refine r_iload S dX8_amountFor_63 4 rfl ?_
    refine r_iload_n S dX8_amountFor_65 3 rfl ?_
    refine r_isub S dX8_amountFor_66 ?_
    refine r_iconst S (1 : Int32) dX8_amountFor_67 rfl ?_
    refine r_icmp_le S 118 dX8_amountFor_68 (by decide) (fun c => ?_) (fun c => ?_)
    · rw [if_pos c] at hE
      obtain ⟨rfl, rfl⟩ := si2 hE
      rcases hD with ⟨h1, h2⟩ | ⟨_, h1⟩
      · obtain rfl := sir h1
        subst h2
        exact r_sub [4] rfl hX
      · exact (sil h1).elim
    · rw [if_neg c] at hE
      refine r_iload S dX8_amountFor_71 4 rfl ?_
      refine r_iload_n S dX8_amountFor_73 3 rfl ?_
      refine r_iadd S dX8_amountFor_74 ?_
      refine r_iconst S (2 : Int32) dX8_amountFor_75 rfl ?_
      refine r_idiv S dX8_amountFor_76 (by decide) ?_
      refine r_istore (lv2 := [(5, .int ((v4 + v3) / (2 : Int32))), (0, .ref (hY X.2.1.2 + 0)), (1, .int v1), (2, .int v2), (3, .int v3), (4, .int v4)]) S dX8_amountFor_77 (by decide) rfl ?_
      refine r_aload_n S dX8_amountFor_79 1 rfl ?_
      refine r_iload_n S dX8_amountFor_80 2 rfl ?_
      refine r_iload_n S dX8_amountFor_81 3 rfl ?_
      refine r_iload S dX8_amountFor_82 0 rfl ?_
      obtain ⟨x1, M2, h9, hE⟩ := b2_some hE
      refine rc_I S (rn_V S fc8 (by decide) (c_MD_wets _ _ (gYX S) v1 v2 ((v4 + v3) / (2 : Int32)) M _ _ h9) wdX8_wets q_806 ⟨Nat.le_of_ble_eq_true rfl, Nat.le_of_ble_eq_true rfl⟩ rfl (Nat.le_of_ble_eq_true rfl) dX8_amountFor_84) ?_
      refine r_istore (lv2 := [(6, .int x1), (5, .int ((v4 + v3) / (2 : Int32))), (0, .ref (hY X.2.1.2 + 0)), (1, .int v1), (2, .int v2), (3, .int v3), (4, .int v4)]) S dX8_amountFor_87 (by decide) rfl ?_
      refine r_iload S dX8_amountFor_89 0 rfl ?_
      refine r_if_eq S 99 dX8_amountFor_91 (by decide) (fun c => ?_) (fun c => ?_)
      · try simp only [if_pos c] at hE
        refine r_iload S dX8_amountFor_99 6 rfl ?_
        exact r_sub [2, 3, 4, 5, 1, 0] rfl (J101 v3 ((v4 + v3) / (2 : Int32)) x1 v4 M2 hE)
      · try simp only [if_neg c] at hE
        refine r_iload S dX8_amountFor_94 1 rfl ?_
        refine r_goto S 101 dX8_amountFor_96 (by decide) ?_
        exact r_sub [2, 3, 4, 5, 1, 0] rfl (J101 v3 ((v4 + v3) / (2 : Int32)) x1 ((v4 + v3) / (2 : Int32)) M2 hE)
  have J22 : ∀ (v1 : Int32) (v2 : Int32) (t0 : Int32) (M : Mem), MD_amountFor_J22 v1 v2 t0 M = some (r, M1) → AW X 22 [(0, .ref (hY X.2.1.2 + 0)), (1, .int v1), (2, .int v2)] [.int t0, .ref (hY X.2.1.2 + 0)] M := by
    intro v1 v2 t0 M hE
    unfold MD_amountFor_J22 at hE
    refine r_iconst S (1 : Int32) dX8_amountFor_22 rfl ?_
    refine r_iconst S (1 : Int32) dX8_amountFor_23 rfl ?_
    obtain ⟨x1, M2, h9, hE⟩ := b2_some hE
    refine rc_I S (rn_V S fc8 (by decide) (c_MD_goes _ _ (gYX S) t0 (1 : Int32) (1 : Int32) M _ _ h9) wdX8_goes q_677 ⟨Nat.le_of_ble_eq_true rfl, Nat.le_of_ble_eq_true rfl⟩ rfl (Nat.le_of_ble_eq_true rfl) dX8_amountFor_24) ?_
    refine r_if_ne S 32 dX8_amountFor_27 (by decide) (fun c => ?_) (fun c => ?_)
    · rw [if_pos c] at hE
      refine r_aload_n S dX8_amountFor_32 0 rfl ?_
      refine r_iload_n S dX8_amountFor_33 2 rfl ?_
      obtain ⟨x3, M4, h9, hE⟩ := b2_some hE
      refine rc_I S (rn_V S fc8 (by decide) (c_MD_isWet _ _ (gYX S) v2 M2 _ _ h9) wdX8_isWet q_653 ⟨Nat.le_of_ble_eq_true rfl, Nat.le_of_ble_eq_true rfl⟩ rfl (Nat.le_of_ble_eq_true rfl) dX8_amountFor_34) ?_
      refine r_if_eq S 42 dX8_amountFor_37 (by decide) (fun c => ?_) (fun c => ?_)
      · rw [if_pos c] at hE
        refine r_aload_n S dX8_amountFor_42 0 rfl ?_
        refine r_iload_n S dX8_amountFor_43 1 rfl ?_
        refine r_iload_n S dX8_amountFor_44 2 rfl ?_
        refine r_ldcw S (v := 100000) q_805 dX8_amountFor_45 ?_
        obtain ⟨x5, M6, h9, hE⟩ := b2_some hE
        refine rc_I S (rn_V S fc8 (by decide) (c_MD_wets _ _ (gYX S) v1 v2 (100000 : Int32) M4 _ _ h9) wdX8_wets q_806 ⟨Nat.le_of_ble_eq_true rfl, Nat.le_of_ble_eq_true rfl⟩ rfl (Nat.le_of_ble_eq_true rfl) dX8_amountFor_48) ?_
        refine r_if_ne S 56 dX8_amountFor_51 (by decide) (fun c => ?_) (fun c => ?_)
        · rw [if_pos c] at hE
          refine r_iconst S (0 : Int32) dX8_amountFor_56 rfl ?_
          refine r_istore_n (lv2 := [(3, .int (0 : Int32)), (0, .ref (hY X.2.1.2 + 0)), (1, .int v1), (2, .int v2)]) S dX8_amountFor_57 (by decide) rfl ?_
          refine r_ldcw S (v := 100000) q_805 dX8_amountFor_58 ?_
          refine r_istore (lv2 := [(4, .int (100000 : Int32)), (3, .int (0 : Int32)), (0, .ref (hY X.2.1.2 + 0)), (1, .int v1), (2, .int v2)]) S dX8_amountFor_61 (by decide) rfl ?_
          obtain ⟨e7, M8, h9, hE⟩ := b2_some hE
          refine r_sub [2, 3, 4, 1, 0] rfl (L63 v1 v2  e7 M8 ?_ _ _ M6 h9)
          refine r_iload S dX8_amountFor_118 0 rfl ?_
          obtain ⟨rfl, rfl⟩ := si2 hE
          exact hret _ _ dX8_amountFor_120
        · rw [if_neg (not_not_intro c)] at hE
          refine r_iconst S (-1 : Int32) dX8_amountFor_54 rfl ?_
          obtain ⟨rfl, rfl⟩ := si2 hE
          exact hret _ _ dX8_amountFor_55
      · rw [if_neg c] at hE
        refine r_iconst S (0 : Int32) dX8_amountFor_40 rfl ?_
        obtain ⟨rfl, rfl⟩ := si2 hE
        exact hret _ _ dX8_amountFor_41
    · rw [if_neg (not_not_intro c)] at hE
      refine r_iconst S (0 : Int32) dX8_amountFor_30 rfl ?_
      obtain ⟨rfl, rfl⟩ := si2 hE
      exact hret _ _ dX8_amountFor_31
  have J21 : ∀ (v1 : Int32) (v2 : Int32) (M : Mem), MD_amountFor_J21 v1 v2 M = some (r, M1) → AW X 21 [(0, .ref (hY X.2.1.2 + 0)), (1, .int v1), (2, .int v2)] [.ref (hY X.2.1.2 + 0)] M := by
    intro v1 v2 M hE
    unfold MD_amountFor_J21 at hE
    refine r_iconst S (0 : Int32) dX8_amountFor_21 rfl ?_
    exact r_sub [0, 1, 2] rfl (J22 v1 v2 (0 : Int32) M hE)
  unfold MD_amountFor at hE
  refine r_aload_n S dX8_amountFor_0 0 rfl ?_
  refine r_aload_n S dX8_amountFor_1 0 rfl ?_
  refine r_iload_n S dX8_amountFor_2 1 rfl ?_
  refine rc_I S (rn_V S fc8 (by decide) (c_MD_isCell _ _ (gYX S) a1 M _ rfl) wdX8_isCell q_539 ⟨Nat.le_of_ble_eq_true rfl, Nat.le_of_ble_eq_true rfl⟩ rfl (Nat.le_of_ble_eq_true rfl) dX8_amountFor_3) ?_
  refine r_if_eq S 21 dX8_amountFor_6 (by decide) (fun c => ?_) (fun c => ?_)
  · try simp only [if_pos c] at hE
    refine r_iconst S (0 : Int32) dX8_amountFor_21 rfl ?_
    exact r_sub [0, 1, 2] rfl (J22 a1 a2 (0 : Int32) M hE)
  · try simp only [if_neg c] at hE
    refine r_aload_n S dX8_amountFor_9 0 rfl ?_
    refine r_iload_n S dX8_amountFor_10 2 rfl ?_
    refine rc_I S (rn_V S fc8 (by decide) (c_MD_isCell _ _ (gYX S) a2 M _ rfl) wdX8_isCell q_539 ⟨Nat.le_of_ble_eq_true rfl, Nat.le_of_ble_eq_true rfl⟩ rfl (Nat.le_of_ble_eq_true rfl) dX8_amountFor_11) ?_
    refine r_if_eq S 21 dX8_amountFor_14 (by decide) (fun c => ?_) (fun c => ?_)
    · try simp only [if_pos c] at hE
      refine r_iconst S (0 : Int32) dX8_amountFor_21 rfl ?_
      exact r_sub [0, 1, 2] rfl (J22 a1 a2 (0 : Int32) M hE)
    · try simp only [if_neg c] at hE
      refine r_iconst S (1 : Int32) dX8_amountFor_17 rfl ?_
      refine r_goto S 22 dX8_amountFor_18 (by decide) ?_
      exact r_sub [0, 1, 2] rfl (J22 a1 a2 (1 : Int32) M hE)
