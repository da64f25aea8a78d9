set_option maxRecDepth 100000 in
set_option maxHeartbeats 4000000 in
theorem c_MD_leastVolume (l : Launch) (Y : Env1) (hG : gY Y = gM) (a1 : Int32) (M : Mem) (r : Int64) (M1 : Mem) (hE : MD_leastVolume a1 M = some (r, M1)) : CnL l Y yX8_leastVolume cX8_leastVolume 2 6 [.ref (hY Y + 0), .int a1] M r M1 := by
  refine met_L (own := RX8) (by decide +kernel) rfl hG (Nat.le_of_ble_eq_true rfl) (fun X S hY1 hl1 hret => ?_)
  subst hY1
  subst hl1
  show AW X 0 [(0, .ref (hY X.2.1.2 + 0)), (1, .int a1)] [] M
  unfold MD_leastVolume at hE
  refine r_aload_n S dX8_leastVolume_0 0 rfl ?_
  refine r_iload_n S dX8_leastVolume_1 1 rfl ?_
  obtain ⟨x1, h9, hE⟩ := b1_some hE
  refine rc_I S (rn_V S fc8 (by decide) (c_MD_isJoined _ _ (gYX S) a1 M _ h9) wdX8_isJoined q_607 ⟨Nat.le_of_ble_eq_true rfl, Nat.le_of_ble_eq_true rfl⟩ rfl (Nat.le_of_ble_eq_true rfl) dX8_leastVolume_2) ?_
  refine r_if_eq S 42 dX8_leastVolume_5 (by decide) (fun c => ?_) (fun c => ?_)
  · rw [if_pos c] at hE
    refine r_lconst S (0 : Int64) dX8_leastVolume_42 rfl ?_
    obtain ⟨rfl, rfl⟩ := si2 hE
    exact hret _ _ dX8_leastVolume_43
  · rw [if_neg c] at hE
    refine r_aload_n S dX8_leastVolume_8 0 rfl ?_
    refine r_aload_n S dX8_leastVolume_9 0 rfl ?_
    refine r_getRK S fc8 (by decide) 0 1 rfl rfl q_523 dX8_leastVolume_10 ?_
    refine r_sipush S (296 : Int32) dX8_leastVolume_13 rfl ?_
    refine r_iload_n S dX8_leastVolume_16 1 rfl ?_
    refine r_iadd S dX8_leastVolume_17 ?_
    obtain ⟨hi, hE⟩ := ck_some hE
    refine r_lald S (by decide) hi dX8_leastVolume_18 ?_
    refine r_l2i S dX8_leastVolume_19 ?_
    obtain ⟨x2, M3, h9, hE⟩ := b2_some hE
    refine rc_L S (rn_V S fc8 (by decide) (c_MD_capacity _ _ (gYX S) ((gL M 1 ((296 : Int32) + a1).toNatClampNeg).toInt32) M _ _ h9) wdX8_capacity q_602 ⟨Nat.le_of_ble_eq_true rfl, Nat.le_of_ble_eq_true rfl⟩ rfl (Nat.le_of_ble_eq_true rfl) dX8_leastVolume_20) ?_
    refine r_aload_n S dX8_leastVolume_23 0 rfl ?_
    refine r_aload_n S dX8_leastVolume_24 0 rfl ?_
    refine r_getRK S fc8 (by decide) 0 1 rfl rfl q_523 dX8_leastVolume_25 ?_
    refine r_sipush S (368 : Int32) dX8_leastVolume_28 rfl ?_
    refine r_iload_n S dX8_leastVolume_31 1 rfl ?_
    refine r_iadd S dX8_leastVolume_32 ?_
    obtain ⟨hi, hE⟩ := ck_some hE
    refine r_lald S (by decide) hi dX8_leastVolume_33 ?_
    refine r_l2i S dX8_leastVolume_34 ?_
    obtain ⟨x4, M5, h9, hE⟩ := b2_some hE
    refine rc_L S (rn_V S fc8 (by decide) (c_MD_capacity _ _ (gYX S) ((gL M3 1 ((368 : Int32) + a1).toNatClampNeg).toInt32) M3 _ _ h9) wdX8_capacity q_602 ⟨Nat.le_of_ble_eq_true rfl, Nat.le_of_ble_eq_true rfl⟩ rfl (Nat.le_of_ble_eq_true rfl) dX8_leastVolume_35) ?_
    refine r_ladd S dX8_leastVolume_38 ?_
    refine r_goto S 43 dX8_leastVolume_39 (by decide) ?_
    obtain ⟨rfl, rfl⟩ := si2 hE
    exact hret _ _ dX8_leastVolume_43
set_option maxRecDepth 100000 in
set_option maxHeartbeats 4000000 in
theorem c_MD_lakeOf (l : Launch) (Y : Env1) (hG : gY Y = gM) (a1 : Int32) (M : Mem) (r : Int32) (hE : MD_lakeOf a1 M = some r) : CnI l Y yX8_lakeOf cX8_lakeOf 4 .int 1 [.ref (hY Y + 0), .int a1] M r M := by
  refine met_I (own := RX8) (by decide +kernel) rfl hG (Nat.le_of_ble_eq_true rfl) (fun X S hY1 hl1 hret => ?_)
  subst hY1
  subst hl1
  show AW X 0 [(0, .ref (hY X.2.1.2 + 0)), (1, .int a1)] [] M
  have L4 : ∀ (v1 : Int32) (e : (Int32)), AW X 54 [(2, .int e)] [] M → ∀ (n : Nat) (s : Int32 × Int32), lpR (fun s => MD_lakeOf_L4 v1 s.1 s.2 M) n s = some e → AW X 4 [(0, .ref (hY X.2.1.2 + 0)), (1, .int v1), (2, .int s.1), (3, .int s.2)] [] M := by
    intro v1 e hX
    refine lpR_ind (P := fun (s : Int32 × Int32) => AW X 4 [(0, .ref (hY X.2.1.2 + 0)), (1, .int v1), (2, .int s.1), (3, .int s.2)] [] M) ?_
    rintro ⟨v2, v3⟩ d hE hC hD
    replace hE : MD_lakeOf_L4 v1 v2 v3 M = some d := hE
    show AW X 4 [(0, .ref (hY X.2.1.2 + 0)), (1, .int v1), (2, .int v2), (3, .int v3)] [] M
    unfold MD_lakeOf_L4 at hE
    refine r_iload_n S dX8_lakeOf_4 3 rfl ?_
    refine r_bipush S (72 : Int32) dX8_lakeOf_5 rfl ?_
    refine r_icmp_ge S 54 dX8_lakeOf_7 (by decide) (fun c => ?_) (fun c => ?_)
    · rw [if_pos c] at hE
      obtain rfl := si1 hE
      rcases hD with h1 | ⟨_, h1⟩
      · obtain rfl := sir h1
        exact r_sub [2] rfl hX
      · exact (sil h1).elim
    · rw [if_neg c] at hE
      refine r_aload_n S dX8_lakeOf_10 0 rfl ?_
      refine r_getRK S fc8 (by decide) 0 1 rfl rfl q_523 dX8_lakeOf_11 ?_
      refine r_sipush S (440 : Int32) dX8_lakeOf_14 rfl ?_
      refine r_iload_n S dX8_lakeOf_17 3 rfl ?_
      refine r_iadd S dX8_lakeOf_18 ?_
      obtain ⟨hi, hE⟩ := ck_some hE
      refine r_lald S (by decide) hi dX8_lakeOf_19 ?_
      refine r_lconst S (1 : Int64) dX8_lakeOf_20 rfl ?_
      refine r_lcmp_ne S 46 dX8_lakeOf_21 dX8_lakeOf_22 (by decide) (fun c => ?_) (fun c => ?_)
      · rw [if_pos c] at hE
        refine r_iload_n S dX8_lakeOf_46 2 rfl ?_
        refine r_istore_n (lv2 := [(2, .int v2), (0, .ref (hY X.2.1.2 + 0)), (1, .int v1), (3, .int v3)]) S dX8_lakeOf_47 (by decide) rfl ?_
        refine r_iinc (lv2 := [(3, .int (v3 + (1 : Int32))), (2, .int v2), (0, .ref (hY X.2.1.2 + 0)), (1, .int v1)]) S dX8_lakeOf_48 (j := 3) rfl (by decide) rfl ?_
        refine r_goto S 4 dX8_lakeOf_51 (by decide) ?_
        obtain rfl := si1 hE
        exact r_sub (lv2 := [(0, .ref (hY X.2.1.2 + 0)), (1, .int v1), (2, .int v2), (3, .int (v3 + (1 : Int32)))]) [2, 3, 1, 0] rfl (hC (v2, (v3 + (1 : Int32))) rfl)
      · rw [if_neg (not_not_intro c)] at hE
        refine r_aload_n S dX8_lakeOf_25 0 rfl ?_
        refine r_getRK S fc8 (by decide) 0 1 rfl rfl q_523 dX8_lakeOf_26 ?_
        refine r_sipush S (152 : Int32) dX8_lakeOf_29 rfl ?_
        refine r_iload_n S dX8_lakeOf_32 3 rfl ?_
        refine r_iadd S dX8_lakeOf_33 ?_
        obtain ⟨hi, hE⟩ := ck_some hE
        refine r_lald S (by decide) hi dX8_lakeOf_34 ?_
        refine r_iload_n S dX8_lakeOf_35 1 rfl ?_
        refine rc_I S (rn_S S (c_MD_has _ _ (gYX S) (gL M 1 ((152 : Int32) + v3).toNatClampNeg) v1 M _ rfl) wdX8_has q_564 ⟨Nat.le_of_ble_eq_true rfl, Nat.le_of_ble_eq_true rfl⟩ rfl (Nat.le_of_ble_eq_true rfl) dX8_lakeOf_36) ?_
        refine r_if_eq S 46 dX8_lakeOf_39 (by decide) (fun c => ?_) (fun c => ?_)
        · try simp only [if_pos c] at hE
          refine r_iload_n S dX8_lakeOf_46 2 rfl ?_
          refine r_istore_n (lv2 := [(2, .int v2), (0, .ref (hY X.2.1.2 + 0)), (1, .int v1), (3, .int v3)]) S dX8_lakeOf_47 (by decide) rfl ?_
          refine r_iinc (lv2 := [(3, .int (v3 + (1 : Int32))), (2, .int v2), (0, .ref (hY X.2.1.2 + 0)), (1, .int v1)]) S dX8_lakeOf_48 (j := 3) rfl (by decide) rfl ?_
          refine r_goto S 4 dX8_lakeOf_51 (by decide) ?_
          obtain rfl := si1 hE
          exact r_sub (lv2 := [(0, .ref (hY X.2.1.2 + 0)), (1, .int v1), (2, .int v2), (3, .int (v3 + (1 : Int32)))]) [2, 3, 1, 0] rfl (hC (v2, (v3 + (1 : Int32))) rfl)
        · try simp only [if_neg c] at hE
          refine r_iload_n S dX8_lakeOf_42 3 rfl ?_
          refine r_goto S 47 dX8_lakeOf_43 (by decide) ?_
          refine r_istore_n (lv2 := [(2, .int v3), (0, .ref (hY X.2.1.2 + 0)), (1, .int v1), (3, .int v3)]) S dX8_lakeOf_47 (by decide) rfl ?_
          refine r_iinc (lv2 := [(3, .int (v3 + (1 : Int32))), (2, .int v3), (0, .ref (hY X.2.1.2 + 0)), (1, .int v1)]) S dX8_lakeOf_48 (j := 3) rfl (by decide) rfl ?_
          refine r_goto S 4 dX8_lakeOf_51 (by decide) ?_
          obtain rfl := si1 hE
          exact r_sub (lv2 := [(0, .ref (hY X.2.1.2 + 0)), (1, .int v1), (2, .int v3), (3, .int (v3 + (1 : Int32)))]) [2, 3, 1, 0] rfl (hC (v3, (v3 + (1 : Int32))) rfl)
  unfold MD_lakeOf at hE
  refine r_iconst S (-1 : Int32) dX8_lakeOf_0 rfl ?_
  refine r_istore_n (lv2 := [(2, .int (-1 : Int32)), (0, .ref (hY X.2.1.2 + 0)), (1, .int a1)]) S dX8_lakeOf_1 (by decide) rfl ?_
  refine r_iconst S (0 : Int32) dX8_lakeOf_2 rfl ?_
  refine r_istore_n (lv2 := [(3, .int (0 : Int32)), (2, .int (-1 : Int32)), (0, .ref (hY X.2.1.2 + 0)), (1, .int a1)]) S dX8_lakeOf_3 (by decide) rfl ?_
  obtain ⟨e1, h9, hE⟩ := b1_some hE
  refine r_sub [2, 3, 1, 0] rfl (L4 a1  e1 ?_ _ _  h9)
  refine r_iload_n S dX8_lakeOf_54 0 rfl ?_
  obtain rfl := si1 hE
  exact hret _ _ dX8_lakeOf_55
set_option maxRecDepth 100000 in
set_option maxHeartbeats 4000000 in
theorem c_MD_join (l : Launch) (Y : Env1) (hG : gY Y = gM) (a1 : Int32) (a2 : Int32) (M : Mem) (r : Int32) (M1 : Mem) (hE : MD_join a1 a2 M = some (r, M1)) : CnI l Y yX8_join cX8_join 4 .int 0 [.ref (hY Y + 0), .int a1, .int a2] M r M1 := by
  refine met_I (own := RX8) (by decide +kernel) rfl hG (Nat.le_of_ble_eq_true rfl) (fun X S hY1 hl1 hret => ?_)
  subst hY1
  subst hl1
  show AW X 0 [(0, .ref (hY X.2.1.2 + 0)), (1, .int a1), (2, .int a2)] [] M
  have L2 : ∀ (v1 : Int32) (v2 : Int32) (M : Mem) (e : (Int32)), AW X 23 [(0, .ref (hY X.2.1.2 + 0)), (1, .int v1), (2, .int v2), (3, .int e)] [] M → ∀ (n : Nat) (s : Int32), lpR (fun s => MD_join_L2 v1 v2 s M) n s = some e → AW X 2 [(0, .ref (hY X.2.1.2 + 0)), (1, .int v1), (2, .int v2), (3, .int s)] [] M := by
    intro v1 v2 M e hX
    refine lpR_ind (P := fun (s : Int32) => AW X 2 [(0, .ref (hY X.2.1.2 + 0)), (1, .int v1), (2, .int v2), (3, .int s)] [] M) ?_
    rintro v3 d hE hC hD
    replace hE : MD_join_L2 v1 v2 v3 M = some d := hE
    show AW X 2 [(0, .ref (hY X.2.1.2 + 0)), (1, .int v1), (2, .int v2), (3, .int v3)] [] M
    unfold MD_join_L2 at hE
    refine r_aload_n S dX8_join_2 0 rfl ?_
    refine r_getRK S fc8 (by decide) 0 1 rfl rfl q_523 dX8_join_3 ?_
    refine r_sipush S (152 : Int32) dX8_join_6 rfl ?_
    refine r_iload_n S dX8_join_9 3 rfl ?_
    refine r_iadd S dX8_join_10 ?_
    obtain ⟨hi, hE⟩ := ck_some hE
    refine r_lald S (by decide) hi dX8_join_11 ?_
    refine r_lconst S (0 : Int64) dX8_join_12 rfl ?_
    refine r_lcmp_eq S 23 dX8_join_13 dX8_join_14 (by decide) (fun c => ?_) (fun c => ?_)
    · rw [if_pos c] at hE
      obtain rfl := si1 hE
      rcases hD with h1 | ⟨_, h1⟩
      · obtain rfl := sir h1
        exact r_sub [0, 1, 2, 3] rfl hX
      · exact (sil h1).elim
    · rw [if_neg c] at hE
      refine r_iinc (lv2 := [(3, .int (v3 + (1 : Int32))), (0, .ref (hY X.2.1.2 + 0)), (1, .int v1), (2, .int v2)]) S dX8_join_17 (j := 3) rfl (by decide) rfl ?_
      refine r_goto S 2 dX8_join_20 (by decide) ?_
      obtain rfl := si1 hE
      exact r_sub (lv2 := [(0, .ref (hY X.2.1.2 + 0)), (1, .int v1), (2, .int v2), (3, .int (v3 + (1 : Int32)))]) [1, 2, 3, 0] rfl (hC (v3 + (1 : Int32)) rfl)
  unfold MD_join at hE
  refine r_iconst S (0 : Int32) dX8_join_0 rfl ?_
  refine r_istore_n (lv2 := [(3, .int (0 : Int32)), (0, .ref (hY X.2.1.2 + 0)), (1, .int a1), (2, .int a2)]) S dX8_join_1 (by decide) rfl ?_
  obtain ⟨e1, h9, hE⟩ := b1_some hE
  refine r_sub [1, 2, 3, 0] rfl (L2 a1 a2 M e1 ?_ _ _  h9)
  refine r_aload_n S dX8_join_23 0 rfl ?_
  refine r_getRK S fc8 (by decide) 0 1 rfl rfl q_523 dX8_join_24 ?_
  refine r_sipush S (152 : Int32) dX8_join_27 rfl ?_
  refine r_iload_n S dX8_join_30 3 rfl ?_
  refine r_iadd S dX8_join_31 ?_
  refine r_aload_n S dX8_join_32 0 rfl ?_
  refine r_getRK S fc8 (by decide) 0 1 rfl rfl q_523 dX8_join_33 ?_
  refine r_sipush S (152 : Int32) dX8_join_36 rfl ?_
  refine r_iload_n S dX8_join_39 1 rfl ?_
  refine r_iadd S dX8_join_40 ?_
  obtain ⟨hi, hE⟩ := ck_some hE
  refine r_lald S (by decide) hi dX8_join_41 ?_
  refine r_aload_n S dX8_join_42 0 rfl ?_
  refine r_getRK S fc8 (by decide) 0 1 rfl rfl q_523 dX8_join_43 ?_
  refine r_sipush S (152 : Int32) dX8_join_46 rfl ?_
  refine r_iload_n S dX8_join_49 2 rfl ?_
  refine r_iadd S dX8_join_50 ?_
  obtain ⟨hi, hE⟩ := ck_some hE
  refine r_lald S (by decide) hi dX8_join_51 ?_
  refine r_lor S dX8_join_52 ?_
  obtain ⟨hi, hE⟩ := ck_some hE
  refine r_last S (by decide) hi dX8_join_53 ?_
  refine r_aload_n S dX8_join_54 0 rfl ?_
  refine r_getRK S fc8 (by decide) 0 1 rfl rfl q_523 dX8_join_55 ?_
  refine r_sipush S (224 : Int32) dX8_join_58 rfl ?_
  refine r_iload_n S dX8_join_61 3 rfl ?_
  refine r_iadd S dX8_join_62 ?_
  refine r_aload_n S dX8_join_63 0 rfl ?_
  refine r_getRK S fc8 (by decide) 0 1 rfl rfl q_523 dX8_join_64 ?_
  refine r_sipush S (224 : Int32) dX8_join_67 rfl ?_
  refine r_iload_n S dX8_join_70 1 rfl ?_
  refine r_iadd S dX8_join_71 ?_
  obtain ⟨hi, hE⟩ := ck_some hE
  refine r_lald S (by decide) hi dX8_join_72 ?_
  refine r_aload_n S dX8_join_73 0 rfl ?_
  refine r_getRK S fc8 (by decide) 0 1 rfl rfl q_523 dX8_join_74 ?_
  refine r_sipush S (224 : Int32) dX8_join_77 rfl ?_
  refine r_iload_n S dX8_join_80 2 rfl ?_
  refine r_iadd S dX8_join_81 ?_
  obtain ⟨hi, hE⟩ := ck_some hE
  refine r_lald S (by decide) hi dX8_join_82 ?_
  refine r_ladd S dX8_join_83 ?_
  obtain ⟨hi, hE⟩ := ck_some hE
  refine r_last S (by decide) hi dX8_join_84 ?_
  refine r_aload_n S dX8_join_85 0 rfl ?_
  refine r_getRK S fc8 (by decide) 0 1 rfl rfl q_523 dX8_join_86 ?_
  refine r_sipush S (296 : Int32) dX8_join_89 rfl ?_
  refine r_iload_n S dX8_join_92 3 rfl ?_
  refine r_iadd S dX8_join_93 ?_
  refine r_iload_n S dX8_join_94 1 rfl ?_
  refine r_i2l S dX8_join_95 ?_
  obtain ⟨hi, hE⟩ := ck_some hE
  refine r_last S (by decide) hi dX8_join_96 ?_
  refine r_aload_n S dX8_join_97 0 rfl ?_
  refine r_getRK S fc8 (by decide) 0 1 rfl rfl q_523 dX8_join_98 ?_
  refine r_sipush S (368 : Int32) dX8_join_101 rfl ?_
  refine r_iload_n S dX8_join_104 3 rfl ?_
  refine r_iadd S dX8_join_105 ?_
  refine r_iload_n S dX8_join_106 2 rfl ?_
  refine r_i2l S dX8_join_107 ?_
  obtain ⟨hi, hE⟩ := ck_some hE
  refine r_last S (by decide) hi dX8_join_108 ?_
  refine r_aload_n S dX8_join_109 0 rfl ?_
  refine r_getRK S fc8 (by decide) 0 1 rfl rfl q_523 dX8_join_110 ?_
  refine r_sipush S (440 : Int32) dX8_join_113 rfl ?_
  refine r_iload_n S dX8_join_116 3 rfl ?_
  refine r_iadd S dX8_join_117 ?_
  refine r_lconst S (1 : Int64) dX8_join_118 rfl ?_
  obtain ⟨hi, hE⟩ := ck_some hE
  refine r_last S (by decide) hi dX8_join_119 ?_
  refine r_aload_n S dX8_join_120 0 rfl ?_
  refine r_getRK S fc8 (by decide) 0 1 rfl rfl q_523 dX8_join_121 ?_
  refine r_sipush S (440 : Int32) dX8_join_124 rfl ?_
  refine r_iload_n S dX8_join_127 1 rfl ?_
  refine r_iadd S dX8_join_128 ?_
  refine r_lconst S (0 : Int64) dX8_join_129 rfl ?_
  obtain ⟨hi, hE⟩ := ck_some hE
  refine r_last S (by decide) hi dX8_join_130 ?_
  refine r_aload_n S dX8_join_131 0 rfl ?_
  refine r_getRK S fc8 (by decide) 0 1 rfl rfl q_523 dX8_join_132 ?_
  refine r_sipush S (440 : Int32) dX8_join_135 rfl ?_
  refine r_iload_n S dX8_join_138 2 rfl ?_
  refine r_iadd S dX8_join_139 ?_
  refine r_lconst S (0 : Int64) dX8_join_140 rfl ?_
  obtain ⟨hi, hE⟩ := ck_some hE
  refine r_last S (by decide) hi dX8_join_141 ?_
  refine r_iload_n S dX8_join_142 3 rfl ?_
  obtain ⟨rfl, rfl⟩ := si2 hE
  exact hret _ _ dX8_join_143
set_option maxRecDepth 100000 in
set_option maxHeartbeats 4000000 in
theorem c_MD_pours (l : Launch) (Y : Env1) (hG : gY Y = gM) (a1 : Int32) (a2 : Int64) (M : Mem) (r : Unit) (M1 : Mem) (hE : MD_pours a1 a2 M = some (r, M1)) : CnV l Y yX8_pours cX8_pours 15 7 [.ref (hY Y + 0), .int a1, .long a2] M M1 := by
  refine met_V (own := RX8) (by decide +kernel) rfl hG (Nat.le_of_ble_eq_true rfl) (fun X S hY1 hl1 hret => ?_)
  subst hY1
  subst hl1
  show AW X 0 [(0, .ref (hY X.2.1.2 + 0)), (1, .int a1), (2, .long a2)] [] M
  have L10 : ∀ (q : ((Unit) ⊕ Unit)) (M2 : Mem), (∀ e, q = .inl e → AW X 194 [] [] M2) → (∀ r8, q = .inr r8 → (r8 = r ∧ M2 = M1)) → ∀ (n : Nat) (s : Int32 × Int64) (M : Mem), lpM (fun s M => MD_pours_L10 s.1 s.2 M) n s M = some (q, M2) → AW X 10 [(0, .ref (hY X.2.1.2 + 0)), (4, .int s.1), (5, .long s.2)] [] M := by
    intro q M2 hX hR
    refine lpM_ind (P := fun (s : Int32 × Int64) (M : Mem) => AW X 10 [(0, .ref (hY X.2.1.2 + 0)), (4, .int s.1), (5, .long s.2)] [] M) ?_
    rintro ⟨v4, v5⟩ M d M3 hE hC hD
    replace hE : MD_pours_L10 v4 v5 M = some (d, M3) := hE
    show AW X 10 [(0, .ref (hY X.2.1.2 + 0)), (4, .int v4), (5, .long v5)] [] M
    have J169 : ∀ (v4 : Int32) (v5 : Int64) (v13 : Int32) (t0 : Int32) (M : Mem), MD_pours_L10_J169 v4 v5 v13 t0 M = some (d, M3) → AW X 169 [(0, .ref (hY X.2.1.2 + 0)), (4, .int v4), (5, .long v5), (13, .int v13)] [.int t0] M := by
      intro v4 v5 v13 t0 M hE
      unfold MD_pours_L10_J169 at hE
      refine r_istore (lv2 := [(14, .int t0), (0, .ref (hY X.2.1.2 + 0)), (4, .int v4), (5, .long v5), (13, .int v13)]) S dX8_pours_169 (by decide) rfl ?_
      refine r_iload S dX8_pours_171 0 rfl ?_
      refine r_if_eq S 187 dX8_pours_173 (by decide) (fun c => ?_) (fun c => ?_)
      · rw [if_pos c] at hE
        refine r_iload S dX8_pours_187 4 rfl ?_
        refine r_istore (lv2 := [(4, .int v13), (14, .int t0), (0, .ref (hY X.2.1.2 + 0)), (5, .long v5), (13, .int v13)]) S dX8_pours_189 (by decide) rfl ?_
        refine r_goto S 10 dX8_pours_191 (by decide) ?_
        obtain ⟨rfl, rfl⟩ := si2 hE
        exact r_sub (lv2 := [(0, .ref (hY X.2.1.2 + 0)), (4, .int v13), (5, .long v5)]) [2, 0, 3] rfl (hC (v13, v5) rfl)
      · rw [if_neg c] at hE
        refine r_aload_n S dX8_pours_176 1 rfl ?_
        refine r_iload S dX8_pours_177 2 rfl ?_
        refine r_iload S dX8_pours_179 4 rfl ?_
        obtain ⟨x1, M2, h9, hE⟩ := b2_some hE
        refine rc_I S (rn_V S fc8 (by decide) (c_MD_join _ _ (gYX S) v4 v13 M _ _ h9) wdX8_join q_622 ⟨Nat.le_of_ble_eq_true rfl, Nat.le_of_ble_eq_true rfl⟩ rfl (Nat.le_of_ble_eq_true rfl) dX8_pours_181) ?_
        refine r_goto S 189 dX8_pours_184 (by decide) ?_
        refine r_istore (lv2 := [(4, .int x1), (14, .int t0), (0, .ref (hY X.2.1.2 + 0)), (5, .long v5), (13, .int v13)]) S dX8_pours_189 (by decide) rfl ?_
        refine r_goto S 10 dX8_pours_191 (by decide) ?_
        obtain ⟨rfl, rfl⟩ := si2 hE
        exact r_sub (lv2 := [(0, .ref (hY X.2.1.2 + 0)), (4, .int x1), (5, .long v5)]) [2, 0, 3] rfl (hC (x1, v5) rfl)
    have J168 : ∀ (v4 : Int32) (v5 : Int64) (v13 : Int32) (M : Mem), MD_pours_L10_J168 v4 v5 v13 M = some (d, M3) → AW X 168 [(0, .ref (hY X.2.1.2 + 0)), (4, .int v4), (5, .long v5), (13, .int v13)] [] M := by
      intro v4 v5 v13 M hE
      unfold MD_pours_L10_J168 at hE
      refine r_iconst S (0 : Int32) dX8_pours_168 rfl ?_
      exact r_sub [0, 1, 2, 3] rfl (J169 v4 v5 v13 (0 : Int32) M hE)
    have J100 : ∀ (v4 : Int32) (v5 : Int64) (v9 : Int32) (v10 : Int32) (t0 : Int64) (M : Mem), MD_pours_L10_J100 v4 v5 v9 v10 t0 M = some (d, M3) → AW X 100 [(0, .ref (hY X.2.1.2 + 0)), (4, .int v4), (5, .long v5), (9, .int v9), (10, .int v10)] [.long t0] M := by
      intro v4 v5 v9 v10 t0 M hE
      unfold MD_pours_L10_J100 at hE
      refine r_lstore (lv2 := [(11, .long t0), (0, .ref (hY X.2.1.2 + 0)), (4, .int v4), (5, .long v5), (9, .int v9), (10, .int v10)]) S dX8_pours_100 (by decide) rfl ?_
      refine r_aload_n S dX8_pours_102 1 rfl ?_
      refine r_getRK S fc8 (by decide) 0 1 rfl rfl q_523 dX8_pours_103 ?_
      refine r_sipush S (224 : Int32) dX8_pours_106 rfl ?_
      refine r_iload S dX8_pours_109 2 rfl ?_
      refine r_iadd S dX8_pours_111 ?_
      refine r_dup2 S dX8_pours_112 rfl rfl ?_
      obtain ⟨hi, hE⟩ := ck_some hE
      refine r_lald S (by decide) hi dX8_pours_113 ?_
      refine r_lload S dX8_pours_114 0 rfl ?_
      refine r_ladd S dX8_pours_116 ?_
      obtain ⟨hi, hE⟩ := ck_some hE
      refine r_last S (by decide) hi dX8_pours_117 ?_
      refine r_lload S dX8_pours_118 3 rfl ?_
      refine r_lload S dX8_pours_120 0 rfl ?_
      refine r_lsub S dX8_pours_122 ?_
      refine r_lstore (lv2 := [(5, .long (v5 - t0)), (11, .long t0), (0, .ref (hY X.2.1.2 + 0)), (4, .int v4), (9, .int v9), (10, .int v10)]) S dX8_pours_123 (by decide) rfl ?_
      refine r_lload S dX8_pours_125 0 rfl ?_
      refine r_lconst S (0 : Int64) dX8_pours_127 rfl ?_
      refine r_lcmp_le S 191 dX8_pours_128 dX8_pours_129 (by decide) (fun c => ?_) (fun c => ?_)
      · rw [if_pos c] at hE
        refine r_goto S 10 dX8_pours_191 (by decide) ?_
        obtain ⟨rfl, rfl⟩ := si2 hE
        exact r_sub (lv2 := [(0, .ref (hY X.2.1.2 + 0)), (4, .int v4), (5, .long (v5 - t0))]) [2, 3, 0] rfl (hC (v4, (v5 - t0)) rfl)
      · rw [if_neg c] at hE
        refine r_aload_n S dX8_pours_132 2 rfl ?_
        refine r_iload S dX8_pours_133 5 rfl ?_
        obtain ⟨x1, h9, hE⟩ := b1_some hE
        refine rc_I S (rn_V S fc8 (by decide) (c_MD_lakeOf _ _ (gYX S) v10 (sL M 1 ((224 : Int32) + v4).toNatClampNeg ((gL M 1 ((224 : Int32) + v4).toNatClampNeg) + t0)) _ h9) wdX8_lakeOf q_612 ⟨Nat.le_of_ble_eq_true rfl, Nat.le_of_ble_eq_true rfl⟩ rfl (Nat.le_of_ble_eq_true rfl) dX8_pours_135) ?_
        refine r_istore (lv2 := [(13, .int x1), (5, .long (v5 - t0)), (11, .long t0), (0, .ref (hY X.2.1.2 + 0)), (4, .int v4), (9, .int v9), (10, .int v10)]) S dX8_pours_138 (by decide) rfl ?_
        refine r_iload S dX8_pours_140 0 rfl ?_
        refine r_iconst S (-1 : Int32) dX8_pours_142 rfl ?_
        refine r_icmp_eq S 168 dX8_pours_143 (by decide) (fun c => ?_) (fun c => ?_)
        · rw [if_pos c] at hE
          exact r_sub [3, 4, 1, 0] rfl (J168 v4 (v5 - t0) x1 (sL M 1 ((224 : Int32) + v4).toNatClampNeg ((gL M 1 ((224 : Int32) + v4).toNatClampNeg) + t0)) hE)
        · rw [if_neg c] at hE
          refine r_aload_n S dX8_pours_146 3 rfl ?_
          refine r_iload S dX8_pours_147 0 rfl ?_
          obtain ⟨x2, M3, h9, hE⟩ := b2_some hE
          refine rc_I S (rn_V S fc8 (by decide) (c_MD_isFull _ _ (gYX S) x1 (sL M 1 ((224 : Int32) + v4).toNatClampNeg ((gL M 1 ((224 : Int32) + v4).toNatClampNeg) + t0)) _ _ h9) wdX8_isFull q_617 ⟨Nat.le_of_ble_eq_true rfl, Nat.le_of_ble_eq_true rfl⟩ rfl (Nat.le_of_ble_eq_true rfl) dX8_pours_149) ?_
          refine r_if_eq S 168 dX8_pours_152 (by decide) (fun c => ?_) (fun c => ?_)
          · try simp only [if_pos c] at hE
            refine r_iconst S (0 : Int32) dX8_pours_168 rfl ?_
            exact r_sub [3, 4, 1, 0] rfl (J169 v4 (v5 - t0) x1 (0 : Int32) M3 hE)
          · try simp only [if_neg c] at hE
            refine r_aload_n S dX8_pours_155 3 rfl ?_
            refine r_getI S fc8 (by decide) 8 rfl q_594 dX8_pours_156 ?_
            refine r_iload S dX8_pours_159 5 rfl ?_
            refine r_icmp_ne S 168 dX8_pours_161 (by decide) (fun c => ?_) (fun c => ?_)
            · try simp only [if_pos c] at hE
              refine r_iconst S (0 : Int32) dX8_pours_168 rfl ?_
              exact r_sub [3, 4, 1, 0] rfl (J169 v4 (v5 - t0) x1 (0 : Int32) M3 hE)
            · try simp only [if_neg (not_not_intro c)] at hE
              refine r_iconst S (1 : Int32) dX8_pours_164 rfl ?_
              refine r_goto S 169 dX8_pours_165 (by decide) ?_
              exact r_sub [3, 4, 1, 0] rfl (J169 v4 (v5 - t0) x1 (1 : Int32) M3 hE)
    have J83 : ∀ (v4 : Int32) (v5 : Int64) (v9 : Int32) (v10 : Int32) (t0 : Int64) (M : Mem), MD_pours_L10_J83 v4 v5 v9 v10 t0 M = some (d, M3) → AW X 83 [(0, .ref (hY X.2.1.2 + 0)), (4, .int v4), (5, .long v5), (9, .int v9), (10, .int v10)] [.long t0] M := by
      intro v4 v5 v9 v10 t0 M hE
      unfold MD_pours_L10_J83 at hE
      refine r_lstore (lv2 := [(7, .long t0), (0, .ref (hY X.2.1.2 + 0)), (4, .int v4), (5, .long v5), (9, .int v9), (10, .int v10)]) S dX8_pours_83 (by decide) rfl ?_
      refine r_lload S dX8_pours_85 3 rfl ?_
      refine r_lload S dX8_pours_87 0 rfl ?_
      refine r_lcmp_ge S 98 dX8_pours_89 dX8_pours_90 (by decide) (fun c => ?_) (fun c => ?_)
      · rw [if_pos c] at hE
        refine r_lload S dX8_pours_98 0 rfl ?_
        exact r_sub [1, 2, 3, 4, 5] rfl (J100 v4 v5 v9 v10 t0 M hE)
      · rw [if_neg c] at hE
        refine r_lload S dX8_pours_93 3 rfl ?_
        refine r_goto S 100 dX8_pours_95 (by decide) ?_
        exact r_sub [1, 2, 3, 4, 5] rfl (J100 v4 v5 v9 v10 v5 M hE)
    unfold MD_pours_L10 at hE
    refine r_lload S dX8_pours_10 2 rfl ?_
    refine r_lconst S (0 : Int64) dX8_pours_12 rfl ?_
    refine r_lcmp_le S 194 dX8_pours_13 dX8_pours_14 (by decide) (fun c => ?_) (fun c => ?_)
    · rw [if_pos c] at hE
      obtain ⟨rfl, rfl⟩ := si2 hE
      rcases hD with ⟨h1, h2⟩ | ⟨_, h1⟩
      · obtain rfl := sir h1
        subst h2
        exact r_sub [] rfl (hX _ rfl)
      · exact (sil h1).elim
    · rw [if_neg c] at hE
      refine r_iload S dX8_pours_17 1 rfl ?_
      refine r_iconst S (-1 : Int32) dX8_pours_19 rfl ?_
      refine r_icmp_ne S 35 dX8_pours_20 (by decide) (fun c => ?_) (fun c => ?_)
      · rw [if_pos c] at hE
        refine r_aload_n S dX8_pours_35 0 rfl ?_
        refine r_iload S dX8_pours_36 1 rfl ?_
        obtain ⟨x1, M2, h9, hE⟩ := b2_some hE
        refine rc_L S (rn_V S fc8 (by decide) (c_MD_capacity _ _ (gYX S) v4 M _ _ h9) wdX8_capacity q_602 ⟨Nat.le_of_ble_eq_true rfl, Nat.le_of_ble_eq_true rfl⟩ rfl (Nat.le_of_ble_eq_true rfl) dX8_pours_38) ?_
        refine r_lstore (lv2 := [(7, .long x1), (0, .ref (hY X.2.1.2 + 0)), (4, .int v4), (5, .long v5)]) S dX8_pours_41 (by decide) rfl ?_
        refine r_aload_n S dX8_pours_43 1 rfl ?_
        refine r_getI S fc8 (by decide) 8 rfl q_594 dX8_pours_44 ?_
        refine r_istore (lv2 := [(9, .int (gI M2 0 8)), (7, .long x1), (0, .ref (hY X.2.1.2 + 0)), (4, .int v4), (5, .long v5)]) S dX8_pours_47 (by decide) rfl ?_
        refine r_aload_n S dX8_pours_49 2 rfl ?_
        refine r_getI S fc8 (by decide) 7 rfl q_596 dX8_pours_50 ?_
        refine r_istore (lv2 := [(10, .int (gI M2 0 7)), (9, .int (gI M2 0 8)), (7, .long x1), (0, .ref (hY X.2.1.2 + 0)), (4, .int v4), (5, .long v5)]) S dX8_pours_53 (by decide) rfl ?_
        refine r_lload S dX8_pours_55 2 rfl ?_
        refine r_ldc2 S (v := -1) q_589 dX8_pours_57 ?_
        refine r_lcmp_ne S 69 dX8_pours_60 dX8_pours_61 (by decide) (fun c => ?_) (fun c => ?_)
        · rw [if_pos c] at hE
          refine r_lload S dX8_pours_69 2 rfl ?_
          refine r_aload_n S dX8_pours_71 3 rfl ?_
          refine r_getRK S fc8 (by decide) 0 1 rfl rfl q_523 dX8_pours_72 ?_
          refine r_sipush S (224 : Int32) dX8_pours_75 rfl ?_
          refine r_iload S dX8_pours_78 4 rfl ?_
          refine r_iadd S dX8_pours_80 ?_
          obtain ⟨hi, hE⟩ := ck_some hE
          refine r_lald S (by decide) hi dX8_pours_81 ?_
          refine r_lsub S dX8_pours_82 ?_
          exact r_sub [3, 4, 5, 1, 0] rfl (J83 v4 v5 (gI M2 0 8) (gI M2 0 7) (x1 - (gL M2 1 ((224 : Int32) + v4).toNatClampNeg)) M2 hE)
        · rw [if_neg (not_not_intro c)] at hE
          refine r_lload S dX8_pours_64 5 rfl ?_
          refine r_goto S 83 dX8_pours_66 (by decide) ?_
          exact r_sub [3, 4, 5, 1, 0] rfl (J83 v4 v5 (gI M2 0 8) (gI M2 0 7) v5 M2 hE)
      · rw [if_neg (not_not_intro c)] at hE
        refine r_aload_n S dX8_pours_23 0 rfl ?_
        refine r_getRK S fc8 (by decide) 0 1 rfl rfl q_523 dX8_pours_24 ?_
        refine r_iconst S (3 : Int32) dX8_pours_27 rfl ?_
        refine r_dup2 S dX8_pours_28 rfl rfl ?_
        refine r_laldK S 3 rfl (by decide) (by decide) dX8_pours_29 ?_
        refine r_lload S dX8_pours_30 2 rfl ?_
        refine r_ladd S dX8_pours_32 ?_
        refine r_lastK S 3 rfl (by decide) (by decide) dX8_pours_33 ?_
        obtain ⟨rfl, rfl⟩ := si2 hE
        rcases hD with ⟨h1, h2⟩ | ⟨_, h1⟩
        · obtain rfl := sir h1
          subst h2
          obtain ⟨rfl, rfl⟩ := hR _ rfl
          exact hret _ _ dX8_pours_34
        · exact (sil h1).elim
  unfold MD_pours at hE
  refine r_aload_n S dX8_pours_0 0 rfl ?_
  refine r_iload_n S dX8_pours_1 1 rfl ?_
  obtain ⟨x1, h9, hE⟩ := b1_some hE
  refine rc_I S (rn_V S fc8 (by decide) (c_MD_lakeOf _ _ (gYX S) a1 M _ h9) wdX8_lakeOf q_612 ⟨Nat.le_of_ble_eq_true rfl, Nat.le_of_ble_eq_true rfl⟩ rfl (Nat.le_of_ble_eq_true rfl) dX8_pours_2) ?_
  refine r_istore (lv2 := [(4, .int x1), (0, .ref (hY X.2.1.2 + 0)), (1, .int a1), (2, .long a2)]) S dX8_pours_5 (by decide) rfl ?_
  refine r_lload_n S dX8_pours_7 3 rfl ?_
  refine r_lstore (lv2 := [(5, .long a2), (4, .int x1), (0, .ref (hY X.2.1.2 + 0)), (1, .int a1), (2, .long a2)]) S dX8_pours_8 (by decide) rfl ?_
  obtain ⟨e2, M3, h9, hE⟩ := b2_some hE
  refine r_sub [2, 1, 0] rfl (L10   e2 M3 (fun e4 h8 => ?_) (fun r8 h8 => ?_) _ _ M h9)
  · subst h8
    obtain ⟨rfl, rfl⟩ := si2 hE
    exact hret _ _ dX8_pours_194
  · subst h8
    exact si2 hE
set_option maxRecDepth 100000 in
set_option maxHeartbeats 4000000 in
theorem c_MD_parts (l : Launch) (Y : Env1) (hG : gY Y = gM) (a1 : Int32) (a2 : Int32) (a3 : Int32) (M : Mem) (r : Unit) (M1 : Mem) (hE : MD_parts a1 a2 a3 M = some (r, M1)) : CnV l Y yX8_parts cX8_parts 4 6 [.ref (hY Y + 0), .int a1, .int a2, .int a3] M M1 := by
  refine met_V (own := RX8) (by decide +kernel) rfl hG (Nat.le_of_ble_eq_true rfl) (fun X S hY1 hl1 hret => ?_)
  subst hY1
  subst hl1
  show AW X 0 [(0, .ref (hY X.2.1.2 + 0)), (1, .int a1), (2, .int a2), (3, .int a3)] [] M
  unfold MD_parts at hE
  refine r_aload_n S dX8_parts_0 0 rfl ?_
  refine r_getRK S fc8 (by decide) 0 1 rfl rfl q_523 dX8_parts_1 ?_
  refine r_sipush S (152 : Int32) dX8_parts_4 rfl ?_
  refine r_iload_n S dX8_parts_7 1 rfl ?_
  refine r_iadd S dX8_parts_8 ?_
  refine r_lconst S (0 : Int64) dX8_parts_9 rfl ?_
  obtain ⟨hi, hE⟩ := ck_some hE
  refine r_last S (by decide) hi dX8_parts_10 ?_
  refine r_aload_n S dX8_parts_11 0 rfl ?_
  refine r_getRK S fc8 (by decide) 0 1 rfl rfl q_523 dX8_parts_12 ?_
  refine r_sipush S (224 : Int32) dX8_parts_15 rfl ?_
  refine r_iload_n S dX8_parts_18 1 rfl ?_
  refine r_iadd S dX8_parts_19 ?_
  refine r_lconst S (0 : Int64) dX8_parts_20 rfl ?_
  obtain ⟨hi, hE⟩ := ck_some hE
  refine r_last S (by decide) hi dX8_parts_21 ?_
  refine r_aload_n S dX8_parts_22 0 rfl ?_
  refine r_getRK S fc8 (by decide) 0 1 rfl rfl q_523 dX8_parts_23 ?_
  refine r_sipush S (296 : Int32) dX8_parts_26 rfl ?_
  refine r_iload_n S dX8_parts_29 1 rfl ?_
  refine r_iadd S dX8_parts_30 ?_
  refine r_lconst S (0 : Int64) dX8_parts_31 rfl ?_
  obtain ⟨hi, hE⟩ := ck_some hE
  refine r_last S (by decide) hi dX8_parts_32 ?_
  refine r_aload_n S dX8_parts_33 0 rfl ?_
  refine r_getRK S fc8 (by decide) 0 1 rfl rfl q_523 dX8_parts_34 ?_
  refine r_sipush S (368 : Int32) dX8_parts_37 rfl ?_
  refine r_iload_n S dX8_parts_40 1 rfl ?_
  refine r_iadd S dX8_parts_41 ?_
  refine r_lconst S (0 : Int64) dX8_parts_42 rfl ?_
  obtain ⟨hi, hE⟩ := ck_some hE
  refine r_last S (by decide) hi dX8_parts_43 ?_
  refine r_aload_n S dX8_parts_44 0 rfl ?_
  refine r_getRK S fc8 (by decide) 0 1 rfl rfl q_523 dX8_parts_45 ?_
  refine r_sipush S (440 : Int32) dX8_parts_48 rfl ?_
  refine r_iload_n S dX8_parts_51 1 rfl ?_
  refine r_iadd S dX8_parts_52 ?_
  refine r_lconst S (0 : Int64) dX8_parts_53 rfl ?_
  obtain ⟨hi, hE⟩ := ck_some hE
  refine r_last S (by decide) hi dX8_parts_54 ?_
  refine r_aload_n S dX8_parts_55 0 rfl ?_
  refine r_getRK S fc8 (by decide) 0 1 rfl rfl q_523 dX8_parts_56 ?_
  refine r_sipush S (224 : Int32) dX8_parts_59 rfl ?_
  refine r_iload_n S dX8_parts_62 2 rfl ?_
  refine r_iadd S dX8_parts_63 ?_
  refine r_aload_n S dX8_parts_64 0 rfl ?_
  refine r_iload_n S dX8_parts_65 2 rfl ?_
  obtain ⟨x1, M2, h9, hE⟩ := b2_some hE
  refine rc_L S (rn_V S fc8 (by decide) (c_MD_capacity _ _ (gYX S) a2 (sL (sL (sL (sL (sL M 1 ((152 : Int32) + a1).toNatClampNeg (0 : Int64)) 1 ((224 : Int32) + a1).toNatClampNeg (0 : Int64)) 1 ((296 : Int32) + a1).toNatClampNeg (0 : Int64)) 1 ((368 : Int32) + a1).toNatClampNeg (0 : Int64)) 1 ((440 : Int32) + a1).toNatClampNeg (0 : Int64)) _ _ h9) wdX8_capacity q_602 ⟨Nat.le_of_ble_eq_true rfl, Nat.le_of_ble_eq_true rfl⟩ rfl (Nat.le_of_ble_eq_true rfl) dX8_parts_66) ?_
  obtain ⟨hi, hE⟩ := ck_some hE
  refine r_last S (by decide) hi dX8_parts_69 ?_
  refine r_aload_n S dX8_parts_70 0 rfl ?_
  refine r_getRK S fc8 (by decide) 0 1 rfl rfl q_523 dX8_parts_71 ?_
  refine r_sipush S (224 : Int32) dX8_parts_74 rfl ?_
  refine r_iload_n S dX8_parts_77 3 rfl ?_
  refine r_iadd S dX8_parts_78 ?_
  refine r_aload_n S dX8_parts_79 0 rfl ?_
  refine r_iload_n S dX8_parts_80 3 rfl ?_
  obtain ⟨x3, M4, h9, hE⟩ := b2_some hE
  refine rc_L S (rn_V S fc8 (by decide) (c_MD_capacity _ _ (gYX S) a3 (sL M2 1 ((224 : Int32) + a2).toNatClampNeg x1) _ _ h9) wdX8_capacity q_602 ⟨Nat.le_of_ble_eq_true rfl, Nat.le_of_ble_eq_true rfl⟩ rfl (Nat.le_of_ble_eq_true rfl) dX8_parts_81) ?_
  obtain ⟨hi, hE⟩ := ck_some hE
  refine r_last S (by decide) hi dX8_parts_84 ?_
  refine r_aload_n S dX8_parts_85 0 rfl ?_
  refine r_getRK S fc8 (by decide) 0 1 rfl rfl q_523 dX8_parts_86 ?_
  refine r_sipush S (440 : Int32) dX8_parts_89 rfl ?_
  refine r_iload_n S dX8_parts_92 2 rfl ?_
  refine r_iadd S dX8_parts_93 ?_
  refine r_lconst S (1 : Int64) dX8_parts_94 rfl ?_
  obtain ⟨hi, hE⟩ := ck_some hE
  refine r_last S (by decide) hi dX8_parts_95 ?_
  refine r_aload_n S dX8_parts_96 0 rfl ?_
  refine r_getRK S fc8 (by decide) 0 1 rfl rfl q_523 dX8_parts_97 ?_
  refine r_sipush S (440 : Int32) dX8_parts_100 rfl ?_
  refine r_iload_n S dX8_parts_103 3 rfl ?_
  refine r_iadd S dX8_parts_104 ?_
  refine r_lconst S (1 : Int64) dX8_parts_105 rfl ?_
  obtain ⟨hi, hE⟩ := ck_some hE
  refine r_last S (by decide) hi dX8_parts_106 ?_
  obtain ⟨rfl, rfl⟩ := si2 hE
  exact hret _ _ dX8_parts_107
set_option maxRecDepth 100000 in
set_option maxHeartbeats 4000000 in
theorem c_MD_takes (l : Launch) (Y : Env1) (hG : gY Y = gM) (a1 : Int32) (a2 : Int64) (M : Mem) (r : Unit) (M1 : Mem) (hE : MD_takes a1 a2 M = some (r, M1)) : CnV l Y yX8_takes cX8_takes 17 7 [.ref (hY Y + 0), .int a1, .long a2] M M1 := by
  refine met_V (own := RX8) (by decide +kernel) rfl hG (Nat.le_of_ble_eq_true rfl) (fun X S hY1 hl1 hret => ?_)
  subst hY1
  subst hl1
  show AW X 0 [(0, .ref (hY X.2.1.2 + 0)), (1, .int a1), (2, .long a2)] [] M
  have L17 : ∀ (v2 : Int64) (e : (Unit)) (M2 : Mem), AW X 277 [(0, .ref (hY X.2.1.2 + 0)), (2, .long v2)] [] M2 → ∀ (n : Nat) (s : Int32) (M : Mem), lpM (fun s M => MD_takes_L17 v2 s M) n s M = some (e, M2) → AW X 17 [(0, .ref (hY X.2.1.2 + 0)), (2, .long v2), (4, .int s)] [] M := by
    intro v2 e M2 hX
    refine lpM_ind (P := fun (s : Int32) (M : Mem) => AW X 17 [(0, .ref (hY X.2.1.2 + 0)), (2, .long v2), (4, .int s)] [] M) ?_
    rintro v4 M d M3 hE hC hD
    replace hE : MD_takes_L17 v2 v4 M = some (d, M3) := hE
    show AW X 17 [(0, .ref (hY X.2.1.2 + 0)), (2, .long v2), (4, .int v4)] [] M
    have J220 : ∀ (v4 : Int32) (v10 : Int64) (v12 : Int32) (v13 : Int32) (v14 : Int32) (t0 : Int64) (M : Mem), MD_takes_L17_J220 v2 v4 v10 v12 v13 v14 t0 M = some (d, M3) → AW X 220 [(0, .ref (hY X.2.1.2 + 0)), (2, .long v2), (4, .int v4), (10, .long v10), (12, .int v12), (13, .int v13), (14, .int v14)] [.long t0] M := by
      intro v4 v10 v12 v13 v14 t0 M hE
      unfold MD_takes_L17_J220 at hE
      refine r_lstore (lv2 := [(15, .long t0), (0, .ref (hY X.2.1.2 + 0)), (2, .long v2), (4, .int v4), (10, .long v10), (12, .int v12), (13, .int v13), (14, .int v14)]) S dX8_takes_220 (by decide) rfl ?_
      refine r_aload_n S dX8_takes_222 1 rfl ?_
      refine r_getRK S fc8 (by decide) 9 5 rfl rfl q_627 dX8_takes_223 ?_
      refine r_iload S dX8_takes_226 3 rfl ?_
      refine r_iload S dX8_takes_228 5 rfl ?_
      refine r_iload S dX8_takes_230 6 rfl ?_
      refine r_iadd S dX8_takes_232 ?_
      refine r_iload S dX8_takes_233 7 rfl ?_
      refine r_isub S dX8_takes_235 ?_
      obtain ⟨hi, hE⟩ := ck_some hE
      refine r_iast S (by decide) hi dX8_takes_236 ?_
      refine r_aload_n S dX8_takes_237 1 rfl ?_
      refine r_getRK S fc8 (by decide) 10 6 rfl rfl q_628 dX8_takes_238 ?_
      refine r_iload S dX8_takes_241 3 rfl ?_
      refine r_lload S dX8_takes_243 4 rfl ?_
      refine r_lload S dX8_takes_245 0 rfl ?_
      refine r_lsub S dX8_takes_247 ?_
      obtain ⟨hi, hE⟩ := ck_some hE
      refine r_last S (by decide) hi dX8_takes_248 ?_
      refine r_aload_n S dX8_takes_249 1 rfl ?_
      refine r_getRK S fc8 (by decide) 9 5 rfl rfl q_627 dX8_takes_250 ?_
      refine r_iload S dX8_takes_253 3 rfl ?_
      refine r_iconst S (1 : Int32) dX8_takes_255 rfl ?_
      refine r_iadd S dX8_takes_256 ?_
      refine r_iload S dX8_takes_257 7 rfl ?_
      obtain ⟨hi, hE⟩ := ck_some hE
      refine r_iast S (by decide) hi dX8_takes_259 ?_
      refine r_aload_n S dX8_takes_260 1 rfl ?_
      refine r_getRK S fc8 (by decide) 10 6 rfl rfl q_628 dX8_takes_261 ?_
      refine r_iload S dX8_takes_264 3 rfl ?_
      refine r_iconst S (1 : Int32) dX8_takes_266 rfl ?_
      refine r_iadd S dX8_takes_267 ?_
      refine r_lload S dX8_takes_268 0 rfl ?_
      obtain ⟨hi, hE⟩ := ck_some hE
      refine r_last S (by decide) hi dX8_takes_270 ?_
      refine r_iinc (lv2 := [(4, .int (v4 + (2 : Int32))), (15, .long t0), (0, .ref (hY X.2.1.2 + 0)), (2, .long v2), (10, .long v10), (12, .int v12), (13, .int v13), (14, .int v14)]) S dX8_takes_271 (j := 3) rfl (by decide) rfl ?_
      refine r_goto S 17 dX8_takes_274 (by decide) ?_
      obtain ⟨rfl, rfl⟩ := si2 hE
      exact r_sub (lv2 := [(0, .ref (hY X.2.1.2 + 0)), (2, .long v2), (4, .int (v4 + (2 : Int32)))]) [2, 3, 0] rfl (hC (v4 + (2 : Int32)) rfl)
    have J185 : ∀ (v4 : Int32) (v10 : Int64) (v12 : Int32) (v13 : Int32) (t0 : Int32) (M : Mem), MD_takes_L17_J185 v2 v4 v10 v12 v13 t0 M = some (d, M3) → AW X 185 [(0, .ref (hY X.2.1.2 + 0)), (2, .long v2), (4, .int v4), (10, .long v10), (12, .int v12), (13, .int v13)] [.int t0] M := by
      intro v4 v10 v12 v13 t0 M hE
      unfold MD_takes_L17_J185 at hE
      refine r_istore (lv2 := [(14, .int t0), (0, .ref (hY X.2.1.2 + 0)), (2, .long v2), (4, .int v4), (10, .long v10), (12, .int v12), (13, .int v13)]) S dX8_takes_185 (by decide) rfl ?_
      refine r_lload S dX8_takes_187 4 rfl ?_
      refine r_aload_n S dX8_takes_189 1 rfl ?_
      refine r_getRK S fc8 (by decide) 0 1 rfl rfl q_523 dX8_takes_190 ?_
      refine r_sipush S (224 : Int32) dX8_takes_193 rfl ?_
      refine r_iload S dX8_takes_196 0 rfl ?_
      refine r_iadd S dX8_takes_198 ?_
      obtain ⟨hi, hE⟩ := ck_some hE
      refine r_lald S (by decide) hi dX8_takes_199 ?_
      refine r_lcmp_ge S 209 dX8_takes_200 dX8_takes_201 (by decide) (fun c => ?_) (fun c => ?_)
      · rw [if_pos c] at hE
        refine r_aload_n S dX8_takes_209 1 rfl ?_
        refine r_getRK S fc8 (by decide) 0 1 rfl rfl q_523 dX8_takes_210 ?_
        refine r_sipush S (224 : Int32) dX8_takes_213 rfl ?_
        refine r_iload S dX8_takes_216 0 rfl ?_
        refine r_iadd S dX8_takes_218 ?_
        obtain ⟨hi, hE⟩ := ck_some hE
        refine r_lald S (by decide) hi dX8_takes_219 ?_
        exact r_sub [1, 2, 3, 4, 5, 6, 0] rfl (J220 v4 v10 v12 v13 t0 (gL M 1 ((224 : Int32) + t0).toNatClampNeg) M hE)
      · rw [if_neg c] at hE
        refine r_lload S dX8_takes_204 4 rfl ?_
        refine r_goto S 220 dX8_takes_206 (by decide) ?_
        exact r_sub [1, 2, 3, 4, 5, 6, 0] rfl (J220 v4 v10 v12 v13 t0 v10 M hE)
    unfold MD_takes_L17 at hE
    refine r_iload S dX8_takes_17 2 rfl ?_
    refine r_if_le S 277 dX8_takes_19 (by decide) (fun c => ?_) (fun c => ?_)
    · rw [if_pos c] at hE
      obtain ⟨rfl, rfl⟩ := si2 hE
      rcases hD with ⟨h1, h2⟩ | ⟨_, h1⟩
      · obtain rfl := sir h1
        subst h2
        exact r_sub [0, 1] rfl hX
      · exact (sil h1).elim
    · rw [if_neg c] at hE
      refine r_iinc (lv2 := [(4, .int (v4 + (-1 : Int32))), (0, .ref (hY X.2.1.2 + 0)), (2, .long v2)]) S dX8_takes_22 (j := 2) rfl (by decide) rfl ?_
      refine r_aload_n S dX8_takes_25 1 rfl ?_
      refine r_getRK S fc8 (by decide) 9 5 rfl rfl q_627 dX8_takes_26 ?_
      refine r_iload S dX8_takes_29 0 rfl ?_
      obtain ⟨hi, hE⟩ := ck_some hE
      refine r_iald S (by decide) hi dX8_takes_31 ?_
      refine r_istore (lv2 := [(5, .int (gI M 5 (v4 + (-1 : Int32)).toNatClampNeg)), (4, .int (v4 + (-1 : Int32))), (0, .ref (hY X.2.1.2 + 0)), (2, .long v2)]) S dX8_takes_32 (by decide) rfl ?_
      refine r_aload_n S dX8_takes_34 2 rfl ?_
      refine r_getRK S fc8 (by decide) 10 6 rfl rfl q_628 dX8_takes_35 ?_
      refine r_iload S dX8_takes_38 1 rfl ?_
      obtain ⟨hi, hE⟩ := ck_some hE
      refine r_lald S (by decide) hi dX8_takes_40 ?_
      refine r_lstore (lv2 := [(6, .long (gL M 6 (v4 + (-1 : Int32)).toNatClampNeg)), (5, .int (gI M 5 (v4 + (-1 : Int32)).toNatClampNeg)), (4, .int (v4 + (-1 : Int32))), (0, .ref (hY X.2.1.2 + 0)), (2, .long v2)]) S dX8_takes_41 (by decide) rfl ?_
      refine r_aload_n S dX8_takes_43 3 rfl ?_
      refine r_iload S dX8_takes_44 1 rfl ?_
      obtain ⟨x1, M2, h9, hE⟩ := b2_some hE
      refine rc_L S (rn_V S fc8 (by decide) (c_MD_leastVolume _ _ (gYX S) (gI M 5 (v4 + (-1 : Int32)).toNatClampNeg) M _ _ h9) wdX8_leastVolume q_629 ⟨Nat.le_of_ble_eq_true rfl, Nat.le_of_ble_eq_true rfl⟩ rfl (Nat.le_of_ble_eq_true rfl) dX8_takes_46) ?_
      refine r_lstore (lv2 := [(8, .long x1), (6, .long (gL M 6 (v4 + (-1 : Int32)).toNatClampNeg)), (5, .int (gI M 5 (v4 + (-1 : Int32)).toNatClampNeg)), (4, .int (v4 + (-1 : Int32))), (0, .ref (hY X.2.1.2 + 0)), (2, .long v2)]) S dX8_takes_49 (by decide) rfl ?_
      refine r_aload_n S dX8_takes_51 4 rfl ?_
      refine r_getRK S fc8 (by decide) 0 1 rfl rfl q_523 dX8_takes_52 ?_
      refine r_sipush S (224 : Int32) dX8_takes_55 rfl ?_
      refine r_iload S dX8_takes_58 2 rfl ?_
      refine r_iadd S dX8_takes_60 ?_
      obtain ⟨hi, hE⟩ := ck_some hE
      refine r_lald S (by decide) hi dX8_takes_61 ?_
      refine r_lload S dX8_takes_62 1 rfl ?_
      refine r_lsub S dX8_takes_64 ?_
      refine r_lload S dX8_takes_65 0 rfl ?_
      refine r_lcmp_lt S 90 dX8_takes_67 dX8_takes_68 (by decide) (fun c => ?_) (fun c => ?_)
      · rw [if_pos c] at hE
        refine r_lload S dX8_takes_90 1 rfl ?_
        refine r_aload_n S dX8_takes_92 4 rfl ?_
        refine r_getRK S fc8 (by decide) 0 1 rfl rfl q_523 dX8_takes_93 ?_
        refine r_sipush S (224 : Int32) dX8_takes_96 rfl ?_
        refine r_iload S dX8_takes_99 2 rfl ?_
        refine r_iadd S dX8_takes_101 ?_
        obtain ⟨hi, hE⟩ := ck_some hE
        refine r_lald S (by decide) hi dX8_takes_102 ?_
        refine r_lload S dX8_takes_103 0 rfl ?_
        refine r_lsub S dX8_takes_105 ?_
        refine r_lsub S dX8_takes_106 ?_
        refine r_lstore (lv2 := [(10, .long ((gL M 6 (v4 + (-1 : Int32)).toNatClampNeg) - ((gL M2 1 ((224 : Int32) + (gI M 5 (v4 + (-1 : Int32)).toNatClampNeg)).toNatClampNeg) - x1))), (8, .long x1), (6, .long (gL M 6 (v4 + (-1 : Int32)).toNatClampNeg)), (5, .int (gI M 5 (v4 + (-1 : Int32)).toNatClampNeg)), (4, .int (v4 + (-1 : Int32))), (0, .ref (hY X.2.1.2 + 0)), (2, .long v2)]) S dX8_takes_107 (by decide) rfl ?_
        refine r_aload_n S dX8_takes_109 5 rfl ?_
        refine r_getRK S fc8 (by decide) 0 1 rfl rfl q_523 dX8_takes_110 ?_
        refine r_sipush S (296 : Int32) dX8_takes_113 rfl ?_
        refine r_iload S dX8_takes_116 3 rfl ?_
        refine r_iadd S dX8_takes_118 ?_
        obtain ⟨hi, hE⟩ := ck_some hE
        refine r_lald S (by decide) hi dX8_takes_119 ?_
        refine r_l2i S dX8_takes_120 ?_
        refine r_istore (lv2 := [(12, .int ((gL M2 1 ((296 : Int32) + (gI M 5 (v4 + (-1 : Int32)).toNatClampNeg)).toNatClampNeg).toInt32)), (10, .long ((gL M 6 (v4 + (-1 : Int32)).toNatClampNeg) - ((gL M2 1 ((224 : Int32) + (gI M 5 (v4 + (-1 : Int32)).toNatClampNeg)).toNatClampNeg) - x1))), (8, .long x1), (6, .long (gL M 6 (v4 + (-1 : Int32)).toNatClampNeg)), (5, .int (gI M 5 (v4 + (-1 : Int32)).toNatClampNeg)), (4, .int (v4 + (-1 : Int32))), (0, .ref (hY X.2.1.2 + 0)), (2, .long v2)]) S dX8_takes_121 (by decide) rfl ?_
        refine r_aload_n S dX8_takes_123 6 rfl ?_
        refine r_getRK S fc8 (by decide) 0 1 rfl rfl q_523 dX8_takes_124 ?_
        refine r_sipush S (368 : Int32) dX8_takes_127 rfl ?_
        refine r_iload S dX8_takes_130 4 rfl ?_
        refine r_iadd S dX8_takes_132 ?_
        obtain ⟨hi, hE⟩ := ck_some hE
        refine r_lald S (by decide) hi dX8_takes_133 ?_
        refine r_l2i S dX8_takes_134 ?_
        refine r_istore (lv2 := [(13, .int ((gL M2 1 ((368 : Int32) + (gI M 5 (v4 + (-1 : Int32)).toNatClampNeg)).toNatClampNeg).toInt32)), (12, .int ((gL M2 1 ((296 : Int32) + (gI M 5 (v4 + (-1 : Int32)).toNatClampNeg)).toNatClampNeg).toInt32)), (10, .long ((gL M 6 (v4 + (-1 : Int32)).toNatClampNeg) - ((gL M2 1 ((224 : Int32) + (gI M 5 (v4 + (-1 : Int32)).toNatClampNeg)).toNatClampNeg) - x1))), (8, .long x1), (6, .long (gL M 6 (v4 + (-1 : Int32)).toNatClampNeg)), (5, .int (gI M 5 (v4 + (-1 : Int32)).toNatClampNeg)), (4, .int (v4 + (-1 : Int32))), (0, .ref (hY X.2.1.2 + 0)), (2, .long v2)]) S dX8_takes_135 (by decide) rfl ?_
        refine r_aload_n S dX8_takes_137 7 rfl ?_
        refine r_iload S dX8_takes_138 5 rfl ?_
        refine r_iload S dX8_takes_140 1 rfl ?_
        refine r_iload S dX8_takes_142 0 rfl ?_
        obtain ⟨x3, M4, h9, hE⟩ := b2_some hE
        refine rc_V S (rn_V S fc8 (by decide) (c_MD_parts _ _ (gYX S) (gI M 5 (v4 + (-1 : Int32)).toNatClampNeg) ((gL M2 1 ((296 : Int32) + (gI M 5 (v4 + (-1 : Int32)).toNatClampNeg)).toNatClampNeg).toInt32) ((gL M2 1 ((368 : Int32) + (gI M 5 (v4 + (-1 : Int32)).toNatClampNeg)).toNatClampNeg).toInt32) M2 _ _ h9) wdX8_parts q_634 ⟨Nat.le_of_ble_eq_true rfl, Nat.le_of_ble_eq_true rfl⟩ rfl (Nat.le_of_ble_eq_true rfl) dX8_takes_144) ?_
        refine r_aload_n S dX8_takes_147 7 rfl ?_
        refine r_getRK S fc8 (by decide) 0 1 rfl rfl q_523 dX8_takes_148 ?_
        refine r_sipush S (152 : Int32) dX8_takes_151 rfl ?_
        refine r_iload S dX8_takes_154 1 rfl ?_
        refine r_iadd S dX8_takes_156 ?_
        obtain ⟨hi, hE⟩ := ck_some hE
        refine r_lald S (by decide) hi dX8_takes_157 ?_
        obtain ⟨x5, h9, hE⟩ := b1_some hE
        refine rc_I S (rn_S S (c_MD_lowest _ _ (gYX S) (gL M4 1 ((152 : Int32) + ((gL M2 1 ((296 : Int32) + (gI M 5 (v4 + (-1 : Int32)).toNatClampNeg)).toNatClampNeg).toInt32)).toNatClampNeg) M4 _ h9) wdX8_lowest q_590 ⟨Nat.le_of_ble_eq_true rfl, Nat.le_of_ble_eq_true rfl⟩ rfl (Nat.le_of_ble_eq_true rfl) dX8_takes_158) ?_
        refine r_aload_n S dX8_takes_161 7 rfl ?_
        refine r_getRK S fc8 (by decide) 0 1 rfl rfl q_523 dX8_takes_162 ?_
        refine r_sipush S (152 : Int32) dX8_takes_165 rfl ?_
        refine r_iload S dX8_takes_168 0 rfl ?_
        refine r_iadd S dX8_takes_170 ?_
        obtain ⟨hi, hE⟩ := ck_some hE
        refine r_lald S (by decide) hi dX8_takes_171 ?_
        obtain ⟨x6, h9, hE⟩ := b1_some hE
        refine rc_I S (rn_S S (c_MD_lowest _ _ (gYX S) (gL M4 1 ((152 : Int32) + ((gL M2 1 ((368 : Int32) + (gI M 5 (v4 + (-1 : Int32)).toNatClampNeg)).toNatClampNeg).toInt32)).toNatClampNeg) M4 _ h9) wdX8_lowest q_590 ⟨Nat.le_of_ble_eq_true rfl, Nat.le_of_ble_eq_true rfl⟩ rfl (Nat.le_of_ble_eq_true rfl) dX8_takes_172) ?_
        refine r_icmp_ge S 183 dX8_takes_175 (by decide) (fun c => ?_) (fun c => ?_)
        · try simp only [if_pos c] at hE
          refine r_iload S dX8_takes_183 0 rfl ?_
          exact r_sub [7, 8, 6, 2, 1, 0] rfl (J185 (v4 + (-1 : Int32)) ((gL M 6 (v4 + (-1 : Int32)).toNatClampNeg) - ((gL M2 1 ((224 : Int32) + (gI M 5 (v4 + (-1 : Int32)).toNatClampNeg)).toNatClampNeg) - x1)) ((gL M2 1 ((296 : Int32) + (gI M 5 (v4 + (-1 : Int32)).toNatClampNeg)).toNatClampNeg).toInt32) ((gL M2 1 ((368 : Int32) + (gI M 5 (v4 + (-1 : Int32)).toNatClampNeg)).toNatClampNeg).toInt32) ((gL M2 1 ((368 : Int32) + (gI M 5 (v4 + (-1 : Int32)).toNatClampNeg)).toNatClampNeg).toInt32) M4 hE)
        · try simp only [if_neg c] at hE
          refine r_iload S dX8_takes_178 1 rfl ?_
          refine r_goto S 185 dX8_takes_180 (by decide) ?_
          exact r_sub [7, 8, 6, 2, 1, 0] rfl (J185 (v4 + (-1 : Int32)) ((gL M 6 (v4 + (-1 : Int32)).toNatClampNeg) - ((gL M2 1 ((224 : Int32) + (gI M 5 (v4 + (-1 : Int32)).toNatClampNeg)).toNatClampNeg) - x1)) ((gL M2 1 ((296 : Int32) + (gI M 5 (v4 + (-1 : Int32)).toNatClampNeg)).toNatClampNeg).toInt32) ((gL M2 1 ((368 : Int32) + (gI M 5 (v4 + (-1 : Int32)).toNatClampNeg)).toNatClampNeg).toInt32) ((gL M2 1 ((296 : Int32) + (gI M 5 (v4 + (-1 : Int32)).toNatClampNeg)).toNatClampNeg).toInt32) M4 hE)
      · rw [if_neg c] at hE
        refine r_aload_n S dX8_takes_71 4 rfl ?_
        refine r_getRK S fc8 (by decide) 0 1 rfl rfl q_523 dX8_takes_72 ?_
        refine r_sipush S (224 : Int32) dX8_takes_75 rfl ?_
        refine r_iload S dX8_takes_78 2 rfl ?_
        refine r_iadd S dX8_takes_80 ?_
        refine r_dup2 S dX8_takes_81 rfl rfl ?_
        obtain ⟨hi, hE⟩ := ck_some hE
        refine r_lald S (by decide) hi dX8_takes_82 ?_
        refine r_lload S dX8_takes_83 1 rfl ?_
        refine r_lsub S dX8_takes_85 ?_
        obtain ⟨hi, hE⟩ := ck_some hE
        refine r_last S (by decide) hi dX8_takes_86 ?_
        refine r_goto S 274 dX8_takes_87 (by decide) ?_
        refine r_goto S 17 dX8_takes_274 (by decide) ?_
        obtain ⟨rfl, rfl⟩ := si2 hE
        exact r_sub (lv2 := [(0, .ref (hY X.2.1.2 + 0)), (2, .long v2), (4, .int (v4 + (-1 : Int32)))]) [4, 5, 3] rfl (hC (v4 + (-1 : Int32)) rfl)
  unfold MD_takes at hE
  refine r_iconst S (1 : Int32) dX8_takes_0 rfl ?_
  refine r_istore (lv2 := [(4, .int (1 : Int32)), (0, .ref (hY X.2.1.2 + 0)), (1, .int a1), (2, .long a2)]) S dX8_takes_1 (by decide) rfl ?_
  refine r_aload_n S dX8_takes_3 1 rfl ?_
  refine r_getRK S fc8 (by decide) 9 5 rfl rfl q_627 dX8_takes_4 ?_
  refine r_iconst S (0 : Int32) dX8_takes_7 rfl ?_
  refine r_iload_n S dX8_takes_8 2 rfl ?_
  refine r_iastK S 0 rfl (by decide) (by decide) dX8_takes_9 ?_
  refine r_aload_n S dX8_takes_10 1 rfl ?_
  refine r_getRK S fc8 (by decide) 10 6 rfl rfl q_628 dX8_takes_11 ?_
  refine r_iconst S (0 : Int32) dX8_takes_14 rfl ?_
  refine r_lload_n S dX8_takes_15 3 rfl ?_
  refine r_lastK S 0 rfl (by decide) (by decide) dX8_takes_16 ?_
  obtain ⟨e1, M2, h9, hE⟩ := b2_some hE
  refine r_sub [1, 3, 0] rfl (L17 a2  e1 M2 ?_ _ _ (sL (sI M 5 0 a1) 6 0 a2) h9)
  refine r_aload_n S dX8_takes_277 0 rfl ?_
  refine r_getRK S fc8 (by decide) 0 1 rfl rfl q_523 dX8_takes_278 ?_
  refine r_iconst S (4 : Int32) dX8_takes_281 rfl ?_
  refine r_dup2 S dX8_takes_282 rfl rfl ?_
  refine r_laldK S 4 rfl (by decide) (by decide) dX8_takes_283 ?_
  refine r_lload_n S dX8_takes_284 1 rfl ?_
  refine r_ladd S dX8_takes_285 ?_
  refine r_lastK S 4 rfl (by decide) (by decide) dX8_takes_286 ?_
  obtain ⟨rfl, rfl⟩ := si2 hE
  exact hret _ _ dX8_takes_287
set_option maxRecDepth 100000 in
set_option maxHeartbeats 4000000 in
theorem c_MD_orders (l : Launch) (Y : Env1) (hG : gY Y = gM) (M : Mem) (r : Unit) (M1 : Mem) (hE : MD_orders M = some (r, M1)) : CnV l Y yX8_orders cX8_orders 3 2 [.ref (hY Y + 0)] M M1 := by
  refine met_V (own := RX8) (by decide +kernel) rfl hG (Nat.le_of_ble_eq_true rfl) (fun X S hY1 hl1 hret => ?_)
  subst hY1
  subst hl1
  show AW X 0 [(0, .ref (hY X.2.1.2 + 0))] [] M
  have L7 : ∀ (e : (Unit)) (M2 : Mem), AW X 69 [] [] M2 → ∀ (n : Nat) (s : Int32) (M : Mem), lpM (fun s M => MD_orders_L7 s M) n s M = some (e, M2) → AW X 7 [(0, .ref (hY X.2.1.2 + 0)), (1, .int s)] [] M := by
    intro e M2 hX
    refine lpM_ind (P := fun (s : Int32) (M : Mem) => AW X 7 [(0, .ref (hY X.2.1.2 + 0)), (1, .int s)] [] M) ?_
    rintro v1 M d M3 hE hC hD
    replace hE : MD_orders_L7 v1 M = some (d, M3) := hE
    show AW X 7 [(0, .ref (hY X.2.1.2 + 0)), (1, .int v1)] [] M
    unfold MD_orders_L7 at hE
    refine r_iload_n S dX8_orders_7 1 rfl ?_
    refine r_aload_n S dX8_orders_8 0 rfl ?_
    refine rc_I S (rn_V S fc8 (by decide) (c_MD_many _ _ (gYX S)  M _ rfl) wdX8_many q_525 ⟨Nat.le_of_ble_eq_true rfl, Nat.le_of_ble_eq_true rfl⟩ rfl (Nat.le_of_ble_eq_true rfl) dX8_orders_9) ?_
    refine r_icmp_ge S 69 dX8_orders_12 (by decide) (fun c => ?_) (fun c => ?_)
    · rw [if_pos c] at hE
      obtain ⟨rfl, rfl⟩ := si2 hE
      rcases hD with ⟨h1, h2⟩ | ⟨_, h1⟩
      · obtain rfl := sir h1
        subst h2
        exact r_sub [] rfl hX
      · exact (sil h1).elim
    · rw [if_neg c] at hE
      refine r_aload_n S dX8_orders_15 0 rfl ?_
      refine r_iload_n S dX8_orders_16 1 rfl ?_
      obtain ⟨x1, h9, hE⟩ := b1_some hE
      refine rc_I S (rn_V S fc8 (by decide) (c_MD_lakeOf _ _ (gYX S) v1 M _ h9) wdX8_lakeOf q_612 ⟨Nat.le_of_ble_eq_true rfl, Nat.le_of_ble_eq_true rfl⟩ rfl (Nat.le_of_ble_eq_true rfl) dX8_orders_17) ?_
      refine r_istore_n (lv2 := [(2, .int x1), (0, .ref (hY X.2.1.2 + 0)), (1, .int v1)]) S dX8_orders_20 (by decide) rfl ?_
      refine r_iload_n S dX8_orders_21 0 rfl ?_
      refine r_iconst S (-1 : Int32) dX8_orders_22 rfl ?_
      refine r_icmp_eq S 63 dX8_orders_23 (by decide) (fun c => ?_) (fun c => ?_)
      · rw [if_pos c] at hE
        refine r_iinc (lv2 := [(1, .int (v1 + (1 : Int32))), (2, .int x1), (0, .ref (hY X.2.1.2 + 0))]) S dX8_orders_63 (j := 2) rfl (by decide) rfl ?_
        refine r_goto S 7 dX8_orders_66 (by decide) ?_
        obtain ⟨rfl, rfl⟩ := si2 hE
        exact r_sub (lv2 := [(0, .ref (hY X.2.1.2 + 0)), (1, .int (v1 + (1 : Int32)))]) [2, 0] rfl (hC (v1 + (1 : Int32)) rfl)
      · rw [if_neg c] at hE
        refine r_aload_n S dX8_orders_26 1 rfl ?_
        refine r_getRK S fc8 (by decide) 0 1 rfl rfl q_523 dX8_orders_27 ?_
        refine r_sipush S (152 : Int32) dX8_orders_30 rfl ?_
        refine r_iload_n S dX8_orders_33 0 rfl ?_
        refine r_iadd S dX8_orders_34 ?_
        obtain ⟨hi, hE⟩ := ck_some hE
        refine r_lald S (by decide) hi dX8_orders_35 ?_
        obtain ⟨x2, h9, hE⟩ := b1_some hE
        refine rc_I S (rn_S S (c_MD_lowest _ _ (gYX S) (gL M 1 ((152 : Int32) + x1).toNatClampNeg) M _ h9) wdX8_lowest q_590 ⟨Nat.le_of_ble_eq_true rfl, Nat.le_of_ble_eq_true rfl⟩ rfl (Nat.le_of_ble_eq_true rfl) dX8_orders_36) ?_
        refine r_iload_n S dX8_orders_39 2 rfl ?_
        refine r_icmp_ne S 63 dX8_orders_40 (by decide) (fun c => ?_) (fun c => ?_)
        · rw [if_pos c] at hE
          refine r_iinc (lv2 := [(1, .int (v1 + (1 : Int32))), (2, .int x1), (0, .ref (hY X.2.1.2 + 0))]) S dX8_orders_63 (j := 2) rfl (by decide) rfl ?_
          refine r_goto S 7 dX8_orders_66 (by decide) ?_
          obtain ⟨rfl, rfl⟩ := si2 hE
          exact r_sub (lv2 := [(0, .ref (hY X.2.1.2 + 0)), (1, .int (v1 + (1 : Int32)))]) [2, 0] rfl (hC (v1 + (1 : Int32)) rfl)
        · rw [if_neg (not_not_intro c)] at hE
          refine r_aload_n S dX8_orders_43 1 rfl ?_
          refine r_getRK S fc8 (by decide) 11 7 rfl rfl q_640 dX8_orders_44 ?_
          refine r_aload_n S dX8_orders_47 1 rfl ?_
          refine r_getI S fc8 (by decide) 12 rfl q_639 dX8_orders_48 ?_
          refine r_iload_n S dX8_orders_51 0 rfl ?_
          obtain ⟨hi, hE⟩ := ck_some hE
          refine r_iast S (by decide) hi dX8_orders_52 ?_
          refine r_aload_n S dX8_orders_53 1 rfl ?_
          refine r_dup S dX8_orders_54 rfl ?_
          refine r_getI S fc8 (by decide) 12 rfl q_639 dX8_orders_55 ?_
          refine r_iconst S (1 : Int32) dX8_orders_58 rfl ?_
          refine r_iadd S dX8_orders_59 ?_
          refine r_putI S fc8 (by decide) 12 rfl rfl (by decide +kernel) q_639 dX8_orders_60 ?_
          refine r_iinc (lv2 := [(1, .int (v1 + (1 : Int32))), (2, .int x1), (0, .ref (hY X.2.1.2 + 0))]) S dX8_orders_63 (j := 2) rfl (by decide) rfl ?_
          refine r_goto S 7 dX8_orders_66 (by decide) ?_
          obtain ⟨rfl, rfl⟩ := si2 hE
          exact r_sub (lv2 := [(0, .ref (hY X.2.1.2 + 0)), (1, .int (v1 + (1 : Int32)))]) [2, 0] rfl (hC (v1 + (1 : Int32)) rfl)
  unfold MD_orders at hE
  refine r_aload_n S dX8_orders_0 0 rfl ?_
  refine r_iconst S (0 : Int32) dX8_orders_1 rfl ?_
  refine r_putI S fc8 (by decide) 12 rfl rfl (by decide +kernel) q_639 dX8_orders_2 ?_
  refine r_iconst S (0 : Int32) dX8_orders_5 rfl ?_
  refine r_istore_n (lv2 := [(1, .int (0 : Int32)), (0, .ref (hY X.2.1.2 + 0))]) S dX8_orders_6 (by decide) rfl ?_
  obtain ⟨e1, M2, h9, hE⟩ := b2_some hE
  refine r_sub [1, 0] rfl (L7   e1 M2 ?_ _ _ (sI M 0 12 (0 : Int32)) h9)
  obtain ⟨rfl, rfl⟩ := si2 hE
  exact hret _ _ dX8_orders_69
set_option maxRecDepth 100000 in
set_option maxHeartbeats 4000000 in
theorem c_MD_numberOf (l : Launch) (Y : Env1) (hG : gY Y = gM) (a1 : Int32) (M : Mem) (r : Int32) (hE : MD_numberOf a1 M = some r) : CnI l Y yX8_numberOf cX8_numberOf 3 .int 0 [.ref (hY Y + 0), .int a1] M r M := by
  refine met_I (own := RX8) (by decide +kernel) rfl hG (Nat.le_of_ble_eq_true rfl) (fun X S hY1 hl1 hret => ?_)
  subst hY1
  subst hl1
  show AW X 0 [(0, .ref (hY X.2.1.2 + 0)), (1, .int a1)] [] M
  have L2 : ∀ (v1 : Int32) (e : (Int32)), AW X 18 [(2, .int e)] [] M → ∀ (n : Nat) (s : Int32), lpR (fun s => MD_numberOf_L2 v1 s M) n s = some e → AW X 2 [(0, .ref (hY X.2.1.2 + 0)), (1, .int v1), (2, .int s)] [] M := by
    intro v1 e hX
    refine lpR_ind (P := fun (s : Int32) => AW X 2 [(0, .ref (hY X.2.1.2 + 0)), (1, .int v1), (2, .int s)] [] M) ?_
    rintro v2 d hE hC hD
    replace hE : MD_numberOf_L2 v1 v2 M = some d := hE
    show AW X 2 [(0, .ref (hY X.2.1.2 + 0)), (1, .int v1), (2, .int v2)] [] M
    unfold MD_numberOf_L2 at hE
    refine r_aload_n S dX8_numberOf_2 0 rfl ?_
    refine r_getRK S fc8 (by decide) 11 7 rfl rfl q_640 dX8_numberOf_3 ?_
    refine r_iload_n S dX8_numberOf_6 2 rfl ?_
    obtain ⟨hi, hE⟩ := ck_some hE
    refine r_iald S (by decide) hi dX8_numberOf_7 ?_
    refine r_iload_n S dX8_numberOf_8 1 rfl ?_
    refine r_icmp_eq S 18 dX8_numberOf_9 (by decide) (fun c => ?_) (fun c => ?_)
    · rw [if_pos c] at hE
      obtain rfl := si1 hE
      rcases hD with h1 | ⟨_, h1⟩
      · obtain rfl := sir h1
        exact r_sub [2] rfl hX
      · exact (sil h1).elim
    · rw [if_neg c] at hE
      refine r_iinc (lv2 := [(2, .int (v2 + (1 : Int32))), (0, .ref (hY X.2.1.2 + 0)), (1, .int v1)]) S dX8_numberOf_12 (j := 2) rfl (by decide) rfl ?_
      refine r_goto S 2 dX8_numberOf_15 (by decide) ?_
      obtain rfl := si1 hE
      exact r_sub (lv2 := [(0, .ref (hY X.2.1.2 + 0)), (1, .int v1), (2, .int (v2 + (1 : Int32)))]) [1, 2, 0] rfl (hC (v2 + (1 : Int32)) rfl)
  unfold MD_numberOf at hE
  refine r_iconst S (0 : Int32) dX8_numberOf_0 rfl ?_
  refine r_istore_n (lv2 := [(2, .int (0 : Int32)), (0, .ref (hY X.2.1.2 + 0)), (1, .int a1)]) S dX8_numberOf_1 (by decide) rfl ?_
  obtain ⟨e1, h9, hE⟩ := b1_some hE
  refine r_sub [1, 2, 0] rfl (L2 a1  e1 ?_ _ _  h9)
  refine r_iload_n S dX8_numberOf_18 0 rfl ?_
  obtain rfl := si1 hE
  exact hret _ _ dX8_numberOf_19
set_option maxRecDepth 100000 in
set_option maxHeartbeats 4000000 in
theorem c_MD_isLake (l : Launch) (Y : Env1) (hG : gY Y = gM) (a1 : Int32) (M : Mem) (r : Int32) (M1 : Mem) (hE : MD_isLake a1 M = some (r, M1)) : CnI l Y yX8_isLake cX8_isLake 2 .boolean 3 [.ref (hY Y + 0), .int a1] M r M1 := by
  refine met_Z (own := RX8) (by decide +kernel) rfl hG (Nat.le_of_ble_eq_true rfl) (fun X S hY1 hl1 hret => ?_)
  subst hY1
  subst hl1
  show AW X 0 [(0, .ref (hY X.2.1.2 + 0)), (1, .int a1)] [] M
  unfold MD_isLake at hE
  refine r_aload_n S dX8_isLake_0 0 rfl ?_
  obtain ⟨x1, M2, h9, hE⟩ := b2_some hE
  refine rc_V S (rn_V S fc8 (by decide) (c_MD_orders _ _ (gYX S)  M _ _ h9) wdX8_orders q_641 ⟨Nat.le_of_ble_eq_true rfl, Nat.le_of_ble_eq_true rfl⟩ rfl (Nat.le_of_ble_eq_true rfl) dX8_isLake_1) ?_
  refine r_iload_n S dX8_isLake_4 1 rfl ?_
  refine r_i2l S dX8_isLake_5 ?_
  refine r_lconst S (0 : Int64) dX8_isLake_6 rfl ?_
  refine r_aload_n S dX8_isLake_7 0 rfl ?_
  refine r_getI S fc8 (by decide) 12 rfl q_639 dX8_isLake_8 ?_
  refine r_i2l S dX8_isLake_11 ?_
  refine r_lconst S (1 : Int64) dX8_isLake_12 rfl ?_
  refine r_lsub S dX8_isLake_13 ?_
  refine rc_I S (rn_S S (c_MD_in _ _ (gYX S) a1.toInt64 (0 : Int64) (((gI M2 0 12).toInt64) - (1 : Int64)) M2 _ rfl) wdX8_in q_530 ⟨Nat.le_of_ble_eq_true rfl, Nat.le_of_ble_eq_true rfl⟩ rfl (Nat.le_of_ble_eq_true rfl) dX8_isLake_14) ?_
  obtain ⟨rfl, rfl⟩ := si2 hE
  exact hret _ _ _ dX8_isLake_17 rfl
