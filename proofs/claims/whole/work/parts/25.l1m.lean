set_option maxRecDepth 100000 in
set_option maxHeartbeats 4000000 in
theorem c_MD_pour (l : Launch) (Y : Env1) (hG : gY Y = gM) (a1 : Int32) (a2 : Int32) (M : Mem) (r : Int32) (M1 : Mem) (hE : MD_pour a1 a2 M = some (r, M1)) : CnI l Y yX8_pour cX8_pour 5 .int 8 [.ref (hY Y + 0), .int a1, .int a2] M r M1 := by
  refine met_I (own := RX8) (by decide +kernel) rfl hG (Nat.le_of_ble_eq_true rfl) (fun X S hY1 hl1 hret => ?_)
  subst hY1
  subst hl1
  show AW X 0 [(0, .ref (hY X.2.1.2 + 0)), (1, .int a1), (2, .int a2)] [] M
  have J34 : ∀ (v1 : Int32) (v2 : Int32) (t0 : Int32) (t1 : Int32) (t2 : Int32) (M : Mem), MD_pour_J34 v1 v2 t0 t1 t2 M = some (r, M1) → AW X 34 [(0, .ref (hY X.2.1.2 + 0)), (1, .int v1), (2, .int v2)] [.int t0, .int t1, .int t2, .ref (hY X.2.1.2 + 0)] M := by
    intro v1 v2 t0 t1 t2 M hE
    unfold MD_pour_J34 at hE
    obtain ⟨x1, M2, h9, hE⟩ := b2_some hE
    refine rc_I S (rn_V S fc8 (by decide) (c_MD_goes _ _ (gYX S) t2 t1 t0 M _ _ h9) wdX8_goes q_677 ⟨Nat.le_of_ble_eq_true rfl, Nat.le_of_ble_eq_true rfl⟩ rfl (Nat.le_of_ble_eq_true rfl) dX8_pour_34) ?_
    refine r_if_ne S 42 dX8_pour_37 (by decide) (fun c => ?_) (fun c => ?_)
    · rw [if_pos c] at hE
      refine r_aload_n S dX8_pour_42 0 rfl ?_
      obtain ⟨x3, M4, h9, hE⟩ := b2_some hE
      refine rc_V S (rn_V S fc8 (by decide) (c_MD_save _ _ (gYX S)  M2 _ _ h9) wdX8_save q_682 ⟨Nat.le_of_ble_eq_true rfl, Nat.le_of_ble_eq_true rfl⟩ rfl (Nat.le_of_ble_eq_true rfl) dX8_pour_43) ?_
      refine r_aload_n S dX8_pour_46 0 rfl ?_
      refine r_getRK S fc8 (by decide) 0 1 rfl rfl q_523 dX8_pour_47 ?_
      refine r_iconst S (3 : Int32) dX8_pour_50 rfl ?_
      refine r_laldK S 3 rfl (by decide) (by decide) dX8_pour_51 ?_
      refine r_lstore_n (lv2 := [(3, .long (gL M4 1 3)), (0, .ref (hY X.2.1.2 + 0)), (1, .int v1), (2, .int v2)]) S dX8_pour_52 (by decide) rfl ?_
      refine r_aload_n S dX8_pour_53 1 rfl ?_
      refine r_getRK S fc8 (by decide) 0 1 rfl rfl q_523 dX8_pour_54 ?_
      refine r_iconst S (5 : Int32) dX8_pour_57 rfl ?_
      refine r_dup2 S dX8_pour_58 rfl rfl ?_
      refine r_laldK S 5 rfl (by decide) (by decide) dX8_pour_59 ?_
      refine r_iload_n S dX8_pour_60 3 rfl ?_
      refine r_i2l S dX8_pour_61 ?_
      refine r_ladd S dX8_pour_62 ?_
      refine r_lastK S 5 rfl (by decide) (by decide) dX8_pour_63 ?_
      refine r_aload_n S dX8_pour_64 1 rfl ?_
      refine r_iload_n S dX8_pour_65 2 rfl ?_
      refine r_iload_n S dX8_pour_66 3 rfl ?_
      refine r_i2l S dX8_pour_67 ?_
      obtain ⟨x5, M6, h9, hE⟩ := b2_some hE
      refine rc_V S (rn_V S fc8 (by decide) (c_MD_pours _ _ (gYX S) v1 v2.toInt64 (sL M4 1 5 ((gL M4 1 5) + v2.toInt64)) _ _ h9) wdX8_pours q_671 ⟨Nat.le_of_ble_eq_true rfl, Nat.le_of_ble_eq_true rfl⟩ rfl (Nat.le_of_ble_eq_true rfl) dX8_pour_68) ?_
      refine r_aload_n S dX8_pour_71 1 rfl ?_
      refine r_getRK S fc8 (by decide) 0 1 rfl rfl q_523 dX8_pour_72 ?_
      refine r_iconst S (3 : Int32) dX8_pour_75 rfl ?_
      refine r_laldK S 3 rfl (by decide) (by decide) dX8_pour_76 ?_
      refine r_lload_n S dX8_pour_77 0 rfl ?_
      refine r_lsub S dX8_pour_78 ?_
      refine r_l2i S dX8_pour_79 ?_
      obtain ⟨rfl, rfl⟩ := si2 hE
      exact hret _ _ dX8_pour_80
    · rw [if_neg (not_not_intro c)] at hE
      refine r_iconst S (0 : Int32) dX8_pour_40 rfl ?_
      obtain ⟨rfl, rfl⟩ := si2 hE
      exact hret _ _ dX8_pour_41
  unfold MD_pour at hE
  refine r_aload_n S dX8_pour_0 0 rfl ?_
  refine r_aload_n S dX8_pour_1 0 rfl ?_
  refine r_iload_n S dX8_pour_2 1 rfl ?_
  refine rc_I S (rn_V S fc8 (by decide) (c_MD_isCell _ _ (gYX S) a1 M _ rfl) wdX8_isCell q_539 ⟨Nat.le_of_ble_eq_true rfl, Nat.le_of_ble_eq_true rfl⟩ rfl (Nat.le_of_ble_eq_true rfl) dX8_pour_3) ?_
  refine r_iload_n S dX8_pour_6 2 rfl ?_
  refine r_i2l S dX8_pour_7 ?_
  refine r_lconst S (0 : Int64) dX8_pour_8 rfl ?_
  refine r_ldc2 S (v := 100000) q_739 dX8_pour_9 ?_
  refine rc_I S (rn_S S (c_MD_in _ _ (gYX S) a2.toInt64 (0 : Int64) (100000 : Int64) M _ rfl) wdX8_in q_530 ⟨Nat.le_of_ble_eq_true rfl, Nat.le_of_ble_eq_true rfl⟩ rfl (Nat.le_of_ble_eq_true rfl) dX8_pour_12) ?_
  refine r_aload_n S dX8_pour_15 0 rfl ?_
  obtain ⟨x1, h9, hE⟩ := b1_some hE
  refine rc_L S (rn_V S fc8 (by decide) (c_MD_water _ _ (gYX S)  M _ h9) wdX8_water q_740 ⟨Nat.le_of_ble_eq_true rfl, Nat.le_of_ble_eq_true rfl⟩ rfl (Nat.le_of_ble_eq_true rfl) dX8_pour_16) ?_
  refine r_iload_n S dX8_pour_19 2 rfl ?_
  refine r_i2l S dX8_pour_20 ?_
  refine r_ladd S dX8_pour_21 ?_
  refine r_ldc2 S (v := 1000000) q_745 dX8_pour_22 ?_
  refine r_lcmp_gt S 33 dX8_pour_25 dX8_pour_26 (by decide) (fun c => ?_) (fun c => ?_)
  · rw [if_pos c] at hE
    refine r_iconst S (0 : Int32) dX8_pour_33 rfl ?_
    exact r_sub [0, 1, 2] rfl (J34 a1 a2 (0 : Int32) (MD_in a2.toInt64 (0 : Int64) (100000 : Int64)) (MD_isCell a1 M) M hE)
  · rw [if_neg c] at hE
    refine r_iconst S (1 : Int32) dX8_pour_29 rfl ?_
    refine r_goto S 34 dX8_pour_30 (by decide) ?_
    exact r_sub [0, 1, 2] rfl (J34 a1 a2 (1 : Int32) (MD_in a2.toInt64 (0 : Int64) (100000 : Int64)) (MD_isCell a1 M) M hE)
set_option maxRecDepth 100000 in
set_option maxHeartbeats 4000000 in
theorem c_MD_rain (l : Launch) (Y : Env1) (hG : gY Y = gM) (a1 : Int32) (M : Mem) (r : Int32) (M1 : Mem) (hE : MD_rain a1 M = some (r, M1)) : CnI l Y yX8_rain cX8_rain 5 .int 8 [.ref (hY Y + 0), .int a1] M r M1 := by
  refine met_I (own := RX8) (by decide +kernel) rfl hG (Nat.le_of_ble_eq_true rfl) (fun X S hY1 hl1 hret => ?_)
  subst hY1
  subst hl1
  show AW X 0 [(0, .ref (hY X.2.1.2 + 0)), (1, .int a1)] [] M
  have L58 : ∀ (v1 : Int32) (v2 : Int64) (e : (Unit)) (M2 : Mem), AW X 92 [(0, .ref (hY X.2.1.2 + 0)), (2, .long v2)] [] M2 → ∀ (n : Nat) (s : Int32) (M : Mem), lpM (fun s M => MD_rain_L58 v1 v2 s M) n s M = some (e, M2) → AW X 58 [(0, .ref (hY X.2.1.2 + 0)), (1, .int v1), (2, .long v2), (4, .int s)] [] M := by
    intro v1 v2 e M2 hX
    refine lpM_ind (P := fun (s : Int32) (M : Mem) => AW X 58 [(0, .ref (hY X.2.1.2 + 0)), (1, .int v1), (2, .long v2), (4, .int s)] [] M) ?_
    rintro v4 M d M3 hE hC hD
    replace hE : MD_rain_L58 v1 v2 v4 M = some (d, M3) := hE
    show AW X 58 [(0, .ref (hY X.2.1.2 + 0)), (1, .int v1), (2, .long v2), (4, .int v4)] [] M
    unfold MD_rain_L58 at hE
    refine r_iload S dX8_rain_58 3 rfl ?_
    refine r_aload_n S dX8_rain_60 0 rfl ?_
    refine rc_I S (rn_V S fc8 (by decide) (c_MD_many _ _ (gYX S)  M _ rfl) wdX8_many q_525 ⟨Nat.le_of_ble_eq_true rfl, Nat.le_of_ble_eq_true rfl⟩ rfl (Nat.le_of_ble_eq_true rfl) dX8_rain_61) ?_
    refine r_icmp_ge S 92 dX8_rain_64 (by decide) (fun c => ?_) (fun c => ?_)
    · rw [if_pos c] at hE
      obtain ⟨rfl, rfl⟩ := si2 hE
      rcases hD with ⟨h1, h2⟩ | ⟨_, h1⟩
      · obtain rfl := sir h1
        subst h2
        exact r_sub [0, 2] rfl hX
      · exact (sil h1).elim
    · rw [if_neg c] at hE
      refine r_aload_n S dX8_rain_67 0 rfl ?_
      refine r_getRK S fc8 (by decide) 0 1 rfl rfl q_523 dX8_rain_68 ?_
      refine r_iconst S (5 : Int32) dX8_rain_71 rfl ?_
      refine r_dup2 S dX8_rain_72 rfl rfl ?_
      refine r_laldK S 5 rfl (by decide) (by decide) dX8_rain_73 ?_
      refine r_iload_n S dX8_rain_74 1 rfl ?_
      refine r_i2l S dX8_rain_75 ?_
      refine r_ladd S dX8_rain_76 ?_
      refine r_lastK S 5 rfl (by decide) (by decide) dX8_rain_77 ?_
      refine r_aload_n S dX8_rain_78 0 rfl ?_
      refine r_iload S dX8_rain_79 3 rfl ?_
      refine r_iload_n S dX8_rain_81 1 rfl ?_
      refine r_i2l S dX8_rain_82 ?_
      obtain ⟨x1, M2, h9, hE⟩ := b2_some hE
      refine rc_V S (rn_V S fc8 (by decide) (c_MD_pours _ _ (gYX S) v4 v1.toInt64 (sL M 1 5 ((gL M 1 5) + v1.toInt64)) _ _ h9) wdX8_pours q_671 ⟨Nat.le_of_ble_eq_true rfl, Nat.le_of_ble_eq_true rfl⟩ rfl (Nat.le_of_ble_eq_true rfl) dX8_rain_83) ?_
      refine r_iinc (lv2 := [(4, .int (v4 + (1 : Int32))), (0, .ref (hY X.2.1.2 + 0)), (1, .int v1), (2, .long v2)]) S dX8_rain_86 (j := 3) rfl (by decide) rfl ?_
      refine r_goto S 58 dX8_rain_89 (by decide) ?_
      obtain ⟨rfl, rfl⟩ := si2 hE
      exact r_sub (lv2 := [(0, .ref (hY X.2.1.2 + 0)), (1, .int v1), (2, .long v2), (4, .int (v4 + (1 : Int32)))]) [1, 2, 3, 0] rfl (hC (v4 + (1 : Int32)) rfl)
  have J35 : ∀ (v1 : Int32) (t0 : Int32) (t1 : Int32) (M : Mem), MD_rain_J35 v1 t0 t1 M = some (r, M1) → AW X 35 [(0, .ref (hY X.2.1.2 + 0)), (1, .int v1)] [.int t0, .int t1, .ref (hY X.2.1.2 + 0)] M := by
    intro v1 t0 t1 M hE
    unfold MD_rain_J35 at hE
    refine r_iconst S (1 : Int32) dX8_rain_35 rfl ?_
    obtain ⟨x1, M2, h9, hE⟩ := b2_some hE
    refine rc_I S (rn_V S fc8 (by decide) (c_MD_goes _ _ (gYX S) t1 t0 (1 : Int32) M _ _ h9) wdX8_goes q_677 ⟨Nat.le_of_ble_eq_true rfl, Nat.le_of_ble_eq_true rfl⟩ rfl (Nat.le_of_ble_eq_true rfl) dX8_rain_36) ?_
    refine r_if_ne S 44 dX8_rain_39 (by decide) (fun c => ?_) (fun c => ?_)
    · rw [if_pos c] at hE
      refine r_aload_n S dX8_rain_44 0 rfl ?_
      obtain ⟨x3, M4, h9, hE⟩ := b2_some hE
      refine rc_V S (rn_V S fc8 (by decide) (c_MD_save _ _ (gYX S)  M2 _ _ h9) wdX8_save q_682 ⟨Nat.le_of_ble_eq_true rfl, Nat.le_of_ble_eq_true rfl⟩ rfl (Nat.le_of_ble_eq_true rfl) dX8_rain_45) ?_
      refine r_aload_n S dX8_rain_48 0 rfl ?_
      refine r_getRK S fc8 (by decide) 0 1 rfl rfl q_523 dX8_rain_49 ?_
      refine r_iconst S (3 : Int32) dX8_rain_52 rfl ?_
      refine r_laldK S 3 rfl (by decide) (by decide) dX8_rain_53 ?_
      refine r_lstore_n (lv2 := [(2, .long (gL M4 1 3)), (0, .ref (hY X.2.1.2 + 0)), (1, .int v1)]) S dX8_rain_54 (by decide) rfl ?_
      refine r_iconst S (0 : Int32) dX8_rain_55 rfl ?_
      refine r_istore (lv2 := [(4, .int (0 : Int32)), (2, .long (gL M4 1 3)), (0, .ref (hY X.2.1.2 + 0)), (1, .int v1)]) S dX8_rain_56 (by decide) rfl ?_
      obtain ⟨e5, M6, h9, hE⟩ := b2_some hE
      refine r_sub [2, 3, 1, 0] rfl (L58 v1 (gL M4 1 3)  e5 M6 ?_ _ _ M4 h9)
      refine r_aload_n S dX8_rain_92 0 rfl ?_
      refine r_getRK S fc8 (by decide) 0 1 rfl rfl q_523 dX8_rain_93 ?_
      refine r_iconst S (3 : Int32) dX8_rain_96 rfl ?_
      refine r_laldK S 3 rfl (by decide) (by decide) dX8_rain_97 ?_
      refine r_lload_n S dX8_rain_98 1 rfl ?_
      refine r_lsub S dX8_rain_99 ?_
      refine r_l2i S dX8_rain_100 ?_
      obtain ⟨rfl, rfl⟩ := si2 hE
      exact hret _ _ dX8_rain_101
    · rw [if_neg (not_not_intro c)] at hE
      refine r_iconst S (0 : Int32) dX8_rain_42 rfl ?_
      obtain ⟨rfl, rfl⟩ := si2 hE
      exact hret _ _ dX8_rain_43
  unfold MD_rain at hE
  refine r_aload_n S dX8_rain_0 0 rfl ?_
  refine r_iload_n S dX8_rain_1 1 rfl ?_
  refine r_i2l S dX8_rain_2 ?_
  refine r_lconst S (0 : Int64) dX8_rain_3 rfl ?_
  refine r_ldc2 S (v := 1000) q_746 dX8_rain_4 ?_
  refine rc_I S (rn_S S (c_MD_in _ _ (gYX S) a1.toInt64 (0 : Int64) (1000 : Int64) M _ rfl) wdX8_in q_530 ⟨Nat.le_of_ble_eq_true rfl, Nat.le_of_ble_eq_true rfl⟩ rfl (Nat.le_of_ble_eq_true rfl) dX8_rain_7) ?_
  refine r_aload_n S dX8_rain_10 0 rfl ?_
  obtain ⟨x1, h9, hE⟩ := b1_some hE
  refine rc_L S (rn_V S fc8 (by decide) (c_MD_water _ _ (gYX S)  M _ h9) wdX8_water q_740 ⟨Nat.le_of_ble_eq_true rfl, Nat.le_of_ble_eq_true rfl⟩ rfl (Nat.le_of_ble_eq_true rfl) dX8_rain_11) ?_
  refine r_iload_n S dX8_rain_14 1 rfl ?_
  refine r_i2l S dX8_rain_15 ?_
  refine r_aload_n S dX8_rain_16 0 rfl ?_
  refine rc_I S (rn_V S fc8 (by decide) (c_MD_many _ _ (gYX S)  M _ rfl) wdX8_many q_525 ⟨Nat.le_of_ble_eq_true rfl, Nat.le_of_ble_eq_true rfl⟩ rfl (Nat.le_of_ble_eq_true rfl) dX8_rain_17) ?_
  refine r_i2l S dX8_rain_20 ?_
  refine r_lmul S dX8_rain_21 ?_
  refine r_ladd S dX8_rain_22 ?_
  refine r_ldc2 S (v := 1000000) q_745 dX8_rain_23 ?_
  refine r_lcmp_gt S 34 dX8_rain_26 dX8_rain_27 (by decide) (fun c => ?_) (fun c => ?_)
  · rw [if_pos c] at hE
    refine r_iconst S (0 : Int32) dX8_rain_34 rfl ?_
    exact r_sub [0, 1] rfl (J35 a1 (0 : Int32) (MD_in a1.toInt64 (0 : Int64) (1000 : Int64)) M hE)
  · rw [if_neg c] at hE
    refine r_iconst S (1 : Int32) dX8_rain_30 rfl ?_
    refine r_goto S 35 dX8_rain_31 (by decide) ?_
    exact r_sub [0, 1] rfl (J35 a1 (1 : Int32) (MD_in a1.toInt64 (0 : Int64) (1000 : Int64)) M hE)
set_option maxRecDepth 100000 in
set_option maxHeartbeats 4000000 in
theorem c_MD_evaporates (l : Launch) (Y : Env1) (hG : gY Y = gM) (M : Mem) (r : Unit) (M1 : Mem) (hE : MD_evaporates M = some (r, M1)) : CnV l Y yX8_evaporates cX8_evaporates 7 8 [.ref (hY Y + 0)] M M1 := by
  refine met_V (own := RX8) (by decide +kernel) rfl hG (Nat.le_of_ble_eq_true rfl) (fun X S hY1 hl1 hret => ?_)
  subst hY1
  subst hl1
  show AW X 0 [(0, .ref (hY X.2.1.2 + 0))] [] M
  have L93 : ∀ (v1 : Int32) (e : (Unit)) (M2 : Mem), AW X 120 [] [] M2 → ∀ (n : Nat) (s : Int32) (M : Mem), lpM (fun s M => MD_evaporates_L93 v1 s M) n s M = some (e, M2) → AW X 93 [(0, .ref (hY X.2.1.2 + 0)), (1, .int v1), (2, .int s)] [] M := by
    intro v1 e M2 hX
    refine lpM_ind (P := fun (s : Int32) (M : Mem) => AW X 93 [(0, .ref (hY X.2.1.2 + 0)), (1, .int v1), (2, .int s)] [] M) ?_
    rintro v2 M d M3 hE hC hD
    replace hE : MD_evaporates_L93 v1 v2 M = some (d, M3) := hE
    show AW X 93 [(0, .ref (hY X.2.1.2 + 0)), (1, .int v1), (2, .int v2)] [] M
    unfold MD_evaporates_L93 at hE
    refine r_iload_n S dX8_evaporates_93 2 rfl ?_
    refine r_iload_n S dX8_evaporates_94 1 rfl ?_
    refine r_icmp_ge S 120 dX8_evaporates_95 (by decide) (fun c => ?_) (fun c => ?_)
    · rw [if_pos c] at hE
      obtain ⟨rfl, rfl⟩ := si2 hE
      rcases hD with ⟨h1, h2⟩ | ⟨_, h1⟩
      · obtain rfl := sir h1
        subst h2
        exact r_sub [] rfl hX
      · exact (sil h1).elim
    · rw [if_neg c] at hE
      refine r_aload_n S dX8_evaporates_98 0 rfl ?_
      refine r_aload_n S dX8_evaporates_99 0 rfl ?_
      refine r_getRK S fc8 (by decide) 18 10 rfl rfl q_747 dX8_evaporates_100 ?_
      refine r_iload_n S dX8_evaporates_103 2 rfl ?_
      obtain ⟨hi, hE⟩ := ck_some hE
      refine r_iald S (by decide) hi dX8_evaporates_104 ?_
      refine r_aload_n S dX8_evaporates_105 0 rfl ?_
      refine r_getRK S fc8 (by decide) 19 11 rfl rfl q_748 dX8_evaporates_106 ?_
      refine r_iload_n S dX8_evaporates_109 2 rfl ?_
      obtain ⟨hi, hE⟩ := ck_some hE
      refine r_lald S (by decide) hi dX8_evaporates_110 ?_
      obtain ⟨x1, M2, h9, hE⟩ := b2_some hE
      refine rc_V S (rn_V S fc8 (by decide) (c_MD_takes _ _ (gYX S) (gI M 10 v2.toNatClampNeg) (gL M 11 v2.toNatClampNeg) M _ _ h9) wdX8_takes q_749 ⟨Nat.le_of_ble_eq_true rfl, Nat.le_of_ble_eq_true rfl⟩ rfl (Nat.le_of_ble_eq_true rfl) dX8_evaporates_111) ?_
      refine r_iinc (lv2 := [(2, .int (v2 + (1 : Int32))), (0, .ref (hY X.2.1.2 + 0)), (1, .int v1)]) S dX8_evaporates_114 (j := 2) rfl (by decide) rfl ?_
      refine r_goto S 93 dX8_evaporates_117 (by decide) ?_
      obtain ⟨rfl, rfl⟩ := si2 hE
      exact r_sub (lv2 := [(0, .ref (hY X.2.1.2 + 0)), (1, .int v1), (2, .int (v2 + (1 : Int32)))]) [1, 2, 0] rfl (hC (v2 + (1 : Int32)) rfl)
  have L11 : ∀ (v1 : Int32) (e : (Unit)) (M2 : Mem), AW X 91 [(0, .ref (hY X.2.1.2 + 0)), (1, .int v1)] [] M2 → ∀ (n : Nat) (s : Int32) (M : Mem), lpM (fun s M => MD_evaporates_L11 v1 s M) n s M = some (e, M2) → AW X 11 [(0, .ref (hY X.2.1.2 + 0)), (1, .int v1), (2, .int s)] [] M := by
    intro v1 e M2 hX
    refine lpM_ind (P := fun (s : Int32) (M : Mem) => AW X 11 [(0, .ref (hY X.2.1.2 + 0)), (1, .int v1), (2, .int s)] [] M) ?_
    rintro v2 M d M3 hE hC hD
    replace hE : MD_evaporates_L11 v1 v2 M = some (d, M3) := hE
    show AW X 11 [(0, .ref (hY X.2.1.2 + 0)), (1, .int v1), (2, .int v2)] [] M
    unfold MD_evaporates_L11 at hE
    refine r_iload_n S dX8_evaporates_11 2 rfl ?_
    refine r_iload_n S dX8_evaporates_12 1 rfl ?_
    refine r_icmp_ge S 91 dX8_evaporates_13 (by decide) (fun c => ?_) (fun c => ?_)
    · rw [if_pos c] at hE
      obtain ⟨rfl, rfl⟩ := si2 hE
      rcases hD with ⟨h1, h2⟩ | ⟨_, h1⟩
      · obtain rfl := sir h1
        subst h2
        exact r_sub [0, 1] rfl hX
      · exact (sil h1).elim
    · rw [if_neg c] at hE
      refine r_aload_n S dX8_evaporates_16 0 rfl ?_
      refine r_aload_n S dX8_evaporates_17 0 rfl ?_
      refine r_getRK S fc8 (by decide) 0 1 rfl rfl q_523 dX8_evaporates_18 ?_
      refine r_sipush S (152 : Int32) dX8_evaporates_21 rfl ?_
      refine r_aload_n S dX8_evaporates_24 0 rfl ?_
      refine r_getRK S fc8 (by decide) 11 7 rfl rfl q_640 dX8_evaporates_25 ?_
      refine r_iload_n S dX8_evaporates_28 2 rfl ?_
      obtain ⟨hi, hE⟩ := ck_some hE
      refine r_iald S (by decide) hi dX8_evaporates_29 ?_
      refine r_iadd S dX8_evaporates_30 ?_
      obtain ⟨hi, hE⟩ := ck_some hE
      refine r_lald S (by decide) hi dX8_evaporates_31 ?_
      obtain ⟨x1, M2, h9, hE⟩ := b2_some hE
      refine rc_I S (rn_V S fc8 (by decide) (c_MD_wetOf _ _ (gYX S) (gL M 1 ((152 : Int32) + (gI M 7 v2.toNatClampNeg)).toNatClampNeg) M _ _ h9) wdX8_wetOf q_658 ⟨Nat.le_of_ble_eq_true rfl, Nat.le_of_ble_eq_true rfl⟩ rfl (Nat.le_of_ble_eq_true rfl) dX8_evaporates_32) ?_
      refine r_i2l S dX8_evaporates_35 ?_
      refine r_lstore_n (lv2 := [(3, .long x1.toInt64), (0, .ref (hY X.2.1.2 + 0)), (1, .int v1), (2, .int v2)]) S dX8_evaporates_36 (by decide) rfl ?_
      refine r_aload_n S dX8_evaporates_37 1 rfl ?_
      refine r_getRK S fc8 (by decide) 0 1 rfl rfl q_523 dX8_evaporates_38 ?_
      refine r_sipush S (224 : Int32) dX8_evaporates_41 rfl ?_
      refine r_aload_n S dX8_evaporates_44 1 rfl ?_
      refine r_getRK S fc8 (by decide) 11 7 rfl rfl q_640 dX8_evaporates_45 ?_
      refine r_iload_n S dX8_evaporates_48 3 rfl ?_
      obtain ⟨hi, hE⟩ := ck_some hE
      refine r_iald S (by decide) hi dX8_evaporates_49 ?_
      refine r_iadd S dX8_evaporates_50 ?_
      obtain ⟨hi, hE⟩ := ck_some hE
      refine r_lald S (by decide) hi dX8_evaporates_51 ?_
      refine r_lstore (lv2 := [(5, .long (gL M2 1 ((224 : Int32) + (gI M2 7 v2.toNatClampNeg)).toNatClampNeg)), (3, .long x1.toInt64), (0, .ref (hY X.2.1.2 + 0)), (1, .int v1), (2, .int v2)]) S dX8_evaporates_52 (by decide) rfl ?_
      refine r_aload_n S dX8_evaporates_54 2 rfl ?_
      refine r_getRK S fc8 (by decide) 18 10 rfl rfl q_747 dX8_evaporates_55 ?_
      refine r_iload_n S dX8_evaporates_58 4 rfl ?_
      refine r_aload_n S dX8_evaporates_59 2 rfl ?_
      refine r_getRK S fc8 (by decide) 11 7 rfl rfl q_640 dX8_evaporates_60 ?_
      refine r_iload_n S dX8_evaporates_63 4 rfl ?_
      obtain ⟨hi, hE⟩ := ck_some hE
      refine r_iald S (by decide) hi dX8_evaporates_64 ?_
      obtain ⟨hi, hE⟩ := ck_some hE
      refine r_iast S (by decide) hi dX8_evaporates_65 ?_
      refine r_aload_n S dX8_evaporates_66 2 rfl ?_
      refine r_getRK S fc8 (by decide) 19 11 rfl rfl q_748 dX8_evaporates_67 ?_
      refine r_iload_n S dX8_evaporates_70 4 rfl ?_
      refine r_lload_n S dX8_evaporates_71 1 rfl ?_
      refine r_lload S dX8_evaporates_72 0 rfl ?_
      refine r_lcmp_ge S 82 dX8_evaporates_74 dX8_evaporates_75 (by decide) (fun c => ?_) (fun c => ?_)
      · rw [if_pos c] at hE
        refine r_lload S dX8_evaporates_82 0 rfl ?_
        obtain ⟨hi, hE⟩ := ck_some hE
        refine r_last S (by decide) hi dX8_evaporates_84 ?_
        refine r_iinc (lv2 := [(2, .int (v2 + (1 : Int32))), (5, .long (gL M2 1 ((224 : Int32) + (gI M2 7 v2.toNatClampNeg)).toNatClampNeg)), (3, .long x1.toInt64), (0, .ref (hY X.2.1.2 + 0)), (1, .int v1)]) S dX8_evaporates_85 (j := 4) rfl (by decide) rfl ?_
        refine r_goto S 11 dX8_evaporates_88 (by decide) ?_
        obtain ⟨rfl, rfl⟩ := si2 hE
        exact r_sub (lv2 := [(0, .ref (hY X.2.1.2 + 0)), (1, .int v1), (2, .int (v2 + (1 : Int32)))]) [3, 4, 0] rfl (hC (v2 + (1 : Int32)) rfl)
      · rw [if_neg c] at hE
        refine r_lload_n S dX8_evaporates_78 1 rfl ?_
        refine r_goto S 84 dX8_evaporates_79 (by decide) ?_
        obtain ⟨hi, hE⟩ := ck_some hE
        refine r_last S (by decide) hi dX8_evaporates_84 ?_
        refine r_iinc (lv2 := [(2, .int (v2 + (1 : Int32))), (5, .long (gL M2 1 ((224 : Int32) + (gI M2 7 v2.toNatClampNeg)).toNatClampNeg)), (3, .long x1.toInt64), (0, .ref (hY X.2.1.2 + 0)), (1, .int v1)]) S dX8_evaporates_85 (j := 4) rfl (by decide) rfl ?_
        refine r_goto S 11 dX8_evaporates_88 (by decide) ?_
        obtain ⟨rfl, rfl⟩ := si2 hE
        exact r_sub (lv2 := [(0, .ref (hY X.2.1.2 + 0)), (1, .int v1), (2, .int (v2 + (1 : Int32)))]) [3, 4, 0] rfl (hC (v2 + (1 : Int32)) rfl)
  unfold MD_evaporates at hE
  refine r_aload_n S dX8_evaporates_0 0 rfl ?_
  obtain ⟨x1, M2, h9, hE⟩ := b2_some hE
  refine rc_V S (rn_V S fc8 (by decide) (c_MD_orders _ _ (gYX S)  M _ _ h9) wdX8_orders q_641 ⟨Nat.le_of_ble_eq_true rfl, Nat.le_of_ble_eq_true rfl⟩ rfl (Nat.le_of_ble_eq_true rfl) dX8_evaporates_1) ?_
  refine r_aload_n S dX8_evaporates_4 0 rfl ?_
  refine r_getI S fc8 (by decide) 12 rfl q_639 dX8_evaporates_5 ?_
  refine r_istore_n (lv2 := [(1, .int (gI M2 0 12)), (0, .ref (hY X.2.1.2 + 0))]) S dX8_evaporates_8 (by decide) rfl ?_
  refine r_iconst S (0 : Int32) dX8_evaporates_9 rfl ?_
  refine r_istore_n (lv2 := [(2, .int (0 : Int32)), (1, .int (gI M2 0 12)), (0, .ref (hY X.2.1.2 + 0))]) S dX8_evaporates_10 (by decide) rfl ?_
  obtain ⟨e3, M4, h9, hE⟩ := b2_some hE
  refine r_sub [2, 1, 0] rfl (L11 (gI M2 0 12)  e3 M4 ?_ _ _ M2 h9)
  refine r_iconst S (0 : Int32) dX8_evaporates_91 rfl ?_
  refine r_istore_n (lv2 := [(2, .int (0 : Int32)), (0, .ref (hY X.2.1.2 + 0)), (1, .int (gI M2 0 12))]) S dX8_evaporates_92 (by decide) rfl ?_
  obtain ⟨e5, M6, h9, hE⟩ := b2_some hE
  refine r_sub [1, 2, 0] rfl (L93 (gI M2 0 12)  e5 M6 ?_ _ _ M4 h9)
  obtain ⟨rfl, rfl⟩ := si2 hE
  exact hret _ _ dX8_evaporates_120
set_option maxRecDepth 100000 in
set_option maxHeartbeats 4000000 in
theorem c_MD_evaporate (l : Launch) (Y : Env1) (hG : gY Y = gM) (a1 : Int32) (M : Mem) (r : Int32) (M1 : Mem) (hE : MD_evaporate a1 M = some (r, M1)) : CnI l Y yX8_evaporate cX8_evaporate 5 .int 9 [.ref (hY Y + 0), .int a1] M r M1 := by
  refine met_I (own := RX8) (by decide +kernel) rfl hG (Nat.le_of_ble_eq_true rfl) (fun X S hY1 hl1 hret => ?_)
  subst hY1
  subst hl1
  show AW X 0 [(0, .ref (hY X.2.1.2 + 0)), (1, .int a1)] [] M
  have L34 : ∀ (v1 : Int32) (v2 : Int64) (e : (Unit)) (M2 : Mem), AW X 50 [(0, .ref (hY X.2.1.2 + 0)), (2, .long v2)] [] M2 → ∀ (n : Nat) (s : Int32) (M : Mem), lpM (fun s M => MD_evaporate_L34 v1 v2 s M) n s M = some (e, M2) → AW X 34 [(0, .ref (hY X.2.1.2 + 0)), (1, .int v1), (2, .long v2), (4, .int s)] [] M := by
    intro v1 v2 e M2 hX
    refine lpM_ind (P := fun (s : Int32) (M : Mem) => AW X 34 [(0, .ref (hY X.2.1.2 + 0)), (1, .int v1), (2, .long v2), (4, .int s)] [] M) ?_
    rintro v4 M d M3 hE hC hD
    replace hE : MD_evaporate_L34 v1 v2 v4 M = some (d, M3) := hE
    show AW X 34 [(0, .ref (hY X.2.1.2 + 0)), (1, .int v1), (2, .long v2), (4, .int v4)] [] M
    unfold MD_evaporate_L34 at hE
    refine r_iload S dX8_evaporate_34 3 rfl ?_
    refine r_iload_n S dX8_evaporate_36 1 rfl ?_
    refine r_icmp_ge S 50 dX8_evaporate_37 (by decide) (fun c => ?_) (fun c => ?_)
    · rw [if_pos c] at hE
      obtain ⟨rfl, rfl⟩ := si2 hE
      rcases hD with ⟨h1, h2⟩ | ⟨_, h1⟩
      · obtain rfl := sir h1
        subst h2
        exact r_sub [0, 2] rfl hX
      · exact (sil h1).elim
    · rw [if_neg c] at hE
      refine r_aload_n S dX8_evaporate_40 0 rfl ?_
      obtain ⟨x1, M2, h9, hE⟩ := b2_some hE
      refine rc_V S (rn_V S fc8 (by decide) (c_MD_evaporates _ _ (gYX S)  M _ _ h9) wdX8_evaporates q_755 ⟨Nat.le_of_ble_eq_true rfl, Nat.le_of_ble_eq_true rfl⟩ rfl (Nat.le_of_ble_eq_true rfl) dX8_evaporate_41) ?_
      refine r_iinc (lv2 := [(4, .int (v4 + (1 : Int32))), (0, .ref (hY X.2.1.2 + 0)), (1, .int v1), (2, .long v2)]) S dX8_evaporate_44 (j := 3) rfl (by decide) rfl ?_
      refine r_goto S 34 dX8_evaporate_47 (by decide) ?_
      obtain ⟨rfl, rfl⟩ := si2 hE
      exact r_sub (lv2 := [(0, .ref (hY X.2.1.2 + 0)), (1, .int v1), (2, .long v2), (4, .int (v4 + (1 : Int32)))]) [1, 2, 3, 0] rfl (hC (v4 + (1 : Int32)) rfl)
  unfold MD_evaporate at hE
  refine r_aload_n S dX8_evaporate_0 0 rfl ?_
  refine r_iload_n S dX8_evaporate_1 1 rfl ?_
  refine r_i2l S dX8_evaporate_2 ?_
  refine r_lconst S (0 : Int64) dX8_evaporate_3 rfl ?_
  refine r_ldc2 S (v := 100) q_754 dX8_evaporate_4 ?_
  refine rc_I S (rn_S S (c_MD_in _ _ (gYX S) a1.toInt64 (0 : Int64) (100 : Int64) M _ rfl) wdX8_in q_530 ⟨Nat.le_of_ble_eq_true rfl, Nat.le_of_ble_eq_true rfl⟩ rfl (Nat.le_of_ble_eq_true rfl) dX8_evaporate_7) ?_
  refine r_iconst S (1 : Int32) dX8_evaporate_10 rfl ?_
  refine r_iconst S (1 : Int32) dX8_evaporate_11 rfl ?_
  obtain ⟨x1, M2, h9, hE⟩ := b2_some hE
  refine rc_I S (rn_V S fc8 (by decide) (c_MD_goes _ _ (gYX S) (MD_in a1.toInt64 (0 : Int64) (100 : Int64)) (1 : Int32) (1 : Int32) M _ _ h9) wdX8_goes q_677 ⟨Nat.le_of_ble_eq_true rfl, Nat.le_of_ble_eq_true rfl⟩ rfl (Nat.le_of_ble_eq_true rfl) dX8_evaporate_12) ?_
  refine r_if_ne S 20 dX8_evaporate_15 (by decide) (fun c => ?_) (fun c => ?_)
  · rw [if_pos c] at hE
    refine r_aload_n S dX8_evaporate_20 0 rfl ?_
    obtain ⟨x3, M4, h9, hE⟩ := b2_some hE
    refine rc_V S (rn_V S fc8 (by decide) (c_MD_save _ _ (gYX S)  M2 _ _ h9) wdX8_save q_682 ⟨Nat.le_of_ble_eq_true rfl, Nat.le_of_ble_eq_true rfl⟩ rfl (Nat.le_of_ble_eq_true rfl) dX8_evaporate_21) ?_
    refine r_aload_n S dX8_evaporate_24 0 rfl ?_
    refine r_getRK S fc8 (by decide) 0 1 rfl rfl q_523 dX8_evaporate_25 ?_
    refine r_iconst S (4 : Int32) dX8_evaporate_28 rfl ?_
    refine r_laldK S 4 rfl (by decide) (by decide) dX8_evaporate_29 ?_
    refine r_lstore_n (lv2 := [(2, .long (gL M4 1 4)), (0, .ref (hY X.2.1.2 + 0)), (1, .int a1)]) S dX8_evaporate_30 (by decide) rfl ?_
    refine r_iconst S (0 : Int32) dX8_evaporate_31 rfl ?_
    refine r_istore (lv2 := [(4, .int (0 : Int32)), (2, .long (gL M4 1 4)), (0, .ref (hY X.2.1.2 + 0)), (1, .int a1)]) S dX8_evaporate_32 (by decide) rfl ?_
    obtain ⟨e5, M6, h9, hE⟩ := b2_some hE
    refine r_sub [2, 3, 1, 0] rfl (L34 a1 (gL M4 1 4)  e5 M6 ?_ _ _ M4 h9)
    refine r_aload_n S dX8_evaporate_50 0 rfl ?_
    refine r_getRK S fc8 (by decide) 0 1 rfl rfl q_523 dX8_evaporate_51 ?_
    refine r_iconst S (4 : Int32) dX8_evaporate_54 rfl ?_
    refine r_laldK S 4 rfl (by decide) (by decide) dX8_evaporate_55 ?_
    refine r_lload_n S dX8_evaporate_56 1 rfl ?_
    refine r_lsub S dX8_evaporate_57 ?_
    refine r_l2i S dX8_evaporate_58 ?_
    obtain ⟨rfl, rfl⟩ := si2 hE
    exact hret _ _ dX8_evaporate_59
  · rw [if_neg (not_not_intro c)] at hE
    refine r_iconst S (0 : Int32) dX8_evaporate_18 rfl ?_
    obtain ⟨rfl, rfl⟩ := si2 hE
    exact hret _ _ dX8_evaporate_19
set_option maxRecDepth 100000 in
set_option maxHeartbeats 4000000 in
theorem c_MD_take (l : Launch) (Y : Env1) (hG : gY Y = gM) (a1 : Int32) (a2 : Int32) (M : Mem) (r : Int32) (M1 : Mem) (hE : MD_take a1 a2 M = some (r, M1)) : CnI l Y yX8_take cX8_take 4 .int 8 [.ref (hY Y + 0), .int a1, .int a2] M r M1 := by
  refine met_I (own := RX8) (by decide +kernel) rfl hG (Nat.le_of_ble_eq_true rfl) (fun X S hY1 hl1 hret => ?_)
  subst hY1
  subst hl1
  show AW X 0 [(0, .ref (hY X.2.1.2 + 0)), (1, .int a1), (2, .int a2)] [] M
  have J49 : ∀ (v1 : Int32) (v2 : Int32) (t0 : Int32) (t1 : Int32) (M : Mem), MD_take_J49 v1 v2 t0 t1 M = some (r, M1) → AW X 49 [(0, .ref (hY X.2.1.2 + 0)), (1, .int v1), (2, .int v2)] [.int t0, .int t1, .ref (hY X.2.1.2 + 0)] M := by
    intro v1 v2 t0 t1 M hE
    unfold MD_take_J49 at hE
    refine r_iconst S (1 : Int32) dX8_take_49 rfl ?_
    obtain ⟨x1, M2, h9, hE⟩ := b2_some hE
    refine rc_I S (rn_V S fc8 (by decide) (c_MD_goes _ _ (gYX S) t1 t0 (1 : Int32) M _ _ h9) wdX8_goes q_677 ⟨Nat.le_of_ble_eq_true rfl, Nat.le_of_ble_eq_true rfl⟩ rfl (Nat.le_of_ble_eq_true rfl) dX8_take_50) ?_
    refine r_if_ne S 58 dX8_take_53 (by decide) (fun c => ?_) (fun c => ?_)
    · rw [if_pos c] at hE
      refine r_aload_n S dX8_take_58 0 rfl ?_
      obtain ⟨x3, M4, h9, hE⟩ := b2_some hE
      refine rc_V S (rn_V S fc8 (by decide) (c_MD_save _ _ (gYX S)  M2 _ _ h9) wdX8_save q_682 ⟨Nat.le_of_ble_eq_true rfl, Nat.le_of_ble_eq_true rfl⟩ rfl (Nat.le_of_ble_eq_true rfl) dX8_take_59) ?_
      refine r_aload_n S dX8_take_62 0 rfl ?_
      refine r_aload_n S dX8_take_63 0 rfl ?_
      refine r_getRK S fc8 (by decide) 11 7 rfl rfl q_640 dX8_take_64 ?_
      refine r_iload_n S dX8_take_67 1 rfl ?_
      obtain ⟨hi, hE⟩ := ck_some hE
      refine r_iald S (by decide) hi dX8_take_68 ?_
      refine r_iload_n S dX8_take_69 2 rfl ?_
      refine r_i2l S dX8_take_70 ?_
      obtain ⟨x5, M6, h9, hE⟩ := b2_some hE
      refine rc_V S (rn_V S fc8 (by decide) (c_MD_takes _ _ (gYX S) (gI M4 7 v1.toNatClampNeg) v2.toInt64 M4 _ _ h9) wdX8_takes q_749 ⟨Nat.le_of_ble_eq_true rfl, Nat.le_of_ble_eq_true rfl⟩ rfl (Nat.le_of_ble_eq_true rfl) dX8_take_71) ?_
      refine r_aload_n S dX8_take_74 0 rfl ?_
      obtain ⟨x7, M8, h9, hE⟩ := b2_some hE
      refine rc_V S (rn_V S fc8 (by decide) (c_MD_orders _ _ (gYX S)  M6 _ _ h9) wdX8_orders q_641 ⟨Nat.le_of_ble_eq_true rfl, Nat.le_of_ble_eq_true rfl⟩ rfl (Nat.le_of_ble_eq_true rfl) dX8_take_75) ?_
      refine r_aload_n S dX8_take_78 0 rfl ?_
      refine r_getI S fc8 (by decide) 12 rfl q_639 dX8_take_79 ?_
      obtain ⟨rfl, rfl⟩ := si2 hE
      exact hret _ _ dX8_take_82
    · rw [if_neg (not_not_intro c)] at hE
      refine r_iconst S (0 : Int32) dX8_take_56 rfl ?_
      obtain ⟨rfl, rfl⟩ := si2 hE
      exact hret _ _ dX8_take_57
  have J48 : ∀ (v1 : Int32) (v2 : Int32) (t0 : Int32) (M : Mem), MD_take_J48 v1 v2 t0 M = some (r, M1) → AW X 48 [(0, .ref (hY X.2.1.2 + 0)), (1, .int v1), (2, .int v2)] [.int t0, .ref (hY X.2.1.2 + 0)] M := by
    intro v1 v2 t0 M hE
    unfold MD_take_J48 at hE
    refine r_iconst S (0 : Int32) dX8_take_48 rfl ?_
    exact r_sub [0, 1, 2] rfl (J49 v1 v2 (0 : Int32) t0 M hE)
  have J35 : ∀ (v1 : Int32) (v2 : Int32) (t0 : Int32) (t1 : Nat) (kt1 : kM t1 = 9) (t2 : Int32) (t3 : Nat) (kt3 : kM t3 = 10) (t4 : Int64) (t5 : Int64) (t6 : Int32) (M : Mem), MD_take_J35 v1 v2 t0 t1 t2 t3 t4 t5 t6 M = some (r, M1) → AW X 35 [(0, .ref (hY X.2.1.2 + 0)), (1, .int v1), (2, .int v2)] [.int t0, .ref (hY X.2.1.2 + t1), .int t2, .ref (hY X.2.1.2 + t3), .long t4, .long t5, .int t6, .ref (hY X.2.1.2 + 0)] M := by
    intro v1 v2 t0 t1 kt1 t2 t3 kt3 t4 t5 t6 M hE
    unfold MD_take_J35 at hE
    obtain ⟨hi, hE⟩ := ck_some hE
    refine r_iald S kt1 hi dX8_take_35 ?_
    refine r_iadd S dX8_take_36 ?_
    obtain ⟨hi, hE⟩ := ck_some hE
    refine r_lald S kt3 hi dX8_take_37 ?_
    refine rc_I S (rn_S S (c_MD_in _ _ (gYX S) t5 t4 (gL M t3 (t2 + (gI M t1 t0.toNatClampNeg)).toNatClampNeg) M _ rfl) wdX8_in q_530 ⟨Nat.le_of_ble_eq_true rfl, Nat.le_of_ble_eq_true rfl⟩ rfl (Nat.le_of_ble_eq_true rfl) dX8_take_38) ?_
    refine r_if_eq S 48 dX8_take_41 (by decide) (fun c => ?_) (fun c => ?_)
    · try simp only [if_pos c] at hE
      refine r_iconst S (0 : Int32) dX8_take_48 rfl ?_
      exact r_sub [0, 1, 2] rfl (J49 v1 v2 (0 : Int32) t6 M hE)
    · try simp only [if_neg c] at hE
      refine r_iconst S (1 : Int32) dX8_take_44 rfl ?_
      refine r_goto S 49 dX8_take_45 (by decide) ?_
      exact r_sub [0, 1, 2] rfl (J49 v1 v2 (1 : Int32) t6 M hE)
  unfold MD_take at hE
  refine r_aload_n S dX8_take_0 0 rfl ?_
  refine r_iload_n S dX8_take_1 1 rfl ?_
  obtain ⟨x1, M2, h9, hE⟩ := b2_some hE
  refine rc_I S (rn_V S fc8 (by decide) (c_MD_isLake _ _ (gYX S) a1 M _ _ h9) wdX8_isLake q_760 ⟨Nat.le_of_ble_eq_true rfl, Nat.le_of_ble_eq_true rfl⟩ rfl (Nat.le_of_ble_eq_true rfl) dX8_take_2) ?_
  refine r_istore_n (lv2 := [(3, .int x1), (0, .ref (hY X.2.1.2 + 0)), (1, .int a1), (2, .int a2)]) S dX8_take_5 (by decide) rfl ?_
  refine r_aload_n S dX8_take_6 1 rfl ?_
  refine r_iload_n S dX8_take_7 0 rfl ?_
  refine r_iload_n S dX8_take_8 0 rfl ?_
  refine r_if_eq S 48 dX8_take_9 (by decide) (fun c => ?_) (fun c => ?_)
  · rw [if_pos c] at hE
    exact r_sub [1, 2, 3] rfl (J48 a1 a2 x1 M2 hE)
  · rw [if_neg c] at hE
    refine r_iload_n S dX8_take_12 3 rfl ?_
    refine r_i2l S dX8_take_13 ?_
    refine r_lconst S (0 : Int64) dX8_take_14 rfl ?_
    refine r_aload_n S dX8_take_15 1 rfl ?_
    refine r_getRK S fc8 (by decide) 0 1 rfl rfl q_523 dX8_take_16 ?_
    refine r_sipush S (224 : Int32) dX8_take_19 rfl ?_
    refine r_aload_n S dX8_take_22 1 rfl ?_
    refine r_getRK S fc8 (by decide) 11 7 rfl rfl q_640 dX8_take_23 ?_
    refine r_iload_n S dX8_take_26 0 rfl ?_
    refine r_if_eq S 34 dX8_take_27 (by decide) (fun c => ?_) (fun c => ?_)
    · try simp only [if_pos c] at hE
      refine r_iconst S (0 : Int32) dX8_take_34 rfl ?_
      exact r_sub [1, 2, 3] rfl (J35 a1 a2 (0 : Int32) 7 (by decide) (224 : Int32) 1 (by decide) (0 : Int64) a2.toInt64 x1 M2 hE)
    · try simp only [if_neg c] at hE
      refine r_iload_n S dX8_take_30 2 rfl ?_
      refine r_goto S 35 dX8_take_31 (by decide) ?_
      exact r_sub [1, 2, 3] rfl (J35 a1 a2 a1 7 (by decide) (224 : Int32) 1 (by decide) (0 : Int64) a2.toInt64 x1 M2 hE)
set_option maxRecDepth 100000 in
set_option maxHeartbeats 4000000 in
theorem c_MD_balanceOf (l : Launch) (Y : Env1) (hG : gY Y = gM) (a1 : Int32) (M : Mem) (r : Int64) (hE : MD_balanceOf a1 M = some r) : CnL l Y yX8_balanceOf cX8_balanceOf 2 1 [.ref (hY Y + 0), .int a1] M r M := by
  refine met_L (own := RX8) (by decide +kernel) rfl hG (Nat.le_of_ble_eq_true rfl) (fun X S hY1 hl1 hret => ?_)
  subst hY1
  subst hl1
  show AW X 0 [(0, .ref (hY X.2.1.2 + 0)), (1, .int a1)] [] M
  unfold MD_balanceOf at hE
  refine r_iload_n S dX8_balanceOf_0 1 rfl ?_
  refine r_if_ne S 13 dX8_balanceOf_1 (by decide) (fun c => ?_) (fun c => ?_)
  · rw [if_pos c] at hE
    refine r_iload_n S dX8_balanceOf_13 1 rfl ?_
    refine r_iconst S (1 : Int32) dX8_balanceOf_14 rfl ?_
    refine r_icmp_ne S 25 dX8_balanceOf_15 (by decide) (fun c => ?_) (fun c => ?_)
    · rw [if_pos c] at hE
      refine r_iload_n S dX8_balanceOf_25 1 rfl ?_
      refine r_iconst S (2 : Int32) dX8_balanceOf_26 rfl ?_
      refine r_icmp_ne S 39 dX8_balanceOf_27 (by decide) (fun c => ?_) (fun c => ?_)
      · try simp only [if_pos c] at hE
        refine r_aload_n S dX8_balanceOf_39 0 rfl ?_
        refine r_getRK S fc8 (by decide) 0 1 rfl rfl q_523 dX8_balanceOf_40 ?_
        refine r_iconst S (4 : Int32) dX8_balanceOf_43 rfl ?_
        refine r_laldK S 4 rfl (by decide) (by decide) dX8_balanceOf_44 ?_
        obtain rfl := si1 hE
        exact hret _ _ dX8_balanceOf_45
      · try simp only [if_neg (not_not_intro c)] at hE
        refine r_aload_n S dX8_balanceOf_30 0 rfl ?_
        refine r_getRK S fc8 (by decide) 0 1 rfl rfl q_523 dX8_balanceOf_31 ?_
        refine r_iconst S (3 : Int32) dX8_balanceOf_34 rfl ?_
        refine r_laldK S 3 rfl (by decide) (by decide) dX8_balanceOf_35 ?_
        refine r_goto S 45 dX8_balanceOf_36 (by decide) ?_
        obtain rfl := si1 hE
        exact hret _ _ dX8_balanceOf_45
    · rw [if_neg (not_not_intro c)] at hE
      refine r_aload_n S dX8_balanceOf_18 0 rfl ?_
      obtain ⟨x1, h9, hE⟩ := b1_some hE
      refine rc_L S (rn_V S fc8 (by decide) (c_MD_water _ _ (gYX S)  M _ h9) wdX8_water q_740 ⟨Nat.le_of_ble_eq_true rfl, Nat.le_of_ble_eq_true rfl⟩ rfl (Nat.le_of_ble_eq_true rfl) dX8_balanceOf_19) ?_
      refine r_goto S 45 dX8_balanceOf_22 (by decide) ?_
      obtain rfl := si1 hE
      exact hret _ _ dX8_balanceOf_45
  · rw [if_neg (not_not_intro c)] at hE
    refine r_aload_n S dX8_balanceOf_4 0 rfl ?_
    refine r_getRK S fc8 (by decide) 0 1 rfl rfl q_523 dX8_balanceOf_5 ?_
    refine r_iconst S (5 : Int32) dX8_balanceOf_8 rfl ?_
    refine r_laldK S 5 rfl (by decide) (by decide) dX8_balanceOf_9 ?_
    refine r_goto S 45 dX8_balanceOf_10 (by decide) ?_
    obtain rfl := si1 hE
    exact hret _ _ dX8_balanceOf_45
set_option maxRecDepth 100000 in
set_option maxHeartbeats 4000000 in
theorem c_MD_balance (l : Launch) (Y : Env1) (hG : gY Y = gM) (a1 : Int32) (M : Mem) (r : Int64) (M1 : Mem) (hE : MD_balance a1 M = some (r, M1)) : CnL l Y yX8_balance cX8_balance 2 2 [.ref (hY Y + 0), .int a1] M r M1 := by
  refine met_L (own := RX8) (by decide +kernel) rfl hG (Nat.le_of_ble_eq_true rfl) (fun X S hY1 hl1 hret => ?_)
  subst hY1
  subst hl1
  show AW X 0 [(0, .ref (hY X.2.1.2 + 0)), (1, .int a1)] [] M
  unfold MD_balance at hE
  refine r_aload_n S dX8_balance_0 0 rfl ?_
  refine r_iload_n S dX8_balance_1 1 rfl ?_
  refine r_i2l S dX8_balance_2 ?_
  refine r_lconst S (0 : Int64) dX8_balance_3 rfl ?_
  refine r_ldc2 S (v := 3) q_765 dX8_balance_4 ?_
  refine rc_I S (rn_S S (c_MD_in _ _ (gYX S) a1.toInt64 (0 : Int64) (3 : Int64) M _ rfl) wdX8_in q_530 ⟨Nat.le_of_ble_eq_true rfl, Nat.le_of_ble_eq_true rfl⟩ rfl (Nat.le_of_ble_eq_true rfl) dX8_balance_7) ?_
  refine r_iconst S (1 : Int32) dX8_balance_10 rfl ?_
  refine r_iconst S (1 : Int32) dX8_balance_11 rfl ?_
  obtain ⟨x1, M2, h9, hE⟩ := b2_some hE
  refine rc_I S (rn_V S fc8 (by decide) (c_MD_goes _ _ (gYX S) (MD_in a1.toInt64 (0 : Int64) (3 : Int64)) (1 : Int32) (1 : Int32) M _ _ h9) wdX8_goes q_677 ⟨Nat.le_of_ble_eq_true rfl, Nat.le_of_ble_eq_true rfl⟩ rfl (Nat.le_of_ble_eq_true rfl) dX8_balance_12) ?_
  refine r_if_eq S 26 dX8_balance_15 (by decide) (fun c => ?_) (fun c => ?_)
  · rw [if_pos c] at hE
    refine r_lconst S (0 : Int64) dX8_balance_26 rfl ?_
    obtain ⟨rfl, rfl⟩ := si2 hE
    exact hret _ _ dX8_balance_27
  · rw [if_neg c] at hE
    refine r_aload_n S dX8_balance_18 0 rfl ?_
    refine r_iload_n S dX8_balance_19 1 rfl ?_
    obtain ⟨x3, h9, hE⟩ := b1_some hE
    refine rc_L S (rn_V S fc8 (by decide) (c_MD_balanceOf _ _ (gYX S) a1 M2 _ h9) wdX8_balanceOf q_766 ⟨Nat.le_of_ble_eq_true rfl, Nat.le_of_ble_eq_true rfl⟩ rfl (Nat.le_of_ble_eq_true rfl) dX8_balance_20) ?_
    refine r_goto S 27 dX8_balance_23 (by decide) ?_
    obtain ⟨rfl, rfl⟩ := si2 hE
    exact hret _ _ dX8_balance_27
set_option maxRecDepth 100000 in
set_option maxHeartbeats 4000000 in
theorem c_MD_basinsOf (l : Launch) (Y : Env1) (hG : gY Y = gM) (a1 : Int64) (M : Mem) (r : Int32) (hE : MD_basinsOf a1 M = some r) : CnI l Y yX8_basinsOf cX8_basinsOf 7 .int 1 [.ref (hY Y + 0), .long a1] M r M := by
  refine met_I (own := RX8) (by decide +kernel) rfl hG (Nat.le_of_ble_eq_true rfl) (fun X S hY1 hl1 hret => ?_)
  subst hY1
  subst hl1
  show AW X 0 [(0, .ref (hY X.2.1.2 + 0)), (1, .long a1)] [] M
  have L49 : ∀ (v1 : Int64) (v3 : Int32) (v4 : Int32) (e : (Int32)), AW X 114 [(0, .ref (hY X.2.1.2 + 0)), (1, .long v1), (3, .int v3), (4, .int v4), (5, .int e)] [] M → ∀ (n : Nat) (s : Int32 × Int32), lpR (fun s => MD_basinsOf_L49 v1 v3 v4 s.1 s.2 M) n s = some e → AW X 49 [(0, .ref (hY X.2.1.2 + 0)), (1, .long v1), (3, .int v3), (4, .int v4), (5, .int s.1), (6, .int s.2)] [] M := by
    intro v1 v3 v4 e hX
    refine lpR_ind (P := fun (s : Int32 × Int32) => AW X 49 [(0, .ref (hY X.2.1.2 + 0)), (1, .long v1), (3, .int v3), (4, .int v4), (5, .int s.1), (6, .int s.2)] [] M) ?_
    rintro ⟨v5, v6⟩ d hE hC hD
    replace hE : MD_basinsOf_L49 v1 v3 v4 v5 v6 M = some d := hE
    show AW X 49 [(0, .ref (hY X.2.1.2 + 0)), (1, .long v1), (3, .int v3), (4, .int v4), (5, .int v5), (6, .int v6)] [] M
    unfold MD_basinsOf_L49 at hE
    refine r_iload S dX8_basinsOf_49 5 rfl ?_
    refine r_iload S dX8_basinsOf_51 3 rfl ?_
    refine r_icmp_ge S 114 dX8_basinsOf_53 (by decide) (fun c => ?_) (fun c => ?_)
    · rw [if_pos c] at hE
      obtain rfl := si1 hE
      rcases hD with h1 | ⟨_, h1⟩
      · obtain rfl := sir h1
        exact r_sub [0, 1, 2, 3, 4] rfl hX
      · exact (sil h1).elim
    · rw [if_neg c] at hE
      refine r_iload S dX8_basinsOf_56 4 rfl ?_
      refine r_if_eq S 105 dX8_basinsOf_58 (by decide) (fun c => ?_) (fun c => ?_)
      · rw [if_pos c] at hE
        refine r_iconst S (0 : Int32) dX8_basinsOf_105 rfl ?_
        refine r_istore (lv2 := [(5, .int (0 : Int32)), (0, .ref (hY X.2.1.2 + 0)), (1, .long v1), (3, .int v3), (4, .int v4), (6, .int v6)]) S dX8_basinsOf_106 (by decide) rfl ?_
        refine r_iinc (lv2 := [(6, .int (v6 + (1 : Int32))), (5, .int (0 : Int32)), (0, .ref (hY X.2.1.2 + 0)), (1, .long v1), (3, .int v3), (4, .int v4)]) S dX8_basinsOf_108 (j := 5) rfl (by decide) rfl ?_
        refine r_goto S 49 dX8_basinsOf_111 (by decide) ?_
        obtain rfl := si1 hE
        exact r_sub (lv2 := [(0, .ref (hY X.2.1.2 + 0)), (1, .long v1), (3, .int v3), (4, .int v4), (5, .int (0 : Int32)), (6, .int (v6 + (1 : Int32)))]) [2, 3, 4, 5, 1, 0] rfl (hC ((0 : Int32), (v6 + (1 : Int32))) rfl)
      · rw [if_neg c] at hE
        refine r_aload_n S dX8_basinsOf_61 0 rfl ?_
        refine r_getRK S fc8 (by decide) 0 1 rfl rfl q_523 dX8_basinsOf_62 ?_
        refine r_sipush S (512 : Int32) dX8_basinsOf_65 rfl ?_
        refine r_laldK S 512 rfl (by decide) (by decide) dX8_basinsOf_68 ?_
        refine r_iload S dX8_basinsOf_69 5 rfl ?_
        refine rc_I S (rn_S S (c_MD_has _ _ (gYX S) (gL M 1 512) v6 M _ rfl) wdX8_has q_564 ⟨Nat.le_of_ble_eq_true rfl, Nat.le_of_ble_eq_true rfl⟩ rfl (Nat.le_of_ble_eq_true rfl) dX8_basinsOf_71) ?_
        refine r_if_eq S 101 dX8_basinsOf_74 (by decide) (fun c => ?_) (fun c => ?_)
        · rw [if_pos c] at hE
          refine r_iconst S (1 : Int32) dX8_basinsOf_101 rfl ?_
          refine r_goto S 106 dX8_basinsOf_102 (by decide) ?_
          refine r_istore (lv2 := [(5, .int (1 : Int32)), (0, .ref (hY X.2.1.2 + 0)), (1, .long v1), (3, .int v3), (4, .int v4), (6, .int v6)]) S dX8_basinsOf_106 (by decide) rfl ?_
          refine r_iinc (lv2 := [(6, .int (v6 + (1 : Int32))), (5, .int (1 : Int32)), (0, .ref (hY X.2.1.2 + 0)), (1, .long v1), (3, .int v3), (4, .int v4)]) S dX8_basinsOf_108 (j := 5) rfl (by decide) rfl ?_
          refine r_goto S 49 dX8_basinsOf_111 (by decide) ?_
          obtain rfl := si1 hE
          exact r_sub (lv2 := [(0, .ref (hY X.2.1.2 + 0)), (1, .long v1), (3, .int v3), (4, .int v4), (5, .int (1 : Int32)), (6, .int (v6 + (1 : Int32)))]) [2, 3, 4, 5, 1, 0] rfl (hC ((1 : Int32), (v6 + (1 : Int32))) rfl)
        · rw [if_neg c] at hE
          refine r_aload_n S dX8_basinsOf_77 0 rfl ?_
          refine r_getRK S fc8 (by decide) 0 1 rfl rfl q_523 dX8_basinsOf_78 ?_
          refine r_bipush S (116 : Int32) dX8_basinsOf_81 rfl ?_
          refine r_iload S dX8_basinsOf_83 5 rfl ?_
          refine r_iadd S dX8_basinsOf_85 ?_
          obtain ⟨hi, hE⟩ := ck_some hE
          refine r_lald S (by decide) hi dX8_basinsOf_86 ?_
          refine r_aload_n S dX8_basinsOf_87 0 rfl ?_
          refine r_getRK S fc8 (by decide) 0 1 rfl rfl q_523 dX8_basinsOf_88 ?_
          refine r_bipush S (116 : Int32) dX8_basinsOf_91 rfl ?_
          refine r_iload S dX8_basinsOf_93 3 rfl ?_
          refine r_iadd S dX8_basinsOf_95 ?_
          obtain ⟨hi, hE⟩ := ck_some hE
          refine r_lald S (by decide) hi dX8_basinsOf_96 ?_
          refine r_lcmp_eq S 105 dX8_basinsOf_97 dX8_basinsOf_98 (by decide) (fun c => ?_) (fun c => ?_)
          · rw [if_pos c] at hE
            refine r_iconst S (0 : Int32) dX8_basinsOf_105 rfl ?_
            refine r_istore (lv2 := [(5, .int (0 : Int32)), (0, .ref (hY X.2.1.2 + 0)), (1, .long v1), (3, .int v3), (4, .int v4), (6, .int v6)]) S dX8_basinsOf_106 (by decide) rfl ?_
            refine r_iinc (lv2 := [(6, .int (v6 + (1 : Int32))), (5, .int (0 : Int32)), (0, .ref (hY X.2.1.2 + 0)), (1, .long v1), (3, .int v3), (4, .int v4)]) S dX8_basinsOf_108 (j := 5) rfl (by decide) rfl ?_
            refine r_goto S 49 dX8_basinsOf_111 (by decide) ?_
            obtain rfl := si1 hE
            exact r_sub (lv2 := [(0, .ref (hY X.2.1.2 + 0)), (1, .long v1), (3, .int v3), (4, .int v4), (5, .int (0 : Int32)), (6, .int (v6 + (1 : Int32)))]) [2, 3, 4, 5, 1, 0] rfl (hC ((0 : Int32), (v6 + (1 : Int32))) rfl)
          · rw [if_neg c] at hE
            refine r_iconst S (1 : Int32) dX8_basinsOf_101 rfl ?_
            refine r_goto S 106 dX8_basinsOf_102 (by decide) ?_
            refine r_istore (lv2 := [(5, .int (1 : Int32)), (0, .ref (hY X.2.1.2 + 0)), (1, .long v1), (3, .int v3), (4, .int v4), (6, .int v6)]) S dX8_basinsOf_106 (by decide) rfl ?_
            refine r_iinc (lv2 := [(6, .int (v6 + (1 : Int32))), (5, .int (1 : Int32)), (0, .ref (hY X.2.1.2 + 0)), (1, .long v1), (3, .int v3), (4, .int v4)]) S dX8_basinsOf_108 (j := 5) rfl (by decide) rfl ?_
            refine r_goto S 49 dX8_basinsOf_111 (by decide) ?_
            obtain rfl := si1 hE
            exact r_sub (lv2 := [(0, .ref (hY X.2.1.2 + 0)), (1, .long v1), (3, .int v3), (4, .int v4), (5, .int (1 : Int32)), (6, .int (v6 + (1 : Int32)))]) [2, 3, 4, 5, 1, 0] rfl (hC ((1 : Int32), (v6 + (1 : Int32))) rfl)
  have L5 : ∀ (v1 : Int64) (e : (Int32)), AW X 133 [(3, .int e)] [] M → ∀ (n : Nat) (s : Int32 × Int32), lpR (fun s => MD_basinsOf_L5 v1 s.1 s.2 M) n s = some e → AW X 5 [(0, .ref (hY X.2.1.2 + 0)), (1, .long v1), (3, .int s.1), (4, .int s.2)] [] M := by
    intro v1 e hX
    refine lpR_ind (P := fun (s : Int32 × Int32) => AW X 5 [(0, .ref (hY X.2.1.2 + 0)), (1, .long v1), (3, .int s.1), (4, .int s.2)] [] M) ?_
    rintro ⟨v3, v4⟩ d hE hC hD
    replace hE : MD_basinsOf_L5 v1 v3 v4 M = some d := hE
    show AW X 5 [(0, .ref (hY X.2.1.2 + 0)), (1, .long v1), (3, .int v3), (4, .int v4)] [] M
    have J44 : ∀ (v3 : Int32) (v4 : Int32) (t0 : Int32), MD_basinsOf_L5_J44 v1 v3 v4 t0 M = some d → AW X 44 [(0, .ref (hY X.2.1.2 + 0)), (1, .long v1), (3, .int v3), (4, .int v4)] [.int t0] M := by
      intro v3 v4 t0 hE
      unfold MD_basinsOf_L5_J44 at hE
      refine r_istore (lv2 := [(5, .int t0), (0, .ref (hY X.2.1.2 + 0)), (1, .long v1), (3, .int v3), (4, .int v4)]) S dX8_basinsOf_44 (by decide) rfl ?_
      refine r_iconst S (0 : Int32) dX8_basinsOf_46 rfl ?_
      refine r_istore (lv2 := [(6, .int (0 : Int32)), (5, .int t0), (0, .ref (hY X.2.1.2 + 0)), (1, .long v1), (3, .int v3), (4, .int v4)]) S dX8_basinsOf_47 (by decide) rfl ?_
      obtain ⟨e1, h9, hE⟩ := b1_some hE
      refine r_sub [2, 3, 4, 5, 1, 0] rfl (L49 v1 v3 v4  e1 ?_ _ _  h9)
      refine r_iload_n S dX8_basinsOf_114 2 rfl ?_
      refine r_iload S dX8_basinsOf_115 4 rfl ?_
      refine r_if_eq S 124 dX8_basinsOf_117 (by decide) (fun c => ?_) (fun c => ?_)
      · try simp only [if_pos c] at hE
        refine r_iconst S (0 : Int32) dX8_basinsOf_124 rfl ?_
        refine r_iadd S dX8_basinsOf_125 ?_
        refine r_istore_n (lv2 := [(3, .int (v3 + (0 : Int32))), (0, .ref (hY X.2.1.2 + 0)), (1, .long v1), (4, .int v4), (5, .int e1)]) S dX8_basinsOf_126 (by decide) rfl ?_
        refine r_iinc (lv2 := [(4, .int (v4 + (1 : Int32))), (3, .int (v3 + (0 : Int32))), (0, .ref (hY X.2.1.2 + 0)), (1, .long v1), (5, .int e1)]) S dX8_basinsOf_127 (j := 3) rfl (by decide) rfl ?_
        refine r_goto S 5 dX8_basinsOf_130 (by decide) ?_
        obtain rfl := si1 hE
        exact r_sub (lv2 := [(0, .ref (hY X.2.1.2 + 0)), (1, .long v1), (3, .int (v3 + (0 : Int32))), (4, .int (v4 + (1 : Int32)))]) [2, 3, 1, 0] rfl (hC ((v3 + (0 : Int32)), (v4 + (1 : Int32))) rfl)
      · try simp only [if_neg c] at hE
        refine r_iconst S (1 : Int32) dX8_basinsOf_120 rfl ?_
        refine r_goto S 125 dX8_basinsOf_121 (by decide) ?_
        refine r_iadd S dX8_basinsOf_125 ?_
        refine r_istore_n (lv2 := [(3, .int (v3 + (1 : Int32))), (0, .ref (hY X.2.1.2 + 0)), (1, .long v1), (4, .int v4), (5, .int e1)]) S dX8_basinsOf_126 (by decide) rfl ?_
        refine r_iinc (lv2 := [(4, .int (v4 + (1 : Int32))), (3, .int (v3 + (1 : Int32))), (0, .ref (hY X.2.1.2 + 0)), (1, .long v1), (5, .int e1)]) S dX8_basinsOf_127 (j := 3) rfl (by decide) rfl ?_
        refine r_goto S 5 dX8_basinsOf_130 (by decide) ?_
        obtain rfl := si1 hE
        exact r_sub (lv2 := [(0, .ref (hY X.2.1.2 + 0)), (1, .long v1), (3, .int (v3 + (1 : Int32))), (4, .int (v4 + (1 : Int32)))]) [2, 3, 1, 0] rfl (hC ((v3 + (1 : Int32)), (v4 + (1 : Int32))) rfl)
    have J43 : ∀ (v3 : Int32) (v4 : Int32), MD_basinsOf_L5_J43 v1 v3 v4 M = some d → AW X 43 [(0, .ref (hY X.2.1.2 + 0)), (1, .long v1), (3, .int v3), (4, .int v4)] [] M := by
      intro v3 v4 hE
      unfold MD_basinsOf_L5_J43 at hE
      refine r_iconst S (0 : Int32) dX8_basinsOf_43 rfl ?_
      exact r_sub [0, 1, 2, 3] rfl (J44 v3 v4 (0 : Int32) hE)
    unfold MD_basinsOf_L5 at hE
    refine r_iload S dX8_basinsOf_5 3 rfl ?_
    refine r_aload_n S dX8_basinsOf_7 0 rfl ?_
    refine rc_I S (rn_V S fc8 (by decide) (c_MD_many _ _ (gYX S)  M _ rfl) wdX8_many q_525 ⟨Nat.le_of_ble_eq_true rfl, Nat.le_of_ble_eq_true rfl⟩ rfl (Nat.le_of_ble_eq_true rfl) dX8_basinsOf_8) ?_
    refine r_icmp_ge S 133 dX8_basinsOf_11 (by decide) (fun c => ?_) (fun c => ?_)
    · rw [if_pos c] at hE
      obtain rfl := si1 hE
      rcases hD with h1 | ⟨_, h1⟩
      · obtain rfl := sir h1
        exact r_sub [2] rfl hX
      · exact (sil h1).elim
    · rw [if_neg c] at hE
      refine r_lload_n S dX8_basinsOf_14 1 rfl ?_
      refine r_iload S dX8_basinsOf_15 3 rfl ?_
      refine rc_I S (rn_S S (c_MD_has _ _ (gYX S) v1 v4 M _ rfl) wdX8_has q_564 ⟨Nat.le_of_ble_eq_true rfl, Nat.le_of_ble_eq_true rfl⟩ rfl (Nat.le_of_ble_eq_true rfl) dX8_basinsOf_17) ?_
      refine r_if_eq S 43 dX8_basinsOf_20 (by decide) (fun c => ?_) (fun c => ?_)
      · try simp only [if_pos c] at hE
        refine r_iconst S (0 : Int32) dX8_basinsOf_43 rfl ?_
        exact r_sub [0, 1, 2, 3] rfl (J44 v3 v4 (0 : Int32) hE)
      · try simp only [if_neg c] at hE
        refine r_aload_n S dX8_basinsOf_23 0 rfl ?_
        refine r_getRK S fc8 (by decide) 0 1 rfl rfl q_523 dX8_basinsOf_24 ?_
        refine r_sipush S (512 : Int32) dX8_basinsOf_27 rfl ?_
        refine r_laldK S 512 rfl (by decide) (by decide) dX8_basinsOf_30 ?_
        refine r_iload S dX8_basinsOf_31 3 rfl ?_
        refine rc_I S (rn_S S (c_MD_has _ _ (gYX S) (gL M 1 512) v4 M _ rfl) wdX8_has q_564 ⟨Nat.le_of_ble_eq_true rfl, Nat.le_of_ble_eq_true rfl⟩ rfl (Nat.le_of_ble_eq_true rfl) dX8_basinsOf_33) ?_
        refine r_if_eq S 43 dX8_basinsOf_36 (by decide) (fun c => ?_) (fun c => ?_)
        · try simp only [if_pos c] at hE
          refine r_iconst S (0 : Int32) dX8_basinsOf_43 rfl ?_
          exact r_sub [0, 1, 2, 3] rfl (J44 v3 v4 (0 : Int32) hE)
        · try simp only [if_neg c] at hE
          refine r_iconst S (1 : Int32) dX8_basinsOf_39 rfl ?_
          refine r_goto S 44 dX8_basinsOf_40 (by decide) ?_
          exact r_sub [0, 1, 2, 3] rfl (J44 v3 v4 (1 : Int32) hE)
  unfold MD_basinsOf at hE
  refine r_iconst S (0 : Int32) dX8_basinsOf_0 rfl ?_
  refine r_istore_n (lv2 := [(3, .int (0 : Int32)), (0, .ref (hY X.2.1.2 + 0)), (1, .long a1)]) S dX8_basinsOf_1 (by decide) rfl ?_
  refine r_iconst S (0 : Int32) dX8_basinsOf_2 rfl ?_
  refine r_istore (lv2 := [(4, .int (0 : Int32)), (3, .int (0 : Int32)), (0, .ref (hY X.2.1.2 + 0)), (1, .long a1)]) S dX8_basinsOf_3 (by decide) rfl ?_
  obtain ⟨e1, h9, hE⟩ := b1_some hE
  refine r_sub [2, 3, 1, 0] rfl (L5 a1  e1 ?_ _ _  h9)
  refine r_iload_n S dX8_basinsOf_133 0 rfl ?_
  obtain rfl := si1 hE
  exact hret _ _ dX8_basinsOf_134
