set_option maxRecDepth 100000 in
set_option maxHeartbeats 4000000 in
theorem c_MD_begin (l : Launch) (Y : Env1) (hG : gY Y = gM) (a1 : Int32) (a2 : Int32) (M : Mem) (r : Int32) (M1 : Mem) (hE : MD_begin a1 a2 M = some (r, M1)) : CnI l Y yX8_begin cX8_begin 3 .int 9 [.ref (hY Y + 0), .int a1, .int a2] M r M1 := by
  refine met_I (own := RX8) (by decide +kernel) rfl hG (Nat.le_of_ble_eq_true rfl) (fun X S hY1 hl1 hret => ?_)
  subst hY1
  subst hl1
  show AW X 0 [(0, .ref (hY X.2.1.2 + 0)), (1, .int a1), (2, .int a2)] [] M
  have J30 : ∀ (v1 : Int32) (v2 : Int32) (t0 : Int32) (M : Mem), MD_begin_J30 v1 v2 t0 M = some (r, M1) → AW X 30 [(0, .ref (hY X.2.1.2 + 0)), (1, .int v1), (2, .int v2)] [.int t0, .ref (hY X.2.1.2 + 0)] M := by
    intro v1 v2 t0 M hE
    unfold MD_begin_J30 at hE
    refine r_iconst S (1 : Int32) dX8_begin_30 rfl ?_
    refine r_iconst S (1 : Int32) dX8_begin_31 rfl ?_
    obtain ⟨x1, M2, h9, hE⟩ := b2_some hE
    refine rc_I S (rn_V S fc8 (by decide) (c_MD_goes _ _ (gYX S) t0 (1 : Int32) (1 : Int32) M _ _ h9) wdX8_goes q_677 ⟨Nat.le_of_ble_eq_true rfl, Nat.le_of_ble_eq_true rfl⟩ rfl (Nat.le_of_ble_eq_true rfl) dX8_begin_32) ?_
    refine r_if_ne S 40 dX8_begin_35 (by decide) (fun c => ?_) (fun c => ?_)
    · rw [if_pos c] at hE
      refine r_aload_n S dX8_begin_40 0 rfl ?_
      obtain ⟨x3, M4, h9, hE⟩ := b2_some hE
      refine rc_V S (rn_V S fc8 (by decide) (c_MD_save _ _ (gYX S)  M2 _ _ h9) wdX8_save q_682 ⟨Nat.le_of_ble_eq_true rfl, Nat.le_of_ble_eq_true rfl⟩ rfl (Nat.le_of_ble_eq_true rfl) dX8_begin_41) ?_
      refine r_aload_n S dX8_begin_44 0 rfl ?_
      refine r_iload_n S dX8_begin_45 1 rfl ?_
      refine r_iload_n S dX8_begin_46 2 rfl ?_
      obtain ⟨x5, M6, h9, hE⟩ := b2_some hE
      refine rc_V S (rn_V S fc8 (by decide) (c_MD_begins _ _ (gYX S) v1 v2 M4 _ _ h9) wdX8_begins q_687 ⟨Nat.le_of_ble_eq_true rfl, Nat.le_of_ble_eq_true rfl⟩ rfl (Nat.le_of_ble_eq_true rfl) dX8_begin_47) ?_
      refine r_aload_n S dX8_begin_50 0 rfl ?_
      refine rc_I S (rn_V S fc8 (by decide) (c_MD_many _ _ (gYX S)  M6 _ rfl) wdX8_many q_525 ⟨Nat.le_of_ble_eq_true rfl, Nat.le_of_ble_eq_true rfl⟩ rfl (Nat.le_of_ble_eq_true rfl) dX8_begin_51) ?_
      obtain ⟨rfl, rfl⟩ := si2 hE
      exact hret _ _ dX8_begin_54
    · rw [if_neg (not_not_intro c)] at hE
      refine r_iconst S (0 : Int32) dX8_begin_38 rfl ?_
      obtain ⟨rfl, rfl⟩ := si2 hE
      exact hret _ _ dX8_begin_39
  have J29 : ∀ (v1 : Int32) (v2 : Int32) (M : Mem), MD_begin_J29 v1 v2 M = some (r, M1) → AW X 29 [(0, .ref (hY X.2.1.2 + 0)), (1, .int v1), (2, .int v2)] [.ref (hY X.2.1.2 + 0)] M := by
    intro v1 v2 M hE
    unfold MD_begin_J29 at hE
    refine r_iconst S (0 : Int32) dX8_begin_29 rfl ?_
    exact r_sub [0, 1, 2] rfl (J30 v1 v2 (0 : Int32) M hE)
  unfold MD_begin at hE
  refine r_aload_n S dX8_begin_0 0 rfl ?_
  refine r_iload_n S dX8_begin_1 1 rfl ?_
  refine r_i2l S dX8_begin_2 ?_
  refine r_lconst S (1 : Int64) dX8_begin_3 rfl ?_
  refine r_ldc2 S (v := 6) q_676 dX8_begin_4 ?_
  refine rc_I S (rn_S S (c_MD_in _ _ (gYX S) a1.toInt64 (1 : Int64) (6 : Int64) M _ rfl) wdX8_in q_530 ⟨Nat.le_of_ble_eq_true rfl, Nat.le_of_ble_eq_true rfl⟩ rfl (Nat.le_of_ble_eq_true rfl) dX8_begin_7) ?_
  refine r_if_eq S 29 dX8_begin_10 (by decide) (fun c => ?_) (fun c => ?_)
  · try simp only [if_pos c] at hE
    refine r_iconst S (0 : Int32) dX8_begin_29 rfl ?_
    exact r_sub [0, 1, 2] rfl (J30 a1 a2 (0 : Int32) M hE)
  · try simp only [if_neg c] at hE
    refine r_iload_n S dX8_begin_13 2 rfl ?_
    refine r_i2l S dX8_begin_14 ?_
    refine r_lconst S (1 : Int64) dX8_begin_15 rfl ?_
    refine r_ldc2 S (v := 6) q_676 dX8_begin_16 ?_
    refine rc_I S (rn_S S (c_MD_in _ _ (gYX S) a2.toInt64 (1 : Int64) (6 : Int64) M _ rfl) wdX8_in q_530 ⟨Nat.le_of_ble_eq_true rfl, Nat.le_of_ble_eq_true rfl⟩ rfl (Nat.le_of_ble_eq_true rfl) dX8_begin_19) ?_
    refine r_if_eq S 29 dX8_begin_22 (by decide) (fun c => ?_) (fun c => ?_)
    · try simp only [if_pos c] at hE
      refine r_iconst S (0 : Int32) dX8_begin_29 rfl ?_
      exact r_sub [0, 1, 2] rfl (J30 a1 a2 (0 : Int32) M hE)
    · try simp only [if_neg c] at hE
      refine r_iconst S (1 : Int32) dX8_begin_25 rfl ?_
      refine r_goto S 30 dX8_begin_26 (by decide) ?_
      exact r_sub [0, 1, 2] rfl (J30 a1 a2 (1 : Int32) M hE)
set_option maxRecDepth 100000 in
set_option maxHeartbeats 4000000 in
theorem c_MD_setHeight (l : Launch) (Y : Env1) (hG : gY Y = gM) (a1 : Int32) (a2 : Int32) (M : Mem) (r : Int32) (M1 : Mem) (hE : MD_setHeight a1 a2 M = some (r, M1)) : CnI l Y yX8_setHeight cX8_setHeight 4 .int 9 [.ref (hY Y + 0), .int a1, .int a2] M r M1 := by
  refine met_I (own := RX8) (by decide +kernel) rfl hG (Nat.le_of_ble_eq_true rfl) (fun X S hY1 hl1 hret => ?_)
  subst hY1
  subst hl1
  show AW X 0 [(0, .ref (hY X.2.1.2 + 0)), (1, .int a1), (2, .int a2)] [] M
  unfold MD_setHeight at hE
  refine r_aload_n S dX8_setHeight_0 0 rfl ?_
  refine r_aload_n S dX8_setHeight_1 0 rfl ?_
  refine r_iload_n S dX8_setHeight_2 1 rfl ?_
  refine rc_I S (rn_V S fc8 (by decide) (c_MD_isCell _ _ (gYX S) a1 M _ rfl) wdX8_isCell q_539 ⟨Nat.le_of_ble_eq_true rfl, Nat.le_of_ble_eq_true rfl⟩ rfl (Nat.le_of_ble_eq_true rfl) dX8_setHeight_3) ?_
  refine r_iload_n S dX8_setHeight_6 2 rfl ?_
  refine r_i2l S dX8_setHeight_7 ?_
  refine r_lconst S (0 : Int64) dX8_setHeight_8 rfl ?_
  refine r_ldc2 S (v := 99) q_692 dX8_setHeight_9 ?_
  refine rc_I S (rn_S S (c_MD_in _ _ (gYX S) a2.toInt64 (0 : Int64) (99 : Int64) M _ rfl) wdX8_in q_530 ⟨Nat.le_of_ble_eq_true rfl, Nat.le_of_ble_eq_true rfl⟩ rfl (Nat.le_of_ble_eq_true rfl) dX8_setHeight_12) ?_
  refine r_iconst S (1 : Int32) dX8_setHeight_15 rfl ?_
  obtain ⟨x1, M2, h9, hE⟩ := b2_some hE
  refine rc_I S (rn_V S fc8 (by decide) (c_MD_goes _ _ (gYX S) (MD_isCell a1 M) (MD_in a2.toInt64 (0 : Int64) (99 : Int64)) (1 : Int32) M _ _ h9) wdX8_goes q_677 ⟨Nat.le_of_ble_eq_true rfl, Nat.le_of_ble_eq_true rfl⟩ rfl (Nat.le_of_ble_eq_true rfl) dX8_setHeight_16) ?_
  refine r_if_ne S 24 dX8_setHeight_19 (by decide) (fun c => ?_) (fun c => ?_)
  · rw [if_pos c] at hE
    refine r_aload_n S dX8_setHeight_24 0 rfl ?_
    obtain ⟨x3, M4, h9, hE⟩ := b2_some hE
    refine rc_V S (rn_V S fc8 (by decide) (c_MD_save _ _ (gYX S)  M2 _ _ h9) wdX8_save q_682 ⟨Nat.le_of_ble_eq_true rfl, Nat.le_of_ble_eq_true rfl⟩ rfl (Nat.le_of_ble_eq_true rfl) dX8_setHeight_25) ?_
    refine r_aload_n S dX8_setHeight_28 0 rfl ?_
    obtain ⟨x5, M6, h9, hE⟩ := b2_some hE
    refine rc_V S (rn_V S fc8 (by decide) (c_MD_remembers _ _ (gYX S)  M4 _ _ h9) wdX8_remembers q_693 ⟨Nat.le_of_ble_eq_true rfl, Nat.le_of_ble_eq_true rfl⟩ rfl (Nat.le_of_ble_eq_true rfl) dX8_setHeight_29) ?_
    refine r_aload_n S dX8_setHeight_32 0 rfl ?_
    refine r_iload_n S dX8_setHeight_33 1 rfl ?_
    obtain ⟨x7, h9, hE⟩ := b1_some hE
    refine rc_I S (rn_V S fc8 (by decide) (c_MD_height _ _ (gYX S) a1 M6 _ h9) wdX8_height q_559 ⟨Nat.le_of_ble_eq_true rfl, Nat.le_of_ble_eq_true rfl⟩ rfl (Nat.le_of_ble_eq_true rfl) dX8_setHeight_34) ?_
    refine r_istore_n (lv2 := [(3, .int x7), (0, .ref (hY X.2.1.2 + 0)), (1, .int a1), (2, .int a2)]) S dX8_setHeight_37 (by decide) rfl ?_
    refine r_aload_n S dX8_setHeight_38 1 rfl ?_
    refine r_getRK S fc8 (by decide) 0 1 rfl rfl q_523 dX8_setHeight_39 ?_
    refine r_bipush S (8 : Int32) dX8_setHeight_42 rfl ?_
    refine r_iload_n S dX8_setHeight_44 2 rfl ?_
    refine r_iadd S dX8_setHeight_45 ?_
    refine r_iload_n S dX8_setHeight_46 3 rfl ?_
    refine r_i2l S dX8_setHeight_47 ?_
    obtain ⟨hi, hE⟩ := ck_some hE
    refine r_last S (by decide) hi dX8_setHeight_48 ?_
    refine r_aload_n S dX8_setHeight_49 1 rfl ?_
    obtain ⟨x8, M9, h9, hE⟩ := b2_some hE
    refine rc_V S (rn_V S fc8 (by decide) (c_MD_changes _ _ (gYX S)  (sL M6 1 ((8 : Int32) + a1).toNatClampNeg a2.toInt64) _ _ h9) wdX8_changes q_698 ⟨Nat.le_of_ble_eq_true rfl, Nat.le_of_ble_eq_true rfl⟩ rfl (Nat.le_of_ble_eq_true rfl) dX8_setHeight_50) ?_
    refine r_iload_n S dX8_setHeight_53 0 rfl ?_
    obtain ⟨rfl, rfl⟩ := si2 hE
    exact hret _ _ dX8_setHeight_54
  · rw [if_neg (not_not_intro c)] at hE
    refine r_iconst S (0 : Int32) dX8_setHeight_22 rfl ?_
    obtain ⟨rfl, rfl⟩ := si2 hE
    exact hret _ _ dX8_setHeight_23
set_option maxRecDepth 100000 in
set_option maxHeartbeats 4000000 in
theorem c_MD_setDrain (l : Launch) (Y : Env1) (hG : gY Y = gM) (a1 : Int32) (a2 : Int32) (M : Mem) (r : Int32) (M1 : Mem) (hE : MD_setDrain a1 a2 M = some (r, M1)) : CnI l Y yX8_setDrain cX8_setDrain 4 .boolean 9 [.ref (hY Y + 0), .int a1, .int a2] M r M1 := by
  refine met_Z (own := RX8) (by decide +kernel) rfl hG (Nat.le_of_ble_eq_true rfl) (fun X S hY1 hl1 hret => ?_)
  subst hY1
  subst hl1
  show AW X 0 [(0, .ref (hY X.2.1.2 + 0)), (1, .int a1), (2, .int a2)] [] M
  have J71 : ∀ (v3 : Int32) (t0 : Int64) (t1 : Int32) (t2 : Nat) (kt2 : kM t2 = 10) (M : Mem), MD_setDrain_J71 v3 t0 t1 t2 M = some (r, M1) → AW X 71 [(0, .ref (hY X.2.1.2 + 0)), (3, .int v3)] [.long t0, .int t1, .ref (hY X.2.1.2 + t2)] M := by
    intro v3 t0 t1 t2 kt2 M hE
    unfold MD_setDrain_J71 at hE
    obtain ⟨hi, hE⟩ := ck_some hE
    refine r_last S kt2 hi dX8_setDrain_71 ?_
    refine r_aload_n S dX8_setDrain_72 0 rfl ?_
    obtain ⟨x1, M2, h9, hE⟩ := b2_some hE
    refine rc_V S (rn_V S fc8 (by decide) (c_MD_changes _ _ (gYX S)  (sL M t2 t1.toNatClampNeg t0) _ _ h9) wdX8_changes q_698 ⟨Nat.le_of_ble_eq_true rfl, Nat.le_of_ble_eq_true rfl⟩ rfl (Nat.le_of_ble_eq_true rfl) dX8_setDrain_73) ?_
    refine r_iload_n S dX8_setDrain_76 1 rfl ?_
    obtain ⟨rfl, rfl⟩ := si2 hE
    exact hret _ _ _ dX8_setDrain_77 rfl
  unfold MD_setDrain at hE
  refine r_aload_n S dX8_setDrain_0 0 rfl ?_
  refine r_aload_n S dX8_setDrain_1 0 rfl ?_
  refine r_iload_n S dX8_setDrain_2 1 rfl ?_
  refine rc_I S (rn_V S fc8 (by decide) (c_MD_isCell _ _ (gYX S) a1 M _ rfl) wdX8_isCell q_539 ⟨Nat.le_of_ble_eq_true rfl, Nat.le_of_ble_eq_true rfl⟩ rfl (Nat.le_of_ble_eq_true rfl) dX8_setDrain_3) ?_
  refine r_iconst S (1 : Int32) dX8_setDrain_6 rfl ?_
  refine r_iconst S (1 : Int32) dX8_setDrain_7 rfl ?_
  obtain ⟨x1, M2, h9, hE⟩ := b2_some hE
  refine rc_I S (rn_V S fc8 (by decide) (c_MD_goes _ _ (gYX S) (MD_isCell a1 M) (1 : Int32) (1 : Int32) M _ _ h9) wdX8_goes q_677 ⟨Nat.le_of_ble_eq_true rfl, Nat.le_of_ble_eq_true rfl⟩ rfl (Nat.le_of_ble_eq_true rfl) dX8_setDrain_8) ?_
  refine r_if_ne S 16 dX8_setDrain_11 (by decide) (fun c => ?_) (fun c => ?_)
  · rw [if_pos c] at hE
    refine r_aload_n S dX8_setDrain_16 0 rfl ?_
    obtain ⟨x3, M4, h9, hE⟩ := b2_some hE
    refine rc_V S (rn_V S fc8 (by decide) (c_MD_save _ _ (gYX S)  M2 _ _ h9) wdX8_save q_682 ⟨Nat.le_of_ble_eq_true rfl, Nat.le_of_ble_eq_true rfl⟩ rfl (Nat.le_of_ble_eq_true rfl) dX8_setDrain_17) ?_
    refine r_aload_n S dX8_setDrain_20 0 rfl ?_
    obtain ⟨x5, M6, h9, hE⟩ := b2_some hE
    refine rc_V S (rn_V S fc8 (by decide) (c_MD_remembers _ _ (gYX S)  M4 _ _ h9) wdX8_remembers q_693 ⟨Nat.le_of_ble_eq_true rfl, Nat.le_of_ble_eq_true rfl⟩ rfl (Nat.le_of_ble_eq_true rfl) dX8_setDrain_21) ?_
    refine r_aload_n S dX8_setDrain_24 0 rfl ?_
    refine r_getRK S fc8 (by decide) 0 1 rfl rfl q_523 dX8_setDrain_25 ?_
    refine r_iconst S (2 : Int32) dX8_setDrain_28 rfl ?_
    refine r_laldK S 2 rfl (by decide) (by decide) dX8_setDrain_29 ?_
    refine r_iload_n S dX8_setDrain_30 1 rfl ?_
    refine rc_I S (rn_S S (c_MD_has _ _ (gYX S) (gL M6 1 2) a1 M6 _ rfl) wdX8_has q_564 ⟨Nat.le_of_ble_eq_true rfl, Nat.le_of_ble_eq_true rfl⟩ rfl (Nat.le_of_ble_eq_true rfl) dX8_setDrain_31) ?_
    refine r_istore_n (lv2 := [(3, .int (MD_has (gL M6 1 2) a1)), (0, .ref (hY X.2.1.2 + 0)), (1, .int a1), (2, .int a2)]) S dX8_setDrain_34 (by decide) rfl ?_
    refine r_aload_n S dX8_setDrain_35 1 rfl ?_
    refine r_getRK S fc8 (by decide) 0 1 rfl rfl q_523 dX8_setDrain_36 ?_
    refine r_iconst S (2 : Int32) dX8_setDrain_39 rfl ?_
    refine r_iload_n S dX8_setDrain_40 3 rfl ?_
    refine r_if_eq S 57 dX8_setDrain_41 (by decide) (fun c => ?_) (fun c => ?_)
    · try simp only [if_pos c] at hE
      refine r_aload_n S dX8_setDrain_57 1 rfl ?_
      refine r_getRK S fc8 (by decide) 0 1 rfl rfl q_523 dX8_setDrain_58 ?_
      refine r_iconst S (2 : Int32) dX8_setDrain_61 rfl ?_
      refine r_laldK S 2 rfl (by decide) (by decide) dX8_setDrain_62 ?_
      refine r_lconst S (1 : Int64) dX8_setDrain_63 rfl ?_
      refine r_iload_n S dX8_setDrain_64 2 rfl ?_
      refine r_lshl S dX8_setDrain_65 ?_
      refine r_ldc2 S (v := -1) q_589 dX8_setDrain_66 ?_
      refine r_lxor S dX8_setDrain_69 ?_
      refine r_land S dX8_setDrain_70 ?_
      exact r_sub [1, 0] rfl (J71 (MD_has (gL M6 1 2) a1) ((gL M6 1 2) &&& ((lsh (1 : Int64) a1) ^^^ (-1 : Int64))) (2 : Int32) 1 (by decide) M6 hE)
    · try simp only [if_neg c] at hE
      refine r_aload_n S dX8_setDrain_44 1 rfl ?_
      refine r_getRK S fc8 (by decide) 0 1 rfl rfl q_523 dX8_setDrain_45 ?_
      refine r_iconst S (2 : Int32) dX8_setDrain_48 rfl ?_
      refine r_laldK S 2 rfl (by decide) (by decide) dX8_setDrain_49 ?_
      refine r_lconst S (1 : Int64) dX8_setDrain_50 rfl ?_
      refine r_iload_n S dX8_setDrain_51 2 rfl ?_
      refine r_lshl S dX8_setDrain_52 ?_
      refine r_lor S dX8_setDrain_53 ?_
      refine r_goto S 71 dX8_setDrain_54 (by decide) ?_
      exact r_sub [1, 0] rfl (J71 (MD_has (gL M6 1 2) a1) ((gL M6 1 2) ||| (lsh (1 : Int64) a1)) (2 : Int32) 1 (by decide) M6 hE)
  · rw [if_neg (not_not_intro c)] at hE
    refine r_iconst S (0 : Int32) dX8_setDrain_14 rfl ?_
    obtain ⟨rfl, rfl⟩ := si2 hE
    exact hret _ _ _ dX8_setDrain_15 (by decide)
set_option maxRecDepth 100000 in
set_option maxHeartbeats 4000000 in
theorem c_MD_setGate (l : Launch) (Y : Env1) (hG : gY Y = gM) (a1 : Int32) (a2 : Int32) (a3 : Int32) (M : Mem) (r : Int32) (M1 : Mem) (hE : MD_setGate a1 a2 a3 M = some (r, M1)) : CnI l Y yX8_setGate cX8_setGate 5 .int 9 [.ref (hY Y + 0), .int a1, .int a2, .int a3] M r M1 := by
  refine met_I (own := RX8) (by decide +kernel) rfl hG (Nat.le_of_ble_eq_true rfl) (fun X S hY1 hl1 hret => ?_)
  subst hY1
  subst hl1
  show AW X 0 [(0, .ref (hY X.2.1.2 + 0)), (1, .int a1), (2, .int a2), (3, .int a3)] [] M
  unfold MD_setGate at hE
  refine r_aload_n S dX8_setGate_0 0 rfl ?_
  refine r_aload_n S dX8_setGate_1 0 rfl ?_
  refine r_iload_n S dX8_setGate_2 1 rfl ?_
  refine r_iload_n S dX8_setGate_3 2 rfl ?_
  obtain ⟨x1, h9, hE⟩ := b1_some hE
  refine rc_I S (rn_V S fc8 (by decide) (c_MD_isPair _ _ (gYX S) a1 a2 M _ h9) wdX8_isPair q_703 ⟨Nat.le_of_ble_eq_true rfl, Nat.le_of_ble_eq_true rfl⟩ rfl (Nat.le_of_ble_eq_true rfl) dX8_setGate_4) ?_
  refine r_iload_n S dX8_setGate_7 3 rfl ?_
  refine r_i2l S dX8_setGate_8 ?_
  refine r_ldc2 S (v := -1) q_589 dX8_setGate_9 ?_
  refine r_ldc2 S (v := 99) q_692 dX8_setGate_12 ?_
  refine rc_I S (rn_S S (c_MD_in _ _ (gYX S) a3.toInt64 (-1 : Int64) (99 : Int64) M _ rfl) wdX8_in q_530 ⟨Nat.le_of_ble_eq_true rfl, Nat.le_of_ble_eq_true rfl⟩ rfl (Nat.le_of_ble_eq_true rfl) dX8_setGate_15) ?_
  refine r_iconst S (1 : Int32) dX8_setGate_18 rfl ?_
  obtain ⟨x2, M3, h9, hE⟩ := b2_some hE
  refine rc_I S (rn_V S fc8 (by decide) (c_MD_goes _ _ (gYX S) x1 (MD_in a3.toInt64 (-1 : Int64) (99 : Int64)) (1 : Int32) M _ _ h9) wdX8_goes q_677 ⟨Nat.le_of_ble_eq_true rfl, Nat.le_of_ble_eq_true rfl⟩ rfl (Nat.le_of_ble_eq_true rfl) dX8_setGate_19) ?_
  refine r_if_ne S 27 dX8_setGate_22 (by decide) (fun c => ?_) (fun c => ?_)
  · rw [if_pos c] at hE
    refine r_aload_n S dX8_setGate_27 0 rfl ?_
    obtain ⟨x4, M5, h9, hE⟩ := b2_some hE
    refine rc_V S (rn_V S fc8 (by decide) (c_MD_save _ _ (gYX S)  M3 _ _ h9) wdX8_save q_682 ⟨Nat.le_of_ble_eq_true rfl, Nat.le_of_ble_eq_true rfl⟩ rfl (Nat.le_of_ble_eq_true rfl) dX8_setGate_28) ?_
    refine r_aload_n S dX8_setGate_31 0 rfl ?_
    obtain ⟨x6, M7, h9, hE⟩ := b2_some hE
    refine rc_V S (rn_V S fc8 (by decide) (c_MD_remembers _ _ (gYX S)  M5 _ _ h9) wdX8_remembers q_693 ⟨Nat.le_of_ble_eq_true rfl, Nat.le_of_ble_eq_true rfl⟩ rfl (Nat.le_of_ble_eq_true rfl) dX8_setGate_32) ?_
    refine r_aload_n S dX8_setGate_35 0 rfl ?_
    refine r_getRK S fc8 (by decide) 0 1 rfl rfl q_523 dX8_setGate_36 ?_
    refine r_aload_n S dX8_setGate_39 0 rfl ?_
    refine r_iload_n S dX8_setGate_40 1 rfl ?_
    refine r_iload_n S dX8_setGate_41 2 rfl ?_
    obtain ⟨x8, h9, hE⟩ := b1_some hE
    refine rc_I S (rn_V S fc8 (by decide) (c_MD_gateAt _ _ (gYX S) a1 a2 M7 _ h9) wdX8_gateAt q_549 ⟨Nat.le_of_ble_eq_true rfl, Nat.le_of_ble_eq_true rfl⟩ rfl (Nat.le_of_ble_eq_true rfl) dX8_setGate_42) ?_
    obtain ⟨hi, hE⟩ := ck_some hE
    refine r_lald S (by decide) hi dX8_setGate_45 ?_
    refine r_l2i S dX8_setGate_46 ?_
    refine r_istore (lv2 := [(4, .int ((gL M7 1 x8.toNatClampNeg).toInt32)), (0, .ref (hY X.2.1.2 + 0)), (1, .int a1), (2, .int a2), (3, .int a3)]) S dX8_setGate_47 (by decide) rfl ?_
    refine r_aload_n S dX8_setGate_49 1 rfl ?_
    refine r_getRK S fc8 (by decide) 0 1 rfl rfl q_523 dX8_setGate_50 ?_
    refine r_aload_n S dX8_setGate_53 1 rfl ?_
    refine r_iload_n S dX8_setGate_54 2 rfl ?_
    refine r_iload_n S dX8_setGate_55 3 rfl ?_
    obtain ⟨x9, h9, hE⟩ := b1_some hE
    refine rc_I S (rn_V S fc8 (by decide) (c_MD_gateAt _ _ (gYX S) a1 a2 M7 _ h9) wdX8_gateAt q_549 ⟨Nat.le_of_ble_eq_true rfl, Nat.le_of_ble_eq_true rfl⟩ rfl (Nat.le_of_ble_eq_true rfl) dX8_setGate_56) ?_
    refine r_iload_n S dX8_setGate_59 4 rfl ?_
    refine r_i2l S dX8_setGate_60 ?_
    obtain ⟨hi, hE⟩ := ck_some hE
    refine r_last S (by decide) hi dX8_setGate_61 ?_
    refine r_aload_n S dX8_setGate_62 1 rfl ?_
    obtain ⟨x10, M11, h9, hE⟩ := b2_some hE
    refine rc_V S (rn_V S fc8 (by decide) (c_MD_changes _ _ (gYX S)  (sL M7 1 x9.toNatClampNeg a3.toInt64) _ _ h9) wdX8_changes q_698 ⟨Nat.le_of_ble_eq_true rfl, Nat.le_of_ble_eq_true rfl⟩ rfl (Nat.le_of_ble_eq_true rfl) dX8_setGate_63) ?_
    refine r_iload S dX8_setGate_66 0 rfl ?_
    obtain ⟨rfl, rfl⟩ := si2 hE
    exact hret _ _ dX8_setGate_68
  · rw [if_neg (not_not_intro c)] at hE
    refine r_iconst S (0 : Int32) dX8_setGate_25 rfl ?_
    obtain ⟨rfl, rfl⟩ := si2 hE
    exact hret _ _ dX8_setGate_26
set_option maxRecDepth 100000 in
set_option maxHeartbeats 4000000 in
theorem c_MD_random (l : Launch) (Y : Env1) (hG : gY Y = gM) (a1 : Int32) (a2 : Int32) (M : Mem) (r : Int32) (M1 : Mem) (hE : MD_random a1 a2 M = some (r, M1)) : CnI l Y yX8_random cX8_random 6 .int 9 [.ref (hY Y + 0), .int a1, .int a2] M r M1 := by
  refine met_I (own := RX8) (by decide +kernel) rfl hG (Nat.le_of_ble_eq_true rfl) (fun X S hY1 hl1 hret => ?_)
  subst hY1
  subst hl1
  show AW X 0 [(0, .ref (hY X.2.1.2 + 0)), (1, .int a1), (2, .int a2)] [] M
  have L54 : ∀ (v2 : Int32) (e : (Unit)) (M2 : Mem), AW X 103 [(0, .ref (hY X.2.1.2 + 0))] [] M2 → ∀ (n : Nat) (s : Int64 × Int32) (M : Mem), lpM (fun s M => MD_random_L54 v2 s.1 s.2 M) n s M = some (e, M2) → AW X 54 [(0, .ref (hY X.2.1.2 + 0)), (2, .int v2), (3, .long s.1), (5, .int s.2)] [] M := by
    intro v2 e M2 hX
    refine lpM_ind (P := fun (s : Int64 × Int32) (M : Mem) => AW X 54 [(0, .ref (hY X.2.1.2 + 0)), (2, .int v2), (3, .long s.1), (5, .int s.2)] [] M) ?_
    rintro ⟨v3, v5⟩ M d M3 hE hC hD
    replace hE : MD_random_L54 v2 v3 v5 M = some (d, M3) := hE
    show AW X 54 [(0, .ref (hY X.2.1.2 + 0)), (2, .int v2), (3, .long v3), (5, .int v5)] [] M
    unfold MD_random_L54 at hE
    refine r_iload S dX8_random_54 3 rfl ?_
    refine r_aload_n S dX8_random_56 0 rfl ?_
    refine rc_I S (rn_V S fc8 (by decide) (c_MD_many _ _ (gYX S)  M _ rfl) wdX8_many q_525 ⟨Nat.le_of_ble_eq_true rfl, Nat.le_of_ble_eq_true rfl⟩ rfl (Nat.le_of_ble_eq_true rfl) dX8_random_57) ?_
    refine r_icmp_ge S 103 dX8_random_60 (by decide) (fun c => ?_) (fun c => ?_)
    · rw [if_pos c] at hE
      obtain ⟨rfl, rfl⟩ := si2 hE
      rcases hD with ⟨h1, h2⟩ | ⟨_, h1⟩
      · obtain rfl := sir h1
        subst h2
        exact r_sub [0] rfl hX
      · exact (sil h1).elim
    · rw [if_neg c] at hE
      refine r_ldc2 S (v := 1103515245) q_709 dX8_random_63 ?_
      refine r_lload_n S dX8_random_66 2 rfl ?_
      refine r_lmul S dX8_random_67 ?_
      refine r_ldc2 S (v := 12345) q_710 dX8_random_68 ?_
      refine r_ladd S dX8_random_71 ?_
      refine r_ldc2 S (v := 2147483648) q_711 dX8_random_72 ?_
      refine r_lrem S dX8_random_75 (by decide) ?_
      refine r_lstore_n (lv2 := [(3, .long (lrm (((1103515245 : Int64) * v3) + (12345 : Int64)) (2147483648 : Int64))), (0, .ref (hY X.2.1.2 + 0)), (2, .int v2), (5, .int v5)]) S dX8_random_76 (by decide) rfl ?_
      refine r_aload_n S dX8_random_77 1 rfl ?_
      refine r_getRK S fc8 (by decide) 0 1 rfl rfl q_523 dX8_random_78 ?_
      refine r_bipush S (8 : Int32) dX8_random_81 rfl ?_
      refine r_iload S dX8_random_83 3 rfl ?_
      refine r_iadd S dX8_random_85 ?_
      refine r_lload_n S dX8_random_86 0 rfl ?_
      refine r_ldc2 S (v := 65536) q_712 dX8_random_87 ?_
      refine r_ldiv S dX8_random_90 (by decide) ?_
      refine r_iload_n S dX8_random_91 2 rfl ?_
      refine r_i2l S dX8_random_92 ?_
      refine r_lconst S (1 : Int64) dX8_random_93 rfl ?_
      refine r_ladd S dX8_random_94 ?_
      obtain ⟨hy, hE⟩ := ck_some hE
      refine r_lrem S dX8_random_95 (of_decide_eq_true hy) ?_
      obtain ⟨hi, hE⟩ := ck_some hE
      refine r_last S (by decide) hi dX8_random_96 ?_
      refine r_iinc (lv2 := [(5, .int (v5 + (1 : Int32))), (3, .long (lrm (((1103515245 : Int64) * v3) + (12345 : Int64)) (2147483648 : Int64))), (0, .ref (hY X.2.1.2 + 0)), (2, .int v2)]) S dX8_random_97 (j := 3) rfl (by decide) rfl ?_
      refine r_goto S 54 dX8_random_100 (by decide) ?_
      obtain ⟨rfl, rfl⟩ := si2 hE
      exact r_sub (lv2 := [(0, .ref (hY X.2.1.2 + 0)), (2, .int v2), (3, .long (lrm (((1103515245 : Int64) * v3) + (12345 : Int64)) (2147483648 : Int64))), (5, .int (v5 + (1 : Int32)))]) [2, 3, 1, 0] rfl (hC ((lrm (((1103515245 : Int64) * v3) + (12345 : Int64)) (2147483648 : Int64)), (v5 + (1 : Int32))) rfl)
  have J30 : ∀ (v1 : Int32) (v2 : Int32) (t0 : Int32) (M : Mem), MD_random_J30 v1 v2 t0 M = some (r, M1) → AW X 30 [(0, .ref (hY X.2.1.2 + 0)), (1, .int v1), (2, .int v2)] [.int t0, .ref (hY X.2.1.2 + 0)] M := by
    intro v1 v2 t0 M hE
    unfold MD_random_J30 at hE
    refine r_iconst S (1 : Int32) dX8_random_30 rfl ?_
    refine r_iconst S (1 : Int32) dX8_random_31 rfl ?_
    obtain ⟨x1, M2, h9, hE⟩ := b2_some hE
    refine rc_I S (rn_V S fc8 (by decide) (c_MD_goes _ _ (gYX S) t0 (1 : Int32) (1 : Int32) M _ _ h9) wdX8_goes q_677 ⟨Nat.le_of_ble_eq_true rfl, Nat.le_of_ble_eq_true rfl⟩ rfl (Nat.le_of_ble_eq_true rfl) dX8_random_32) ?_
    refine r_if_ne S 40 dX8_random_35 (by decide) (fun c => ?_) (fun c => ?_)
    · rw [if_pos c] at hE
      refine r_aload_n S dX8_random_40 0 rfl ?_
      obtain ⟨x3, M4, h9, hE⟩ := b2_some hE
      refine rc_V S (rn_V S fc8 (by decide) (c_MD_save _ _ (gYX S)  M2 _ _ h9) wdX8_save q_682 ⟨Nat.le_of_ble_eq_true rfl, Nat.le_of_ble_eq_true rfl⟩ rfl (Nat.le_of_ble_eq_true rfl) dX8_random_41) ?_
      refine r_aload_n S dX8_random_44 0 rfl ?_
      obtain ⟨x5, M6, h9, hE⟩ := b2_some hE
      refine rc_V S (rn_V S fc8 (by decide) (c_MD_remembers _ _ (gYX S)  M4 _ _ h9) wdX8_remembers q_693 ⟨Nat.le_of_ble_eq_true rfl, Nat.le_of_ble_eq_true rfl⟩ rfl (Nat.le_of_ble_eq_true rfl) dX8_random_45) ?_
      refine r_iload_n S dX8_random_48 1 rfl ?_
      refine r_i2l S dX8_random_49 ?_
      refine r_lstore_n (lv2 := [(3, .long v1.toInt64), (0, .ref (hY X.2.1.2 + 0)), (1, .int v1), (2, .int v2)]) S dX8_random_50 (by decide) rfl ?_
      refine r_iconst S (0 : Int32) dX8_random_51 rfl ?_
      refine r_istore (lv2 := [(5, .int (0 : Int32)), (3, .long v1.toInt64), (0, .ref (hY X.2.1.2 + 0)), (1, .int v1), (2, .int v2)]) S dX8_random_52 (by decide) rfl ?_
      obtain ⟨e7, M8, h9, hE⟩ := b2_some hE
      refine r_sub [2, 4, 1, 0] rfl (L54 v2  e7 M8 ?_ _ _ M6 h9)
      refine r_aload_n S dX8_random_103 0 rfl ?_
      obtain ⟨x9, M10, h9, hE⟩ := b2_some hE
      refine rc_V S (rn_V S fc8 (by decide) (c_MD_changes _ _ (gYX S)  M8 _ _ h9) wdX8_changes q_698 ⟨Nat.le_of_ble_eq_true rfl, Nat.le_of_ble_eq_true rfl⟩ rfl (Nat.le_of_ble_eq_true rfl) dX8_random_104) ?_
      refine r_aload_n S dX8_random_107 0 rfl ?_
      refine r_getRK S fc8 (by decide) 0 1 rfl rfl q_523 dX8_random_108 ?_
      refine r_bipush S (6 : Int32) dX8_random_111 rfl ?_
      refine r_laldK S 6 rfl (by decide) (by decide) dX8_random_113 ?_
      refine r_l2i S dX8_random_114 ?_
      obtain ⟨rfl, rfl⟩ := si2 hE
      exact hret _ _ dX8_random_115
    · rw [if_neg (not_not_intro c)] at hE
      refine r_iconst S (0 : Int32) dX8_random_38 rfl ?_
      obtain ⟨rfl, rfl⟩ := si2 hE
      exact hret _ _ dX8_random_39
  have J29 : ∀ (v1 : Int32) (v2 : Int32) (M : Mem), MD_random_J29 v1 v2 M = some (r, M1) → AW X 29 [(0, .ref (hY X.2.1.2 + 0)), (1, .int v1), (2, .int v2)] [.ref (hY X.2.1.2 + 0)] M := by
    intro v1 v2 M hE
    unfold MD_random_J29 at hE
    refine r_iconst S (0 : Int32) dX8_random_29 rfl ?_
    exact r_sub [0, 1, 2] rfl (J30 v1 v2 (0 : Int32) M hE)
  unfold MD_random at hE
  refine r_aload_n S dX8_random_0 0 rfl ?_
  refine r_iload_n S dX8_random_1 1 rfl ?_
  refine r_i2l S dX8_random_2 ?_
  refine r_lconst S (0 : Int64) dX8_random_3 rfl ?_
  refine r_ldc2 S (v := 999999) q_708 dX8_random_4 ?_
  refine rc_I S (rn_S S (c_MD_in _ _ (gYX S) a1.toInt64 (0 : Int64) (999999 : Int64) M _ rfl) wdX8_in q_530 ⟨Nat.le_of_ble_eq_true rfl, Nat.le_of_ble_eq_true rfl⟩ rfl (Nat.le_of_ble_eq_true rfl) dX8_random_7) ?_
  refine r_if_eq S 29 dX8_random_10 (by decide) (fun c => ?_) (fun c => ?_)
  · try simp only [if_pos c] at hE
    refine r_iconst S (0 : Int32) dX8_random_29 rfl ?_
    exact r_sub [0, 1, 2] rfl (J30 a1 a2 (0 : Int32) M hE)
  · try simp only [if_neg c] at hE
    refine r_iload_n S dX8_random_13 2 rfl ?_
    refine r_i2l S dX8_random_14 ?_
    refine r_lconst S (0 : Int64) dX8_random_15 rfl ?_
    refine r_ldc2 S (v := 99) q_692 dX8_random_16 ?_
    refine rc_I S (rn_S S (c_MD_in _ _ (gYX S) a2.toInt64 (0 : Int64) (99 : Int64) M _ rfl) wdX8_in q_530 ⟨Nat.le_of_ble_eq_true rfl, Nat.le_of_ble_eq_true rfl⟩ rfl (Nat.le_of_ble_eq_true rfl) dX8_random_19) ?_
    refine r_if_eq S 29 dX8_random_22 (by decide) (fun c => ?_) (fun c => ?_)
    · try simp only [if_pos c] at hE
      refine r_iconst S (0 : Int32) dX8_random_29 rfl ?_
      exact r_sub [0, 1, 2] rfl (J30 a1 a2 (0 : Int32) M hE)
    · try simp only [if_neg c] at hE
      refine r_iconst S (1 : Int32) dX8_random_25 rfl ?_
      refine r_goto S 30 dX8_random_26 (by decide) ?_
      exact r_sub [0, 1, 2] rfl (J30 a1 a2 (1 : Int32) M hE)
set_option maxRecDepth 100000 in
set_option maxHeartbeats 4000000 in
theorem c_MD_cellValue (l : Launch) (Y : Env1) (hG : gY Y = gM) (a1 : Int32) (a2 : Int32) (M : Mem) (r : Int32) (M1 : Mem) (hE : MD_cellValue a1 a2 M = some (r, M1)) : CnI l Y yX8_cellValue cX8_cellValue 4 .int 3 [.ref (hY Y + 0), .int a1, .int a2] M r M1 := by
  refine met_I (own := RX8) (by decide +kernel) rfl hG (Nat.le_of_ble_eq_true rfl) (fun X S hY1 hl1 hret => ?_)
  subst hY1
  subst hl1
  show AW X 0 [(0, .ref (hY X.2.1.2 + 0)), (1, .int a1), (2, .int a2)] [] M
  unfold MD_cellValue at hE
  refine r_aload_n S dX8_cellValue_0 0 rfl ?_
  refine r_iload_n S dX8_cellValue_1 1 rfl ?_
  obtain ⟨x1, h9, hE⟩ := b1_some hE
  refine rc_I S (rn_V S fc8 (by decide) (c_MD_lakeOf _ _ (gYX S) a1 M _ h9) wdX8_lakeOf q_612 ⟨Nat.le_of_ble_eq_true rfl, Nat.le_of_ble_eq_true rfl⟩ rfl (Nat.le_of_ble_eq_true rfl) dX8_cellValue_2) ?_
  refine r_istore_n (lv2 := [(3, .int x1), (0, .ref (hY X.2.1.2 + 0)), (1, .int a1), (2, .int a2)]) S dX8_cellValue_5 (by decide) rfl ?_
  refine r_iload_n S dX8_cellValue_6 3 rfl ?_
  by_cases c0 : a2 = (0 : Int32)
  · rw [if_pos c0] at hE
    refine r_tin S 40 (0 : Int32) c0 dX8_cellValue_7 (by decide) (by decide) rfl (by decide) ?_
    refine r_aload_n S dX8_cellValue_40 1 rfl ?_
    refine r_iload_n S dX8_cellValue_41 2 rfl ?_
    obtain ⟨x2, h9, hE⟩ := b1_some hE
    refine rc_I S (rn_V S fc8 (by decide) (c_MD_height _ _ (gYX S) a1 M _ h9) wdX8_height q_559 ⟨Nat.le_of_ble_eq_true rfl, Nat.le_of_ble_eq_true rfl⟩ rfl (Nat.le_of_ble_eq_true rfl) dX8_cellValue_42) ?_
    obtain ⟨rfl, rfl⟩ := si2 hE
    exact hret _ _ dX8_cellValue_45
  · rw [if_neg c0] at hE
    by_cases c1 : a2 = (1 : Int32)
    · rw [if_pos c1] at hE
      refine r_tin S 46 (1 : Int32) c1 dX8_cellValue_7 (by decide) (by decide) rfl (by decide) ?_
      refine r_aload_n S dX8_cellValue_46 1 rfl ?_
      refine r_getRK S fc8 (by decide) 0 1 rfl rfl q_523 dX8_cellValue_47 ?_
      refine r_iconst S (2 : Int32) dX8_cellValue_50 rfl ?_
      refine r_laldK S 2 rfl (by decide) (by decide) dX8_cellValue_51 ?_
      refine r_iload_n S dX8_cellValue_52 2 rfl ?_
      refine rc_I S (rn_S S (c_MD_has _ _ (gYX S) (gL M 1 2) a1 M _ rfl) wdX8_has q_564 ⟨Nat.le_of_ble_eq_true rfl, Nat.le_of_ble_eq_true rfl⟩ rfl (Nat.le_of_ble_eq_true rfl) dX8_cellValue_53) ?_
      refine r_if_eq S 63 dX8_cellValue_56 (by decide) (fun c => ?_) (fun c => ?_)
      · try simp only [if_pos c] at hE
        refine r_iconst S (0 : Int32) dX8_cellValue_63 rfl ?_
        obtain ⟨rfl, rfl⟩ := si2 hE
        exact hret _ _ dX8_cellValue_64
      · try simp only [if_neg c] at hE
        refine r_iconst S (1 : Int32) dX8_cellValue_59 rfl ?_
        refine r_goto S 64 dX8_cellValue_60 (by decide) ?_
        obtain ⟨rfl, rfl⟩ := si2 hE
        exact hret _ _ dX8_cellValue_64
    · rw [if_neg c1] at hE
      by_cases c2 : a2 = (2 : Int32)
      · rw [if_pos c2] at hE
        refine r_tin S 65 (2 : Int32) c2 dX8_cellValue_7 (by decide) (by decide) rfl (by decide) ?_
        refine r_aload_n S dX8_cellValue_65 1 rfl ?_
        refine r_getRK S fc8 (by decide) 0 1 rfl rfl q_523 dX8_cellValue_66 ?_
        refine r_bipush S (116 : Int32) dX8_cellValue_69 rfl ?_
        refine r_iload_n S dX8_cellValue_71 2 rfl ?_
        refine r_iadd S dX8_cellValue_72 ?_
        obtain ⟨hi, hE⟩ := ck_some hE
        refine r_lald S (by decide) hi dX8_cellValue_73 ?_
        refine r_l2i S dX8_cellValue_74 ?_
        obtain ⟨rfl, rfl⟩ := si2 hE
        exact hret _ _ dX8_cellValue_75
      · rw [if_neg c2] at hE
        by_cases c3 : a2 = (3 : Int32)
        · rw [if_pos c3] at hE
          refine r_tin S 76 (3 : Int32) c3 dX8_cellValue_7 (by decide) (by decide) rfl (by decide) ?_
          refine r_aload_n S dX8_cellValue_76 1 rfl ?_
          obtain ⟨x3, M4, h9, hE⟩ := b2_some hE
          refine rc_V S (rn_V S fc8 (by decide) (c_MD_orders _ _ (gYX S)  M _ _ h9) wdX8_orders q_641 ⟨Nat.le_of_ble_eq_true rfl, Nat.le_of_ble_eq_true rfl⟩ rfl (Nat.le_of_ble_eq_true rfl) dX8_cellValue_77) ?_
          refine r_iload_n S dX8_cellValue_80 0 rfl ?_
          refine r_iconst S (-1 : Int32) dX8_cellValue_81 rfl ?_
          refine r_icmp_ne S 89 dX8_cellValue_82 (by decide) (fun c => ?_) (fun c => ?_)
          · rw [if_pos c] at hE
            refine r_aload_n S dX8_cellValue_89 1 rfl ?_
            refine r_iload_n S dX8_cellValue_90 0 rfl ?_
            obtain ⟨x5, h9, hE⟩ := b1_some hE
            refine rc_I S (rn_V S fc8 (by decide) (c_MD_numberOf _ _ (gYX S) x1 M4 _ h9) wdX8_numberOf q_713 ⟨Nat.le_of_ble_eq_true rfl, Nat.le_of_ble_eq_true rfl⟩ rfl (Nat.le_of_ble_eq_true rfl) dX8_cellValue_91) ?_
            obtain ⟨rfl, rfl⟩ := si2 hE
            exact hret _ _ dX8_cellValue_94
          · rw [if_neg (not_not_intro c)] at hE
            refine r_iconst S (-1 : Int32) dX8_cellValue_85 rfl ?_
            refine r_goto S 94 dX8_cellValue_86 (by decide) ?_
            obtain ⟨rfl, rfl⟩ := si2 hE
            exact hret _ _ dX8_cellValue_94
        · rw [if_neg c3] at hE
          by_cases c4 : a2 = (4 : Int32)
          · rw [if_pos c4] at hE
            refine r_tin S 95 (4 : Int32) c4 dX8_cellValue_7 (by decide) (by decide) rfl (by decide) ?_
            refine r_aload_n S dX8_cellValue_95 1 rfl ?_
            refine r_iload_n S dX8_cellValue_96 2 rfl ?_
            obtain ⟨x6, M7, h9, hE⟩ := b2_some hE
            refine rc_I S (rn_V S fc8 (by decide) (c_MD_isWet _ _ (gYX S) a1 M _ _ h9) wdX8_isWet q_653 ⟨Nat.le_of_ble_eq_true rfl, Nat.le_of_ble_eq_true rfl⟩ rfl (Nat.le_of_ble_eq_true rfl) dX8_cellValue_97) ?_
            refine r_if_eq S 107 dX8_cellValue_100 (by decide) (fun c => ?_) (fun c => ?_)
            · try simp only [if_pos c] at hE
              refine r_iconst S (0 : Int32) dX8_cellValue_107 rfl ?_
              obtain ⟨rfl, rfl⟩ := si2 hE
              exact hret _ _ dX8_cellValue_108
            · try simp only [if_neg c] at hE
              refine r_iconst S (1 : Int32) dX8_cellValue_103 rfl ?_
              refine r_goto S 108 dX8_cellValue_104 (by decide) ?_
              obtain ⟨rfl, rfl⟩ := si2 hE
              exact hret _ _ dX8_cellValue_108
          · rw [if_neg c4] at hE
            have e0 : (a2).toInt ≠ 0 := fun h => c0 (Int32.toInt_inj.mp h)
            have e1 : (a2).toInt ≠ 1 := fun h => c1 (Int32.toInt_inj.mp h)
            have e2 : (a2).toInt ≠ 2 := fun h => c2 (Int32.toInt_inj.mp h)
            have e3 : (a2).toInt ≠ 3 := fun h => c3 (Int32.toInt_inj.mp h)
            have e4 : (a2).toInt ≠ 4 := fun h => c4 (Int32.toInt_inj.mp h)
            refine r_tout S 109 dX8_cellValue_7 (by omega) (by decide) ?_
            refine r_aload_n S dX8_cellValue_109 1 rfl ?_
            refine r_getRK S fc8 (by decide) 0 1 rfl rfl q_523 dX8_cellValue_110 ?_
            refine r_sipush S (512 : Int32) dX8_cellValue_113 rfl ?_
            refine r_laldK S 512 rfl (by decide) (by decide) dX8_cellValue_116 ?_
            refine r_iload_n S dX8_cellValue_117 2 rfl ?_
            refine rc_I S (rn_S S (c_MD_has _ _ (gYX S) (gL M 1 512) a1 M _ rfl) wdX8_has q_564 ⟨Nat.le_of_ble_eq_true rfl, Nat.le_of_ble_eq_true rfl⟩ rfl (Nat.le_of_ble_eq_true rfl) dX8_cellValue_118) ?_
            refine r_if_eq S 128 dX8_cellValue_121 (by decide) (fun c => ?_) (fun c => ?_)
            · try simp only [if_pos c] at hE
              refine r_iconst S (0 : Int32) dX8_cellValue_128 rfl ?_
              obtain ⟨rfl, rfl⟩ := si2 hE
              exact hret _ _ dX8_cellValue_129
            · try simp only [if_neg c] at hE
              refine r_iconst S (1 : Int32) dX8_cellValue_124 rfl ?_
              refine r_goto S 129 dX8_cellValue_125 (by decide) ?_
              obtain ⟨rfl, rfl⟩ := si2 hE
              exact hret _ _ dX8_cellValue_129
set_option maxRecDepth 100000 in
set_option maxHeartbeats 4000000 in
theorem c_MD_cell (l : Launch) (Y : Env1) (hG : gY Y = gM) (a1 : Int32) (a2 : Int32) (M : Mem) (r : Int32) (M1 : Mem) (hE : MD_cell a1 a2 M = some (r, M1)) : CnI l Y yX8_cell cX8_cell 3 .int 4 [.ref (hY Y + 0), .int a1, .int a2] M r M1 := by
  refine met_I (own := RX8) (by decide +kernel) rfl hG (Nat.le_of_ble_eq_true rfl) (fun X S hY1 hl1 hret => ?_)
  subst hY1
  subst hl1
  show AW X 0 [(0, .ref (hY X.2.1.2 + 0)), (1, .int a1), (2, .int a2)] [] M
  unfold MD_cell at hE
  refine r_aload_n S dX8_cell_0 0 rfl ?_
  refine r_aload_n S dX8_cell_1 0 rfl ?_
  refine r_iload_n S dX8_cell_2 1 rfl ?_
  refine rc_I S (rn_V S fc8 (by decide) (c_MD_isCell _ _ (gYX S) a1 M _ rfl) wdX8_isCell q_539 ⟨Nat.le_of_ble_eq_true rfl, Nat.le_of_ble_eq_true rfl⟩ rfl (Nat.le_of_ble_eq_true rfl) dX8_cell_3) ?_
  refine r_iload_n S dX8_cell_6 2 rfl ?_
  refine r_i2l S dX8_cell_7 ?_
  refine r_lconst S (0 : Int64) dX8_cell_8 rfl ?_
  refine r_ldc2 S (v := 5) q_718 dX8_cell_9 ?_
  refine rc_I S (rn_S S (c_MD_in _ _ (gYX S) a2.toInt64 (0 : Int64) (5 : Int64) M _ rfl) wdX8_in q_530 ⟨Nat.le_of_ble_eq_true rfl, Nat.le_of_ble_eq_true rfl⟩ rfl (Nat.le_of_ble_eq_true rfl) dX8_cell_12) ?_
  refine r_iconst S (1 : Int32) dX8_cell_15 rfl ?_
  obtain ⟨x1, M2, h9, hE⟩ := b2_some hE
  refine rc_I S (rn_V S fc8 (by decide) (c_MD_goes _ _ (gYX S) (MD_isCell a1 M) (MD_in a2.toInt64 (0 : Int64) (5 : Int64)) (1 : Int32) M _ _ h9) wdX8_goes q_677 ⟨Nat.le_of_ble_eq_true rfl, Nat.le_of_ble_eq_true rfl⟩ rfl (Nat.le_of_ble_eq_true rfl) dX8_cell_16) ?_
  refine r_if_eq S 31 dX8_cell_19 (by decide) (fun c => ?_) (fun c => ?_)
  · rw [if_pos c] at hE
    refine r_iconst S (0 : Int32) dX8_cell_31 rfl ?_
    obtain ⟨rfl, rfl⟩ := si2 hE
    exact hret _ _ dX8_cell_32
  · rw [if_neg c] at hE
    refine r_aload_n S dX8_cell_22 0 rfl ?_
    refine r_iload_n S dX8_cell_23 1 rfl ?_
    refine r_iload_n S dX8_cell_24 2 rfl ?_
    obtain ⟨x3, M4, h9, hE⟩ := b2_some hE
    refine rc_I S (rn_V S fc8 (by decide) (c_MD_cellValue _ _ (gYX S) a1 a2 M2 _ _ h9) wdX8_cellValue q_719 ⟨Nat.le_of_ble_eq_true rfl, Nat.le_of_ble_eq_true rfl⟩ rfl (Nat.le_of_ble_eq_true rfl) dX8_cell_25) ?_
    refine r_goto S 32 dX8_cell_28 (by decide) ?_
    obtain ⟨rfl, rfl⟩ := si2 hE
    exact hret _ _ dX8_cell_32
set_option maxRecDepth 100000 in
set_option maxHeartbeats 4000000 in
theorem c_MD_between (l : Launch) (Y : Env1) (hG : gY Y = gM) (a1 : Int32) (a2 : Int32) (a3 : Int32) (M : Mem) (r : Int32) (M1 : Mem) (hE : MD_between a1 a2 a3 M = some (r, M1)) : CnI l Y yX8_between cX8_between 4 .int 4 [.ref (hY Y + 0), .int a1, .int a2, .int a3] M r M1 := by
  refine met_I (own := RX8) (by decide +kernel) rfl hG (Nat.le_of_ble_eq_true rfl) (fun X S hY1 hl1 hret => ?_)
  subst hY1
  subst hl1
  show AW X 0 [(0, .ref (hY X.2.1.2 + 0)), (1, .int a1), (2, .int a2), (3, .int a3)] [] M
  unfold MD_between at hE
  refine r_aload_n S dX8_between_0 0 rfl ?_
  refine r_aload_n S dX8_between_1 0 rfl ?_
  refine r_iload_n S dX8_between_2 1 rfl ?_
  refine r_iload_n S dX8_between_3 2 rfl ?_
  obtain ⟨x1, h9, hE⟩ := b1_some hE
  refine rc_I S (rn_V S fc8 (by decide) (c_MD_isPair _ _ (gYX S) a1 a2 M _ h9) wdX8_isPair q_703 ⟨Nat.le_of_ble_eq_true rfl, Nat.le_of_ble_eq_true rfl⟩ rfl (Nat.le_of_ble_eq_true rfl) dX8_between_4) ?_
  refine r_iconst S (1 : Int32) dX8_between_7 rfl ?_
  refine r_iconst S (1 : Int32) dX8_between_8 rfl ?_
  obtain ⟨x2, M3, h9, hE⟩ := b2_some hE
  refine rc_I S (rn_V S fc8 (by decide) (c_MD_goes _ _ (gYX S) x1 (1 : Int32) (1 : Int32) M _ _ h9) wdX8_goes q_677 ⟨Nat.le_of_ble_eq_true rfl, Nat.le_of_ble_eq_true rfl⟩ rfl (Nat.le_of_ble_eq_true rfl) dX8_between_9) ?_
  refine r_if_ne S 17 dX8_between_12 (by decide) (fun c => ?_) (fun c => ?_)
  · rw [if_pos c] at hE
    refine r_iload_n S dX8_between_17 3 rfl ?_
    refine r_if_eq S 30 dX8_between_18 (by decide) (fun c => ?_) (fun c => ?_)
    · rw [if_pos c] at hE
      refine r_aload_n S dX8_between_30 0 rfl ?_
      refine r_getRK S fc8 (by decide) 0 1 rfl rfl q_523 dX8_between_31 ?_
      refine r_aload_n S dX8_between_34 0 rfl ?_
      refine r_iload_n S dX8_between_35 1 rfl ?_
      refine r_iload_n S dX8_between_36 2 rfl ?_
      obtain ⟨x4, h9, hE⟩ := b1_some hE
      refine rc_I S (rn_V S fc8 (by decide) (c_MD_gateAt _ _ (gYX S) a1 a2 M3 _ h9) wdX8_gateAt q_549 ⟨Nat.le_of_ble_eq_true rfl, Nat.le_of_ble_eq_true rfl⟩ rfl (Nat.le_of_ble_eq_true rfl) dX8_between_37) ?_
      obtain ⟨hi, hE⟩ := ck_some hE
      refine r_lald S (by decide) hi dX8_between_40 ?_
      refine r_l2i S dX8_between_41 ?_
      obtain ⟨rfl, rfl⟩ := si2 hE
      exact hret _ _ dX8_between_42
    · rw [if_neg c] at hE
      refine r_aload_n S dX8_between_21 0 rfl ?_
      refine r_iload_n S dX8_between_22 1 rfl ?_
      refine r_iload_n S dX8_between_23 2 rfl ?_
      obtain ⟨x5, h9, hE⟩ := b1_some hE
      refine rc_I S (rn_V S fc8 (by decide) (c_MD_threshold _ _ (gYX S) a1 a2 M3 _ h9) wdX8_threshold q_554 ⟨Nat.le_of_ble_eq_true rfl, Nat.le_of_ble_eq_true rfl⟩ rfl (Nat.le_of_ble_eq_true rfl) dX8_between_24) ?_
      refine r_goto S 42 dX8_between_27 (by decide) ?_
      obtain ⟨rfl, rfl⟩ := si2 hE
      exact hret _ _ dX8_between_42
  · rw [if_neg (not_not_intro c)] at hE
    refine r_iconst S (0 : Int32) dX8_between_15 rfl ?_
    obtain ⟨rfl, rfl⟩ := si2 hE
    exact hret _ _ dX8_between_16
set_option maxRecDepth 100000 in
set_option maxHeartbeats 4000000 in
theorem c_MD_seaCells (l : Launch) (Y : Env1) (hG : gY Y = gM) (M : Mem) (r : Int32) (hE : MD_seaCells M = some r) : CnI l Y yX8_seaCells cX8_seaCells 3 .int 1 [.ref (hY Y + 0)] M r M := by
  refine met_I (own := RX8) (by decide +kernel) rfl hG (Nat.le_of_ble_eq_true rfl) (fun X S hY1 hl1 hret => ?_)
  subst hY1
  subst hl1
  show AW X 0 [(0, .ref (hY X.2.1.2 + 0))] [] M
  have L4 : ∀ (e : (Int32)), AW X 42 [(1, .int e)] [] M → ∀ (n : Nat) (s : Int32 × Int32), lpR (fun s => MD_seaCells_L4 s.1 s.2 M) n s = some e → AW X 4 [(0, .ref (hY X.2.1.2 + 0)), (1, .int s.1), (2, .int s.2)] [] M := by
    intro e hX
    refine lpR_ind (P := fun (s : Int32 × Int32) => AW X 4 [(0, .ref (hY X.2.1.2 + 0)), (1, .int s.1), (2, .int s.2)] [] M) ?_
    rintro ⟨v1, v2⟩ d hE hC hD
    replace hE : MD_seaCells_L4 v1 v2 M = some d := hE
    show AW X 4 [(0, .ref (hY X.2.1.2 + 0)), (1, .int v1), (2, .int v2)] [] M
    unfold MD_seaCells_L4 at hE
    refine r_iload_n S dX8_seaCells_4 2 rfl ?_
    refine r_aload_n S dX8_seaCells_5 0 rfl ?_
    refine rc_I S (rn_V S fc8 (by decide) (c_MD_many _ _ (gYX S)  M _ rfl) wdX8_many q_525 ⟨Nat.le_of_ble_eq_true rfl, Nat.le_of_ble_eq_true rfl⟩ rfl (Nat.le_of_ble_eq_true rfl) dX8_seaCells_6) ?_
    refine r_icmp_ge S 42 dX8_seaCells_9 (by decide) (fun c => ?_) (fun c => ?_)
    · rw [if_pos c] at hE
      obtain rfl := si1 hE
      rcases hD with h1 | ⟨_, h1⟩
      · obtain rfl := sir h1
        exact r_sub [1] rfl hX
      · exact (sil h1).elim
    · rw [if_neg c] at hE
      refine r_iload_n S dX8_seaCells_12 1 rfl ?_
      refine r_aload_n S dX8_seaCells_13 0 rfl ?_
      refine r_getRK S fc8 (by decide) 0 1 rfl rfl q_523 dX8_seaCells_14 ?_
      refine r_bipush S (116 : Int32) dX8_seaCells_17 rfl ?_
      refine r_iload_n S dX8_seaCells_19 2 rfl ?_
      refine r_iadd S dX8_seaCells_20 ?_
      obtain ⟨hi, hE⟩ := ck_some hE
      refine r_lald S (by decide) hi dX8_seaCells_21 ?_
      refine r_ldc2 S (v := -1) q_589 dX8_seaCells_22 ?_
      refine r_lcmp_ne S 33 dX8_seaCells_25 dX8_seaCells_26 (by decide) (fun c => ?_) (fun c => ?_)
      · rw [if_pos c] at hE
        refine r_iconst S (0 : Int32) dX8_seaCells_33 rfl ?_
        refine r_iadd S dX8_seaCells_34 ?_
        refine r_istore_n (lv2 := [(1, .int (v1 + (0 : Int32))), (0, .ref (hY X.2.1.2 + 0)), (2, .int v2)]) S dX8_seaCells_35 (by decide) rfl ?_
        refine r_iinc (lv2 := [(2, .int (v2 + (1 : Int32))), (1, .int (v1 + (0 : Int32))), (0, .ref (hY X.2.1.2 + 0))]) S dX8_seaCells_36 (j := 2) rfl (by decide) rfl ?_
        refine r_goto S 4 dX8_seaCells_39 (by decide) ?_
        obtain rfl := si1 hE
        exact r_sub (lv2 := [(0, .ref (hY X.2.1.2 + 0)), (1, .int (v1 + (0 : Int32))), (2, .int (v2 + (1 : Int32)))]) [2, 1, 0] rfl (hC ((v1 + (0 : Int32)), (v2 + (1 : Int32))) rfl)
      · rw [if_neg (not_not_intro c)] at hE
        refine r_iconst S (1 : Int32) dX8_seaCells_29 rfl ?_
        refine r_goto S 34 dX8_seaCells_30 (by decide) ?_
        refine r_iadd S dX8_seaCells_34 ?_
        refine r_istore_n (lv2 := [(1, .int (v1 + (1 : Int32))), (0, .ref (hY X.2.1.2 + 0)), (2, .int v2)]) S dX8_seaCells_35 (by decide) rfl ?_
        refine r_iinc (lv2 := [(2, .int (v2 + (1 : Int32))), (1, .int (v1 + (1 : Int32))), (0, .ref (hY X.2.1.2 + 0))]) S dX8_seaCells_36 (j := 2) rfl (by decide) rfl ?_
        refine r_goto S 4 dX8_seaCells_39 (by decide) ?_
        obtain rfl := si1 hE
        exact r_sub (lv2 := [(0, .ref (hY X.2.1.2 + 0)), (1, .int (v1 + (1 : Int32))), (2, .int (v2 + (1 : Int32)))]) [2, 1, 0] rfl (hC ((v1 + (1 : Int32)), (v2 + (1 : Int32))) rfl)
  unfold MD_seaCells at hE
  refine r_iconst S (0 : Int32) dX8_seaCells_0 rfl ?_
  refine r_istore_n (lv2 := [(1, .int (0 : Int32)), (0, .ref (hY X.2.1.2 + 0))]) S dX8_seaCells_1 (by decide) rfl ?_
  refine r_iconst S (0 : Int32) dX8_seaCells_2 rfl ?_
  refine r_istore_n (lv2 := [(2, .int (0 : Int32)), (1, .int (0 : Int32)), (0, .ref (hY X.2.1.2 + 0))]) S dX8_seaCells_3 (by decide) rfl ?_
  obtain ⟨e1, h9, hE⟩ := b1_some hE
  refine r_sub [2, 1, 0] rfl (L4   e1 ?_ _ _  h9)
  refine r_iload_n S dX8_seaCells_42 0 rfl ?_
  obtain rfl := si1 hE
  exact hret _ _ dX8_seaCells_43
set_option maxRecDepth 100000 in
set_option maxHeartbeats 4000000 in
theorem c_MD_countOf (l : Launch) (Y : Env1) (hG : gY Y = gM) (a1 : Int32) (M : Mem) (r : Int32) (M1 : Mem) (hE : MD_countOf a1 M = some (r, M1)) : CnI l Y yX8_countOf cX8_countOf 4 .int 7 [.ref (hY Y + 0), .int a1] M r M1 := by
  refine met_I (own := RX8) (by decide +kernel) rfl hG (Nat.le_of_ble_eq_true rfl) (fun X S hY1 hl1 hret => ?_)
  subst hY1
  subst hl1
  show AW X 0 [(0, .ref (hY X.2.1.2 + 0)), (1, .int a1)] [] M
  have L88 : ∀ (e : (Int32)) (M2 : Mem), AW X 131 [(2, .int e)] [] M2 → ∀ (n : Nat) (s : Int32 × Int32) (M : Mem), lpM (fun s M => MD_countOf_L88 s.1 s.2 M) n s M = some (e, M2) → AW X 88 [(0, .ref (hY X.2.1.2 + 0)), (2, .int s.1), (3, .int s.2)] [] M := by
    intro e M2 hX
    refine lpM_ind (P := fun (s : Int32 × Int32) (M : Mem) => AW X 88 [(0, .ref (hY X.2.1.2 + 0)), (2, .int s.1), (3, .int s.2)] [] M) ?_
    rintro ⟨v2, v3⟩ M d M3 hE hC hD
    replace hE : MD_countOf_L88 v2 v3 M = some (d, M3) := hE
    show AW X 88 [(0, .ref (hY X.2.1.2 + 0)), (2, .int v2), (3, .int v3)] [] M
    unfold MD_countOf_L88 at hE
    refine r_iload_n S dX8_countOf_88 2 rfl ?_
    refine r_bipush S (72 : Int32) dX8_countOf_89 rfl ?_
    refine r_icmp_ge S 131 dX8_countOf_91 (by decide) (fun c => ?_) (fun c => ?_)
    · rw [if_pos c] at hE
      obtain ⟨rfl, rfl⟩ := si2 hE
      rcases hD with ⟨h1, h2⟩ | ⟨_, h1⟩
      · obtain rfl := sir h1
        subst h2
        exact r_sub [1] rfl hX
      · exact (sil h1).elim
    · rw [if_neg c] at hE
      refine r_iload_n S dX8_countOf_94 1 rfl ?_
      refine r_aload_n S dX8_countOf_95 0 rfl ?_
      refine r_getRK S fc8 (by decide) 0 1 rfl rfl q_523 dX8_countOf_96 ?_
      refine r_sipush S (440 : Int32) dX8_countOf_99 rfl ?_
      refine r_iload_n S dX8_countOf_102 2 rfl ?_
      refine r_iadd S dX8_countOf_103 ?_
      obtain ⟨hi, hE⟩ := ck_some hE
      refine r_lald S (by decide) hi dX8_countOf_104 ?_
      refine r_lconst S (1 : Int64) dX8_countOf_105 rfl ?_
      refine r_lcmp_ne S 122 dX8_countOf_106 dX8_countOf_107 (by decide) (fun c => ?_) (fun c => ?_)
      · rw [if_pos c] at hE
        refine r_iconst S (0 : Int32) dX8_countOf_122 rfl ?_
        refine r_iadd S dX8_countOf_123 ?_
        refine r_istore_n (lv2 := [(2, .int (v2 + (0 : Int32))), (0, .ref (hY X.2.1.2 + 0)), (3, .int v3)]) S dX8_countOf_124 (by decide) rfl ?_
        refine r_iinc (lv2 := [(3, .int (v3 + (1 : Int32))), (2, .int (v2 + (0 : Int32))), (0, .ref (hY X.2.1.2 + 0))]) S dX8_countOf_125 (j := 2) rfl (by decide) rfl ?_
        refine r_goto S 88 dX8_countOf_128 (by decide) ?_
        obtain ⟨rfl, rfl⟩ := si2 hE
        exact r_sub (lv2 := [(0, .ref (hY X.2.1.2 + 0)), (2, .int (v2 + (0 : Int32))), (3, .int (v3 + (1 : Int32)))]) [2, 1, 0] rfl (hC ((v2 + (0 : Int32)), (v3 + (1 : Int32))) rfl)
      · rw [if_neg (not_not_intro c)] at hE
        refine r_aload_n S dX8_countOf_110 0 rfl ?_
        refine r_iload_n S dX8_countOf_111 2 rfl ?_
        obtain ⟨x1, M2, h9, hE⟩ := b2_some hE
        refine rc_I S (rn_V S fc8 (by decide) (c_MD_isFull _ _ (gYX S) v3 M _ _ h9) wdX8_isFull q_617 ⟨Nat.le_of_ble_eq_true rfl, Nat.le_of_ble_eq_true rfl⟩ rfl (Nat.le_of_ble_eq_true rfl) dX8_countOf_112) ?_
        refine r_if_eq S 122 dX8_countOf_115 (by decide) (fun c => ?_) (fun c => ?_)
        · try simp only [if_pos c] at hE
          refine r_iconst S (0 : Int32) dX8_countOf_122 rfl ?_
          refine r_iadd S dX8_countOf_123 ?_
          refine r_istore_n (lv2 := [(2, .int (v2 + (0 : Int32))), (0, .ref (hY X.2.1.2 + 0)), (3, .int v3)]) S dX8_countOf_124 (by decide) rfl ?_
          refine r_iinc (lv2 := [(3, .int (v3 + (1 : Int32))), (2, .int (v2 + (0 : Int32))), (0, .ref (hY X.2.1.2 + 0))]) S dX8_countOf_125 (j := 2) rfl (by decide) rfl ?_
          refine r_goto S 88 dX8_countOf_128 (by decide) ?_
          obtain ⟨rfl, rfl⟩ := si2 hE
          exact r_sub (lv2 := [(0, .ref (hY X.2.1.2 + 0)), (2, .int (v2 + (0 : Int32))), (3, .int (v3 + (1 : Int32)))]) [2, 1, 0] rfl (hC ((v2 + (0 : Int32)), (v3 + (1 : Int32))) rfl)
        · try simp only [if_neg c] at hE
          refine r_iconst S (1 : Int32) dX8_countOf_118 rfl ?_
          refine r_goto S 123 dX8_countOf_119 (by decide) ?_
          refine r_iadd S dX8_countOf_123 ?_
          refine r_istore_n (lv2 := [(2, .int (v2 + (1 : Int32))), (0, .ref (hY X.2.1.2 + 0)), (3, .int v3)]) S dX8_countOf_124 (by decide) rfl ?_
          refine r_iinc (lv2 := [(3, .int (v3 + (1 : Int32))), (2, .int (v2 + (1 : Int32))), (0, .ref (hY X.2.1.2 + 0))]) S dX8_countOf_125 (j := 2) rfl (by decide) rfl ?_
          refine r_goto S 88 dX8_countOf_128 (by decide) ?_
          obtain ⟨rfl, rfl⟩ := si2 hE
          exact r_sub (lv2 := [(0, .ref (hY X.2.1.2 + 0)), (2, .int (v2 + (1 : Int32))), (3, .int (v3 + (1 : Int32)))]) [2, 1, 0] rfl (hC ((v2 + (1 : Int32)), (v3 + (1 : Int32))) rfl)
  unfold MD_countOf at hE
  refine r_iload_n S dX8_countOf_0 1 rfl ?_
  by_cases c0 : a1 = (0 : Int32)
  · rw [if_pos c0] at hE
    refine r_tin S 40 (0 : Int32) c0 dX8_countOf_1 (by decide) (by decide) rfl (by decide) ?_
    refine r_aload_n S dX8_countOf_40 0 rfl ?_
    refine r_getRK S fc8 (by decide) 0 1 rfl rfl q_523 dX8_countOf_41 ?_
    refine r_iconst S (0 : Int32) dX8_countOf_44 rfl ?_
    refine r_laldK S 0 rfl (by decide) (by decide) dX8_countOf_45 ?_
    refine r_l2i S dX8_countOf_46 ?_
    obtain ⟨rfl, rfl⟩ := si2 hE
    exact hret _ _ dX8_countOf_47
  · rw [if_neg c0] at hE
    by_cases c1 : a1 = (1 : Int32)
    · rw [if_pos c1] at hE
      refine r_tin S 48 (1 : Int32) c1 dX8_countOf_1 (by decide) (by decide) rfl (by decide) ?_
      refine r_aload_n S dX8_countOf_48 0 rfl ?_
      refine r_getRK S fc8 (by decide) 0 1 rfl rfl q_523 dX8_countOf_49 ?_
      refine r_iconst S (1 : Int32) dX8_countOf_52 rfl ?_
      refine r_laldK S 1 rfl (by decide) (by decide) dX8_countOf_53 ?_
      refine r_l2i S dX8_countOf_54 ?_
      obtain ⟨rfl, rfl⟩ := si2 hE
      exact hret _ _ dX8_countOf_55
    · rw [if_neg c1] at hE
      by_cases c2 : a1 = (2 : Int32)
      · rw [if_pos c2] at hE
        refine r_tin S 56 (2 : Int32) c2 dX8_countOf_1 (by decide) (by decide) rfl (by decide) ?_
        refine r_aload_n S dX8_countOf_56 0 rfl ?_
        refine r_getRK S fc8 (by decide) 0 1 rfl rfl q_523 dX8_countOf_57 ?_
        refine r_bipush S (6 : Int32) dX8_countOf_60 rfl ?_
        refine r_laldK S 6 rfl (by decide) (by decide) dX8_countOf_62 ?_
        refine r_l2i S dX8_countOf_63 ?_
        obtain ⟨rfl, rfl⟩ := si2 hE
        exact hret _ _ dX8_countOf_64
      · rw [if_neg c2] at hE
        by_cases c3 : a1 = (3 : Int32)
        · rw [if_pos c3] at hE
          refine r_tin S 65 (3 : Int32) c3 dX8_countOf_1 (by decide) (by decide) rfl (by decide) ?_
          refine r_aload_n S dX8_countOf_65 0 rfl ?_
          obtain ⟨x1, M2, h9, hE⟩ := b2_some hE
          refine rc_V S (rn_V S fc8 (by decide) (c_MD_orders _ _ (gYX S)  M _ _ h9) wdX8_orders q_641 ⟨Nat.le_of_ble_eq_true rfl, Nat.le_of_ble_eq_true rfl⟩ rfl (Nat.le_of_ble_eq_true rfl) dX8_countOf_66) ?_
          refine r_aload_n S dX8_countOf_69 0 rfl ?_
          refine r_getI S fc8 (by decide) 12 rfl q_639 dX8_countOf_70 ?_
          obtain ⟨rfl, rfl⟩ := si2 hE
          exact hret _ _ dX8_countOf_73
        · rw [if_neg c3] at hE
          by_cases c4 : a1 = (4 : Int32)
          · rw [if_pos c4] at hE
            refine r_tin S 74 (4 : Int32) c4 dX8_countOf_1 (by decide) (by decide) rfl (by decide) ?_
            refine r_aload_n S dX8_countOf_74 0 rfl ?_
            obtain ⟨x3, M4, h9, hE⟩ := b2_some hE
            refine rc_I S (rn_V S fc8 (by decide) (c_MD_wet _ _ (gYX S)  M _ _ h9) wdX8_wet q_729 ⟨Nat.le_of_ble_eq_true rfl, Nat.le_of_ble_eq_true rfl⟩ rfl (Nat.le_of_ble_eq_true rfl) dX8_countOf_75) ?_
            obtain ⟨rfl, rfl⟩ := si2 hE
            exact hret _ _ dX8_countOf_78
          · rw [if_neg c4] at hE
            by_cases c5 : a1 = (5 : Int32)
            · rw [if_pos c5] at hE
              refine r_tin S 79 (5 : Int32) c5 dX8_countOf_1 (by decide) (by decide) rfl (by decide) ?_
              refine r_aload_n S dX8_countOf_79 0 rfl ?_
              obtain ⟨x5, h9, hE⟩ := b1_some hE
              refine rc_I S (rn_V S fc8 (by decide) (c_MD_seaCells _ _ (gYX S)  M _ h9) wdX8_seaCells q_724 ⟨Nat.le_of_ble_eq_true rfl, Nat.le_of_ble_eq_true rfl⟩ rfl (Nat.le_of_ble_eq_true rfl) dX8_countOf_80) ?_
              obtain ⟨rfl, rfl⟩ := si2 hE
              exact hret _ _ dX8_countOf_83
            · rw [if_neg c5] at hE
              have e0 : (a1).toInt ≠ 0 := fun h => c0 (Int32.toInt_inj.mp h)
              have e1 : (a1).toInt ≠ 1 := fun h => c1 (Int32.toInt_inj.mp h)
              have e2 : (a1).toInt ≠ 2 := fun h => c2 (Int32.toInt_inj.mp h)
              have e3 : (a1).toInt ≠ 3 := fun h => c3 (Int32.toInt_inj.mp h)
              have e4 : (a1).toInt ≠ 4 := fun h => c4 (Int32.toInt_inj.mp h)
              have e5 : (a1).toInt ≠ 5 := fun h => c5 (Int32.toInt_inj.mp h)
              refine r_tout S 84 dX8_countOf_1 (by omega) (by decide) ?_
              refine r_iconst S (0 : Int32) dX8_countOf_84 rfl ?_
              refine r_istore_n (lv2 := [(2, .int (0 : Int32)), (0, .ref (hY X.2.1.2 + 0)), (1, .int a1)]) S dX8_countOf_85 (by decide) rfl ?_
              refine r_iconst S (0 : Int32) dX8_countOf_86 rfl ?_
              refine r_istore_n (lv2 := [(3, .int (0 : Int32)), (2, .int (0 : Int32)), (0, .ref (hY X.2.1.2 + 0)), (1, .int a1)]) S dX8_countOf_87 (by decide) rfl ?_
              obtain ⟨e6, M7, h9, hE⟩ := b2_some hE
              refine r_sub [2, 1, 0] rfl (L88   e6 M7 ?_ _ _ M h9)
              refine r_iload_n S dX8_countOf_131 0 rfl ?_
              obtain ⟨rfl, rfl⟩ := si2 hE
              exact hret _ _ dX8_countOf_132
set_option maxRecDepth 100000 in
set_option maxHeartbeats 4000000 in
theorem c_MD_count (l : Launch) (Y : Env1) (hG : gY Y = gM) (a1 : Int32) (M : Mem) (r : Int32) (M1 : Mem) (hE : MD_count a1 M = some (r, M1)) : CnI l Y yX8_count cX8_count 2 .int 8 [.ref (hY Y + 0), .int a1] M r M1 := by
  refine met_I (own := RX8) (by decide +kernel) rfl hG (Nat.le_of_ble_eq_true rfl) (fun X S hY1 hl1 hret => ?_)
  subst hY1
  subst hl1
  show AW X 0 [(0, .ref (hY X.2.1.2 + 0)), (1, .int a1)] [] M
  unfold MD_count at hE
  refine r_aload_n S dX8_count_0 0 rfl ?_
  refine r_iload_n S dX8_count_1 1 rfl ?_
  refine r_i2l S dX8_count_2 ?_
  refine r_lconst S (0 : Int64) dX8_count_3 rfl ?_
  refine r_ldc2 S (v := 6) q_676 dX8_count_4 ?_
  refine rc_I S (rn_S S (c_MD_in _ _ (gYX S) a1.toInt64 (0 : Int64) (6 : Int64) M _ rfl) wdX8_in q_530 ⟨Nat.le_of_ble_eq_true rfl, Nat.le_of_ble_eq_true rfl⟩ rfl (Nat.le_of_ble_eq_true rfl) dX8_count_7) ?_
  refine r_iconst S (1 : Int32) dX8_count_10 rfl ?_
  refine r_iconst S (1 : Int32) dX8_count_11 rfl ?_
  obtain ⟨x1, M2, h9, hE⟩ := b2_some hE
  refine rc_I S (rn_V S fc8 (by decide) (c_MD_goes _ _ (gYX S) (MD_in a1.toInt64 (0 : Int64) (6 : Int64)) (1 : Int32) (1 : Int32) M _ _ h9) wdX8_goes q_677 ⟨Nat.le_of_ble_eq_true rfl, Nat.le_of_ble_eq_true rfl⟩ rfl (Nat.le_of_ble_eq_true rfl) dX8_count_12) ?_
  refine r_if_eq S 26 dX8_count_15 (by decide) (fun c => ?_) (fun c => ?_)
  · rw [if_pos c] at hE
    refine r_iconst S (0 : Int32) dX8_count_26 rfl ?_
    obtain ⟨rfl, rfl⟩ := si2 hE
    exact hret _ _ dX8_count_27
  · rw [if_neg c] at hE
    refine r_aload_n S dX8_count_18 0 rfl ?_
    refine r_iload_n S dX8_count_19 1 rfl ?_
    obtain ⟨x3, M4, h9, hE⟩ := b2_some hE
    refine rc_I S (rn_V S fc8 (by decide) (c_MD_countOf _ _ (gYX S) a1 M2 _ _ h9) wdX8_countOf q_734 ⟨Nat.le_of_ble_eq_true rfl, Nat.le_of_ble_eq_true rfl⟩ rfl (Nat.le_of_ble_eq_true rfl) dX8_count_20) ?_
    refine r_goto S 27 dX8_count_23 (by decide) ?_
    obtain ⟨rfl, rfl⟩ := si2 hE
    exact hret _ _ dX8_count_27
