set_option maxRecDepth 100000 in
set_option maxHeartbeats 4000000 in
theorem c_LL_count (l : Launch) (hfl : l.stackTraces = false) (Y : Env1) (hG : gY Y = gC) (a1 : Int32) (M : Mem) (res : Int32 ⊕ Nat) (M1 : Mem) (hE : LL_count a1 M = some (res, M1)) : TnI l Y yX7_count cX7_count 2 .int 7 1 6 [.ref (hY Y + 0), .int a1] M res M1 := by
  refine mtx_I (own := RX7) hfl (by decide +kernel) rfl hG (Nat.le_of_ble_eq_true rfl) (fun X hS hT hY1 hl1 hret => ?_)
  subst hY1
  subst hl1
  have S0 := hS 0 0 (by decide) (by decide)
  have T0 := hT 0 0
  have S1 := hS 1 6 (by decide) (by decide)
  have T1 := hT 1 6
  show AW (setX X 0 0) 0 [(0, .ref (hY X.2.1.2 + 0)), (1, .int a1)] [] M
  unfold LL_count at hE
  refine r_iload_n S0 dX7_count_0 1 rfl ?_
  refine r_iconst S0 (0 : Int32) dX7_count_1 rfl ?_
  refine r_bipush S0 (6 : Int32) dX7_count_2 rfl ?_
  obtain ⟨x1, M2, h9, hp, hE⟩ := bx_some hE
  refine xc_V S0 T0 1 6 rfl rfl (by decide) (by decide) (xn_S S0 T0.2.2.2.1 T0.2.2.2.2.2.1 (c_LL_needWithin _ hfl _ (gYX S0) a1 (0 : Int32) (6 : Int32) M _ _ h9) wdX7_needWithin q_981 ⟨Nat.le_of_ble_eq_true rfl, Nat.le_of_ble_eq_true rfl⟩ ⟨Nat.le_trans (Nat.le_of_ble_eq_true rfl) T0.2.2.2.2.2.2.1, Nat.le_trans (Nat.le_of_ble_eq_true rfl) T0.2.2.2.2.2.2.2⟩ rfl (Nat.le_of_ble_eq_true rfl) dX7_count_4) hp (fun hr => ?_)
  replace hE := hE () hr
  refine r_aload_n S1 dX7_count_7 0 rfl ?_
  refine r_iload_n S1 dX7_count_8 1 rfl ?_
  obtain ⟨x3, h9, hE⟩ := b1_some hE
  refine rc_I S1 (rn_V S1 fc7 (by decide) (c_LL_countValue _ _ (gYX S1) a1 M2 _ h9) wdX7_countValue q_494 ⟨Nat.le_of_ble_eq_true rfl, Nat.le_of_ble_eq_true rfl⟩ rfl (Nat.le_of_ble_eq_true rfl) dX7_count_9) ?_
  obtain ⟨rfl, rfl⟩ := si2 hE
  exact hret 1 6 _ _ _ (by decide) (by decide) dX7_count_12 rfl
set_option maxRecDepth 100000 in
set_option maxHeartbeats 4000000 in
theorem c_LL_pour (l : Launch) (hfl : l.stackTraces = false) (Y : Env1) (hG : gY Y = gC) (a1 : Int32) (a2 : Int32) (M : Mem) (res : Int32 ⊕ Nat) (M1 : Mem) (hE : LL_pour a1 a2 M = some (res, M1)) : TnI l Y yX7_pour cX7_pour 3 .int 7 3 18 [.ref (hY Y + 0), .int a1, .int a2] M res M1 := by
  refine mtx_I (own := RX7) hfl (by decide +kernel) rfl hG (Nat.le_of_ble_eq_true rfl) (fun X hS hT hY1 hl1 hret => ?_)
  subst hY1
  subst hl1
  have S0 := hS 0 0 (by decide) (by decide)
  have T0 := hT 0 0
  have S1 := hS 1 6 (by decide) (by decide)
  have T1 := hT 1 6
  have S2 := hS 2 12 (by decide) (by decide)
  have T2 := hT 2 12
  have S3 := hS 3 18 (by decide) (by decide)
  have T3 := hT 3 18
  show AW (setX X 0 0) 0 [(0, .ref (hY X.2.1.2 + 0)), (1, .int a1), (2, .int a2)] [] M
  unfold LL_pour at hE
  refine r_aload_n S0 dX7_pour_0 0 rfl ?_
  refine r_iload_n S0 dX7_pour_1 1 rfl ?_
  obtain ⟨x1, M2, h9, hp, hE⟩ := bx_some hE
  refine xc_V S0 T0 1 6 rfl rfl (by decide) (by decide) (xn_V S0 T0.2.2.2.1 T0.2.2.2.2.2.1 fc7 (by decide) (c_LL_needCell _ hfl _ (gYX S0) a1 M _ _ h9) wdX7_needCell q_986 ⟨Nat.le_of_ble_eq_true rfl, Nat.le_of_ble_eq_true rfl⟩ ⟨Nat.le_trans (Nat.le_of_ble_eq_true rfl) T0.2.2.2.2.2.2.1, Nat.le_trans (Nat.le_of_ble_eq_true rfl) T0.2.2.2.2.2.2.2⟩ rfl (Nat.le_of_ble_eq_true rfl) dX7_pour_2) hp (fun hr => ?_)
  replace hE := hE () hr
  refine r_iload_n S1 dX7_pour_5 2 rfl ?_
  refine r_iconst S1 (0 : Int32) dX7_pour_6 rfl ?_
  refine r_ldc S1 (v := 100000) q_1016 dX7_pour_7 ?_
  obtain ⟨x3, M4, h9, hp, hE⟩ := bx_some hE
  refine xc_V S1 T1 2 12 rfl rfl (by decide) (by decide) (xn_S S1 T1.2.2.2.1 T1.2.2.2.2.2.1 (c_LL_needWithin _ hfl _ (gYX S1) a2 (0 : Int32) (100000 : Int32) M2 _ _ h9) wdX7_needWithin q_981 ⟨Nat.le_of_ble_eq_true rfl, Nat.le_of_ble_eq_true rfl⟩ ⟨Nat.le_trans (Nat.le_of_ble_eq_true rfl) T1.2.2.2.2.2.2.1, Nat.le_trans (Nat.le_of_ble_eq_true rfl) T1.2.2.2.2.2.2.2⟩ rfl (Nat.le_of_ble_eq_true rfl) dX7_pour_9) hp (fun hr => ?_)
  replace hE := hE () hr
  refine r_aload_n S2 dX7_pour_12 0 rfl ?_
  refine r_iload_n S2 dX7_pour_13 2 rfl ?_
  obtain ⟨x5, M6, h9, hp, hE⟩ := bx_some hE
  refine xc_V S2 T2 3 18 rfl rfl (by decide) (by decide) (xn_V S2 T2.2.2.2.1 T2.2.2.2.2.2.1 fc7 (by decide) (c_LL_needRoom _ hfl _ (gYX S2) a2 M4 _ _ h9) wdX7_needRoom q_1017 ⟨Nat.le_of_ble_eq_true rfl, Nat.le_of_ble_eq_true rfl⟩ ⟨Nat.le_trans (Nat.le_of_ble_eq_true rfl) T2.2.2.2.2.2.2.1, Nat.le_trans (Nat.le_of_ble_eq_true rfl) T2.2.2.2.2.2.2.2⟩ rfl (Nat.le_of_ble_eq_true rfl) dX7_pour_14) hp (fun hr => ?_)
  replace hE := hE () hr
  refine r_aload_n S3 dX7_pour_17 0 rfl ?_
  obtain ⟨x7, M8, h9, hE⟩ := b2_some hE
  refine rc_V S3 (rn_V S3 fc7 (by decide) (c_LL_save _ _ (gYX S3)  M6 _ _ h9) wdX7_save q_405 ⟨Nat.le_of_ble_eq_true rfl, Nat.le_of_ble_eq_true rfl⟩ rfl (Nat.le_of_ble_eq_true rfl) dX7_pour_18) ?_
  refine r_aload_n S3 dX7_pour_21 0 rfl ?_
  refine r_getRK S3 fc7 (by decide) 0 1 rfl rfl q_50 dX7_pour_22 ?_
  refine r_dup S3 dX7_pour_25 rfl ?_
  refine r_getLN S3 fc6 (by decide) 3 rfl q_492 dX7_pour_26 ?_
  refine r_iload_n S3 dX7_pour_29 2 rfl ?_
  refine r_i2l S3 dX7_pour_30 ?_
  refine r_ladd S3 dX7_pour_31 ?_
  refine r_putLN S3 fc6 (by decide) 3 rfl rfl (by decide +kernel) q_492 dX7_pour_32 ?_
  refine r_aload_n S3 dX7_pour_35 0 rfl ?_
  refine r_getRK S3 fc7 (by decide) 0 1 rfl rfl q_50 dX7_pour_36 ?_
  refine r_iload_n S3 dX7_pour_39 1 rfl ?_
  refine r_iload_n S3 dX7_pour_40 2 rfl ?_
  obtain ⟨x9, M10, h9, hE⟩ := b2_some hE
  refine rc_I S3 (rn_V S3 fc6 (by decide) (c_WD_pourAt _ _ (gYX S3) 1 (by decide) a1 a2 (sL M8 1 3 ((gL M8 1 3) + a2.toInt64)) _ _ h9) wdX6_pourAt q_519 ⟨Nat.le_of_ble_eq_true rfl, Nat.le_of_ble_eq_true rfl⟩ rfl (Nat.le_of_ble_eq_true rfl) dX7_pour_41) ?_
  obtain ⟨rfl, rfl⟩ := si2 hE
  exact hret 3 18 _ _ _ (by decide) (by decide) dX7_pour_44 rfl
set_option maxRecDepth 100000 in
set_option maxHeartbeats 4000000 in
theorem c_LL_rain (l : Launch) (hfl : l.stackTraces = false) (Y : Env1) (hG : gY Y = gC) (a1 : Int32) (M : Mem) (res : Int32 ⊕ Nat) (M1 : Mem) (hE : LL_rain a1 M = some (res, M1)) : TnI l Y yX7_rain cX7_rain 2 .int 7 2 12 [.ref (hY Y + 0), .int a1] M res M1 := by
  refine mtx_I (own := RX7) hfl (by decide +kernel) rfl hG (Nat.le_of_ble_eq_true rfl) (fun X hS hT hY1 hl1 hret => ?_)
  subst hY1
  subst hl1
  have S0 := hS 0 0 (by decide) (by decide)
  have T0 := hT 0 0
  have S1 := hS 1 6 (by decide) (by decide)
  have T1 := hT 1 6
  have S2 := hS 2 12 (by decide) (by decide)
  have T2 := hT 2 12
  show AW (setX X 0 0) 0 [(0, .ref (hY X.2.1.2 + 0)), (1, .int a1)] [] M
  unfold LL_rain at hE
  refine r_iload_n S0 dX7_rain_0 1 rfl ?_
  refine r_iconst S0 (0 : Int32) dX7_rain_1 rfl ?_
  refine r_sipush S0 (1000 : Int32) dX7_rain_2 rfl ?_
  obtain ⟨x1, M2, h9, hp, hE⟩ := bx_some hE
  refine xc_V S0 T0 1 6 rfl rfl (by decide) (by decide) (xn_S S0 T0.2.2.2.1 T0.2.2.2.2.2.1 (c_LL_needWithin _ hfl _ (gYX S0) a1 (0 : Int32) (1000 : Int32) M _ _ h9) wdX7_needWithin q_981 ⟨Nat.le_of_ble_eq_true rfl, Nat.le_of_ble_eq_true rfl⟩ ⟨Nat.le_trans (Nat.le_of_ble_eq_true rfl) T0.2.2.2.2.2.2.1, Nat.le_trans (Nat.le_of_ble_eq_true rfl) T0.2.2.2.2.2.2.2⟩ rfl (Nat.le_of_ble_eq_true rfl) dX7_rain_5) hp (fun hr => ?_)
  replace hE := hE () hr
  refine r_aload_n S1 dX7_rain_8 0 rfl ?_
  refine r_iload_n S1 dX7_rain_9 1 rfl ?_
  refine r_aload_n S1 dX7_rain_10 0 rfl ?_
  refine r_getRK S1 fc7 (by decide) 0 1 rfl rfl q_50 dX7_rain_11 ?_
  refine r_getRKN S1 fc6 (by decide) 0 2 rfl rfl q_54 dX7_rain_14 ?_
  refine r_getIN S1 fc0 (by decide) 2 rfl q_80 dX7_rain_17 ?_
  refine r_imul S1 dX7_rain_20 ?_
  obtain ⟨x3, M4, h9, hp, hE⟩ := bx_some hE
  refine xc_V S1 T1 2 12 rfl rfl (by decide) (by decide) (xn_V S1 T1.2.2.2.1 T1.2.2.2.2.2.1 fc7 (by decide) (c_LL_needRoom _ hfl _ (gYX S1) (a1 * (gI M2 2 2)) M2 _ _ h9) wdX7_needRoom q_1017 ⟨Nat.le_of_ble_eq_true rfl, Nat.le_of_ble_eq_true rfl⟩ ⟨Nat.le_trans (Nat.le_of_ble_eq_true rfl) T1.2.2.2.2.2.2.1, Nat.le_trans (Nat.le_of_ble_eq_true rfl) T1.2.2.2.2.2.2.2⟩ rfl (Nat.le_of_ble_eq_true rfl) dX7_rain_21) hp (fun hr => ?_)
  replace hE := hE () hr
  refine r_aload_n S2 dX7_rain_24 0 rfl ?_
  obtain ⟨x5, M6, h9, hE⟩ := b2_some hE
  refine rc_V S2 (rn_V S2 fc7 (by decide) (c_LL_save _ _ (gYX S2)  M4 _ _ h9) wdX7_save q_405 ⟨Nat.le_of_ble_eq_true rfl, Nat.le_of_ble_eq_true rfl⟩ rfl (Nat.le_of_ble_eq_true rfl) dX7_rain_25) ?_
  refine r_aload_n S2 dX7_rain_28 0 rfl ?_
  refine r_getRK S2 fc7 (by decide) 0 1 rfl rfl q_50 dX7_rain_29 ?_
  refine r_dup S2 dX7_rain_32 rfl ?_
  refine r_getLN S2 fc6 (by decide) 3 rfl q_492 dX7_rain_33 ?_
  refine r_iload_n S2 dX7_rain_36 1 rfl ?_
  refine r_aload_n S2 dX7_rain_37 0 rfl ?_
  refine r_getRK S2 fc7 (by decide) 0 1 rfl rfl q_50 dX7_rain_38 ?_
  refine r_getRKN S2 fc6 (by decide) 0 2 rfl rfl q_54 dX7_rain_41 ?_
  refine r_getIN S2 fc0 (by decide) 2 rfl q_80 dX7_rain_44 ?_
  refine r_imul S2 dX7_rain_47 ?_
  refine r_i2l S2 dX7_rain_48 ?_
  refine r_ladd S2 dX7_rain_49 ?_
  refine r_putLN S2 fc6 (by decide) 3 rfl rfl (by decide +kernel) q_492 dX7_rain_50 ?_
  refine r_aload_n S2 dX7_rain_53 0 rfl ?_
  refine r_getRK S2 fc7 (by decide) 0 1 rfl rfl q_50 dX7_rain_54 ?_
  refine r_iload_n S2 dX7_rain_57 1 rfl ?_
  obtain ⟨x7, M8, h9, hE⟩ := b2_some hE
  refine rc_I S2 (rn_V S2 fc6 (by decide) (c_WD_pourAtAll _ _ (gYX S2) 1 (by decide) a1 (sL M6 1 3 ((gL M6 1 3) + ((a1 * (gI M6 2 2)).toInt64))) _ _ h9) wdX6_pourAtAll q_220 ⟨Nat.le_of_ble_eq_true rfl, Nat.le_of_ble_eq_true rfl⟩ rfl (Nat.le_of_ble_eq_true rfl) dX7_rain_58) ?_
  obtain ⟨rfl, rfl⟩ := si2 hE
  exact hret 2 12 _ _ _ (by decide) (by decide) dX7_rain_61 rfl
set_option maxRecDepth 100000 in
set_option maxHeartbeats 4000000 in
theorem c_LL_evaporate (l : Launch) (hfl : l.stackTraces = false) (Y : Env1) (hG : gY Y = gC) (a1 : Int32) (M : Mem) (res : Int32 ⊕ Nat) (M1 : Mem) (hE : LL_evaporate a1 M = some (res, M1)) : TnI l Y yX7_evaporate cX7_evaporate 2 .int 7 1 6 [.ref (hY Y + 0), .int a1] M res M1 := by
  refine mtx_I (own := RX7) hfl (by decide +kernel) rfl hG (Nat.le_of_ble_eq_true rfl) (fun X hS hT hY1 hl1 hret => ?_)
  subst hY1
  subst hl1
  have S0 := hS 0 0 (by decide) (by decide)
  have T0 := hT 0 0
  have S1 := hS 1 6 (by decide) (by decide)
  have T1 := hT 1 6
  show AW (setX X 0 0) 0 [(0, .ref (hY X.2.1.2 + 0)), (1, .int a1)] [] M
  unfold LL_evaporate at hE
  refine r_iload_n S0 dX7_evaporate_0 1 rfl ?_
  refine r_iconst S0 (0 : Int32) dX7_evaporate_1 rfl ?_
  refine r_bipush S0 (100 : Int32) dX7_evaporate_2 rfl ?_
  obtain ⟨x1, M2, h9, hp, hE⟩ := bx_some hE
  refine xc_V S0 T0 1 6 rfl rfl (by decide) (by decide) (xn_S S0 T0.2.2.2.1 T0.2.2.2.2.2.1 (c_LL_needWithin _ hfl _ (gYX S0) a1 (0 : Int32) (100 : Int32) M _ _ h9) wdX7_needWithin q_981 ⟨Nat.le_of_ble_eq_true rfl, Nat.le_of_ble_eq_true rfl⟩ ⟨Nat.le_trans (Nat.le_of_ble_eq_true rfl) T0.2.2.2.2.2.2.1, Nat.le_trans (Nat.le_of_ble_eq_true rfl) T0.2.2.2.2.2.2.2⟩ rfl (Nat.le_of_ble_eq_true rfl) dX7_evaporate_4) hp (fun hr => ?_)
  replace hE := hE () hr
  refine r_aload_n S1 dX7_evaporate_7 0 rfl ?_
  obtain ⟨x3, M4, h9, hE⟩ := b2_some hE
  refine rc_V S1 (rn_V S1 fc7 (by decide) (c_LL_save _ _ (gYX S1)  M2 _ _ h9) wdX7_save q_405 ⟨Nat.le_of_ble_eq_true rfl, Nat.le_of_ble_eq_true rfl⟩ rfl (Nat.le_of_ble_eq_true rfl) dX7_evaporate_8) ?_
  refine r_aload_n S1 dX7_evaporate_11 0 rfl ?_
  refine r_getRK S1 fc7 (by decide) 0 1 rfl rfl q_50 dX7_evaporate_12 ?_
  refine r_iload_n S1 dX7_evaporate_15 1 rfl ?_
  obtain ⟨x5, M6, h9, hE⟩ := b2_some hE
  refine rc_I S1 (rn_V S1 fc6 (by decide) (c_WD_dry _ _ (gYX S1) 1 (by decide) a1 M4 _ _ h9) wdX6_dry q_1022 ⟨Nat.le_of_ble_eq_true rfl, Nat.le_of_ble_eq_true rfl⟩ rfl (Nat.le_of_ble_eq_true rfl) dX7_evaporate_16) ?_
  obtain ⟨rfl, rfl⟩ := si2 hE
  exact hret 1 6 _ _ _ (by decide) (by decide) dX7_evaporate_19 rfl
set_option maxRecDepth 100000 in
set_option maxHeartbeats 4000000 in
theorem c_LL_take (l : Launch) (hfl : l.stackTraces = false) (Y : Env1) (hG : gY Y = gC) (a1 : Int32) (a2 : Int32) (M : Mem) (res : Int32 ⊕ Nat) (M1 : Mem) (hE : LL_take a1 a2 M = some (res, M1)) : TnI l Y yX7_take cX7_take 4 .int 7 2 12 [.ref (hY Y + 0), .int a1, .int a2] M res M1 := by
  refine mtx_I (own := RX7) hfl (by decide +kernel) rfl hG (Nat.le_of_ble_eq_true rfl) (fun X hS hT hY1 hl1 hret => ?_)
  subst hY1
  subst hl1
  have S0 := hS 0 0 (by decide) (by decide)
  have T0 := hT 0 0
  have S1 := hS 1 6 (by decide) (by decide)
  have T1 := hT 1 6
  have S2 := hS 2 12 (by decide) (by decide)
  have T2 := hT 2 12
  show AW (setX X 0 0) 0 [(0, .ref (hY X.2.1.2 + 0)), (1, .int a1), (2, .int a2)] [] M
  unfold LL_take at hE
  refine r_aload_n S0 dX7_take_0 0 rfl ?_
  refine r_iload_n S0 dX7_take_1 1 rfl ?_
  obtain ⟨x1, M2, h9, hp, hE⟩ := bx_some hE
  refine xc_I S0 T0 1 6 rfl rfl (by decide) (by decide) (xn_V S0 T0.2.2.2.1 T0.2.2.2.2.2.1 fc7 (by decide) (c_LL_needLake _ hfl _ (gYX S0) a1 M _ _ h9) wdX7_needLake q_1027 ⟨Nat.le_of_ble_eq_true rfl, Nat.le_of_ble_eq_true rfl⟩ ⟨Nat.le_trans (Nat.le_of_ble_eq_true rfl) T0.2.2.2.2.2.2.1, Nat.le_trans (Nat.le_of_ble_eq_true rfl) T0.2.2.2.2.2.2.2⟩ rfl (Nat.le_of_ble_eq_true rfl) dX7_take_2) hp (fun x3 hr => ?_)
  replace hE := hE _ hr
  refine r_istore_n (lv2 := [(3, .int x3), (0, .ref (hY X.2.1.2 + 0)), (1, .int a1), (2, .int a2)]) S1 dX7_take_5 (by decide) rfl ?_
  refine r_iload_n S1 dX7_take_6 3 rfl ?_
  refine r_iconst S1 (0 : Int32) dX7_take_7 rfl ?_
  refine r_aload_n S1 dX7_take_8 1 rfl ?_
  refine r_getRK S1 fc7 (by decide) 0 1 rfl rfl q_50 dX7_take_9 ?_
  refine r_getRKN S1 fc6 (by decide) 2 20 rfl rfl q_51 dX7_take_12 ?_
  refine r_getRKN S1 fc1 (by decide) 1 23 rfl rfl q_65 dX7_take_15 ?_
  refine r_iload_n S1 dX7_take_18 0 rfl ?_
  refine rc_I S1 (rn_V S1 fc3 (by decide) (c_NR_at _ _ (gYX S1) 23 (by decide) x3 M2 _ rfl) wdX3_at q_53 ⟨Nat.le_of_ble_eq_true rfl, Nat.le_of_ble_eq_true rfl⟩ rfl (Nat.le_of_ble_eq_true rfl) dX7_take_19) ?_
  obtain ⟨x4, M5, h9, hp, hE⟩ := bx_some hE
  refine xc_V S1 T1 2 12 rfl rfl (by decide) (by decide) (xn_S S1 T1.2.2.2.1 T1.2.2.2.2.2.1 (c_LL_needWithin _ hfl _ (gYX S1) a2 (0 : Int32) (fAtI 23 x3 M2) M2 _ _ h9) wdX7_needWithin q_981 ⟨Nat.le_of_ble_eq_true rfl, Nat.le_of_ble_eq_true rfl⟩ ⟨Nat.le_trans (Nat.le_of_ble_eq_true rfl) T1.2.2.2.2.2.2.1, Nat.le_trans (Nat.le_of_ble_eq_true rfl) T1.2.2.2.2.2.2.2⟩ rfl (Nat.le_of_ble_eq_true rfl) dX7_take_22) hp (fun hr => ?_)
  replace hE := hE () hr
  refine r_aload_n S2 dX7_take_25 1 rfl ?_
  obtain ⟨x6, M7, h9, hE⟩ := b2_some hE
  refine rc_V S2 (rn_V S2 fc7 (by decide) (c_LL_save _ _ (gYX S2)  M5 _ _ h9) wdX7_save q_405 ⟨Nat.le_of_ble_eq_true rfl, Nat.le_of_ble_eq_true rfl⟩ rfl (Nat.le_of_ble_eq_true rfl) dX7_take_26) ?_
  refine r_aload_n S2 dX7_take_29 1 rfl ?_
  refine r_getRK S2 fc7 (by decide) 0 1 rfl rfl q_50 dX7_take_30 ?_
  refine r_getRKN S2 fc6 (by decide) 2 20 rfl rfl q_51 dX7_take_33 ?_
  refine r_iload_n S2 dX7_take_36 0 rfl ?_
  refine r_iload_n S2 dX7_take_37 3 rfl ?_
  obtain ⟨x8, M9, h9, hE⟩ := b2_some hE
  refine rc_V S2 (rn_V S2 fc1 (by decide) (c_LK_draw _ _ (gYX S2) 20 (by decide) x3 a2 M7 _ _ h9) wdX1_draw q_1032 ⟨Nat.le_of_ble_eq_true rfl, Nat.le_of_ble_eq_true rfl⟩ rfl (Nat.le_of_ble_eq_true rfl) dX7_take_38) ?_
  refine r_aload_n S2 dX7_take_41 1 rfl ?_
  refine r_getRK S2 fc7 (by decide) 0 1 rfl rfl q_50 dX7_take_42 ?_
  refine r_dup S2 dX7_take_45 rfl ?_
  refine r_getLN S2 fc6 (by decide) 5 rfl q_485 dX7_take_46 ?_
  refine r_iload_n S2 dX7_take_49 3 rfl ?_
  refine r_i2l S2 dX7_take_50 ?_
  refine r_ladd S2 dX7_take_51 ?_
  refine r_putLN S2 fc6 (by decide) 5 rfl rfl (by decide +kernel) q_485 dX7_take_52 ?_
  refine r_aload_n S2 dX7_take_55 1 rfl ?_
  refine r_getRK S2 fc7 (by decide) 0 1 rfl rfl q_50 dX7_take_56 ?_
  refine r_getRKN S2 fc6 (by decide) 2 20 rfl rfl q_51 dX7_take_59 ?_
  obtain ⟨x10, h9, hE⟩ := b1_some hE
  refine rc_I S2 (rn_V S2 fc1 (by decide) (c_LK_total _ _ (gYX S2) 20 (by decide) (sL M9 1 5 ((gL M9 1 5) + a2.toInt64)) _ h9) wdX1_total q_209 ⟨Nat.le_of_ble_eq_true rfl, Nat.le_of_ble_eq_true rfl⟩ rfl (Nat.le_of_ble_eq_true rfl) dX7_take_62) ?_
  obtain ⟨rfl, rfl⟩ := si2 hE
  exact hret 2 12 _ _ _ (by decide) (by decide) dX7_take_65 rfl
set_option maxRecDepth 100000 in
set_option maxHeartbeats 4000000 in
theorem c_LL_balance (l : Launch) (hfl : l.stackTraces = false) (Y : Env1) (hG : gY Y = gC) (a1 : Int32) (M : Mem) (res : Int64 ⊕ Nat) (M1 : Mem) (hE : LL_balance a1 M = some (res, M1)) : TnL l Y yX7_balance cX7_balance 2 7 1 6 [.ref (hY Y + 0), .int a1] M res M1 := by
  refine mtx_L (own := RX7) hfl (by decide +kernel) rfl hG (Nat.le_of_ble_eq_true rfl) (fun X hS hT hY1 hl1 hret => ?_)
  subst hY1
  subst hl1
  have S0 := hS 0 0 (by decide) (by decide)
  have T0 := hT 0 0
  have S1 := hS 1 6 (by decide) (by decide)
  have T1 := hT 1 6
  show AW (setX X 0 0) 0 [(0, .ref (hY X.2.1.2 + 0)), (1, .int a1)] [] M
  unfold LL_balance at hE
  refine r_iload_n S0 dX7_balance_0 1 rfl ?_
  refine r_iconst S0 (0 : Int32) dX7_balance_1 rfl ?_
  refine r_iconst S0 (3 : Int32) dX7_balance_2 rfl ?_
  obtain ⟨x1, M2, h9, hp, hE⟩ := bx_some hE
  refine xc_V S0 T0 1 6 rfl rfl (by decide) (by decide) (xn_S S0 T0.2.2.2.1 T0.2.2.2.2.2.1 (c_LL_needWithin _ hfl _ (gYX S0) a1 (0 : Int32) (3 : Int32) M _ _ h9) wdX7_needWithin q_981 ⟨Nat.le_of_ble_eq_true rfl, Nat.le_of_ble_eq_true rfl⟩ ⟨Nat.le_trans (Nat.le_of_ble_eq_true rfl) T0.2.2.2.2.2.2.1, Nat.le_trans (Nat.le_of_ble_eq_true rfl) T0.2.2.2.2.2.2.2⟩ rfl (Nat.le_of_ble_eq_true rfl) dX7_balance_3) hp (fun hr => ?_)
  replace hE := hE () hr
  refine r_aload_n S1 dX7_balance_6 0 rfl ?_
  refine r_iload_n S1 dX7_balance_7 1 rfl ?_
  obtain ⟨x3, h9, hE⟩ := b1_some hE
  refine rc_L S1 (rn_V S1 fc7 (by decide) (c_LL_balanceValue _ _ (gYX S1) a1 M2 _ h9) wdX7_balanceValue q_514 ⟨Nat.le_of_ble_eq_true rfl, Nat.le_of_ble_eq_true rfl⟩ rfl (Nat.le_of_ble_eq_true rfl) dX7_balance_8) ?_
  obtain ⟨rfl, rfl⟩ := si2 hE
  exact hret 1 6 _ _ _ (by decide) (by decide) dX7_balance_11 rfl
set_option maxRecDepth 100000 in
set_option maxHeartbeats 4000000 in
theorem c_LL_lake (l : Launch) (hfl : l.stackTraces = false) (Y : Env1) (hG : gY Y = gC) (a1 : Int32) (a2 : Int32) (M : Mem) (res : Int32 ⊕ Nat) (M1 : Mem) (hE : LL_lake a1 a2 M = some (res, M1)) : TnI l Y yX7_lake cX7_lake 4 .int 7 2 12 [.ref (hY Y + 0), .int a1, .int a2] M res M1 := by
  refine mtx_I (own := RX7) hfl (by decide +kernel) rfl hG (Nat.le_of_ble_eq_true rfl) (fun X hS hT hY1 hl1 hret => ?_)
  subst hY1
  subst hl1
  have S0 := hS 0 0 (by decide) (by decide)
  have T0 := hT 0 0
  have S1 := hS 1 6 (by decide) (by decide)
  have T1 := hT 1 6
  have S2 := hS 2 12 (by decide) (by decide)
  have T2 := hT 2 12
  show AW (setX X 0 0) 0 [(0, .ref (hY X.2.1.2 + 0)), (1, .int a1), (2, .int a2)] [] M
  unfold LL_lake at hE
  refine r_aload_n S0 dX7_lake_0 0 rfl ?_
  refine r_iload_n S0 dX7_lake_1 1 rfl ?_
  obtain ⟨x1, M2, h9, hp, hE⟩ := bx_some hE
  refine xc_I S0 T0 1 6 rfl rfl (by decide) (by decide) (xn_V S0 T0.2.2.2.1 T0.2.2.2.2.2.1 fc7 (by decide) (c_LL_needLake _ hfl _ (gYX S0) a1 M _ _ h9) wdX7_needLake q_1027 ⟨Nat.le_of_ble_eq_true rfl, Nat.le_of_ble_eq_true rfl⟩ ⟨Nat.le_trans (Nat.le_of_ble_eq_true rfl) T0.2.2.2.2.2.2.1, Nat.le_trans (Nat.le_of_ble_eq_true rfl) T0.2.2.2.2.2.2.2⟩ rfl (Nat.le_of_ble_eq_true rfl) dX7_lake_2) hp (fun x3 hr => ?_)
  replace hE := hE _ hr
  refine r_istore_n (lv2 := [(3, .int x3), (0, .ref (hY X.2.1.2 + 0)), (1, .int a1), (2, .int a2)]) S1 dX7_lake_5 (by decide) rfl ?_
  refine r_iload_n S1 dX7_lake_6 3 rfl ?_
  refine r_iconst S1 (0 : Int32) dX7_lake_7 rfl ?_
  refine r_bipush S1 (9 : Int32) dX7_lake_8 rfl ?_
  obtain ⟨x4, M5, h9, hp, hE⟩ := bx_some hE
  refine xc_V S1 T1 2 12 rfl rfl (by decide) (by decide) (xn_S S1 T1.2.2.2.1 T1.2.2.2.2.2.1 (c_LL_needWithin _ hfl _ (gYX S1) a2 (0 : Int32) (9 : Int32) M2 _ _ h9) wdX7_needWithin q_981 ⟨Nat.le_of_ble_eq_true rfl, Nat.le_of_ble_eq_true rfl⟩ ⟨Nat.le_trans (Nat.le_of_ble_eq_true rfl) T1.2.2.2.2.2.2.1, Nat.le_trans (Nat.le_of_ble_eq_true rfl) T1.2.2.2.2.2.2.2⟩ rfl (Nat.le_of_ble_eq_true rfl) dX7_lake_10) hp (fun hr => ?_)
  replace hE := hE () hr
  refine r_aload_n S2 dX7_lake_13 1 rfl ?_
  refine r_iload_n S2 dX7_lake_14 0 rfl ?_
  refine r_iload_n S2 dX7_lake_15 3 rfl ?_
  obtain ⟨x6, h9, hE⟩ := b1_some hE
  refine rc_I S2 (rn_V S2 fc7 (by decide) (c_LL_lakeValue _ _ (gYX S2) x3 a2 M5 _ h9) wdX7_lakeValue q_471 ⟨Nat.le_of_ble_eq_true rfl, Nat.le_of_ble_eq_true rfl⟩ rfl (Nat.le_of_ble_eq_true rfl) dX7_lake_16) ?_
  obtain ⟨rfl, rfl⟩ := si2 hE
  exact hret 2 12 _ _ _ (by decide) (by decide) dX7_lake_19 rfl
set_option maxRecDepth 100000 in
set_option maxHeartbeats 4000000 in
theorem c_LL_lakeCells (l : Launch) (hfl : l.stackTraces = false) (Y : Env1) (hG : gY Y = gC) (a1 : Int32) (M : Mem) (res : Int64 ⊕ Nat) (M1 : Mem) (hE : LL_lakeCells a1 M = some (res, M1)) : TnL l Y yX7_lakeCells cX7_lakeCells 2 7 1 6 [.ref (hY Y + 0), .int a1] M res M1 := by
  refine mtx_L (own := RX7) hfl (by decide +kernel) rfl hG (Nat.le_of_ble_eq_true rfl) (fun X hS hT hY1 hl1 hret => ?_)
  subst hY1
  subst hl1
  have S0 := hS 0 0 (by decide) (by decide)
  have T0 := hT 0 0
  have S1 := hS 1 6 (by decide) (by decide)
  have T1 := hT 1 6
  show AW (setX X 0 0) 0 [(0, .ref (hY X.2.1.2 + 0)), (1, .int a1)] [] M
  unfold LL_lakeCells at hE
  refine r_aload_n S0 dX7_lakeCells_0 0 rfl ?_
  refine r_getRK S0 fc7 (by decide) 0 1 rfl rfl q_50 dX7_lakeCells_1 ?_
  refine r_getRKN S0 fc6 (by decide) 2 20 rfl rfl q_51 dX7_lakeCells_4 ?_
  refine r_getRKN S0 fc1 (by decide) 0 21 rfl rfl q_462 dX7_lakeCells_7 ?_
  refine r_aload_n S0 dX7_lakeCells_10 0 rfl ?_
  refine r_iload_n S0 dX7_lakeCells_11 1 rfl ?_
  obtain ⟨x1, M2, h9, hp, hE⟩ := bx_some hE
  refine xc_I S0 T0 1 6 rfl rfl (by decide) (by decide) (xn_V S0 T0.2.2.2.1 T0.2.2.2.2.2.1 fc7 (by decide) (c_LL_needLake _ hfl _ (gYX S0) a1 M _ _ h9) wdX7_needLake q_1027 ⟨Nat.le_of_ble_eq_true rfl, Nat.le_of_ble_eq_true rfl⟩ ⟨Nat.le_trans (Nat.le_of_ble_eq_true rfl) T0.2.2.2.2.2.2.1, Nat.le_trans (Nat.le_of_ble_eq_true rfl) T0.2.2.2.2.2.2.2⟩ rfl (Nat.le_of_ble_eq_true rfl) dX7_lakeCells_12) hp (fun x3 hr => ?_)
  replace hE := hE _ hr
  refine rc_L S1 (rn_V S1 fc4 (by decide) (c_SR_at _ _ (gYX S1) 21 (by decide) x3 M2 _ rfl) wdX4_at q_463 ⟨Nat.le_of_ble_eq_true rfl, Nat.le_of_ble_eq_true rfl⟩ rfl (Nat.le_of_ble_eq_true rfl) dX7_lakeCells_15) ?_
  obtain ⟨rfl, rfl⟩ := si2 hE
  exact hret 1 6 _ _ _ (by decide) (by decide) dX7_lakeCells_18 rfl
set_option maxRecDepth 100000 in
set_option maxHeartbeats 4000000 in
theorem c_LL_level (l : Launch) (hfl : l.stackTraces = false) (Y : Env1) (hG : gY Y = gC) (a1 : Int32) (a2 : Int32) (M : Mem) (res : Int32 ⊕ Nat) (M1 : Mem) (hE : LL_level a1 a2 M = some (res, M1)) : TnI l Y yX7_level cX7_level 4 .int 7 2 12 [.ref (hY Y + 0), .int a1, .int a2] M res M1 := by
  refine mtx_I (own := RX7) hfl (by decide +kernel) rfl hG (Nat.le_of_ble_eq_true rfl) (fun X hS hT hY1 hl1 hret => ?_)
  subst hY1
  subst hl1
  have S0 := hS 0 0 (by decide) (by decide)
  have T0 := hT 0 0
  have S1 := hS 1 6 (by decide) (by decide)
  have T1 := hT 1 6
  have S2 := hS 2 12 (by decide) (by decide)
  have T2 := hT 2 12
  show AW (setX X 0 0) 0 [(0, .ref (hY X.2.1.2 + 0)), (1, .int a1), (2, .int a2)] [] M
  unfold LL_level at hE
  refine r_aload_n S0 dX7_level_0 0 rfl ?_
  refine r_iload_n S0 dX7_level_1 1 rfl ?_
  obtain ⟨x1, M2, h9, hp, hE⟩ := bx_some hE
  refine xc_I S0 T0 1 6 rfl rfl (by decide) (by decide) (xn_V S0 T0.2.2.2.1 T0.2.2.2.2.2.1 fc7 (by decide) (c_LL_needLake _ hfl _ (gYX S0) a1 M _ _ h9) wdX7_needLake q_1027 ⟨Nat.le_of_ble_eq_true rfl, Nat.le_of_ble_eq_true rfl⟩ ⟨Nat.le_trans (Nat.le_of_ble_eq_true rfl) T0.2.2.2.2.2.2.1, Nat.le_trans (Nat.le_of_ble_eq_true rfl) T0.2.2.2.2.2.2.2⟩ rfl (Nat.le_of_ble_eq_true rfl) dX7_level_2) hp (fun x3 hr => ?_)
  replace hE := hE _ hr
  refine r_istore_n (lv2 := [(3, .int x3), (0, .ref (hY X.2.1.2 + 0)), (1, .int a1), (2, .int a2)]) S1 dX7_level_5 (by decide) rfl ?_
  refine r_iload_n S1 dX7_level_6 3 rfl ?_
  refine r_iconst S1 (0 : Int32) dX7_level_7 rfl ?_
  refine r_iconst S1 (1 : Int32) dX7_level_8 rfl ?_
  obtain ⟨x4, M5, h9, hp, hE⟩ := bx_some hE
  refine xc_V S1 T1 2 12 rfl rfl (by decide) (by decide) (xn_S S1 T1.2.2.2.1 T1.2.2.2.2.2.1 (c_LL_needWithin _ hfl _ (gYX S1) a2 (0 : Int32) (1 : Int32) M2 _ _ h9) wdX7_needWithin q_981 ⟨Nat.le_of_ble_eq_true rfl, Nat.le_of_ble_eq_true rfl⟩ ⟨Nat.le_trans (Nat.le_of_ble_eq_true rfl) T1.2.2.2.2.2.2.1, Nat.le_trans (Nat.le_of_ble_eq_true rfl) T1.2.2.2.2.2.2.2⟩ rfl (Nat.le_of_ble_eq_true rfl) dX7_level_9) hp (fun hr => ?_)
  replace hE := hE () hr
  refine r_aload_n S2 dX7_level_12 1 rfl ?_
  refine r_iload_n S2 dX7_level_13 0 rfl ?_
  refine r_iload_n S2 dX7_level_14 3 rfl ?_
  obtain ⟨x6, h9, hE⟩ := b1_some hE
  refine rc_I S2 (rn_V S2 fc7 (by decide) (c_LL_levelPart _ _ (gYX S2) x3 a2 M5 _ h9) wdX7_levelPart q_480 ⟨Nat.le_of_ble_eq_true rfl, Nat.le_of_ble_eq_true rfl⟩ rfl (Nat.le_of_ble_eq_true rfl) dX7_level_15) ?_
  obtain ⟨rfl, rfl⟩ := si2 hE
  exact hret 2 12 _ _ _ (by decide) (by decide) dX7_level_18 rfl
set_option maxRecDepth 100000 in
set_option maxHeartbeats 4000000 in
theorem c_LL_depth (l : Launch) (hfl : l.stackTraces = false) (Y : Env1) (hG : gY Y = gC) (a1 : Int32) (M : Mem) (res : UInt64 ⊕ Nat) (M1 : Mem) (hE : LL_depth a1 M = some (res, M1)) : TnD l Y yX7_depth cX7_depth 2 7 1 6 [.ref (hY Y + 0), .int a1] M res M1 := by
  refine mtx_D (own := RX7) hfl (by decide +kernel) rfl hG (Nat.le_of_ble_eq_true rfl) (fun X hS hT hY1 hl1 hret => ?_)
  subst hY1
  subst hl1
  have S0 := hS 0 0 (by decide) (by decide)
  have T0 := hT 0 0
  have S1 := hS 1 6 (by decide) (by decide)
  have T1 := hT 1 6
  show AW (setX X 0 0) 0 [(0, .ref (hY X.2.1.2 + 0)), (1, .int a1)] [] M
  unfold LL_depth at hE
  refine r_aload_n S0 dX7_depth_0 0 rfl ?_
  refine r_iload_n S0 dX7_depth_1 1 rfl ?_
  obtain ⟨x1, M2, h9, hp, hE⟩ := bx_some hE
  refine xc_V S0 T0 1 6 rfl rfl (by decide) (by decide) (xn_V S0 T0.2.2.2.1 T0.2.2.2.2.2.1 fc7 (by decide) (c_LL_needCell _ hfl _ (gYX S0) a1 M _ _ h9) wdX7_needCell q_986 ⟨Nat.le_of_ble_eq_true rfl, Nat.le_of_ble_eq_true rfl⟩ ⟨Nat.le_trans (Nat.le_of_ble_eq_true rfl) T0.2.2.2.2.2.2.1, Nat.le_trans (Nat.le_of_ble_eq_true rfl) T0.2.2.2.2.2.2.2⟩ rfl (Nat.le_of_ble_eq_true rfl) dX7_depth_2) hp (fun hr => ?_)
  replace hE := hE () hr
  refine r_aload_n S1 dX7_depth_5 0 rfl ?_
  refine r_iload_n S1 dX7_depth_6 1 rfl ?_
  obtain ⟨x3, h9, hE⟩ := b1_some hE
  refine rc_D S1 (rn_V S1 fc7 (by decide) (c_LL_depthValue _ _ (gYX S1) a1 M2 _ h9) wdX7_depthValue q_81 ⟨Nat.le_of_ble_eq_true rfl, Nat.le_of_ble_eq_true rfl⟩ rfl (Nat.le_of_ble_eq_true rfl) dX7_depth_7) ?_
  obtain ⟨rfl, rfl⟩ := si2 hE
  exact hret 1 6 _ _ _ (by decide) (by decide) dX7_depth_10 rfl
set_option maxRecDepth 100000 in
set_option maxHeartbeats 4000000 in
theorem c_LL_course (l : Launch) (hfl : l.stackTraces = false) (Y : Env1) (hG : gY Y = gC) (a1 : Int32) (M : Mem) (res : Int64 ⊕ Nat) (M1 : Mem) (hE : LL_course a1 M = some (res, M1)) : TnL l Y yX7_course cX7_course 2 7 1 6 [.ref (hY Y + 0), .int a1] M res M1 := by
  refine mtx_L (own := RX7) hfl (by decide +kernel) rfl hG (Nat.le_of_ble_eq_true rfl) (fun X hS hT hY1 hl1 hret => ?_)
  subst hY1
  subst hl1
  have S0 := hS 0 0 (by decide) (by decide)
  have T0 := hT 0 0
  have S1 := hS 1 6 (by decide) (by decide)
  have T1 := hT 1 6
  show AW (setX X 0 0) 0 [(0, .ref (hY X.2.1.2 + 0)), (1, .int a1)] [] M
  unfold LL_course at hE
  refine r_aload_n S0 dX7_course_0 0 rfl ?_
  refine r_iload_n S0 dX7_course_1 1 rfl ?_
  obtain ⟨x1, M2, h9, hp, hE⟩ := bx_some hE
  refine xc_V S0 T0 1 6 rfl rfl (by decide) (by decide) (xn_V S0 T0.2.2.2.1 T0.2.2.2.2.2.1 fc7 (by decide) (c_LL_needCell _ hfl _ (gYX S0) a1 M _ _ h9) wdX7_needCell q_986 ⟨Nat.le_of_ble_eq_true rfl, Nat.le_of_ble_eq_true rfl⟩ ⟨Nat.le_trans (Nat.le_of_ble_eq_true rfl) T0.2.2.2.2.2.2.1, Nat.le_trans (Nat.le_of_ble_eq_true rfl) T0.2.2.2.2.2.2.2⟩ rfl (Nat.le_of_ble_eq_true rfl) dX7_course_2) hp (fun hr => ?_)
  replace hE := hE () hr
  refine r_aload_n S1 dX7_course_5 0 rfl ?_
  refine r_getRK S1 fc7 (by decide) 0 1 rfl rfl q_50 dX7_course_6 ?_
  refine r_getRKN S1 fc6 (by decide) 1 13 rfl rfl q_416 dX7_course_9 ?_
  refine r_iload_n S1 dX7_course_12 1 rfl ?_
  obtain ⟨x3, h9, hE⟩ := b1_some hE
  refine rc_L S1 (rn_V S1 fc5 (by decide) (c_WY_courseFrom _ _ (gYX S1) 13 (by decide) a1 M2 _ h9) wdX5_courseFrom q_1033 ⟨Nat.le_of_ble_eq_true rfl, Nat.le_of_ble_eq_true rfl⟩ rfl (Nat.le_of_ble_eq_true rfl) dX7_course_13) ?_
  obtain ⟨rfl, rfl⟩ := si2 hE
  exact hret 1 6 _ _ _ (by decide) (by decide) dX7_course_16 rfl
set_option maxRecDepth 100000 in
set_option maxHeartbeats 4000000 in
theorem c_LL_amountFor (l : Launch) (hfl : l.stackTraces = false) (Y : Env1) (hG : gY Y = gC) (a1 : Int32) (a2 : Int32) (M : Mem) (res : Int32 ⊕ Nat) (M1 : Mem) (hE : LL_amountFor a1 a2 M = some (res, M1)) : TnI l Y yX7_amountFor cX7_amountFor 7 .int 7 2 12 [.ref (hY Y + 0), .int a1, .int a2] M res M1 := by
  refine mtx_I (own := RX7) hfl (by decide +kernel) rfl hG (Nat.le_of_ble_eq_true rfl) (fun X hS hT hY1 hl1 hret => ?_)
  subst hY1
  subst hl1
  have S0 := hS 0 0 (by decide) (by decide)
  have T0 := hT 0 0
  have S1 := hS 1 6 (by decide) (by decide)
  have T1 := hT 1 6
  have S2 := hS 2 12 (by decide) (by decide)
  have T2 := hT 2 12
  show AW (setX X 0 0) 0 [(0, .ref (hY X.2.1.2 + 0)), (1, .int a1), (2, .int a2)] [] M
  unfold LL_amountFor at hE
  refine r_aload_n S0 dX7_amountFor_0 0 rfl ?_
  refine r_iload_n S0 dX7_amountFor_1 1 rfl ?_
  obtain ⟨x1, M2, h9, hp, hE⟩ := bx_some hE
  refine xc_V S0 T0 1 6 rfl rfl (by decide) (by decide) (xn_V S0 T0.2.2.2.1 T0.2.2.2.2.2.1 fc7 (by decide) (c_LL_needCell _ hfl _ (gYX S0) a1 M _ _ h9) wdX7_needCell q_986 ⟨Nat.le_of_ble_eq_true rfl, Nat.le_of_ble_eq_true rfl⟩ ⟨Nat.le_trans (Nat.le_of_ble_eq_true rfl) T0.2.2.2.2.2.2.1, Nat.le_trans (Nat.le_of_ble_eq_true rfl) T0.2.2.2.2.2.2.2⟩ rfl (Nat.le_of_ble_eq_true rfl) dX7_amountFor_2) hp (fun hr => ?_)
  replace hE := hE () hr
  refine r_aload_n S1 dX7_amountFor_5 0 rfl ?_
  refine r_iload_n S1 dX7_amountFor_6 2 rfl ?_
  obtain ⟨x3, M4, h9, hp, hE⟩ := bx_some hE
  refine xc_V S1 T1 2 12 rfl rfl (by decide) (by decide) (xn_V S1 T1.2.2.2.1 T1.2.2.2.2.2.1 fc7 (by decide) (c_LL_needCell _ hfl _ (gYX S1) a2 M2 _ _ h9) wdX7_needCell q_986 ⟨Nat.le_of_ble_eq_true rfl, Nat.le_of_ble_eq_true rfl⟩ ⟨Nat.le_trans (Nat.le_of_ble_eq_true rfl) T1.2.2.2.2.2.2.1, Nat.le_trans (Nat.le_of_ble_eq_true rfl) T1.2.2.2.2.2.2.2⟩ rfl (Nat.le_of_ble_eq_true rfl) dX7_amountFor_7) hp (fun hr => ?_)
  replace hE := hE () hr
  refine r_aload_n S2 dX7_amountFor_10 0 rfl ?_
  refine r_iload_n S2 dX7_amountFor_11 1 rfl ?_
  refine r_iconst S2 (0 : Int32) dX7_amountFor_12 rfl ?_
  refine r_iload_n S2 dX7_amountFor_13 2 rfl ?_
  obtain ⟨x5, M6, h9, hE⟩ := b2_some hE
  refine rc_I S2 (rn_V S2 fc7 (by decide) (c_LL_wouldBeWet _ _ (gYX S2) a1 (0 : Int32) a2 M4 _ _ h9) wdX7_wouldBeWet q_1038 ⟨Nat.le_of_ble_eq_true rfl, Nat.le_of_ble_eq_true rfl⟩ rfl (Nat.le_of_ble_eq_true rfl) dX7_amountFor_14) ?_
  refine r_if_eq S2 22 dX7_amountFor_17 (by decide) (fun c => ?_) (fun c => ?_)
  · rw [if_pos c] at hE
    refine r_aload_n S2 dX7_amountFor_22 0 rfl ?_
    refine r_iload_n S2 dX7_amountFor_23 1 rfl ?_
    refine r_ldc S2 (v := 100000) q_1016 dX7_amountFor_24 ?_
    refine r_iload_n S2 dX7_amountFor_26 2 rfl ?_
    obtain ⟨x7, M8, h9, hE⟩ := b2_some hE
    refine rc_I S2 (rn_V S2 fc7 (by decide) (c_LL_wouldBeWet _ _ (gYX S2) a1 (100000 : Int32) a2 M6 _ _ h9) wdX7_wouldBeWet q_1038 ⟨Nat.le_of_ble_eq_true rfl, Nat.le_of_ble_eq_true rfl⟩ rfl (Nat.le_of_ble_eq_true rfl) dX7_amountFor_27) ?_
    refine r_if_ne S2 35 dX7_amountFor_30 (by decide) (fun c => ?_) (fun c => ?_)
    · rw [if_pos c] at hE
      refine r_iconst S2 (0 : Int32) dX7_amountFor_35 rfl ?_
      refine r_istore_n (lv2 := [(3, .int (0 : Int32)), (0, .ref (hY X.2.1.2 + 0)), (1, .int a1), (2, .int a2)]) S2 dX7_amountFor_36 (by decide) rfl ?_
      refine r_ldc S2 (v := 100000) q_1016 dX7_amountFor_37 ?_
      refine r_istore (lv2 := [(4, .int (100000 : Int32)), (3, .int (0 : Int32)), (0, .ref (hY X.2.1.2 + 0)), (1, .int a1), (2, .int a2)]) S2 dX7_amountFor_39 (by decide) rfl ?_
      refine r_iconst S2 (0 : Int32) dX7_amountFor_41 rfl ?_
      refine r_istore (lv2 := [(5, .int (0 : Int32)), (4, .int (100000 : Int32)), (3, .int (0 : Int32)), (0, .ref (hY X.2.1.2 + 0)), (1, .int a1), (2, .int a2)]) S2 dX7_amountFor_42 (by decide) rfl ?_
      have L44 : ∀ (v1 : Int32) (v2 : Int32) (e : (Int32)) (M2 : Mem), AW (setX X 2 12) 94 [(4, .int e)] [] M2 → ∀ (n : Nat) (s : Int32 × Int32 × Int32) (M : Mem), lpM (fun s M => LL_amountFor_L44 v1 v2 s.1 s.2.1 s.2.2 M) n s M = some (e, M2) → AW (setX X 2 12) 44 [(0, .ref (hY X.2.1.2 + 0)), (1, .int v1), (2, .int v2), (3, .int s.1), (4, .int s.2.1), (5, .int s.2.2)] [] M := by
        intro v1 v2 e M2 hX
        refine lpM_ind (P := fun (s : Int32 × Int32 × Int32) (M : Mem) => AW (setX X 2 12) 44 [(0, .ref (hY X.2.1.2 + 0)), (1, .int v1), (2, .int v2), (3, .int s.1), (4, .int s.2.1), (5, .int s.2.2)] [] M) ?_
        rintro ⟨v3, v4, v5⟩ M d M3 hE hC hD
        replace hE : LL_amountFor_L44 v1 v2 v3 v4 v5 M = some (d, M3) := hE
        show AW (setX X 2 12) 44 [(0, .ref (hY X.2.1.2 + 0)), (1, .int v1), (2, .int v2), (3, .int v3), (4, .int v4), (5, .int v5)] [] M
        unfold LL_amountFor_L44 at hE
        refine r_iload S2 dX7_amountFor_44 5 rfl ?_
        refine r_ldc S2 (v := 100000) q_1016 dX7_amountFor_46 ?_
        refine r_icmp_ge S2 94 dX7_amountFor_48 (by decide) (fun c => ?_) (fun c => ?_)
        · rw [if_pos c] at hE
          obtain ⟨rfl, rfl⟩ := si2 hE
          rcases hD with ⟨h1, h2⟩ | ⟨_, h1⟩
          · obtain rfl := sir h1
            subst h2
            exact r_sub [4] rfl hX
          · exact (sil h1).elim
        · rw [if_neg c] at hE
          refine r_iload S2 dX7_amountFor_51 4 rfl ?_
          refine r_iload_n S2 dX7_amountFor_53 3 rfl ?_
          refine r_isub S2 dX7_amountFor_54 ?_
          refine r_iconst S2 (1 : Int32) dX7_amountFor_55 rfl ?_
          refine r_icmp_le S2 94 dX7_amountFor_56 (by decide) (fun c => ?_) (fun c => ?_)
          · rw [if_pos c] at hE
            obtain ⟨rfl, rfl⟩ := si2 hE
            rcases hD with ⟨h1, h2⟩ | ⟨_, h1⟩
            · obtain rfl := sir h1
              subst h2
              exact r_sub [4] rfl hX
            · exact (sil h1).elim
          · rw [if_neg c] at hE
            refine r_iload_n S2 dX7_amountFor_59 3 rfl ?_
            refine r_iload S2 dX7_amountFor_60 4 rfl ?_
            refine r_iadd S2 dX7_amountFor_62 ?_
            refine r_iconst S2 (2 : Int32) dX7_amountFor_63 rfl ?_
            refine r_idiv S2 dX7_amountFor_64 (by decide) ?_
            refine r_istore (lv2 := [(6, .int ((v3 + v4) / (2 : Int32))), (0, .ref (hY X.2.1.2 + 0)), (1, .int v1), (2, .int v2), (3, .int v3), (4, .int v4), (5, .int v5)]) S2 dX7_amountFor_65 (by decide) rfl ?_
            refine r_aload_n S2 dX7_amountFor_67 1 rfl ?_
            refine r_iload_n S2 dX7_amountFor_68 2 rfl ?_
            refine r_iload S2 dX7_amountFor_69 0 rfl ?_
            refine r_iload_n S2 dX7_amountFor_71 3 rfl ?_
            obtain ⟨x1, M2, h9, hE⟩ := b2_some hE
            refine rc_I S2 (rn_V S2 fc7 (by decide) (c_LL_wouldBeWet _ _ (gYX S2) v1 ((v3 + v4) / (2 : Int32)) v2 M _ _ h9) wdX7_wouldBeWet q_1038 ⟨Nat.le_of_ble_eq_true rfl, Nat.le_of_ble_eq_true rfl⟩ rfl (Nat.le_of_ble_eq_true rfl) dX7_amountFor_72) ?_
            refine r_if_eq S2 85 dX7_amountFor_75 (by decide) (fun c => ?_) (fun c => ?_)
            · try simp only [if_pos c] at hE
              refine r_iload S2 dX7_amountFor_85 0 rfl ?_
              refine r_istore_n (lv2 := [(3, .int ((v3 + v4) / (2 : Int32))), (6, .int ((v3 + v4) / (2 : Int32))), (0, .ref (hY X.2.1.2 + 0)), (1, .int v1), (2, .int v2), (4, .int v4), (5, .int v5)]) S2 dX7_amountFor_87 (by decide) rfl ?_
              refine r_iinc (lv2 := [(5, .int (v5 + (1 : Int32))), (3, .int ((v3 + v4) / (2 : Int32))), (6, .int ((v3 + v4) / (2 : Int32))), (0, .ref (hY X.2.1.2 + 0)), (1, .int v1), (2, .int v2), (4, .int v4)]) S2 dX7_amountFor_88 (j := 6) rfl (by decide) rfl ?_
              refine r_goto S2 44 dX7_amountFor_91 (by decide) ?_
              obtain ⟨rfl, rfl⟩ := si2 hE
              exact r_sub (lv2 := [(0, .ref (hY X.2.1.2 + 0)), (1, .int v1), (2, .int v2), (3, .int ((v3 + v4) / (2 : Int32))), (4, .int v4), (5, .int (v5 + (1 : Int32)))]) [3, 4, 5, 1, 6, 0] rfl (hC (((v3 + v4) / (2 : Int32)), v4, (v5 + (1 : Int32))) rfl)
            · try simp only [if_neg c] at hE
              refine r_iload S2 dX7_amountFor_78 0 rfl ?_
              refine r_istore (lv2 := [(4, .int ((v3 + v4) / (2 : Int32))), (6, .int ((v3 + v4) / (2 : Int32))), (0, .ref (hY X.2.1.2 + 0)), (1, .int v1), (2, .int v2), (3, .int v3), (5, .int v5)]) S2 dX7_amountFor_80 (by decide) rfl ?_
              refine r_goto S2 88 dX7_amountFor_82 (by decide) ?_
              refine r_iinc (lv2 := [(5, .int (v5 + (1 : Int32))), (4, .int ((v3 + v4) / (2 : Int32))), (6, .int ((v3 + v4) / (2 : Int32))), (0, .ref (hY X.2.1.2 + 0)), (1, .int v1), (2, .int v2), (3, .int v3)]) S2 dX7_amountFor_88 (j := 6) rfl (by decide) rfl ?_
              refine r_goto S2 44 dX7_amountFor_91 (by decide) ?_
              obtain ⟨rfl, rfl⟩ := si2 hE
              exact r_sub (lv2 := [(0, .ref (hY X.2.1.2 + 0)), (1, .int v1), (2, .int v2), (3, .int v3), (4, .int ((v3 + v4) / (2 : Int32))), (5, .int (v5 + (1 : Int32)))]) [3, 4, 5, 6, 1, 0] rfl (hC (v3, ((v3 + v4) / (2 : Int32)), (v5 + (1 : Int32))) rfl)
      obtain ⟨e9, M10, h9, hE⟩ := b2_some hE
      refine r_sub [3, 4, 5, 2, 1, 0] rfl (L44 a1 a2  e9 M10 ?_ _ _ M8 h9)
      refine r_iload S2 dX7_amountFor_94 0 rfl ?_
      obtain ⟨rfl, rfl⟩ := si2 hE
      exact hret 2 12 _ _ _ (by decide) (by decide) dX7_amountFor_96 rfl
    · rw [if_neg (not_not_intro c)] at hE
      refine r_iconst S2 (-1 : Int32) dX7_amountFor_33 rfl ?_
      obtain ⟨rfl, rfl⟩ := si2 hE
      exact hret 2 12 _ _ _ (by decide) (by decide) dX7_amountFor_34 rfl
  · rw [if_neg c] at hE
    refine r_iconst S2 (0 : Int32) dX7_amountFor_20 rfl ?_
    obtain ⟨rfl, rfl⟩ := si2 hE
    exact hret 2 12 _ _ _ (by decide) (by decide) dX7_amountFor_21 rfl
set_option maxRecDepth 100000 in
set_option maxHeartbeats 4000000 in
theorem c_LL_withoutGate (l : Launch) (hfl : l.stackTraces = false) (Y : Env1) (hG : gY Y = gC) (a1 : Int32) (a2 : Int32) (M : Mem) (res : Int32 ⊕ Nat) (M1 : Mem) (hE : LL_withoutGate a1 a2 M = some (res, M1)) : TnI l Y yX7_withoutGate cX7_withoutGate 3 .int 7 1 6 [.ref (hY Y + 0), .int a1, .int a2] M res M1 := by
  refine mtx_I (own := RX7) hfl (by decide +kernel) rfl hG (Nat.le_of_ble_eq_true rfl) (fun X hS hT hY1 hl1 hret => ?_)
  subst hY1
  subst hl1
  have S0 := hS 0 0 (by decide) (by decide)
  have T0 := hT 0 0
  have S1 := hS 1 6 (by decide) (by decide)
  have T1 := hT 1 6
  show AW (setX X 0 0) 0 [(0, .ref (hY X.2.1.2 + 0)), (1, .int a1), (2, .int a2)] [] M
  unfold LL_withoutGate at hE
  refine r_aload_n S0 dX7_withoutGate_0 0 rfl ?_
  refine r_iload_n S0 dX7_withoutGate_1 1 rfl ?_
  refine r_iload_n S0 dX7_withoutGate_2 2 rfl ?_
  obtain ⟨x1, M2, h9, hp, hE⟩ := bx_some hE
  refine xc_V S0 T0 1 6 rfl rfl (by decide) (by decide) (xn_V S0 T0.2.2.2.1 T0.2.2.2.2.2.1 fc7 (by decide) (c_LL_needNeighbors _ hfl _ (gYX S0) a1 a2 M _ _ h9) wdX7_needNeighbors q_1003 ⟨Nat.le_of_ble_eq_true rfl, Nat.le_of_ble_eq_true rfl⟩ ⟨Nat.le_trans (Nat.le_of_ble_eq_true rfl) T0.2.2.2.2.2.2.1, Nat.le_trans (Nat.le_of_ble_eq_true rfl) T0.2.2.2.2.2.2.2⟩ rfl (Nat.le_of_ble_eq_true rfl) dX7_withoutGate_3) hp (fun hr => ?_)
  replace hE := hE () hr
  refine r_aload_n S1 dX7_withoutGate_6 0 rfl ?_
  refine r_getRK S1 fc7 (by decide) 1 47 rfl rfl q_214 dX7_withoutGate_7 ?_
  refine r_aload_n S1 dX7_withoutGate_10 0 rfl ?_
  refine r_getRK S1 fc7 (by decide) 0 1 rfl rfl q_50 dX7_withoutGate_11 ?_
  obtain ⟨x3, M4, h9, hE⟩ := b2_some hE
  refine rc_V S1 (rn_V S1 fc6 (by decide) (c_WD_copyFrom _ _ (gYX S1) 47 (by decide) 1 (by decide) M2 _ _ h9) wdX6_copyFrom q_215 ⟨Nat.le_of_ble_eq_true rfl, Nat.le_of_ble_eq_true rfl⟩ rfl (Nat.le_of_ble_eq_true rfl) dX7_withoutGate_14) ?_
  refine r_aload_n S1 dX7_withoutGate_17 0 rfl ?_
  refine r_getRK S1 fc7 (by decide) 1 47 rfl rfl q_214 dX7_withoutGate_18 ?_
  obtain ⟨x5, M6, h9, hE⟩ := b2_some hE
  refine rc_V S1 (rn_V S1 fc6 (by decide) (c_WD_noteLakes _ _ (gYX S1) 47 (by decide) M4 _ _ h9) wdX6_noteLakes q_991 ⟨Nat.le_of_ble_eq_true rfl, Nat.le_of_ble_eq_true rfl⟩ rfl (Nat.le_of_ble_eq_true rfl) dX7_withoutGate_21) ?_
  refine r_aload_n S1 dX7_withoutGate_24 0 rfl ?_
  refine r_getRK S1 fc7 (by decide) 1 47 rfl rfl q_214 dX7_withoutGate_25 ?_
  refine r_getRKN S1 fc6 (by decide) 0 48 rfl rfl q_54 dX7_withoutGate_28 ?_
  refine r_iload_n S1 dX7_withoutGate_31 1 rfl ?_
  refine r_iload_n S1 dX7_withoutGate_32 2 rfl ?_
  refine r_iconst S1 (-1 : Int32) dX7_withoutGate_33 rfl ?_
  obtain ⟨x7, M8, h9, hE⟩ := b2_some hE
  refine rc_V S1 (rn_V S1 fc0 (by decide) (c_GR_putGate _ _ (gYX S1) 48 (by decide) a1 a2 (-1 : Int32) M6 _ _ h9) wdX0_putGate q_1009 ⟨Nat.le_of_ble_eq_true rfl, Nat.le_of_ble_eq_true rfl⟩ rfl (Nat.le_of_ble_eq_true rfl) dX7_withoutGate_34) ?_
  refine r_aload_n S1 dX7_withoutGate_37 0 rfl ?_
  refine r_getRK S1 fc7 (by decide) 1 47 rfl rfl q_214 dX7_withoutGate_38 ?_
  obtain ⟨x9, M10, h9, hE⟩ := b2_some hE
  refine rc_V S1 (rn_V S1 fc6 (by decide) (c_WD_renew _ _ (gYX S1) 47 (by decide) M8 _ _ h9) wdX6_renew q_997 ⟨Nat.le_of_ble_eq_true rfl, Nat.le_of_ble_eq_true rfl⟩ rfl (Nat.le_of_ble_eq_true rfl) dX7_withoutGate_41) ?_
  refine r_aload_n S1 dX7_withoutGate_44 0 rfl ?_
  refine r_getRK S1 fc7 (by decide) 1 47 rfl rfl q_214 dX7_withoutGate_45 ?_
  obtain ⟨x11, h9, hE⟩ := b1_some hE
  refine rc_I S1 (rn_V S1 fc6 (by decide) (c_WD_wetTotal _ _ (gYX S1) 47 (by decide) M10 _ h9) wdX6_wetTotal q_437 ⟨Nat.le_of_ble_eq_true rfl, Nat.le_of_ble_eq_true rfl⟩ rfl (Nat.le_of_ble_eq_true rfl) dX7_withoutGate_48) ?_
  refine r_aload_n S1 dX7_withoutGate_51 0 rfl ?_
  refine r_getRK S1 fc7 (by decide) 0 1 rfl rfl q_50 dX7_withoutGate_52 ?_
  obtain ⟨x12, h9, hE⟩ := b1_some hE
  refine rc_I S1 (rn_V S1 fc6 (by decide) (c_WD_wetTotal _ _ (gYX S1) 1 (by decide) M10 _ h9) wdX6_wetTotal q_437 ⟨Nat.le_of_ble_eq_true rfl, Nat.le_of_ble_eq_true rfl⟩ rfl (Nat.le_of_ble_eq_true rfl) dX7_withoutGate_55) ?_
  refine r_isub S1 dX7_withoutGate_58 ?_
  obtain ⟨rfl, rfl⟩ := si2 hE
  exact hret 1 6 _ _ _ (by decide) (by decide) dX7_withoutGate_59 rfl
set_option maxRecDepth 100000 in
set_option maxHeartbeats 4000000 in
theorem c_LL_append (l : Launch) (hfl : l.stackTraces = false) (Y : Env1) (hG : gY Y = gC) (a1 : Int32) (M : Mem) (res : Int32 ⊕ Nat) (M1 : Mem) (hE : LL_append a1 M = some (res, M1)) : TnI l Y yX7_append cX7_append 2 .int 7 2 12 [.ref (hY Y + 0), .int a1] M res M1 := by
  refine mtx_I (own := RX7) hfl (by decide +kernel) rfl hG (Nat.le_of_ble_eq_true rfl) (fun X hS hT hY1 hl1 hret => ?_)
  subst hY1
  subst hl1
  have S0 := hS 0 0 (by decide) (by decide)
  have T0 := hT 0 0
  have S1 := hS 1 6 (by decide) (by decide)
  have T1 := hT 1 6
  have S2 := hS 2 12 (by decide) (by decide)
  have T2 := hT 2 12
  show AW (setX X 0 0) 0 [(0, .ref (hY X.2.1.2 + 0)), (1, .int a1)] [] M
  unfold LL_append at hE
  refine r_iload_n S0 dX7_append_0 1 rfl ?_
  refine r_iconst S0 (0 : Int32) dX7_append_1 rfl ?_
  refine r_bipush S0 (127 : Int32) dX7_append_2 rfl ?_
  obtain ⟨x1, M2, h9, hp, hE⟩ := bx_some hE
  refine xc_V S0 T0 1 6 rfl rfl (by decide) (by decide) (xn_S S0 T0.2.2.2.1 T0.2.2.2.2.2.1 (c_LL_needWithin _ hfl _ (gYX S0) a1 (0 : Int32) (127 : Int32) M _ _ h9) wdX7_needWithin q_981 ⟨Nat.le_of_ble_eq_true rfl, Nat.le_of_ble_eq_true rfl⟩ ⟨Nat.le_trans (Nat.le_of_ble_eq_true rfl) T0.2.2.2.2.2.2.1, Nat.le_trans (Nat.le_of_ble_eq_true rfl) T0.2.2.2.2.2.2.2⟩ rfl (Nat.le_of_ble_eq_true rfl) dX7_append_4) hp (fun hr => ?_)
  replace hE := hE () hr
  refine r_aload_n S1 dX7_append_7 0 rfl ?_
  refine r_getRK S1 fc7 (by decide) 3 94 rfl rfl q_225 dX7_append_8 ?_
  refine r_getIN S1 fc2 (by decide) 1 rfl q_226 dX7_append_11 ?_
  refine r_sipush S1 (150 : Int32) dX7_append_14 rfl ?_
  refine r_icmp_lt S1 30 dX7_append_17 (by decide) (fun c => ?_) (fun c => ?_)
  · rw [if_pos c] at hE
    refine r_aload_n S1 dX7_append_30 0 rfl ?_
    refine r_getRK S1 fc7 (by decide) 3 94 rfl rfl q_225 dX7_append_31 ?_
    refine r_iload_n S1 dX7_append_34 1 rfl ?_
    obtain ⟨x3, M4, h9, hE⟩ := b2_some hE
    refine rc_V S1 (rn_V S1 fc2 (by decide) (c_LT_add _ _ (gYX S1) a1 M2 _ _ h9) wdX2_add q_1043 ⟨Nat.le_of_ble_eq_true rfl, Nat.le_of_ble_eq_true rfl⟩ rfl (Nat.le_of_ble_eq_true rfl) dX7_append_35) ?_
    refine r_aload_n S1 dX7_append_38 0 rfl ?_
    refine r_getRK S1 fc7 (by decide) 3 94 rfl rfl q_225 dX7_append_39 ?_
    refine r_getIN S1 fc2 (by decide) 1 rfl q_226 dX7_append_42 ?_
    obtain ⟨rfl, rfl⟩ := si2 hE
    exact hret 1 6 _ _ _ (by decide) (by decide) dX7_append_45 rfl
  · rw [if_neg c] at hE
    obtain ⟨rfl, rfl⟩ := si2 hE
    exact r_thr S1 T1 3 rfl rfl (List.mem_of_getElem? (i := 0) rfl) (by decide +kernel) hcl3.1 hcl3.2 hat3 hgd3 (by decide) (Nat.le_of_ble_eq_true rfl) (Nat.le_of_ble_eq_true rfl) (Nat.le_of_ble_eq_true rfl) dX7_append_20 dX7_append_23 dX7_append_24 dX7_append_26 dX7_append_29
set_option maxRecDepth 100000 in
set_option maxHeartbeats 4000000 in
theorem c_LL_undo (l : Launch) (hfl : l.stackTraces = false) (Y : Env1) (hG : gY Y = gC) (M : Mem) (res : Int32 ⊕ Nat) (M1 : Mem) (hE : LL_undo M = some (res, M1)) : TnI l Y yX7_undo cX7_undo 1 .int 6 1 6 [.ref (hY Y + 0)] M res M1 := by
  refine mtx_I (own := RX7) hfl (by decide +kernel) rfl hG (Nat.le_of_ble_eq_true rfl) (fun X hS hT hY1 hl1 hret => ?_)
  subst hY1
  subst hl1
  have S0 := hS 0 0 (by decide) (by decide)
  have T0 := hT 0 0
  have S1 := hS 1 6 (by decide) (by decide)
  have T1 := hT 1 6
  show AW (setX X 0 0) 0 [(0, .ref (hY X.2.1.2 + 0))] [] M
  unfold LL_undo at hE
  refine r_aload_n S0 dX7_undo_0 0 rfl ?_
  refine r_getI S0 fc7 (by decide) 4 rfl q_326 dX7_undo_1 ?_
  refine r_if_gt S0 17 dX7_undo_4 (by decide) (fun c => ?_) (fun c => ?_)
  · rw [if_pos c] at hE
    refine r_aload_n S0 dX7_undo_17 0 rfl ?_
    refine r_aload_n S0 dX7_undo_18 0 rfl ?_
    refine r_getI S0 fc7 (by decide) 5 rfl q_320 dX7_undo_19 ?_
    refine r_iconst S0 (4 : Int32) dX7_undo_22 rfl ?_
    refine r_iadd S0 dX7_undo_23 ?_
    refine r_iconst S0 (1 : Int32) dX7_undo_24 rfl ?_
    refine r_isub S0 dX7_undo_25 ?_
    refine r_iconst S0 (4 : Int32) dX7_undo_26 rfl ?_
    refine r_irem S0 dX7_undo_27 (by decide) ?_
    refine r_putI S0 fc7 (by decide) 5 rfl rfl (by decide +kernel) q_320 dX7_undo_28 ?_
    refine r_aload_n S0 dX7_undo_31 0 rfl ?_
    refine r_dup S0 dX7_undo_32 rfl ?_
    refine r_getI S0 fc7 (by decide) 4 rfl q_326 dX7_undo_33 ?_
    refine r_iconst S0 (1 : Int32) dX7_undo_36 rfl ?_
    refine r_isub S0 dX7_undo_37 ?_
    refine r_putI S0 fc7 (by decide) 4 rfl rfl (by decide +kernel) q_326 dX7_undo_38 ?_
    refine r_aload_n S0 dX7_undo_41 0 rfl ?_
    refine r_getRK S0 fc7 (by decide) 0 1 rfl rfl q_50 dX7_undo_42 ?_
    refine r_aload_n S0 dX7_undo_45 0 rfl ?_
    refine r_aload_n S0 dX7_undo_46 0 rfl ?_
    refine r_getI S0 fc7 (by decide) 5 rfl q_320 dX7_undo_47 ?_
    refine rc_R S0 (rn_V S0 fc7 (by decide) (c_LL_savedAt _ _ (gYX S0) (gI (sI (sI M 0 5 (irm (((gI M 0 5) + (4 : Int32)) - (1 : Int32)) (4 : Int32))) 0 4 ((gI (sI M 0 5 (irm (((gI M 0 5) + (4 : Int32)) - (1 : Int32)) (4 : Int32))) 0 4) - (1 : Int32))) 0 5) (sI (sI M 0 5 (irm (((gI M 0 5) + (4 : Int32)) - (1 : Int32)) (4 : Int32))) 0 4 ((gI (sI M 0 5 (irm (((gI M 0 5) + (4 : Int32)) - (1 : Int32)) (4 : Int32))) 0 4) - (1 : Int32))) _ rfl) wdX7_savedAt q_321 ⟨Nat.le_of_ble_eq_true rfl, Nat.le_of_ble_eq_true rfl⟩ rfl (Nat.le_of_ble_eq_true rfl) dX7_undo_50) ?_
    obtain ⟨x1, M2, h9, hE⟩ := b2_some hE
    refine rc_V S0 (rn_V S0 fc6 (by decide) (c_WD_copyFrom _ _ (gYX S0) 1 (by decide) (fSavedAt (gI (sI (sI M 0 5 (irm (((gI M 0 5) + (4 : Int32)) - (1 : Int32)) (4 : Int32))) 0 4 ((gI (sI M 0 5 (irm (((gI M 0 5) + (4 : Int32)) - (1 : Int32)) (4 : Int32))) 0 4) - (1 : Int32))) 0 5)) (kk_savedAt (gI (sI (sI M 0 5 (irm (((gI M 0 5) + (4 : Int32)) - (1 : Int32)) (4 : Int32))) 0 4 ((gI (sI M 0 5 (irm (((gI M 0 5) + (4 : Int32)) - (1 : Int32)) (4 : Int32))) 0 4) - (1 : Int32))) 0 5)) (sI (sI M 0 5 (irm (((gI M 0 5) + (4 : Int32)) - (1 : Int32)) (4 : Int32))) 0 4 ((gI (sI M 0 5 (irm (((gI M 0 5) + (4 : Int32)) - (1 : Int32)) (4 : Int32))) 0 4) - (1 : Int32))) _ _ h9) wdX6_copyFrom q_215 ⟨Nat.le_of_ble_eq_true rfl, Nat.le_of_ble_eq_true rfl⟩ rfl (Nat.le_of_ble_eq_true rfl) dX7_undo_53) ?_
    refine r_aload_n S0 dX7_undo_56 0 rfl ?_
    refine r_getI S0 fc7 (by decide) 4 rfl q_326 dX7_undo_57 ?_
    obtain ⟨rfl, rfl⟩ := si2 hE
    exact hret 0 0 _ _ _ (by decide) (by decide) dX7_undo_60 rfl
  · rw [if_neg c] at hE
    obtain ⟨rfl, rfl⟩ := si2 hE
    exact r_thr S0 T0 3 rfl rfl (List.mem_of_getElem? (i := 1) rfl) (by decide +kernel) hcl3.1 hcl3.2 hat3 hgd3 (by decide) (Nat.le_of_ble_eq_true rfl) (Nat.le_of_ble_eq_true rfl) (Nat.le_of_ble_eq_true rfl) dX7_undo_7 dX7_undo_10 dX7_undo_11 dX7_undo_13 dX7_undo_16
