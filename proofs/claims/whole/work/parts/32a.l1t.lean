set_option maxRecDepth 100000 in
set_option maxHeartbeats 4000000 in
theorem c_LL_needCell (l : Launch) (hfl : l.stackTraces = false) (Y : Env1) (hG : gY Y = gC) (a1 : Int32) (M : Mem) (res : Unit ⊕ Nat) (M1 : Mem) (hE : LL_needCell a1 M = some (res, M1)) : TnV l Y yX7_needCell cX7_needCell 2 6 1 6 [.ref (hY Y + 0), .int a1] M res M1 := by
  refine mtx_V (own := RX7) hfl (by decide +kernel) rfl hG (Nat.le_of_ble_eq_true rfl) (fun X hS hT hY1 hl1 hret => ?_)
  subst hY1
  subst hl1
  have S0 := hS 0 0 (by decide) (by decide)
  have T0 := hT 0 0
  have S1 := hS 1 6 (by decide) (by decide)
  have T1 := hT 1 6
  show AW (setX X 0 0) 0 [(0, .ref (hY X.2.1.2 + 0)), (1, .int a1)] [] M
  unfold LL_needCell at hE
  refine r_aload_n S0 dX7_needCell_0 0 rfl ?_
  refine r_getRK S0 fc7 (by decide) 0 1 rfl rfl q_50 dX7_needCell_1 ?_
  refine r_getRKN S0 fc6 (by decide) 0 2 rfl rfl q_54 dX7_needCell_4 ?_
  refine r_iload_n S0 dX7_needCell_7 1 rfl ?_
  refine rc_I S0 (rn_V S0 fc0 (by decide) (c_GR_exists _ _ (gYX S0) 2 (by decide) a1 M _ rfl) wdX0_exists q_978 ⟨Nat.le_of_ble_eq_true rfl, Nat.le_of_ble_eq_true rfl⟩ rfl (Nat.le_of_ble_eq_true rfl) dX7_needCell_8) ?_
  refine r_if_ne S0 24 dX7_needCell_11 (by decide) (fun c => ?_) (fun c => ?_)
  · rw [if_pos c] at hE
    obtain ⟨rfl, rfl⟩ := si2 hE
    exact hret 0 0 _ _ (by decide) (by decide) dX7_needCell_24 rfl
  · rw [if_neg (not_not_intro c)] at hE
    obtain ⟨rfl, rfl⟩ := si2 hE
    exact r_thr S0 T0 1 rfl rfl (List.mem_of_getElem? (i := 2) rfl) (by decide +kernel) hcl1.1 hcl1.2 hat1 hgd1 (by decide) (Nat.le_of_ble_eq_true rfl) (Nat.le_of_ble_eq_true rfl) (Nat.le_of_ble_eq_true rfl) dX7_needCell_14 dX7_needCell_17 dX7_needCell_18 dX7_needCell_20 dX7_needCell_23
set_option maxRecDepth 100000 in
set_option maxHeartbeats 4000000 in
theorem c_LL_needNeighbors (l : Launch) (hfl : l.stackTraces = false) (Y : Env1) (hG : gY Y = gC) (a1 : Int32) (a2 : Int32) (M : Mem) (res : Unit ⊕ Nat) (M1 : Mem) (hE : LL_needNeighbors a1 a2 M = some (res, M1)) : TnV l Y yX7_needNeighbors cX7_needNeighbors 3 6 1 6 [.ref (hY Y + 0), .int a1, .int a2] M res M1 := by
  refine mtx_V (own := RX7) hfl (by decide +kernel) rfl hG (Nat.le_of_ble_eq_true rfl) (fun X hS hT hY1 hl1 hret => ?_)
  subst hY1
  subst hl1
  have S0 := hS 0 0 (by decide) (by decide)
  have T0 := hT 0 0
  have S1 := hS 1 6 (by decide) (by decide)
  have T1 := hT 1 6
  show AW (setX X 0 0) 0 [(0, .ref (hY X.2.1.2 + 0)), (1, .int a1), (2, .int a2)] [] M
  unfold LL_needNeighbors at hE
  refine r_aload_n S0 dX7_needNeighbors_0 0 rfl ?_
  refine r_getRK S0 fc7 (by decide) 0 1 rfl rfl q_50 dX7_needNeighbors_1 ?_
  refine r_getRKN S0 fc6 (by decide) 0 2 rfl rfl q_54 dX7_needNeighbors_4 ?_
  refine r_iload_n S0 dX7_needNeighbors_7 1 rfl ?_
  refine r_iload_n S0 dX7_needNeighbors_8 2 rfl ?_
  obtain ⟨x1, h9, hE⟩ := b1_some hE
  refine rc_I S0 (rn_V S0 fc0 (by decide) (c_GR_sideTo _ _ (gYX S0) 2 (by decide) a1 a2 M _ h9) wdX0_sideTo q_979 ⟨Nat.le_of_ble_eq_true rfl, Nat.le_of_ble_eq_true rfl⟩ rfl (Nat.le_of_ble_eq_true rfl) dX7_needNeighbors_9) ?_
  refine r_iconst S0 (-1 : Int32) dX7_needNeighbors_12 rfl ?_
  refine r_icmp_ne S0 26 dX7_needNeighbors_13 (by decide) (fun c => ?_) (fun c => ?_)
  · rw [if_pos c] at hE
    obtain ⟨rfl, rfl⟩ := si2 hE
    exact hret 0 0 _ _ (by decide) (by decide) dX7_needNeighbors_26 rfl
  · rw [if_neg (not_not_intro c)] at hE
    obtain ⟨rfl, rfl⟩ := si2 hE
    exact r_thr S0 T0 1 rfl rfl (List.mem_of_getElem? (i := 3) rfl) (by decide +kernel) hcl1.1 hcl1.2 hat1 hgd1 (by decide) (Nat.le_of_ble_eq_true rfl) (Nat.le_of_ble_eq_true rfl) (Nat.le_of_ble_eq_true rfl) dX7_needNeighbors_16 dX7_needNeighbors_19 dX7_needNeighbors_20 dX7_needNeighbors_22 dX7_needNeighbors_25
set_option maxRecDepth 100000 in
set_option maxHeartbeats 4000000 in
theorem c_LL_needLake (l : Launch) (hfl : l.stackTraces = false) (Y : Env1) (hG : gY Y = gC) (a1 : Int32) (M : Mem) (res : Int32 ⊕ Nat) (M1 : Mem) (hE : LL_needLake a1 M = some (res, M1)) : TnI l Y yX7_needLake cX7_needLake 3 .int 6 1 6 [.ref (hY Y + 0), .int a1] M res M1 := by
  refine mtx_I (own := RX7) hfl (by decide +kernel) rfl hG (Nat.le_of_ble_eq_true rfl) (fun X hS hT hY1 hl1 hret => ?_)
  subst hY1
  subst hl1
  have S0 := hS 0 0 (by decide) (by decide)
  have T0 := hT 0 0
  have S1 := hS 1 6 (by decide) (by decide)
  have T1 := hT 1 6
  show AW (setX X 0 0) 0 [(0, .ref (hY X.2.1.2 + 0)), (1, .int a1)] [] M
  unfold LL_needLake at hE
  refine r_aload_n S0 dX7_needLake_0 0 rfl ?_
  refine r_getRK S0 fc7 (by decide) 0 1 rfl rfl q_50 dX7_needLake_1 ?_
  refine r_getRKN S0 fc6 (by decide) 2 20 rfl rfl q_51 dX7_needLake_4 ?_
  refine r_iload_n S0 dX7_needLake_7 1 rfl ?_
  obtain ⟨x1, h9, hE⟩ := b1_some hE
  refine rc_I S0 (rn_V S0 fc1 (by decide) (c_LK_placeOf _ _ (gYX S0) 20 (by decide) a1 M _ h9) wdX1_placeOf q_504 ⟨Nat.le_of_ble_eq_true rfl, Nat.le_of_ble_eq_true rfl⟩ rfl (Nat.le_of_ble_eq_true rfl) dX7_needLake_8) ?_
  refine r_istore_n (lv2 := [(2, .int x1), (0, .ref (hY X.2.1.2 + 0)), (1, .int a1)]) S0 dX7_needLake_11 (by decide) rfl ?_
  refine r_iload_n S0 dX7_needLake_12 0 rfl ?_
  refine r_iconst S0 (-1 : Int32) dX7_needLake_13 rfl ?_
  refine r_icmp_ne S0 27 dX7_needLake_14 (by decide) (fun c => ?_) (fun c => ?_)
  · rw [if_pos c] at hE
    refine r_iload_n S0 dX7_needLake_27 0 rfl ?_
    obtain ⟨rfl, rfl⟩ := si2 hE
    exact hret 0 0 _ _ _ (by decide) (by decide) dX7_needLake_28 rfl
  · rw [if_neg (not_not_intro c)] at hE
    obtain ⟨rfl, rfl⟩ := si2 hE
    exact r_thr S0 T0 1 rfl rfl (List.mem_of_getElem? (i := 4) rfl) (by decide +kernel) hcl1.1 hcl1.2 hat1 hgd1 (by decide) (Nat.le_of_ble_eq_true rfl) (Nat.le_of_ble_eq_true rfl) (Nat.le_of_ble_eq_true rfl) dX7_needLake_17 dX7_needLake_20 dX7_needLake_21 dX7_needLake_23 dX7_needLake_26
set_option maxRecDepth 100000 in
set_option maxHeartbeats 4000000 in
theorem c_LL_needRoom (l : Launch) (hfl : l.stackTraces = false) (Y : Env1) (hG : gY Y = gC) (a1 : Int32) (M : Mem) (res : Unit ⊕ Nat) (M1 : Mem) (hE : LL_needRoom a1 M = some (res, M1)) : TnV l Y yX7_needRoom cX7_needRoom 2 6 1 6 [.ref (hY Y + 0), .int a1] M res M1 := by
  refine mtx_V (own := RX7) hfl (by decide +kernel) rfl hG (Nat.le_of_ble_eq_true rfl) (fun X hS hT hY1 hl1 hret => ?_)
  subst hY1
  subst hl1
  have S0 := hS 0 0 (by decide) (by decide)
  have T0 := hT 0 0
  have S1 := hS 1 6 (by decide) (by decide)
  have T1 := hT 1 6
  show AW (setX X 0 0) 0 [(0, .ref (hY X.2.1.2 + 0)), (1, .int a1)] [] M
  unfold LL_needRoom at hE
  refine r_aload_n S0 dX7_needRoom_0 0 rfl ?_
  refine r_getRK S0 fc7 (by decide) 0 1 rfl rfl q_50 dX7_needRoom_1 ?_
  refine r_getRKN S0 fc6 (by decide) 2 20 rfl rfl q_51 dX7_needRoom_4 ?_
  obtain ⟨x1, h9, hE⟩ := b1_some hE
  refine rc_I S0 (rn_V S0 fc1 (by decide) (c_LK_water _ _ (gYX S0) 20 (by decide) M _ h9) wdX1_water q_487 ⟨Nat.le_of_ble_eq_true rfl, Nat.le_of_ble_eq_true rfl⟩ rfl (Nat.le_of_ble_eq_true rfl) dX7_needRoom_7) ?_
  refine r_iload_n S0 dX7_needRoom_10 1 rfl ?_
  refine r_iadd S0 dX7_needRoom_11 ?_
  refine r_ldcw S0 (v := 1000000) q_980 dX7_needRoom_12 ?_
  refine r_icmp_le S0 29 dX7_needRoom_15 (by decide) (fun c => ?_) (fun c => ?_)
  · rw [if_pos c] at hE
    obtain ⟨rfl, rfl⟩ := si2 hE
    exact hret 0 0 _ _ (by decide) (by decide) dX7_needRoom_29 rfl
  · rw [if_neg c] at hE
    obtain ⟨rfl, rfl⟩ := si2 hE
    exact r_thrW S0 T0 3 rfl rfl (List.mem_of_getElem? (i := 5) rfl) (by decide +kernel) hcl3.1 hcl3.2 hat3 hgd3 (by decide) (Nat.le_of_ble_eq_true rfl) (Nat.le_of_ble_eq_true rfl) (Nat.le_of_ble_eq_true rfl) dX7_needRoom_18 dX7_needRoom_21 dX7_needRoom_22 dX7_needRoom_25 dX7_needRoom_28
set_option maxRecDepth 100000 in
set_option maxHeartbeats 4000000 in
theorem c_LL_needWithin (l : Launch) (hfl : l.stackTraces = false) (Y : Env1) (hG : gY Y = gC) (a0 : Int32) (a1 : Int32) (a2 : Int32) (M : Mem) (res : Unit ⊕ Nat) (M1 : Mem) (hE : LL_needWithin a0 a1 a2 M = some (res, M1)) : TnV l Y yX7_needWithin cX7_needWithin 3 6 1 6 [.int a0, .int a1, .int a2] M res M1 := by
  refine mtx_V (own := RX7) hfl (by decide +kernel) rfl hG (Nat.le_of_ble_eq_true rfl) (fun X hS hT hY1 hl1 hret => ?_)
  subst hY1
  subst hl1
  have S0 := hS 0 0 (by decide) (by decide)
  have T0 := hT 0 0
  have S1 := hS 1 6 (by decide) (by decide)
  have T1 := hT 1 6
  show AW (setX X 0 0) 0 [(0, .int a0), (1, .int a1), (2, .int a2)] [] M
  unfold LL_needWithin at hE
  refine r_iload_n S0 dX7_needWithin_0 0 rfl ?_
  refine r_iload_n S0 dX7_needWithin_1 1 rfl ?_
  refine r_icmp_lt S0 10 dX7_needWithin_2 (by decide) (fun c => ?_) (fun c => ?_)
  · rw [if_pos c] at hE
    obtain ⟨rfl, rfl⟩ := si2 hE
    exact r_thrW S0 T0 2 rfl rfl (List.mem_of_getElem? (i := 6) rfl) (by decide +kernel) hcl2.1 hcl2.2 hat2 hgd2 (by decide) (Nat.le_of_ble_eq_true rfl) (Nat.le_of_ble_eq_true rfl) (Nat.le_of_ble_eq_true rfl) dX7_needWithin_10 dX7_needWithin_13 dX7_needWithin_14 dX7_needWithin_17 dX7_needWithin_20
  · rw [if_neg c] at hE
    refine r_iload_n S0 dX7_needWithin_5 0 rfl ?_
    refine r_iload_n S0 dX7_needWithin_6 2 rfl ?_
    refine r_icmp_le S0 21 dX7_needWithin_7 (by decide) (fun c => ?_) (fun c => ?_)
    · rw [if_pos c] at hE
      obtain ⟨rfl, rfl⟩ := si2 hE
      exact hret 0 0 _ _ (by decide) (by decide) dX7_needWithin_21 rfl
    · rw [if_neg c] at hE
      obtain ⟨rfl, rfl⟩ := si2 hE
      exact r_thrW S0 T0 2 rfl rfl (List.mem_of_getElem? (i := 6) rfl) (by decide +kernel) hcl2.1 hcl2.2 hat2 hgd2 (by decide) (Nat.le_of_ble_eq_true rfl) (Nat.le_of_ble_eq_true rfl) (Nat.le_of_ble_eq_true rfl) dX7_needWithin_10 dX7_needWithin_13 dX7_needWithin_14 dX7_needWithin_17 dX7_needWithin_20
set_option maxRecDepth 100000 in
set_option maxHeartbeats 4000000 in
theorem c_LL_begin (l : Launch) (hfl : l.stackTraces = false) (Y : Env1) (hG : gY Y = gC) (a1 : Int32) (a2 : Int32) (M : Mem) (res : Int32 ⊕ Nat) (M1 : Mem) (hE : LL_begin a1 a2 M = some (res, M1)) : TnI l Y yX7_begin cX7_begin 3 .int 7 2 12 [.ref (hY Y + 0), .int a1, .int a2] M res M1 := by
  refine mtx_I (own := RX7) hfl (by decide +kernel) rfl hG (Nat.le_of_ble_eq_true rfl) (fun X hS hT hY1 hl1 hret => ?_)
  subst hY1
  subst hl1
  have S0 := hS 0 0 (by decide) (by decide)
  have T0 := hT 0 0
  have S1 := hS 1 6 (by decide) (by decide)
  have T1 := hT 1 6
  have S2 := hS 2 12 (by decide) (by decide)
  have T2 := hT 2 12
  show AW (setX X 0 0) 0 [(0, .ref (hY X.2.1.2 + 0)), (1, .int a1), (2, .int a2)] [] M
  unfold LL_begin at hE
  refine r_iload_n S0 dX7_begin_0 1 rfl ?_
  refine r_iconst S0 (1 : Int32) dX7_begin_1 rfl ?_
  refine r_bipush S0 (6 : Int32) dX7_begin_2 rfl ?_
  obtain ⟨x1, M2, h9, hp, hE⟩ := bx_some hE
  refine xc_V S0 T0 1 6 rfl rfl (by decide) (by decide) (xn_S S0 T0.2.2.2.1 T0.2.2.2.2.2.1 (c_LL_needWithin _ hfl _ (gYX S0) a1 (1 : Int32) (6 : Int32) M _ _ h9) wdX7_needWithin q_981 ⟨Nat.le_of_ble_eq_true rfl, Nat.le_of_ble_eq_true rfl⟩ ⟨Nat.le_trans (Nat.le_of_ble_eq_true rfl) T0.2.2.2.2.2.2.1, Nat.le_trans (Nat.le_of_ble_eq_true rfl) T0.2.2.2.2.2.2.2⟩ rfl (Nat.le_of_ble_eq_true rfl) dX7_begin_4) hp (fun hr => ?_)
  replace hE := hE () hr
  refine r_iload_n S1 dX7_begin_7 2 rfl ?_
  refine r_iconst S1 (1 : Int32) dX7_begin_8 rfl ?_
  refine r_bipush S1 (6 : Int32) dX7_begin_9 rfl ?_
  obtain ⟨x3, M4, h9, hp, hE⟩ := bx_some hE
  refine xc_V S1 T1 2 12 rfl rfl (by decide) (by decide) (xn_S S1 T1.2.2.2.1 T1.2.2.2.2.2.1 (c_LL_needWithin _ hfl _ (gYX S1) a2 (1 : Int32) (6 : Int32) M2 _ _ h9) wdX7_needWithin q_981 ⟨Nat.le_of_ble_eq_true rfl, Nat.le_of_ble_eq_true rfl⟩ ⟨Nat.le_trans (Nat.le_of_ble_eq_true rfl) T1.2.2.2.2.2.2.1, Nat.le_trans (Nat.le_of_ble_eq_true rfl) T1.2.2.2.2.2.2.2⟩ rfl (Nat.le_of_ble_eq_true rfl) dX7_begin_11) hp (fun hr => ?_)
  replace hE := hE () hr
  refine r_aload_n S2 dX7_begin_14 0 rfl ?_
  obtain ⟨x5, M6, h9, hE⟩ := b2_some hE
  refine rc_V S2 (rn_V S2 fc7 (by decide) (c_LL_save _ _ (gYX S2)  M4 _ _ h9) wdX7_save q_405 ⟨Nat.le_of_ble_eq_true rfl, Nat.le_of_ble_eq_true rfl⟩ rfl (Nat.le_of_ble_eq_true rfl) dX7_begin_15) ?_
  refine r_aload_n S2 dX7_begin_18 0 rfl ?_
  refine r_getRK S2 fc7 (by decide) 0 1 rfl rfl q_50 dX7_begin_19 ?_
  refine r_getRKN S2 fc6 (by decide) 0 2 rfl rfl q_54 dX7_begin_22 ?_
  refine r_iload_n S2 dX7_begin_25 1 rfl ?_
  refine r_iload_n S2 dX7_begin_26 2 rfl ?_
  obtain ⟨x7, M8, h9, hE⟩ := b2_some hE
  refine rc_V S2 (rn_V S2 fc0 (by decide) (c_GR_lay _ _ (gYX S2) 2 (by decide) a1 a2 M6 _ _ h9) wdX0_lay q_985 ⟨Nat.le_of_ble_eq_true rfl, Nat.le_of_ble_eq_true rfl⟩ rfl (Nat.le_of_ble_eq_true rfl) dX7_begin_27) ?_
  refine r_aload_n S2 dX7_begin_30 0 rfl ?_
  refine r_getRK S2 fc7 (by decide) 0 1 rfl rfl q_50 dX7_begin_31 ?_
  obtain ⟨x9, M10, h9, hE⟩ := b2_some hE
  refine rc_V S2 (rn_V S2 fc6 (by decide) (c_WD_restart _ _ (gYX S2) 1 (by decide) M8 _ _ h9) wdX6_restart q_411 ⟨Nat.le_of_ble_eq_true rfl, Nat.le_of_ble_eq_true rfl⟩ rfl (Nat.le_of_ble_eq_true rfl) dX7_begin_34) ?_
  refine r_aload_n S2 dX7_begin_37 0 rfl ?_
  refine r_getRK S2 fc7 (by decide) 0 1 rfl rfl q_50 dX7_begin_38 ?_
  refine r_getRKN S2 fc6 (by decide) 0 2 rfl rfl q_54 dX7_begin_41 ?_
  refine r_getIN S2 fc0 (by decide) 2 rfl q_80 dX7_begin_44 ?_
  obtain ⟨rfl, rfl⟩ := si2 hE
  exact hret 2 12 _ _ _ (by decide) (by decide) dX7_begin_47 rfl
set_option maxRecDepth 100000 in
set_option maxHeartbeats 4000000 in
theorem c_LL_setHeight (l : Launch) (hfl : l.stackTraces = false) (Y : Env1) (hG : gY Y = gC) (a1 : Int32) (a2 : Int32) (M : Mem) (res : Int32 ⊕ Nat) (M1 : Mem) (hE : LL_setHeight a1 a2 M = some (res, M1)) : TnI l Y yX7_setHeight cX7_setHeight 4 .int 7 2 12 [.ref (hY Y + 0), .int a1, .int a2] M res M1 := by
  refine mtx_I (own := RX7) hfl (by decide +kernel) rfl hG (Nat.le_of_ble_eq_true rfl) (fun X hS hT hY1 hl1 hret => ?_)
  subst hY1
  subst hl1
  have S0 := hS 0 0 (by decide) (by decide)
  have T0 := hT 0 0
  have S1 := hS 1 6 (by decide) (by decide)
  have T1 := hT 1 6
  have S2 := hS 2 12 (by decide) (by decide)
  have T2 := hT 2 12
  show AW (setX X 0 0) 0 [(0, .ref (hY X.2.1.2 + 0)), (1, .int a1), (2, .int a2)] [] M
  unfold LL_setHeight at hE
  refine r_aload_n S0 dX7_setHeight_0 0 rfl ?_
  refine r_iload_n S0 dX7_setHeight_1 1 rfl ?_
  obtain ⟨x1, M2, h9, hp, hE⟩ := bx_some hE
  refine xc_V S0 T0 1 6 rfl rfl (by decide) (by decide) (xn_V S0 T0.2.2.2.1 T0.2.2.2.2.2.1 fc7 (by decide) (c_LL_needCell _ hfl _ (gYX S0) a1 M _ _ h9) wdX7_needCell q_986 ⟨Nat.le_of_ble_eq_true rfl, Nat.le_of_ble_eq_true rfl⟩ ⟨Nat.le_trans (Nat.le_of_ble_eq_true rfl) T0.2.2.2.2.2.2.1, Nat.le_trans (Nat.le_of_ble_eq_true rfl) T0.2.2.2.2.2.2.2⟩ rfl (Nat.le_of_ble_eq_true rfl) dX7_setHeight_2) hp (fun hr => ?_)
  replace hE := hE () hr
  refine r_iload_n S1 dX7_setHeight_5 2 rfl ?_
  refine r_iconst S1 (0 : Int32) dX7_setHeight_6 rfl ?_
  refine r_bipush S1 (99 : Int32) dX7_setHeight_7 rfl ?_
  obtain ⟨x3, M4, h9, hp, hE⟩ := bx_some hE
  refine xc_V S1 T1 2 12 rfl rfl (by decide) (by decide) (xn_S S1 T1.2.2.2.1 T1.2.2.2.2.2.1 (c_LL_needWithin _ hfl _ (gYX S1) a2 (0 : Int32) (99 : Int32) M2 _ _ h9) wdX7_needWithin q_981 ⟨Nat.le_of_ble_eq_true rfl, Nat.le_of_ble_eq_true rfl⟩ ⟨Nat.le_trans (Nat.le_of_ble_eq_true rfl) T1.2.2.2.2.2.2.1, Nat.le_trans (Nat.le_of_ble_eq_true rfl) T1.2.2.2.2.2.2.2⟩ rfl (Nat.le_of_ble_eq_true rfl) dX7_setHeight_9) hp (fun hr => ?_)
  replace hE := hE () hr
  refine r_aload_n S2 dX7_setHeight_12 0 rfl ?_
  refine r_getRK S2 fc7 (by decide) 0 1 rfl rfl q_50 dX7_setHeight_13 ?_
  refine r_getRKN S2 fc6 (by decide) 0 2 rfl rfl q_54 dX7_setHeight_16 ?_
  refine r_getRKN S2 fc0 (by decide) 4 3 rfl rfl q_71 dX7_setHeight_19 ?_
  refine r_iload_n S2 dX7_setHeight_22 1 rfl ?_
  refine rc_I S2 (rn_V S2 fc3 (by decide) (c_NR_at _ _ (gYX S2) 3 (by decide) a1 M4 _ rfl) wdX3_at q_53 ⟨Nat.le_of_ble_eq_true rfl, Nat.le_of_ble_eq_true rfl⟩ rfl (Nat.le_of_ble_eq_true rfl) dX7_setHeight_23) ?_
  refine r_istore_n (lv2 := [(3, .int (fAtI 3 a1 M4)), (0, .ref (hY X.2.1.2 + 0)), (1, .int a1), (2, .int a2)]) S2 dX7_setHeight_26 (by decide) rfl ?_
  refine r_aload_n S2 dX7_setHeight_27 1 rfl ?_
  obtain ⟨x5, M6, h9, hE⟩ := b2_some hE
  refine rc_V S2 (rn_V S2 fc7 (by decide) (c_LL_save _ _ (gYX S2)  M4 _ _ h9) wdX7_save q_405 ⟨Nat.le_of_ble_eq_true rfl, Nat.le_of_ble_eq_true rfl⟩ rfl (Nat.le_of_ble_eq_true rfl) dX7_setHeight_28) ?_
  refine r_aload_n S2 dX7_setHeight_31 1 rfl ?_
  refine r_getRK S2 fc7 (by decide) 0 1 rfl rfl q_50 dX7_setHeight_32 ?_
  obtain ⟨x7, M8, h9, hE⟩ := b2_some hE
  refine rc_V S2 (rn_V S2 fc6 (by decide) (c_WD_noteLakes _ _ (gYX S2) 1 (by decide) M6 _ _ h9) wdX6_noteLakes q_991 ⟨Nat.le_of_ble_eq_true rfl, Nat.le_of_ble_eq_true rfl⟩ rfl (Nat.le_of_ble_eq_true rfl) dX7_setHeight_35) ?_
  refine r_aload_n S2 dX7_setHeight_38 1 rfl ?_
  refine r_getRK S2 fc7 (by decide) 0 1 rfl rfl q_50 dX7_setHeight_39 ?_
  refine r_getRKN S2 fc6 (by decide) 0 2 rfl rfl q_54 dX7_setHeight_42 ?_
  refine r_getRKN S2 fc0 (by decide) 4 3 rfl rfl q_71 dX7_setHeight_45 ?_
  refine r_iload_n S2 dX7_setHeight_48 2 rfl ?_
  refine r_iload_n S2 dX7_setHeight_49 3 rfl ?_
  refine rc_V S2 (rn_V S2 fc3 (by decide) (c_NR_put _ _ (gYX S2) 3 (by decide) a1 a2 M8 _ rfl) wdX3_put q_996 ⟨Nat.le_of_ble_eq_true rfl, Nat.le_of_ble_eq_true rfl⟩ rfl (Nat.le_of_ble_eq_true rfl) dX7_setHeight_50) ?_
  refine r_aload_n S2 dX7_setHeight_53 1 rfl ?_
  refine r_getRK S2 fc7 (by decide) 0 1 rfl rfl q_50 dX7_setHeight_54 ?_
  obtain ⟨x9, M10, h9, hE⟩ := b2_some hE
  refine rc_V S2 (rn_V S2 fc6 (by decide) (c_WD_renew _ _ (gYX S2) 1 (by decide) (fPutI 3 a1 a2 M8) _ _ h9) wdX6_renew q_997 ⟨Nat.le_of_ble_eq_true rfl, Nat.le_of_ble_eq_true rfl⟩ rfl (Nat.le_of_ble_eq_true rfl) dX7_setHeight_57) ?_
  refine r_iload_n S2 dX7_setHeight_60 0 rfl ?_
  obtain ⟨rfl, rfl⟩ := si2 hE
  exact hret 2 12 _ _ _ (by decide) (by decide) dX7_setHeight_61 rfl
set_option maxRecDepth 100000 in
set_option maxHeartbeats 4000000 in
theorem c_LL_setDrain (l : Launch) (hfl : l.stackTraces = false) (Y : Env1) (hG : gY Y = gC) (a1 : Int32) (a2 : Int32) (M : Mem) (res : Int32 ⊕ Nat) (M1 : Mem) (hE : LL_setDrain a1 a2 M = some (res, M1)) : TnI l Y yX7_setDrain cX7_setDrain 4 .boolean 7 1 6 [.ref (hY Y + 0), .int a1, .int a2] M res M1 := by
  refine mtx_Z (own := RX7) hfl (by decide +kernel) rfl hG (Nat.le_of_ble_eq_true rfl) (fun X hS hT hY1 hl1 hret => ?_)
  subst hY1
  subst hl1
  have S0 := hS 0 0 (by decide) (by decide)
  have T0 := hT 0 0
  have S1 := hS 1 6 (by decide) (by decide)
  have T1 := hT 1 6
  show AW (setX X 0 0) 0 [(0, .ref (hY X.2.1.2 + 0)), (1, .int a1), (2, .int a2)] [] M
  unfold LL_setDrain at hE
  refine r_aload_n S0 dX7_setDrain_0 0 rfl ?_
  refine r_iload_n S0 dX7_setDrain_1 1 rfl ?_
  obtain ⟨x1, M2, h9, hp, hE⟩ := bx_some hE
  refine xc_V S0 T0 1 6 rfl rfl (by decide) (by decide) (xn_V S0 T0.2.2.2.1 T0.2.2.2.2.2.1 fc7 (by decide) (c_LL_needCell _ hfl _ (gYX S0) a1 M _ _ h9) wdX7_needCell q_986 ⟨Nat.le_of_ble_eq_true rfl, Nat.le_of_ble_eq_true rfl⟩ ⟨Nat.le_trans (Nat.le_of_ble_eq_true rfl) T0.2.2.2.2.2.2.1, Nat.le_trans (Nat.le_of_ble_eq_true rfl) T0.2.2.2.2.2.2.2⟩ rfl (Nat.le_of_ble_eq_true rfl) dX7_setDrain_2) hp (fun hr => ?_)
  replace hE := hE () hr
  refine r_aload_n S1 dX7_setDrain_5 0 rfl ?_
  refine r_getRK S1 fc7 (by decide) 0 1 rfl rfl q_50 dX7_setDrain_6 ?_
  refine r_getRKN S1 fc6 (by decide) 0 2 rfl rfl q_54 dX7_setDrain_9 ?_
  refine r_getLN S1 fc0 (by decide) 3 rfl q_456 dX7_setDrain_12 ?_
  refine r_iload_n S1 dX7_setDrain_15 1 rfl ?_
  refine rc_I S1 (rn_S S1 (c_LL_has _ _ (gYX S1) (gL M2 2 3) a1 M2 _ rfl) wdX7_has q_60 ⟨Nat.le_of_ble_eq_true rfl, Nat.le_of_ble_eq_true rfl⟩ rfl (Nat.le_of_ble_eq_true rfl) dX7_setDrain_16) ?_
  refine r_istore_n (lv2 := [(3, .int (LL_has (gL M2 2 3) a1)), (0, .ref (hY X.2.1.2 + 0)), (1, .int a1), (2, .int a2)]) S1 dX7_setDrain_19 (by decide) rfl ?_
  refine r_aload_n S1 dX7_setDrain_20 1 rfl ?_
  obtain ⟨x3, M4, h9, hE⟩ := b2_some hE
  refine rc_V S1 (rn_V S1 fc7 (by decide) (c_LL_save _ _ (gYX S1)  M2 _ _ h9) wdX7_save q_405 ⟨Nat.le_of_ble_eq_true rfl, Nat.le_of_ble_eq_true rfl⟩ rfl (Nat.le_of_ble_eq_true rfl) dX7_setDrain_21) ?_
  refine r_aload_n S1 dX7_setDrain_24 1 rfl ?_
  refine r_getRK S1 fc7 (by decide) 0 1 rfl rfl q_50 dX7_setDrain_25 ?_
  obtain ⟨x5, M6, h9, hE⟩ := b2_some hE
  refine rc_V S1 (rn_V S1 fc6 (by decide) (c_WD_noteLakes _ _ (gYX S1) 1 (by decide) M4 _ _ h9) wdX6_noteLakes q_991 ⟨Nat.le_of_ble_eq_true rfl, Nat.le_of_ble_eq_true rfl⟩ rfl (Nat.le_of_ble_eq_true rfl) dX7_setDrain_28) ?_
  refine r_aload_n S1 dX7_setDrain_31 1 rfl ?_
  refine r_getRK S1 fc7 (by decide) 0 1 rfl rfl q_50 dX7_setDrain_32 ?_
  refine r_getRKN S1 fc6 (by decide) 0 2 rfl rfl q_54 dX7_setDrain_35 ?_
  refine r_iload_n S1 dX7_setDrain_38 2 rfl ?_
  refine r_iload_n S1 dX7_setDrain_39 3 rfl ?_
  obtain ⟨x7, M8, h9, hE⟩ := b2_some hE
  refine rc_V S1 (rn_V S1 fc0 (by decide) (c_GR_putDrain _ _ (gYX S1) 2 (by decide) a1 a2 M6 _ _ h9) wdX0_putDrain q_1002 ⟨Nat.le_of_ble_eq_true rfl, Nat.le_of_ble_eq_true rfl⟩ rfl (Nat.le_of_ble_eq_true rfl) dX7_setDrain_40) ?_
  refine r_aload_n S1 dX7_setDrain_43 1 rfl ?_
  refine r_getRK S1 fc7 (by decide) 0 1 rfl rfl q_50 dX7_setDrain_44 ?_
  obtain ⟨x9, M10, h9, hE⟩ := b2_some hE
  refine rc_V S1 (rn_V S1 fc6 (by decide) (c_WD_renew _ _ (gYX S1) 1 (by decide) M8 _ _ h9) wdX6_renew q_997 ⟨Nat.le_of_ble_eq_true rfl, Nat.le_of_ble_eq_true rfl⟩ rfl (Nat.le_of_ble_eq_true rfl) dX7_setDrain_47) ?_
  refine r_iload_n S1 dX7_setDrain_50 0 rfl ?_
  obtain ⟨rfl, rfl⟩ := si2 hE
  exact hret 1 6 _ _ _ (by decide) (by decide) dX7_setDrain_51 rfl
set_option maxRecDepth 100000 in
set_option maxHeartbeats 4000000 in
theorem c_LL_setGate (l : Launch) (hfl : l.stackTraces = false) (Y : Env1) (hG : gY Y = gC) (a1 : Int32) (a2 : Int32) (a3 : Int32) (M : Mem) (res : Int32 ⊕ Nat) (M1 : Mem) (hE : LL_setGate a1 a2 a3 M = some (res, M1)) : TnI l Y yX7_setGate cX7_setGate 5 .int 7 2 12 [.ref (hY Y + 0), .int a1, .int a2, .int a3] M res M1 := by
  refine mtx_I (own := RX7) hfl (by decide +kernel) rfl hG (Nat.le_of_ble_eq_true rfl) (fun X hS hT hY1 hl1 hret => ?_)
  subst hY1
  subst hl1
  have S0 := hS 0 0 (by decide) (by decide)
  have T0 := hT 0 0
  have S1 := hS 1 6 (by decide) (by decide)
  have T1 := hT 1 6
  have S2 := hS 2 12 (by decide) (by decide)
  have T2 := hT 2 12
  show AW (setX X 0 0) 0 [(0, .ref (hY X.2.1.2 + 0)), (1, .int a1), (2, .int a2), (3, .int a3)] [] M
  unfold LL_setGate at hE
  refine r_aload_n S0 dX7_setGate_0 0 rfl ?_
  refine r_iload_n S0 dX7_setGate_1 1 rfl ?_
  refine r_iload_n S0 dX7_setGate_2 2 rfl ?_
  obtain ⟨x1, M2, h9, hp, hE⟩ := bx_some hE
  refine xc_V S0 T0 1 6 rfl rfl (by decide) (by decide) (xn_V S0 T0.2.2.2.1 T0.2.2.2.2.2.1 fc7 (by decide) (c_LL_needNeighbors _ hfl _ (gYX S0) a1 a2 M _ _ h9) wdX7_needNeighbors q_1003 ⟨Nat.le_of_ble_eq_true rfl, Nat.le_of_ble_eq_true rfl⟩ ⟨Nat.le_trans (Nat.le_of_ble_eq_true rfl) T0.2.2.2.2.2.2.1, Nat.le_trans (Nat.le_of_ble_eq_true rfl) T0.2.2.2.2.2.2.2⟩ rfl (Nat.le_of_ble_eq_true rfl) dX7_setGate_3) hp (fun hr => ?_)
  replace hE := hE () hr
  refine r_iload_n S1 dX7_setGate_6 3 rfl ?_
  refine r_iconst S1 (-1 : Int32) dX7_setGate_7 rfl ?_
  refine r_bipush S1 (99 : Int32) dX7_setGate_8 rfl ?_
  obtain ⟨x3, M4, h9, hp, hE⟩ := bx_some hE
  refine xc_V S1 T1 2 12 rfl rfl (by decide) (by decide) (xn_S S1 T1.2.2.2.1 T1.2.2.2.2.2.1 (c_LL_needWithin _ hfl _ (gYX S1) a3 (-1 : Int32) (99 : Int32) M2 _ _ h9) wdX7_needWithin q_981 ⟨Nat.le_of_ble_eq_true rfl, Nat.le_of_ble_eq_true rfl⟩ ⟨Nat.le_trans (Nat.le_of_ble_eq_true rfl) T1.2.2.2.2.2.2.1, Nat.le_trans (Nat.le_of_ble_eq_true rfl) T1.2.2.2.2.2.2.2⟩ rfl (Nat.le_of_ble_eq_true rfl) dX7_setGate_10) hp (fun hr => ?_)
  replace hE := hE () hr
  refine r_aload_n S2 dX7_setGate_13 0 rfl ?_
  refine r_getRK S2 fc7 (by decide) 0 1 rfl rfl q_50 dX7_setGate_14 ?_
  refine r_getRKN S2 fc6 (by decide) 0 2 rfl rfl q_54 dX7_setGate_17 ?_
  refine r_getRKN S2 fc0 (by decide) 6 7 rfl rfl q_1008 dX7_setGate_20 ?_
  refine r_aload_n S2 dX7_setGate_23 0 rfl ?_
  refine r_getRK S2 fc7 (by decide) 0 1 rfl rfl q_50 dX7_setGate_24 ?_
  refine r_getRKN S2 fc6 (by decide) 0 2 rfl rfl q_54 dX7_setGate_27 ?_
  refine r_iload_n S2 dX7_setGate_30 1 rfl ?_
  refine r_iload_n S2 dX7_setGate_31 2 rfl ?_
  obtain ⟨x5, h9, hE⟩ := b1_some hE
  refine rc_I S2 (rn_V S2 fc0 (by decide) (c_GR_sideTo _ _ (gYX S2) 2 (by decide) a1 a2 M4 _ h9) wdX0_sideTo q_979 ⟨Nat.le_of_ble_eq_true rfl, Nat.le_of_ble_eq_true rfl⟩ rfl (Nat.le_of_ble_eq_true rfl) dX7_setGate_32) ?_
  refine rc_I S2 (rn_V S2 fc3 (by decide) (c_NR_at _ _ (gYX S2) 7 (by decide) x5 M4 _ rfl) wdX3_at q_53 ⟨Nat.le_of_ble_eq_true rfl, Nat.le_of_ble_eq_true rfl⟩ rfl (Nat.le_of_ble_eq_true rfl) dX7_setGate_35) ?_
  refine r_istore (lv2 := [(4, .int (fAtI 7 x5 M4)), (0, .ref (hY X.2.1.2 + 0)), (1, .int a1), (2, .int a2), (3, .int a3)]) S2 dX7_setGate_38 (by decide) rfl ?_
  refine r_aload_n S2 dX7_setGate_40 1 rfl ?_
  obtain ⟨x6, M7, h9, hE⟩ := b2_some hE
  refine rc_V S2 (rn_V S2 fc7 (by decide) (c_LL_save _ _ (gYX S2)  M4 _ _ h9) wdX7_save q_405 ⟨Nat.le_of_ble_eq_true rfl, Nat.le_of_ble_eq_true rfl⟩ rfl (Nat.le_of_ble_eq_true rfl) dX7_setGate_41) ?_
  refine r_aload_n S2 dX7_setGate_44 1 rfl ?_
  refine r_getRK S2 fc7 (by decide) 0 1 rfl rfl q_50 dX7_setGate_45 ?_
  obtain ⟨x8, M9, h9, hE⟩ := b2_some hE
  refine rc_V S2 (rn_V S2 fc6 (by decide) (c_WD_noteLakes _ _ (gYX S2) 1 (by decide) M7 _ _ h9) wdX6_noteLakes q_991 ⟨Nat.le_of_ble_eq_true rfl, Nat.le_of_ble_eq_true rfl⟩ rfl (Nat.le_of_ble_eq_true rfl) dX7_setGate_48) ?_
  refine r_aload_n S2 dX7_setGate_51 1 rfl ?_
  refine r_getRK S2 fc7 (by decide) 0 1 rfl rfl q_50 dX7_setGate_52 ?_
  refine r_getRKN S2 fc6 (by decide) 0 2 rfl rfl q_54 dX7_setGate_55 ?_
  refine r_iload_n S2 dX7_setGate_58 2 rfl ?_
  refine r_iload_n S2 dX7_setGate_59 3 rfl ?_
  refine r_iload_n S2 dX7_setGate_60 4 rfl ?_
  obtain ⟨x10, M11, h9, hE⟩ := b2_some hE
  refine rc_V S2 (rn_V S2 fc0 (by decide) (c_GR_putGate _ _ (gYX S2) 2 (by decide) a1 a2 a3 M9 _ _ h9) wdX0_putGate q_1009 ⟨Nat.le_of_ble_eq_true rfl, Nat.le_of_ble_eq_true rfl⟩ rfl (Nat.le_of_ble_eq_true rfl) dX7_setGate_61) ?_
  refine r_aload_n S2 dX7_setGate_64 1 rfl ?_
  refine r_getRK S2 fc7 (by decide) 0 1 rfl rfl q_50 dX7_setGate_65 ?_
  obtain ⟨x12, M13, h9, hE⟩ := b2_some hE
  refine rc_V S2 (rn_V S2 fc6 (by decide) (c_WD_renew _ _ (gYX S2) 1 (by decide) M11 _ _ h9) wdX6_renew q_997 ⟨Nat.le_of_ble_eq_true rfl, Nat.le_of_ble_eq_true rfl⟩ rfl (Nat.le_of_ble_eq_true rfl) dX7_setGate_68) ?_
  refine r_iload S2 dX7_setGate_71 0 rfl ?_
  obtain ⟨rfl, rfl⟩ := si2 hE
  exact hret 2 12 _ _ _ (by decide) (by decide) dX7_setGate_73 rfl
set_option maxRecDepth 100000 in
set_option maxHeartbeats 4000000 in
theorem c_LL_random (l : Launch) (hfl : l.stackTraces = false) (Y : Env1) (hG : gY Y = gC) (a1 : Int32) (a2 : Int32) (M : Mem) (res : Int32 ⊕ Nat) (M1 : Mem) (hE : LL_random a1 a2 M = some (res, M1)) : TnI l Y yX7_random cX7_random 3 .int 7 2 12 [.ref (hY Y + 0), .int a1, .int a2] M res M1 := by
  refine mtx_I (own := RX7) hfl (by decide +kernel) rfl hG (Nat.le_of_ble_eq_true rfl) (fun X hS hT hY1 hl1 hret => ?_)
  subst hY1
  subst hl1
  have S0 := hS 0 0 (by decide) (by decide)
  have T0 := hT 0 0
  have S1 := hS 1 6 (by decide) (by decide)
  have T1 := hT 1 6
  have S2 := hS 2 12 (by decide) (by decide)
  have T2 := hT 2 12
  show AW (setX X 0 0) 0 [(0, .ref (hY X.2.1.2 + 0)), (1, .int a1), (2, .int a2)] [] M
  unfold LL_random at hE
  refine r_iload_n S0 dX7_random_0 1 rfl ?_
  refine r_iconst S0 (0 : Int32) dX7_random_1 rfl ?_
  refine r_ldc S0 (v := 999999) q_1010 dX7_random_2 ?_
  obtain ⟨x1, M2, h9, hp, hE⟩ := bx_some hE
  refine xc_V S0 T0 1 6 rfl rfl (by decide) (by decide) (xn_S S0 T0.2.2.2.1 T0.2.2.2.2.2.1 (c_LL_needWithin _ hfl _ (gYX S0) a1 (0 : Int32) (999999 : Int32) M _ _ h9) wdX7_needWithin q_981 ⟨Nat.le_of_ble_eq_true rfl, Nat.le_of_ble_eq_true rfl⟩ ⟨Nat.le_trans (Nat.le_of_ble_eq_true rfl) T0.2.2.2.2.2.2.1, Nat.le_trans (Nat.le_of_ble_eq_true rfl) T0.2.2.2.2.2.2.2⟩ rfl (Nat.le_of_ble_eq_true rfl) dX7_random_4) hp (fun hr => ?_)
  replace hE := hE () hr
  refine r_iload_n S1 dX7_random_7 2 rfl ?_
  refine r_iconst S1 (0 : Int32) dX7_random_8 rfl ?_
  refine r_bipush S1 (99 : Int32) dX7_random_9 rfl ?_
  obtain ⟨x3, M4, h9, hp, hE⟩ := bx_some hE
  refine xc_V S1 T1 2 12 rfl rfl (by decide) (by decide) (xn_S S1 T1.2.2.2.1 T1.2.2.2.2.2.1 (c_LL_needWithin _ hfl _ (gYX S1) a2 (0 : Int32) (99 : Int32) M2 _ _ h9) wdX7_needWithin q_981 ⟨Nat.le_of_ble_eq_true rfl, Nat.le_of_ble_eq_true rfl⟩ ⟨Nat.le_trans (Nat.le_of_ble_eq_true rfl) T1.2.2.2.2.2.2.1, Nat.le_trans (Nat.le_of_ble_eq_true rfl) T1.2.2.2.2.2.2.2⟩ rfl (Nat.le_of_ble_eq_true rfl) dX7_random_11) hp (fun hr => ?_)
  replace hE := hE () hr
  refine r_aload_n S2 dX7_random_14 0 rfl ?_
  obtain ⟨x5, M6, h9, hE⟩ := b2_some hE
  refine rc_V S2 (rn_V S2 fc7 (by decide) (c_LL_save _ _ (gYX S2)  M4 _ _ h9) wdX7_save q_405 ⟨Nat.le_of_ble_eq_true rfl, Nat.le_of_ble_eq_true rfl⟩ rfl (Nat.le_of_ble_eq_true rfl) dX7_random_15) ?_
  refine r_aload_n S2 dX7_random_18 0 rfl ?_
  refine r_getRK S2 fc7 (by decide) 0 1 rfl rfl q_50 dX7_random_19 ?_
  obtain ⟨x7, M8, h9, hE⟩ := b2_some hE
  refine rc_V S2 (rn_V S2 fc6 (by decide) (c_WD_noteLakes _ _ (gYX S2) 1 (by decide) M6 _ _ h9) wdX6_noteLakes q_991 ⟨Nat.le_of_ble_eq_true rfl, Nat.le_of_ble_eq_true rfl⟩ rfl (Nat.le_of_ble_eq_true rfl) dX7_random_22) ?_
  refine r_aload_n S2 dX7_random_25 0 rfl ?_
  refine r_getRK S2 fc7 (by decide) 0 1 rfl rfl q_50 dX7_random_26 ?_
  refine r_getRKN S2 fc6 (by decide) 0 2 rfl rfl q_54 dX7_random_29 ?_
  refine r_iload_n S2 dX7_random_32 1 rfl ?_
  refine r_iload_n S2 dX7_random_33 2 rfl ?_
  obtain ⟨x9, M10, h9, hE⟩ := b2_some hE
  refine rc_V S2 (rn_V S2 fc0 (by decide) (c_GR_scatter _ _ (gYX S2) 2 (by decide) a1 a2 M8 _ _ h9) wdX0_scatter q_1011 ⟨Nat.le_of_ble_eq_true rfl, Nat.le_of_ble_eq_true rfl⟩ rfl (Nat.le_of_ble_eq_true rfl) dX7_random_34) ?_
  refine r_aload_n S2 dX7_random_37 0 rfl ?_
  refine r_getRK S2 fc7 (by decide) 0 1 rfl rfl q_50 dX7_random_38 ?_
  obtain ⟨x11, M12, h9, hE⟩ := b2_some hE
  refine rc_V S2 (rn_V S2 fc6 (by decide) (c_WD_renew _ _ (gYX S2) 1 (by decide) M10 _ _ h9) wdX6_renew q_997 ⟨Nat.le_of_ble_eq_true rfl, Nat.le_of_ble_eq_true rfl⟩ rfl (Nat.le_of_ble_eq_true rfl) dX7_random_41) ?_
  refine r_aload_n S2 dX7_random_44 0 rfl ?_
  refine r_getRK S2 fc7 (by decide) 0 1 rfl rfl q_50 dX7_random_45 ?_
  refine r_getRKN S2 fc6 (by decide) 1 13 rfl rfl q_416 dX7_random_48 ?_
  refine r_getIN S2 fc5 (by decide) 0 rfl q_417 dX7_random_51 ?_
  obtain ⟨rfl, rfl⟩ := si2 hE
  exact hret 2 12 _ _ _ (by decide) (by decide) dX7_random_54 rfl
set_option maxRecDepth 100000 in
set_option maxHeartbeats 4000000 in
theorem c_LL_cell (l : Launch) (hfl : l.stackTraces = false) (Y : Env1) (hG : gY Y = gC) (a1 : Int32) (a2 : Int32) (M : Mem) (res : Int32 ⊕ Nat) (M1 : Mem) (hE : LL_cell a1 a2 M = some (res, M1)) : TnI l Y yX7_cell cX7_cell 3 .int 7 2 12 [.ref (hY Y + 0), .int a1, .int a2] M res M1 := by
  refine mtx_I (own := RX7) hfl (by decide +kernel) rfl hG (Nat.le_of_ble_eq_true rfl) (fun X hS hT hY1 hl1 hret => ?_)
  subst hY1
  subst hl1
  have S0 := hS 0 0 (by decide) (by decide)
  have T0 := hT 0 0
  have S1 := hS 1 6 (by decide) (by decide)
  have T1 := hT 1 6
  have S2 := hS 2 12 (by decide) (by decide)
  have T2 := hT 2 12
  show AW (setX X 0 0) 0 [(0, .ref (hY X.2.1.2 + 0)), (1, .int a1), (2, .int a2)] [] M
  unfold LL_cell at hE
  refine r_aload_n S0 dX7_cell_0 0 rfl ?_
  refine r_iload_n S0 dX7_cell_1 1 rfl ?_
  obtain ⟨x1, M2, h9, hp, hE⟩ := bx_some hE
  refine xc_V S0 T0 1 6 rfl rfl (by decide) (by decide) (xn_V S0 T0.2.2.2.1 T0.2.2.2.2.2.1 fc7 (by decide) (c_LL_needCell _ hfl _ (gYX S0) a1 M _ _ h9) wdX7_needCell q_986 ⟨Nat.le_of_ble_eq_true rfl, Nat.le_of_ble_eq_true rfl⟩ ⟨Nat.le_trans (Nat.le_of_ble_eq_true rfl) T0.2.2.2.2.2.2.1, Nat.le_trans (Nat.le_of_ble_eq_true rfl) T0.2.2.2.2.2.2.2⟩ rfl (Nat.le_of_ble_eq_true rfl) dX7_cell_2) hp (fun hr => ?_)
  replace hE := hE () hr
  refine r_iload_n S1 dX7_cell_5 2 rfl ?_
  refine r_iconst S1 (0 : Int32) dX7_cell_6 rfl ?_
  refine r_iconst S1 (5 : Int32) dX7_cell_7 rfl ?_
  obtain ⟨x3, M4, h9, hp, hE⟩ := bx_some hE
  refine xc_V S1 T1 2 12 rfl rfl (by decide) (by decide) (xn_S S1 T1.2.2.2.1 T1.2.2.2.2.2.1 (c_LL_needWithin _ hfl _ (gYX S1) a2 (0 : Int32) (5 : Int32) M2 _ _ h9) wdX7_needWithin q_981 ⟨Nat.le_of_ble_eq_true rfl, Nat.le_of_ble_eq_true rfl⟩ ⟨Nat.le_trans (Nat.le_of_ble_eq_true rfl) T1.2.2.2.2.2.2.1, Nat.le_trans (Nat.le_of_ble_eq_true rfl) T1.2.2.2.2.2.2.2⟩ rfl (Nat.le_of_ble_eq_true rfl) dX7_cell_8) hp (fun hr => ?_)
  replace hE := hE () hr
  refine r_aload_n S2 dX7_cell_11 0 rfl ?_
  refine r_iload_n S2 dX7_cell_12 1 rfl ?_
  refine r_iload_n S2 dX7_cell_13 2 rfl ?_
  obtain ⟨x5, h9, hE⟩ := b1_some hE
  refine rc_I S2 (rn_V S2 fc7 (by decide) (c_LL_cellValue _ _ (gYX S2) a1 a2 M4 _ h9) wdX7_cellValue q_499 ⟨Nat.le_of_ble_eq_true rfl, Nat.le_of_ble_eq_true rfl⟩ rfl (Nat.le_of_ble_eq_true rfl) dX7_cell_14) ?_
  obtain ⟨rfl, rfl⟩ := si2 hE
  exact hret 2 12 _ _ _ (by decide) (by decide) dX7_cell_17 rfl
set_option maxRecDepth 100000 in
set_option maxHeartbeats 4000000 in
theorem c_LL_between (l : Launch) (hfl : l.stackTraces = false) (Y : Env1) (hG : gY Y = gC) (a1 : Int32) (a2 : Int32) (a3 : Int32) (M : Mem) (res : Int32 ⊕ Nat) (M1 : Mem) (hE : LL_between a1 a2 a3 M = some (res, M1)) : TnI l Y yX7_between cX7_between 5 .int 7 1 6 [.ref (hY Y + 0), .int a1, .int a2, .int a3] M res M1 := by
  refine mtx_I (own := RX7) hfl (by decide +kernel) rfl hG (Nat.le_of_ble_eq_true rfl) (fun X hS hT hY1 hl1 hret => ?_)
  subst hY1
  subst hl1
  have S0 := hS 0 0 (by decide) (by decide)
  have T0 := hT 0 0
  have S1 := hS 1 6 (by decide) (by decide)
  have T1 := hT 1 6
  show AW (setX X 0 0) 0 [(0, .ref (hY X.2.1.2 + 0)), (1, .int a1), (2, .int a2), (3, .int a3)] [] M
  unfold LL_between at hE
  refine r_aload_n S0 dX7_between_0 0 rfl ?_
  refine r_iload_n S0 dX7_between_1 1 rfl ?_
  refine r_iload_n S0 dX7_between_2 2 rfl ?_
  obtain ⟨x1, M2, h9, hp, hE⟩ := bx_some hE
  refine xc_V S0 T0 1 6 rfl rfl (by decide) (by decide) (xn_V S0 T0.2.2.2.1 T0.2.2.2.2.2.1 fc7 (by decide) (c_LL_needNeighbors _ hfl _ (gYX S0) a1 a2 M _ _ h9) wdX7_needNeighbors q_1003 ⟨Nat.le_of_ble_eq_true rfl, Nat.le_of_ble_eq_true rfl⟩ ⟨Nat.le_trans (Nat.le_of_ble_eq_true rfl) T0.2.2.2.2.2.2.1, Nat.le_trans (Nat.le_of_ble_eq_true rfl) T0.2.2.2.2.2.2.2⟩ rfl (Nat.le_of_ble_eq_true rfl) dX7_between_3) hp (fun hr => ?_)
  replace hE := hE () hr
  refine r_aload_n S1 dX7_between_6 0 rfl ?_
  refine r_getRK S1 fc7 (by decide) 0 1 rfl rfl q_50 dX7_between_7 ?_
  refine r_getRKN S1 fc6 (by decide) 0 2 rfl rfl q_54 dX7_between_10 ?_
  refine r_iload_n S1 dX7_between_13 1 rfl ?_
  refine r_iload_n S1 dX7_between_14 2 rfl ?_
  obtain ⟨x3, h9, hE⟩ := b1_some hE
  refine rc_I S1 (rn_V S1 fc0 (by decide) (c_GR_sideTo _ _ (gYX S1) 2 (by decide) a1 a2 M2 _ h9) wdX0_sideTo q_979 ⟨Nat.le_of_ble_eq_true rfl, Nat.le_of_ble_eq_true rfl⟩ rfl (Nat.le_of_ble_eq_true rfl) dX7_between_15) ?_
  refine r_istore (lv2 := [(4, .int x3), (0, .ref (hY X.2.1.2 + 0)), (1, .int a1), (2, .int a2), (3, .int a3)]) S1 dX7_between_18 (by decide) rfl ?_
  refine r_iload_n S1 dX7_between_20 4 rfl ?_
  refine r_if_eq S1 42 dX7_between_21 (by decide) (fun c => ?_) (fun c => ?_)
  · try simp only [if_pos c] at hE
    refine r_aload_n S1 dX7_between_42 1 rfl ?_
    refine r_getRK S1 fc7 (by decide) 0 1 rfl rfl q_50 dX7_between_43 ?_
    refine r_getRKN S1 fc6 (by decide) 0 2 rfl rfl q_54 dX7_between_46 ?_
    refine r_getRKN S1 fc0 (by decide) 6 7 rfl rfl q_1008 dX7_between_49 ?_
    refine r_iload S1 dX7_between_52 0 rfl ?_
    refine rc_I S1 (rn_V S1 fc3 (by decide) (c_NR_at _ _ (gYX S1) 7 (by decide) x3 M2 _ rfl) wdX3_at q_53 ⟨Nat.le_of_ble_eq_true rfl, Nat.le_of_ble_eq_true rfl⟩ rfl (Nat.le_of_ble_eq_true rfl) dX7_between_54) ?_
    obtain ⟨rfl, rfl⟩ := si2 hE
    exact hret 1 6 _ _ _ (by decide) (by decide) dX7_between_57 rfl
  · try simp only [if_neg c] at hE
    refine r_aload_n S1 dX7_between_24 1 rfl ?_
    refine r_getRK S1 fc7 (by decide) 0 1 rfl rfl q_50 dX7_between_25 ?_
    refine r_getRKN S1 fc6 (by decide) 0 2 rfl rfl q_54 dX7_between_28 ?_
    refine r_getRKN S1 fc0 (by decide) 7 9 rfl rfl q_460 dX7_between_31 ?_
    refine r_iload S1 dX7_between_34 0 rfl ?_
    refine rc_I S1 (rn_V S1 fc3 (by decide) (c_NR_at _ _ (gYX S1) 9 (by decide) x3 M2 _ rfl) wdX3_at q_53 ⟨Nat.le_of_ble_eq_true rfl, Nat.le_of_ble_eq_true rfl⟩ rfl (Nat.le_of_ble_eq_true rfl) dX7_between_36) ?_
    refine r_goto S1 57 dX7_between_39 (by decide) ?_
    obtain ⟨rfl, rfl⟩ := si2 hE
    exact hret 1 6 _ _ _ (by decide) (by decide) dX7_between_57 rfl
