/-! methods that may throw, by program: that the bytecode does what part 31 says, where it doesn't throw -/
theorem bi_some {α β : Type} {x : Option ((α ⊕ Nat) × Mem)} {f : α → Mem → Option ((β ⊕ Nat) × Mem)} {r : β} {M1 : Mem} (h : bx x f = some (.inl r, M1)) : ∃ a M2, x = some (.inl a, M2) ∧ f a M2 = some (.inl r, M1) := by
  obtain ⟨a, M2, h1, h2, h3⟩ := bx_some h
  cases a with
  | inl a => exact ⟨a, M2, h1, h3 a rfl⟩
  | inr k => exact absurd (h2 k rfl).1 (fun z => Sum.inl_ne_inr z)
theorem in2 {α β γ : Type} {a b : α} {c d : γ} (h : some ((Sum.inl a : α ⊕ β), c) = some (.inl b, d)) : a = b ∧ c = d := by
  cases h
  exact ⟨rfl, rfl⟩
theorem inx {α β γ : Type} {a : α} {b : β} {c d : γ} (h : some ((Sum.inr b : α ⊕ β), c) = some (.inl a, d)) : False := by cases h
set_option maxRecDepth 100000 in
set_option maxHeartbeats 4000000 in
theorem n_LL_needCell (l : Launch) (Y : Env1) (hG : gY Y = gC) (a1 : Int32) (M : Mem) (r : Unit) (M1 : Mem) (hE : LL_needCell a1 M = some (.inl r, M1)) : CnV l Y yX7_needCell cX7_needCell 2 1 [.ref (hY Y + 0), .int a1] M M1 := by
  refine met_V (own := RX7) (by decide +kernel) rfl hG (Nat.le_of_ble_eq_true rfl) (fun X S hY1 hl1 hret => ?_)
  subst hY1
  subst hl1
  show AW X 0 [(0, .ref (hY X.2.1.2 + 0)), (1, .int a1)] [] M
  unfold LL_needCell at hE
  refine r_aload_n S dX7_needCell_0 0 rfl ?_
  refine r_getRK S fc7 (by decide) 0 1 rfl rfl q_50 dX7_needCell_1 ?_
  refine r_getRKN S fc6 (by decide) 0 2 rfl rfl q_54 dX7_needCell_4 ?_
  refine r_iload_n S dX7_needCell_7 1 rfl ?_
  refine rc_I S (rn_V S fc0 (by decide) (c_GR_exists _ _ (gYX S) 2 (by decide) a1 M _ rfl) wdX0_exists q_592 ⟨Nat.le_of_ble_eq_true rfl, Nat.le_of_ble_eq_true rfl⟩ rfl (Nat.le_of_ble_eq_true rfl) dX7_needCell_8) ?_
  refine r_if_ne S 24 dX7_needCell_11 (by decide) (fun c => ?_) (fun c => ?_)
  · rw [if_pos c] at hE
    obtain ⟨rfl, rfl⟩ := in2 hE
    exact hret _ _ dX7_needCell_24
  · rw [if_neg (not_not_intro c)] at hE
    exact (inx hE).elim
set_option maxRecDepth 100000 in
set_option maxHeartbeats 4000000 in
theorem n_LL_needRoom (l : Launch) (Y : Env1) (hG : gY Y = gC) (a1 : Int32) (M : Mem) (r : Unit) (M1 : Mem) (hE : LL_needRoom a1 M = some (.inl r, M1)) : CnV l Y yX7_needRoom cX7_needRoom 2 4 [.ref (hY Y + 0), .int a1] M M1 := by
  refine met_V (own := RX7) (by decide +kernel) rfl hG (Nat.le_of_ble_eq_true rfl) (fun X S hY1 hl1 hret => ?_)
  subst hY1
  subst hl1
  show AW X 0 [(0, .ref (hY X.2.1.2 + 0)), (1, .int a1)] [] M
  unfold LL_needRoom at hE
  refine r_aload_n S dX7_needRoom_0 0 rfl ?_
  refine r_getRK S fc7 (by decide) 0 1 rfl rfl q_50 dX7_needRoom_1 ?_
  refine r_getRKN S fc6 (by decide) 2 20 rfl rfl q_51 dX7_needRoom_4 ?_
  obtain ⟨x1, h9, hE⟩ := b1_some hE
  refine rc_I S (rn_V S fc1 (by decide) (c_LK_water _ _ (gYX S) 20 (by decide) M _ h9) wdX1_water q_450 ⟨Nat.le_of_ble_eq_true rfl, Nat.le_of_ble_eq_true rfl⟩ rfl (Nat.le_of_ble_eq_true rfl) dX7_needRoom_7) ?_
  refine r_iload_n S dX7_needRoom_10 1 rfl ?_
  refine r_iadd S dX7_needRoom_11 ?_
  refine r_ldcw S (v := 1000000) q_593 dX7_needRoom_12 ?_
  refine r_icmp_le S 29 dX7_needRoom_15 (by decide) (fun c => ?_) (fun c => ?_)
  · rw [if_pos c] at hE
    obtain ⟨rfl, rfl⟩ := in2 hE
    exact hret _ _ dX7_needRoom_29
  · rw [if_neg c] at hE
    exact (inx hE).elim
set_option maxRecDepth 100000 in
set_option maxHeartbeats 4000000 in
theorem n_LL_needWithin (l : Launch) (Y : Env1) (hG : gY Y = gC) (a0 : Int32) (a1 : Int32) (a2 : Int32) (M : Mem) (r : Unit) (M1 : Mem) (hE : LL_needWithin a0 a1 a2 M = some (.inl r, M1)) : CnV l Y yX7_needWithin cX7_needWithin 3 0 [.int a0, .int a1, .int a2] M M1 := by
  refine met_V (own := RX7) (by decide +kernel) rfl hG (Nat.le_of_ble_eq_true rfl) (fun X S hY1 hl1 hret => ?_)
  subst hY1
  subst hl1
  show AW X 0 [(0, .int a0), (1, .int a1), (2, .int a2)] [] M
  unfold LL_needWithin at hE
  refine r_iload_n S dX7_needWithin_0 0 rfl ?_
  refine r_iload_n S dX7_needWithin_1 1 rfl ?_
  refine r_icmp_lt S 10 dX7_needWithin_2 (by decide) (fun c => ?_) (fun c => ?_)
  · rw [if_pos c] at hE
    exact (inx hE).elim
  · rw [if_neg c] at hE
    refine r_iload_n S dX7_needWithin_5 0 rfl ?_
    refine r_iload_n S dX7_needWithin_6 2 rfl ?_
    refine r_icmp_le S 21 dX7_needWithin_7 (by decide) (fun c => ?_) (fun c => ?_)
    · rw [if_pos c] at hE
      obtain ⟨rfl, rfl⟩ := in2 hE
      exact hret _ _ dX7_needWithin_21
    · rw [if_neg c] at hE
      exact (inx hE).elim
set_option maxRecDepth 100000 in
set_option maxHeartbeats 4000000 in
theorem n_LL_begin (l : Launch) (Y : Env1) (hG : gY Y = gC) (a1 : Int32) (a2 : Int32) (M : Mem) (r : Int32) (M1 : Mem) (hE : LL_begin a1 a2 M = some (.inl r, M1)) : CnI l Y yX7_begin cX7_begin 3 .int 6 [.ref (hY Y + 0), .int a1, .int a2] M r M1 := by
  refine met_I (own := RX7) (by decide +kernel) rfl hG (Nat.le_of_ble_eq_true rfl) (fun X S hY1 hl1 hret => ?_)
  subst hY1
  subst hl1
  show AW X 0 [(0, .ref (hY X.2.1.2 + 0)), (1, .int a1), (2, .int a2)] [] M
  unfold LL_begin at hE
  refine r_iload_n S dX7_begin_0 1 rfl ?_
  refine r_iconst S (1 : Int32) dX7_begin_1 rfl ?_
  refine r_bipush S (6 : Int32) dX7_begin_2 rfl ?_
  obtain ⟨x1, M2, h9, hE⟩ := bi_some hE
  refine rc_V S (rn_S S (n_LL_needWithin _ _ (gYX S) a1 (1 : Int32) (6 : Int32) M _ _ h9) wdX7_needWithin q_594 ⟨Nat.le_of_ble_eq_true rfl, Nat.le_of_ble_eq_true rfl⟩ rfl (Nat.le_of_ble_eq_true rfl) dX7_begin_4) ?_
  refine r_iload_n S dX7_begin_7 2 rfl ?_
  refine r_iconst S (1 : Int32) dX7_begin_8 rfl ?_
  refine r_bipush S (6 : Int32) dX7_begin_9 rfl ?_
  obtain ⟨x3, M4, h9, hE⟩ := bi_some hE
  refine rc_V S (rn_S S (n_LL_needWithin _ _ (gYX S) a2 (1 : Int32) (6 : Int32) M2 _ _ h9) wdX7_needWithin q_594 ⟨Nat.le_of_ble_eq_true rfl, Nat.le_of_ble_eq_true rfl⟩ rfl (Nat.le_of_ble_eq_true rfl) dX7_begin_11) ?_
  refine r_aload_n S dX7_begin_14 0 rfl ?_
  obtain ⟨x5, M6, h9, hE⟩ := b2_some hE
  refine rc_V S (rn_V S fc7 (by decide) (c_LL_save _ _ (gYX S)  M4 _ _ h9) wdX7_save q_349 ⟨Nat.le_of_ble_eq_true rfl, Nat.le_of_ble_eq_true rfl⟩ rfl (Nat.le_of_ble_eq_true rfl) dX7_begin_15) ?_
  refine r_aload_n S dX7_begin_18 0 rfl ?_
  refine r_getRK S fc7 (by decide) 0 1 rfl rfl q_50 dX7_begin_19 ?_
  refine r_getRKN S fc6 (by decide) 0 2 rfl rfl q_54 dX7_begin_22 ?_
  refine r_iload_n S dX7_begin_25 1 rfl ?_
  refine r_iload_n S dX7_begin_26 2 rfl ?_
  obtain ⟨x7, M8, h9, hE⟩ := b2_some hE
  refine rc_V S (rn_V S fc0 (by decide) (c_GR_lay _ _ (gYX S) 2 (by decide) a1 a2 M6 _ _ h9) wdX0_lay q_598 ⟨Nat.le_of_ble_eq_true rfl, Nat.le_of_ble_eq_true rfl⟩ rfl (Nat.le_of_ble_eq_true rfl) dX7_begin_27) ?_
  refine r_aload_n S dX7_begin_30 0 rfl ?_
  refine r_getRK S fc7 (by decide) 0 1 rfl rfl q_50 dX7_begin_31 ?_
  obtain ⟨x9, M10, h9, hE⟩ := b2_some hE
  refine rc_V S (rn_V S fc6 (by decide) (c_WD_restart _ _ (gYX S) 1 (by decide) M8 _ _ h9) wdX6_restart q_355 ⟨Nat.le_of_ble_eq_true rfl, Nat.le_of_ble_eq_true rfl⟩ rfl (Nat.le_of_ble_eq_true rfl) dX7_begin_34) ?_
  refine r_aload_n S dX7_begin_37 0 rfl ?_
  refine r_getRK S fc7 (by decide) 0 1 rfl rfl q_50 dX7_begin_38 ?_
  refine r_getRKN S fc6 (by decide) 0 2 rfl rfl q_54 dX7_begin_41 ?_
  refine r_getIN S fc0 (by decide) 2 rfl q_80 dX7_begin_44 ?_
  obtain ⟨rfl, rfl⟩ := in2 hE
  exact hret _ _ dX7_begin_47
set_option maxRecDepth 100000 in
set_option maxHeartbeats 4000000 in
theorem n_LL_setHeight (l : Launch) (Y : Env1) (hG : gY Y = gC) (a1 : Int32) (a2 : Int32) (M : Mem) (r : Int32) (M1 : Mem) (hE : LL_setHeight a1 a2 M = some (.inl r, M1)) : CnI l Y yX7_setHeight cX7_setHeight 4 .int 6 [.ref (hY Y + 0), .int a1, .int a2] M r M1 := by
  refine met_I (own := RX7) (by decide +kernel) rfl hG (Nat.le_of_ble_eq_true rfl) (fun X S hY1 hl1 hret => ?_)
  subst hY1
  subst hl1
  show AW X 0 [(0, .ref (hY X.2.1.2 + 0)), (1, .int a1), (2, .int a2)] [] M
  unfold LL_setHeight at hE
  refine r_aload_n S dX7_setHeight_0 0 rfl ?_
  refine r_iload_n S dX7_setHeight_1 1 rfl ?_
  obtain ⟨x1, M2, h9, hE⟩ := bi_some hE
  refine rc_V S (rn_V S fc7 (by decide) (n_LL_needCell _ _ (gYX S) a1 M _ _ h9) wdX7_needCell q_599 ⟨Nat.le_of_ble_eq_true rfl, Nat.le_of_ble_eq_true rfl⟩ rfl (Nat.le_of_ble_eq_true rfl) dX7_setHeight_2) ?_
  refine r_iload_n S dX7_setHeight_5 2 rfl ?_
  refine r_iconst S (0 : Int32) dX7_setHeight_6 rfl ?_
  refine r_bipush S (99 : Int32) dX7_setHeight_7 rfl ?_
  obtain ⟨x3, M4, h9, hE⟩ := bi_some hE
  refine rc_V S (rn_S S (n_LL_needWithin _ _ (gYX S) a2 (0 : Int32) (99 : Int32) M2 _ _ h9) wdX7_needWithin q_594 ⟨Nat.le_of_ble_eq_true rfl, Nat.le_of_ble_eq_true rfl⟩ rfl (Nat.le_of_ble_eq_true rfl) dX7_setHeight_9) ?_
  refine r_aload_n S dX7_setHeight_12 0 rfl ?_
  refine r_getRK S fc7 (by decide) 0 1 rfl rfl q_50 dX7_setHeight_13 ?_
  refine r_getRKN S fc6 (by decide) 0 2 rfl rfl q_54 dX7_setHeight_16 ?_
  refine r_getRKN S fc0 (by decide) 4 3 rfl rfl q_71 dX7_setHeight_19 ?_
  refine r_iload_n S dX7_setHeight_22 1 rfl ?_
  refine rc_I S (rn_V S fc3 (by decide) (c_NR_at _ _ (gYX S) 3 (by decide) a1 M4 _ rfl) wdX3_at q_53 ⟨Nat.le_of_ble_eq_true rfl, Nat.le_of_ble_eq_true rfl⟩ rfl (Nat.le_of_ble_eq_true rfl) dX7_setHeight_23) ?_
  refine r_istore_n (lv2 := [(3, .int (fAtI 3 a1 M4)), (0, .ref (hY X.2.1.2 + 0)), (1, .int a1), (2, .int a2)]) S dX7_setHeight_26 (by decide) rfl ?_
  refine r_aload_n S dX7_setHeight_27 1 rfl ?_
  obtain ⟨x5, M6, h9, hE⟩ := b2_some hE
  refine rc_V S (rn_V S fc7 (by decide) (c_LL_save _ _ (gYX S)  M4 _ _ h9) wdX7_save q_349 ⟨Nat.le_of_ble_eq_true rfl, Nat.le_of_ble_eq_true rfl⟩ rfl (Nat.le_of_ble_eq_true rfl) dX7_setHeight_28) ?_
  refine r_aload_n S dX7_setHeight_31 1 rfl ?_
  refine r_getRK S fc7 (by decide) 0 1 rfl rfl q_50 dX7_setHeight_32 ?_
  obtain ⟨x7, M8, h9, hE⟩ := b2_some hE
  refine rc_V S (rn_V S fc6 (by decide) (c_WD_noteLakes _ _ (gYX S) 1 (by decide) M6 _ _ h9) wdX6_noteLakes q_604 ⟨Nat.le_of_ble_eq_true rfl, Nat.le_of_ble_eq_true rfl⟩ rfl (Nat.le_of_ble_eq_true rfl) dX7_setHeight_35) ?_
  refine r_aload_n S dX7_setHeight_38 1 rfl ?_
  refine r_getRK S fc7 (by decide) 0 1 rfl rfl q_50 dX7_setHeight_39 ?_
  refine r_getRKN S fc6 (by decide) 0 2 rfl rfl q_54 dX7_setHeight_42 ?_
  refine r_getRKN S fc0 (by decide) 4 3 rfl rfl q_71 dX7_setHeight_45 ?_
  refine r_iload_n S dX7_setHeight_48 2 rfl ?_
  refine r_iload_n S dX7_setHeight_49 3 rfl ?_
  refine rc_V S (rn_V S fc3 (by decide) (c_NR_put _ _ (gYX S) 3 (by decide) a1 a2 M8 _ rfl) wdX3_put q_609 ⟨Nat.le_of_ble_eq_true rfl, Nat.le_of_ble_eq_true rfl⟩ rfl (Nat.le_of_ble_eq_true rfl) dX7_setHeight_50) ?_
  refine r_aload_n S dX7_setHeight_53 1 rfl ?_
  refine r_getRK S fc7 (by decide) 0 1 rfl rfl q_50 dX7_setHeight_54 ?_
  obtain ⟨x9, M10, h9, hE⟩ := b2_some hE
  refine rc_V S (rn_V S fc6 (by decide) (c_WD_renew _ _ (gYX S) 1 (by decide) (fPutI 3 a1 a2 M8) _ _ h9) wdX6_renew q_610 ⟨Nat.le_of_ble_eq_true rfl, Nat.le_of_ble_eq_true rfl⟩ rfl (Nat.le_of_ble_eq_true rfl) dX7_setHeight_57) ?_
  refine r_iload_n S dX7_setHeight_60 0 rfl ?_
  obtain ⟨rfl, rfl⟩ := in2 hE
  exact hret _ _ dX7_setHeight_61
set_option maxRecDepth 100000 in
set_option maxHeartbeats 4000000 in
theorem n_LL_setDrain (l : Launch) (Y : Env1) (hG : gY Y = gC) (a1 : Int32) (a2 : Int32) (M : Mem) (r : Int32) (M1 : Mem) (hE : LL_setDrain a1 a2 M = some (.inl r, M1)) : CnI l Y yX7_setDrain cX7_setDrain 4 .boolean 6 [.ref (hY Y + 0), .int a1, .int a2] M r M1 := by
  refine met_Z (own := RX7) (by decide +kernel) rfl hG (Nat.le_of_ble_eq_true rfl) (fun X S hY1 hl1 hret => ?_)
  subst hY1
  subst hl1
  show AW X 0 [(0, .ref (hY X.2.1.2 + 0)), (1, .int a1), (2, .int a2)] [] M
  unfold LL_setDrain at hE
  refine r_aload_n S dX7_setDrain_0 0 rfl ?_
  refine r_iload_n S dX7_setDrain_1 1 rfl ?_
  obtain ⟨x1, M2, h9, hE⟩ := bi_some hE
  refine rc_V S (rn_V S fc7 (by decide) (n_LL_needCell _ _ (gYX S) a1 M _ _ h9) wdX7_needCell q_599 ⟨Nat.le_of_ble_eq_true rfl, Nat.le_of_ble_eq_true rfl⟩ rfl (Nat.le_of_ble_eq_true rfl) dX7_setDrain_2) ?_
  refine r_aload_n S dX7_setDrain_5 0 rfl ?_
  refine r_getRK S fc7 (by decide) 0 1 rfl rfl q_50 dX7_setDrain_6 ?_
  refine r_getRKN S fc6 (by decide) 0 2 rfl rfl q_54 dX7_setDrain_9 ?_
  refine r_getLN S fc0 (by decide) 3 rfl q_419 dX7_setDrain_12 ?_
  refine r_iload_n S dX7_setDrain_15 1 rfl ?_
  refine rc_I S (rn_S S (c_LL_has _ _ (gYX S) (gL M2 2 3) a1 M2 _ rfl) wdX7_has q_60 ⟨Nat.le_of_ble_eq_true rfl, Nat.le_of_ble_eq_true rfl⟩ rfl (Nat.le_of_ble_eq_true rfl) dX7_setDrain_16) ?_
  refine r_istore_n (lv2 := [(3, .int (LL_has (gL M2 2 3) a1)), (0, .ref (hY X.2.1.2 + 0)), (1, .int a1), (2, .int a2)]) S dX7_setDrain_19 (by decide) rfl ?_
  refine r_aload_n S dX7_setDrain_20 1 rfl ?_
  obtain ⟨x3, M4, h9, hE⟩ := b2_some hE
  refine rc_V S (rn_V S fc7 (by decide) (c_LL_save _ _ (gYX S)  M2 _ _ h9) wdX7_save q_349 ⟨Nat.le_of_ble_eq_true rfl, Nat.le_of_ble_eq_true rfl⟩ rfl (Nat.le_of_ble_eq_true rfl) dX7_setDrain_21) ?_
  refine r_aload_n S dX7_setDrain_24 1 rfl ?_
  refine r_getRK S fc7 (by decide) 0 1 rfl rfl q_50 dX7_setDrain_25 ?_
  obtain ⟨x5, M6, h9, hE⟩ := b2_some hE
  refine rc_V S (rn_V S fc6 (by decide) (c_WD_noteLakes _ _ (gYX S) 1 (by decide) M4 _ _ h9) wdX6_noteLakes q_604 ⟨Nat.le_of_ble_eq_true rfl, Nat.le_of_ble_eq_true rfl⟩ rfl (Nat.le_of_ble_eq_true rfl) dX7_setDrain_28) ?_
  refine r_aload_n S dX7_setDrain_31 1 rfl ?_
  refine r_getRK S fc7 (by decide) 0 1 rfl rfl q_50 dX7_setDrain_32 ?_
  refine r_getRKN S fc6 (by decide) 0 2 rfl rfl q_54 dX7_setDrain_35 ?_
  refine r_iload_n S dX7_setDrain_38 2 rfl ?_
  refine r_iload_n S dX7_setDrain_39 3 rfl ?_
  obtain ⟨x7, M8, h9, hE⟩ := b2_some hE
  refine rc_V S (rn_V S fc0 (by decide) (c_GR_putDrain _ _ (gYX S) 2 (by decide) a1 a2 M6 _ _ h9) wdX0_putDrain q_615 ⟨Nat.le_of_ble_eq_true rfl, Nat.le_of_ble_eq_true rfl⟩ rfl (Nat.le_of_ble_eq_true rfl) dX7_setDrain_40) ?_
  refine r_aload_n S dX7_setDrain_43 1 rfl ?_
  refine r_getRK S fc7 (by decide) 0 1 rfl rfl q_50 dX7_setDrain_44 ?_
  obtain ⟨x9, M10, h9, hE⟩ := b2_some hE
  refine rc_V S (rn_V S fc6 (by decide) (c_WD_renew _ _ (gYX S) 1 (by decide) M8 _ _ h9) wdX6_renew q_610 ⟨Nat.le_of_ble_eq_true rfl, Nat.le_of_ble_eq_true rfl⟩ rfl (Nat.le_of_ble_eq_true rfl) dX7_setDrain_47) ?_
  refine r_iload_n S dX7_setDrain_50 0 rfl ?_
  obtain ⟨rfl, rfl⟩ := in2 hE
  exact hret _ _ _ dX7_setDrain_51 rfl
set_option maxRecDepth 100000 in
set_option maxHeartbeats 4000000 in
theorem n_LL_random (l : Launch) (Y : Env1) (hG : gY Y = gC) (a1 : Int32) (a2 : Int32) (M : Mem) (r : Int32) (M1 : Mem) (hE : LL_random a1 a2 M = some (.inl r, M1)) : CnI l Y yX7_random cX7_random 3 .int 6 [.ref (hY Y + 0), .int a1, .int a2] M r M1 := by
  refine met_I (own := RX7) (by decide +kernel) rfl hG (Nat.le_of_ble_eq_true rfl) (fun X S hY1 hl1 hret => ?_)
  subst hY1
  subst hl1
  show AW X 0 [(0, .ref (hY X.2.1.2 + 0)), (1, .int a1), (2, .int a2)] [] M
  unfold LL_random at hE
  refine r_iload_n S dX7_random_0 1 rfl ?_
  refine r_iconst S (0 : Int32) dX7_random_1 rfl ?_
  refine r_ldc S (v := 999999) q_616 dX7_random_2 ?_
  obtain ⟨x1, M2, h9, hE⟩ := bi_some hE
  refine rc_V S (rn_S S (n_LL_needWithin _ _ (gYX S) a1 (0 : Int32) (999999 : Int32) M _ _ h9) wdX7_needWithin q_594 ⟨Nat.le_of_ble_eq_true rfl, Nat.le_of_ble_eq_true rfl⟩ rfl (Nat.le_of_ble_eq_true rfl) dX7_random_4) ?_
  refine r_iload_n S dX7_random_7 2 rfl ?_
  refine r_iconst S (0 : Int32) dX7_random_8 rfl ?_
  refine r_bipush S (99 : Int32) dX7_random_9 rfl ?_
  obtain ⟨x3, M4, h9, hE⟩ := bi_some hE
  refine rc_V S (rn_S S (n_LL_needWithin _ _ (gYX S) a2 (0 : Int32) (99 : Int32) M2 _ _ h9) wdX7_needWithin q_594 ⟨Nat.le_of_ble_eq_true rfl, Nat.le_of_ble_eq_true rfl⟩ rfl (Nat.le_of_ble_eq_true rfl) dX7_random_11) ?_
  refine r_aload_n S dX7_random_14 0 rfl ?_
  obtain ⟨x5, M6, h9, hE⟩ := b2_some hE
  refine rc_V S (rn_V S fc7 (by decide) (c_LL_save _ _ (gYX S)  M4 _ _ h9) wdX7_save q_349 ⟨Nat.le_of_ble_eq_true rfl, Nat.le_of_ble_eq_true rfl⟩ rfl (Nat.le_of_ble_eq_true rfl) dX7_random_15) ?_
  refine r_aload_n S dX7_random_18 0 rfl ?_
  refine r_getRK S fc7 (by decide) 0 1 rfl rfl q_50 dX7_random_19 ?_
  obtain ⟨x7, M8, h9, hE⟩ := b2_some hE
  refine rc_V S (rn_V S fc6 (by decide) (c_WD_noteLakes _ _ (gYX S) 1 (by decide) M6 _ _ h9) wdX6_noteLakes q_604 ⟨Nat.le_of_ble_eq_true rfl, Nat.le_of_ble_eq_true rfl⟩ rfl (Nat.le_of_ble_eq_true rfl) dX7_random_22) ?_
  refine r_aload_n S dX7_random_25 0 rfl ?_
  refine r_getRK S fc7 (by decide) 0 1 rfl rfl q_50 dX7_random_26 ?_
  refine r_getRKN S fc6 (by decide) 0 2 rfl rfl q_54 dX7_random_29 ?_
  refine r_iload_n S dX7_random_32 1 rfl ?_
  refine r_iload_n S dX7_random_33 2 rfl ?_
  obtain ⟨x9, M10, h9, hE⟩ := b2_some hE
  refine rc_V S (rn_V S fc0 (by decide) (c_GR_scatter _ _ (gYX S) 2 (by decide) a1 a2 M8 _ _ h9) wdX0_scatter q_617 ⟨Nat.le_of_ble_eq_true rfl, Nat.le_of_ble_eq_true rfl⟩ rfl (Nat.le_of_ble_eq_true rfl) dX7_random_34) ?_
  refine r_aload_n S dX7_random_37 0 rfl ?_
  refine r_getRK S fc7 (by decide) 0 1 rfl rfl q_50 dX7_random_38 ?_
  obtain ⟨x11, M12, h9, hE⟩ := b2_some hE
  refine rc_V S (rn_V S fc6 (by decide) (c_WD_renew _ _ (gYX S) 1 (by decide) M10 _ _ h9) wdX6_renew q_610 ⟨Nat.le_of_ble_eq_true rfl, Nat.le_of_ble_eq_true rfl⟩ rfl (Nat.le_of_ble_eq_true rfl) dX7_random_41) ?_
  refine r_aload_n S dX7_random_44 0 rfl ?_
  refine r_getRK S fc7 (by decide) 0 1 rfl rfl q_50 dX7_random_45 ?_
  refine r_getRKN S fc6 (by decide) 1 13 rfl rfl q_360 dX7_random_48 ?_
  refine r_getIN S fc5 (by decide) 0 rfl q_361 dX7_random_51 ?_
  obtain ⟨rfl, rfl⟩ := in2 hE
  exact hret _ _ dX7_random_54
set_option maxRecDepth 100000 in
set_option maxHeartbeats 4000000 in
theorem n_LL_cell (l : Launch) (Y : Env1) (hG : gY Y = gC) (a1 : Int32) (a2 : Int32) (M : Mem) (r : Int32) (M1 : Mem) (hE : LL_cell a1 a2 M = some (.inl r, M1)) : CnI l Y yX7_cell cX7_cell 3 .int 5 [.ref (hY Y + 0), .int a1, .int a2] M r M1 := by
  refine met_I (own := RX7) (by decide +kernel) rfl hG (Nat.le_of_ble_eq_true rfl) (fun X S hY1 hl1 hret => ?_)
  subst hY1
  subst hl1
  show AW X 0 [(0, .ref (hY X.2.1.2 + 0)), (1, .int a1), (2, .int a2)] [] M
  unfold LL_cell at hE
  refine r_aload_n S dX7_cell_0 0 rfl ?_
  refine r_iload_n S dX7_cell_1 1 rfl ?_
  obtain ⟨x1, M2, h9, hE⟩ := bi_some hE
  refine rc_V S (rn_V S fc7 (by decide) (n_LL_needCell _ _ (gYX S) a1 M _ _ h9) wdX7_needCell q_599 ⟨Nat.le_of_ble_eq_true rfl, Nat.le_of_ble_eq_true rfl⟩ rfl (Nat.le_of_ble_eq_true rfl) dX7_cell_2) ?_
  refine r_iload_n S dX7_cell_5 2 rfl ?_
  refine r_iconst S (0 : Int32) dX7_cell_6 rfl ?_
  refine r_iconst S (5 : Int32) dX7_cell_7 rfl ?_
  obtain ⟨x3, M4, h9, hE⟩ := bi_some hE
  refine rc_V S (rn_S S (n_LL_needWithin _ _ (gYX S) a2 (0 : Int32) (5 : Int32) M2 _ _ h9) wdX7_needWithin q_594 ⟨Nat.le_of_ble_eq_true rfl, Nat.le_of_ble_eq_true rfl⟩ rfl (Nat.le_of_ble_eq_true rfl) dX7_cell_8) ?_
  refine r_aload_n S dX7_cell_11 0 rfl ?_
  refine r_iload_n S dX7_cell_12 1 rfl ?_
  refine r_iload_n S dX7_cell_13 2 rfl ?_
  obtain ⟨x5, h9, hE⟩ := b1_some hE
  refine rc_I S (rn_V S fc7 (by decide) (c_LL_cellValue _ _ (gYX S) a1 a2 M4 _ h9) wdX7_cellValue q_462 ⟨Nat.le_of_ble_eq_true rfl, Nat.le_of_ble_eq_true rfl⟩ rfl (Nat.le_of_ble_eq_true rfl) dX7_cell_14) ?_
  obtain ⟨rfl, rfl⟩ := in2 hE
  exact hret _ _ dX7_cell_17
set_option maxRecDepth 100000 in
set_option maxHeartbeats 4000000 in
theorem n_LL_count (l : Launch) (Y : Env1) (hG : gY Y = gC) (a1 : Int32) (M : Mem) (r : Int32) (M1 : Mem) (hE : LL_count a1 M = some (.inl r, M1)) : CnI l Y yX7_count cX7_count 2 .int 5 [.ref (hY Y + 0), .int a1] M r M1 := by
  refine met_I (own := RX7) (by decide +kernel) rfl hG (Nat.le_of_ble_eq_true rfl) (fun X S hY1 hl1 hret => ?_)
  subst hY1
  subst hl1
  show AW X 0 [(0, .ref (hY X.2.1.2 + 0)), (1, .int a1)] [] M
  unfold LL_count at hE
  refine r_iload_n S dX7_count_0 1 rfl ?_
  refine r_iconst S (0 : Int32) dX7_count_1 rfl ?_
  refine r_bipush S (6 : Int32) dX7_count_2 rfl ?_
  obtain ⟨x1, M2, h9, hE⟩ := bi_some hE
  refine rc_V S (rn_S S (n_LL_needWithin _ _ (gYX S) a1 (0 : Int32) (6 : Int32) M _ _ h9) wdX7_needWithin q_594 ⟨Nat.le_of_ble_eq_true rfl, Nat.le_of_ble_eq_true rfl⟩ rfl (Nat.le_of_ble_eq_true rfl) dX7_count_4) ?_
  refine r_aload_n S dX7_count_7 0 rfl ?_
  refine r_iload_n S dX7_count_8 1 rfl ?_
  obtain ⟨x3, h9, hE⟩ := b1_some hE
  refine rc_I S (rn_V S fc7 (by decide) (c_LL_countValue _ _ (gYX S) a1 M2 _ h9) wdX7_countValue q_457 ⟨Nat.le_of_ble_eq_true rfl, Nat.le_of_ble_eq_true rfl⟩ rfl (Nat.le_of_ble_eq_true rfl) dX7_count_9) ?_
  obtain ⟨rfl, rfl⟩ := in2 hE
  exact hret _ _ dX7_count_12
set_option maxRecDepth 100000 in
set_option maxHeartbeats 4000000 in
theorem n_LL_pour (l : Launch) (Y : Env1) (hG : gY Y = gC) (a1 : Int32) (a2 : Int32) (M : Mem) (r : Int32) (M1 : Mem) (hE : LL_pour a1 a2 M = some (.inl r, M1)) : CnI l Y yX7_pour cX7_pour 3 .int 6 [.ref (hY Y + 0), .int a1, .int a2] M r M1 := by
  refine met_I (own := RX7) (by decide +kernel) rfl hG (Nat.le_of_ble_eq_true rfl) (fun X S hY1 hl1 hret => ?_)
  subst hY1
  subst hl1
  show AW X 0 [(0, .ref (hY X.2.1.2 + 0)), (1, .int a1), (2, .int a2)] [] M
  unfold LL_pour at hE
  refine r_aload_n S dX7_pour_0 0 rfl ?_
  refine r_iload_n S dX7_pour_1 1 rfl ?_
  obtain ⟨x1, M2, h9, hE⟩ := bi_some hE
  refine rc_V S (rn_V S fc7 (by decide) (n_LL_needCell _ _ (gYX S) a1 M _ _ h9) wdX7_needCell q_599 ⟨Nat.le_of_ble_eq_true rfl, Nat.le_of_ble_eq_true rfl⟩ rfl (Nat.le_of_ble_eq_true rfl) dX7_pour_2) ?_
  refine r_iload_n S dX7_pour_5 2 rfl ?_
  refine r_iconst S (0 : Int32) dX7_pour_6 rfl ?_
  refine r_ldc S (v := 100000) q_622 dX7_pour_7 ?_
  obtain ⟨x3, M4, h9, hE⟩ := bi_some hE
  refine rc_V S (rn_S S (n_LL_needWithin _ _ (gYX S) a2 (0 : Int32) (100000 : Int32) M2 _ _ h9) wdX7_needWithin q_594 ⟨Nat.le_of_ble_eq_true rfl, Nat.le_of_ble_eq_true rfl⟩ rfl (Nat.le_of_ble_eq_true rfl) dX7_pour_9) ?_
  refine r_aload_n S dX7_pour_12 0 rfl ?_
  refine r_iload_n S dX7_pour_13 2 rfl ?_
  obtain ⟨x5, M6, h9, hE⟩ := bi_some hE
  refine rc_V S (rn_V S fc7 (by decide) (n_LL_needRoom _ _ (gYX S) a2 M4 _ _ h9) wdX7_needRoom q_623 ⟨Nat.le_of_ble_eq_true rfl, Nat.le_of_ble_eq_true rfl⟩ rfl (Nat.le_of_ble_eq_true rfl) dX7_pour_14) ?_
  refine r_aload_n S dX7_pour_17 0 rfl ?_
  obtain ⟨x7, M8, h9, hE⟩ := b2_some hE
  refine rc_V S (rn_V S fc7 (by decide) (c_LL_save _ _ (gYX S)  M6 _ _ h9) wdX7_save q_349 ⟨Nat.le_of_ble_eq_true rfl, Nat.le_of_ble_eq_true rfl⟩ rfl (Nat.le_of_ble_eq_true rfl) dX7_pour_18) ?_
  refine r_aload_n S dX7_pour_21 0 rfl ?_
  refine r_getRK S fc7 (by decide) 0 1 rfl rfl q_50 dX7_pour_22 ?_
  refine r_dup S dX7_pour_25 rfl ?_
  refine r_getLN S fc6 (by decide) 3 rfl q_455 dX7_pour_26 ?_
  refine r_iload_n S dX7_pour_29 2 rfl ?_
  refine r_i2l S dX7_pour_30 ?_
  refine r_ladd S dX7_pour_31 ?_
  refine r_putLN S fc6 (by decide) 3 rfl rfl (by decide +kernel) q_455 dX7_pour_32 ?_
  refine r_aload_n S dX7_pour_35 0 rfl ?_
  refine r_getRK S fc7 (by decide) 0 1 rfl rfl q_50 dX7_pour_36 ?_
  refine r_iload_n S dX7_pour_39 1 rfl ?_
  refine r_iload_n S dX7_pour_40 2 rfl ?_
  obtain ⟨x9, M10, h9, hE⟩ := b2_some hE
  refine rc_I S (rn_V S fc6 (by decide) (c_WD_pourAt _ _ (gYX S) 1 (by decide) a1 a2 (sL M8 1 3 ((gL M8 1 3) + a2.toInt64)) _ _ h9) wdX6_pourAt q_509 ⟨Nat.le_of_ble_eq_true rfl, Nat.le_of_ble_eq_true rfl⟩ rfl (Nat.le_of_ble_eq_true rfl) dX7_pour_41) ?_
  obtain ⟨rfl, rfl⟩ := in2 hE
  exact hret _ _ dX7_pour_44
set_option maxRecDepth 100000 in
set_option maxHeartbeats 4000000 in
theorem n_LL_evaporate (l : Launch) (Y : Env1) (hG : gY Y = gC) (a1 : Int32) (M : Mem) (r : Int32) (M1 : Mem) (hE : LL_evaporate a1 M = some (.inl r, M1)) : CnI l Y yX7_evaporate cX7_evaporate 2 .int 6 [.ref (hY Y + 0), .int a1] M r M1 := by
  refine met_I (own := RX7) (by decide +kernel) rfl hG (Nat.le_of_ble_eq_true rfl) (fun X S hY1 hl1 hret => ?_)
  subst hY1
  subst hl1
  show AW X 0 [(0, .ref (hY X.2.1.2 + 0)), (1, .int a1)] [] M
  unfold LL_evaporate at hE
  refine r_iload_n S dX7_evaporate_0 1 rfl ?_
  refine r_iconst S (0 : Int32) dX7_evaporate_1 rfl ?_
  refine r_bipush S (100 : Int32) dX7_evaporate_2 rfl ?_
  obtain ⟨x1, M2, h9, hE⟩ := bi_some hE
  refine rc_V S (rn_S S (n_LL_needWithin _ _ (gYX S) a1 (0 : Int32) (100 : Int32) M _ _ h9) wdX7_needWithin q_594 ⟨Nat.le_of_ble_eq_true rfl, Nat.le_of_ble_eq_true rfl⟩ rfl (Nat.le_of_ble_eq_true rfl) dX7_evaporate_4) ?_
  refine r_aload_n S dX7_evaporate_7 0 rfl ?_
  obtain ⟨x3, M4, h9, hE⟩ := b2_some hE
  refine rc_V S (rn_V S fc7 (by decide) (c_LL_save _ _ (gYX S)  M2 _ _ h9) wdX7_save q_349 ⟨Nat.le_of_ble_eq_true rfl, Nat.le_of_ble_eq_true rfl⟩ rfl (Nat.le_of_ble_eq_true rfl) dX7_evaporate_8) ?_
  refine r_aload_n S dX7_evaporate_11 0 rfl ?_
  refine r_getRK S fc7 (by decide) 0 1 rfl rfl q_50 dX7_evaporate_12 ?_
  refine r_iload_n S dX7_evaporate_15 1 rfl ?_
  obtain ⟨x5, M6, h9, hE⟩ := b2_some hE
  refine rc_I S (rn_V S fc6 (by decide) (c_WD_dry _ _ (gYX S) 1 (by decide) a1 M4 _ _ h9) wdX6_dry q_628 ⟨Nat.le_of_ble_eq_true rfl, Nat.le_of_ble_eq_true rfl⟩ rfl (Nat.le_of_ble_eq_true rfl) dX7_evaporate_16) ?_
  obtain ⟨rfl, rfl⟩ := in2 hE
  exact hret _ _ dX7_evaporate_19
set_option maxRecDepth 100000 in
set_option maxHeartbeats 4000000 in
theorem n_LL_balance (l : Launch) (Y : Env1) (hG : gY Y = gC) (a1 : Int32) (M : Mem) (r : Int64) (M1 : Mem) (hE : LL_balance a1 M = some (.inl r, M1)) : CnL l Y yX7_balance cX7_balance 2 5 [.ref (hY Y + 0), .int a1] M r M1 := by
  refine met_L (own := RX7) (by decide +kernel) rfl hG (Nat.le_of_ble_eq_true rfl) (fun X S hY1 hl1 hret => ?_)
  subst hY1
  subst hl1
  show AW X 0 [(0, .ref (hY X.2.1.2 + 0)), (1, .int a1)] [] M
  unfold LL_balance at hE
  refine r_iload_n S dX7_balance_0 1 rfl ?_
  refine r_iconst S (0 : Int32) dX7_balance_1 rfl ?_
  refine r_iconst S (3 : Int32) dX7_balance_2 rfl ?_
  obtain ⟨x1, M2, h9, hE⟩ := bi_some hE
  refine rc_V S (rn_S S (n_LL_needWithin _ _ (gYX S) a1 (0 : Int32) (3 : Int32) M _ _ h9) wdX7_needWithin q_594 ⟨Nat.le_of_ble_eq_true rfl, Nat.le_of_ble_eq_true rfl⟩ rfl (Nat.le_of_ble_eq_true rfl) dX7_balance_3) ?_
  refine r_aload_n S dX7_balance_6 0 rfl ?_
  refine r_iload_n S dX7_balance_7 1 rfl ?_
  obtain ⟨x3, h9, hE⟩ := b1_some hE
  refine rc_L S (rn_V S fc7 (by decide) (c_LL_balanceValue _ _ (gYX S) a1 M2 _ h9) wdX7_balanceValue q_477 ⟨Nat.le_of_ble_eq_true rfl, Nat.le_of_ble_eq_true rfl⟩ rfl (Nat.le_of_ble_eq_true rfl) dX7_balance_8) ?_
  obtain ⟨rfl, rfl⟩ := in2 hE
  exact hret _ _ dX7_balance_11
set_option maxRecDepth 100000 in
set_option maxHeartbeats 4000000 in
theorem n_LL_depth (l : Launch) (Y : Env1) (hG : gY Y = gC) (a1 : Int32) (M : Mem) (r : UInt64) (M1 : Mem) (hE : LL_depth a1 M = some (.inl r, M1)) : CnD l Y yX7_depth cX7_depth 2 3 [.ref (hY Y + 0), .int a1] M r M1 := by
  refine met_D (own := RX7) (by decide +kernel) rfl hG (Nat.le_of_ble_eq_true rfl) (fun X S hY1 hl1 hret => ?_)
  subst hY1
  subst hl1
  show AW X 0 [(0, .ref (hY X.2.1.2 + 0)), (1, .int a1)] [] M
  unfold LL_depth at hE
  refine r_aload_n S dX7_depth_0 0 rfl ?_
  refine r_iload_n S dX7_depth_1 1 rfl ?_
  obtain ⟨x1, M2, h9, hE⟩ := bi_some hE
  refine rc_V S (rn_V S fc7 (by decide) (n_LL_needCell _ _ (gYX S) a1 M _ _ h9) wdX7_needCell q_599 ⟨Nat.le_of_ble_eq_true rfl, Nat.le_of_ble_eq_true rfl⟩ rfl (Nat.le_of_ble_eq_true rfl) dX7_depth_2) ?_
  refine r_aload_n S dX7_depth_5 0 rfl ?_
  refine r_iload_n S dX7_depth_6 1 rfl ?_
  obtain ⟨x3, h9, hE⟩ := b1_some hE
  refine rc_D S (rn_V S fc7 (by decide) (c_LL_depthValue _ _ (gYX S) a1 M2 _ h9) wdX7_depthValue q_81 ⟨Nat.le_of_ble_eq_true rfl, Nat.le_of_ble_eq_true rfl⟩ rfl (Nat.le_of_ble_eq_true rfl) dX7_depth_7) ?_
  obtain ⟨rfl, rfl⟩ := in2 hE
  exact hret _ _ dX7_depth_10
set_option maxRecDepth 100000 in
set_option maxHeartbeats 4000000 in
theorem n_LL_course (l : Launch) (Y : Env1) (hG : gY Y = gC) (a1 : Int32) (M : Mem) (r : Int64) (M1 : Mem) (hE : LL_course a1 M = some (.inl r, M1)) : CnL l Y yX7_course cX7_course 2 2 [.ref (hY Y + 0), .int a1] M r M1 := by
  refine met_L (own := RX7) (by decide +kernel) rfl hG (Nat.le_of_ble_eq_true rfl) (fun X S hY1 hl1 hret => ?_)
  subst hY1
  subst hl1
  show AW X 0 [(0, .ref (hY X.2.1.2 + 0)), (1, .int a1)] [] M
  unfold LL_course at hE
  refine r_aload_n S dX7_course_0 0 rfl ?_
  refine r_iload_n S dX7_course_1 1 rfl ?_
  obtain ⟨x1, M2, h9, hE⟩ := bi_some hE
  refine rc_V S (rn_V S fc7 (by decide) (n_LL_needCell _ _ (gYX S) a1 M _ _ h9) wdX7_needCell q_599 ⟨Nat.le_of_ble_eq_true rfl, Nat.le_of_ble_eq_true rfl⟩ rfl (Nat.le_of_ble_eq_true rfl) dX7_course_2) ?_
  refine r_aload_n S dX7_course_5 0 rfl ?_
  refine r_getRK S fc7 (by decide) 0 1 rfl rfl q_50 dX7_course_6 ?_
  refine r_getRKN S fc6 (by decide) 1 13 rfl rfl q_360 dX7_course_9 ?_
  refine r_iload_n S dX7_course_12 1 rfl ?_
  obtain ⟨x3, h9, hE⟩ := b1_some hE
  refine rc_L S (rn_V S fc5 (by decide) (c_WY_courseFrom _ _ (gYX S) 13 (by decide) a1 M2 _ h9) wdX5_courseFrom q_633 ⟨Nat.le_of_ble_eq_true rfl, Nat.le_of_ble_eq_true rfl⟩ rfl (Nat.le_of_ble_eq_true rfl) dX7_course_13) ?_
  obtain ⟨rfl, rfl⟩ := in2 hE
  exact hret _ _ dX7_course_16
set_option maxRecDepth 100000 in
set_option maxHeartbeats 4000000 in
theorem n_LL_amountFor (l : Launch) (Y : Env1) (hG : gY Y = gC) (a1 : Int32) (a2 : Int32) (M : Mem) (r : Int32) (M1 : Mem) (hE : LL_amountFor a1 a2 M = some (.inl r, M1)) : CnI l Y yX7_amountFor cX7_amountFor 7 .int 6 [.ref (hY Y + 0), .int a1, .int a2] M r M1 := by
  refine met_I (own := RX7) (by decide +kernel) rfl hG (Nat.le_of_ble_eq_true rfl) (fun X S hY1 hl1 hret => ?_)
  subst hY1
  subst hl1
  show AW X 0 [(0, .ref (hY X.2.1.2 + 0)), (1, .int a1), (2, .int a2)] [] M
  unfold LL_amountFor at hE
  refine r_aload_n S dX7_amountFor_0 0 rfl ?_
  refine r_iload_n S dX7_amountFor_1 1 rfl ?_
  obtain ⟨x1, M2, h9, hE⟩ := bi_some hE
  refine rc_V S (rn_V S fc7 (by decide) (n_LL_needCell _ _ (gYX S) a1 M _ _ h9) wdX7_needCell q_599 ⟨Nat.le_of_ble_eq_true rfl, Nat.le_of_ble_eq_true rfl⟩ rfl (Nat.le_of_ble_eq_true rfl) dX7_amountFor_2) ?_
  refine r_aload_n S dX7_amountFor_5 0 rfl ?_
  refine r_iload_n S dX7_amountFor_6 2 rfl ?_
  obtain ⟨x3, M4, h9, hE⟩ := bi_some hE
  refine rc_V S (rn_V S fc7 (by decide) (n_LL_needCell _ _ (gYX S) a2 M2 _ _ h9) wdX7_needCell q_599 ⟨Nat.le_of_ble_eq_true rfl, Nat.le_of_ble_eq_true rfl⟩ rfl (Nat.le_of_ble_eq_true rfl) dX7_amountFor_7) ?_
  refine r_aload_n S dX7_amountFor_10 0 rfl ?_
  refine r_iload_n S dX7_amountFor_11 1 rfl ?_
  refine r_iconst S (0 : Int32) dX7_amountFor_12 rfl ?_
  refine r_iload_n S dX7_amountFor_13 2 rfl ?_
  obtain ⟨x5, M6, h9, hE⟩ := b2_some hE
  refine rc_I S (rn_V S fc7 (by decide) (c_LL_wouldBeWet _ _ (gYX S) a1 (0 : Int32) a2 M4 _ _ h9) wdX7_wouldBeWet q_638 ⟨Nat.le_of_ble_eq_true rfl, Nat.le_of_ble_eq_true rfl⟩ rfl (Nat.le_of_ble_eq_true rfl) dX7_amountFor_14) ?_
  refine r_if_eq S 22 dX7_amountFor_17 (by decide) (fun c => ?_) (fun c => ?_)
  · rw [if_pos c] at hE
    refine r_aload_n S dX7_amountFor_22 0 rfl ?_
    refine r_iload_n S dX7_amountFor_23 1 rfl ?_
    refine r_ldc S (v := 100000) q_622 dX7_amountFor_24 ?_
    refine r_iload_n S dX7_amountFor_26 2 rfl ?_
    obtain ⟨x7, M8, h9, hE⟩ := b2_some hE
    refine rc_I S (rn_V S fc7 (by decide) (c_LL_wouldBeWet _ _ (gYX S) a1 (100000 : Int32) a2 M6 _ _ h9) wdX7_wouldBeWet q_638 ⟨Nat.le_of_ble_eq_true rfl, Nat.le_of_ble_eq_true rfl⟩ rfl (Nat.le_of_ble_eq_true rfl) dX7_amountFor_27) ?_
    refine r_if_ne S 35 dX7_amountFor_30 (by decide) (fun c => ?_) (fun c => ?_)
    · rw [if_pos c] at hE
      refine r_iconst S (0 : Int32) dX7_amountFor_35 rfl ?_
      refine r_istore_n (lv2 := [(3, .int (0 : Int32)), (0, .ref (hY X.2.1.2 + 0)), (1, .int a1), (2, .int a2)]) S dX7_amountFor_36 (by decide) rfl ?_
      refine r_ldc S (v := 100000) q_622 dX7_amountFor_37 ?_
      refine r_istore (lv2 := [(4, .int (100000 : Int32)), (3, .int (0 : Int32)), (0, .ref (hY X.2.1.2 + 0)), (1, .int a1), (2, .int a2)]) S dX7_amountFor_39 (by decide) rfl ?_
      refine r_iconst S (0 : Int32) dX7_amountFor_41 rfl ?_
      refine r_istore (lv2 := [(5, .int (0 : Int32)), (4, .int (100000 : Int32)), (3, .int (0 : Int32)), (0, .ref (hY X.2.1.2 + 0)), (1, .int a1), (2, .int a2)]) S dX7_amountFor_42 (by decide) rfl ?_
      have L44 : ∀ (v1 : Int32) (v2 : Int32) (e : (Int32)) (M2 : Mem), AW X 94 [(4, .int e)] [] M2 → ∀ (n : Nat) (s : Int32 × Int32 × Int32) (M : Mem), lpM (fun s M => LL_amountFor_L44 v1 v2 s.1 s.2.1 s.2.2 M) n s M = some (e, M2) → AW X 44 [(0, .ref (hY X.2.1.2 + 0)), (1, .int v1), (2, .int v2), (3, .int s.1), (4, .int s.2.1), (5, .int s.2.2)] [] M := by
        intro v1 v2 e M2 hX
        refine lpM_ind (P := fun (s : Int32 × Int32 × Int32) (M : Mem) => AW X 44 [(0, .ref (hY X.2.1.2 + 0)), (1, .int v1), (2, .int v2), (3, .int s.1), (4, .int s.2.1), (5, .int s.2.2)] [] M) ?_
        rintro ⟨v3, v4, v5⟩ M d M3 hE hC hD
        replace hE : LL_amountFor_L44 v1 v2 v3 v4 v5 M = some (d, M3) := hE
        show AW X 44 [(0, .ref (hY X.2.1.2 + 0)), (1, .int v1), (2, .int v2), (3, .int v3), (4, .int v4), (5, .int v5)] [] M
        unfold LL_amountFor_L44 at hE
        refine r_iload S dX7_amountFor_44 5 rfl ?_
        refine r_ldc S (v := 100000) q_622 dX7_amountFor_46 ?_
        refine r_icmp_ge S 94 dX7_amountFor_48 (by decide) (fun c => ?_) (fun c => ?_)
        · rw [if_pos c] at hE
          obtain ⟨rfl, rfl⟩ := si2 hE
          rcases hD with ⟨h1, h2⟩ | ⟨_, h1⟩
          · obtain rfl := sir h1
            subst h2
            exact r_sub [4] rfl hX
          · exact (sil h1).elim
        · rw [if_neg c] at hE
          refine r_iload S dX7_amountFor_51 4 rfl ?_
          refine r_iload_n S dX7_amountFor_53 3 rfl ?_
          refine r_isub S dX7_amountFor_54 ?_
          refine r_iconst S (1 : Int32) dX7_amountFor_55 rfl ?_
          refine r_icmp_le S 94 dX7_amountFor_56 (by decide) (fun c => ?_) (fun c => ?_)
          · rw [if_pos c] at hE
            obtain ⟨rfl, rfl⟩ := si2 hE
            rcases hD with ⟨h1, h2⟩ | ⟨_, h1⟩
            · obtain rfl := sir h1
              subst h2
              exact r_sub [4] rfl hX
            · exact (sil h1).elim
          · rw [if_neg c] at hE
            refine r_iload_n S dX7_amountFor_59 3 rfl ?_
            refine r_iload S dX7_amountFor_60 4 rfl ?_
            refine r_iadd S dX7_amountFor_62 ?_
            refine r_iconst S (2 : Int32) dX7_amountFor_63 rfl ?_
            refine r_idiv S dX7_amountFor_64 (by decide) ?_
            refine r_istore (lv2 := [(6, .int ((v3 + v4) / (2 : Int32))), (0, .ref (hY X.2.1.2 + 0)), (1, .int v1), (2, .int v2), (3, .int v3), (4, .int v4), (5, .int v5)]) S dX7_amountFor_65 (by decide) rfl ?_
            refine r_aload_n S dX7_amountFor_67 1 rfl ?_
            refine r_iload_n S dX7_amountFor_68 2 rfl ?_
            refine r_iload S dX7_amountFor_69 0 rfl ?_
            refine r_iload_n S dX7_amountFor_71 3 rfl ?_
            obtain ⟨x1, M2, h9, hE⟩ := b2_some hE
            refine rc_I S (rn_V S fc7 (by decide) (c_LL_wouldBeWet _ _ (gYX S) v1 ((v3 + v4) / (2 : Int32)) v2 M _ _ h9) wdX7_wouldBeWet q_638 ⟨Nat.le_of_ble_eq_true rfl, Nat.le_of_ble_eq_true rfl⟩ rfl (Nat.le_of_ble_eq_true rfl) dX7_amountFor_72) ?_
            refine r_if_eq S 85 dX7_amountFor_75 (by decide) (fun c => ?_) (fun c => ?_)
            · try simp only [if_pos c] at hE
              refine r_iload S dX7_amountFor_85 0 rfl ?_
              refine r_istore_n (lv2 := [(3, .int ((v3 + v4) / (2 : Int32))), (6, .int ((v3 + v4) / (2 : Int32))), (0, .ref (hY X.2.1.2 + 0)), (1, .int v1), (2, .int v2), (4, .int v4), (5, .int v5)]) S dX7_amountFor_87 (by decide) rfl ?_
              refine r_iinc (lv2 := [(5, .int (v5 + (1 : Int32))), (3, .int ((v3 + v4) / (2 : Int32))), (6, .int ((v3 + v4) / (2 : Int32))), (0, .ref (hY X.2.1.2 + 0)), (1, .int v1), (2, .int v2), (4, .int v4)]) S dX7_amountFor_88 (j := 6) rfl (by decide) rfl ?_
              refine r_goto S 44 dX7_amountFor_91 (by decide) ?_
              obtain ⟨rfl, rfl⟩ := si2 hE
              exact r_sub (lv2 := [(0, .ref (hY X.2.1.2 + 0)), (1, .int v1), (2, .int v2), (3, .int ((v3 + v4) / (2 : Int32))), (4, .int v4), (5, .int (v5 + (1 : Int32)))]) [3, 4, 5, 1, 6, 0] rfl (hC (((v3 + v4) / (2 : Int32)), v4, (v5 + (1 : Int32))) rfl)
            · try simp only [if_neg c] at hE
              refine r_iload S dX7_amountFor_78 0 rfl ?_
              refine r_istore (lv2 := [(4, .int ((v3 + v4) / (2 : Int32))), (6, .int ((v3 + v4) / (2 : Int32))), (0, .ref (hY X.2.1.2 + 0)), (1, .int v1), (2, .int v2), (3, .int v3), (5, .int v5)]) S dX7_amountFor_80 (by decide) rfl ?_
              refine r_goto S 88 dX7_amountFor_82 (by decide) ?_
              refine r_iinc (lv2 := [(5, .int (v5 + (1 : Int32))), (4, .int ((v3 + v4) / (2 : Int32))), (6, .int ((v3 + v4) / (2 : Int32))), (0, .ref (hY X.2.1.2 + 0)), (1, .int v1), (2, .int v2), (3, .int v3)]) S dX7_amountFor_88 (j := 6) rfl (by decide) rfl ?_
              refine r_goto S 44 dX7_amountFor_91 (by decide) ?_
              obtain ⟨rfl, rfl⟩ := si2 hE
              exact r_sub (lv2 := [(0, .ref (hY X.2.1.2 + 0)), (1, .int v1), (2, .int v2), (3, .int v3), (4, .int ((v3 + v4) / (2 : Int32))), (5, .int (v5 + (1 : Int32)))]) [3, 4, 5, 6, 1, 0] rfl (hC (v3, ((v3 + v4) / (2 : Int32)), (v5 + (1 : Int32))) rfl)
      obtain ⟨e9, M10, h9, hE⟩ := b2_some hE
      refine r_sub [3, 4, 5, 2, 1, 0] rfl (L44 a1 a2  e9 M10 ?_ _ _ M8 h9)
      refine r_iload S dX7_amountFor_94 0 rfl ?_
      obtain ⟨rfl, rfl⟩ := in2 hE
      exact hret _ _ dX7_amountFor_96
    · rw [if_neg (not_not_intro c)] at hE
      refine r_iconst S (-1 : Int32) dX7_amountFor_33 rfl ?_
      obtain ⟨rfl, rfl⟩ := in2 hE
      exact hret _ _ dX7_amountFor_34
  · rw [if_neg c] at hE
    refine r_iconst S (0 : Int32) dX7_amountFor_20 rfl ?_
    obtain ⟨rfl, rfl⟩ := in2 hE
    exact hret _ _ dX7_amountFor_21
set_option maxRecDepth 100000 in
set_option maxHeartbeats 4000000 in
theorem n_LL_append (l : Launch) (Y : Env1) (hG : gY Y = gC) (a1 : Int32) (M : Mem) (r : Int32) (M1 : Mem) (hE : LL_append a1 M = some (.inl r, M1)) : CnI l Y yX7_append cX7_append 2 .int 2 [.ref (hY Y + 0), .int a1] M r M1 := by
  refine met_I (own := RX7) (by decide +kernel) rfl hG (Nat.le_of_ble_eq_true rfl) (fun X S hY1 hl1 hret => ?_)
  subst hY1
  subst hl1
  show AW X 0 [(0, .ref (hY X.2.1.2 + 0)), (1, .int a1)] [] M
  unfold LL_append at hE
  refine r_iload_n S dX7_append_0 1 rfl ?_
  refine r_iconst S (0 : Int32) dX7_append_1 rfl ?_
  refine r_bipush S (127 : Int32) dX7_append_2 rfl ?_
  obtain ⟨x1, M2, h9, hE⟩ := bi_some hE
  refine rc_V S (rn_S S (n_LL_needWithin _ _ (gYX S) a1 (0 : Int32) (127 : Int32) M _ _ h9) wdX7_needWithin q_594 ⟨Nat.le_of_ble_eq_true rfl, Nat.le_of_ble_eq_true rfl⟩ rfl (Nat.le_of_ble_eq_true rfl) dX7_append_4) ?_
  refine r_aload_n S dX7_append_7 0 rfl ?_
  refine r_getRK S fc7 (by decide) 3 94 rfl rfl q_86 dX7_append_8 ?_
  refine r_getIN S fc2 (by decide) 1 rfl q_87 dX7_append_11 ?_
  refine r_sipush S (150 : Int32) dX7_append_14 rfl ?_
  refine r_icmp_lt S 30 dX7_append_17 (by decide) (fun c => ?_) (fun c => ?_)
  · rw [if_pos c] at hE
    refine r_aload_n S dX7_append_30 0 rfl ?_
    refine r_getRK S fc7 (by decide) 3 94 rfl rfl q_86 dX7_append_31 ?_
    refine r_iload_n S dX7_append_34 1 rfl ?_
    obtain ⟨x3, M4, h9, hE⟩ := b2_some hE
    refine rc_V S (rn_V S fc2 (by decide) (c_LT_add _ _ (gYX S) a1 M2 _ _ h9) wdX2_add q_643 ⟨Nat.le_of_ble_eq_true rfl, Nat.le_of_ble_eq_true rfl⟩ rfl (Nat.le_of_ble_eq_true rfl) dX7_append_35) ?_
    refine r_aload_n S dX7_append_38 0 rfl ?_
    refine r_getRK S fc7 (by decide) 3 94 rfl rfl q_86 dX7_append_39 ?_
    refine r_getIN S fc2 (by decide) 1 rfl q_87 dX7_append_42 ?_
    obtain ⟨rfl, rfl⟩ := in2 hE
    exact hret _ _ dX7_append_45
  · rw [if_neg c] at hE
    exact (inx hE).elim
set_option maxRecDepth 100000 in
set_option maxHeartbeats 4000000 in
theorem n_LL_undo (l : Launch) (Y : Env1) (hG : gY Y = gC) (M : Mem) (r : Int32) (M1 : Mem) (hE : LL_undo M = some (.inl r, M1)) : CnI l Y yX7_undo cX7_undo 1 .int 5 [.ref (hY Y + 0)] M r M1 := by
  refine met_I (own := RX7) (by decide +kernel) rfl hG (Nat.le_of_ble_eq_true rfl) (fun X S hY1 hl1 hret => ?_)
  subst hY1
  subst hl1
  show AW X 0 [(0, .ref (hY X.2.1.2 + 0))] [] M
  unfold LL_undo at hE
  refine r_aload_n S dX7_undo_0 0 rfl ?_
  refine r_getI S fc7 (by decide) 4 rfl q_248 dX7_undo_1 ?_
  refine r_if_gt S 17 dX7_undo_4 (by decide) (fun c => ?_) (fun c => ?_)
  · rw [if_pos c] at hE
    refine r_aload_n S dX7_undo_17 0 rfl ?_
    refine r_aload_n S dX7_undo_18 0 rfl ?_
    refine r_getI S fc7 (by decide) 5 rfl q_237 dX7_undo_19 ?_
    refine r_iconst S (4 : Int32) dX7_undo_22 rfl ?_
    refine r_iadd S dX7_undo_23 ?_
    refine r_iconst S (1 : Int32) dX7_undo_24 rfl ?_
    refine r_isub S dX7_undo_25 ?_
    refine r_iconst S (4 : Int32) dX7_undo_26 rfl ?_
    refine r_irem S dX7_undo_27 (by decide) ?_
    refine r_putI S fc7 (by decide) 5 rfl rfl (by decide +kernel) q_237 dX7_undo_28 ?_
    refine r_aload_n S dX7_undo_31 0 rfl ?_
    refine r_dup S dX7_undo_32 rfl ?_
    refine r_getI S fc7 (by decide) 4 rfl q_248 dX7_undo_33 ?_
    refine r_iconst S (1 : Int32) dX7_undo_36 rfl ?_
    refine r_isub S dX7_undo_37 ?_
    refine r_putI S fc7 (by decide) 4 rfl rfl (by decide +kernel) q_248 dX7_undo_38 ?_
    refine r_aload_n S dX7_undo_41 0 rfl ?_
    refine r_getRK S fc7 (by decide) 0 1 rfl rfl q_50 dX7_undo_42 ?_
    refine r_aload_n S dX7_undo_45 0 rfl ?_
    refine r_aload_n S dX7_undo_46 0 rfl ?_
    refine r_getI S fc7 (by decide) 5 rfl q_237 dX7_undo_47 ?_
    refine rc_R S (rn_V S fc7 (by decide) (c_LL_savedAt _ _ (gYX S) (gI (sI (sI M 0 5 (irm (((gI M 0 5) + (4 : Int32)) - (1 : Int32)) (4 : Int32))) 0 4 ((gI (sI M 0 5 (irm (((gI M 0 5) + (4 : Int32)) - (1 : Int32)) (4 : Int32))) 0 4) - (1 : Int32))) 0 5) (sI (sI M 0 5 (irm (((gI M 0 5) + (4 : Int32)) - (1 : Int32)) (4 : Int32))) 0 4 ((gI (sI M 0 5 (irm (((gI M 0 5) + (4 : Int32)) - (1 : Int32)) (4 : Int32))) 0 4) - (1 : Int32))) _ rfl) wdX7_savedAt q_238 ⟨Nat.le_of_ble_eq_true rfl, Nat.le_of_ble_eq_true rfl⟩ rfl (Nat.le_of_ble_eq_true rfl) dX7_undo_50) ?_
    obtain ⟨x1, M2, h9, hE⟩ := b2_some hE
    refine rc_V S (rn_V S fc6 (by decide) (c_WD_copyFrom _ _ (gYX S) 1 (by decide) (fSavedAt (gI (sI (sI M 0 5 (irm (((gI M 0 5) + (4 : Int32)) - (1 : Int32)) (4 : Int32))) 0 4 ((gI (sI M 0 5 (irm (((gI M 0 5) + (4 : Int32)) - (1 : Int32)) (4 : Int32))) 0 4) - (1 : Int32))) 0 5)) (kk_savedAt (gI (sI (sI M 0 5 (irm (((gI M 0 5) + (4 : Int32)) - (1 : Int32)) (4 : Int32))) 0 4 ((gI (sI M 0 5 (irm (((gI M 0 5) + (4 : Int32)) - (1 : Int32)) (4 : Int32))) 0 4) - (1 : Int32))) 0 5)) (sI (sI M 0 5 (irm (((gI M 0 5) + (4 : Int32)) - (1 : Int32)) (4 : Int32))) 0 4 ((gI (sI M 0 5 (irm (((gI M 0 5) + (4 : Int32)) - (1 : Int32)) (4 : Int32))) 0 4) - (1 : Int32))) _ _ h9) wdX6_copyFrom q_243 ⟨Nat.le_of_ble_eq_true rfl, Nat.le_of_ble_eq_true rfl⟩ rfl (Nat.le_of_ble_eq_true rfl) dX7_undo_53) ?_
    refine r_aload_n S dX7_undo_56 0 rfl ?_
    refine r_getI S fc7 (by decide) 4 rfl q_248 dX7_undo_57 ?_
    obtain ⟨rfl, rfl⟩ := in2 hE
    exact hret _ _ dX7_undo_60
  · rw [if_neg c] at hE
    exact (inx hE).elim
