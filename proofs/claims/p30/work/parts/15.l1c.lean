set_option maxRecDepth 100000 in
set_option maxHeartbeats 4000000 in
theorem c_LL_parse (l : Launch) (Y : Env1) (hG : gY Y = gC) (M : Mem) (r : Int32) (M1 : Mem) (hE : LL_parse M = some (r, M1)) : CnI l Y yX7_parse cX7_parse 2 .int 6 [.ref (hY Y + 0)] M r M1 := by
  refine met_I (own := RX7) (by decide +kernel) rfl hG (Nat.le_of_ble_eq_true rfl) (fun X S hY1 hl1 hret => ?_)
  subst hY1
  subst hl1
  show AW X 0 [(0, .ref (hY X.2.1.2 + 0))] [] M
  unfold LL_parse at hE
  refine r_aload_n S dX7_parse_0 0 rfl ?_
  refine r_getRK S fc7 (by decide) 3 94 rfl rfl q_86 dX7_parse_1 ?_
  refine r_aload_n S dX7_parse_4 0 rfl ?_
  refine r_getRK S fc7 (by decide) 1 47 rfl rfl q_343 dX7_parse_5 ?_
  refine r_getRKN S fc6 (by decide) 0 48 rfl rfl q_54 dX7_parse_8 ?_
  obtain ⟨x1, M2, h9, hE⟩ := b2_some hE
  refine rc_I S (rn_V S fc2 (by decide) (c_LT_readInto _ _ (gYX S) 48 (by decide) M _ _ h9) wdX2_readInto q_344 ⟨Nat.le_of_ble_eq_true rfl, Nat.le_of_ble_eq_true rfl⟩ rfl (Nat.le_of_ble_eq_true rfl) dX7_parse_11) ?_
  refine r_istore_n (lv2 := [(1, .int x1), (0, .ref (hY X.2.1.2 + 0))]) S dX7_parse_14 (by decide) rfl ?_
  refine r_iload_n S dX7_parse_15 0 rfl ?_
  refine r_iconst S (-1 : Int32) dX7_parse_16 rfl ?_
  refine r_icmp_eq S 25 dX7_parse_17 (by decide) (fun c => ?_) (fun c => ?_)
  · rw [if_pos c] at hE
    refine r_aload_n S dX7_parse_25 1 rfl ?_
    obtain ⟨x3, M4, h9, hE⟩ := b2_some hE
    refine rc_V S (rn_V S fc7 (by decide) (c_LL_save _ _ (gYX S)  M2 _ _ h9) wdX7_save q_349 ⟨Nat.le_of_ble_eq_true rfl, Nat.le_of_ble_eq_true rfl⟩ rfl (Nat.le_of_ble_eq_true rfl) dX7_parse_26) ?_
    refine r_aload_n S dX7_parse_29 1 rfl ?_
    refine r_getRK S fc7 (by decide) 0 1 rfl rfl q_50 dX7_parse_30 ?_
    refine r_getRKN S fc6 (by decide) 0 2 rfl rfl q_54 dX7_parse_33 ?_
    refine r_aload_n S dX7_parse_36 1 rfl ?_
    refine r_getRK S fc7 (by decide) 1 47 rfl rfl q_343 dX7_parse_37 ?_
    refine r_getRKN S fc6 (by decide) 0 48 rfl rfl q_54 dX7_parse_40 ?_
    obtain ⟨x5, M6, h9, hE⟩ := b2_some hE
    refine rc_V S (rn_V S fc0 (by decide) (c_GR_copyFrom _ _ (gYX S) 2 (by decide) 48 (by decide) M4 _ _ h9) wdX0_copyFrom q_354 ⟨Nat.le_of_ble_eq_true rfl, Nat.le_of_ble_eq_true rfl⟩ rfl (Nat.le_of_ble_eq_true rfl) dX7_parse_43) ?_
    refine r_aload_n S dX7_parse_46 1 rfl ?_
    refine r_getRK S fc7 (by decide) 0 1 rfl rfl q_50 dX7_parse_47 ?_
    obtain ⟨x7, M8, h9, hE⟩ := b2_some hE
    refine rc_V S (rn_V S fc6 (by decide) (c_WD_restart _ _ (gYX S) 1 (by decide) M6 _ _ h9) wdX6_restart q_355 ⟨Nat.le_of_ble_eq_true rfl, Nat.le_of_ble_eq_true rfl⟩ rfl (Nat.le_of_ble_eq_true rfl) dX7_parse_50) ?_
    refine r_aload_n S dX7_parse_53 1 rfl ?_
    refine r_getRK S fc7 (by decide) 0 1 rfl rfl q_50 dX7_parse_54 ?_
    refine r_getRKN S fc6 (by decide) 1 13 rfl rfl q_360 dX7_parse_57 ?_
    refine r_getIN S fc5 (by decide) 0 rfl q_361 dX7_parse_60 ?_
    obtain ⟨rfl, rfl⟩ := si2 hE
    exact hret _ _ dX7_parse_63
  · rw [if_neg c] at hE
    refine r_bipush S (-10 : Int32) dX7_parse_20 rfl ?_
    refine r_iload_n S dX7_parse_22 0 rfl ?_
    refine r_isub S dX7_parse_23 ?_
    obtain ⟨rfl, rfl⟩ := si2 hE
    exact hret _ _ dX7_parse_24
set_option maxRecDepth 100000 in
set_option maxHeartbeats 4000000 in
theorem c_LL_mix (l : Launch) (Y : Env1) (hG : gY Y = gC) (a0 : Int64) (a2 : Int64) (M : Mem) (r : Int64) (hE : LL_mix a0 a2 = r) : CnL l Y yX7_mix cX7_mix 4 0 [.long a0, .long a2] M r M := by
  refine met_L (own := RX7) (by decide +kernel) rfl hG (Nat.le_of_ble_eq_true rfl) (fun X S hY1 hl1 hret => ?_)
  subst hY1
  subst hl1
  show AW X 0 [(0, .long a0), (2, .long a2)] [] M
  unfold LL_mix at hE
  refine r_ldc2 S (v := 31) q_362 dX7_mix_0 ?_
  refine r_lload_n S dX7_mix_3 0 rfl ?_
  refine r_lmul S dX7_mix_4 ?_
  refine r_lload_n S dX7_mix_5 1 rfl ?_
  refine r_ladd S dX7_mix_6 ?_
  subst hE
  exact hret _ _ dX7_mix_7
set_option maxRecDepth 100000 in
set_option maxHeartbeats 4000000 in
theorem c_LK_isLowestOfLake (l : Launch) (Y : Env1) (hG : gY Y = gC) (o : Nat) (ho : kC o = 1) (a1 : Int32) (M : Mem) (r : Int32) (hE : LK_isLowestOfLake o a1 M = r) : CnI l Y yX1_isLowestOfLake cX1_isLowestOfLake 3 .boolean 2 [.ref (hY Y + o), .int a1] M r M := by
  refine met_Z (own := RX1) (by decide +kernel) rfl hG (Nat.le_of_ble_eq_true rfl) (fun X S hY1 hl1 hret => ?_)
  subst hY1
  subst hl1
  show AW X 0 [(0, .ref (hY X.2.1.2 + o)), (1, .int a1)] [] M
  unfold LK_isLowestOfLake at hE
  refine r_aload_n S dX1_isLowestOfLake_0 0 rfl ?_
  refine r_getRK S fc1 ho 8 (o + 17) rfl rfl q_215 dX1_isLowestOfLake_1 ?_
  refine r_iload_n S dX1_isLowestOfLake_4 1 rfl ?_
  refine rc_I S (rn_V S fc3 (kk1_17 ho) (c_NR_at _ _ (gYX S) (o + 17) (kk1_17 ho) a1 M _ rfl) wdX3_at q_31 ⟨Nat.le_of_ble_eq_true rfl, Nat.le_of_ble_eq_true rfl⟩ rfl (Nat.le_of_ble_eq_true rfl) dX1_isLowestOfLake_5) ?_
  refine r_istore_n (lv2 := [(2, .int (fAtI (o + 17) a1 M)), (0, .ref (hY X.2.1.2 + o)), (1, .int a1)]) S dX1_isLowestOfLake_8 (by decide) rfl ?_
  refine r_iload_n S dX1_isLowestOfLake_9 0 rfl ?_
  refine r_iconst S (-1 : Int32) dX1_isLowestOfLake_10 rfl ?_
  refine r_icmp_eq S 33 dX1_isLowestOfLake_11 (by decide) (fun c => ?_) (fun c => ?_)
  · try simp only [if_pos c] at hE
    refine r_iconst S (0 : Int32) dX1_isLowestOfLake_33 rfl ?_
    subst hE
    exact hret _ _ _ dX1_isLowestOfLake_34 (by decide)
  · try simp only [if_neg c] at hE
    refine r_aload_n S dX1_isLowestOfLake_14 1 rfl ?_
    refine r_getRK S fc1 ho 0 (o + 1) rfl rfl q_23 dX1_isLowestOfLake_15 ?_
    refine r_iload_n S dX1_isLowestOfLake_18 0 rfl ?_
    refine rc_L S (rn_V S fc4 (kk1_1 ho) (c_SR_at _ _ (gYX S) (o + 1) (kk1_1 ho) (fAtI (o + 17) a1 M) M _ rfl) wdX4_at q_24 ⟨Nat.le_of_ble_eq_true rfl, Nat.le_of_ble_eq_true rfl⟩ rfl (Nat.le_of_ble_eq_true rfl) dX1_isLowestOfLake_19) ?_
    refine rc_I S (rn_SN S (c_LL_lowestIn _ _ (gYX S) (fAtL (o + 1) (fAtI (o + 17) a1 M) M) M _ rfl) wdX7_lowestIn q_363 ⟨Nat.le_of_ble_eq_true rfl, Nat.le_of_ble_eq_true rfl⟩ rfl (Nat.le_of_ble_eq_true rfl) dX1_isLowestOfLake_22) ?_
    refine r_iload_n S dX1_isLowestOfLake_25 2 rfl ?_
    refine r_icmp_ne S 33 dX1_isLowestOfLake_26 (by decide) (fun c => ?_) (fun c => ?_)
    · try simp only [if_pos c] at hE
      refine r_iconst S (0 : Int32) dX1_isLowestOfLake_33 rfl ?_
      subst hE
      exact hret _ _ _ dX1_isLowestOfLake_34 (by decide)
    · try simp only [if_neg (not_not_intro c)] at hE
      refine r_iconst S (1 : Int32) dX1_isLowestOfLake_29 rfl ?_
      refine r_goto S 34 dX1_isLowestOfLake_30 (by decide) ?_
      subst hE
      exact hret _ _ _ dX1_isLowestOfLake_34 (by decide)
set_option maxRecDepth 100000 in
set_option maxHeartbeats 4000000 in
theorem c_LK_total (l : Launch) (Y : Env1) (hG : gY Y = gC) (o : Nat) (ho : kC o = 1) (M : Mem) (r : Int32) (hE : LK_total o M = some r) : CnI l Y yX1_total cX1_total 3 .int 3 [.ref (hY Y + o)] M r M := by
  refine met_I (own := RX1) (by decide +kernel) rfl hG (Nat.le_of_ble_eq_true rfl) (fun X S hY1 hl1 hret => ?_)
  subst hY1
  subst hl1
  show AW X 0 [(0, .ref (hY X.2.1.2 + o))] [] M
  have L4 : ∀ (v0 : Nat) (k0 : kC v0 = 1) (e : (Int32)), AW X 32 [(1, .int e)] [] M → ∀ (n : Nat) (s : Int32 × Int32), lpR (fun s => LK_total_L4 v0 s.1 s.2 M) n s = some e → AW X 4 [(0, .ref (hY X.2.1.2 + v0)), (1, .int s.1), (2, .int s.2)] [] M := by
    intro v0 k0 e hX
    refine lpR_ind (P := fun (s : Int32 × Int32) => AW X 4 [(0, .ref (hY X.2.1.2 + v0)), (1, .int s.1), (2, .int s.2)] [] M) ?_
    rintro ⟨v1, v2⟩ d hE hC hD
    replace hE : LK_total_L4 v0 v1 v2 M = some d := hE
    show AW X 4 [(0, .ref (hY X.2.1.2 + v0)), (1, .int v1), (2, .int v2)] [] M
    unfold LK_total_L4 at hE
    refine r_iload_n S dX1_total_4 2 rfl ?_
    refine r_bipush S (36 : Int32) dX1_total_5 rfl ?_
    refine r_icmp_ge S 32 dX1_total_7 (by decide) (fun c => ?_) (fun c => ?_)
    · rw [if_pos c] at hE
      obtain rfl := si1 hE
      rcases hD with h1 | ⟨_, h1⟩
      · obtain rfl := sir h1
        exact r_sub [1] rfl hX
      · exact (sil h1).elim
    · rw [if_neg c] at hE
      refine r_iload_n S dX1_total_10 1 rfl ?_
      refine r_aload_n S dX1_total_11 0 rfl ?_
      refine r_iload_n S dX1_total_12 2 rfl ?_
      refine rc_I S (rn_V S fc1 k0 (c_LK_isLowestOfLake _ _ (gYX S) v0 k0 v2 M _ rfl) wdX1_isLowestOfLake q_364 ⟨Nat.le_of_ble_eq_true rfl, Nat.le_of_ble_eq_true rfl⟩ rfl (Nat.le_of_ble_eq_true rfl) dX1_total_13) ?_
      refine r_if_eq S 23 dX1_total_16 (by decide) (fun c => ?_) (fun c => ?_)
      · try simp only [if_pos c] at hE
        refine r_iconst S (0 : Int32) dX1_total_23 rfl ?_
        refine r_iadd S dX1_total_24 ?_
        refine r_istore_n (lv2 := [(1, .int (v1 + (0 : Int32))), (0, .ref (hY X.2.1.2 + v0)), (2, .int v2)]) S dX1_total_25 (by decide) rfl ?_
        refine r_iinc (lv2 := [(2, .int (v2 + (1 : Int32))), (1, .int (v1 + (0 : Int32))), (0, .ref (hY X.2.1.2 + v0))]) S dX1_total_26 (j := 2) rfl (by decide) rfl ?_
        refine r_goto S 4 dX1_total_29 (by decide) ?_
        obtain rfl := si1 hE
        exact r_sub (lv2 := [(0, .ref (hY X.2.1.2 + v0)), (1, .int (v1 + (0 : Int32))), (2, .int (v2 + (1 : Int32)))]) [2, 1, 0] rfl (hC ((v1 + (0 : Int32)), (v2 + (1 : Int32))) rfl)
      · try simp only [if_neg c] at hE
        refine r_iconst S (1 : Int32) dX1_total_19 rfl ?_
        refine r_goto S 24 dX1_total_20 (by decide) ?_
        refine r_iadd S dX1_total_24 ?_
        refine r_istore_n (lv2 := [(1, .int (v1 + (1 : Int32))), (0, .ref (hY X.2.1.2 + v0)), (2, .int v2)]) S dX1_total_25 (by decide) rfl ?_
        refine r_iinc (lv2 := [(2, .int (v2 + (1 : Int32))), (1, .int (v1 + (1 : Int32))), (0, .ref (hY X.2.1.2 + v0))]) S dX1_total_26 (j := 2) rfl (by decide) rfl ?_
        refine r_goto S 4 dX1_total_29 (by decide) ?_
        obtain rfl := si1 hE
        exact r_sub (lv2 := [(0, .ref (hY X.2.1.2 + v0)), (1, .int (v1 + (1 : Int32))), (2, .int (v2 + (1 : Int32)))]) [2, 1, 0] rfl (hC ((v1 + (1 : Int32)), (v2 + (1 : Int32))) rfl)
  unfold LK_total at hE
  refine r_iconst S (0 : Int32) dX1_total_0 rfl ?_
  refine r_istore_n (lv2 := [(1, .int (0 : Int32)), (0, .ref (hY X.2.1.2 + o))]) S dX1_total_1 (by decide) rfl ?_
  refine r_iconst S (0 : Int32) dX1_total_2 rfl ?_
  refine r_istore_n (lv2 := [(2, .int (0 : Int32)), (1, .int (0 : Int32)), (0, .ref (hY X.2.1.2 + o))]) S dX1_total_3 (by decide) rfl ?_
  obtain ⟨e1, h9, hE⟩ := b1_some hE
  refine r_sub [2, 1, 0] rfl (L4 o ho  e1 ?_ _ _  h9)
  refine r_iload_n S dX1_total_32 0 rfl ?_
  obtain rfl := si1 hE
  exact hret _ _ dX1_total_33
set_option maxRecDepth 100000 in
set_option maxHeartbeats 4000000 in
theorem c_WD_isWet (l : Launch) (Y : Env1) (hG : gY Y = gC) (o : Nat) (ho : kC o = 6) (a1 : Int32) (M : Mem) (r : Int32) (hE : WD_isWet o a1 M = some r) : CnI l Y yX6_isWet cX6_isWet 2 .boolean 2 [.ref (hY Y + o), .int a1] M r M := by
  refine met_Z (own := RX6) (by decide +kernel) rfl hG (Nat.le_of_ble_eq_true rfl) (fun X S hY1 hl1 hret => ?_)
  subst hY1
  subst hl1
  show AW X 0 [(0, .ref (hY X.2.1.2 + o)), (1, .int a1)] [] M
  unfold WD_isWet at hE
  refine r_aload_n S dX6_isWet_0 0 rfl ?_
  refine r_getRK S fc6 ho 2 (o + 19) rfl rfl q_228 dX6_isWet_1 ?_
  refine r_aload_n S dX6_isWet_4 0 rfl ?_
  refine r_getRK S fc6 ho 0 (o + 1) rfl rfl q_216 dX6_isWet_5 ?_
  refine r_aload_n S dX6_isWet_8 0 rfl ?_
  refine r_getRK S fc6 ho 2 (o + 19) rfl rfl q_228 dX6_isWet_9 ?_
  refine r_getRKN S fc1 (kk6_19 ho) 8 (o + 36) rfl rfl q_369 dX6_isWet_12 ?_
  refine r_iload_n S dX6_isWet_15 1 rfl ?_
  refine rc_I S (rn_V S fc3 (kk1_17 (kk6_19 ho)) (c_NR_at _ _ (gYX S) (o + 36) (kk1_17 (kk6_19 ho)) a1 M _ rfl) wdX3_at q_370 ⟨Nat.le_of_ble_eq_true rfl, Nat.le_of_ble_eq_true rfl⟩ rfl (Nat.le_of_ble_eq_true rfl) dX6_isWet_16) ?_
  obtain ⟨x1, h9, hE⟩ := b1_some hE
  refine rc_L S (rn_V S fc1 (kk6_19 ho) (c_LK_wetCells _ _ (gYX S) (o + 19) (kk6_19 ho) (o + 1) (kk6_1 ho) (fAtI (o + 36) a1 M) M _ h9) wdX1_wetCells q_371 ⟨Nat.le_of_ble_eq_true rfl, Nat.le_of_ble_eq_true rfl⟩ rfl (Nat.le_of_ble_eq_true rfl) dX6_isWet_19) ?_
  refine r_iload_n S dX6_isWet_22 1 rfl ?_
  refine rc_I S (rn_SN S (c_LL_has _ _ (gYX S) x1 a1 M _ rfl) wdX7_has q_372 ⟨Nat.le_of_ble_eq_true rfl, Nat.le_of_ble_eq_true rfl⟩ rfl (Nat.le_of_ble_eq_true rfl) dX6_isWet_23) ?_
  obtain rfl := si1 hE
  exact hret _ _ _ dX6_isWet_26 rfl
set_option maxRecDepth 100000 in
set_option maxHeartbeats 4000000 in
theorem c_WD_wetTotal (l : Launch) (Y : Env1) (hG : gY Y = gC) (o : Nat) (ho : kC o = 6) (M : Mem) (r : Int32) (hE : WD_wetTotal o M = some r) : CnI l Y yX6_wetTotal cX6_wetTotal 3 .int 3 [.ref (hY Y + o)] M r M := by
  refine met_I (own := RX6) (by decide +kernel) rfl hG (Nat.le_of_ble_eq_true rfl) (fun X S hY1 hl1 hret => ?_)
  subst hY1
  subst hl1
  show AW X 0 [(0, .ref (hY X.2.1.2 + o))] [] M
  have L4 : ∀ (v0 : Nat) (k0 : kC v0 = 6) (e : (Int32)), AW X 37 [(1, .int e)] [] M → ∀ (n : Nat) (s : Int32 × Int32), lpR (fun s => WD_wetTotal_L4 v0 s.1 s.2 M) n s = some e → AW X 4 [(0, .ref (hY X.2.1.2 + v0)), (1, .int s.1), (2, .int s.2)] [] M := by
    intro v0 k0 e hX
    refine lpR_ind (P := fun (s : Int32 × Int32) => AW X 4 [(0, .ref (hY X.2.1.2 + v0)), (1, .int s.1), (2, .int s.2)] [] M) ?_
    rintro ⟨v1, v2⟩ d hE hC hD
    replace hE : WD_wetTotal_L4 v0 v1 v2 M = some d := hE
    show AW X 4 [(0, .ref (hY X.2.1.2 + v0)), (1, .int v1), (2, .int v2)] [] M
    unfold WD_wetTotal_L4 at hE
    refine r_iload_n S dX6_wetTotal_4 2 rfl ?_
    refine r_aload_n S dX6_wetTotal_5 0 rfl ?_
    refine r_getRK S fc6 k0 0 (v0 + 1) rfl rfl q_216 dX6_wetTotal_6 ?_
    refine r_getIN S fc0 (kk6_1 k0) 2 rfl q_373 dX6_wetTotal_9 ?_
    refine r_icmp_ge S 37 dX6_wetTotal_12 (by decide) (fun c => ?_) (fun c => ?_)
    · rw [if_pos c] at hE
      obtain rfl := si1 hE
      rcases hD with h1 | ⟨_, h1⟩
      · obtain rfl := sir h1
        exact r_sub [1] rfl hX
      · exact (sil h1).elim
    · rw [if_neg c] at hE
      refine r_iload_n S dX6_wetTotal_15 1 rfl ?_
      refine r_aload_n S dX6_wetTotal_16 0 rfl ?_
      refine r_iload_n S dX6_wetTotal_17 2 rfl ?_
      obtain ⟨x1, h9, hE⟩ := b1_some hE
      refine rc_I S (rn_V S fc6 k0 (c_WD_isWet _ _ (gYX S) v0 k0 v2 M _ h9) wdX6_isWet q_374 ⟨Nat.le_of_ble_eq_true rfl, Nat.le_of_ble_eq_true rfl⟩ rfl (Nat.le_of_ble_eq_true rfl) dX6_wetTotal_18) ?_
      refine r_if_eq S 28 dX6_wetTotal_21 (by decide) (fun c => ?_) (fun c => ?_)
      · try simp only [if_pos c] at hE
        refine r_iconst S (0 : Int32) dX6_wetTotal_28 rfl ?_
        refine r_iadd S dX6_wetTotal_29 ?_
        refine r_istore_n (lv2 := [(1, .int (v1 + (0 : Int32))), (0, .ref (hY X.2.1.2 + v0)), (2, .int v2)]) S dX6_wetTotal_30 (by decide) rfl ?_
        refine r_iinc (lv2 := [(2, .int (v2 + (1 : Int32))), (1, .int (v1 + (0 : Int32))), (0, .ref (hY X.2.1.2 + v0))]) S dX6_wetTotal_31 (j := 2) rfl (by decide) rfl ?_
        refine r_goto S 4 dX6_wetTotal_34 (by decide) ?_
        obtain rfl := si1 hE
        exact r_sub (lv2 := [(0, .ref (hY X.2.1.2 + v0)), (1, .int (v1 + (0 : Int32))), (2, .int (v2 + (1 : Int32)))]) [2, 1, 0] rfl (hC ((v1 + (0 : Int32)), (v2 + (1 : Int32))) rfl)
      · try simp only [if_neg c] at hE
        refine r_iconst S (1 : Int32) dX6_wetTotal_24 rfl ?_
        refine r_goto S 29 dX6_wetTotal_25 (by decide) ?_
        refine r_iadd S dX6_wetTotal_29 ?_
        refine r_istore_n (lv2 := [(1, .int (v1 + (1 : Int32))), (0, .ref (hY X.2.1.2 + v0)), (2, .int v2)]) S dX6_wetTotal_30 (by decide) rfl ?_
        refine r_iinc (lv2 := [(2, .int (v2 + (1 : Int32))), (1, .int (v1 + (1 : Int32))), (0, .ref (hY X.2.1.2 + v0))]) S dX6_wetTotal_31 (j := 2) rfl (by decide) rfl ?_
        refine r_goto S 4 dX6_wetTotal_34 (by decide) ?_
        obtain rfl := si1 hE
        exact r_sub (lv2 := [(0, .ref (hY X.2.1.2 + v0)), (1, .int (v1 + (1 : Int32))), (2, .int (v2 + (1 : Int32)))]) [2, 1, 0] rfl (hC ((v1 + (1 : Int32)), (v2 + (1 : Int32))) rfl)
  unfold WD_wetTotal at hE
  refine r_iconst S (0 : Int32) dX6_wetTotal_0 rfl ?_
  refine r_istore_n (lv2 := [(1, .int (0 : Int32)), (0, .ref (hY X.2.1.2 + o))]) S dX6_wetTotal_1 (by decide) rfl ?_
  refine r_iconst S (0 : Int32) dX6_wetTotal_2 rfl ?_
  refine r_istore_n (lv2 := [(2, .int (0 : Int32)), (1, .int (0 : Int32)), (0, .ref (hY X.2.1.2 + o))]) S dX6_wetTotal_3 (by decide) rfl ?_
  obtain ⟨e1, h9, hE⟩ := b1_some hE
  refine r_sub [2, 1, 0] rfl (L4 o ho  e1 ?_ _ _  h9)
  refine r_iload_n S dX6_wetTotal_37 0 rfl ?_
  obtain rfl := si1 hE
  exact hret _ _ dX6_wetTotal_38
set_option maxRecDepth 100000 in
set_option maxHeartbeats 4000000 in
theorem c_WD_seaTotal (l : Launch) (Y : Env1) (hG : gY Y = gC) (o : Nat) (ho : kC o = 6) (M : Mem) (r : Int32) (hE : WD_seaTotal o M = some r) : CnI l Y yX6_seaTotal cX6_seaTotal 3 .int 1 [.ref (hY Y + o)] M r M := by
  refine met_I (own := RX6) (by decide +kernel) rfl hG (Nat.le_of_ble_eq_true rfl) (fun X S hY1 hl1 hret => ?_)
  subst hY1
  subst hl1
  show AW X 0 [(0, .ref (hY X.2.1.2 + o))] [] M
  have L4 : ∀ (v0 : Nat) (k0 : kC v0 = 6) (e : (Int32)), AW X 44 [(1, .int e)] [] M → ∀ (n : Nat) (s : Int32 × Int32), lpR (fun s => WD_seaTotal_L4 v0 s.1 s.2 M) n s = some e → AW X 4 [(0, .ref (hY X.2.1.2 + v0)), (1, .int s.1), (2, .int s.2)] [] M := by
    intro v0 k0 e hX
    refine lpR_ind (P := fun (s : Int32 × Int32) => AW X 4 [(0, .ref (hY X.2.1.2 + v0)), (1, .int s.1), (2, .int s.2)] [] M) ?_
    rintro ⟨v1, v2⟩ d hE hC hD
    replace hE : WD_seaTotal_L4 v0 v1 v2 M = some d := hE
    show AW X 4 [(0, .ref (hY X.2.1.2 + v0)), (1, .int v1), (2, .int v2)] [] M
    unfold WD_seaTotal_L4 at hE
    refine r_iload_n S dX6_seaTotal_4 2 rfl ?_
    refine r_aload_n S dX6_seaTotal_5 0 rfl ?_
    refine r_getRK S fc6 k0 0 (v0 + 1) rfl rfl q_216 dX6_seaTotal_6 ?_
    refine r_getIN S fc0 (kk6_1 k0) 2 rfl q_373 dX6_seaTotal_9 ?_
    refine r_icmp_ge S 44 dX6_seaTotal_12 (by decide) (fun c => ?_) (fun c => ?_)
    · rw [if_pos c] at hE
      obtain rfl := si1 hE
      rcases hD with h1 | ⟨_, h1⟩
      · obtain rfl := sir h1
        exact r_sub [1] rfl hX
      · exact (sil h1).elim
    · rw [if_neg c] at hE
      refine r_iload_n S dX6_seaTotal_15 1 rfl ?_
      refine r_aload_n S dX6_seaTotal_16 0 rfl ?_
      refine r_getRK S fc6 k0 1 (v0 + 12) rfl rfl q_222 dX6_seaTotal_17 ?_
      refine r_getRKN S fc5 (kk6_12 k0) 3 (v0 + 17) rfl rfl q_379 dX6_seaTotal_20 ?_
      refine r_iload_n S dX6_seaTotal_23 2 rfl ?_
      refine rc_I S (rn_V S fc3 (kk5_5 (kk6_12 k0)) (c_NR_at _ _ (gYX S) (v0 + 17) (kk5_5 (kk6_12 k0)) v2 M _ rfl) wdX3_at q_370 ⟨Nat.le_of_ble_eq_true rfl, Nat.le_of_ble_eq_true rfl⟩ rfl (Nat.le_of_ble_eq_true rfl) dX6_seaTotal_24) ?_
      refine r_iconst S (-1 : Int32) dX6_seaTotal_27 rfl ?_
      refine r_icmp_ne S 35 dX6_seaTotal_28 (by decide) (fun c => ?_) (fun c => ?_)
      · try simp only [if_pos c] at hE
        refine r_iconst S (0 : Int32) dX6_seaTotal_35 rfl ?_
        refine r_iadd S dX6_seaTotal_36 ?_
        refine r_istore_n (lv2 := [(1, .int (v1 + (0 : Int32))), (0, .ref (hY X.2.1.2 + v0)), (2, .int v2)]) S dX6_seaTotal_37 (by decide) rfl ?_
        refine r_iinc (lv2 := [(2, .int (v2 + (1 : Int32))), (1, .int (v1 + (0 : Int32))), (0, .ref (hY X.2.1.2 + v0))]) S dX6_seaTotal_38 (j := 2) rfl (by decide) rfl ?_
        refine r_goto S 4 dX6_seaTotal_41 (by decide) ?_
        obtain rfl := si1 hE
        exact r_sub (lv2 := [(0, .ref (hY X.2.1.2 + v0)), (1, .int (v1 + (0 : Int32))), (2, .int (v2 + (1 : Int32)))]) [2, 1, 0] rfl (hC ((v1 + (0 : Int32)), (v2 + (1 : Int32))) rfl)
      · try simp only [if_neg (not_not_intro c)] at hE
        refine r_iconst S (1 : Int32) dX6_seaTotal_31 rfl ?_
        refine r_goto S 36 dX6_seaTotal_32 (by decide) ?_
        refine r_iadd S dX6_seaTotal_36 ?_
        refine r_istore_n (lv2 := [(1, .int (v1 + (1 : Int32))), (0, .ref (hY X.2.1.2 + v0)), (2, .int v2)]) S dX6_seaTotal_37 (by decide) rfl ?_
        refine r_iinc (lv2 := [(2, .int (v2 + (1 : Int32))), (1, .int (v1 + (1 : Int32))), (0, .ref (hY X.2.1.2 + v0))]) S dX6_seaTotal_38 (j := 2) rfl (by decide) rfl ?_
        refine r_goto S 4 dX6_seaTotal_41 (by decide) ?_
        obtain rfl := si1 hE
        exact r_sub (lv2 := [(0, .ref (hY X.2.1.2 + v0)), (1, .int (v1 + (1 : Int32))), (2, .int (v2 + (1 : Int32)))]) [2, 1, 0] rfl (hC ((v1 + (1 : Int32)), (v2 + (1 : Int32))) rfl)
  unfold WD_seaTotal at hE
  refine r_iconst S (0 : Int32) dX6_seaTotal_0 rfl ?_
  refine r_istore_n (lv2 := [(1, .int (0 : Int32)), (0, .ref (hY X.2.1.2 + o))]) S dX6_seaTotal_1 (by decide) rfl ?_
  refine r_iconst S (0 : Int32) dX6_seaTotal_2 rfl ?_
  refine r_istore_n (lv2 := [(2, .int (0 : Int32)), (1, .int (0 : Int32)), (0, .ref (hY X.2.1.2 + o))]) S dX6_seaTotal_3 (by decide) rfl ?_
  obtain ⟨e1, h9, hE⟩ := b1_some hE
  refine r_sub [2, 1, 0] rfl (L4 o ho  e1 ?_ _ _  h9)
  refine r_iload_n S dX6_seaTotal_44 0 rfl ?_
  obtain rfl := si1 hE
  exact hret _ _ dX6_seaTotal_45
set_option maxRecDepth 100000 in
set_option maxHeartbeats 4000000 in
theorem c_LK_isFull (l : Launch) (Y : Env1) (hG : gY Y = gC) (o : Nat) (ho : kC o = 1) (a1 : Int32) (M : Mem) (r : Int32) (hE : LK_isFull o a1 M = r) : CnI l Y yX1_isFull cX1_isFull 2 .boolean 1 [.ref (hY Y + o), .int a1] M r M := by
  refine met_Z (own := RX1) (by decide +kernel) rfl hG (Nat.le_of_ble_eq_true rfl) (fun X S hY1 hl1 hret => ?_)
  subst hY1
  subst hl1
  show AW X 0 [(0, .ref (hY X.2.1.2 + o)), (1, .int a1)] [] M
  unfold LK_isFull at hE
  refine r_aload_n S dX1_isFull_0 0 rfl ?_
  refine r_getRK S fc1 ho 3 (o + 7) rfl rfl q_210 dX1_isFull_1 ?_
  refine r_iload_n S dX1_isFull_4 1 rfl ?_
  refine rc_I S (rn_V S fc3 (kk1_7 ho) (c_NR_at _ _ (gYX S) (o + 7) (kk1_7 ho) a1 M _ rfl) wdX3_at q_31 ⟨Nat.le_of_ble_eq_true rfl, Nat.le_of_ble_eq_true rfl⟩ rfl (Nat.le_of_ble_eq_true rfl) dX1_isFull_5) ?_
  refine r_iconst S (-1 : Int32) dX1_isFull_8 rfl ?_
  refine r_icmp_eq S 35 dX1_isFull_9 (by decide) (fun c => ?_) (fun c => ?_)
  · try simp only [if_pos c] at hE
    refine r_iconst S (0 : Int32) dX1_isFull_35 rfl ?_
    subst hE
    exact hret _ _ _ dX1_isFull_36 (by decide)
  · try simp only [if_neg c] at hE
    refine r_aload_n S dX1_isFull_12 0 rfl ?_
    refine r_getRK S fc1 ho 1 (o + 3) rfl rfl q_41 dX1_isFull_13 ?_
    refine r_iload_n S dX1_isFull_16 1 rfl ?_
    refine rc_I S (rn_V S fc3 (kk1_3 ho) (c_NR_at _ _ (gYX S) (o + 3) (kk1_3 ho) a1 M _ rfl) wdX3_at q_31 ⟨Nat.le_of_ble_eq_true rfl, Nat.le_of_ble_eq_true rfl⟩ rfl (Nat.le_of_ble_eq_true rfl) dX1_isFull_17) ?_
    refine r_aload_n S dX1_isFull_20 0 rfl ?_
    refine r_getRK S fc1 ho 2 (o + 5) rfl rfl q_209 dX1_isFull_21 ?_
    refine r_iload_n S dX1_isFull_24 1 rfl ?_
    refine rc_I S (rn_V S fc3 (kk1_5 ho) (c_NR_at _ _ (gYX S) (o + 5) (kk1_5 ho) a1 M _ rfl) wdX3_at q_31 ⟨Nat.le_of_ble_eq_true rfl, Nat.le_of_ble_eq_true rfl⟩ rfl (Nat.le_of_ble_eq_true rfl) dX1_isFull_25) ?_
    refine r_icmp_ne S 35 dX1_isFull_28 (by decide) (fun c => ?_) (fun c => ?_)
    · try simp only [if_pos c] at hE
      refine r_iconst S (0 : Int32) dX1_isFull_35 rfl ?_
      subst hE
      exact hret _ _ _ dX1_isFull_36 (by decide)
    · try simp only [if_neg (not_not_intro c)] at hE
      refine r_iconst S (1 : Int32) dX1_isFull_31 rfl ?_
      refine r_goto S 36 dX1_isFull_32 (by decide) ?_
      subst hE
      exact hret _ _ _ dX1_isFull_36 (by decide)
set_option maxRecDepth 100000 in
set_option maxHeartbeats 4000000 in
theorem c_LK_fullTotal (l : Launch) (Y : Env1) (hG : gY Y = gC) (o : Nat) (ho : kC o = 1) (M : Mem) (r : Int32) (hE : LK_fullTotal o M = some r) : CnI l Y yX1_fullTotal cX1_fullTotal 3 .int 3 [.ref (hY Y + o)] M r M := by
  refine met_I (own := RX1) (by decide +kernel) rfl hG (Nat.le_of_ble_eq_true rfl) (fun X S hY1 hl1 hret => ?_)
  subst hY1
  subst hl1
  show AW X 0 [(0, .ref (hY X.2.1.2 + o))] [] M
  have L4 : ∀ (v0 : Nat) (k0 : kC v0 = 1) (e : (Int32)), AW X 47 [(1, .int e)] [] M → ∀ (n : Nat) (s : Int32 × Int32), lpR (fun s => LK_fullTotal_L4 v0 s.1 s.2 M) n s = some e → AW X 4 [(0, .ref (hY X.2.1.2 + v0)), (1, .int s.1), (2, .int s.2)] [] M := by
    intro v0 k0 e hX
    refine lpR_ind (P := fun (s : Int32 × Int32) => AW X 4 [(0, .ref (hY X.2.1.2 + v0)), (1, .int s.1), (2, .int s.2)] [] M) ?_
    rintro ⟨v1, v2⟩ d hE hC hD
    replace hE : LK_fullTotal_L4 v0 v1 v2 M = some d := hE
    show AW X 4 [(0, .ref (hY X.2.1.2 + v0)), (1, .int v1), (2, .int v2)] [] M
    unfold LK_fullTotal_L4 at hE
    refine r_iload_n S dX1_fullTotal_4 2 rfl ?_
    refine r_bipush S (36 : Int32) dX1_fullTotal_5 rfl ?_
    refine r_icmp_ge S 47 dX1_fullTotal_7 (by decide) (fun c => ?_) (fun c => ?_)
    · rw [if_pos c] at hE
      obtain rfl := si1 hE
      rcases hD with h1 | ⟨_, h1⟩
      · obtain rfl := sir h1
        exact r_sub [1] rfl hX
      · exact (sil h1).elim
    · rw [if_neg c] at hE
      refine r_iload_n S dX1_fullTotal_10 1 rfl ?_
      refine r_aload_n S dX1_fullTotal_11 0 rfl ?_
      refine r_iload_n S dX1_fullTotal_12 2 rfl ?_
      refine rc_I S (rn_V S fc1 k0 (c_LK_isLowestOfLake _ _ (gYX S) v0 k0 v2 M _ rfl) wdX1_isLowestOfLake q_364 ⟨Nat.le_of_ble_eq_true rfl, Nat.le_of_ble_eq_true rfl⟩ rfl (Nat.le_of_ble_eq_true rfl) dX1_fullTotal_13) ?_
      refine r_if_eq S 38 dX1_fullTotal_16 (by decide) (fun c => ?_) (fun c => ?_)
      · try simp only [if_pos c] at hE
        refine r_iconst S (0 : Int32) dX1_fullTotal_38 rfl ?_
        refine r_iadd S dX1_fullTotal_39 ?_
        refine r_istore_n (lv2 := [(1, .int (v1 + (0 : Int32))), (0, .ref (hY X.2.1.2 + v0)), (2, .int v2)]) S dX1_fullTotal_40 (by decide) rfl ?_
        refine r_iinc (lv2 := [(2, .int (v2 + (1 : Int32))), (1, .int (v1 + (0 : Int32))), (0, .ref (hY X.2.1.2 + v0))]) S dX1_fullTotal_41 (j := 2) rfl (by decide) rfl ?_
        refine r_goto S 4 dX1_fullTotal_44 (by decide) ?_
        obtain rfl := si1 hE
        exact r_sub (lv2 := [(0, .ref (hY X.2.1.2 + v0)), (1, .int (v1 + (0 : Int32))), (2, .int (v2 + (1 : Int32)))]) [2, 1, 0] rfl (hC ((v1 + (0 : Int32)), (v2 + (1 : Int32))) rfl)
      · try simp only [if_neg c] at hE
        refine r_aload_n S dX1_fullTotal_19 0 rfl ?_
        refine r_aload_n S dX1_fullTotal_20 0 rfl ?_
        refine r_getRK S fc1 k0 8 (v0 + 17) rfl rfl q_215 dX1_fullTotal_21 ?_
        refine r_iload_n S dX1_fullTotal_24 2 rfl ?_
        refine rc_I S (rn_V S fc3 (kk1_17 k0) (c_NR_at _ _ (gYX S) (v0 + 17) (kk1_17 k0) v2 M _ rfl) wdX3_at q_31 ⟨Nat.le_of_ble_eq_true rfl, Nat.le_of_ble_eq_true rfl⟩ rfl (Nat.le_of_ble_eq_true rfl) dX1_fullTotal_25) ?_
        refine rc_I S (rn_V S fc1 k0 (c_LK_isFull _ _ (gYX S) v0 k0 (fAtI (v0 + 17) v2 M) M _ rfl) wdX1_isFull q_380 ⟨Nat.le_of_ble_eq_true rfl, Nat.le_of_ble_eq_true rfl⟩ rfl (Nat.le_of_ble_eq_true rfl) dX1_fullTotal_28) ?_
        refine r_if_eq S 38 dX1_fullTotal_31 (by decide) (fun c => ?_) (fun c => ?_)
        · try simp only [if_pos c] at hE
          refine r_iconst S (0 : Int32) dX1_fullTotal_38 rfl ?_
          refine r_iadd S dX1_fullTotal_39 ?_
          refine r_istore_n (lv2 := [(1, .int (v1 + (0 : Int32))), (0, .ref (hY X.2.1.2 + v0)), (2, .int v2)]) S dX1_fullTotal_40 (by decide) rfl ?_
          refine r_iinc (lv2 := [(2, .int (v2 + (1 : Int32))), (1, .int (v1 + (0 : Int32))), (0, .ref (hY X.2.1.2 + v0))]) S dX1_fullTotal_41 (j := 2) rfl (by decide) rfl ?_
          refine r_goto S 4 dX1_fullTotal_44 (by decide) ?_
          obtain rfl := si1 hE
          exact r_sub (lv2 := [(0, .ref (hY X.2.1.2 + v0)), (1, .int (v1 + (0 : Int32))), (2, .int (v2 + (1 : Int32)))]) [2, 1, 0] rfl (hC ((v1 + (0 : Int32)), (v2 + (1 : Int32))) rfl)
        · try simp only [if_neg c] at hE
          refine r_iconst S (1 : Int32) dX1_fullTotal_34 rfl ?_
          refine r_goto S 39 dX1_fullTotal_35 (by decide) ?_
          refine r_iadd S dX1_fullTotal_39 ?_
          refine r_istore_n (lv2 := [(1, .int (v1 + (1 : Int32))), (0, .ref (hY X.2.1.2 + v0)), (2, .int v2)]) S dX1_fullTotal_40 (by decide) rfl ?_
          refine r_iinc (lv2 := [(2, .int (v2 + (1 : Int32))), (1, .int (v1 + (1 : Int32))), (0, .ref (hY X.2.1.2 + v0))]) S dX1_fullTotal_41 (j := 2) rfl (by decide) rfl ?_
          refine r_goto S 4 dX1_fullTotal_44 (by decide) ?_
          obtain rfl := si1 hE
          exact r_sub (lv2 := [(0, .ref (hY X.2.1.2 + v0)), (1, .int (v1 + (1 : Int32))), (2, .int (v2 + (1 : Int32)))]) [2, 1, 0] rfl (hC ((v1 + (1 : Int32)), (v2 + (1 : Int32))) rfl)
  unfold LK_fullTotal at hE
  refine r_iconst S (0 : Int32) dX1_fullTotal_0 rfl ?_
  refine r_istore_n (lv2 := [(1, .int (0 : Int32)), (0, .ref (hY X.2.1.2 + o))]) S dX1_fullTotal_1 (by decide) rfl ?_
  refine r_iconst S (0 : Int32) dX1_fullTotal_2 rfl ?_
  refine r_istore_n (lv2 := [(2, .int (0 : Int32)), (1, .int (0 : Int32)), (0, .ref (hY X.2.1.2 + o))]) S dX1_fullTotal_3 (by decide) rfl ?_
  obtain ⟨e1, h9, hE⟩ := b1_some hE
  refine r_sub [2, 1, 0] rfl (L4 o ho  e1 ?_ _ _  h9)
  refine r_iload_n S dX1_fullTotal_47 0 rfl ?_
  obtain rfl := si1 hE
  exact hret _ _ dX1_fullTotal_48
set_option maxRecDepth 100000 in
set_option maxHeartbeats 4000000 in
theorem c_LL_countValue (l : Launch) (Y : Env1) (hG : gY Y = gC) (a1 : Int32) (M : Mem) (r : Int32) (hE : LL_countValue a1 M = some r) : CnI l Y yX7_countValue cX7_countValue 2 .int 4 [.ref (hY Y + 0), .int a1] M r M := by
  refine met_I (own := RX7) (by decide +kernel) rfl hG (Nat.le_of_ble_eq_true rfl) (fun X S hY1 hl1 hret => ?_)
  subst hY1
  subst hl1
  show AW X 0 [(0, .ref (hY X.2.1.2 + 0)), (1, .int a1)] [] M
  unfold LL_countValue at hE
  refine r_iload_n S dX7_countValue_0 1 rfl ?_
  by_cases c0 : a1 = (0 : Int32)
  · rw [if_pos c0] at hE
    refine r_tin S 40 (0 : Int32) c0 dX7_countValue_1 (by decide) (by decide) rfl (by decide) ?_
    refine r_aload_n S dX7_countValue_40 0 rfl ?_
    refine r_getRK S fc7 (by decide) 0 1 rfl rfl q_50 dX7_countValue_41 ?_
    refine r_getRKN S fc6 (by decide) 0 2 rfl rfl q_54 dX7_countValue_44 ?_
    refine r_getIN S fc0 (by decide) 0 rfl q_406 dX7_countValue_47 ?_
    obtain rfl := si1 hE
    exact hret _ _ dX7_countValue_50
  · rw [if_neg c0] at hE
    by_cases c1 : a1 = (1 : Int32)
    · rw [if_pos c1] at hE
      refine r_tin S 51 (1 : Int32) c1 dX7_countValue_1 (by decide) (by decide) rfl (by decide) ?_
      refine r_aload_n S dX7_countValue_51 0 rfl ?_
      refine r_getRK S fc7 (by decide) 0 1 rfl rfl q_50 dX7_countValue_52 ?_
      refine r_getRKN S fc6 (by decide) 0 2 rfl rfl q_54 dX7_countValue_55 ?_
      refine r_getIN S fc0 (by decide) 1 rfl q_405 dX7_countValue_58 ?_
      obtain rfl := si1 hE
      exact hret _ _ dX7_countValue_61
    · rw [if_neg c1] at hE
      by_cases c2 : a1 = (2 : Int32)
      · rw [if_pos c2] at hE
        refine r_tin S 62 (2 : Int32) c2 dX7_countValue_1 (by decide) (by decide) rfl (by decide) ?_
        refine r_aload_n S dX7_countValue_62 0 rfl ?_
        refine r_getRK S fc7 (by decide) 0 1 rfl rfl q_50 dX7_countValue_63 ?_
        refine r_getRKN S fc6 (by decide) 1 13 rfl rfl q_360 dX7_countValue_66 ?_
        refine r_getIN S fc5 (by decide) 0 rfl q_361 dX7_countValue_69 ?_
        obtain rfl := si1 hE
        exact hret _ _ dX7_countValue_72
      · rw [if_neg c2] at hE
        by_cases c3 : a1 = (3 : Int32)
        · rw [if_pos c3] at hE
          refine r_tin S 73 (3 : Int32) c3 dX7_countValue_1 (by decide) (by decide) rfl (by decide) ?_
          refine r_aload_n S dX7_countValue_73 0 rfl ?_
          refine r_getRK S fc7 (by decide) 0 1 rfl rfl q_50 dX7_countValue_74 ?_
          refine r_getRKN S fc6 (by decide) 2 20 rfl rfl q_51 dX7_countValue_77 ?_
          obtain ⟨x1, h9, hE⟩ := b1_some hE
          refine rc_I S (rn_V S fc1 (by decide) (c_LK_total _ _ (gYX S) 20 (by decide) M _ h9) wdX1_total q_400 ⟨Nat.le_of_ble_eq_true rfl, Nat.le_of_ble_eq_true rfl⟩ rfl (Nat.le_of_ble_eq_true rfl) dX7_countValue_80) ?_
          obtain rfl := si1 hE
          exact hret _ _ dX7_countValue_83
        · rw [if_neg c3] at hE
          by_cases c4 : a1 = (4 : Int32)
          · rw [if_pos c4] at hE
            refine r_tin S 84 (4 : Int32) c4 dX7_countValue_1 (by decide) (by decide) rfl (by decide) ?_
            refine r_aload_n S dX7_countValue_84 0 rfl ?_
            refine r_getRK S fc7 (by decide) 0 1 rfl rfl q_50 dX7_countValue_85 ?_
            obtain ⟨x2, h9, hE⟩ := b1_some hE
            refine rc_I S (rn_V S fc6 (by decide) (c_WD_wetTotal _ _ (gYX S) 1 (by decide) M _ h9) wdX6_wetTotal q_395 ⟨Nat.le_of_ble_eq_true rfl, Nat.le_of_ble_eq_true rfl⟩ rfl (Nat.le_of_ble_eq_true rfl) dX7_countValue_88) ?_
            obtain rfl := si1 hE
            exact hret _ _ dX7_countValue_91
          · rw [if_neg c4] at hE
            by_cases c5 : a1 = (5 : Int32)
            · rw [if_pos c5] at hE
              refine r_tin S 92 (5 : Int32) c5 dX7_countValue_1 (by decide) (by decide) rfl (by decide) ?_
              refine r_aload_n S dX7_countValue_92 0 rfl ?_
              refine r_getRK S fc7 (by decide) 0 1 rfl rfl q_50 dX7_countValue_93 ?_
              obtain ⟨x3, h9, hE⟩ := b1_some hE
              refine rc_I S (rn_V S fc6 (by decide) (c_WD_seaTotal _ _ (gYX S) 1 (by decide) M _ h9) wdX6_seaTotal q_390 ⟨Nat.le_of_ble_eq_true rfl, Nat.le_of_ble_eq_true rfl⟩ rfl (Nat.le_of_ble_eq_true rfl) dX7_countValue_96) ?_
              obtain rfl := si1 hE
              exact hret _ _ dX7_countValue_99
            · rw [if_neg c5] at hE
              have e0 : (a1).toInt ≠ 0 := fun h => c0 (Int32.toInt_inj.mp h)
              have e1 : (a1).toInt ≠ 1 := fun h => c1 (Int32.toInt_inj.mp h)
              have e2 : (a1).toInt ≠ 2 := fun h => c2 (Int32.toInt_inj.mp h)
              have e3 : (a1).toInt ≠ 3 := fun h => c3 (Int32.toInt_inj.mp h)
              have e4 : (a1).toInt ≠ 4 := fun h => c4 (Int32.toInt_inj.mp h)
              have e5 : (a1).toInt ≠ 5 := fun h => c5 (Int32.toInt_inj.mp h)
              refine r_tout S 100 dX7_countValue_1 (by omega) (by decide) ?_
              refine r_aload_n S dX7_countValue_100 0 rfl ?_
              refine r_getRK S fc7 (by decide) 0 1 rfl rfl q_50 dX7_countValue_101 ?_
              refine r_getRKN S fc6 (by decide) 2 20 rfl rfl q_51 dX7_countValue_104 ?_
              obtain ⟨x4, h9, hE⟩ := b1_some hE
              refine rc_I S (rn_V S fc1 (by decide) (c_LK_fullTotal _ _ (gYX S) 20 (by decide) M _ h9) wdX1_fullTotal q_385 ⟨Nat.le_of_ble_eq_true rfl, Nat.le_of_ble_eq_true rfl⟩ rfl (Nat.le_of_ble_eq_true rfl) dX7_countValue_107) ?_
              obtain rfl := si1 hE
              exact hret _ _ dX7_countValue_110
set_option maxRecDepth 100000 in
set_option maxHeartbeats 4000000 in
theorem c_LK_numberAt (l : Launch) (Y : Env1) (hG : gY Y = gC) (o : Nat) (ho : kC o = 1) (a1 : Int32) (M : Mem) (r : Int32) (hE : LK_numberAt o a1 M = some r) : CnI l Y yX1_numberAt cX1_numberAt 6 .int 3 [.ref (hY Y + o), .int a1] M r M := by
  refine met_I (own := RX1) (by decide +kernel) rfl hG (Nat.le_of_ble_eq_true rfl) (fun X S hY1 hl1 hret => ?_)
  subst hY1
  subst hl1
  show AW X 0 [(0, .ref (hY X.2.1.2 + o)), (1, .int a1)] [] M
  have L34 : ∀ (v0 : Nat) (k0 : kC v0 = 1) (v3 : Int32) (e : (Int32)), AW X 65 [(4, .int e)] [] M → ∀ (n : Nat) (s : Int32 × Int32), lpR (fun s => LK_numberAt_L34 v0 v3 s.1 s.2 M) n s = some e → AW X 34 [(0, .ref (hY X.2.1.2 + v0)), (3, .int v3), (4, .int s.1), (5, .int s.2)] [] M := by
    intro v0 k0 v3 e hX
    refine lpR_ind (P := fun (s : Int32 × Int32) => AW X 34 [(0, .ref (hY X.2.1.2 + v0)), (3, .int v3), (4, .int s.1), (5, .int s.2)] [] M) ?_
    rintro ⟨v4, v5⟩ d hE hC hD
    replace hE : LK_numberAt_L34 v0 v3 v4 v5 M = some d := hE
    show AW X 34 [(0, .ref (hY X.2.1.2 + v0)), (3, .int v3), (4, .int v4), (5, .int v5)] [] M
    unfold LK_numberAt_L34 at hE
    refine r_iload S dX1_numberAt_34 3 rfl ?_
    refine r_iload_n S dX1_numberAt_36 1 rfl ?_
    refine r_icmp_ge S 65 dX1_numberAt_37 (by decide) (fun c => ?_) (fun c => ?_)
    · rw [if_pos c] at hE
      obtain rfl := si1 hE
      rcases hD with h1 | ⟨_, h1⟩
      · obtain rfl := sir h1
        exact r_sub [2] rfl hX
      · exact (sil h1).elim
    · rw [if_neg c] at hE
      refine r_iload S dX1_numberAt_40 2 rfl ?_
      refine r_aload_n S dX1_numberAt_42 0 rfl ?_
      refine r_iload S dX1_numberAt_43 3 rfl ?_
      refine rc_I S (rn_V S fc1 k0 (c_LK_isLowestOfLake _ _ (gYX S) v0 k0 v5 M _ rfl) wdX1_isLowestOfLake q_364 ⟨Nat.le_of_ble_eq_true rfl, Nat.le_of_ble_eq_true rfl⟩ rfl (Nat.le_of_ble_eq_true rfl) dX1_numberAt_45) ?_
      refine r_if_eq S 55 dX1_numberAt_48 (by decide) (fun c => ?_) (fun c => ?_)
      · try simp only [if_pos c] at hE
        refine r_iconst S (0 : Int32) dX1_numberAt_55 rfl ?_
        refine r_iadd S dX1_numberAt_56 ?_
        refine r_istore (lv2 := [(4, .int (v4 + (0 : Int32))), (0, .ref (hY X.2.1.2 + v0)), (3, .int v3), (5, .int v5)]) S dX1_numberAt_57 (by decide) rfl ?_
        refine r_iinc (lv2 := [(5, .int (v5 + (1 : Int32))), (4, .int (v4 + (0 : Int32))), (0, .ref (hY X.2.1.2 + v0)), (3, .int v3)]) S dX1_numberAt_59 (j := 3) rfl (by decide) rfl ?_
        refine r_goto S 34 dX1_numberAt_62 (by decide) ?_
        obtain rfl := si1 hE
        exact r_sub (lv2 := [(0, .ref (hY X.2.1.2 + v0)), (3, .int v3), (4, .int (v4 + (0 : Int32))), (5, .int (v5 + (1 : Int32)))]) [2, 3, 1, 0] rfl (hC ((v4 + (0 : Int32)), (v5 + (1 : Int32))) rfl)
      · try simp only [if_neg c] at hE
        refine r_iconst S (1 : Int32) dX1_numberAt_51 rfl ?_
        refine r_goto S 56 dX1_numberAt_52 (by decide) ?_
        refine r_iadd S dX1_numberAt_56 ?_
        refine r_istore (lv2 := [(4, .int (v4 + (1 : Int32))), (0, .ref (hY X.2.1.2 + v0)), (3, .int v3), (5, .int v5)]) S dX1_numberAt_57 (by decide) rfl ?_
        refine r_iinc (lv2 := [(5, .int (v5 + (1 : Int32))), (4, .int (v4 + (1 : Int32))), (0, .ref (hY X.2.1.2 + v0)), (3, .int v3)]) S dX1_numberAt_59 (j := 3) rfl (by decide) rfl ?_
        refine r_goto S 34 dX1_numberAt_62 (by decide) ?_
        obtain rfl := si1 hE
        exact r_sub (lv2 := [(0, .ref (hY X.2.1.2 + v0)), (3, .int v3), (4, .int (v4 + (1 : Int32))), (5, .int (v5 + (1 : Int32)))]) [2, 3, 1, 0] rfl (hC ((v4 + (1 : Int32)), (v5 + (1 : Int32))) rfl)
  unfold LK_numberAt at hE
  refine r_aload_n S dX1_numberAt_0 0 rfl ?_
  refine r_getRK S fc1 ho 8 (o + 17) rfl rfl q_215 dX1_numberAt_1 ?_
  refine r_iload_n S dX1_numberAt_4 1 rfl ?_
  refine rc_I S (rn_V S fc3 (kk1_17 ho) (c_NR_at _ _ (gYX S) (o + 17) (kk1_17 ho) a1 M _ rfl) wdX3_at q_31 ⟨Nat.le_of_ble_eq_true rfl, Nat.le_of_ble_eq_true rfl⟩ rfl (Nat.le_of_ble_eq_true rfl) dX1_numberAt_5) ?_
  refine r_istore_n (lv2 := [(2, .int (fAtI (o + 17) a1 M)), (0, .ref (hY X.2.1.2 + o)), (1, .int a1)]) S dX1_numberAt_8 (by decide) rfl ?_
  refine r_iload_n S dX1_numberAt_9 0 rfl ?_
  refine r_iconst S (-1 : Int32) dX1_numberAt_10 rfl ?_
  refine r_icmp_ne S 16 dX1_numberAt_11 (by decide) (fun c => ?_) (fun c => ?_)
  · rw [if_pos c] at hE
    refine r_aload_n S dX1_numberAt_16 1 rfl ?_
    refine r_getRK S fc1 ho 0 (o + 1) rfl rfl q_23 dX1_numberAt_17 ?_
    refine r_iload_n S dX1_numberAt_20 0 rfl ?_
    refine rc_L S (rn_V S fc4 (kk1_1 ho) (c_SR_at _ _ (gYX S) (o + 1) (kk1_1 ho) (fAtI (o + 17) a1 M) M _ rfl) wdX4_at q_24 ⟨Nat.le_of_ble_eq_true rfl, Nat.le_of_ble_eq_true rfl⟩ rfl (Nat.le_of_ble_eq_true rfl) dX1_numberAt_21) ?_
    refine rc_I S (rn_SN S (c_LL_lowestIn _ _ (gYX S) (fAtL (o + 1) (fAtI (o + 17) a1 M) M) M _ rfl) wdX7_lowestIn q_363 ⟨Nat.le_of_ble_eq_true rfl, Nat.le_of_ble_eq_true rfl⟩ rfl (Nat.le_of_ble_eq_true rfl) dX1_numberAt_24) ?_
    refine r_istore_n (lv2 := [(3, .int (LL_lowestIn (fAtL (o + 1) (fAtI (o + 17) a1 M) M))), (2, .int (fAtI (o + 17) a1 M)), (0, .ref (hY X.2.1.2 + o)), (1, .int a1)]) S dX1_numberAt_27 (by decide) rfl ?_
    refine r_iconst S (0 : Int32) dX1_numberAt_28 rfl ?_
    refine r_istore (lv2 := [(4, .int (0 : Int32)), (3, .int (LL_lowestIn (fAtL (o + 1) (fAtI (o + 17) a1 M) M))), (2, .int (fAtI (o + 17) a1 M)), (0, .ref (hY X.2.1.2 + o)), (1, .int a1)]) S dX1_numberAt_29 (by decide) rfl ?_
    refine r_iconst S (0 : Int32) dX1_numberAt_31 rfl ?_
    refine r_istore (lv2 := [(5, .int (0 : Int32)), (4, .int (0 : Int32)), (3, .int (LL_lowestIn (fAtL (o + 1) (fAtI (o + 17) a1 M) M))), (2, .int (fAtI (o + 17) a1 M)), (0, .ref (hY X.2.1.2 + o)), (1, .int a1)]) S dX1_numberAt_32 (by decide) rfl ?_
    obtain ⟨e1, h9, hE⟩ := b1_some hE
    refine r_sub [4, 2, 1, 0] rfl (L34 o ho (LL_lowestIn (fAtL (o + 1) (fAtI (o + 17) a1 M) M))  e1 ?_ _ _  h9)
    refine r_iload S dX1_numberAt_65 0 rfl ?_
    obtain rfl := si1 hE
    exact hret _ _ dX1_numberAt_67
  · rw [if_neg (not_not_intro c)] at hE
    refine r_iconst S (-1 : Int32) dX1_numberAt_14 rfl ?_
    obtain rfl := si1 hE
    exact hret _ _ dX1_numberAt_15
set_option maxRecDepth 100000 in
set_option maxHeartbeats 4000000 in
theorem c_WY_isInPit (l : Launch) (Y : Env1) (hG : gY Y = gC) (o : Nat) (ho : kC o = 5) (a1 : Int32) (M : Mem) (r : Int32) (hE : WY_isInPit o a1 M = r) : CnI l Y yX5_isInPit cX5_isInPit 2 .boolean 1 [.ref (hY Y + o), .int a1] M r M := by
  refine met_Z (own := RX5) (by decide +kernel) rfl hG (Nat.le_of_ble_eq_true rfl) (fun X S hY1 hl1 hret => ?_)
  subst hY1
  subst hl1
  show AW X 0 [(0, .ref (hY X.2.1.2 + o)), (1, .int a1)] [] M
  unfold WY_isInPit at hE
  refine r_aload_n S dX5_isInPit_0 0 rfl ?_
  refine r_getRK S fc5 ho 2 (o + 3) rfl rfl q_204 dX5_isInPit_1 ?_
  refine r_iload_n S dX5_isInPit_4 1 rfl ?_
  refine rc_I S (rn_V S fc3 (kk5_3 ho) (c_NR_at _ _ (gYX S) (o + 3) (kk5_3 ho) a1 M _ rfl) wdX3_at q_259 ⟨Nat.le_of_ble_eq_true rfl, Nat.le_of_ble_eq_true rfl⟩ rfl (Nat.le_of_ble_eq_true rfl) dX5_isInPit_5) ?_
  refine r_iconst S (-1 : Int32) dX5_isInPit_8 rfl ?_
  refine r_icmp_ne S 28 dX5_isInPit_9 (by decide) (fun c => ?_) (fun c => ?_)
  · try simp only [if_pos c] at hE
    refine r_iconst S (0 : Int32) dX5_isInPit_28 rfl ?_
    subst hE
    exact hret _ _ _ dX5_isInPit_29 (by decide)
  · try simp only [if_neg (not_not_intro c)] at hE
    refine r_aload_n S dX5_isInPit_12 0 rfl ?_
    refine r_getRK S fc5 ho 3 (o + 5) rfl rfl q_206 dX5_isInPit_13 ?_
    refine r_iload_n S dX5_isInPit_16 1 rfl ?_
    refine rc_I S (rn_V S fc3 (kk5_5 ho) (c_NR_at _ _ (gYX S) (o + 5) (kk5_5 ho) a1 M _ rfl) wdX3_at q_259 ⟨Nat.le_of_ble_eq_true rfl, Nat.le_of_ble_eq_true rfl⟩ rfl (Nat.le_of_ble_eq_true rfl) dX5_isInPit_17) ?_
    refine r_iconst S (-1 : Int32) dX5_isInPit_20 rfl ?_
    refine r_icmp_eq S 28 dX5_isInPit_21 (by decide) (fun c => ?_) (fun c => ?_)
    · try simp only [if_pos c] at hE
      refine r_iconst S (0 : Int32) dX5_isInPit_28 rfl ?_
      subst hE
      exact hret _ _ _ dX5_isInPit_29 (by decide)
    · try simp only [if_neg c] at hE
      refine r_iconst S (1 : Int32) dX5_isInPit_24 rfl ?_
      refine r_goto S 29 dX5_isInPit_25 (by decide) ?_
      subst hE
      exact hret _ _ _ dX5_isInPit_29 (by decide)
set_option maxRecDepth 100000 in
set_option maxHeartbeats 4000000 in
theorem c_LL_cellValue (l : Launch) (Y : Env1) (hG : gY Y = gC) (a1 : Int32) (a2 : Int32) (M : Mem) (r : Int32) (hE : LL_cellValue a1 a2 M = some r) : CnI l Y yX7_cellValue cX7_cellValue 3 .int 4 [.ref (hY Y + 0), .int a1, .int a2] M r M := by
  refine met_I (own := RX7) (by decide +kernel) rfl hG (Nat.le_of_ble_eq_true rfl) (fun X S hY1 hl1 hret => ?_)
  subst hY1
  subst hl1
  show AW X 0 [(0, .ref (hY X.2.1.2 + 0)), (1, .int a1), (2, .int a2)] [] M
  unfold LL_cellValue at hE
  refine r_iload_n S dX7_cellValue_0 2 rfl ?_
  by_cases c0 : a2 = (0 : Int32)
  · rw [if_pos c0] at hE
    refine r_tin S 36 (0 : Int32) c0 dX7_cellValue_1 (by decide) (by decide) rfl (by decide) ?_
    refine r_aload_n S dX7_cellValue_36 0 rfl ?_
    refine r_getRK S fc7 (by decide) 0 1 rfl rfl q_50 dX7_cellValue_37 ?_
    refine r_getRKN S fc6 (by decide) 0 2 rfl rfl q_54 dX7_cellValue_40 ?_
    refine r_getRKN S fc0 (by decide) 4 3 rfl rfl q_71 dX7_cellValue_43 ?_
    refine r_iload_n S dX7_cellValue_46 1 rfl ?_
    refine rc_I S (rn_V S fc3 (by decide) (c_NR_at _ _ (gYX S) 3 (by decide) a1 M _ rfl) wdX3_at q_53 ⟨Nat.le_of_ble_eq_true rfl, Nat.le_of_ble_eq_true rfl⟩ rfl (Nat.le_of_ble_eq_true rfl) dX7_cellValue_47) ?_
    obtain rfl := si1 hE
    exact hret _ _ dX7_cellValue_50
  · rw [if_neg c0] at hE
    by_cases c1 : a2 = (1 : Int32)
    · rw [if_pos c1] at hE
      refine r_tin S 51 (1 : Int32) c1 dX7_cellValue_1 (by decide) (by decide) rfl (by decide) ?_
      refine r_aload_n S dX7_cellValue_51 0 rfl ?_
      refine r_getRK S fc7 (by decide) 0 1 rfl rfl q_50 dX7_cellValue_52 ?_
      refine r_getRKN S fc6 (by decide) 0 2 rfl rfl q_54 dX7_cellValue_55 ?_
      refine r_getLN S fc0 (by decide) 3 rfl q_419 dX7_cellValue_58 ?_
      refine r_iload_n S dX7_cellValue_61 1 rfl ?_
      refine rc_I S (rn_S S (c_LL_has _ _ (gYX S) (gL M 2 3) a1 M _ rfl) wdX7_has q_60 ⟨Nat.le_of_ble_eq_true rfl, Nat.le_of_ble_eq_true rfl⟩ rfl (Nat.le_of_ble_eq_true rfl) dX7_cellValue_62) ?_
      refine r_if_eq S 72 dX7_cellValue_65 (by decide) (fun c => ?_) (fun c => ?_)
      · try simp only [if_pos c] at hE
        refine r_iconst S (0 : Int32) dX7_cellValue_72 rfl ?_
        obtain rfl := si1 hE
        exact hret _ _ dX7_cellValue_73
      · try simp only [if_neg c] at hE
        refine r_iconst S (1 : Int32) dX7_cellValue_68 rfl ?_
        refine r_goto S 73 dX7_cellValue_69 (by decide) ?_
        obtain rfl := si1 hE
        exact hret _ _ dX7_cellValue_73
    · rw [if_neg c1] at hE
      by_cases c2 : a2 = (2 : Int32)
      · rw [if_pos c2] at hE
        refine r_tin S 74 (2 : Int32) c2 dX7_cellValue_1 (by decide) (by decide) rfl (by decide) ?_
        refine r_aload_n S dX7_cellValue_74 0 rfl ?_
        refine r_getRK S fc7 (by decide) 0 1 rfl rfl q_50 dX7_cellValue_75 ?_
        refine r_getRKN S fc6 (by decide) 1 13 rfl rfl q_360 dX7_cellValue_78 ?_
        refine r_getRKN S fc5 (by decide) 3 18 rfl rfl q_418 dX7_cellValue_81 ?_
        refine r_iload_n S dX7_cellValue_84 1 rfl ?_
        refine rc_I S (rn_V S fc3 (by decide) (c_NR_at _ _ (gYX S) 18 (by decide) a1 M _ rfl) wdX3_at q_53 ⟨Nat.le_of_ble_eq_true rfl, Nat.le_of_ble_eq_true rfl⟩ rfl (Nat.le_of_ble_eq_true rfl) dX7_cellValue_85) ?_
        obtain rfl := si1 hE
        exact hret _ _ dX7_cellValue_88
      · rw [if_neg c2] at hE
        by_cases c3 : a2 = (3 : Int32)
        · rw [if_pos c3] at hE
          refine r_tin S 89 (3 : Int32) c3 dX7_cellValue_1 (by decide) (by decide) rfl (by decide) ?_
          refine r_aload_n S dX7_cellValue_89 0 rfl ?_
          refine r_getRK S fc7 (by decide) 0 1 rfl rfl q_50 dX7_cellValue_90 ?_
          refine r_getRKN S fc6 (by decide) 2 20 rfl rfl q_51 dX7_cellValue_93 ?_
          refine r_iload_n S dX7_cellValue_96 1 rfl ?_
          obtain ⟨x1, h9, hE⟩ := b1_some hE
          refine rc_I S (rn_V S fc1 (by decide) (c_LK_numberAt _ _ (gYX S) 20 (by decide) a1 M _ h9) wdX1_numberAt q_413 ⟨Nat.le_of_ble_eq_true rfl, Nat.le_of_ble_eq_true rfl⟩ rfl (Nat.le_of_ble_eq_true rfl) dX7_cellValue_97) ?_
          obtain rfl := si1 hE
          exact hret _ _ dX7_cellValue_100
        · rw [if_neg c3] at hE
          by_cases c4 : a2 = (4 : Int32)
          · rw [if_pos c4] at hE
            refine r_tin S 101 (4 : Int32) c4 dX7_cellValue_1 (by decide) (by decide) rfl (by decide) ?_
            refine r_aload_n S dX7_cellValue_101 0 rfl ?_
            refine r_getRK S fc7 (by decide) 0 1 rfl rfl q_50 dX7_cellValue_102 ?_
            refine r_iload_n S dX7_cellValue_105 1 rfl ?_
            obtain ⟨x2, h9, hE⟩ := b1_some hE
            refine rc_I S (rn_V S fc6 (by decide) (c_WD_isWet _ _ (gYX S) 1 (by decide) a1 M _ h9) wdX6_isWet q_412 ⟨Nat.le_of_ble_eq_true rfl, Nat.le_of_ble_eq_true rfl⟩ rfl (Nat.le_of_ble_eq_true rfl) dX7_cellValue_106) ?_
            refine r_if_eq S 116 dX7_cellValue_109 (by decide) (fun c => ?_) (fun c => ?_)
            · try simp only [if_pos c] at hE
              refine r_iconst S (0 : Int32) dX7_cellValue_116 rfl ?_
              obtain rfl := si1 hE
              exact hret _ _ dX7_cellValue_117
            · try simp only [if_neg c] at hE
              refine r_iconst S (1 : Int32) dX7_cellValue_112 rfl ?_
              refine r_goto S 117 dX7_cellValue_113 (by decide) ?_
              obtain rfl := si1 hE
              exact hret _ _ dX7_cellValue_117
          · rw [if_neg c4] at hE
            have e0 : (a2).toInt ≠ 0 := fun h => c0 (Int32.toInt_inj.mp h)
            have e1 : (a2).toInt ≠ 1 := fun h => c1 (Int32.toInt_inj.mp h)
            have e2 : (a2).toInt ≠ 2 := fun h => c2 (Int32.toInt_inj.mp h)
            have e3 : (a2).toInt ≠ 3 := fun h => c3 (Int32.toInt_inj.mp h)
            have e4 : (a2).toInt ≠ 4 := fun h => c4 (Int32.toInt_inj.mp h)
            refine r_tout S 118 dX7_cellValue_1 (by omega) (by decide) ?_
            refine r_aload_n S dX7_cellValue_118 0 rfl ?_
            refine r_getRK S fc7 (by decide) 0 1 rfl rfl q_50 dX7_cellValue_119 ?_
            refine r_getRKN S fc6 (by decide) 1 13 rfl rfl q_360 dX7_cellValue_122 ?_
            refine r_iload_n S dX7_cellValue_125 1 rfl ?_
            refine rc_I S (rn_V S fc5 (by decide) (c_WY_isInPit _ _ (gYX S) 13 (by decide) a1 M _ rfl) wdX5_isInPit q_407 ⟨Nat.le_of_ble_eq_true rfl, Nat.le_of_ble_eq_true rfl⟩ rfl (Nat.le_of_ble_eq_true rfl) dX7_cellValue_126) ?_
            refine r_if_eq S 136 dX7_cellValue_129 (by decide) (fun c => ?_) (fun c => ?_)
            · try simp only [if_pos c] at hE
              refine r_iconst S (0 : Int32) dX7_cellValue_136 rfl ?_
              obtain rfl := si1 hE
              exact hret _ _ dX7_cellValue_137
            · try simp only [if_neg c] at hE
              refine r_iconst S (1 : Int32) dX7_cellValue_132 rfl ?_
              refine r_goto S 137 dX7_cellValue_133 (by decide) ?_
              obtain rfl := si1 hE
              exact hret _ _ dX7_cellValue_137
set_option maxRecDepth 100000 in
set_option maxHeartbeats 4000000 in
theorem c_LK_placeOf (l : Launch) (Y : Env1) (hG : gY Y = gC) (o : Nat) (ho : kC o = 1) (a1 : Int32) (M : Mem) (r : Int32) (hE : LK_placeOf o a1 M = some r) : CnI l Y yX1_placeOf cX1_placeOf 4 .int 3 [.ref (hY Y + o), .int a1] M r M := by
  refine met_I (own := RX1) (by decide +kernel) rfl hG (Nat.le_of_ble_eq_true rfl) (fun X S hY1 hl1 hret => ?_)
  subst hY1
  subst hl1
  show AW X 0 [(0, .ref (hY X.2.1.2 + o)), (1, .int a1)] [] M
  have L4 : ∀ (v0 : Nat) (k0 : kC v0 = 1) (q : ((Unit) ⊕ Int32)), (∀ e, q = .inl e → AW X 40 [] [] M) → (∀ r8, q = .inr r8 → r8 = r) → ∀ (n : Nat) (s : Int32 × Int32), lpR (fun s => LK_placeOf_L4 v0 s.1 s.2 M) n s = some q → AW X 4 [(0, .ref (hY X.2.1.2 + v0)), (2, .int s.1), (3, .int s.2)] [] M := by
    intro v0 k0 q hX hR
    refine lpR_ind (P := fun (s : Int32 × Int32) => AW X 4 [(0, .ref (hY X.2.1.2 + v0)), (2, .int s.1), (3, .int s.2)] [] M) ?_
    rintro ⟨v2, v3⟩ d hE hC hD
    replace hE : LK_placeOf_L4 v0 v2 v3 M = some d := hE
    show AW X 4 [(0, .ref (hY X.2.1.2 + v0)), (2, .int v2), (3, .int v3)] [] M
    unfold LK_placeOf_L4 at hE
    refine r_iload_n S dX1_placeOf_4 2 rfl ?_
    refine r_bipush S (36 : Int32) dX1_placeOf_5 rfl ?_
    refine r_icmp_ge S 40 dX1_placeOf_7 (by decide) (fun c => ?_) (fun c => ?_)
    · rw [if_pos c] at hE
      obtain rfl := si1 hE
      rcases hD with h1 | ⟨_, h1⟩
      · obtain rfl := sir h1
        exact r_sub [] rfl (hX _ rfl)
      · exact (sil h1).elim
    · rw [if_neg c] at hE
      refine r_aload_n S dX1_placeOf_10 0 rfl ?_
      refine r_iload_n S dX1_placeOf_11 2 rfl ?_
      refine rc_I S (rn_V S fc1 k0 (c_LK_isLowestOfLake _ _ (gYX S) v0 k0 v3 M _ rfl) wdX1_isLowestOfLake q_364 ⟨Nat.le_of_ble_eq_true rfl, Nat.le_of_ble_eq_true rfl⟩ rfl (Nat.le_of_ble_eq_true rfl) dX1_placeOf_12) ?_
      refine r_if_eq S 34 dX1_placeOf_15 (by decide) (fun c => ?_) (fun c => ?_)
      · rw [if_pos c] at hE
        refine r_iinc (lv2 := [(3, .int (v3 + (1 : Int32))), (0, .ref (hY X.2.1.2 + v0)), (2, .int v2)]) S dX1_placeOf_34 (j := 2) rfl (by decide) rfl ?_
        refine r_goto S 4 dX1_placeOf_37 (by decide) ?_
        obtain rfl := si1 hE
        exact r_sub (lv2 := [(0, .ref (hY X.2.1.2 + v0)), (2, .int v2), (3, .int (v3 + (1 : Int32)))]) [1, 2, 0] rfl (hC (v2, (v3 + (1 : Int32))) rfl)
      · rw [if_neg c] at hE
        refine r_iload_n S dX1_placeOf_18 1 rfl ?_
        refine r_if_ne S 31 dX1_placeOf_19 (by decide) (fun c => ?_) (fun c => ?_)
        · rw [if_pos c] at hE
          refine r_iinc (lv2 := [(2, .int (v2 + (-1 : Int32))), (0, .ref (hY X.2.1.2 + v0)), (3, .int v3)]) S dX1_placeOf_31 (j := 1) rfl (by decide) rfl ?_
          refine r_iinc (lv2 := [(3, .int (v3 + (1 : Int32))), (2, .int (v2 + (-1 : Int32))), (0, .ref (hY X.2.1.2 + v0))]) S dX1_placeOf_34 (j := 2) rfl (by decide) rfl ?_
          refine r_goto S 4 dX1_placeOf_37 (by decide) ?_
          obtain rfl := si1 hE
          exact r_sub (lv2 := [(0, .ref (hY X.2.1.2 + v0)), (2, .int (v2 + (-1 : Int32))), (3, .int (v3 + (1 : Int32)))]) [2, 1, 0] rfl (hC ((v2 + (-1 : Int32)), (v3 + (1 : Int32))) rfl)
        · rw [if_neg (not_not_intro c)] at hE
          refine r_aload_n S dX1_placeOf_22 0 rfl ?_
          refine r_getRK S fc1 k0 8 (v0 + 17) rfl rfl q_215 dX1_placeOf_23 ?_
          refine r_iload_n S dX1_placeOf_26 2 rfl ?_
          refine rc_I S (rn_V S fc3 (kk1_17 k0) (c_NR_at _ _ (gYX S) (v0 + 17) (kk1_17 k0) v3 M _ rfl) wdX3_at q_31 ⟨Nat.le_of_ble_eq_true rfl, Nat.le_of_ble_eq_true rfl⟩ rfl (Nat.le_of_ble_eq_true rfl) dX1_placeOf_27) ?_
          obtain rfl := si1 hE
          rcases hD with h1 | ⟨_, h1⟩
          · obtain rfl := sir h1
            obtain rfl := hR _ rfl
            exact hret _ _ dX1_placeOf_30
          · exact (sil h1).elim
  unfold LK_placeOf at hE
  refine r_iload_n S dX1_placeOf_0 1 rfl ?_
  refine r_istore_n (lv2 := [(2, .int a1), (0, .ref (hY X.2.1.2 + o)), (1, .int a1)]) S dX1_placeOf_1 (by decide) rfl ?_
  refine r_iconst S (0 : Int32) dX1_placeOf_2 rfl ?_
  refine r_istore_n (lv2 := [(3, .int (0 : Int32)), (2, .int a1), (0, .ref (hY X.2.1.2 + o)), (1, .int a1)]) S dX1_placeOf_3 (by decide) rfl ?_
  obtain ⟨e1, h9, hE⟩ := b1_some hE
  refine r_sub [2, 1, 0] rfl (L4 o ho  e1 (fun e2 h8 => ?_) (fun r8 h8 => ?_) _ _  h9)
  · subst h8
    refine r_iconst S (-1 : Int32) dX1_placeOf_40 rfl ?_
    obtain rfl := si1 hE
    exact hret _ _ dX1_placeOf_41
  · subst h8
    exact si1 hE
