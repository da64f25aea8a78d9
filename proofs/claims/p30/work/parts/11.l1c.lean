set_option maxRecDepth 100000 in
set_option maxHeartbeats 4000000 in
theorem c_LL_has (l : Launch) (Y : Env1) (hG : gY Y = gC) (a0 : Int64) (a2 : Int32) (M : Mem) (r : Int32) (hE : LL_has a0 a2 = r) : CnI l Y yX7_has cX7_has 3 .boolean 0 [.long a0, .int a2] M r M := by
  refine met_Z (own := RX7) (by decide +kernel) rfl hG (Nat.le_of_ble_eq_true rfl) (fun X S hY1 hl1 hret => ?_)
  subst hY1
  subst hl1
  show AW X 0 [(0, .long a0), (2, .int a2)] [] M
  unfold LL_has at hE
  refine r_lload_n S dX7_has_0 0 rfl ?_
  refine r_iload_n S dX7_has_1 1 rfl ?_
  refine r_lshr S dX7_has_2 ?_
  refine r_lconst S (1 : Int64) dX7_has_3 rfl ?_
  refine r_land S dX7_has_4 ?_
  refine r_lconst S (0 : Int64) dX7_has_5 rfl ?_
  refine r_lcmp_eq S 14 dX7_has_6 dX7_has_7 (by decide) (fun c => ?_) (fun c => ?_)
  · try simp only [if_pos c] at hE
    refine r_iconst S (0 : Int32) dX7_has_14 rfl ?_
    subst hE
    exact hret _ _ _ dX7_has_15 (by decide)
  · try simp only [if_neg c] at hE
    refine r_iconst S (1 : Int32) dX7_has_10 rfl ?_
    refine r_goto S 15 dX7_has_11 (by decide) ?_
    subst hE
    exact hret _ _ _ dX7_has_15 (by decide)
set_option maxRecDepth 100000 in
set_option maxHeartbeats 4000000 in
theorem c_LL_bit (l : Launch) (Y : Env1) (hG : gY Y = gC) (a0 : Int32) (M : Mem) (r : Int64) (hE : LL_bit a0 = r) : CnL l Y yX7_bit cX7_bit 1 0 [.int a0] M r M := by
  refine met_L (own := RX7) (by decide +kernel) rfl hG (Nat.le_of_ble_eq_true rfl) (fun X S hY1 hl1 hret => ?_)
  subst hY1
  subst hl1
  show AW X 0 [(0, .int a0)] [] M
  unfold LL_bit at hE
  refine r_lconst S (1 : Int64) dX7_bit_0 rfl ?_
  refine r_iload_n S dX7_bit_1 0 rfl ?_
  refine r_lshl S dX7_bit_2 ?_
  subst hE
  exact hret _ _ dX7_bit_3
set_option maxRecDepth 100000 in
set_option maxHeartbeats 4000000 in
theorem c_LK_wetCells (l : Launch) (Y : Env1) (hG : gY Y = gC) (o : Nat) (ho : kC o = 1) (a1 : Nat) (k1 : kC a1 = 0) (a2 : Int32) (M : Mem) (r : Int64) (hE : LK_wetCells o a1 a2 M = some r) : CnL l Y yX1_wetCells cX1_wetCells 12 1 [.ref (hY Y + o), .ref (hY Y + a1), .int a2] M r M := by
  refine met_L (own := RX1) (by decide +kernel) rfl hG (Nat.le_of_ble_eq_true rfl) (fun X S hY1 hl1 hret => ?_)
  subst hY1
  subst hl1
  show AW X 0 [(0, .ref (hY X.2.1.2 + o)), (1, .ref (hY X.2.1.2 + a1)), (2, .int a2)] [] M
  have L21 : ∀ (v0 : Nat) (k0 : kC v0 = 1) (v1 : Nat) (k1 : kC v1 = 0) (v2 : Int32) (v3 : Int64) (e : (Int64)), AW X 106 [(5, .long e)] [] M → ∀ (n : Nat) (s : Int64 × Int32 × Int32 × Int32), lpR (fun s => LK_wetCells_L21 v0 v1 v2 v3 s.1 s.2.1 s.2.2.1 s.2.2.2 M) n s = some e → AW X 21 [(0, .ref (hY X.2.1.2 + v0)), (1, .ref (hY X.2.1.2 + v1)), (2, .int v2), (3, .long v3), (5, .long s.1), (7, .int s.2.1), (8, .int s.2.2.1), (9, .int s.2.2.2)] [] M := by
    intro v0 k0 v1 k1 v2 v3 e hX
    refine lpR_ind (P := fun (s : Int64 × Int32 × Int32 × Int32) => AW X 21 [(0, .ref (hY X.2.1.2 + v0)), (1, .ref (hY X.2.1.2 + v1)), (2, .int v2), (3, .long v3), (5, .long s.1), (7, .int s.2.1), (8, .int s.2.2.1), (9, .int s.2.2.2)] [] M) ?_
    rintro ⟨v5, v7, v8, v9⟩ d hE hC hD
    replace hE : LK_wetCells_L21 v0 v1 v2 v3 v5 v7 v8 v9 M = some d := hE
    show AW X 21 [(0, .ref (hY X.2.1.2 + v0)), (1, .ref (hY X.2.1.2 + v1)), (2, .int v2), (3, .long v3), (5, .long v5), (7, .int v7), (8, .int v8), (9, .int v9)] [] M
    unfold LK_wetCells_L21 at hE
    refine r_iload S dX1_wetCells_21 7 rfl ?_
    refine r_aload_n S dX1_wetCells_23 1 rfl ?_
    refine r_getIN S fc0 k1 2 rfl q_29 dX1_wetCells_24 ?_
    refine r_icmp_ge S 106 dX1_wetCells_27 (by decide) (fun c => ?_) (fun c => ?_)
    · rw [if_pos c] at hE
      obtain rfl := si1 hE
      rcases hD with h1 | ⟨_, h1⟩
      · obtain rfl := sir h1
        exact r_sub [4] rfl hX
      · exact (sil h1).elim
    · rw [if_neg c] at hE
      refine r_aload_n S dX1_wetCells_30 1 rfl ?_
      refine r_getRKN S fc0 k1 8 (v1 + 9) rfl rfl q_30 dX1_wetCells_31 ?_
      refine r_iload S dX1_wetCells_34 7 rfl ?_
      refine rc_I S (rn_V S fc3 (kk0_9 k1) (c_NR_at _ _ (gYX S) (v1 + 9) (kk0_9 k1) v9 M _ rfl) wdX3_at q_31 ⟨Nat.le_of_ble_eq_true rfl, Nat.le_of_ble_eq_true rfl⟩ rfl (Nat.le_of_ble_eq_true rfl) dX1_wetCells_36) ?_
      refine r_istore (lv2 := [(10, .int (fAtI (v1 + 9) v9 M)), (0, .ref (hY X.2.1.2 + v0)), (1, .ref (hY X.2.1.2 + v1)), (2, .int v2), (3, .long v3), (5, .long v5), (7, .int v7), (8, .int v8), (9, .int v9)]) S dX1_wetCells_39 (by decide) rfl ?_
      refine r_aload_n S dX1_wetCells_41 2 rfl ?_
      refine r_getRKN S fc0 k1 4 (v1 + 1) rfl rfl q_36 dX1_wetCells_42 ?_
      refine r_iload S dX1_wetCells_45 0 rfl ?_
      refine rc_I S (rn_V S fc3 (kk0_1 k1) (c_NR_at _ _ (gYX S) (v1 + 1) (kk0_1 k1) (fAtI (v1 + 9) v9 M) M _ rfl) wdX3_at q_31 ⟨Nat.le_of_ble_eq_true rfl, Nat.le_of_ble_eq_true rfl⟩ rfl (Nat.le_of_ble_eq_true rfl) dX1_wetCells_47) ?_
      refine r_istore (lv2 := [(11, .int (fAtI (v1 + 1) (fAtI (v1 + 9) v9 M) M)), (10, .int (fAtI (v1 + 9) v9 M)), (0, .ref (hY X.2.1.2 + v0)), (1, .ref (hY X.2.1.2 + v1)), (2, .int v2), (3, .long v3), (5, .long v5), (7, .int v7), (8, .int v8), (9, .int v9)]) S dX1_wetCells_50 (by decide) rfl ?_
      refine r_lload_n S dX1_wetCells_52 5 rfl ?_
      refine r_iload S dX1_wetCells_53 1 rfl ?_
      refine rc_I S (rn_SN S (c_LL_has _ _ (gYX S) v3 (fAtI (v1 + 9) v9 M) M _ rfl) wdX7_has q_37 ⟨Nat.le_of_ble_eq_true rfl, Nat.le_of_ble_eq_true rfl⟩ rfl (Nat.le_of_ble_eq_true rfl) dX1_wetCells_55) ?_
      refine r_if_eq S 100 dX1_wetCells_58 (by decide) (fun c => ?_) (fun c => ?_)
      · try simp only [if_pos c] at hE
        refine r_iinc (lv2 := [(9, .int (v9 + (1 : Int32))), (11, .int (fAtI (v1 + 1) (fAtI (v1 + 9) v9 M) M)), (10, .int (fAtI (v1 + 9) v9 M)), (0, .ref (hY X.2.1.2 + v0)), (1, .ref (hY X.2.1.2 + v1)), (2, .int v2), (3, .long v3), (5, .long v5), (7, .int v7), (8, .int v8)]) S dX1_wetCells_100 (j := 9) rfl (by decide) rfl ?_
        refine r_goto S 21 dX1_wetCells_103 (by decide) ?_
        obtain rfl := si1 hE
        exact r_sub (lv2 := [(0, .ref (hY X.2.1.2 + v0)), (1, .ref (hY X.2.1.2 + v1)), (2, .int v2), (3, .long v3), (5, .long v5), (7, .int v7), (8, .int v8), (9, .int (v9 + (1 : Int32)))]) [3, 4, 5, 6, 7, 8, 9, 0] rfl (hC (v5, v7, v8, (v9 + (1 : Int32))) rfl)
      · try simp only [if_neg c] at hE
        refine r_iload S dX1_wetCells_61 7 rfl ?_
        refine r_iload S dX1_wetCells_63 0 rfl ?_
        refine r_imul S dX1_wetCells_65 ?_
        refine r_iload S dX1_wetCells_66 8 rfl ?_
        refine r_isub S dX1_wetCells_68 ?_
        refine r_aload_n S dX1_wetCells_69 2 rfl ?_
        refine r_getRK S fc1 k0 1 (v0 + 3) rfl rfl q_41 dX1_wetCells_70 ?_
        refine r_iload_n S dX1_wetCells_73 4 rfl ?_
        refine rc_I S (rn_V S fc3 (kk1_3 k0) (c_NR_at _ _ (gYX S) (v0 + 3) (kk1_3 k0) v2 M _ rfl) wdX3_at q_31 ⟨Nat.le_of_ble_eq_true rfl, Nat.le_of_ble_eq_true rfl⟩ rfl (Nat.le_of_ble_eq_true rfl) dX1_wetCells_74) ?_
        refine r_icmp_ge S 100 dX1_wetCells_77 (by decide) (fun c => ?_) (fun c => ?_)
        · try simp only [if_pos c] at hE
          refine r_iinc (lv2 := [(9, .int (v9 + (1 : Int32))), (11, .int (fAtI (v1 + 1) (fAtI (v1 + 9) v9 M) M)), (10, .int (fAtI (v1 + 9) v9 M)), (0, .ref (hY X.2.1.2 + v0)), (1, .ref (hY X.2.1.2 + v1)), (2, .int v2), (3, .long v3), (5, .long v5), (7, .int v7), (8, .int v8)]) S dX1_wetCells_100 (j := 9) rfl (by decide) rfl ?_
          refine r_goto S 21 dX1_wetCells_103 (by decide) ?_
          obtain rfl := si1 hE
          exact r_sub (lv2 := [(0, .ref (hY X.2.1.2 + v0)), (1, .ref (hY X.2.1.2 + v1)), (2, .int v2), (3, .long v3), (5, .long v5), (7, .int v7), (8, .int v8), (9, .int (v9 + (1 : Int32)))]) [3, 4, 5, 6, 7, 8, 9, 0] rfl (hC (v5, v7, v8, (v9 + (1 : Int32))) rfl)
        · try simp only [if_neg c] at hE
          refine r_lload S dX1_wetCells_80 6 rfl ?_
          refine r_iload S dX1_wetCells_82 1 rfl ?_
          refine rc_L S (rn_SN S (c_LL_bit _ _ (gYX S) (fAtI (v1 + 9) v9 M) M _ rfl) wdX7_bit q_42 ⟨Nat.le_of_ble_eq_true rfl, Nat.le_of_ble_eq_true rfl⟩ rfl (Nat.le_of_ble_eq_true rfl) dX1_wetCells_84) ?_
          refine r_lor S dX1_wetCells_87 ?_
          refine r_lstore (lv2 := [(5, .long (v5 ||| (LL_bit (fAtI (v1 + 9) v9 M)))), (11, .int (fAtI (v1 + 1) (fAtI (v1 + 9) v9 M) M)), (10, .int (fAtI (v1 + 9) v9 M)), (0, .ref (hY X.2.1.2 + v0)), (1, .ref (hY X.2.1.2 + v1)), (2, .int v2), (3, .long v3), (7, .int v7), (8, .int v8), (9, .int v9)]) S dX1_wetCells_88 (by decide) rfl ?_
          refine r_iinc (lv2 := [(7, .int (v7 + (1 : Int32))), (5, .long (v5 ||| (LL_bit (fAtI (v1 + 9) v9 M)))), (11, .int (fAtI (v1 + 1) (fAtI (v1 + 9) v9 M) M)), (10, .int (fAtI (v1 + 9) v9 M)), (0, .ref (hY X.2.1.2 + v0)), (1, .ref (hY X.2.1.2 + v1)), (2, .int v2), (3, .long v3), (8, .int v8), (9, .int v9)]) S dX1_wetCells_90 (j := 7) rfl (by decide) rfl ?_
          refine r_iload S dX1_wetCells_93 8 rfl ?_
          refine r_iload S dX1_wetCells_95 2 rfl ?_
          refine r_iadd S dX1_wetCells_97 ?_
          refine r_istore (lv2 := [(8, .int (v8 + (fAtI (v1 + 1) (fAtI (v1 + 9) v9 M) M))), (7, .int (v7 + (1 : Int32))), (5, .long (v5 ||| (LL_bit (fAtI (v1 + 9) v9 M)))), (11, .int (fAtI (v1 + 1) (fAtI (v1 + 9) v9 M) M)), (10, .int (fAtI (v1 + 9) v9 M)), (0, .ref (hY X.2.1.2 + v0)), (1, .ref (hY X.2.1.2 + v1)), (2, .int v2), (3, .long v3), (9, .int v9)]) S dX1_wetCells_98 (by decide) rfl ?_
          refine r_iinc (lv2 := [(9, .int (v9 + (1 : Int32))), (8, .int (v8 + (fAtI (v1 + 1) (fAtI (v1 + 9) v9 M) M))), (7, .int (v7 + (1 : Int32))), (5, .long (v5 ||| (LL_bit (fAtI (v1 + 9) v9 M)))), (11, .int (fAtI (v1 + 1) (fAtI (v1 + 9) v9 M) M)), (10, .int (fAtI (v1 + 9) v9 M)), (0, .ref (hY X.2.1.2 + v0)), (1, .ref (hY X.2.1.2 + v1)), (2, .int v2), (3, .long v3)]) S dX1_wetCells_100 (j := 9) rfl (by decide) rfl ?_
          refine r_goto S 21 dX1_wetCells_103 (by decide) ?_
          obtain rfl := si1 hE
          exact r_sub (lv2 := [(0, .ref (hY X.2.1.2 + v0)), (1, .ref (hY X.2.1.2 + v1)), (2, .int v2), (3, .long v3), (5, .long (v5 ||| (LL_bit (fAtI (v1 + 9) v9 M)))), (7, .int (v7 + (1 : Int32))), (8, .int (v8 + (fAtI (v1 + 1) (fAtI (v1 + 9) v9 M) M))), (9, .int (v9 + (1 : Int32)))]) [6, 7, 8, 9, 3, 2, 1, 0] rfl (hC ((v5 ||| (LL_bit (fAtI (v1 + 9) v9 M))), (v7 + (1 : Int32)), (v8 + (fAtI (v1 + 1) (fAtI (v1 + 9) v9 M) M)), (v9 + (1 : Int32))) rfl)
  unfold LK_wetCells at hE
  refine r_aload_n S dX1_wetCells_0 0 rfl ?_
  refine r_getRK S fc1 ho 0 (o + 1) rfl rfl q_23 dX1_wetCells_1 ?_
  refine r_iload_n S dX1_wetCells_4 2 rfl ?_
  refine rc_L S (rn_V S fc4 (kk1_1 ho) (c_SR_at _ _ (gYX S) (o + 1) (kk1_1 ho) a2 M _ rfl) wdX4_at q_24 ⟨Nat.le_of_ble_eq_true rfl, Nat.le_of_ble_eq_true rfl⟩ rfl (Nat.le_of_ble_eq_true rfl) dX1_wetCells_5) ?_
  refine r_lstore_n (lv2 := [(3, .long (fAtL (o + 1) a2 M)), (0, .ref (hY X.2.1.2 + o)), (1, .ref (hY X.2.1.2 + a1)), (2, .int a2)]) S dX1_wetCells_8 (by decide) rfl ?_
  refine r_lconst S (0 : Int64) dX1_wetCells_9 rfl ?_
  refine r_lstore (lv2 := [(5, .long (0 : Int64)), (3, .long (fAtL (o + 1) a2 M)), (0, .ref (hY X.2.1.2 + o)), (1, .ref (hY X.2.1.2 + a1)), (2, .int a2)]) S dX1_wetCells_10 (by decide) rfl ?_
  refine r_iconst S (0 : Int32) dX1_wetCells_12 rfl ?_
  refine r_istore (lv2 := [(7, .int (0 : Int32)), (5, .long (0 : Int64)), (3, .long (fAtL (o + 1) a2 M)), (0, .ref (hY X.2.1.2 + o)), (1, .ref (hY X.2.1.2 + a1)), (2, .int a2)]) S dX1_wetCells_13 (by decide) rfl ?_
  refine r_iconst S (0 : Int32) dX1_wetCells_15 rfl ?_
  refine r_istore (lv2 := [(8, .int (0 : Int32)), (7, .int (0 : Int32)), (5, .long (0 : Int64)), (3, .long (fAtL (o + 1) a2 M)), (0, .ref (hY X.2.1.2 + o)), (1, .ref (hY X.2.1.2 + a1)), (2, .int a2)]) S dX1_wetCells_16 (by decide) rfl ?_
  refine r_iconst S (0 : Int32) dX1_wetCells_18 rfl ?_
  refine r_istore (lv2 := [(9, .int (0 : Int32)), (8, .int (0 : Int32)), (7, .int (0 : Int32)), (5, .long (0 : Int64)), (3, .long (fAtL (o + 1) a2 M)), (0, .ref (hY X.2.1.2 + o)), (1, .ref (hY X.2.1.2 + a1)), (2, .int a2)]) S dX1_wetCells_19 (by decide) rfl ?_
  obtain ⟨e1, h9, hE⟩ := b1_some hE
  refine r_sub [5, 6, 7, 4, 3, 2, 1, 0] rfl (L21 o ho a1 k1 a2 (fAtL (o + 1) a2 M)  e1 ?_ _ _  h9)
  refine r_lload S dX1_wetCells_106 0 rfl ?_
  obtain rfl := si1 hE
  exact hret _ _ dX1_wetCells_108
set_option maxRecDepth 100000 in
set_option maxHeartbeats 4000000 in
theorem c_GR_heightSum (l : Launch) (Y : Env1) (hG : gY Y = gC) (o : Nat) (ho : kC o = 0) (a1 : Int64) (M : Mem) (r : Int32) (hE : GR_heightSum o a1 M = some r) : CnI l Y yX0_heightSum cX0_heightSum 5 .int 1 [.ref (hY Y + o), .long a1] M r M := by
  refine met_I (own := RX0) (by decide +kernel) rfl hG (Nat.le_of_ble_eq_true rfl) (fun X S hY1 hl1 hret => ?_)
  subst hY1
  subst hl1
  show AW X 0 [(0, .ref (hY X.2.1.2 + o)), (1, .long a1)] [] M
  have L5 : ∀ (v0 : Nat) (k0 : kC v0 = 0) (v1 : Int64) (e : (Int32)), AW X 45 [(3, .int e)] [] M → ∀ (n : Nat) (s : Int32 × Int32), lpR (fun s => GR_heightSum_L5 v0 v1 s.1 s.2 M) n s = some e → AW X 5 [(0, .ref (hY X.2.1.2 + v0)), (1, .long v1), (3, .int s.1), (4, .int s.2)] [] M := by
    intro v0 k0 v1 e hX
    refine lpR_ind (P := fun (s : Int32 × Int32) => AW X 5 [(0, .ref (hY X.2.1.2 + v0)), (1, .long v1), (3, .int s.1), (4, .int s.2)] [] M) ?_
    rintro ⟨v3, v4⟩ d hE hC hD
    replace hE : GR_heightSum_L5 v0 v1 v3 v4 M = some d := hE
    show AW X 5 [(0, .ref (hY X.2.1.2 + v0)), (1, .long v1), (3, .int v3), (4, .int v4)] [] M
    unfold GR_heightSum_L5 at hE
    refine r_iload S dX0_heightSum_5 3 rfl ?_
    refine r_aload_n S dX0_heightSum_7 0 rfl ?_
    refine r_getI S fc0 k0 2 rfl q_46 dX0_heightSum_8 ?_
    refine r_icmp_ge S 45 dX0_heightSum_11 (by decide) (fun c => ?_) (fun c => ?_)
    · rw [if_pos c] at hE
      obtain rfl := si1 hE
      rcases hD with h1 | ⟨_, h1⟩
      · obtain rfl := sir h1
        exact r_sub [2] rfl hX
      · exact (sil h1).elim
    · rw [if_neg c] at hE
      refine r_iload_n S dX0_heightSum_14 2 rfl ?_
      refine r_lload_n S dX0_heightSum_15 1 rfl ?_
      refine r_iload S dX0_heightSum_16 3 rfl ?_
      refine rc_I S (rn_SN S (c_LL_has _ _ (gYX S) v1 v4 M _ rfl) wdX7_has q_47 ⟨Nat.le_of_ble_eq_true rfl, Nat.le_of_ble_eq_true rfl⟩ rfl (Nat.le_of_ble_eq_true rfl) dX0_heightSum_18) ?_
      refine r_if_eq S 36 dX0_heightSum_21 (by decide) (fun c => ?_) (fun c => ?_)
      · try simp only [if_pos c] at hE
        refine r_iconst S (0 : Int32) dX0_heightSum_36 rfl ?_
        refine r_iadd S dX0_heightSum_37 ?_
        refine r_istore_n (lv2 := [(3, .int (v3 + (0 : Int32))), (0, .ref (hY X.2.1.2 + v0)), (1, .long v1), (4, .int v4)]) S dX0_heightSum_38 (by decide) rfl ?_
        refine r_iinc (lv2 := [(4, .int (v4 + (1 : Int32))), (3, .int (v3 + (0 : Int32))), (0, .ref (hY X.2.1.2 + v0)), (1, .long v1)]) S dX0_heightSum_39 (j := 3) rfl (by decide) rfl ?_
        refine r_goto S 5 dX0_heightSum_42 (by decide) ?_
        obtain rfl := si1 hE
        exact r_sub (lv2 := [(0, .ref (hY X.2.1.2 + v0)), (1, .long v1), (3, .int (v3 + (0 : Int32))), (4, .int (v4 + (1 : Int32)))]) [2, 3, 1, 0] rfl (hC ((v3 + (0 : Int32)), (v4 + (1 : Int32))) rfl)
      · try simp only [if_neg c] at hE
        refine r_aload_n S dX0_heightSum_24 0 rfl ?_
        refine r_getRK S fc0 k0 4 (v0 + 1) rfl rfl q_48 dX0_heightSum_25 ?_
        refine r_iload S dX0_heightSum_28 3 rfl ?_
        refine rc_I S (rn_V S fc3 (kk0_1 k0) (c_NR_at _ _ (gYX S) (v0 + 1) (kk0_1 k0) v4 M _ rfl) wdX3_at q_49 ⟨Nat.le_of_ble_eq_true rfl, Nat.le_of_ble_eq_true rfl⟩ rfl (Nat.le_of_ble_eq_true rfl) dX0_heightSum_30) ?_
        refine r_goto S 37 dX0_heightSum_33 (by decide) ?_
        refine r_iadd S dX0_heightSum_37 ?_
        refine r_istore_n (lv2 := [(3, .int (v3 + (fAtI (v0 + 1) v4 M))), (0, .ref (hY X.2.1.2 + v0)), (1, .long v1), (4, .int v4)]) S dX0_heightSum_38 (by decide) rfl ?_
        refine r_iinc (lv2 := [(4, .int (v4 + (1 : Int32))), (3, .int (v3 + (fAtI (v0 + 1) v4 M))), (0, .ref (hY X.2.1.2 + v0)), (1, .long v1)]) S dX0_heightSum_39 (j := 3) rfl (by decide) rfl ?_
        refine r_goto S 5 dX0_heightSum_42 (by decide) ?_
        obtain rfl := si1 hE
        exact r_sub (lv2 := [(0, .ref (hY X.2.1.2 + v0)), (1, .long v1), (3, .int (v3 + (fAtI (v0 + 1) v4 M))), (4, .int (v4 + (1 : Int32)))]) [2, 3, 1, 0] rfl (hC ((v3 + (fAtI (v0 + 1) v4 M)), (v4 + (1 : Int32))) rfl)
  unfold GR_heightSum at hE
  refine r_iconst S (0 : Int32) dX0_heightSum_0 rfl ?_
  refine r_istore_n (lv2 := [(3, .int (0 : Int32)), (0, .ref (hY X.2.1.2 + o)), (1, .long a1)]) S dX0_heightSum_1 (by decide) rfl ?_
  refine r_iconst S (0 : Int32) dX0_heightSum_2 rfl ?_
  refine r_istore (lv2 := [(4, .int (0 : Int32)), (3, .int (0 : Int32)), (0, .ref (hY X.2.1.2 + o)), (1, .long a1)]) S dX0_heightSum_3 (by decide) rfl ?_
  obtain ⟨e1, h9, hE⟩ := b1_some hE
  refine r_sub [2, 3, 1, 0] rfl (L5 o ho a1  e1 ?_ _ _  h9)
  refine r_iload_n S dX0_heightSum_45 0 rfl ?_
  obtain rfl := si1 hE
  exact hret _ _ dX0_heightSum_46
set_option maxRecDepth 100000 in
set_option maxHeartbeats 4000000 in
theorem c_LL_commonDivisor (l : Launch) (Y : Env1) (hG : gY Y = gC) (a0 : Int32) (a1 : Int32) (M : Mem) (r : Int32) (hE : LL_commonDivisor a0 a1 = some r) : CnI l Y yX7_commonDivisor cX7_commonDivisor 3 .int 0 [.int a0, .int a1] M r M := by
  refine met_I (own := RX7) (by decide +kernel) rfl hG (Nat.le_of_ble_eq_true rfl) (fun X S hY1 hl1 hret => ?_)
  subst hY1
  subst hl1
  show AW X 0 [(0, .int a0), (1, .int a1)] [] M
  have L3 : ∀ (v0 : Int32) (v1 : Int32) (q : ((Unit) ⊕ Int32)), (∀ e, q = .inl e → AW X 28 [] [] M) → (∀ r8, q = .inr r8 → r8 = r) → ∀ (n : Nat) (s : Int32), lpR (fun s => LL_commonDivisor_L3 v0 v1 s) n s = some q → AW X 3 [(0, .int v0), (1, .int v1), (2, .int s)] [] M := by
    intro v0 v1 q hX hR
    refine lpR_ind (P := fun (s : Int32) => AW X 3 [(0, .int v0), (1, .int v1), (2, .int s)] [] M) ?_
    rintro v2 d hE hC hD
    replace hE : LL_commonDivisor_L3 v0 v1 v2 = some d := hE
    show AW X 3 [(0, .int v0), (1, .int v1), (2, .int v2)] [] M
    unfold LL_commonDivisor_L3 at hE
    refine r_iload_n S dX7_commonDivisor_3 2 rfl ?_
    refine r_iconst S (1 : Int32) dX7_commonDivisor_4 rfl ?_
    refine r_icmp_le S 28 dX7_commonDivisor_5 (by decide) (fun c => ?_) (fun c => ?_)
    · rw [if_pos c] at hE
      obtain rfl := si1 hE
      rcases hD with h1 | ⟨_, h1⟩
      · obtain rfl := sir h1
        exact r_sub [] rfl (hX _ rfl)
      · exact (sil h1).elim
    · rw [if_neg c] at hE
      refine r_iload_n S dX7_commonDivisor_8 0 rfl ?_
      refine r_iload_n S dX7_commonDivisor_9 2 rfl ?_
      obtain ⟨hy, hE⟩ := ck_some hE
      refine r_irem S dX7_commonDivisor_10 (of_decide_eq_true hy) ?_
      refine r_if_ne S 22 dX7_commonDivisor_11 (by decide) (fun c => ?_) (fun c => ?_)
      · rw [if_pos c] at hE
        refine r_iinc (lv2 := [(2, .int (v2 + (-1 : Int32))), (0, .int v0), (1, .int v1)]) S dX7_commonDivisor_22 (j := 2) rfl (by decide) rfl ?_
        refine r_goto S 3 dX7_commonDivisor_25 (by decide) ?_
        obtain rfl := si1 hE
        exact r_sub (lv2 := [(0, .int v0), (1, .int v1), (2, .int (v2 + (-1 : Int32)))]) [1, 2, 0] rfl (hC (v2 + (-1 : Int32)) rfl)
      · rw [if_neg (not_not_intro c)] at hE
        refine r_iload_n S dX7_commonDivisor_14 1 rfl ?_
        refine r_iload_n S dX7_commonDivisor_15 2 rfl ?_
        obtain ⟨hy, hE⟩ := ck_some hE
        refine r_irem S dX7_commonDivisor_16 (of_decide_eq_true hy) ?_
        refine r_if_ne S 22 dX7_commonDivisor_17 (by decide) (fun c => ?_) (fun c => ?_)
        · rw [if_pos c] at hE
          refine r_iinc (lv2 := [(2, .int (v2 + (-1 : Int32))), (0, .int v0), (1, .int v1)]) S dX7_commonDivisor_22 (j := 2) rfl (by decide) rfl ?_
          refine r_goto S 3 dX7_commonDivisor_25 (by decide) ?_
          obtain rfl := si1 hE
          exact r_sub (lv2 := [(0, .int v0), (1, .int v1), (2, .int (v2 + (-1 : Int32)))]) [1, 2, 0] rfl (hC (v2 + (-1 : Int32)) rfl)
        · rw [if_neg (not_not_intro c)] at hE
          refine r_iload_n S dX7_commonDivisor_20 2 rfl ?_
          obtain rfl := si1 hE
          rcases hD with h1 | ⟨_, h1⟩
          · obtain rfl := sir h1
            obtain rfl := hR _ rfl
            exact hret _ _ dX7_commonDivisor_21
          · exact (sil h1).elim
  unfold LL_commonDivisor at hE
  refine r_bipush S (36 : Int32) dX7_commonDivisor_0 rfl ?_
  refine r_istore_n (lv2 := [(2, .int (36 : Int32)), (0, .int a0), (1, .int a1)]) S dX7_commonDivisor_2 (by decide) rfl ?_
  obtain ⟨e1, h9, hE⟩ := b1_some hE
  refine r_sub [1, 2, 0] rfl (L3 a0 a1  e1 (fun e2 h8 => ?_) (fun r8 h8 => ?_) _ _  h9)
  · subst h8
    refine r_iconst S (1 : Int32) dX7_commonDivisor_28 rfl ?_
    obtain rfl := si1 hE
    exact hret _ _ dX7_commonDivisor_29
  · subst h8
    exact si1 hE
set_option maxRecDepth 100000 in
set_option maxHeartbeats 4000000 in
theorem c_LL_reduced (l : Launch) (Y : Env1) (hG : gY Y = gC) (a0 : Int32) (a1 : Int32) (M : Mem) (r : Int32) (hE : LL_reduced a0 a1 = some r) : CnI l Y yX7_reduced cX7_reduced 2 .int 0 [.int a0, .int a1] M r M := by
  refine met_I (own := RX7) (by decide +kernel) rfl hG (Nat.le_of_ble_eq_true rfl) (fun X S hY1 hl1 hret => ?_)
  subst hY1
  subst hl1
  show AW X 0 [(0, .int a0), (1, .int a1)] [] M
  unfold LL_reduced at hE
  refine r_iload_n S dX7_reduced_0 1 rfl ?_
  refine r_iconst S (1 : Int32) dX7_reduced_1 rfl ?_
  refine r_icmp_le S 11 dX7_reduced_2 (by decide) (fun c => ?_) (fun c => ?_)
  · rw [if_pos c] at hE
    refine r_iload_n S dX7_reduced_11 0 rfl ?_
    obtain rfl := si1 hE
    exact hret _ _ dX7_reduced_12
  · rw [if_neg c] at hE
    refine r_iload_n S dX7_reduced_5 0 rfl ?_
    refine r_iload_n S dX7_reduced_6 1 rfl ?_
    obtain ⟨hy, hE⟩ := ck_some hE
    refine r_idiv S dX7_reduced_7 (of_decide_eq_true hy) ?_
    refine r_goto S 12 dX7_reduced_8 (by decide) ?_
    obtain rfl := si1 hE
    exact hret _ _ dX7_reduced_12
set_option maxRecDepth 100000 in
set_option maxHeartbeats 4000000 in
theorem c_LL_depthValue (l : Launch) (Y : Env1) (hG : gY Y = gC) (a1 : Int32) (M : Mem) (r : UInt64) (hE : LL_depthValue a1 M = some r) : CnD l Y yX7_depthValue cX7_depthValue 9 2 [.ref (hY Y + 0), .int a1] M r M := by
  refine met_D (own := RX7) (by decide +kernel) rfl hG (Nat.le_of_ble_eq_true rfl) (fun X S hY1 hl1 hret => ?_)
  subst hY1
  subst hl1
  show AW X 0 [(0, .ref (hY X.2.1.2 + 0)), (1, .int a1)] [] M
  unfold LL_depthValue at hE
  refine r_aload_n S dX7_depthValue_0 0 rfl ?_
  refine r_getRK S fc7 (by decide) 0 1 rfl rfl q_50 dX7_depthValue_1 ?_
  refine r_getRKN S fc6 (by decide) 2 20 rfl rfl q_51 dX7_depthValue_4 ?_
  refine r_getRKN S fc1 (by decide) 8 37 rfl rfl q_52 dX7_depthValue_7 ?_
  refine r_iload_n S dX7_depthValue_10 1 rfl ?_
  refine rc_I S (rn_V S fc3 (by decide) (c_NR_at _ _ (gYX S) 37 (by decide) a1 M _ rfl) wdX3_at q_53 ⟨Nat.le_of_ble_eq_true rfl, Nat.le_of_ble_eq_true rfl⟩ rfl (Nat.le_of_ble_eq_true rfl) dX7_depthValue_11) ?_
  refine r_istore_n (lv2 := [(2, .int (fAtI 37 a1 M)), (0, .ref (hY X.2.1.2 + 0)), (1, .int a1)]) S dX7_depthValue_14 (by decide) rfl ?_
  refine r_aload_n S dX7_depthValue_15 1 rfl ?_
  refine r_getRK S fc7 (by decide) 0 1 rfl rfl q_50 dX7_depthValue_16 ?_
  refine r_getRKN S fc6 (by decide) 2 20 rfl rfl q_51 dX7_depthValue_19 ?_
  refine r_aload_n S dX7_depthValue_22 1 rfl ?_
  refine r_getRK S fc7 (by decide) 0 1 rfl rfl q_50 dX7_depthValue_23 ?_
  refine r_getRKN S fc6 (by decide) 0 2 rfl rfl q_54 dX7_depthValue_26 ?_
  refine r_iload_n S dX7_depthValue_29 0 rfl ?_
  obtain ⟨x1, h9, hE⟩ := b1_some hE
  refine rc_L S (rn_V S fc1 (by decide) (c_LK_wetCells _ _ (gYX S) 20 (by decide) 2 (by decide) (fAtI 37 a1 M) M _ h9) wdX1_wetCells q_55 ⟨Nat.le_of_ble_eq_true rfl, Nat.le_of_ble_eq_true rfl⟩ rfl (Nat.le_of_ble_eq_true rfl) dX7_depthValue_30) ?_
  refine r_lstore_n (lv2 := [(3, .long x1), (2, .int (fAtI 37 a1 M)), (0, .ref (hY X.2.1.2 + 0)), (1, .int a1)]) S dX7_depthValue_33 (by decide) rfl ?_
  refine r_lload_n S dX7_depthValue_34 0 rfl ?_
  refine r_iload_n S dX7_depthValue_35 3 rfl ?_
  refine rc_I S (rn_S S (c_LL_has _ _ (gYX S) x1 a1 M _ rfl) wdX7_has q_60 ⟨Nat.le_of_ble_eq_true rfl, Nat.le_of_ble_eq_true rfl⟩ rfl (Nat.le_of_ble_eq_true rfl) dX7_depthValue_36) ?_
  refine r_if_ne S 44 dX7_depthValue_39 (by decide) (fun c => ?_) (fun c => ?_)
  · rw [if_pos c] at hE
    refine r_lload_n S dX7_depthValue_44 0 rfl ?_
    refine rc_I S (rn_S S (c_JL_bitCount _ _ (gYX S) x1 M _ rfl) wdJ13_bitCount_95d88 q_61 ⟨Nat.le_of_ble_eq_true rfl, Nat.le_of_ble_eq_true rfl⟩ rfl (Nat.le_of_ble_eq_true rfl) dX7_depthValue_45) ?_
    refine r_istore (lv2 := [(5, .int (JL_bitCount x1)), (3, .long x1), (2, .int (fAtI 37 a1 M)), (0, .ref (hY X.2.1.2 + 0)), (1, .int a1)]) S dX7_depthValue_48 (by decide) rfl ?_
    refine r_aload_n S dX7_depthValue_50 3 rfl ?_
    refine r_getRK S fc7 (by decide) 0 1 rfl rfl q_50 dX7_depthValue_51 ?_
    refine r_getRKN S fc6 (by decide) 2 20 rfl rfl q_51 dX7_depthValue_54 ?_
    refine r_getRKN S fc1 (by decide) 1 23 rfl rfl q_65 dX7_depthValue_57 ?_
    refine r_iload_n S dX7_depthValue_60 2 rfl ?_
    refine rc_I S (rn_V S fc3 (by decide) (c_NR_at _ _ (gYX S) 23 (by decide) (fAtI 37 a1 M) M _ rfl) wdX3_at q_53 ⟨Nat.le_of_ble_eq_true rfl, Nat.le_of_ble_eq_true rfl⟩ rfl (Nat.le_of_ble_eq_true rfl) dX7_depthValue_61) ?_
    refine r_aload_n S dX7_depthValue_64 3 rfl ?_
    refine r_getRK S fc7 (by decide) 0 1 rfl rfl q_50 dX7_depthValue_65 ?_
    refine r_getRKN S fc6 (by decide) 0 2 rfl rfl q_54 dX7_depthValue_68 ?_
    refine r_lload_n S dX7_depthValue_71 1 rfl ?_
    obtain ⟨x2, h9, hE⟩ := b1_some hE
    refine rc_I S (rn_V S fc0 (by decide) (c_GR_heightSum _ _ (gYX S) 2 (by decide) x1 M _ h9) wdX0_heightSum q_66 ⟨Nat.le_of_ble_eq_true rfl, Nat.le_of_ble_eq_true rfl⟩ rfl (Nat.le_of_ble_eq_true rfl) dX7_depthValue_72) ?_
    refine r_iadd S dX7_depthValue_75 ?_
    refine r_iload S dX7_depthValue_76 0 rfl ?_
    refine r_aload_n S dX7_depthValue_78 3 rfl ?_
    refine r_getRK S fc7 (by decide) 0 1 rfl rfl q_50 dX7_depthValue_79 ?_
    refine r_getRKN S fc6 (by decide) 0 2 rfl rfl q_54 dX7_depthValue_82 ?_
    refine r_getRKN S fc0 (by decide) 4 3 rfl rfl q_71 dX7_depthValue_85 ?_
    refine r_iload_n S dX7_depthValue_88 4 rfl ?_
    refine rc_I S (rn_V S fc3 (by decide) (c_NR_at _ _ (gYX S) 3 (by decide) a1 M _ rfl) wdX3_at q_53 ⟨Nat.le_of_ble_eq_true rfl, Nat.le_of_ble_eq_true rfl⟩ rfl (Nat.le_of_ble_eq_true rfl) dX7_depthValue_89) ?_
    refine r_imul S dX7_depthValue_92 ?_
    refine r_isub S dX7_depthValue_93 ?_
    refine r_istore (lv2 := [(6, .int (((fAtI 23 (fAtI 37 a1 M) M) + x2) - ((JL_bitCount x1) * (fAtI 3 a1 M)))), (5, .int (JL_bitCount x1)), (3, .long x1), (2, .int (fAtI 37 a1 M)), (0, .ref (hY X.2.1.2 + 0)), (1, .int a1)]) S dX7_depthValue_94 (by decide) rfl ?_
    refine r_iload S dX7_depthValue_96 0 rfl ?_
    refine r_iload S dX7_depthValue_98 1 rfl ?_
    obtain ⟨x3, h9, hE⟩ := b1_some hE
    refine rc_I S (rn_S S (c_LL_commonDivisor _ _ (gYX S) (((fAtI 23 (fAtI 37 a1 M) M) + x2) - ((JL_bitCount x1) * (fAtI 3 a1 M))) (JL_bitCount x1) M _ h9) wdX7_commonDivisor q_72 ⟨Nat.le_of_ble_eq_true rfl, Nat.le_of_ble_eq_true rfl⟩ rfl (Nat.le_of_ble_eq_true rfl) dX7_depthValue_100) ?_
    refine r_istore (lv2 := [(7, .int x3), (6, .int (((fAtI 23 (fAtI 37 a1 M) M) + x2) - ((JL_bitCount x1) * (fAtI 3 a1 M)))), (5, .int (JL_bitCount x1)), (3, .long x1), (2, .int (fAtI 37 a1 M)), (0, .ref (hY X.2.1.2 + 0)), (1, .int a1)]) S dX7_depthValue_103 (by decide) rfl ?_
    refine r_iload S dX7_depthValue_105 2 rfl ?_
    refine r_iload S dX7_depthValue_107 0 rfl ?_
    obtain ⟨x4, h9, hE⟩ := b1_some hE
    refine rc_I S (rn_S S (c_LL_reduced _ _ (gYX S) (JL_bitCount x1) x3 M _ h9) wdX7_reduced q_76 ⟨Nat.le_of_ble_eq_true rfl, Nat.le_of_ble_eq_true rfl⟩ rfl (Nat.le_of_ble_eq_true rfl) dX7_depthValue_109) ?_
    refine r_istore (lv2 := [(8, .int x4), (7, .int x3), (6, .int (((fAtI 23 (fAtI 37 a1 M) M) + x2) - ((JL_bitCount x1) * (fAtI 3 a1 M)))), (5, .int (JL_bitCount x1)), (3, .long x1), (2, .int (fAtI 37 a1 M)), (0, .ref (hY X.2.1.2 + 0)), (1, .int a1)]) S dX7_depthValue_112 (by decide) rfl ?_
    refine r_iload S dX7_depthValue_114 0 rfl ?_
    refine r_if_le S 134 dX7_depthValue_116 (by decide) (fun c => ?_) (fun c => ?_)
    · rw [if_pos c] at hE
      refine r_dconst0 S dX7_depthValue_134 ?_
      obtain rfl := si1 hE
      exact hret _ _ dX7_depthValue_135
    · rw [if_neg c] at hE
      refine r_iload S dX7_depthValue_119 2 rfl ?_
      refine r_iload S dX7_depthValue_121 1 rfl ?_
      obtain ⟨x5, h9, hE⟩ := b1_some hE
      refine rc_I S (rn_S S (c_LL_reduced _ _ (gYX S) (((fAtI 23 (fAtI 37 a1 M) M) + x2) - ((JL_bitCount x1) * (fAtI 3 a1 M))) x3 M _ h9) wdX7_reduced q_76 ⟨Nat.le_of_ble_eq_true rfl, Nat.le_of_ble_eq_true rfl⟩ rfl (Nat.le_of_ble_eq_true rfl) dX7_depthValue_123) ?_
      refine r_i2d S dX7_depthValue_126 ?_
      refine r_iload S dX7_depthValue_127 0 rfl ?_
      refine r_i2d S dX7_depthValue_129 ?_
      obtain ⟨hn, hE⟩ := ck_some hE
      refine r_ddiv S dX7_depthValue_130 hn ?_
      refine r_goto S 135 dX7_depthValue_131 (by decide) ?_
      obtain rfl := si1 hE
      exact hret _ _ dX7_depthValue_135
  · rw [if_neg (not_not_intro c)] at hE
    refine r_dconst0 S dX7_depthValue_42 ?_
    obtain rfl := si1 hE
    exact hret _ _ dX7_depthValue_43
set_option maxRecDepth 100000 in
set_option maxHeartbeats 4000000 in
theorem c_LL_deepest (l : Launch) (Y : Env1) (hG : gY Y = gC) (M : Mem) (r : Int32) (hE : LL_deepest M = some r) : CnI l Y yX7_deepest cX7_deepest 7 .int 3 [.ref (hY Y + 0)] M r M := by
  refine met_I (own := RX7) (by decide +kernel) rfl hG (Nat.le_of_ble_eq_true rfl) (fun X S hY1 hl1 hret => ?_)
  subst hY1
  subst hl1
  show AW X 0 [(0, .ref (hY X.2.1.2 + 0))] [] M
  have L7 : ∀ (e : (Int32)), AW X 49 [(1, .int e)] [] M → ∀ (n : Nat) (s : Int32 × UInt64 × Int32), lpR (fun s => LL_deepest_L7 s.1 s.2.1 s.2.2 M) n s = some e → AW X 7 [(0, .ref (hY X.2.1.2 + 0)), (1, .int s.1), (2, .double s.2.1), (4, .int s.2.2)] [] M := by
    intro e hX
    refine lpR_ind (P := fun (s : Int32 × UInt64 × Int32) => AW X 7 [(0, .ref (hY X.2.1.2 + 0)), (1, .int s.1), (2, .double s.2.1), (4, .int s.2.2)] [] M) ?_
    rintro ⟨v1, v2, v4⟩ d hE hC hD
    replace hE : LL_deepest_L7 v1 v2 v4 M = some d := hE
    show AW X 7 [(0, .ref (hY X.2.1.2 + 0)), (1, .int v1), (2, .double v2), (4, .int v4)] [] M
    unfold LL_deepest_L7 at hE
    refine r_iload S dX7_deepest_7 3 rfl ?_
    refine r_aload_n S dX7_deepest_9 0 rfl ?_
    refine r_getRK S fc7 (by decide) 0 1 rfl rfl q_50 dX7_deepest_10 ?_
    refine r_getRKN S fc6 (by decide) 0 2 rfl rfl q_54 dX7_deepest_13 ?_
    refine r_getIN S fc0 (by decide) 2 rfl q_80 dX7_deepest_16 ?_
    refine r_icmp_ge S 49 dX7_deepest_19 (by decide) (fun c => ?_) (fun c => ?_)
    · rw [if_pos c] at hE
      obtain rfl := si1 hE
      rcases hD with h1 | ⟨_, h1⟩
      · obtain rfl := sir h1
        exact r_sub [1] rfl hX
      · exact (sil h1).elim
    · rw [if_neg c] at hE
      refine r_aload_n S dX7_deepest_22 0 rfl ?_
      refine r_iload S dX7_deepest_23 3 rfl ?_
      obtain ⟨x1, h9, hE⟩ := b1_some hE
      refine rc_D S (rn_V S fc7 (by decide) (c_LL_depthValue _ _ (gYX S) v4 M _ h9) wdX7_depthValue q_81 ⟨Nat.le_of_ble_eq_true rfl, Nat.le_of_ble_eq_true rfl⟩ rfl (Nat.le_of_ble_eq_true rfl) dX7_deepest_25) ?_
      refine r_dstore (lv2 := [(5, .double x1), (0, .ref (hY X.2.1.2 + 0)), (1, .int v1), (2, .double v2), (4, .int v4)]) S dX7_deepest_28 (by decide) rfl ?_
      refine r_dload S dX7_deepest_30 0 rfl ?_
      refine r_dload_n S dX7_deepest_32 3 rfl ?_
      refine r_dcmpl S dX7_deepest_33 ?_
      refine r_if_le S 43 dX7_deepest_34 (by decide) (fun c => ?_) (fun c => ?_)
      · try simp only [if_pos c] at hE
        refine r_iinc (lv2 := [(4, .int (v4 + (1 : Int32))), (5, .double x1), (0, .ref (hY X.2.1.2 + 0)), (1, .int v1), (2, .double v2)]) S dX7_deepest_43 (j := 4) rfl (by decide) rfl ?_
        refine r_goto S 7 dX7_deepest_46 (by decide) ?_
        obtain rfl := si1 hE
        exact r_sub (lv2 := [(0, .ref (hY X.2.1.2 + 0)), (1, .int v1), (2, .double v2), (4, .int (v4 + (1 : Int32)))]) [2, 3, 4, 0] rfl (hC (v1, v2, (v4 + (1 : Int32))) rfl)
      · try simp only [if_neg c] at hE
        refine r_dload S dX7_deepest_37 0 rfl ?_
        refine r_dstore_n (lv2 := [(2, .double x1), (5, .double x1), (0, .ref (hY X.2.1.2 + 0)), (1, .int v1), (4, .int v4)]) S dX7_deepest_39 (by decide) rfl ?_
        refine r_iload S dX7_deepest_40 4 rfl ?_
        refine r_istore_n (lv2 := [(1, .int v4), (2, .double x1), (5, .double x1), (0, .ref (hY X.2.1.2 + 0)), (4, .int v4)]) S dX7_deepest_42 (by decide) rfl ?_
        refine r_iinc (lv2 := [(4, .int (v4 + (1 : Int32))), (1, .int v4), (2, .double x1), (5, .double x1), (0, .ref (hY X.2.1.2 + 0))]) S dX7_deepest_43 (j := 4) rfl (by decide) rfl ?_
        refine r_goto S 7 dX7_deepest_46 (by decide) ?_
        obtain rfl := si1 hE
        exact r_sub (lv2 := [(0, .ref (hY X.2.1.2 + 0)), (1, .int v4), (2, .double x1), (4, .int (v4 + (1 : Int32)))]) [4, 1, 2, 0] rfl (hC (v4, x1, (v4 + (1 : Int32))) rfl)
  unfold LL_deepest at hE
  refine r_iconst S (-1 : Int32) dX7_deepest_0 rfl ?_
  refine r_istore_n (lv2 := [(1, .int (-1 : Int32)), (0, .ref (hY X.2.1.2 + 0))]) S dX7_deepest_1 (by decide) rfl ?_
  refine r_dconst0 S dX7_deepest_2 ?_
  refine r_dstore_n (lv2 := [(2, .double FP.dconst0), (1, .int (-1 : Int32)), (0, .ref (hY X.2.1.2 + 0))]) S dX7_deepest_3 (by decide) rfl ?_
  refine r_iconst S (0 : Int32) dX7_deepest_4 rfl ?_
  refine r_istore (lv2 := [(4, .int (0 : Int32)), (2, .double FP.dconst0), (1, .int (-1 : Int32)), (0, .ref (hY X.2.1.2 + 0))]) S dX7_deepest_5 (by decide) rfl ?_
  obtain ⟨e1, h9, hE⟩ := b1_some hE
  refine r_sub [3, 2, 1, 0] rfl (L7   e1 ?_ _ _  h9)
  refine r_iload_n S dX7_deepest_49 0 rfl ?_
  obtain rfl := si1 hE
  exact hret _ _ dX7_deepest_50
set_option maxRecDepth 100000 in
set_option maxHeartbeats 4000000 in
theorem c_LL_clearText (l : Launch) (Y : Env1) (hG : gY Y = gC) (M : Mem) (r : Int32) (M1 : Mem) (hE : LL_clearText M = some (r, M1)) : CnI l Y yX7_clearText cX7_clearText 2 .int 0 [.ref (hY Y + 0)] M r M1 := by
  refine met_I (own := RX7) (by decide +kernel) rfl hG (Nat.le_of_ble_eq_true rfl) (fun X S hY1 hl1 hret => ?_)
  subst hY1
  subst hl1
  show AW X 0 [(0, .ref (hY X.2.1.2 + 0))] [] M
  unfold LL_clearText at hE
  refine r_aload_n S dX7_clearText_0 0 rfl ?_
  refine r_getRK S fc7 (by decide) 3 94 rfl rfl q_86 dX7_clearText_1 ?_
  refine r_getIN S fc2 (by decide) 1 rfl q_87 dX7_clearText_4 ?_
  refine r_istore_n (lv2 := [(1, .int (gI M 94 1)), (0, .ref (hY X.2.1.2 + 0))]) S dX7_clearText_7 (by decide) rfl ?_
  refine r_aload_n S dX7_clearText_8 1 rfl ?_
  refine r_getRK S fc7 (by decide) 3 94 rfl rfl q_86 dX7_clearText_9 ?_
  refine r_iconst S (0 : Int32) dX7_clearText_12 rfl ?_
  refine r_putIN S fc2 (by decide) 1 rfl rfl (by decide +kernel) q_87 dX7_clearText_13 ?_
  refine r_iload_n S dX7_clearText_16 0 rfl ?_
  obtain ⟨rfl, rfl⟩ := si2 hE
  exact hret _ _ dX7_clearText_17
set_option maxRecDepth 100000 in
set_option maxHeartbeats 4000000 in
theorem c_LT_next (l : Launch) (Y : Env1) (hG : gY Y = gC) (M : Mem) (r : Int32) (hE : LT_next M = r) : CnI l Y yX2_next cX2_next 1 .int 1 [.ref (hY Y + 94)] M r M := by
  refine met_I (own := RX2) (by decide +kernel) rfl hG (Nat.le_of_ble_eq_true rfl) (fun X S hY1 hl1 hret => ?_)
  subst hY1
  subst hl1
  show AW X 0 [(0, .ref (hY X.2.1.2 + 94))] [] M
  unfold LT_next at hE
  refine r_aload_n S dX2_next_0 0 rfl ?_
  refine r_getI S fc2 (by decide) 2 rfl q_88 dX2_next_1 ?_
  refine r_aload_n S dX2_next_4 0 rfl ?_
  refine r_getI S fc2 (by decide) 1 rfl q_89 dX2_next_5 ?_
  refine r_icmp_ge S 25 dX2_next_8 (by decide) (fun c => ?_) (fun c => ?_)
  · try simp only [if_pos c] at hE
    refine r_iconst S (-1 : Int32) dX2_next_25 rfl ?_
    subst hE
    exact hret _ _ dX2_next_26
  · try simp only [if_neg c] at hE
    refine r_aload_n S dX2_next_11 0 rfl ?_
    refine r_getRK S fc2 (by decide) 0 95 rfl rfl q_90 dX2_next_12 ?_
    refine r_aload_n S dX2_next_15 0 rfl ?_
    refine r_getI S fc2 (by decide) 2 rfl q_88 dX2_next_16 ?_
    refine rc_I S (rn_V S fc3 (by decide) (c_NR_at _ _ (gYX S) 95 (by decide) (gI M 94 2) M _ rfl) wdX3_at q_91 ⟨Nat.le_of_ble_eq_true rfl, Nat.le_of_ble_eq_true rfl⟩ rfl (Nat.le_of_ble_eq_true rfl) dX2_next_19) ?_
    refine r_goto S 26 dX2_next_22 (by decide) ?_
    subst hE
    exact hret _ _ dX2_next_26
set_option maxRecDepth 100000 in
set_option maxHeartbeats 4000000 in
theorem c_LT_fail (l : Launch) (Y : Env1) (hG : gY Y = gC) (a1 : Int32) (M : Mem) (r : Unit) (M1 : Mem) (hE : LT_fail a1 M = some (r, M1)) : CnV l Y yX2_fail cX2_fail 2 0 [.ref (hY Y + 94), .int a1] M M1 := by
  refine met_V (own := RX2) (by decide +kernel) rfl hG (Nat.le_of_ble_eq_true rfl) (fun X S hY1 hl1 hret => ?_)
  subst hY1
  subst hl1
  show AW X 0 [(0, .ref (hY X.2.1.2 + 94)), (1, .int a1)] [] M
  unfold LT_fail at hE
  refine r_aload_n S dX2_fail_0 0 rfl ?_
  refine r_aload_n S dX2_fail_1 0 rfl ?_
  refine r_getI S fc2 (by decide) 3 rfl q_92 dX2_fail_2 ?_
  refine r_iconst S (-1 : Int32) dX2_fail_5 rfl ?_
  refine r_icmp_ne S 13 dX2_fail_6 (by decide) (fun c => ?_) (fun c => ?_)
  · try simp only [if_pos c] at hE
    refine r_aload_n S dX2_fail_13 0 rfl ?_
    refine r_getI S fc2 (by decide) 3 rfl q_92 dX2_fail_14 ?_
    refine r_putI S fc2 (by decide) 3 rfl rfl (by decide +kernel) q_92 dX2_fail_17 ?_
    obtain ⟨rfl, rfl⟩ := si2 hE
    exact hret _ _ dX2_fail_20
  · try simp only [if_neg (not_not_intro c)] at hE
    refine r_iload_n S dX2_fail_9 1 rfl ?_
    refine r_goto S 17 dX2_fail_10 (by decide) ?_
    refine r_putI S fc2 (by decide) 3 rfl rfl (by decide +kernel) q_92 dX2_fail_17 ?_
    obtain ⟨rfl, rfl⟩ := si2 hE
    exact hret _ _ dX2_fail_20
set_option maxRecDepth 100000 in
set_option maxHeartbeats 4000000 in
theorem c_LT_readSize (l : Launch) (Y : Env1) (hG : gY Y = gC) (a1 : Int32) (M : Mem) (r : Int32) (M1 : Mem) (hE : LT_readSize a1 M = some (r, M1)) : CnI l Y yX2_readSize cX2_readSize 3 .int 2 [.ref (hY Y + 94), .int a1] M r M1 := by
  refine met_I (own := RX2) (by decide +kernel) rfl hG (Nat.le_of_ble_eq_true rfl) (fun X S hY1 hl1 hret => ?_)
  subst hY1
  subst hl1
  show AW X 0 [(0, .ref (hY X.2.1.2 + 94)), (1, .int a1)] [] M
  have J39 : ∀ (v2 : Int32) (M : Mem), LT_readSize_J39 v2 M = some (r, M1) → AW X 39 [(0, .ref (hY X.2.1.2 + 94)), (2, .int v2)] [] M := by
    intro v2 M hE
    unfold LT_readSize_J39 at hE
    refine r_aload_n S dX2_readSize_39 0 rfl ?_
    refine r_aload_n S dX2_readSize_40 0 rfl ?_
    refine r_getI S fc2 (by decide) 2 rfl q_88 dX2_readSize_41 ?_
    obtain ⟨x1, M2, h9, hE⟩ := b2_some hE
    refine rc_V S (rn_V S fc2 (by decide) (c_LT_fail _ _ (gYX S) (gI M 94 2) M _ _ h9) wdX2_fail q_98 ⟨Nat.le_of_ble_eq_true rfl, Nat.le_of_ble_eq_true rfl⟩ rfl (Nat.le_of_ble_eq_true rfl) dX2_readSize_44) ?_
    refine r_iload_n S dX2_readSize_47 1 rfl ?_
    obtain ⟨rfl, rfl⟩ := si2 hE
    exact hret _ _ dX2_readSize_48
  unfold LT_readSize at hE
  refine r_aload_n S dX2_readSize_0 0 rfl ?_
  refine rc_I S (rn_V S fc2 (by decide) (c_LT_next _ _ (gYX S)  M _ rfl) wdX2_next q_93 ⟨Nat.le_of_ble_eq_true rfl, Nat.le_of_ble_eq_true rfl⟩ rfl (Nat.le_of_ble_eq_true rfl) dX2_readSize_1) ?_
  refine r_bipush S (48 : Int32) dX2_readSize_4 rfl ?_
  refine r_isub S dX2_readSize_6 ?_
  refine r_istore_n (lv2 := [(2, .int ((LT_next M) - (48 : Int32))), (0, .ref (hY X.2.1.2 + 94)), (1, .int a1)]) S dX2_readSize_7 (by decide) rfl ?_
  refine r_aload_n S dX2_readSize_8 1 rfl ?_
  refine r_getI S fc2 (by decide) 3 rfl q_92 dX2_readSize_9 ?_
  refine r_iconst S (-1 : Int32) dX2_readSize_12 rfl ?_
  refine r_icmp_ne S 39 dX2_readSize_13 (by decide) (fun c => ?_) (fun c => ?_)
  · rw [if_pos c] at hE
    exact r_sub [1, 0] rfl (J39 ((LT_next M) - (48 : Int32)) M hE)
  · rw [if_neg (not_not_intro c)] at hE
    refine r_iload_n S dX2_readSize_16 0 rfl ?_
    refine r_iconst S (1 : Int32) dX2_readSize_17 rfl ?_
    refine r_icmp_lt S 39 dX2_readSize_18 (by decide) (fun c => ?_) (fun c => ?_)
    · rw [if_pos c] at hE
      exact r_sub [1, 0] rfl (J39 ((LT_next M) - (48 : Int32)) M hE)
    · rw [if_neg c] at hE
      refine r_iload_n S dX2_readSize_21 0 rfl ?_
      refine r_iload_n S dX2_readSize_22 2 rfl ?_
      refine r_icmp_gt S 39 dX2_readSize_23 (by decide) (fun c => ?_) (fun c => ?_)
      · rw [if_pos c] at hE
        exact r_sub [1, 0] rfl (J39 ((LT_next M) - (48 : Int32)) M hE)
      · rw [if_neg c] at hE
        refine r_aload_n S dX2_readSize_26 1 rfl ?_
        refine r_dup S dX2_readSize_27 rfl ?_
        refine r_getI S fc2 (by decide) 2 rfl q_88 dX2_readSize_28 ?_
        refine r_iconst S (1 : Int32) dX2_readSize_31 rfl ?_
        refine r_iadd S dX2_readSize_32 ?_
        refine r_putI S fc2 (by decide) 2 rfl rfl (by decide +kernel) q_88 dX2_readSize_33 ?_
        refine r_goto S 47 dX2_readSize_36 (by decide) ?_
        refine r_iload_n S dX2_readSize_47 0 rfl ?_
        obtain ⟨rfl, rfl⟩ := si2 hE
        exact hret _ _ dX2_readSize_48
set_option maxRecDepth 100000 in
set_option maxHeartbeats 4000000 in
theorem c_LT_readSign (l : Launch) (Y : Env1) (hG : gY Y = gC) (a1 : Int32) (M : Mem) (r : Unit) (M1 : Mem) (hE : LT_readSign a1 M = some (r, M1)) : CnV l Y yX2_readSign cX2_readSign 2 2 [.ref (hY Y + 94), .int a1] M M1 := by
  refine met_V (own := RX2) (by decide +kernel) rfl hG (Nat.le_of_ble_eq_true rfl) (fun X S hY1 hl1 hret => ?_)
  subst hY1
  subst hl1
  show AW X 0 [(0, .ref (hY X.2.1.2 + 94)), (1, .int a1)] [] M
  have J29 : ∀ (M : Mem), LT_readSign_J29 M = some (r, M1) → AW X 29 [(0, .ref (hY X.2.1.2 + 94))] [] M := by
    intro M hE
    unfold LT_readSign_J29 at hE
    refine r_aload_n S dX2_readSign_29 0 rfl ?_
    refine r_aload_n S dX2_readSign_30 0 rfl ?_
    refine r_getI S fc2 (by decide) 2 rfl q_88 dX2_readSign_31 ?_
    obtain ⟨x1, M2, h9, hE⟩ := b2_some hE
    refine rc_V S (rn_V S fc2 (by decide) (c_LT_fail _ _ (gYX S) (gI M 94 2) M _ _ h9) wdX2_fail q_98 ⟨Nat.le_of_ble_eq_true rfl, Nat.le_of_ble_eq_true rfl⟩ rfl (Nat.le_of_ble_eq_true rfl) dX2_readSign_34) ?_
    obtain ⟨rfl, rfl⟩ := si2 hE
    exact hret _ _ dX2_readSign_37
  unfold LT_readSign at hE
  refine r_aload_n S dX2_readSign_0 0 rfl ?_
  refine r_getI S fc2 (by decide) 3 rfl q_92 dX2_readSign_1 ?_
  refine r_iconst S (-1 : Int32) dX2_readSign_4 rfl ?_
  refine r_icmp_ne S 29 dX2_readSign_5 (by decide) (fun c => ?_) (fun c => ?_)
  · rw [if_pos c] at hE
    exact r_sub [0] rfl (J29  M hE)
  · rw [if_neg (not_not_intro c)] at hE
    refine r_aload_n S dX2_readSign_8 0 rfl ?_
    refine rc_I S (rn_V S fc2 (by decide) (c_LT_next _ _ (gYX S)  M _ rfl) wdX2_next q_93 ⟨Nat.le_of_ble_eq_true rfl, Nat.le_of_ble_eq_true rfl⟩ rfl (Nat.le_of_ble_eq_true rfl) dX2_readSign_9) ?_
    refine r_iload_n S dX2_readSign_12 1 rfl ?_
    refine r_icmp_ne S 29 dX2_readSign_13 (by decide) (fun c => ?_) (fun c => ?_)
    · rw [if_pos c] at hE
      exact r_sub [0] rfl (J29  M hE)
    · rw [if_neg (not_not_intro c)] at hE
      refine r_aload_n S dX2_readSign_16 0 rfl ?_
      refine r_dup S dX2_readSign_17 rfl ?_
      refine r_getI S fc2 (by decide) 2 rfl q_88 dX2_readSign_18 ?_
      refine r_iconst S (1 : Int32) dX2_readSign_21 rfl ?_
      refine r_iadd S dX2_readSign_22 ?_
      refine r_putI S fc2 (by decide) 2 rfl rfl (by decide +kernel) q_88 dX2_readSign_23 ?_
      refine r_goto S 37 dX2_readSign_26 (by decide) ?_
      obtain ⟨rfl, rfl⟩ := si2 hE
      exact hret _ _ dX2_readSign_37
set_option maxRecDepth 100000 in
set_option maxHeartbeats 4000000 in
theorem c_GR_laySides (l : Launch) (Y : Env1) (hG : gY Y = gC) (o : Nat) (ho : kC o = 0) (a1 : Int32) (a2 : Int32) (M : Mem) (r : Unit) (M1 : Mem) (hE : GR_laySides o a1 a2 M = some (r, M1)) : CnV l Y yX0_laySides cX0_laySides 5 1 [.ref (hY Y + o), .int a1, .int a2] M M1 := by
  refine met_V (own := RX0) (by decide +kernel) rfl hG (Nat.le_of_ble_eq_true rfl) (fun X S hY1 hl1 hret => ?_)
  subst hY1
  subst hl1
  show AW X 0 [(0, .ref (hY X.2.1.2 + o)), (1, .int a1), (2, .int a2)] [] M
  have J115 : ∀ (t0 : Int32) (t1 : Int32) (t2 : Nat) (kt2 : kC t2 = 3) (M : Mem), GR_laySides_J115 t0 t1 t2 M = some (r, M1) → AW X 115 [] [.int t0, .int t1, .ref (hY X.2.1.2 + t2)] M := by
    intro t0 t1 t2 kt2 M hE
    unfold GR_laySides_J115 at hE
    refine rc_V S (rn_V S fc3 kt2 (c_NR_put _ _ (gYX S) t2 kt2 t1 t0 M _ rfl) wdX3_put q_105 ⟨Nat.le_of_ble_eq_true rfl, Nat.le_of_ble_eq_true rfl⟩ rfl (Nat.le_of_ble_eq_true rfl) dX0_laySides_115) ?_
    obtain ⟨rfl, rfl⟩ := si2 hE
    exact hret _ _ dX0_laySides_118
  have J84 : ∀ (v0 : Nat) (k0 : kC v0 = 0) (v1 : Int32) (v3 : Int32) (v4 : Int32) (t0 : Int32) (t1 : Int32) (t2 : Nat) (kt2 : kC t2 = 3) (M : Mem), GR_laySides_J84 v0 v1 v3 v4 t0 t1 t2 M = some (r, M1) → AW X 84 [(0, .ref (hY X.2.1.2 + v0)), (1, .int v1), (3, .int v3), (4, .int v4)] [.int t0, .int t1, .ref (hY X.2.1.2 + t2)] M := by
    intro v0 k0 v1 v3 v4 t0 t1 t2 kt2 M hE
    unfold GR_laySides_J84 at hE
    refine rc_V S (rn_V S fc3 kt2 (c_NR_put _ _ (gYX S) t2 kt2 t1 t0 M _ rfl) wdX3_put q_105 ⟨Nat.le_of_ble_eq_true rfl, Nat.le_of_ble_eq_true rfl⟩ rfl (Nat.le_of_ble_eq_true rfl) dX0_laySides_84) ?_
    refine r_aload_n S dX0_laySides_87 0 rfl ?_
    refine r_getRK S fc0 k0 5 (v0 + 3) rfl rfl q_104 dX0_laySides_88 ?_
    refine r_iload S dX0_laySides_91 3 rfl ?_
    refine r_iconst S (3 : Int32) dX0_laySides_93 rfl ?_
    refine r_iadd S dX0_laySides_94 ?_
    refine r_iload_n S dX0_laySides_95 1 rfl ?_
    refine r_aload_n S dX0_laySides_96 0 rfl ?_
    refine r_getI S fc0 k0 1 rfl q_110 dX0_laySides_97 ?_
    refine r_iconst S (1 : Int32) dX0_laySides_100 rfl ?_
    refine r_isub S dX0_laySides_101 ?_
    refine r_icmp_ge S 114 dX0_laySides_102 (by decide) (fun c => ?_) (fun c => ?_)
    · try simp only [if_pos c] at hE
      refine r_iconst S (-1 : Int32) dX0_laySides_114 rfl ?_
      exact r_sub [] rfl (J115 (-1 : Int32) (v4 + (3 : Int32)) (v0 + 3) (kk0_3 k0) (fPutI t2 t1 t0 M) hE)
    · try simp only [if_neg c] at hE
      refine r_iload_n S dX0_laySides_105 2 rfl ?_
      refine r_aload_n S dX0_laySides_106 0 rfl ?_
      refine r_getI S fc0 k0 0 rfl q_103 dX0_laySides_107 ?_
      refine r_iadd S dX0_laySides_110 ?_
      refine r_goto S 115 dX0_laySides_111 (by decide) ?_
      exact r_sub [] rfl (J115 (v3 + (gI (fPutI t2 t1 t0 M) v0 0)) (v4 + (3 : Int32)) (v0 + 3) (kk0_3 k0) (fPutI t2 t1 t0 M) hE)
  have J56 : ∀ (v0 : Nat) (k0 : kC v0 = 0) (v1 : Int32) (v2 : Int32) (v3 : Int32) (v4 : Int32) (t0 : Int32) (t1 : Int32) (t2 : Nat) (kt2 : kC t2 = 3) (M : Mem), GR_laySides_J56 v0 v1 v2 v3 v4 t0 t1 t2 M = some (r, M1) → AW X 56 [(0, .ref (hY X.2.1.2 + v0)), (1, .int v1), (2, .int v2), (3, .int v3), (4, .int v4)] [.int t0, .int t1, .ref (hY X.2.1.2 + t2)] M := by
    intro v0 k0 v1 v2 v3 v4 t0 t1 t2 kt2 M hE
    unfold GR_laySides_J56 at hE
    refine rc_V S (rn_V S fc3 kt2 (c_NR_put _ _ (gYX S) t2 kt2 t1 t0 M _ rfl) wdX3_put q_105 ⟨Nat.le_of_ble_eq_true rfl, Nat.le_of_ble_eq_true rfl⟩ rfl (Nat.le_of_ble_eq_true rfl) dX0_laySides_56) ?_
    refine r_aload_n S dX0_laySides_59 0 rfl ?_
    refine r_getRK S fc0 k0 5 (v0 + 3) rfl rfl q_104 dX0_laySides_60 ?_
    refine r_iload S dX0_laySides_63 4 rfl ?_
    refine r_iconst S (2 : Int32) dX0_laySides_65 rfl ?_
    refine r_iadd S dX0_laySides_66 ?_
    refine r_iload_n S dX0_laySides_67 2 rfl ?_
    refine r_aload_n S dX0_laySides_68 0 rfl ?_
    refine r_getI S fc0 k0 0 rfl q_103 dX0_laySides_69 ?_
    refine r_iconst S (1 : Int32) dX0_laySides_72 rfl ?_
    refine r_isub S dX0_laySides_73 ?_
    refine r_icmp_ge S 83 dX0_laySides_74 (by decide) (fun c => ?_) (fun c => ?_)
    · try simp only [if_pos c] at hE
      refine r_iconst S (-1 : Int32) dX0_laySides_83 rfl ?_
      exact r_sub [0, 1, 3, 4] rfl (J84 v0 k0 v1 v3 v4 (-1 : Int32) (v4 + (2 : Int32)) (v0 + 3) (kk0_3 k0) (fPutI t2 t1 t0 M) hE)
    · try simp only [if_neg c] at hE
      refine r_iload_n S dX0_laySides_77 3 rfl ?_
      refine r_iconst S (1 : Int32) dX0_laySides_78 rfl ?_
      refine r_iadd S dX0_laySides_79 ?_
      refine r_goto S 84 dX0_laySides_80 (by decide) ?_
      exact r_sub [0, 1, 3, 4] rfl (J84 v0 k0 v1 v3 v4 (v3 + (1 : Int32)) (v4 + (2 : Int32)) (v0 + 3) (kk0_3 k0) (fPutI t2 t1 t0 M) hE)
  have J34 : ∀ (v0 : Nat) (k0 : kC v0 = 0) (v1 : Int32) (v2 : Int32) (v3 : Int32) (v4 : Int32) (t0 : Int32) (t1 : Int32) (t2 : Nat) (kt2 : kC t2 = 3) (M : Mem), GR_laySides_J34 v0 v1 v2 v3 v4 t0 t1 t2 M = some (r, M1) → AW X 34 [(0, .ref (hY X.2.1.2 + v0)), (1, .int v1), (2, .int v2), (3, .int v3), (4, .int v4)] [.int t0, .int t1, .ref (hY X.2.1.2 + t2)] M := by
    intro v0 k0 v1 v2 v3 v4 t0 t1 t2 kt2 M hE
    unfold GR_laySides_J34 at hE
    refine rc_V S (rn_V S fc3 kt2 (c_NR_put _ _ (gYX S) t2 kt2 t1 t0 M _ rfl) wdX3_put q_105 ⟨Nat.le_of_ble_eq_true rfl, Nat.le_of_ble_eq_true rfl⟩ rfl (Nat.le_of_ble_eq_true rfl) dX0_laySides_34) ?_
    refine r_aload_n S dX0_laySides_37 0 rfl ?_
    refine r_getRK S fc0 k0 5 (v0 + 3) rfl rfl q_104 dX0_laySides_38 ?_
    refine r_iload S dX0_laySides_41 4 rfl ?_
    refine r_iconst S (1 : Int32) dX0_laySides_43 rfl ?_
    refine r_iadd S dX0_laySides_44 ?_
    refine r_iload_n S dX0_laySides_45 2 rfl ?_
    refine r_if_le S 55 dX0_laySides_46 (by decide) (fun c => ?_) (fun c => ?_)
    · try simp only [if_pos c] at hE
      refine r_iconst S (-1 : Int32) dX0_laySides_55 rfl ?_
      exact r_sub [0, 1, 2, 3, 4] rfl (J56 v0 k0 v1 v2 v3 v4 (-1 : Int32) (v4 + (1 : Int32)) (v0 + 3) (kk0_3 k0) (fPutI t2 t1 t0 M) hE)
    · try simp only [if_neg c] at hE
      refine r_iload_n S dX0_laySides_49 3 rfl ?_
      refine r_iconst S (1 : Int32) dX0_laySides_50 rfl ?_
      refine r_isub S dX0_laySides_51 ?_
      refine r_goto S 56 dX0_laySides_52 (by decide) ?_
      exact r_sub [0, 1, 2, 3, 4] rfl (J56 v0 k0 v1 v2 v3 v4 (v3 - (1 : Int32)) (v4 + (1 : Int32)) (v0 + 3) (kk0_3 k0) (fPutI t2 t1 t0 M) hE)
  unfold GR_laySides at hE
  refine r_aload_n S dX0_laySides_0 0 rfl ?_
  refine r_getI S fc0 ho 0 rfl q_103 dX0_laySides_1 ?_
  refine r_iload_n S dX0_laySides_4 1 rfl ?_
  refine r_imul S dX0_laySides_5 ?_
  refine r_iload_n S dX0_laySides_6 2 rfl ?_
  refine r_iadd S dX0_laySides_7 ?_
  refine r_istore_n (lv2 := [(3, .int (((gI M o 0) * a1) + a2)), (0, .ref (hY X.2.1.2 + o)), (1, .int a1), (2, .int a2)]) S dX0_laySides_8 (by decide) rfl ?_
  refine r_iconst S (4 : Int32) dX0_laySides_9 rfl ?_
  refine r_iload_n S dX0_laySides_10 0 rfl ?_
  refine r_imul S dX0_laySides_11 ?_
  refine r_istore (lv2 := [(4, .int ((4 : Int32) * (((gI M o 0) * a1) + a2))), (3, .int (((gI M o 0) * a1) + a2)), (0, .ref (hY X.2.1.2 + o)), (1, .int a1), (2, .int a2)]) S dX0_laySides_12 (by decide) rfl ?_
  refine r_aload_n S dX0_laySides_14 2 rfl ?_
  refine r_getRK S fc0 ho 5 (o + 3) rfl rfl q_104 dX0_laySides_15 ?_
  refine r_iload S dX0_laySides_18 0 rfl ?_
  refine r_iload_n S dX0_laySides_20 3 rfl ?_
  refine r_if_le S 33 dX0_laySides_21 (by decide) (fun c => ?_) (fun c => ?_)
  · try simp only [if_pos c] at hE
    refine r_iconst S (-1 : Int32) dX0_laySides_33 rfl ?_
    exact r_sub [2, 3, 4, 1, 0] rfl (J34 o ho a1 a2 (((gI M o 0) * a1) + a2) ((4 : Int32) * (((gI M o 0) * a1) + a2)) (-1 : Int32) ((4 : Int32) * (((gI M o 0) * a1) + a2)) (o + 3) (kk0_3 ho) M hE)
  · try simp only [if_neg c] at hE
    refine r_iload_n S dX0_laySides_24 1 rfl ?_
    refine r_aload_n S dX0_laySides_25 2 rfl ?_
    refine r_getI S fc0 ho 0 rfl q_103 dX0_laySides_26 ?_
    refine r_isub S dX0_laySides_29 ?_
    refine r_goto S 34 dX0_laySides_30 (by decide) ?_
    exact r_sub [2, 3, 4, 1, 0] rfl (J34 o ho a1 a2 (((gI M o 0) * a1) + a2) ((4 : Int32) * (((gI M o 0) * a1) + a2)) ((((gI M o 0) * a1) + a2) - (gI M o 0)) ((4 : Int32) * (((gI M o 0) * a1) + a2)) (o + 3) (kk0_3 ho) M hE)
set_option maxRecDepth 100000 in
set_option maxHeartbeats 4000000 in
theorem c_GR_lay (l : Launch) (Y : Env1) (hG : gY Y = gC) (o : Nat) (ho : kC o = 0) (a1 : Int32) (a2 : Int32) (M : Mem) (r : Unit) (M1 : Mem) (hE : GR_lay o a1 a2 M = some (r, M1)) : CnV l Y yX0_lay cX0_lay 5 2 [.ref (hY Y + o), .int a1, .int a2] M M1 := by
  refine met_V (own := RX0) (by decide +kernel) rfl hG (Nat.le_of_ble_eq_true rfl) (fun X S hY1 hl1 hret => ?_)
  subst hY1
  subst hl1
  show AW X 0 [(0, .ref (hY X.2.1.2 + o)), (1, .int a1), (2, .int a2)] [] M
  have L59 : ∀ (v0 : Nat) (k0 : kC v0 = 0) (v3 : Int32) (e : (Unit)) (M2 : Mem), AW X 81 [(0, .ref (hY X.2.1.2 + v0)), (3, .int v3)] [] M2 → ∀ (n : Nat) (s : Int32) (M : Mem), lpM (fun s M => GR_lay_L59 v0 v3 s M) n s M = some (e, M2) → AW X 59 [(0, .ref (hY X.2.1.2 + v0)), (3, .int v3), (4, .int s)] [] M := by
    intro v0 k0 v3 e M2 hX
    refine lpM_ind (P := fun (s : Int32) (M : Mem) => AW X 59 [(0, .ref (hY X.2.1.2 + v0)), (3, .int v3), (4, .int s)] [] M) ?_
    rintro v4 M d M3 hE hC hD
    replace hE : GR_lay_L59 v0 v3 v4 M = some (d, M3) := hE
    show AW X 59 [(0, .ref (hY X.2.1.2 + v0)), (3, .int v3), (4, .int v4)] [] M
    unfold GR_lay_L59 at hE
    refine r_iload S dX0_lay_59 2 rfl ?_
    refine r_aload_n S dX0_lay_61 0 rfl ?_
    refine r_getI S fc0 k0 0 rfl q_103 dX0_lay_62 ?_
    refine r_icmp_ge S 81 dX0_lay_65 (by decide) (fun c => ?_) (fun c => ?_)
    · rw [if_pos c] at hE
      obtain ⟨rfl, rfl⟩ := si2 hE
      rcases hD with ⟨h1, h2⟩ | ⟨_, h1⟩
      · obtain rfl := sir h1
        subst h2
        exact r_sub [0, 1] rfl hX
      · exact (sil h1).elim
    · rw [if_neg c] at hE
      refine r_aload_n S dX0_lay_68 0 rfl ?_
      refine r_iload_n S dX0_lay_69 1 rfl ?_
      refine r_iload S dX0_lay_70 2 rfl ?_
      obtain ⟨x1, M2, h9, hE⟩ := b2_some hE
      refine rc_V S (rn_V S fc0 k0 (c_GR_laySides _ _ (gYX S) v0 k0 v3 v4 M _ _ h9) wdX0_laySides q_118 ⟨Nat.le_of_ble_eq_true rfl, Nat.le_of_ble_eq_true rfl⟩ rfl (Nat.le_of_ble_eq_true rfl) dX0_lay_72) ?_
      refine r_iinc (lv2 := [(4, .int (v4 + (1 : Int32))), (0, .ref (hY X.2.1.2 + v0)), (3, .int v3)]) S dX0_lay_75 (j := 2) rfl (by decide) rfl ?_
      refine r_goto S 59 dX0_lay_78 (by decide) ?_
      obtain ⟨rfl, rfl⟩ := si2 hE
      exact r_sub (lv2 := [(0, .ref (hY X.2.1.2 + v0)), (3, .int v3), (4, .int (v4 + (1 : Int32)))]) [1, 2, 0] rfl (hC (v4 + (1 : Int32)) rfl)
  have L48 : ∀ (v0 : Nat) (k0 : kC v0 = 0) (e : (Unit)) (M2 : Mem), AW X 87 [] [] M2 → ∀ (n : Nat) (s : Int32) (M : Mem), lpM (fun s M => GR_lay_L48 v0 s M) n s M = some (e, M2) → AW X 48 [(0, .ref (hY X.2.1.2 + v0)), (3, .int s)] [] M := by
    intro v0 k0 e M2 hX
    refine lpM_ind (P := fun (s : Int32) (M : Mem) => AW X 48 [(0, .ref (hY X.2.1.2 + v0)), (3, .int s)] [] M) ?_
    rintro v3 M d M3 hE hC hD
    replace hE : GR_lay_L48 v0 v3 M = some (d, M3) := hE
    show AW X 48 [(0, .ref (hY X.2.1.2 + v0)), (3, .int v3)] [] M
    unfold GR_lay_L48 at hE
    refine r_iload_n S dX0_lay_48 1 rfl ?_
    refine r_aload_n S dX0_lay_49 0 rfl ?_
    refine r_getI S fc0 k0 1 rfl q_110 dX0_lay_50 ?_
    refine r_icmp_ge S 87 dX0_lay_53 (by decide) (fun c => ?_) (fun c => ?_)
    · rw [if_pos c] at hE
      obtain ⟨rfl, rfl⟩ := si2 hE
      rcases hD with ⟨h1, h2⟩ | ⟨_, h1⟩
      · obtain rfl := sir h1
        subst h2
        exact r_sub [] rfl hX
      · exact (sil h1).elim
    · rw [if_neg c] at hE
      refine r_iconst S (0 : Int32) dX0_lay_56 rfl ?_
      refine r_istore (lv2 := [(4, .int (0 : Int32)), (0, .ref (hY X.2.1.2 + v0)), (3, .int v3)]) S dX0_lay_57 (by decide) rfl ?_
      obtain ⟨e1, M2, h9, hE⟩ := b2_some hE
      refine r_sub [1, 2, 0] rfl (L59 v0 k0 v3  e1 M2 ?_ _ _ M h9)
      refine r_iinc (lv2 := [(3, .int (v3 + (1 : Int32))), (0, .ref (hY X.2.1.2 + v0))]) S dX0_lay_81 (j := 1) rfl (by decide) rfl ?_
      refine r_goto S 48 dX0_lay_84 (by decide) ?_
      obtain ⟨rfl, rfl⟩ := si2 hE
      exact r_sub (lv2 := [(0, .ref (hY X.2.1.2 + v0)), (3, .int (v3 + (1 : Int32)))]) [1, 0] rfl (hC (v3 + (1 : Int32)) rfl)
  unfold GR_lay at hE
  refine r_aload_n S dX0_lay_0 0 rfl ?_
  refine r_iload_n S dX0_lay_1 1 rfl ?_
  refine r_putI S fc0 ho 0 rfl rfl (by decide +kernel) q_103 dX0_lay_2 ?_
  refine r_aload_n S dX0_lay_5 0 rfl ?_
  refine r_iload_n S dX0_lay_6 2 rfl ?_
  refine r_putI S fc0 ho 1 rfl rfl (by decide +kernel) q_110 dX0_lay_7 ?_
  refine r_aload_n S dX0_lay_10 0 rfl ?_
  refine r_iload_n S dX0_lay_11 1 rfl ?_
  refine r_iload_n S dX0_lay_12 2 rfl ?_
  refine r_imul S dX0_lay_13 ?_
  refine r_putI S fc0 ho 2 rfl rfl (by decide +kernel) q_46 dX0_lay_14 ?_
  refine r_aload_n S dX0_lay_17 0 rfl ?_
  refine r_lconst S (0 : Int64) dX0_lay_18 rfl ?_
  refine r_putL S fc0 ho 3 rfl rfl (by decide +kernel) q_111 dX0_lay_19 ?_
  refine r_aload_n S dX0_lay_22 0 rfl ?_
  refine r_getRK S fc0 ho 4 (o + 1) rfl rfl q_48 dX0_lay_23 ?_
  refine r_iconst S (0 : Int32) dX0_lay_26 rfl ?_
  refine rc_V S (rn_V S fc3 (kk0_1 ho) (c_NR_fill _ _ (gYX S) (o + 1) (kk0_1 ho) (0 : Int32) (sL (sI (sI (sI M o 0 a1) o 1 a2) o 2 (a1 * a2)) o 3 (0 : Int64)) _ rfl) wdX3_fill q_112 ⟨Nat.le_of_ble_eq_true rfl, Nat.le_of_ble_eq_true rfl⟩ rfl (Nat.le_of_ble_eq_true rfl) dX0_lay_27) ?_
  refine r_aload_n S dX0_lay_30 0 rfl ?_
  refine r_getRK S fc0 ho 5 (o + 3) rfl rfl q_104 dX0_lay_31 ?_
  refine r_iconst S (-1 : Int32) dX0_lay_34 rfl ?_
  refine rc_V S (rn_V S fc3 (kk0_3 ho) (c_NR_fill _ _ (gYX S) (o + 3) (kk0_3 ho) (-1 : Int32) (fFillI (o + 1) (0 : Int32) (sL (sI (sI (sI M o 0 a1) o 1 a2) o 2 (a1 * a2)) o 3 (0 : Int64))) _ rfl) wdX3_fill q_112 ⟨Nat.le_of_ble_eq_true rfl, Nat.le_of_ble_eq_true rfl⟩ rfl (Nat.le_of_ble_eq_true rfl) dX0_lay_35) ?_
  refine r_aload_n S dX0_lay_38 0 rfl ?_
  refine r_getRK S fc0 ho 6 (o + 5) rfl rfl q_117 dX0_lay_39 ?_
  refine r_iconst S (-1 : Int32) dX0_lay_42 rfl ?_
  refine rc_V S (rn_V S fc3 (kk0_5 ho) (c_NR_fill _ _ (gYX S) (o + 5) (kk0_5 ho) (-1 : Int32) (fFillI (o + 3) (-1 : Int32) (fFillI (o + 1) (0 : Int32) (sL (sI (sI (sI M o 0 a1) o 1 a2) o 2 (a1 * a2)) o 3 (0 : Int64)))) _ rfl) wdX3_fill q_112 ⟨Nat.le_of_ble_eq_true rfl, Nat.le_of_ble_eq_true rfl⟩ rfl (Nat.le_of_ble_eq_true rfl) dX0_lay_43) ?_
  refine r_iconst S (0 : Int32) dX0_lay_46 rfl ?_
  refine r_istore_n (lv2 := [(3, .int (0 : Int32)), (0, .ref (hY X.2.1.2 + o)), (1, .int a1), (2, .int a2)]) S dX0_lay_47 (by decide) rfl ?_
  obtain ⟨e1, M2, h9, hE⟩ := b2_some hE
  refine r_sub [1, 0] rfl (L48 o ho  e1 M2 ?_ _ _ (fFillI (o + 5) (-1 : Int32) (fFillI (o + 3) (-1 : Int32) (fFillI (o + 1) (0 : Int32) (sL (sI (sI (sI M o 0 a1) o 1 a2) o 2 (a1 * a2)) o 3 (0 : Int64))))) h9)
  obtain ⟨rfl, rfl⟩ := si2 hE
  exact hret _ _ dX0_lay_87
