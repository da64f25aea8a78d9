set_option maxRecDepth 100000 in
set_option maxHeartbeats 4000000 in
theorem c_LT_isAtDigit (l : Launch) (Y : Env1) (hG : gY Y = gC) (M : Mem) (r : Int32) (hE : LT_isAtDigit M = r) : CnI l Y yX2_isAtDigit cX2_isAtDigit 1 .boolean 2 [.ref (hY Y + 94)] M r M := by
  refine met_Z (own := RX2) (by decide +kernel) rfl hG (Nat.le_of_ble_eq_true rfl) (fun X S hY1 hl1 hret => ?_)
  subst hY1
  subst hl1
  show AW X 0 [(0, .ref (hY X.2.1.2 + 94))] [] M
  unfold LT_isAtDigit at hE
  refine r_aload_n S dX2_isAtDigit_0 0 rfl ?_
  refine rc_I S (rn_V S fc2 (by decide) (c_LT_next _ _ (gYX S)  M _ rfl) wdX2_next q_93 ⟨Nat.le_of_ble_eq_true rfl, Nat.le_of_ble_eq_true rfl⟩ rfl (Nat.le_of_ble_eq_true rfl) dX2_isAtDigit_1) ?_
  refine r_bipush S (48 : Int32) dX2_isAtDigit_4 rfl ?_
  refine r_icmp_lt S 22 dX2_isAtDigit_6 (by decide) (fun c => ?_) (fun c => ?_)
  · try simp only [if_pos c] at hE
    refine r_iconst S (0 : Int32) dX2_isAtDigit_22 rfl ?_
    subst hE
    exact hret _ _ _ dX2_isAtDigit_23 (by decide)
  · try simp only [if_neg c] at hE
    refine r_aload_n S dX2_isAtDigit_9 0 rfl ?_
    refine rc_I S (rn_V S fc2 (by decide) (c_LT_next _ _ (gYX S)  M _ rfl) wdX2_next q_93 ⟨Nat.le_of_ble_eq_true rfl, Nat.le_of_ble_eq_true rfl⟩ rfl (Nat.le_of_ble_eq_true rfl) dX2_isAtDigit_10) ?_
    refine r_bipush S (57 : Int32) dX2_isAtDigit_13 rfl ?_
    refine r_icmp_gt S 22 dX2_isAtDigit_15 (by decide) (fun c => ?_) (fun c => ?_)
    · try simp only [if_pos c] at hE
      refine r_iconst S (0 : Int32) dX2_isAtDigit_22 rfl ?_
      subst hE
      exact hret _ _ _ dX2_isAtDigit_23 (by decide)
    · try simp only [if_neg c] at hE
      refine r_iconst S (1 : Int32) dX2_isAtDigit_18 rfl ?_
      refine r_goto S 23 dX2_isAtDigit_19 (by decide) ?_
      subst hE
      exact hret _ _ _ dX2_isAtDigit_23 (by decide)
set_option maxRecDepth 100000 in
set_option maxHeartbeats 4000000 in
theorem c_LT_readNumber (l : Launch) (Y : Env1) (hG : gY Y = gC) (M : Mem) (r : Int32) (M1 : Mem) (hE : LT_readNumber M = some (r, M1)) : CnI l Y yX2_readNumber cX2_readNumber 3 .int 3 [.ref (hY Y + 94)] M r M1 := by
  refine met_I (own := RX2) (by decide +kernel) rfl hG (Nat.le_of_ble_eq_true rfl) (fun X S hY1 hl1 hret => ?_)
  subst hY1
  subst hl1
  show AW X 0 [(0, .ref (hY X.2.1.2 + 94))] [] M
  have L19 : ∀ (e : (Int32)) (M2 : Mem), AW X 68 [(0, .ref (hY X.2.1.2 + 94)), (1, .int e)] [] M2 → ∀ (n : Nat) (s : Int32 × Int32) (M : Mem), lpM (fun s M => LT_readNumber_L19 s.1 s.2 M) n s M = some (e, M2) → AW X 19 [(0, .ref (hY X.2.1.2 + 94)), (1, .int s.1), (2, .int s.2)] [] M := by
    intro e M2 hX
    refine lpM_ind (P := fun (s : Int32 × Int32) (M : Mem) => AW X 19 [(0, .ref (hY X.2.1.2 + 94)), (1, .int s.1), (2, .int s.2)] [] M) ?_
    rintro ⟨v1, v2⟩ M d M3 hE hC hD
    replace hE : LT_readNumber_L19 v1 v2 M = some (d, M3) := hE
    show AW X 19 [(0, .ref (hY X.2.1.2 + 94)), (1, .int v1), (2, .int v2)] [] M
    unfold LT_readNumber_L19 at hE
    refine r_iload_n S dX2_readNumber_19 2 rfl ?_
    refine r_iconst S (2 : Int32) dX2_readNumber_20 rfl ?_
    refine r_icmp_ge S 68 dX2_readNumber_21 (by decide) (fun c => ?_) (fun c => ?_)
    · rw [if_pos c] at hE
      obtain ⟨rfl, rfl⟩ := si2 hE
      rcases hD with ⟨h1, h2⟩ | ⟨_, h1⟩
      · obtain rfl := sir h1
        subst h2
        exact r_sub [0, 1] rfl hX
      · exact (sil h1).elim
    · rw [if_neg c] at hE
      refine r_aload_n S dX2_readNumber_24 0 rfl ?_
      refine r_getI S fc2 (by decide) 3 rfl q_92 dX2_readNumber_25 ?_
      refine r_iconst S (-1 : Int32) dX2_readNumber_28 rfl ?_
      refine r_icmp_ne S 68 dX2_readNumber_29 (by decide) (fun c => ?_) (fun c => ?_)
      · rw [if_pos c] at hE
        obtain ⟨rfl, rfl⟩ := si2 hE
        rcases hD with ⟨h1, h2⟩ | ⟨_, h1⟩
        · obtain rfl := sir h1
          subst h2
          exact r_sub [0, 1] rfl hX
        · exact (sil h1).elim
      · rw [if_neg (not_not_intro c)] at hE
        refine r_aload_n S dX2_readNumber_32 0 rfl ?_
        refine rc_I S (rn_V S fc2 (by decide) (c_LT_isAtDigit _ _ (gYX S)  M _ rfl) wdX2_isAtDigit q_123 ⟨Nat.le_of_ble_eq_true rfl, Nat.le_of_ble_eq_true rfl⟩ rfl (Nat.le_of_ble_eq_true rfl) dX2_readNumber_33) ?_
        refine r_if_eq S 68 dX2_readNumber_36 (by decide) (fun c => ?_) (fun c => ?_)
        · rw [if_pos c] at hE
          obtain ⟨rfl, rfl⟩ := si2 hE
          rcases hD with ⟨h1, h2⟩ | ⟨_, h1⟩
          · obtain rfl := sir h1
            subst h2
            exact r_sub [0, 1] rfl hX
          · exact (sil h1).elim
        · rw [if_neg c] at hE
          refine r_bipush S (10 : Int32) dX2_readNumber_39 rfl ?_
          refine r_iload_n S dX2_readNumber_41 1 rfl ?_
          refine r_imul S dX2_readNumber_42 ?_
          refine r_aload_n S dX2_readNumber_43 0 rfl ?_
          refine rc_I S (rn_V S fc2 (by decide) (c_LT_next _ _ (gYX S)  M _ rfl) wdX2_next q_93 ⟨Nat.le_of_ble_eq_true rfl, Nat.le_of_ble_eq_true rfl⟩ rfl (Nat.le_of_ble_eq_true rfl) dX2_readNumber_44) ?_
          refine r_iadd S dX2_readNumber_47 ?_
          refine r_bipush S (48 : Int32) dX2_readNumber_48 rfl ?_
          refine r_isub S dX2_readNumber_50 ?_
          refine r_istore_n (lv2 := [(1, .int ((((10 : Int32) * v1) + (LT_next M)) - (48 : Int32))), (0, .ref (hY X.2.1.2 + 94)), (2, .int v2)]) S dX2_readNumber_51 (by decide) rfl ?_
          refine r_aload_n S dX2_readNumber_52 1 rfl ?_
          refine r_dup S dX2_readNumber_53 rfl ?_
          refine r_getI S fc2 (by decide) 2 rfl q_88 dX2_readNumber_54 ?_
          refine r_iconst S (1 : Int32) dX2_readNumber_57 rfl ?_
          refine r_iadd S dX2_readNumber_58 ?_
          refine r_putI S fc2 (by decide) 2 rfl rfl (by decide +kernel) q_88 dX2_readNumber_59 ?_
          refine r_iinc (lv2 := [(2, .int (v2 + (1 : Int32))), (1, .int ((((10 : Int32) * v1) + (LT_next M)) - (48 : Int32))), (0, .ref (hY X.2.1.2 + 94))]) S dX2_readNumber_62 (j := 2) rfl (by decide) rfl ?_
          refine r_goto S 19 dX2_readNumber_65 (by decide) ?_
          obtain ⟨rfl, rfl⟩ := si2 hE
          exact r_sub (lv2 := [(0, .ref (hY X.2.1.2 + 94)), (1, .int ((((10 : Int32) * v1) + (LT_next M)) - (48 : Int32))), (2, .int (v2 + (1 : Int32)))]) [2, 1, 0] rfl (hC (((((10 : Int32) * v1) + (LT_next M)) - (48 : Int32)), (v2 + (1 : Int32))) rfl)
  have J17 : ∀ (v1 : Int32) (M : Mem), LT_readNumber_J17 v1 M = some (r, M1) → AW X 17 [(0, .ref (hY X.2.1.2 + 94)), (1, .int v1)] [] M := by
    intro v1 M hE
    unfold LT_readNumber_J17 at hE
    refine r_iconst S (0 : Int32) dX2_readNumber_17 rfl ?_
    refine r_istore_n (lv2 := [(2, .int (0 : Int32)), (0, .ref (hY X.2.1.2 + 94)), (1, .int v1)]) S dX2_readNumber_18 (by decide) rfl ?_
    obtain ⟨e1, M2, h9, hE⟩ := b2_some hE
    refine r_sub [1, 2, 0] rfl (L19   e1 M2 ?_ _ _ M h9)
    refine r_aload_n S dX2_readNumber_68 0 rfl ?_
    refine rc_I S (rn_V S fc2 (by decide) (c_LT_isAtDigit _ _ (gYX S)  M2 _ rfl) wdX2_isAtDigit q_123 ⟨Nat.le_of_ble_eq_true rfl, Nat.le_of_ble_eq_true rfl⟩ rfl (Nat.le_of_ble_eq_true rfl) dX2_readNumber_69) ?_
    refine r_if_eq S 83 dX2_readNumber_72 (by decide) (fun c => ?_) (fun c => ?_)
    · rw [if_pos c] at hE
      refine r_iload_n S dX2_readNumber_83 1 rfl ?_
      obtain ⟨rfl, rfl⟩ := si2 hE
      exact hret _ _ dX2_readNumber_84
    · rw [if_neg c] at hE
      refine r_aload_n S dX2_readNumber_75 0 rfl ?_
      refine r_aload_n S dX2_readNumber_76 0 rfl ?_
      refine r_getI S fc2 (by decide) 2 rfl q_88 dX2_readNumber_77 ?_
      obtain ⟨x3, M4, h9, hE⟩ := b2_some hE
      refine rc_V S (rn_V S fc2 (by decide) (c_LT_fail _ _ (gYX S) (gI M2 94 2) M2 _ _ h9) wdX2_fail q_98 ⟨Nat.le_of_ble_eq_true rfl, Nat.le_of_ble_eq_true rfl⟩ rfl (Nat.le_of_ble_eq_true rfl) dX2_readNumber_80) ?_
      refine r_iload_n S dX2_readNumber_83 1 rfl ?_
      obtain ⟨rfl, rfl⟩ := si2 hE
      exact hret _ _ dX2_readNumber_84
  unfold LT_readNumber at hE
  refine r_iconst S (0 : Int32) dX2_readNumber_0 rfl ?_
  refine r_istore_n (lv2 := [(1, .int (0 : Int32)), (0, .ref (hY X.2.1.2 + 94))]) S dX2_readNumber_1 (by decide) rfl ?_
  refine r_aload_n S dX2_readNumber_2 1 rfl ?_
  refine rc_I S (rn_V S fc2 (by decide) (c_LT_isAtDigit _ _ (gYX S)  M _ rfl) wdX2_isAtDigit q_123 ⟨Nat.le_of_ble_eq_true rfl, Nat.le_of_ble_eq_true rfl⟩ rfl (Nat.le_of_ble_eq_true rfl) dX2_readNumber_3) ?_
  refine r_if_ne S 17 dX2_readNumber_6 (by decide) (fun c => ?_) (fun c => ?_)
  · rw [if_pos c] at hE
    exact r_sub [1, 0] rfl (J17 (0 : Int32) M hE)
  · rw [if_neg (not_not_intro c)] at hE
    refine r_aload_n S dX2_readNumber_9 1 rfl ?_
    refine r_aload_n S dX2_readNumber_10 1 rfl ?_
    refine r_getI S fc2 (by decide) 2 rfl q_88 dX2_readNumber_11 ?_
    obtain ⟨x1, M2, h9, hE⟩ := b2_some hE
    refine rc_V S (rn_V S fc2 (by decide) (c_LT_fail _ _ (gYX S) (gI M 94 2) M _ _ h9) wdX2_fail q_98 ⟨Nat.le_of_ble_eq_true rfl, Nat.le_of_ble_eq_true rfl⟩ rfl (Nat.le_of_ble_eq_true rfl) dX2_readNumber_14) ?_
    exact r_sub [1, 0] rfl (J17 (0 : Int32) M2 hE)
set_option maxRecDepth 100000 in
set_option maxHeartbeats 4000000 in
theorem c_LT_readHeights (l : Launch) (Y : Env1) (hG : gY Y = gC) (a1 : Nat) (k1 : kC a1 = 0) (M : Mem) (r : Unit) (M1 : Mem) (hE : LT_readHeights a1 M = some (r, M1)) : CnV l Y yX2_readHeights cX2_readHeights 3 4 [.ref (hY Y + 94), .ref (hY Y + a1)] M M1 := by
  refine met_V (own := RX2) (by decide +kernel) rfl hG (Nat.le_of_ble_eq_true rfl) (fun X S hY1 hl1 hret => ?_)
  subst hY1
  subst hl1
  show AW X 0 [(0, .ref (hY X.2.1.2 + 94)), (1, .ref (hY X.2.1.2 + a1))] [] M
  have L2 : ∀ (v1 : Nat) (k1 : kC v1 = 0) (e : (Unit)) (M2 : Mem), AW X 38 [] [] M2 → ∀ (n : Nat) (s : Int32) (M : Mem), lpM (fun s M => LT_readHeights_L2 v1 s M) n s M = some (e, M2) → AW X 2 [(0, .ref (hY X.2.1.2 + 94)), (1, .ref (hY X.2.1.2 + v1)), (2, .int s)] [] M := by
    intro v1 k1 e M2 hX
    refine lpM_ind (P := fun (s : Int32) (M : Mem) => AW X 2 [(0, .ref (hY X.2.1.2 + 94)), (1, .ref (hY X.2.1.2 + v1)), (2, .int s)] [] M) ?_
    rintro v2 M d M3 hE hC hD
    replace hE : LT_readHeights_L2 v1 v2 M = some (d, M3) := hE
    show AW X 2 [(0, .ref (hY X.2.1.2 + 94)), (1, .ref (hY X.2.1.2 + v1)), (2, .int v2)] [] M
    have J20 : ∀ (v2 : Int32) (M : Mem), LT_readHeights_L2_J20 v1 v2 M = some (d, M3) → AW X 20 [(0, .ref (hY X.2.1.2 + 94)), (1, .ref (hY X.2.1.2 + v1)), (2, .int v2)] [] M := by
      intro v2 M hE
      unfold LT_readHeights_L2_J20 at hE
      refine r_aload_n S dX2_readHeights_20 1 rfl ?_
      refine r_getRKN S fc0 k1 4 (v1 + 1) rfl rfl q_134 dX2_readHeights_21 ?_
      refine r_iload_n S dX2_readHeights_24 2 rfl ?_
      refine r_aload_n S dX2_readHeights_25 0 rfl ?_
      obtain ⟨x1, M2, h9, hE⟩ := b2_some hE
      refine rc_I S (rn_V S fc2 (by decide) (c_LT_readNumber _ _ (gYX S)  M _ _ h9) wdX2_readNumber q_135 ⟨Nat.le_of_ble_eq_true rfl, Nat.le_of_ble_eq_true rfl⟩ rfl (Nat.le_of_ble_eq_true rfl) dX2_readHeights_26) ?_
      refine rc_V S (rn_V S fc3 (kk0_1 k1) (c_NR_put _ _ (gYX S) (v1 + 1) (kk0_1 k1) v2 x1 M2 _ rfl) wdX3_put q_140 ⟨Nat.le_of_ble_eq_true rfl, Nat.le_of_ble_eq_true rfl⟩ rfl (Nat.le_of_ble_eq_true rfl) dX2_readHeights_29) ?_
      refine r_iinc (lv2 := [(2, .int (v2 + (1 : Int32))), (0, .ref (hY X.2.1.2 + 94)), (1, .ref (hY X.2.1.2 + v1))]) S dX2_readHeights_32 (j := 2) rfl (by decide) rfl ?_
      refine r_goto S 2 dX2_readHeights_35 (by decide) ?_
      obtain ⟨rfl, rfl⟩ := si2 hE
      exact r_sub (lv2 := [(0, .ref (hY X.2.1.2 + 94)), (1, .ref (hY X.2.1.2 + v1)), (2, .int (v2 + (1 : Int32)))]) [1, 2, 0] rfl (hC (v2 + (1 : Int32)) rfl)
    unfold LT_readHeights_L2 at hE
    refine r_iload_n S dX2_readHeights_2 2 rfl ?_
    refine r_aload_n S dX2_readHeights_3 1 rfl ?_
    refine r_getIN S fc0 k1 2 rfl q_128 dX2_readHeights_4 ?_
    refine r_icmp_ge S 38 dX2_readHeights_7 (by decide) (fun c => ?_) (fun c => ?_)
    · rw [if_pos c] at hE
      obtain ⟨rfl, rfl⟩ := si2 hE
      rcases hD with ⟨h1, h2⟩ | ⟨_, h1⟩
      · obtain rfl := sir h1
        subst h2
        exact r_sub [] rfl hX
      · exact (sil h1).elim
    · rw [if_neg c] at hE
      refine r_iload_n S dX2_readHeights_10 2 rfl ?_
      refine r_if_le S 20 dX2_readHeights_11 (by decide) (fun c => ?_) (fun c => ?_)
      · rw [if_pos c] at hE
        exact r_sub [0, 1, 2] rfl (J20 v2 M hE)
      · rw [if_neg c] at hE
        refine r_aload_n S dX2_readHeights_14 0 rfl ?_
        refine r_bipush S (44 : Int32) dX2_readHeights_15 rfl ?_
        obtain ⟨x1, M2, h9, hE⟩ := b2_some hE
        refine rc_V S (rn_V S fc2 (by decide) (c_LT_readSign _ _ (gYX S) (44 : Int32) M _ _ h9) wdX2_readSign q_129 ⟨Nat.le_of_ble_eq_true rfl, Nat.le_of_ble_eq_true rfl⟩ rfl (Nat.le_of_ble_eq_true rfl) dX2_readHeights_17) ?_
        exact r_sub [0, 1, 2] rfl (J20 v2 M2 hE)
  unfold LT_readHeights at hE
  refine r_iconst S (0 : Int32) dX2_readHeights_0 rfl ?_
  refine r_istore_n (lv2 := [(2, .int (0 : Int32)), (0, .ref (hY X.2.1.2 + 94)), (1, .ref (hY X.2.1.2 + a1))]) S dX2_readHeights_1 (by decide) rfl ?_
  obtain ⟨e1, M2, h9, hE⟩ := b2_some hE
  refine r_sub [1, 2, 0] rfl (L2 a1 k1  e1 M2 ?_ _ _ M h9)
  obtain ⟨rfl, rfl⟩ := si2 hE
  exact hret _ _ dX2_readHeights_38
set_option maxRecDepth 100000 in
set_option maxHeartbeats 4000000 in
theorem c_GR_exists (l : Launch) (Y : Env1) (hG : gY Y = gC) (o : Nat) (ho : kC o = 0) (a1 : Int32) (M : Mem) (r : Int32) (hE : GR_exists o a1 M = r) : CnI l Y yX0_exists cX0_exists 2 .boolean 0 [.ref (hY Y + o), .int a1] M r M := by
  refine met_Z (own := RX0) (by decide +kernel) rfl hG (Nat.le_of_ble_eq_true rfl) (fun X S hY1 hl1 hret => ?_)
  subst hY1
  subst hl1
  show AW X 0 [(0, .ref (hY X.2.1.2 + o)), (1, .int a1)] [] M
  unfold GR_exists at hE
  refine r_iload_n S dX0_exists_0 1 rfl ?_
  refine r_if_lt S 16 dX0_exists_1 (by decide) (fun c => ?_) (fun c => ?_)
  · try simp only [if_pos c] at hE
    refine r_iconst S (0 : Int32) dX0_exists_16 rfl ?_
    subst hE
    exact hret _ _ _ dX0_exists_17 (by decide)
  · try simp only [if_neg c] at hE
    refine r_iload_n S dX0_exists_4 1 rfl ?_
    refine r_aload_n S dX0_exists_5 0 rfl ?_
    refine r_getI S fc0 ho 2 rfl q_46 dX0_exists_6 ?_
    refine r_icmp_ge S 16 dX0_exists_9 (by decide) (fun c => ?_) (fun c => ?_)
    · try simp only [if_pos c] at hE
      refine r_iconst S (0 : Int32) dX0_exists_16 rfl ?_
      subst hE
      exact hret _ _ _ dX0_exists_17 (by decide)
    · try simp only [if_neg c] at hE
      refine r_iconst S (1 : Int32) dX0_exists_12 rfl ?_
      refine r_goto S 17 dX0_exists_13 (by decide) ?_
      subst hE
      exact hret _ _ _ dX0_exists_17 (by decide)
set_option maxRecDepth 100000 in
set_option maxHeartbeats 4000000 in
theorem c_GR_putDrain (l : Launch) (Y : Env1) (hG : gY Y = gC) (o : Nat) (ho : kC o = 0) (a1 : Int32) (a2 : Int32) (M : Mem) (r : Unit) (M1 : Mem) (hE : GR_putDrain o a1 a2 M = some (r, M1)) : CnV l Y yX0_putDrain cX0_putDrain 3 1 [.ref (hY Y + o), .int a1, .int a2] M M1 := by
  refine met_V (own := RX0) (by decide +kernel) rfl hG (Nat.le_of_ble_eq_true rfl) (fun X S hY1 hl1 hret => ?_)
  subst hY1
  subst hl1
  show AW X 0 [(0, .ref (hY X.2.1.2 + o)), (1, .int a1), (2, .int a2)] [] M
  unfold GR_putDrain at hE
  refine r_aload_n S dX0_putDrain_0 0 rfl ?_
  refine r_iload_n S dX0_putDrain_1 2 rfl ?_
  refine r_if_eq S 17 dX0_putDrain_2 (by decide) (fun c => ?_) (fun c => ?_)
  · try simp only [if_pos c] at hE
    refine r_aload_n S dX0_putDrain_17 0 rfl ?_
    refine r_getL S fc0 ho 3 rfl q_111 dX0_putDrain_18 ?_
    refine r_iload_n S dX0_putDrain_21 1 rfl ?_
    refine rc_L S (rn_SN S (c_LL_bit _ _ (gYX S) a1 M _ rfl) wdX7_bit q_141 ⟨Nat.le_of_ble_eq_true rfl, Nat.le_of_ble_eq_true rfl⟩ rfl (Nat.le_of_ble_eq_true rfl) dX0_putDrain_22) ?_
    refine r_ldc2 S (v := -1) q_142 dX0_putDrain_25 ?_
    refine r_lxor S dX0_putDrain_28 ?_
    refine r_land S dX0_putDrain_29 ?_
    refine r_putL S fc0 ho 3 rfl rfl (by decide +kernel) q_111 dX0_putDrain_30 ?_
    obtain ⟨rfl, rfl⟩ := si2 hE
    exact hret _ _ dX0_putDrain_33
  · try simp only [if_neg c] at hE
    refine r_aload_n S dX0_putDrain_5 0 rfl ?_
    refine r_getL S fc0 ho 3 rfl q_111 dX0_putDrain_6 ?_
    refine r_iload_n S dX0_putDrain_9 1 rfl ?_
    refine rc_L S (rn_SN S (c_LL_bit _ _ (gYX S) a1 M _ rfl) wdX7_bit q_141 ⟨Nat.le_of_ble_eq_true rfl, Nat.le_of_ble_eq_true rfl⟩ rfl (Nat.le_of_ble_eq_true rfl) dX0_putDrain_10) ?_
    refine r_lor S dX0_putDrain_13 ?_
    refine r_goto S 30 dX0_putDrain_14 (by decide) ?_
    refine r_putL S fc0 ho 3 rfl rfl (by decide +kernel) q_111 dX0_putDrain_30 ?_
    obtain ⟨rfl, rfl⟩ := si2 hE
    exact hret _ _ dX0_putDrain_33
set_option maxRecDepth 100000 in
set_option maxHeartbeats 4000000 in
theorem c_LT_readDrain (l : Launch) (Y : Env1) (hG : gY Y = gC) (a1 : Nat) (k1 : kC a1 = 0) (M : Mem) (r : Unit) (M1 : Mem) (hE : LT_readDrain a1 M = some (r, M1)) : CnV l Y yX2_readDrain cX2_readDrain 4 4 [.ref (hY Y + 94), .ref (hY Y + a1)] M M1 := by
  refine met_V (own := RX2) (by decide +kernel) rfl hG (Nat.le_of_ble_eq_true rfl) (fun X S hY1 hl1 hret => ?_)
  subst hY1
  subst hl1
  show AW X 0 [(0, .ref (hY X.2.1.2 + 94)), (1, .ref (hY X.2.1.2 + a1))] [] M
  have J23 : ∀ (v1 : Nat) (k1 : kC v1 = 0) (v3 : Int32) (M : Mem), LT_readDrain_J23 v1 v3 M = some (r, M1) → AW X 23 [(0, .ref (hY X.2.1.2 + 94)), (1, .ref (hY X.2.1.2 + v1)), (3, .int v3)] [] M := by
    intro v1 k1 v3 M hE
    unfold LT_readDrain_J23 at hE
    refine r_aload_n S dX2_readDrain_23 0 rfl ?_
    refine r_getI S fc2 (by decide) 3 rfl q_92 dX2_readDrain_24 ?_
    refine r_iconst S (-1 : Int32) dX2_readDrain_27 rfl ?_
    refine r_icmp_ne S 37 dX2_readDrain_28 (by decide) (fun c => ?_) (fun c => ?_)
    · rw [if_pos c] at hE
      obtain ⟨rfl, rfl⟩ := si2 hE
      exact hret _ _ dX2_readDrain_37
    · rw [if_neg (not_not_intro c)] at hE
      refine r_aload_n S dX2_readDrain_31 1 rfl ?_
      refine r_iload_n S dX2_readDrain_32 2 rfl ?_
      refine r_iconst S (1 : Int32) dX2_readDrain_33 rfl ?_
      obtain ⟨x1, M2, h9, hE⟩ := b2_some hE
      refine rc_V S (rn_V S fc0 k1 (c_GR_putDrain _ _ (gYX S) v1 k1 v3 (1 : Int32) M _ _ h9) wdX0_putDrain q_148 ⟨Nat.le_of_ble_eq_true rfl, Nat.le_of_ble_eq_true rfl⟩ rfl (Nat.le_of_ble_eq_true rfl) dX2_readDrain_34) ?_
      obtain ⟨rfl, rfl⟩ := si2 hE
      exact hret _ _ dX2_readDrain_37
  unfold LT_readDrain at hE
  refine r_aload_n S dX2_readDrain_0 0 rfl ?_
  refine r_getI S fc2 (by decide) 2 rfl q_88 dX2_readDrain_1 ?_
  refine r_istore_n (lv2 := [(2, .int (gI M 94 2)), (0, .ref (hY X.2.1.2 + 94)), (1, .ref (hY X.2.1.2 + a1))]) S dX2_readDrain_4 (by decide) rfl ?_
  refine r_aload_n S dX2_readDrain_5 1 rfl ?_
  obtain ⟨x1, M2, h9, hE⟩ := b2_some hE
  refine rc_I S (rn_V S fc2 (by decide) (c_LT_readNumber _ _ (gYX S)  M _ _ h9) wdX2_readNumber q_135 ⟨Nat.le_of_ble_eq_true rfl, Nat.le_of_ble_eq_true rfl⟩ rfl (Nat.le_of_ble_eq_true rfl) dX2_readDrain_6) ?_
  refine r_istore_n (lv2 := [(3, .int x1), (2, .int (gI M 94 2)), (0, .ref (hY X.2.1.2 + 94)), (1, .ref (hY X.2.1.2 + a1))]) S dX2_readDrain_9 (by decide) rfl ?_
  refine r_aload_n S dX2_readDrain_10 3 rfl ?_
  refine r_iload_n S dX2_readDrain_11 0 rfl ?_
  refine rc_I S (rn_V S fc0 k1 (c_GR_exists _ _ (gYX S) a1 k1 x1 M2 _ rfl) wdX0_exists q_143 ⟨Nat.le_of_ble_eq_true rfl, Nat.le_of_ble_eq_true rfl⟩ rfl (Nat.le_of_ble_eq_true rfl) dX2_readDrain_12) ?_
  refine r_if_ne S 23 dX2_readDrain_15 (by decide) (fun c => ?_) (fun c => ?_)
  · rw [if_pos c] at hE
    exact r_sub [2, 3, 0] rfl (J23 a1 k1 x1 M2 hE)
  · rw [if_neg (not_not_intro c)] at hE
    refine r_aload_n S dX2_readDrain_18 2 rfl ?_
    refine r_iload_n S dX2_readDrain_19 1 rfl ?_
    obtain ⟨x3, M4, h9, hE⟩ := b2_some hE
    refine rc_V S (rn_V S fc2 (by decide) (c_LT_fail _ _ (gYX S) (gI M 94 2) M2 _ _ h9) wdX2_fail q_98 ⟨Nat.le_of_ble_eq_true rfl, Nat.le_of_ble_eq_true rfl⟩ rfl (Nat.le_of_ble_eq_true rfl) dX2_readDrain_20) ?_
    exact r_sub [2, 3, 0] rfl (J23 a1 k1 x1 M4 hE)
set_option maxRecDepth 100000 in
set_option maxHeartbeats 4000000 in
theorem c_GR_sideTo (l : Launch) (Y : Env1) (hG : gY Y = gC) (o : Nat) (ho : kC o = 0) (a1 : Int32) (a2 : Int32) (M : Mem) (r : Int32) (hE : GR_sideTo o a1 a2 M = some r) : CnI l Y yX0_sideTo cX0_sideTo 4 .int 1 [.ref (hY Y + o), .int a1, .int a2] M r M := by
  refine met_I (own := RX0) (by decide +kernel) rfl hG (Nat.le_of_ble_eq_true rfl) (fun X S hY1 hl1 hret => ?_)
  subst hY1
  subst hl1
  show AW X 0 [(0, .ref (hY X.2.1.2 + o)), (1, .int a1), (2, .int a2)] [] M
  have L22 : ∀ (v0 : Nat) (k0 : kC v0 = 0) (v1 : Int32) (v2 : Int32) (q : ((Unit) ⊕ Int32)), (∀ e, q = .inl e → AW X 51 [] [] M) → (∀ r8, q = .inr r8 → r8 = r) → ∀ (n : Nat) (s : Int32), lpR (fun s => GR_sideTo_L22 v0 v1 v2 s M) n s = some q → AW X 22 [(0, .ref (hY X.2.1.2 + v0)), (1, .int v1), (2, .int v2), (3, .int s)] [] M := by
    intro v0 k0 v1 v2 q hX hR
    refine lpR_ind (P := fun (s : Int32) => AW X 22 [(0, .ref (hY X.2.1.2 + v0)), (1, .int v1), (2, .int v2), (3, .int s)] [] M) ?_
    rintro v3 d hE hC hD
    replace hE : GR_sideTo_L22 v0 v1 v2 v3 M = some d := hE
    show AW X 22 [(0, .ref (hY X.2.1.2 + v0)), (1, .int v1), (2, .int v2), (3, .int v3)] [] M
    unfold GR_sideTo_L22 at hE
    refine r_iload_n S dX0_sideTo_22 3 rfl ?_
    refine r_iconst S (4 : Int32) dX0_sideTo_23 rfl ?_
    refine r_iload_n S dX0_sideTo_24 1 rfl ?_
    refine r_imul S dX0_sideTo_25 ?_
    refine r_iconst S (4 : Int32) dX0_sideTo_26 rfl ?_
    refine r_iadd S dX0_sideTo_27 ?_
    refine r_icmp_ge S 51 dX0_sideTo_28 (by decide) (fun c => ?_) (fun c => ?_)
    · rw [if_pos c] at hE
      obtain rfl := si1 hE
      rcases hD with h1 | ⟨_, h1⟩
      · obtain rfl := sir h1
        exact r_sub [] rfl (hX _ rfl)
      · exact (sil h1).elim
    · rw [if_neg c] at hE
      refine r_aload_n S dX0_sideTo_31 0 rfl ?_
      refine r_getRK S fc0 k0 5 (v0 + 3) rfl rfl q_104 dX0_sideTo_32 ?_
      refine r_iload_n S dX0_sideTo_35 3 rfl ?_
      refine rc_I S (rn_V S fc3 (kk0_3 k0) (c_NR_at _ _ (gYX S) (v0 + 3) (kk0_3 k0) v3 M _ rfl) wdX3_at q_49 ⟨Nat.le_of_ble_eq_true rfl, Nat.le_of_ble_eq_true rfl⟩ rfl (Nat.le_of_ble_eq_true rfl) dX0_sideTo_36) ?_
      refine r_iload_n S dX0_sideTo_39 2 rfl ?_
      refine r_icmp_ne S 45 dX0_sideTo_40 (by decide) (fun c => ?_) (fun c => ?_)
      · rw [if_pos c] at hE
        refine r_iinc (lv2 := [(3, .int (v3 + (1 : Int32))), (0, .ref (hY X.2.1.2 + v0)), (1, .int v1), (2, .int v2)]) S dX0_sideTo_45 (j := 3) rfl (by decide) rfl ?_
        refine r_goto S 22 dX0_sideTo_48 (by decide) ?_
        obtain rfl := si1 hE
        exact r_sub (lv2 := [(0, .ref (hY X.2.1.2 + v0)), (1, .int v1), (2, .int v2), (3, .int (v3 + (1 : Int32)))]) [1, 2, 3, 0] rfl (hC (v3 + (1 : Int32)) rfl)
      · rw [if_neg (not_not_intro c)] at hE
        refine r_iload_n S dX0_sideTo_43 3 rfl ?_
        obtain rfl := si1 hE
        rcases hD with h1 | ⟨_, h1⟩
        · obtain rfl := sir h1
          obtain rfl := hR _ rfl
          exact hret _ _ dX0_sideTo_44
        · exact (sil h1).elim
  unfold GR_sideTo at hE
  refine r_aload_n S dX0_sideTo_0 0 rfl ?_
  refine r_iload_n S dX0_sideTo_1 1 rfl ?_
  refine rc_I S (rn_V S fc0 ho (c_GR_exists _ _ (gYX S) o ho a1 M _ rfl) wdX0_exists q_153 ⟨Nat.le_of_ble_eq_true rfl, Nat.le_of_ble_eq_true rfl⟩ rfl (Nat.le_of_ble_eq_true rfl) dX0_sideTo_2) ?_
  refine r_if_eq S 16 dX0_sideTo_5 (by decide) (fun c => ?_) (fun c => ?_)
  · rw [if_pos c] at hE
    refine r_iconst S (-1 : Int32) dX0_sideTo_16 rfl ?_
    obtain rfl := si1 hE
    exact hret _ _ dX0_sideTo_17
  · rw [if_neg c] at hE
    refine r_aload_n S dX0_sideTo_8 0 rfl ?_
    refine r_iload_n S dX0_sideTo_9 2 rfl ?_
    refine rc_I S (rn_V S fc0 ho (c_GR_exists _ _ (gYX S) o ho a2 M _ rfl) wdX0_exists q_153 ⟨Nat.le_of_ble_eq_true rfl, Nat.le_of_ble_eq_true rfl⟩ rfl (Nat.le_of_ble_eq_true rfl) dX0_sideTo_10) ?_
    refine r_if_ne S 18 dX0_sideTo_13 (by decide) (fun c => ?_) (fun c => ?_)
    · rw [if_pos c] at hE
      refine r_iconst S (4 : Int32) dX0_sideTo_18 rfl ?_
      refine r_iload_n S dX0_sideTo_19 1 rfl ?_
      refine r_imul S dX0_sideTo_20 ?_
      refine r_istore_n (lv2 := [(3, .int ((4 : Int32) * a1)), (0, .ref (hY X.2.1.2 + o)), (1, .int a1), (2, .int a2)]) S dX0_sideTo_21 (by decide) rfl ?_
      obtain ⟨e1, h9, hE⟩ := b1_some hE
      refine r_sub [1, 2, 3, 0] rfl (L22 o ho a1 a2  e1 (fun e2 h8 => ?_) (fun r8 h8 => ?_) _ _  h9)
      · subst h8
        refine r_iconst S (-1 : Int32) dX0_sideTo_51 rfl ?_
        obtain rfl := si1 hE
        exact hret _ _ dX0_sideTo_52
      · subst h8
        exact si1 hE
    · rw [if_neg (not_not_intro c)] at hE
      refine r_iconst S (-1 : Int32) dX0_sideTo_16 rfl ?_
      obtain rfl := si1 hE
      exact hret _ _ dX0_sideTo_17
set_option maxRecDepth 100000 in
set_option maxHeartbeats 4000000 in
theorem c_GR_putGate (l : Launch) (Y : Env1) (hG : gY Y = gC) (o : Nat) (ho : kC o = 0) (a1 : Int32) (a2 : Int32) (a3 : Int32) (M : Mem) (r : Unit) (M1 : Mem) (hE : GR_putGate o a1 a2 a3 M = some (r, M1)) : CnV l Y yX0_putGate cX0_putGate 4 2 [.ref (hY Y + o), .int a1, .int a2, .int a3] M M1 := by
  refine met_V (own := RX0) (by decide +kernel) rfl hG (Nat.le_of_ble_eq_true rfl) (fun X S hY1 hl1 hret => ?_)
  subst hY1
  subst hl1
  show AW X 0 [(0, .ref (hY X.2.1.2 + o)), (1, .int a1), (2, .int a2), (3, .int a3)] [] M
  unfold GR_putGate at hE
  refine r_aload_n S dX0_putGate_0 0 rfl ?_
  refine r_getRK S fc0 ho 6 (o + 5) rfl rfl q_117 dX0_putGate_1 ?_
  refine r_aload_n S dX0_putGate_4 0 rfl ?_
  refine r_iload_n S dX0_putGate_5 1 rfl ?_
  refine r_iload_n S dX0_putGate_6 2 rfl ?_
  obtain ⟨x1, h9, hE⟩ := b1_some hE
  refine rc_I S (rn_V S fc0 ho (c_GR_sideTo _ _ (gYX S) o ho a1 a2 M _ h9) wdX0_sideTo q_154 ⟨Nat.le_of_ble_eq_true rfl, Nat.le_of_ble_eq_true rfl⟩ rfl (Nat.le_of_ble_eq_true rfl) dX0_putGate_7) ?_
  refine r_iload_n S dX0_putGate_10 3 rfl ?_
  refine rc_V S (rn_V S fc3 (kk0_5 ho) (c_NR_put _ _ (gYX S) (o + 5) (kk0_5 ho) x1 a3 M _ rfl) wdX3_put q_105 ⟨Nat.le_of_ble_eq_true rfl, Nat.le_of_ble_eq_true rfl⟩ rfl (Nat.le_of_ble_eq_true rfl) dX0_putGate_11) ?_
  refine r_aload_n S dX0_putGate_14 0 rfl ?_
  refine r_getRK S fc0 ho 6 (o + 5) rfl rfl q_117 dX0_putGate_15 ?_
  refine r_aload_n S dX0_putGate_18 0 rfl ?_
  refine r_iload_n S dX0_putGate_19 2 rfl ?_
  refine r_iload_n S dX0_putGate_20 1 rfl ?_
  obtain ⟨x2, h9, hE⟩ := b1_some hE
  refine rc_I S (rn_V S fc0 ho (c_GR_sideTo _ _ (gYX S) o ho a2 a1 (fPutI (o + 5) x1 a3 M) _ h9) wdX0_sideTo q_154 ⟨Nat.le_of_ble_eq_true rfl, Nat.le_of_ble_eq_true rfl⟩ rfl (Nat.le_of_ble_eq_true rfl) dX0_putGate_21) ?_
  refine r_iload_n S dX0_putGate_24 3 rfl ?_
  refine rc_V S (rn_V S fc3 (kk0_5 ho) (c_NR_put _ _ (gYX S) (o + 5) (kk0_5 ho) x2 a3 (fPutI (o + 5) x1 a3 M) _ rfl) wdX3_put q_105 ⟨Nat.le_of_ble_eq_true rfl, Nat.le_of_ble_eq_true rfl⟩ rfl (Nat.le_of_ble_eq_true rfl) dX0_putGate_25) ?_
  obtain ⟨rfl, rfl⟩ := si2 hE
  exact hret _ _ dX0_putGate_28
set_option maxRecDepth 100000 in
set_option maxHeartbeats 4000000 in
theorem c_LT_readGate (l : Launch) (Y : Env1) (hG : gY Y = gC) (a1 : Nat) (k1 : kC a1 = 0) (M : Mem) (r : Unit) (M1 : Mem) (hE : LT_readGate a1 M = some (r, M1)) : CnV l Y yX2_readGate cX2_readGate 7 4 [.ref (hY Y + 94), .ref (hY Y + a1)] M M1 := by
  refine met_V (own := RX2) (by decide +kernel) rfl hG (Nat.le_of_ble_eq_true rfl) (fun X S hY1 hl1 hret => ?_)
  subst hY1
  subst hl1
  show AW X 0 [(0, .ref (hY X.2.1.2 + 94)), (1, .ref (hY X.2.1.2 + a1))] [] M
  have J58 : ∀ (v1 : Nat) (k1 : kC v1 = 0) (v3 : Int32) (v5 : Int32) (M : Mem), LT_readGate_J58 v1 v3 v5 M = some (r, M1) → AW X 58 [(0, .ref (hY X.2.1.2 + 94)), (1, .ref (hY X.2.1.2 + v1)), (3, .int v3), (5, .int v5)] [] M := by
    intro v1 k1 v3 v5 M hE
    unfold LT_readGate_J58 at hE
    refine r_aload_n S dX2_readGate_58 0 rfl ?_
    refine r_bipush S (44 : Int32) dX2_readGate_59 rfl ?_
    obtain ⟨x1, M2, h9, hE⟩ := b2_some hE
    refine rc_V S (rn_V S fc2 (by decide) (c_LT_readSign _ _ (gYX S) (44 : Int32) M _ _ h9) wdX2_readSign q_129 ⟨Nat.le_of_ble_eq_true rfl, Nat.le_of_ble_eq_true rfl⟩ rfl (Nat.le_of_ble_eq_true rfl) dX2_readGate_61) ?_
    refine r_aload_n S dX2_readGate_64 0 rfl ?_
    obtain ⟨x3, M4, h9, hE⟩ := b2_some hE
    refine rc_I S (rn_V S fc2 (by decide) (c_LT_readNumber _ _ (gYX S)  M2 _ _ h9) wdX2_readNumber q_135 ⟨Nat.le_of_ble_eq_true rfl, Nat.le_of_ble_eq_true rfl⟩ rfl (Nat.le_of_ble_eq_true rfl) dX2_readGate_65) ?_
    refine r_istore (lv2 := [(6, .int x3), (0, .ref (hY X.2.1.2 + 94)), (1, .ref (hY X.2.1.2 + v1)), (3, .int v3), (5, .int v5)]) S dX2_readGate_68 (by decide) rfl ?_
    refine r_aload_n S dX2_readGate_70 1 rfl ?_
    refine r_getI S fc2 (by decide) 3 rfl q_92 dX2_readGate_71 ?_
    refine r_iconst S (-1 : Int32) dX2_readGate_74 rfl ?_
    refine r_icmp_ne S 87 dX2_readGate_75 (by decide) (fun c => ?_) (fun c => ?_)
    · rw [if_pos c] at hE
      obtain ⟨rfl, rfl⟩ := si2 hE
      exact hret _ _ dX2_readGate_87
    · rw [if_neg (not_not_intro c)] at hE
      refine r_aload_n S dX2_readGate_78 2 rfl ?_
      refine r_iload_n S dX2_readGate_79 3 rfl ?_
      refine r_iload S dX2_readGate_80 4 rfl ?_
      refine r_iload S dX2_readGate_82 0 rfl ?_
      obtain ⟨x5, M6, h9, hE⟩ := b2_some hE
      refine rc_V S (rn_V S fc0 k1 (c_GR_putGate _ _ (gYX S) v1 k1 v3 v5 x3 M4 _ _ h9) wdX0_putGate q_160 ⟨Nat.le_of_ble_eq_true rfl, Nat.le_of_ble_eq_true rfl⟩ rfl (Nat.le_of_ble_eq_true rfl) dX2_readGate_84) ?_
      obtain ⟨rfl, rfl⟩ := si2 hE
      exact hret _ _ dX2_readGate_87
  have J23 : ∀ (v1 : Nat) (k1 : kC v1 = 0) (v3 : Int32) (M : Mem), LT_readGate_J23 v1 v3 M = some (r, M1) → AW X 23 [(0, .ref (hY X.2.1.2 + 94)), (1, .ref (hY X.2.1.2 + v1)), (3, .int v3)] [] M := by
    intro v1 k1 v3 M hE
    unfold LT_readGate_J23 at hE
    refine r_aload_n S dX2_readGate_23 0 rfl ?_
    refine r_bipush S (44 : Int32) dX2_readGate_24 rfl ?_
    obtain ⟨x1, M2, h9, hE⟩ := b2_some hE
    refine rc_V S (rn_V S fc2 (by decide) (c_LT_readSign _ _ (gYX S) (44 : Int32) M _ _ h9) wdX2_readSign q_129 ⟨Nat.le_of_ble_eq_true rfl, Nat.le_of_ble_eq_true rfl⟩ rfl (Nat.le_of_ble_eq_true rfl) dX2_readGate_26) ?_
    refine r_aload_n S dX2_readGate_29 0 rfl ?_
    refine r_getI S fc2 (by decide) 2 rfl q_88 dX2_readGate_30 ?_
    refine r_istore (lv2 := [(4, .int (gI M2 94 2)), (0, .ref (hY X.2.1.2 + 94)), (1, .ref (hY X.2.1.2 + v1)), (3, .int v3)]) S dX2_readGate_33 (by decide) rfl ?_
    refine r_aload_n S dX2_readGate_35 1 rfl ?_
    obtain ⟨x3, M4, h9, hE⟩ := b2_some hE
    refine rc_I S (rn_V S fc2 (by decide) (c_LT_readNumber _ _ (gYX S)  M2 _ _ h9) wdX2_readNumber q_135 ⟨Nat.le_of_ble_eq_true rfl, Nat.le_of_ble_eq_true rfl⟩ rfl (Nat.le_of_ble_eq_true rfl) dX2_readGate_36) ?_
    refine r_istore (lv2 := [(5, .int x3), (4, .int (gI M2 94 2)), (0, .ref (hY X.2.1.2 + 94)), (1, .ref (hY X.2.1.2 + v1)), (3, .int v3)]) S dX2_readGate_39 (by decide) rfl ?_
    refine r_aload_n S dX2_readGate_41 3 rfl ?_
    refine r_iload_n S dX2_readGate_42 4 rfl ?_
    refine r_iload S dX2_readGate_43 0 rfl ?_
    obtain ⟨x5, h9, hE⟩ := b1_some hE
    refine rc_I S (rn_V S fc0 k1 (c_GR_sideTo _ _ (gYX S) v1 k1 v3 x3 M4 _ h9) wdX0_sideTo q_159 ⟨Nat.le_of_ble_eq_true rfl, Nat.le_of_ble_eq_true rfl⟩ rfl (Nat.le_of_ble_eq_true rfl) dX2_readGate_45) ?_
    refine r_iconst S (-1 : Int32) dX2_readGate_48 rfl ?_
    refine r_icmp_ne S 58 dX2_readGate_49 (by decide) (fun c => ?_) (fun c => ?_)
    · rw [if_pos c] at hE
      exact r_sub [2, 3, 4, 0] rfl (J58 v1 k1 v3 x3 M4 hE)
    · rw [if_neg (not_not_intro c)] at hE
      refine r_aload_n S dX2_readGate_52 2 rfl ?_
      refine r_iload S dX2_readGate_53 1 rfl ?_
      obtain ⟨x6, M7, h9, hE⟩ := b2_some hE
      refine rc_V S (rn_V S fc2 (by decide) (c_LT_fail _ _ (gYX S) (gI M2 94 2) M4 _ _ h9) wdX2_fail q_98 ⟨Nat.le_of_ble_eq_true rfl, Nat.le_of_ble_eq_true rfl⟩ rfl (Nat.le_of_ble_eq_true rfl) dX2_readGate_55) ?_
      exact r_sub [2, 3, 4, 0] rfl (J58 v1 k1 v3 x3 M7 hE)
  unfold LT_readGate at hE
  refine r_aload_n S dX2_readGate_0 0 rfl ?_
  refine r_getI S fc2 (by decide) 2 rfl q_88 dX2_readGate_1 ?_
  refine r_istore_n (lv2 := [(2, .int (gI M 94 2)), (0, .ref (hY X.2.1.2 + 94)), (1, .ref (hY X.2.1.2 + a1))]) S dX2_readGate_4 (by decide) rfl ?_
  refine r_aload_n S dX2_readGate_5 1 rfl ?_
  obtain ⟨x1, M2, h9, hE⟩ := b2_some hE
  refine rc_I S (rn_V S fc2 (by decide) (c_LT_readNumber _ _ (gYX S)  M _ _ h9) wdX2_readNumber q_135 ⟨Nat.le_of_ble_eq_true rfl, Nat.le_of_ble_eq_true rfl⟩ rfl (Nat.le_of_ble_eq_true rfl) dX2_readGate_6) ?_
  refine r_istore_n (lv2 := [(3, .int x1), (2, .int (gI M 94 2)), (0, .ref (hY X.2.1.2 + 94)), (1, .ref (hY X.2.1.2 + a1))]) S dX2_readGate_9 (by decide) rfl ?_
  refine r_aload_n S dX2_readGate_10 3 rfl ?_
  refine r_iload_n S dX2_readGate_11 0 rfl ?_
  refine rc_I S (rn_V S fc0 k1 (c_GR_exists _ _ (gYX S) a1 k1 x1 M2 _ rfl) wdX0_exists q_143 ⟨Nat.le_of_ble_eq_true rfl, Nat.le_of_ble_eq_true rfl⟩ rfl (Nat.le_of_ble_eq_true rfl) dX2_readGate_12) ?_
  refine r_if_ne S 23 dX2_readGate_15 (by decide) (fun c => ?_) (fun c => ?_)
  · rw [if_pos c] at hE
    exact r_sub [2, 3, 0] rfl (J23 a1 k1 x1 M2 hE)
  · rw [if_neg (not_not_intro c)] at hE
    refine r_aload_n S dX2_readGate_18 2 rfl ?_
    refine r_iload_n S dX2_readGate_19 1 rfl ?_
    obtain ⟨x3, M4, h9, hE⟩ := b2_some hE
    refine rc_V S (rn_V S fc2 (by decide) (c_LT_fail _ _ (gYX S) (gI M 94 2) M2 _ _ h9) wdX2_fail q_98 ⟨Nat.le_of_ble_eq_true rfl, Nat.le_of_ble_eq_true rfl⟩ rfl (Nat.le_of_ble_eq_true rfl) dX2_readGate_20) ?_
    exact r_sub [2, 3, 0] rfl (J23 a1 k1 x1 M4 hE)
set_option maxRecDepth 100000 in
set_option maxHeartbeats 4000000 in
theorem c_LT_readInto (l : Launch) (Y : Env1) (hG : gY Y = gC) (a1 : Nat) (k1 : kC a1 = 0) (M : Mem) (r : Int32) (M1 : Mem) (hE : LT_readInto a1 M = some (r, M1)) : CnI l Y yX2_readInto cX2_readInto 6 .int 5 [.ref (hY Y + 94), .ref (hY Y + a1)] M r M1 := by
  refine met_I (own := RX2) (by decide +kernel) rfl hG (Nat.le_of_ble_eq_true rfl) (fun X S hY1 hl1 hret => ?_)
  subst hY1
  subst hl1
  show AW X 0 [(0, .ref (hY X.2.1.2 + 94)), (1, .ref (hY X.2.1.2 + a1))] [] M
  have L52 : ∀ (v1 : Nat) (k1 : kC v1 = 0) (e : (Unit)) (M2 : Mem), AW X 141 [(0, .ref (hY X.2.1.2 + 94))] [] M2 → ∀ (n : Nat) (s : Int32) (M : Mem), lpM (fun s M => LT_readInto_L52 v1 s M) n s M = some (e, M2) → AW X 52 [(0, .ref (hY X.2.1.2 + 94)), (1, .ref (hY X.2.1.2 + v1)), (4, .int s)] [] M := by
    intro v1 k1 e M2 hX
    refine lpM_ind (P := fun (s : Int32) (M : Mem) => AW X 52 [(0, .ref (hY X.2.1.2 + 94)), (1, .ref (hY X.2.1.2 + v1)), (4, .int s)] [] M) ?_
    rintro v4 M d M3 hE hC hD
    replace hE : LT_readInto_L52 v1 v4 M = some (d, M3) := hE
    show AW X 52 [(0, .ref (hY X.2.1.2 + 94)), (1, .ref (hY X.2.1.2 + v1)), (4, .int v4)] [] M
    have J114 : ∀ (v4 : Int32) (v5 : Int32) (t0 : Int32) (M : Mem), LT_readInto_L52_J114 v1 v4 v5 t0 M = some (d, M3) → AW X 114 [(0, .ref (hY X.2.1.2 + 94)), (1, .ref (hY X.2.1.2 + v1)), (4, .int v4), (5, .int v5)] [.int t0, .ref (hY X.2.1.2 + 94)] M := by
      intro v4 v5 t0 M hE
      unfold LT_readInto_L52_J114 at hE
      obtain ⟨x1, M2, h9, hE⟩ := b2_some hE
      refine rc_V S (rn_V S fc2 (by decide) (c_LT_readSign _ _ (gYX S) t0 M _ _ h9) wdX2_readSign q_129 ⟨Nat.le_of_ble_eq_true rfl, Nat.le_of_ble_eq_true rfl⟩ rfl (Nat.le_of_ble_eq_true rfl) dX2_readInto_114) ?_
      refine r_iload S dX2_readInto_117 3 rfl ?_
      refine r_if_eq S 130 dX2_readInto_119 (by decide) (fun c => ?_) (fun c => ?_)
      · rw [if_pos c] at hE
        refine r_aload_n S dX2_readInto_130 0 rfl ?_
        refine r_aload_n S dX2_readInto_131 1 rfl ?_
        obtain ⟨x3, M4, h9, hE⟩ := b2_some hE
        refine rc_V S (rn_V S fc2 (by decide) (c_LT_readGate _ _ (gYX S) v1 k1 M2 _ _ h9) wdX2_readGate q_185 ⟨Nat.le_of_ble_eq_true rfl, Nat.le_of_ble_eq_true rfl⟩ rfl (Nat.le_of_ble_eq_true rfl) dX2_readInto_132) ?_
        refine r_iinc (lv2 := [(4, .int (v4 + (1 : Int32))), (0, .ref (hY X.2.1.2 + 94)), (1, .ref (hY X.2.1.2 + v1)), (5, .int v5)]) S dX2_readInto_135 (j := 2) rfl (by decide) rfl ?_
        refine r_goto S 52 dX2_readInto_138 (by decide) ?_
        obtain ⟨rfl, rfl⟩ := si2 hE
        exact r_sub (lv2 := [(0, .ref (hY X.2.1.2 + 94)), (1, .ref (hY X.2.1.2 + v1)), (4, .int (v4 + (1 : Int32)))]) [1, 2, 0] rfl (hC (v4 + (1 : Int32)) rfl)
      · rw [if_neg c] at hE
        refine r_aload_n S dX2_readInto_122 0 rfl ?_
        refine r_aload_n S dX2_readInto_123 1 rfl ?_
        obtain ⟨x5, M6, h9, hE⟩ := b2_some hE
        refine rc_V S (rn_V S fc2 (by decide) (c_LT_readDrain _ _ (gYX S) v1 k1 M2 _ _ h9) wdX2_readDrain q_180 ⟨Nat.le_of_ble_eq_true rfl, Nat.le_of_ble_eq_true rfl⟩ rfl (Nat.le_of_ble_eq_true rfl) dX2_readInto_124) ?_
        refine r_goto S 135 dX2_readInto_127 (by decide) ?_
        refine r_iinc (lv2 := [(4, .int (v4 + (1 : Int32))), (0, .ref (hY X.2.1.2 + 94)), (1, .ref (hY X.2.1.2 + v1)), (5, .int v5)]) S dX2_readInto_135 (j := 2) rfl (by decide) rfl ?_
        refine r_goto S 52 dX2_readInto_138 (by decide) ?_
        obtain ⟨rfl, rfl⟩ := si2 hE
        exact r_sub (lv2 := [(0, .ref (hY X.2.1.2 + 94)), (1, .ref (hY X.2.1.2 + v1)), (4, .int (v4 + (1 : Int32)))]) [1, 2, 0] rfl (hC (v4 + (1 : Int32)) rfl)
    have J99 : ∀ (v4 : Int32) (t0 : Int32) (M : Mem), LT_readInto_L52_J99 v1 v4 t0 M = some (d, M3) → AW X 99 [(0, .ref (hY X.2.1.2 + 94)), (1, .ref (hY X.2.1.2 + v1)), (4, .int v4)] [.int t0] M := by
      intro v4 t0 M hE
      unfold LT_readInto_L52_J99 at hE
      refine r_istore (lv2 := [(5, .int t0), (0, .ref (hY X.2.1.2 + 94)), (1, .ref (hY X.2.1.2 + v1)), (4, .int v4)]) S dX2_readInto_99 (by decide) rfl ?_
      refine r_aload_n S dX2_readInto_101 1 rfl ?_
      refine r_iload S dX2_readInto_102 0 rfl ?_
      refine r_if_eq S 112 dX2_readInto_104 (by decide) (fun c => ?_) (fun c => ?_)
      · try simp only [if_pos c] at hE
        refine r_bipush S (103 : Int32) dX2_readInto_112 rfl ?_
        exact r_sub [1, 2, 3, 0] rfl (J114 v4 t0 (103 : Int32) M hE)
      · try simp only [if_neg c] at hE
        refine r_bipush S (100 : Int32) dX2_readInto_107 rfl ?_
        refine r_goto S 114 dX2_readInto_109 (by decide) ?_
        exact r_sub [1, 2, 3, 0] rfl (J114 v4 t0 (100 : Int32) M hE)
    unfold LT_readInto_L52 at hE
    refine r_iload S dX2_readInto_52 2 rfl ?_
    refine r_sipush S (150 : Int32) dX2_readInto_54 rfl ?_
    refine r_icmp_ge S 141 dX2_readInto_57 (by decide) (fun c => ?_) (fun c => ?_)
    · rw [if_pos c] at hE
      obtain ⟨rfl, rfl⟩ := si2 hE
      rcases hD with ⟨h1, h2⟩ | ⟨_, h1⟩
      · obtain rfl := sir h1
        subst h2
        exact r_sub [0] rfl hX
      · exact (sil h1).elim
    · rw [if_neg c] at hE
      refine r_aload_n S dX2_readInto_60 0 rfl ?_
      refine r_getI S fc2 (by decide) 3 rfl q_92 dX2_readInto_61 ?_
      refine r_iconst S (-1 : Int32) dX2_readInto_64 rfl ?_
      refine r_icmp_ne S 141 dX2_readInto_65 (by decide) (fun c => ?_) (fun c => ?_)
      · rw [if_pos c] at hE
        obtain ⟨rfl, rfl⟩ := si2 hE
        rcases hD with ⟨h1, h2⟩ | ⟨_, h1⟩
        · obtain rfl := sir h1
          subst h2
          exact r_sub [0] rfl hX
        · exact (sil h1).elim
      · rw [if_neg (not_not_intro c)] at hE
        refine r_aload_n S dX2_readInto_68 0 rfl ?_
        refine r_getI S fc2 (by decide) 2 rfl q_88 dX2_readInto_69 ?_
        refine r_aload_n S dX2_readInto_72 0 rfl ?_
        refine r_getI S fc2 (by decide) 1 rfl q_89 dX2_readInto_73 ?_
        refine r_icmp_ge S 141 dX2_readInto_76 (by decide) (fun c => ?_) (fun c => ?_)
        · rw [if_pos c] at hE
          obtain ⟨rfl, rfl⟩ := si2 hE
          rcases hD with ⟨h1, h2⟩ | ⟨_, h1⟩
          · obtain rfl := sir h1
            subst h2
            exact r_sub [0] rfl hX
          · exact (sil h1).elim
        · rw [if_neg c] at hE
          refine r_aload_n S dX2_readInto_79 0 rfl ?_
          refine r_bipush S (59 : Int32) dX2_readInto_80 rfl ?_
          obtain ⟨x1, M2, h9, hE⟩ := b2_some hE
          refine rc_V S (rn_V S fc2 (by decide) (c_LT_readSign _ _ (gYX S) (59 : Int32) M _ _ h9) wdX2_readSign q_129 ⟨Nat.le_of_ble_eq_true rfl, Nat.le_of_ble_eq_true rfl⟩ rfl (Nat.le_of_ble_eq_true rfl) dX2_readInto_82) ?_
          refine r_aload_n S dX2_readInto_85 0 rfl ?_
          refine rc_I S (rn_V S fc2 (by decide) (c_LT_next _ _ (gYX S)  M2 _ rfl) wdX2_next q_93 ⟨Nat.le_of_ble_eq_true rfl, Nat.le_of_ble_eq_true rfl⟩ rfl (Nat.le_of_ble_eq_true rfl) dX2_readInto_86) ?_
          refine r_bipush S (100 : Int32) dX2_readInto_89 rfl ?_
          refine r_icmp_ne S 98 dX2_readInto_91 (by decide) (fun c => ?_) (fun c => ?_)
          · try simp only [if_pos c] at hE
            refine r_iconst S (0 : Int32) dX2_readInto_98 rfl ?_
            exact r_sub [0, 1, 2] rfl (J99 v4 (0 : Int32) M2 hE)
          · try simp only [if_neg (not_not_intro c)] at hE
            refine r_iconst S (1 : Int32) dX2_readInto_94 rfl ?_
            refine r_goto S 99 dX2_readInto_95 (by decide) ?_
            exact r_sub [0, 1, 2] rfl (J99 v4 (1 : Int32) M2 hE)
  have J49 : ∀ (v1 : Nat) (k1 : kC v1 = 0) (M : Mem), LT_readInto_J49 v1 M = some (r, M1) → AW X 49 [(0, .ref (hY X.2.1.2 + 94)), (1, .ref (hY X.2.1.2 + v1))] [] M := by
    intro v1 k1 M hE
    unfold LT_readInto_J49 at hE
    refine r_iconst S (0 : Int32) dX2_readInto_49 rfl ?_
    refine r_istore (lv2 := [(4, .int (0 : Int32)), (0, .ref (hY X.2.1.2 + 94)), (1, .ref (hY X.2.1.2 + v1))]) S dX2_readInto_50 (by decide) rfl ?_
    obtain ⟨e1, M2, h9, hE⟩ := b2_some hE
    refine r_sub [1, 2, 0] rfl (L52 v1 k1  e1 M2 ?_ _ _ M h9)
    refine r_aload_n S dX2_readInto_141 0 rfl ?_
    refine r_getI S fc2 (by decide) 3 rfl q_92 dX2_readInto_142 ?_
    obtain ⟨rfl, rfl⟩ := si2 hE
    exact hret _ _ dX2_readInto_145
  unfold LT_readInto at hE
  refine r_aload_n S dX2_readInto_0 0 rfl ?_
  refine r_iconst S (0 : Int32) dX2_readInto_1 rfl ?_
  refine r_putI S fc2 (by decide) 2 rfl rfl (by decide +kernel) q_88 dX2_readInto_2 ?_
  refine r_aload_n S dX2_readInto_5 0 rfl ?_
  refine r_iconst S (-1 : Int32) dX2_readInto_6 rfl ?_
  refine r_putI S fc2 (by decide) 3 rfl rfl (by decide +kernel) q_92 dX2_readInto_7 ?_
  refine r_aload_n S dX2_readInto_10 0 rfl ?_
  refine r_bipush S (6 : Int32) dX2_readInto_11 rfl ?_
  obtain ⟨x1, M2, h9, hE⟩ := b2_some hE
  refine rc_I S (rn_V S fc2 (by decide) (c_LT_readSize _ _ (gYX S) (6 : Int32) (sI (sI M 94 2 (0 : Int32)) 94 3 (-1 : Int32)) _ _ h9) wdX2_readSize q_165 ⟨Nat.le_of_ble_eq_true rfl, Nat.le_of_ble_eq_true rfl⟩ rfl (Nat.le_of_ble_eq_true rfl) dX2_readInto_13) ?_
  refine r_istore_n (lv2 := [(2, .int x1), (0, .ref (hY X.2.1.2 + 94)), (1, .ref (hY X.2.1.2 + a1))]) S dX2_readInto_16 (by decide) rfl ?_
  refine r_aload_n S dX2_readInto_17 1 rfl ?_
  refine r_bipush S (6 : Int32) dX2_readInto_18 rfl ?_
  obtain ⟨x3, M4, h9, hE⟩ := b2_some hE
  refine rc_I S (rn_V S fc2 (by decide) (c_LT_readSize _ _ (gYX S) (6 : Int32) M2 _ _ h9) wdX2_readSize q_165 ⟨Nat.le_of_ble_eq_true rfl, Nat.le_of_ble_eq_true rfl⟩ rfl (Nat.le_of_ble_eq_true rfl) dX2_readInto_20) ?_
  refine r_istore_n (lv2 := [(3, .int x3), (2, .int x1), (0, .ref (hY X.2.1.2 + 94)), (1, .ref (hY X.2.1.2 + a1))]) S dX2_readInto_23 (by decide) rfl ?_
  refine r_aload_n S dX2_readInto_24 2 rfl ?_
  refine r_bipush S (58 : Int32) dX2_readInto_25 rfl ?_
  obtain ⟨x5, M6, h9, hE⟩ := b2_some hE
  refine rc_V S (rn_V S fc2 (by decide) (c_LT_readSign _ _ (gYX S) (58 : Int32) M4 _ _ h9) wdX2_readSign q_129 ⟨Nat.le_of_ble_eq_true rfl, Nat.le_of_ble_eq_true rfl⟩ rfl (Nat.le_of_ble_eq_true rfl) dX2_readInto_27) ?_
  refine r_aload_n S dX2_readInto_30 2 rfl ?_
  refine r_getI S fc2 (by decide) 3 rfl q_92 dX2_readInto_31 ?_
  refine r_iconst S (-1 : Int32) dX2_readInto_34 rfl ?_
  refine r_icmp_ne S 49 dX2_readInto_35 (by decide) (fun c => ?_) (fun c => ?_)
  · rw [if_pos c] at hE
    exact r_sub [2, 3] rfl (J49 a1 k1 M6 hE)
  · rw [if_neg (not_not_intro c)] at hE
    refine r_aload_n S dX2_readInto_38 3 rfl ?_
    refine r_iload_n S dX2_readInto_39 1 rfl ?_
    refine r_iload_n S dX2_readInto_40 0 rfl ?_
    obtain ⟨x7, M8, h9, hE⟩ := b2_some hE
    refine rc_V S (rn_V S fc0 k1 (c_GR_lay _ _ (gYX S) a1 k1 x1 x3 M6 _ _ h9) wdX0_lay q_170 ⟨Nat.le_of_ble_eq_true rfl, Nat.le_of_ble_eq_true rfl⟩ rfl (Nat.le_of_ble_eq_true rfl) dX2_readInto_41) ?_
    refine r_aload_n S dX2_readInto_44 2 rfl ?_
    refine r_aload_n S dX2_readInto_45 3 rfl ?_
    obtain ⟨x9, M10, h9, hE⟩ := b2_some hE
    refine rc_V S (rn_V S fc2 (by decide) (c_LT_readHeights _ _ (gYX S) a1 k1 M8 _ _ h9) wdX2_readHeights q_175 ⟨Nat.le_of_ble_eq_true rfl, Nat.le_of_ble_eq_true rfl⟩ rfl (Nat.le_of_ble_eq_true rfl) dX2_readInto_46) ?_
    exact r_sub [2, 3] rfl (J49 a1 k1 M10 hE)
set_option maxRecDepth 100000 in
set_option maxHeartbeats 4000000 in
theorem c_GR_copyFrom (l : Launch) (Y : Env1) (hG : gY Y = gC) (o : Nat) (ho : kC o = 0) (a1 : Nat) (k1 : kC a1 = 0) (M : Mem) (r : Unit) (M1 : Mem) (hE : GR_copyFrom o a1 M = some (r, M1)) : CnV l Y yX0_copyFrom cX0_copyFrom 2 3 [.ref (hY Y + o), .ref (hY Y + a1)] M M1 := by
  refine met_V (own := RX0) (by decide +kernel) rfl hG (Nat.le_of_ble_eq_true rfl) (fun X S hY1 hl1 hret => ?_)
  subst hY1
  subst hl1
  show AW X 0 [(0, .ref (hY X.2.1.2 + o)), (1, .ref (hY X.2.1.2 + a1))] [] M
  unfold GR_copyFrom at hE
  refine r_aload_n S dX0_copyFrom_0 0 rfl ?_
  refine r_aload_n S dX0_copyFrom_1 1 rfl ?_
  refine r_getI S fc0 k1 0 rfl q_103 dX0_copyFrom_2 ?_
  refine r_putI S fc0 ho 0 rfl rfl (by decide +kernel) q_103 dX0_copyFrom_5 ?_
  refine r_aload_n S dX0_copyFrom_8 0 rfl ?_
  refine r_aload_n S dX0_copyFrom_9 1 rfl ?_
  refine r_getI S fc0 k1 1 rfl q_110 dX0_copyFrom_10 ?_
  refine r_putI S fc0 ho 1 rfl rfl (by decide +kernel) q_110 dX0_copyFrom_13 ?_
  refine r_aload_n S dX0_copyFrom_16 0 rfl ?_
  refine r_aload_n S dX0_copyFrom_17 1 rfl ?_
  refine r_getI S fc0 k1 2 rfl q_46 dX0_copyFrom_18 ?_
  refine r_putI S fc0 ho 2 rfl rfl (by decide +kernel) q_46 dX0_copyFrom_21 ?_
  refine r_aload_n S dX0_copyFrom_24 0 rfl ?_
  refine r_aload_n S dX0_copyFrom_25 1 rfl ?_
  refine r_getL S fc0 k1 3 rfl q_111 dX0_copyFrom_26 ?_
  refine r_putL S fc0 ho 3 rfl rfl (by decide +kernel) q_111 dX0_copyFrom_29 ?_
  refine r_aload_n S dX0_copyFrom_32 0 rfl ?_
  refine r_getRK S fc0 ho 4 (o + 1) rfl rfl q_48 dX0_copyFrom_33 ?_
  refine r_aload_n S dX0_copyFrom_36 1 rfl ?_
  refine r_getRK S fc0 k1 4 (a1 + 1) rfl rfl q_48 dX0_copyFrom_37 ?_
  refine rc_V S (rn_V S fc3 (kk0_1 ho) (c_NR_copyFrom _ _ (gYX S) (o + 1) (kk0_1 ho) (a1 + 1) (kk0_1 k1) (sL (sI (sI (sI M o 0 (gI M a1 0)) o 1 (gI (sI M o 0 (gI M a1 0)) a1 1)) o 2 (gI (sI (sI M o 0 (gI M a1 0)) o 1 (gI (sI M o 0 (gI M a1 0)) a1 1)) a1 2)) o 3 (gL (sI (sI (sI M o 0 (gI M a1 0)) o 1 (gI (sI M o 0 (gI M a1 0)) a1 1)) o 2 (gI (sI (sI M o 0 (gI M a1 0)) o 1 (gI (sI M o 0 (gI M a1 0)) a1 1)) a1 2)) a1 3)) _ rfl) wdX3_copyFrom q_190 ⟨Nat.le_of_ble_eq_true rfl, Nat.le_of_ble_eq_true rfl⟩ rfl (Nat.le_of_ble_eq_true rfl) dX0_copyFrom_40) ?_
  refine r_aload_n S dX0_copyFrom_43 0 rfl ?_
  refine r_getRK S fc0 ho 5 (o + 3) rfl rfl q_104 dX0_copyFrom_44 ?_
  refine r_aload_n S dX0_copyFrom_47 1 rfl ?_
  refine r_getRK S fc0 k1 5 (a1 + 3) rfl rfl q_104 dX0_copyFrom_48 ?_
  refine rc_V S (rn_V S fc3 (kk0_3 ho) (c_NR_copyFrom _ _ (gYX S) (o + 3) (kk0_3 ho) (a1 + 3) (kk0_3 k1) (fCpyI (o + 1) (a1 + 1) (sL (sI (sI (sI M o 0 (gI M a1 0)) o 1 (gI (sI M o 0 (gI M a1 0)) a1 1)) o 2 (gI (sI (sI M o 0 (gI M a1 0)) o 1 (gI (sI M o 0 (gI M a1 0)) a1 1)) a1 2)) o 3 (gL (sI (sI (sI M o 0 (gI M a1 0)) o 1 (gI (sI M o 0 (gI M a1 0)) a1 1)) o 2 (gI (sI (sI M o 0 (gI M a1 0)) o 1 (gI (sI M o 0 (gI M a1 0)) a1 1)) a1 2)) a1 3))) _ rfl) wdX3_copyFrom q_190 ⟨Nat.le_of_ble_eq_true rfl, Nat.le_of_ble_eq_true rfl⟩ rfl (Nat.le_of_ble_eq_true rfl) dX0_copyFrom_51) ?_
  refine r_aload_n S dX0_copyFrom_54 0 rfl ?_
  refine r_getRK S fc0 ho 6 (o + 5) rfl rfl q_117 dX0_copyFrom_55 ?_
  refine r_aload_n S dX0_copyFrom_58 1 rfl ?_
  refine r_getRK S fc0 k1 6 (a1 + 5) rfl rfl q_117 dX0_copyFrom_59 ?_
  refine rc_V S (rn_V S fc3 (kk0_5 ho) (c_NR_copyFrom _ _ (gYX S) (o + 5) (kk0_5 ho) (a1 + 5) (kk0_5 k1) (fCpyI (o + 3) (a1 + 3) (fCpyI (o + 1) (a1 + 1) (sL (sI (sI (sI M o 0 (gI M a1 0)) o 1 (gI (sI M o 0 (gI M a1 0)) a1 1)) o 2 (gI (sI (sI M o 0 (gI M a1 0)) o 1 (gI (sI M o 0 (gI M a1 0)) a1 1)) a1 2)) o 3 (gL (sI (sI (sI M o 0 (gI M a1 0)) o 1 (gI (sI M o 0 (gI M a1 0)) a1 1)) o 2 (gI (sI (sI M o 0 (gI M a1 0)) o 1 (gI (sI M o 0 (gI M a1 0)) a1 1)) a1 2)) a1 3)))) _ rfl) wdX3_copyFrom q_190 ⟨Nat.le_of_ble_eq_true rfl, Nat.le_of_ble_eq_true rfl⟩ rfl (Nat.le_of_ble_eq_true rfl) dX0_copyFrom_62) ?_
  refine r_aload_n S dX0_copyFrom_65 0 rfl ?_
  refine r_getRK S fc0 ho 7 (o + 7) rfl rfl q_195 dX0_copyFrom_66 ?_
  refine r_aload_n S dX0_copyFrom_69 1 rfl ?_
  refine r_getRK S fc0 k1 7 (a1 + 7) rfl rfl q_195 dX0_copyFrom_70 ?_
  refine rc_V S (rn_V S fc3 (kk0_7 ho) (c_NR_copyFrom _ _ (gYX S) (o + 7) (kk0_7 ho) (a1 + 7) (kk0_7 k1) (fCpyI (o + 5) (a1 + 5) (fCpyI (o + 3) (a1 + 3) (fCpyI (o + 1) (a1 + 1) (sL (sI (sI (sI M o 0 (gI M a1 0)) o 1 (gI (sI M o 0 (gI M a1 0)) a1 1)) o 2 (gI (sI (sI M o 0 (gI M a1 0)) o 1 (gI (sI M o 0 (gI M a1 0)) a1 1)) a1 2)) o 3 (gL (sI (sI (sI M o 0 (gI M a1 0)) o 1 (gI (sI M o 0 (gI M a1 0)) a1 1)) o 2 (gI (sI (sI M o 0 (gI M a1 0)) o 1 (gI (sI M o 0 (gI M a1 0)) a1 1)) a1 2)) a1 3))))) _ rfl) wdX3_copyFrom q_190 ⟨Nat.le_of_ble_eq_true rfl, Nat.le_of_ble_eq_true rfl⟩ rfl (Nat.le_of_ble_eq_true rfl) dX0_copyFrom_73) ?_
  refine r_aload_n S dX0_copyFrom_76 0 rfl ?_
  refine r_getRK S fc0 ho 8 (o + 9) rfl rfl q_196 dX0_copyFrom_77 ?_
  refine r_aload_n S dX0_copyFrom_80 1 rfl ?_
  refine r_getRK S fc0 k1 8 (a1 + 9) rfl rfl q_196 dX0_copyFrom_81 ?_
  refine rc_V S (rn_V S fc3 (kk0_9 ho) (c_NR_copyFrom _ _ (gYX S) (o + 9) (kk0_9 ho) (a1 + 9) (kk0_9 k1) (fCpyI (o + 7) (a1 + 7) (fCpyI (o + 5) (a1 + 5) (fCpyI (o + 3) (a1 + 3) (fCpyI (o + 1) (a1 + 1) (sL (sI (sI (sI M o 0 (gI M a1 0)) o 1 (gI (sI M o 0 (gI M a1 0)) a1 1)) o 2 (gI (sI (sI M o 0 (gI M a1 0)) o 1 (gI (sI M o 0 (gI M a1 0)) a1 1)) a1 2)) o 3 (gL (sI (sI (sI M o 0 (gI M a1 0)) o 1 (gI (sI M o 0 (gI M a1 0)) a1 1)) o 2 (gI (sI (sI M o 0 (gI M a1 0)) o 1 (gI (sI M o 0 (gI M a1 0)) a1 1)) a1 2)) a1 3)))))) _ rfl) wdX3_copyFrom q_190 ⟨Nat.le_of_ble_eq_true rfl, Nat.le_of_ble_eq_true rfl⟩ rfl (Nat.le_of_ble_eq_true rfl) dX0_copyFrom_84) ?_
  obtain ⟨rfl, rfl⟩ := si2 hE
  exact hret _ _ dX0_copyFrom_87
set_option maxRecDepth 100000 in
set_option maxHeartbeats 4000000 in
theorem c_WY_copyFrom (l : Launch) (Y : Env1) (hG : gY Y = gC) (o : Nat) (ho : kC o = 5) (a1 : Nat) (k1 : kC a1 = 5) (M : Mem) (r : Unit) (M1 : Mem) (hE : WY_copyFrom o a1 M = some (r, M1)) : CnV l Y yX5_copyFrom cX5_copyFrom 2 3 [.ref (hY Y + o), .ref (hY Y + a1)] M M1 := by
  refine met_V (own := RX5) (by decide +kernel) rfl hG (Nat.le_of_ble_eq_true rfl) (fun X S hY1 hl1 hret => ?_)
  subst hY1
  subst hl1
  show AW X 0 [(0, .ref (hY X.2.1.2 + o)), (1, .ref (hY X.2.1.2 + a1))] [] M
  unfold WY_copyFrom at hE
  refine r_aload_n S dX5_copyFrom_0 0 rfl ?_
  refine r_aload_n S dX5_copyFrom_1 1 rfl ?_
  refine r_getI S fc5 k1 0 rfl q_197 dX5_copyFrom_2 ?_
  refine r_putI S fc5 ho 0 rfl rfl (by decide +kernel) q_197 dX5_copyFrom_5 ?_
  refine r_aload_n S dX5_copyFrom_8 0 rfl ?_
  refine r_getRK S fc5 ho 1 (o + 1) rfl rfl q_198 dX5_copyFrom_9 ?_
  refine r_aload_n S dX5_copyFrom_12 1 rfl ?_
  refine r_getRK S fc5 k1 1 (a1 + 1) rfl rfl q_198 dX5_copyFrom_13 ?_
  refine rc_V S (rn_V S fc4 (kk5_1 ho) (c_SR_copyFrom _ _ (gYX S) (o + 1) (kk5_1 ho) (a1 + 1) (kk5_1 k1) (sI M o 0 (gI M a1 0)) _ rfl) wdX4_copyFrom q_199 ⟨Nat.le_of_ble_eq_true rfl, Nat.le_of_ble_eq_true rfl⟩ rfl (Nat.le_of_ble_eq_true rfl) dX5_copyFrom_16) ?_
  refine r_aload_n S dX5_copyFrom_19 0 rfl ?_
  refine r_getRK S fc5 ho 2 (o + 3) rfl rfl q_204 dX5_copyFrom_20 ?_
  refine r_aload_n S dX5_copyFrom_23 1 rfl ?_
  refine r_getRK S fc5 k1 2 (a1 + 3) rfl rfl q_204 dX5_copyFrom_24 ?_
  refine rc_V S (rn_V S fc3 (kk5_3 ho) (c_NR_copyFrom _ _ (gYX S) (o + 3) (kk5_3 ho) (a1 + 3) (kk5_3 k1) (fCpyL (o + 1) (a1 + 1) (sI M o 0 (gI M a1 0))) _ rfl) wdX3_copyFrom q_205 ⟨Nat.le_of_ble_eq_true rfl, Nat.le_of_ble_eq_true rfl⟩ rfl (Nat.le_of_ble_eq_true rfl) dX5_copyFrom_27) ?_
  refine r_aload_n S dX5_copyFrom_30 0 rfl ?_
  refine r_getRK S fc5 ho 3 (o + 5) rfl rfl q_206 dX5_copyFrom_31 ?_
  refine r_aload_n S dX5_copyFrom_34 1 rfl ?_
  refine r_getRK S fc5 k1 3 (a1 + 5) rfl rfl q_206 dX5_copyFrom_35 ?_
  refine rc_V S (rn_V S fc3 (kk5_5 ho) (c_NR_copyFrom _ _ (gYX S) (o + 5) (kk5_5 ho) (a1 + 5) (kk5_5 k1) (fCpyI (o + 3) (a1 + 3) (fCpyL (o + 1) (a1 + 1) (sI M o 0 (gI M a1 0)))) _ rfl) wdX3_copyFrom q_205 ⟨Nat.le_of_ble_eq_true rfl, Nat.le_of_ble_eq_true rfl⟩ rfl (Nat.le_of_ble_eq_true rfl) dX5_copyFrom_38) ?_
  obtain ⟨rfl, rfl⟩ := si2 hE
  exact hret _ _ dX5_copyFrom_41
set_option maxRecDepth 100000 in
set_option maxHeartbeats 4000000 in
theorem c_LK_copyFrom (l : Launch) (Y : Env1) (hG : gY Y = gC) (o : Nat) (ho : kC o = 1) (a1 : Nat) (k1 : kC a1 = 1) (M : Mem) (r : Unit) (M1 : Mem) (hE : LK_copyFrom o a1 M = some (r, M1)) : CnV l Y yX1_copyFrom cX1_copyFrom 2 3 [.ref (hY Y + o), .ref (hY Y + a1)] M M1 := by
  refine met_V (own := RX1) (by decide +kernel) rfl hG (Nat.le_of_ble_eq_true rfl) (fun X S hY1 hl1 hret => ?_)
  subst hY1
  subst hl1
  show AW X 0 [(0, .ref (hY X.2.1.2 + o)), (1, .ref (hY X.2.1.2 + a1))] [] M
  unfold LK_copyFrom at hE
  refine r_aload_n S dX1_copyFrom_0 0 rfl ?_
  refine r_getRK S fc1 ho 0 (o + 1) rfl rfl q_23 dX1_copyFrom_1 ?_
  refine r_aload_n S dX1_copyFrom_4 1 rfl ?_
  refine r_getRK S fc1 k1 0 (a1 + 1) rfl rfl q_23 dX1_copyFrom_5 ?_
  refine rc_V S (rn_V S fc4 (kk1_1 ho) (c_SR_copyFrom _ _ (gYX S) (o + 1) (kk1_1 ho) (a1 + 1) (kk1_1 k1) M _ rfl) wdX4_copyFrom q_207 ⟨Nat.le_of_ble_eq_true rfl, Nat.le_of_ble_eq_true rfl⟩ rfl (Nat.le_of_ble_eq_true rfl) dX1_copyFrom_8) ?_
  refine r_aload_n S dX1_copyFrom_11 0 rfl ?_
  refine r_getRK S fc1 ho 1 (o + 3) rfl rfl q_41 dX1_copyFrom_12 ?_
  refine r_aload_n S dX1_copyFrom_15 1 rfl ?_
  refine r_getRK S fc1 k1 1 (a1 + 3) rfl rfl q_41 dX1_copyFrom_16 ?_
  refine rc_V S (rn_V S fc3 (kk1_3 ho) (c_NR_copyFrom _ _ (gYX S) (o + 3) (kk1_3 ho) (a1 + 3) (kk1_3 k1) (fCpyL (o + 1) (a1 + 1) M) _ rfl) wdX3_copyFrom q_208 ⟨Nat.le_of_ble_eq_true rfl, Nat.le_of_ble_eq_true rfl⟩ rfl (Nat.le_of_ble_eq_true rfl) dX1_copyFrom_19) ?_
  refine r_aload_n S dX1_copyFrom_22 0 rfl ?_
  refine r_getRK S fc1 ho 2 (o + 5) rfl rfl q_209 dX1_copyFrom_23 ?_
  refine r_aload_n S dX1_copyFrom_26 1 rfl ?_
  refine r_getRK S fc1 k1 2 (a1 + 5) rfl rfl q_209 dX1_copyFrom_27 ?_
  refine rc_V S (rn_V S fc3 (kk1_5 ho) (c_NR_copyFrom _ _ (gYX S) (o + 5) (kk1_5 ho) (a1 + 5) (kk1_5 k1) (fCpyI (o + 3) (a1 + 3) (fCpyL (o + 1) (a1 + 1) M)) _ rfl) wdX3_copyFrom q_208 ⟨Nat.le_of_ble_eq_true rfl, Nat.le_of_ble_eq_true rfl⟩ rfl (Nat.le_of_ble_eq_true rfl) dX1_copyFrom_30) ?_
  refine r_aload_n S dX1_copyFrom_33 0 rfl ?_
  refine r_getRK S fc1 ho 3 (o + 7) rfl rfl q_210 dX1_copyFrom_34 ?_
  refine r_aload_n S dX1_copyFrom_37 1 rfl ?_
  refine r_getRK S fc1 k1 3 (a1 + 7) rfl rfl q_210 dX1_copyFrom_38 ?_
  refine rc_V S (rn_V S fc3 (kk1_7 ho) (c_NR_copyFrom _ _ (gYX S) (o + 7) (kk1_7 ho) (a1 + 7) (kk1_7 k1) (fCpyI (o + 5) (a1 + 5) (fCpyI (o + 3) (a1 + 3) (fCpyL (o + 1) (a1 + 1) M))) _ rfl) wdX3_copyFrom q_208 ⟨Nat.le_of_ble_eq_true rfl, Nat.le_of_ble_eq_true rfl⟩ rfl (Nat.le_of_ble_eq_true rfl) dX1_copyFrom_41) ?_
  refine r_aload_n S dX1_copyFrom_44 0 rfl ?_
  refine r_getRK S fc1 ho 4 (o + 9) rfl rfl q_211 dX1_copyFrom_45 ?_
  refine r_aload_n S dX1_copyFrom_48 1 rfl ?_
  refine r_getRK S fc1 k1 4 (a1 + 9) rfl rfl q_211 dX1_copyFrom_49 ?_
  refine rc_V S (rn_V S fc3 (kk1_9 ho) (c_NR_copyFrom _ _ (gYX S) (o + 9) (kk1_9 ho) (a1 + 9) (kk1_9 k1) (fCpyI (o + 7) (a1 + 7) (fCpyI (o + 5) (a1 + 5) (fCpyI (o + 3) (a1 + 3) (fCpyL (o + 1) (a1 + 1) M)))) _ rfl) wdX3_copyFrom q_208 ⟨Nat.le_of_ble_eq_true rfl, Nat.le_of_ble_eq_true rfl⟩ rfl (Nat.le_of_ble_eq_true rfl) dX1_copyFrom_52) ?_
  refine r_aload_n S dX1_copyFrom_55 0 rfl ?_
  refine r_getRK S fc1 ho 5 (o + 11) rfl rfl q_212 dX1_copyFrom_56 ?_
  refine r_aload_n S dX1_copyFrom_59 1 rfl ?_
  refine r_getRK S fc1 k1 5 (a1 + 11) rfl rfl q_212 dX1_copyFrom_60 ?_
  refine rc_V S (rn_V S fc3 (kk1_11 ho) (c_NR_copyFrom _ _ (gYX S) (o + 11) (kk1_11 ho) (a1 + 11) (kk1_11 k1) (fCpyI (o + 9) (a1 + 9) (fCpyI (o + 7) (a1 + 7) (fCpyI (o + 5) (a1 + 5) (fCpyI (o + 3) (a1 + 3) (fCpyL (o + 1) (a1 + 1) M))))) _ rfl) wdX3_copyFrom q_208 ⟨Nat.le_of_ble_eq_true rfl, Nat.le_of_ble_eq_true rfl⟩ rfl (Nat.le_of_ble_eq_true rfl) dX1_copyFrom_63) ?_
  refine r_aload_n S dX1_copyFrom_66 0 rfl ?_
  refine r_getRK S fc1 ho 6 (o + 13) rfl rfl q_213 dX1_copyFrom_67 ?_
  refine r_aload_n S dX1_copyFrom_70 1 rfl ?_
  refine r_getRK S fc1 k1 6 (a1 + 13) rfl rfl q_213 dX1_copyFrom_71 ?_
  refine rc_V S (rn_V S fc3 (kk1_13 ho) (c_NR_copyFrom _ _ (gYX S) (o + 13) (kk1_13 ho) (a1 + 13) (kk1_13 k1) (fCpyI (o + 11) (a1 + 11) (fCpyI (o + 9) (a1 + 9) (fCpyI (o + 7) (a1 + 7) (fCpyI (o + 5) (a1 + 5) (fCpyI (o + 3) (a1 + 3) (fCpyL (o + 1) (a1 + 1) M)))))) _ rfl) wdX3_copyFrom q_208 ⟨Nat.le_of_ble_eq_true rfl, Nat.le_of_ble_eq_true rfl⟩ rfl (Nat.le_of_ble_eq_true rfl) dX1_copyFrom_74) ?_
  refine r_aload_n S dX1_copyFrom_77 0 rfl ?_
  refine r_getRK S fc1 ho 7 (o + 15) rfl rfl q_214 dX1_copyFrom_78 ?_
  refine r_aload_n S dX1_copyFrom_81 1 rfl ?_
  refine r_getRK S fc1 k1 7 (a1 + 15) rfl rfl q_214 dX1_copyFrom_82 ?_
  refine rc_V S (rn_V S fc3 (kk1_15 ho) (c_NR_copyFrom _ _ (gYX S) (o + 15) (kk1_15 ho) (a1 + 15) (kk1_15 k1) (fCpyI (o + 13) (a1 + 13) (fCpyI (o + 11) (a1 + 11) (fCpyI (o + 9) (a1 + 9) (fCpyI (o + 7) (a1 + 7) (fCpyI (o + 5) (a1 + 5) (fCpyI (o + 3) (a1 + 3) (fCpyL (o + 1) (a1 + 1) M))))))) _ rfl) wdX3_copyFrom q_208 ⟨Nat.le_of_ble_eq_true rfl, Nat.le_of_ble_eq_true rfl⟩ rfl (Nat.le_of_ble_eq_true rfl) dX1_copyFrom_85) ?_
  refine r_aload_n S dX1_copyFrom_88 0 rfl ?_
  refine r_getRK S fc1 ho 8 (o + 17) rfl rfl q_215 dX1_copyFrom_89 ?_
  refine r_aload_n S dX1_copyFrom_92 1 rfl ?_
  refine r_getRK S fc1 k1 8 (a1 + 17) rfl rfl q_215 dX1_copyFrom_93 ?_
  refine rc_V S (rn_V S fc3 (kk1_17 ho) (c_NR_copyFrom _ _ (gYX S) (o + 17) (kk1_17 ho) (a1 + 17) (kk1_17 k1) (fCpyI (o + 15) (a1 + 15) (fCpyI (o + 13) (a1 + 13) (fCpyI (o + 11) (a1 + 11) (fCpyI (o + 9) (a1 + 9) (fCpyI (o + 7) (a1 + 7) (fCpyI (o + 5) (a1 + 5) (fCpyI (o + 3) (a1 + 3) (fCpyL (o + 1) (a1 + 1) M)))))))) _ rfl) wdX3_copyFrom q_208 ⟨Nat.le_of_ble_eq_true rfl, Nat.le_of_ble_eq_true rfl⟩ rfl (Nat.le_of_ble_eq_true rfl) dX1_copyFrom_96) ?_
  obtain ⟨rfl, rfl⟩ := si2 hE
  exact hret _ _ dX1_copyFrom_99
