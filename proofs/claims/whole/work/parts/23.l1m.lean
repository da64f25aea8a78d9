set_option maxRecDepth 100000 in
set_option maxHeartbeats 4000000 in
theorem c_MD_water (l : Launch) (Y : Env1) (hG : gY Y = gM) (M : Mem) (r : Int64) (hE : MD_water M = some r) : CnL l Y yX8_water cX8_water 4 0 [.ref (hY Y + 0)] M r M := by
  refine met_L (own := RX8) (by decide +kernel) rfl hG (Nat.le_of_ble_eq_true rfl) (fun X S hY1 hl1 hret => ?_)
  subst hY1
  subst hl1
  show AW X 0 [(0, .ref (hY X.2.1.2 + 0))] [] M
  have L4 : ∀ (e : (Int64)), AW X 48 [(1, .long e)] [] M → ∀ (n : Nat) (s : Int64 × Int32), lpR (fun s => MD_water_L4 s.1 s.2 M) n s = some e → AW X 4 [(0, .ref (hY X.2.1.2 + 0)), (1, .long s.1), (3, .int s.2)] [] M := by
    intro e hX
    refine lpR_ind (P := fun (s : Int64 × Int32) => AW X 4 [(0, .ref (hY X.2.1.2 + 0)), (1, .long s.1), (3, .int s.2)] [] M) ?_
    rintro ⟨v1, v3⟩ d hE hC hD
    replace hE : MD_water_L4 v1 v3 M = some d := hE
    show AW X 4 [(0, .ref (hY X.2.1.2 + 0)), (1, .long v1), (3, .int v3)] [] M
    unfold MD_water_L4 at hE
    refine r_iload_n S dX8_water_4 2 rfl ?_
    refine r_bipush S (72 : Int32) dX8_water_5 rfl ?_
    refine r_icmp_ge S 48 dX8_water_7 (by decide) (fun c => ?_) (fun c => ?_)
    · rw [if_pos c] at hE
      obtain rfl := si1 hE
      rcases hD with h1 | ⟨_, h1⟩
      · obtain rfl := sir h1
        exact r_sub [1] rfl hX
      · exact (sil h1).elim
    · rw [if_neg c] at hE
      refine r_lload_n S dX8_water_10 1 rfl ?_
      refine r_aload_n S dX8_water_11 0 rfl ?_
      refine r_getRK S fc8 (by decide) 0 1 rfl rfl q_523 dX8_water_12 ?_
      refine r_sipush S (440 : Int32) dX8_water_15 rfl ?_
      refine r_iload_n S dX8_water_18 2 rfl ?_
      refine r_iadd S dX8_water_19 ?_
      obtain ⟨hi, hE⟩ := ck_some hE
      refine r_lald S (by decide) hi dX8_water_20 ?_
      refine r_lconst S (1 : Int64) dX8_water_21 rfl ?_
      refine r_lcmp_ne S 39 dX8_water_22 dX8_water_23 (by decide) (fun c => ?_) (fun c => ?_)
      · rw [if_pos c] at hE
        refine r_lconst S (0 : Int64) dX8_water_39 rfl ?_
        refine r_ladd S dX8_water_40 ?_
        refine r_lstore_n (lv2 := [(1, .long (v1 + (0 : Int64))), (0, .ref (hY X.2.1.2 + 0)), (3, .int v3)]) S dX8_water_41 (by decide) rfl ?_
        refine r_iinc (lv2 := [(3, .int (v3 + (1 : Int32))), (1, .long (v1 + (0 : Int64))), (0, .ref (hY X.2.1.2 + 0))]) S dX8_water_42 (j := 2) rfl (by decide) rfl ?_
        refine r_goto S 4 dX8_water_45 (by decide) ?_
        obtain rfl := si1 hE
        exact r_sub (lv2 := [(0, .ref (hY X.2.1.2 + 0)), (1, .long (v1 + (0 : Int64))), (3, .int (v3 + (1 : Int32)))]) [2, 1, 0] rfl (hC ((v1 + (0 : Int64)), (v3 + (1 : Int32))) rfl)
      · rw [if_neg (not_not_intro c)] at hE
        refine r_aload_n S dX8_water_26 0 rfl ?_
        refine r_getRK S fc8 (by decide) 0 1 rfl rfl q_523 dX8_water_27 ?_
        refine r_sipush S (224 : Int32) dX8_water_30 rfl ?_
        refine r_iload_n S dX8_water_33 2 rfl ?_
        refine r_iadd S dX8_water_34 ?_
        obtain ⟨hi, hE⟩ := ck_some hE
        refine r_lald S (by decide) hi dX8_water_35 ?_
        refine r_goto S 40 dX8_water_36 (by decide) ?_
        refine r_ladd S dX8_water_40 ?_
        refine r_lstore_n (lv2 := [(1, .long (v1 + (gL M 1 ((224 : Int32) + v3).toNatClampNeg))), (0, .ref (hY X.2.1.2 + 0)), (3, .int v3)]) S dX8_water_41 (by decide) rfl ?_
        refine r_iinc (lv2 := [(3, .int (v3 + (1 : Int32))), (1, .long (v1 + (gL M 1 ((224 : Int32) + v3).toNatClampNeg))), (0, .ref (hY X.2.1.2 + 0))]) S dX8_water_42 (j := 2) rfl (by decide) rfl ?_
        refine r_goto S 4 dX8_water_45 (by decide) ?_
        obtain rfl := si1 hE
        exact r_sub (lv2 := [(0, .ref (hY X.2.1.2 + 0)), (1, .long (v1 + (gL M 1 ((224 : Int32) + v3).toNatClampNeg))), (3, .int (v3 + (1 : Int32)))]) [2, 1, 0] rfl (hC ((v1 + (gL M 1 ((224 : Int32) + v3).toNatClampNeg)), (v3 + (1 : Int32))) rfl)
  unfold MD_water at hE
  refine r_lconst S (0 : Int64) dX8_water_0 rfl ?_
  refine r_lstore_n (lv2 := [(1, .long (0 : Int64)), (0, .ref (hY X.2.1.2 + 0))]) S dX8_water_1 (by decide) rfl ?_
  refine r_iconst S (0 : Int32) dX8_water_2 rfl ?_
  refine r_istore_n (lv2 := [(3, .int (0 : Int32)), (1, .long (0 : Int64)), (0, .ref (hY X.2.1.2 + 0))]) S dX8_water_3 (by decide) rfl ?_
  obtain ⟨e1, h9, hE⟩ := b1_some hE
  refine r_sub [2, 1, 0] rfl (L4   e1 ?_ _ _  h9)
  refine r_lload_n S dX8_water_48 0 rfl ?_
  obtain rfl := si1 hE
  exact hret _ _ dX8_water_49
set_option maxRecDepth 100000 in
set_option maxHeartbeats 4000000 in
theorem c_MD_levels (l : Launch) (Y : Env1) (hG : gY Y = gM) (a1 : Int32) (M : Mem) (r : Unit) (M1 : Mem) (hE : MD_levels a1 M = some (r, M1)) : CnV l Y yX8_levels cX8_levels 11 1 [.ref (hY Y + 0), .int a1] M M1 := by
  refine met_V (own := RX8) (by decide +kernel) rfl hG (Nat.le_of_ble_eq_true rfl) (fun X S hY1 hl1 hret => ?_)
  subst hY1
  subst hl1
  show AW X 0 [(0, .ref (hY X.2.1.2 + 0)), (1, .int a1)] [] M
  have L52 : ∀ (v2 : Int64) (v7 : Int32) (e : (Int64 × Int32)) (M2 : Mem), AW X 162 [(0, .ref (hY X.2.1.2 + 0)), (2, .long v2), (4, .long e.1), (7, .int v7), (8, .int e.2)] [] M2 → ∀ (n : Nat) (s : Int64 × Int32 × Int32) (M : Mem), lpM (fun s M => MD_levels_L52 v2 v7 s.1 s.2.1 s.2.2 M) n s M = some (e, M2) → AW X 52 [(0, .ref (hY X.2.1.2 + 0)), (2, .long v2), (4, .long s.1), (7, .int v7), (8, .int s.2.1), (9, .int s.2.2)] [] M := by
    intro v2 v7 e M2 hX
    refine lpM_ind (P := fun (s : Int64 × Int32 × Int32) (M : Mem) => AW X 52 [(0, .ref (hY X.2.1.2 + 0)), (2, .long v2), (4, .long s.1), (7, .int v7), (8, .int s.2.1), (9, .int s.2.2)] [] M) ?_
    rintro ⟨v4, v8, v9⟩ M d M3 hE hC hD
    replace hE : MD_levels_L52 v2 v7 v4 v8 v9 M = some (d, M3) := hE
    show AW X 52 [(0, .ref (hY X.2.1.2 + 0)), (2, .long v2), (4, .long v4), (7, .int v7), (8, .int v8), (9, .int v9)] [] M
    have J135 : ∀ (v4 : Int64) (v8 : Int32) (v9 : Int32) (v10 : Int32) (t0 : Int64) (t1 : Int64) (M : Mem), MD_levels_L52_J135 v2 v4 v7 v8 v9 v10 t0 t1 M = some (d, M3) → AW X 135 [(0, .ref (hY X.2.1.2 + 0)), (2, .long v2), (4, .long v4), (7, .int v7), (8, .int v8), (9, .int v9), (10, .int v10)] [.long t0, .long t1, .ref (hY X.2.1.2 + 0)] M := by
      intro v4 v8 v9 v10 t0 t1 M hE
      unfold MD_levels_L52_J135 at hE
      refine r_ladd S dX8_levels_135 ?_
      refine r_putL S fc8 (by decide) 14 rfl rfl (by decide +kernel) q_646 dX8_levels_136 ?_
      refine r_lload S dX8_levels_139 2 rfl ?_
      refine r_iload S dX8_levels_141 6 rfl ?_
      refine r_if_eq S 152 dX8_levels_143 (by decide) (fun c => ?_) (fun c => ?_)
      · try simp only [if_pos c] at hE
        refine r_lconst S (0 : Int64) dX8_levels_152 rfl ?_
        refine r_ladd S dX8_levels_153 ?_
        refine r_lstore (lv2 := [(4, .long (v4 + (0 : Int64))), (0, .ref (hY X.2.1.2 + 0)), (2, .long v2), (7, .int v7), (8, .int v8), (9, .int v9), (10, .int v10)]) S dX8_levels_154 (by decide) rfl ?_
        refine r_iinc (lv2 := [(9, .int (v9 + (1 : Int32))), (4, .long (v4 + (0 : Int64))), (0, .ref (hY X.2.1.2 + 0)), (2, .long v2), (7, .int v7), (8, .int v8), (10, .int v10)]) S dX8_levels_156 (j := 5) rfl (by decide) rfl ?_
        refine r_goto S 52 dX8_levels_159 (by decide) ?_
        obtain ⟨rfl, rfl⟩ := si2 hE
        exact r_sub (lv2 := [(0, .ref (hY X.2.1.2 + 0)), (2, .long v2), (4, .long (v4 + (0 : Int64))), (7, .int v7), (8, .int v8), (9, .int (v9 + (1 : Int32)))]) [2, 3, 1, 4, 5, 0] rfl (hC ((v4 + (0 : Int64)), v8, (v9 + (1 : Int32))) rfl)
      · try simp only [if_neg c] at hE
        refine r_iload S dX8_levels_146 3 rfl ?_
        refine r_i2l S dX8_levels_148 ?_
        refine r_goto S 153 dX8_levels_149 (by decide) ?_
        refine r_ladd S dX8_levels_153 ?_
        refine r_lstore (lv2 := [(4, .long (v4 + v7.toInt64)), (0, .ref (hY X.2.1.2 + 0)), (2, .long v2), (7, .int v7), (8, .int v8), (9, .int v9), (10, .int v10)]) S dX8_levels_154 (by decide) rfl ?_
        refine r_iinc (lv2 := [(9, .int (v9 + (1 : Int32))), (4, .long (v4 + v7.toInt64)), (0, .ref (hY X.2.1.2 + 0)), (2, .long v2), (7, .int v7), (8, .int v8), (10, .int v10)]) S dX8_levels_156 (j := 5) rfl (by decide) rfl ?_
        refine r_goto S 52 dX8_levels_159 (by decide) ?_
        obtain ⟨rfl, rfl⟩ := si2 hE
        exact r_sub (lv2 := [(0, .ref (hY X.2.1.2 + 0)), (2, .long v2), (4, .long (v4 + v7.toInt64)), (7, .int v7), (8, .int v8), (9, .int (v9 + (1 : Int32)))]) [2, 3, 1, 4, 5, 0] rfl (hC ((v4 + v7.toInt64), v8, (v9 + (1 : Int32))) rfl)
    have J118 : ∀ (v4 : Int64) (v9 : Int32) (v10 : Int32) (t0 : Int32) (M : Mem), MD_levels_L52_J118 v2 v4 v7 v9 v10 t0 M = some (d, M3) → AW X 118 [(0, .ref (hY X.2.1.2 + 0)), (2, .long v2), (4, .long v4), (7, .int v7), (9, .int v9), (10, .int v10)] [.int t0] M := by
      intro v4 v9 v10 t0 M hE
      unfold MD_levels_L52_J118 at hE
      refine r_istore (lv2 := [(8, .int t0), (0, .ref (hY X.2.1.2 + 0)), (2, .long v2), (4, .long v4), (7, .int v7), (9, .int v9), (10, .int v10)]) S dX8_levels_118 (by decide) rfl ?_
      refine r_aload_n S dX8_levels_120 1 rfl ?_
      refine r_dup S dX8_levels_121 rfl ?_
      refine r_getL S fc8 (by decide) 14 rfl q_646 dX8_levels_122 ?_
      refine r_iload S dX8_levels_125 6 rfl ?_
      refine r_if_eq S 134 dX8_levels_127 (by decide) (fun c => ?_) (fun c => ?_)
      · try simp only [if_pos c] at hE
        refine r_lconst S (0 : Int64) dX8_levels_134 rfl ?_
        exact r_sub [1, 2, 3, 4, 0, 5, 6] rfl (J135 v4 t0 v9 v10 (0 : Int64) (gL M 0 14) M hE)
      · try simp only [if_neg c] at hE
        refine r_lconst S (1 : Int64) dX8_levels_130 rfl ?_
        refine r_goto S 135 dX8_levels_131 (by decide) ?_
        exact r_sub [1, 2, 3, 4, 0, 5, 6] rfl (J135 v4 t0 v9 v10 (1 : Int64) (gL M 0 14) M hE)
    have J117 : ∀ (v4 : Int64) (v9 : Int32) (v10 : Int32) (M : Mem), MD_levels_L52_J117 v2 v4 v7 v9 v10 M = some (d, M3) → AW X 117 [(0, .ref (hY X.2.1.2 + 0)), (2, .long v2), (4, .long v4), (7, .int v7), (9, .int v9), (10, .int v10)] [] M := by
      intro v4 v9 v10 M hE
      unfold MD_levels_L52_J117 at hE
      refine r_iconst S (0 : Int32) dX8_levels_117 rfl ?_
      exact r_sub [0, 1, 2, 3, 4, 5] rfl (J118 v4 v9 v10 (0 : Int32) M hE)
    have J113 : ∀ (v4 : Int64) (v9 : Int32) (v10 : Int32) (M : Mem), MD_levels_L52_J113 v2 v4 v7 v9 v10 M = some (d, M3) → AW X 113 [(0, .ref (hY X.2.1.2 + 0)), (2, .long v2), (4, .long v4), (7, .int v7), (9, .int v9), (10, .int v10)] [] M := by
      intro v4 v9 v10 M hE
      unfold MD_levels_L52_J113 at hE
      refine r_iconst S (1 : Int32) dX8_levels_113 rfl ?_
      refine r_goto S 118 dX8_levels_114 (by decide) ?_
      exact r_sub [0, 1, 2, 3, 4, 5] rfl (J118 v4 v9 v10 (1 : Int32) M hE)
    have J86 : ∀ (v4 : Int64) (v8 : Int32) (v9 : Int32) (t0 : Int32) (M : Mem), MD_levels_L52_J86 v2 v4 v7 v8 v9 t0 M = some (d, M3) → AW X 86 [(0, .ref (hY X.2.1.2 + 0)), (2, .long v2), (4, .long v4), (7, .int v7), (8, .int v8), (9, .int v9)] [.int t0] M := by
      intro v4 v8 v9 t0 M hE
      unfold MD_levels_L52_J86 at hE
      refine r_istore (lv2 := [(10, .int t0), (0, .ref (hY X.2.1.2 + 0)), (2, .long v2), (4, .long v4), (7, .int v7), (8, .int v8), (9, .int v9)]) S dX8_levels_86 (by decide) rfl ?_
      refine r_iload S dX8_levels_88 5 rfl ?_
      refine r_if_ne S 113 dX8_levels_90 (by decide) (fun c => ?_) (fun c => ?_)
      · rw [if_pos c] at hE
        exact r_sub [1, 2, 3, 4, 6, 0] rfl (J113 v4 v9 t0 M hE)
      · rw [if_neg (not_not_intro c)] at hE
        refine r_lload_n S dX8_levels_93 2 rfl ?_
        refine r_iload S dX8_levels_94 6 rfl ?_
        refine rc_I S (rn_S S (c_MD_has _ _ (gYX S) v2 v9 M _ rfl) wdX8_has q_564 ⟨Nat.le_of_ble_eq_true rfl, Nat.le_of_ble_eq_true rfl⟩ rfl (Nat.le_of_ble_eq_true rfl) dX8_levels_96) ?_
        refine r_if_eq S 117 dX8_levels_99 (by decide) (fun c => ?_) (fun c => ?_)
        · rw [if_pos c] at hE
          exact r_sub [1, 2, 3, 4, 6, 0] rfl (J117 v4 v9 t0 M hE)
        · rw [if_neg c] at hE
          refine r_aload_n S dX8_levels_102 1 rfl ?_
          refine r_iload S dX8_levels_103 6 rfl ?_
          obtain ⟨x1, h9, hE⟩ := b1_some hE
          refine rc_I S (rn_V S fc8 (by decide) (c_MD_height _ _ (gYX S) v9 M _ h9) wdX8_height q_559 ⟨Nat.le_of_ble_eq_true rfl, Nat.le_of_ble_eq_true rfl⟩ rfl (Nat.le_of_ble_eq_true rfl) dX8_levels_105) ?_
          refine r_iload S dX8_levels_108 4 rfl ?_
          refine r_icmp_le S 117 dX8_levels_110 (by decide) (fun c => ?_) (fun c => ?_)
          · try simp only [if_pos c] at hE
            refine r_iconst S (0 : Int32) dX8_levels_117 rfl ?_
            exact r_sub [1, 2, 3, 4, 6, 0] rfl (J118 v4 v9 t0 (0 : Int32) M hE)
          · try simp only [if_neg c] at hE
            refine r_iconst S (1 : Int32) dX8_levels_113 rfl ?_
            refine r_goto S 118 dX8_levels_114 (by decide) ?_
            exact r_sub [1, 2, 3, 4, 6, 0] rfl (J118 v4 v9 t0 (1 : Int32) M hE)
    have J85 : ∀ (v4 : Int64) (v8 : Int32) (v9 : Int32) (M : Mem), MD_levels_L52_J85 v2 v4 v7 v8 v9 M = some (d, M3) → AW X 85 [(0, .ref (hY X.2.1.2 + 0)), (2, .long v2), (4, .long v4), (7, .int v7), (8, .int v8), (9, .int v9)] [] M := by
      intro v4 v8 v9 M hE
      unfold MD_levels_L52_J85 at hE
      refine r_iconst S (0 : Int32) dX8_levels_85 rfl ?_
      exact r_sub [0, 1, 2, 3, 4, 5] rfl (J86 v4 v8 v9 (0 : Int32) M hE)
    unfold MD_levels_L52 at hE
    refine r_iload S dX8_levels_52 5 rfl ?_
    refine r_aload_n S dX8_levels_54 0 rfl ?_
    refine rc_I S (rn_V S fc8 (by decide) (c_MD_many _ _ (gYX S)  M _ rfl) wdX8_many q_525 ⟨Nat.le_of_ble_eq_true rfl, Nat.le_of_ble_eq_true rfl⟩ rfl (Nat.le_of_ble_eq_true rfl) dX8_levels_55) ?_
    refine r_icmp_ge S 162 dX8_levels_58 (by decide) (fun c => ?_) (fun c => ?_)
    · rw [if_pos c] at hE
      obtain ⟨rfl, rfl⟩ := si2 hE
      rcases hD with ⟨h1, h2⟩ | ⟨_, h1⟩
      · obtain rfl := sir h1
        subst h2
        exact r_sub [0, 1, 2, 3, 4] rfl hX
      · exact (sil h1).elim
    · rw [if_neg c] at hE
      refine r_lload_n S dX8_levels_61 1 rfl ?_
      refine r_iload S dX8_levels_62 5 rfl ?_
      refine rc_I S (rn_S S (c_MD_has _ _ (gYX S) v2 v9 M _ rfl) wdX8_has q_564 ⟨Nat.le_of_ble_eq_true rfl, Nat.le_of_ble_eq_true rfl⟩ rfl (Nat.le_of_ble_eq_true rfl) dX8_levels_64) ?_
      refine r_if_eq S 85 dX8_levels_67 (by decide) (fun c => ?_) (fun c => ?_)
      · rw [if_pos c] at hE
        exact r_sub [0, 1, 2, 3, 4, 5] rfl (J85 v4 v8 v9 M hE)
      · rw [if_neg c] at hE
        refine r_aload_n S dX8_levels_70 0 rfl ?_
        refine r_iload S dX8_levels_71 5 rfl ?_
        obtain ⟨x1, h9, hE⟩ := b1_some hE
        refine rc_I S (rn_V S fc8 (by decide) (c_MD_height _ _ (gYX S) v9 M _ h9) wdX8_height q_559 ⟨Nat.le_of_ble_eq_true rfl, Nat.le_of_ble_eq_true rfl⟩ rfl (Nat.le_of_ble_eq_true rfl) dX8_levels_73) ?_
        refine r_iload S dX8_levels_76 3 rfl ?_
        refine r_icmp_ne S 85 dX8_levels_78 (by decide) (fun c => ?_) (fun c => ?_)
        · try simp only [if_pos c] at hE
          refine r_iconst S (0 : Int32) dX8_levels_85 rfl ?_
          exact r_sub [0, 1, 2, 3, 4, 5] rfl (J86 v4 v8 v9 (0 : Int32) M hE)
        · try simp only [if_neg (not_not_intro c)] at hE
          refine r_iconst S (1 : Int32) dX8_levels_81 rfl ?_
          refine r_goto S 86 dX8_levels_82 (by decide) ?_
          exact r_sub [0, 1, 2, 3, 4, 5] rfl (J86 v4 v8 v9 (1 : Int32) M hE)
  have L34 : ∀ (v2 : Int64) (e : (Int64)) (M2 : Mem), AW X 205 [(0, .ref (hY X.2.1.2 + 0)), (4, .long e)] [] M2 → ∀ (n : Nat) (s : Int64 × Int32 × Int32) (M : Mem), lpM (fun s M => MD_levels_L34 v2 s.1 s.2.1 s.2.2 M) n s M = some (e, M2) → AW X 34 [(0, .ref (hY X.2.1.2 + 0)), (2, .long v2), (4, .long s.1), (6, .int s.2.1), (7, .int s.2.2)] [] M := by
    intro v2 e M2 hX
    refine lpM_ind (P := fun (s : Int64 × Int32 × Int32) (M : Mem) => AW X 34 [(0, .ref (hY X.2.1.2 + 0)), (2, .long v2), (4, .long s.1), (6, .int s.2.1), (7, .int s.2.2)] [] M) ?_
    rintro ⟨v4, v6, v7⟩ M d M3 hE hC hD
    replace hE : MD_levels_L34 v2 v4 v6 v7 M = some (d, M3) := hE
    show AW X 34 [(0, .ref (hY X.2.1.2 + 0)), (2, .long v2), (4, .long v4), (6, .int v6), (7, .int v7)] [] M
    unfold MD_levels_L34 at hE
    refine r_iload S dX8_levels_34 4 rfl ?_
    refine r_bipush S (100 : Int32) dX8_levels_36 rfl ?_
    refine r_icmp_ge S 205 dX8_levels_38 (by decide) (fun c => ?_) (fun c => ?_)
    · rw [if_pos c] at hE
      obtain ⟨rfl, rfl⟩ := si2 hE
      rcases hD with ⟨h1, h2⟩ | ⟨_, h1⟩
      · obtain rfl := sir h1
        subst h2
        exact r_sub [0, 2] rfl hX
      · exact (sil h1).elim
    · rw [if_neg c] at hE
      refine r_iload S dX8_levels_41 3 rfl ?_
      refine r_if_ne S 205 dX8_levels_43 (by decide) (fun c => ?_) (fun c => ?_)
      · rw [if_pos c] at hE
        obtain ⟨rfl, rfl⟩ := si2 hE
        rcases hD with ⟨h1, h2⟩ | ⟨_, h1⟩
        · obtain rfl := sir h1
          subst h2
          exact r_sub [0, 2] rfl hX
        · exact (sil h1).elim
      · rw [if_neg (not_not_intro c)] at hE
        refine r_iconst S (0 : Int32) dX8_levels_46 rfl ?_
        refine r_istore (lv2 := [(8, .int (0 : Int32)), (0, .ref (hY X.2.1.2 + 0)), (2, .long v2), (4, .long v4), (6, .int v6), (7, .int v7)]) S dX8_levels_47 (by decide) rfl ?_
        refine r_iconst S (0 : Int32) dX8_levels_49 rfl ?_
        refine r_istore (lv2 := [(9, .int (0 : Int32)), (8, .int (0 : Int32)), (0, .ref (hY X.2.1.2 + 0)), (2, .long v2), (4, .long v4), (6, .int v6), (7, .int v7)]) S dX8_levels_50 (by decide) rfl ?_
        obtain ⟨e1, M2, h9, hE⟩ := b2_some hE
        refine r_sub [2, 3, 4, 6, 1, 0] rfl (L52 v2 v7  e1 M2 ?_ _ _ M h9)
        refine r_aload_n S dX8_levels_162 0 rfl ?_
        refine r_getL S fc8 (by decide) 14 rfl q_646 dX8_levels_163 ?_
        refine r_lconst S (0 : Int64) dX8_levels_166 rfl ?_
        refine r_lcmp_le S 196 dX8_levels_167 dX8_levels_168 (by decide) (fun c => ?_) (fun c => ?_)
        · rw [if_pos c] at hE
          refine r_iconst S (0 : Int32) dX8_levels_196 rfl ?_
          refine r_istore (lv2 := [(6, .int (0 : Int32)), (0, .ref (hY X.2.1.2 + 0)), (2, .long v2), (4, .long e1.1), (7, .int v7), (8, .int e1.2)]) S dX8_levels_197 (by decide) rfl ?_
          refine r_iinc (lv2 := [(7, .int (v7 + (1 : Int32))), (6, .int (0 : Int32)), (0, .ref (hY X.2.1.2 + 0)), (2, .long v2), (4, .long e1.1), (8, .int e1.2)]) S dX8_levels_199 (j := 4) rfl (by decide) rfl ?_
          refine r_goto S 34 dX8_levels_202 (by decide) ?_
          obtain ⟨rfl, rfl⟩ := si2 hE
          exact r_sub (lv2 := [(0, .ref (hY X.2.1.2 + 0)), (2, .long v2), (4, .long e1.1), (6, .int (0 : Int32)), (7, .int (v7 + (1 : Int32)))]) [2, 3, 4, 1, 0] rfl (hC (e1.1, (0 : Int32), (v7 + (1 : Int32))) rfl)
        · rw [if_neg c] at hE
          refine r_iload S dX8_levels_171 4 rfl ?_
          refine r_if_eq S 192 dX8_levels_173 (by decide) (fun c => ?_) (fun c => ?_)
          · try simp only [if_pos c] at hE
            refine r_iconst S (1 : Int32) dX8_levels_192 rfl ?_
            refine r_goto S 197 dX8_levels_193 (by decide) ?_
            refine r_istore (lv2 := [(6, .int (1 : Int32)), (0, .ref (hY X.2.1.2 + 0)), (2, .long v2), (4, .long e1.1), (7, .int v7), (8, .int e1.2)]) S dX8_levels_197 (by decide) rfl ?_
            refine r_iinc (lv2 := [(7, .int (v7 + (1 : Int32))), (6, .int (1 : Int32)), (0, .ref (hY X.2.1.2 + 0)), (2, .long v2), (4, .long e1.1), (8, .int e1.2)]) S dX8_levels_199 (j := 4) rfl (by decide) rfl ?_
            refine r_goto S 34 dX8_levels_202 (by decide) ?_
            obtain ⟨rfl, rfl⟩ := si2 hE
            exact r_sub (lv2 := [(0, .ref (hY X.2.1.2 + 0)), (2, .long v2), (4, .long e1.1), (6, .int (1 : Int32)), (7, .int (v7 + (1 : Int32)))]) [2, 3, 4, 1, 0] rfl (hC (e1.1, (1 : Int32), (v7 + (1 : Int32))) rfl)
          · try simp only [if_neg c] at hE
            refine r_lload S dX8_levels_176 2 rfl ?_
            refine r_aload_n S dX8_levels_178 0 rfl ?_
            refine r_getL S fc8 (by decide) 14 rfl q_646 dX8_levels_179 ?_
            refine r_iload S dX8_levels_182 3 rfl ?_
            refine r_i2l S dX8_levels_184 ?_
            refine r_lconst S (1 : Int64) dX8_levels_185 rfl ?_
            refine r_ladd S dX8_levels_186 ?_
            refine r_lmul S dX8_levels_187 ?_
            refine r_lcmp_gt S 196 dX8_levels_188 dX8_levels_189 (by decide) (fun c => ?_) (fun c => ?_)
            · try simp only [if_pos c] at hE
              refine r_iconst S (0 : Int32) dX8_levels_196 rfl ?_
              refine r_istore (lv2 := [(6, .int (0 : Int32)), (0, .ref (hY X.2.1.2 + 0)), (2, .long v2), (4, .long e1.1), (7, .int v7), (8, .int e1.2)]) S dX8_levels_197 (by decide) rfl ?_
              refine r_iinc (lv2 := [(7, .int (v7 + (1 : Int32))), (6, .int (0 : Int32)), (0, .ref (hY X.2.1.2 + 0)), (2, .long v2), (4, .long e1.1), (8, .int e1.2)]) S dX8_levels_199 (j := 4) rfl (by decide) rfl ?_
              refine r_goto S 34 dX8_levels_202 (by decide) ?_
              obtain ⟨rfl, rfl⟩ := si2 hE
              exact r_sub (lv2 := [(0, .ref (hY X.2.1.2 + 0)), (2, .long v2), (4, .long e1.1), (6, .int (0 : Int32)), (7, .int (v7 + (1 : Int32)))]) [2, 3, 4, 1, 0] rfl (hC (e1.1, (0 : Int32), (v7 + (1 : Int32))) rfl)
            · try simp only [if_neg c] at hE
              refine r_iconst S (1 : Int32) dX8_levels_192 rfl ?_
              refine r_goto S 197 dX8_levels_193 (by decide) ?_
              refine r_istore (lv2 := [(6, .int (1 : Int32)), (0, .ref (hY X.2.1.2 + 0)), (2, .long v2), (4, .long e1.1), (7, .int v7), (8, .int e1.2)]) S dX8_levels_197 (by decide) rfl ?_
              refine r_iinc (lv2 := [(7, .int (v7 + (1 : Int32))), (6, .int (1 : Int32)), (0, .ref (hY X.2.1.2 + 0)), (2, .long v2), (4, .long e1.1), (8, .int e1.2)]) S dX8_levels_199 (j := 4) rfl (by decide) rfl ?_
              refine r_goto S 34 dX8_levels_202 (by decide) ?_
              obtain ⟨rfl, rfl⟩ := si2 hE
              exact r_sub (lv2 := [(0, .ref (hY X.2.1.2 + 0)), (2, .long v2), (4, .long e1.1), (6, .int (1 : Int32)), (7, .int (v7 + (1 : Int32)))]) [2, 3, 4, 1, 0] rfl (hC (e1.1, (1 : Int32), (v7 + (1 : Int32))) rfl)
  unfold MD_levels at hE
  refine r_aload_n S dX8_levels_0 0 rfl ?_
  refine r_getRK S fc8 (by decide) 0 1 rfl rfl q_523 dX8_levels_1 ?_
  refine r_sipush S (152 : Int32) dX8_levels_4 rfl ?_
  refine r_iload_n S dX8_levels_7 1 rfl ?_
  refine r_iadd S dX8_levels_8 ?_
  obtain ⟨hi, hE⟩ := ck_some hE
  refine r_lald S (by decide) hi dX8_levels_9 ?_
  refine r_lstore_n (lv2 := [(2, .long (gL M 1 ((152 : Int32) + a1).toNatClampNeg)), (0, .ref (hY X.2.1.2 + 0)), (1, .int a1)]) S dX8_levels_10 (by decide) rfl ?_
  refine r_aload_n S dX8_levels_11 1 rfl ?_
  refine r_getRK S fc8 (by decide) 0 1 rfl rfl q_523 dX8_levels_12 ?_
  refine r_sipush S (224 : Int32) dX8_levels_15 rfl ?_
  refine r_iload_n S dX8_levels_18 2 rfl ?_
  refine r_iadd S dX8_levels_19 ?_
  obtain ⟨hi, hE⟩ := ck_some hE
  refine r_lald S (by decide) hi dX8_levels_20 ?_
  refine r_lstore (lv2 := [(4, .long (gL M 1 ((224 : Int32) + a1).toNatClampNeg)), (2, .long (gL M 1 ((152 : Int32) + a1).toNatClampNeg)), (0, .ref (hY X.2.1.2 + 0)), (1, .int a1)]) S dX8_levels_21 (by decide) rfl ?_
  refine r_aload_n S dX8_levels_23 2 rfl ?_
  refine r_lconst S (0 : Int64) dX8_levels_24 rfl ?_
  refine r_putL S fc8 (by decide) 14 rfl rfl (by decide +kernel) q_646 dX8_levels_25 ?_
  refine r_iconst S (0 : Int32) dX8_levels_28 rfl ?_
  refine r_istore (lv2 := [(6, .int (0 : Int32)), (4, .long (gL M 1 ((224 : Int32) + a1).toNatClampNeg)), (2, .long (gL M 1 ((152 : Int32) + a1).toNatClampNeg)), (0, .ref (hY X.2.1.2 + 0)), (1, .int a1)]) S dX8_levels_29 (by decide) rfl ?_
  refine r_iconst S (0 : Int32) dX8_levels_31 rfl ?_
  refine r_istore (lv2 := [(7, .int (0 : Int32)), (6, .int (0 : Int32)), (4, .long (gL M 1 ((224 : Int32) + a1).toNatClampNeg)), (2, .long (gL M 1 ((152 : Int32) + a1).toNatClampNeg)), (0, .ref (hY X.2.1.2 + 0)), (1, .int a1)]) S dX8_levels_32 (by decide) rfl ?_
  obtain ⟨e1, M2, h9, hE⟩ := b2_some hE
  refine r_sub [4, 3, 2, 1, 0] rfl (L34 (gL M 1 ((152 : Int32) + a1).toNatClampNeg)  e1 M2 ?_ _ _ (sL M 0 14 (0 : Int64)) h9)
  refine r_aload_n S dX8_levels_205 0 rfl ?_
  refine r_lload S dX8_levels_206 1 rfl ?_
  refine r_putL S fc8 (by decide) 13 rfl rfl (by decide +kernel) q_647 dX8_levels_208 ?_
  obtain ⟨rfl, rfl⟩ := si2 hE
  exact hret _ _ dX8_levels_211
set_option maxRecDepth 100000 in
set_option maxHeartbeats 4000000 in
theorem c_MD_isWet (l : Launch) (Y : Env1) (hG : gY Y = gM) (a1 : Int32) (M : Mem) (r : Int32) (M1 : Mem) (hE : MD_isWet a1 M = some (r, M1)) : CnI l Y yX8_isWet cX8_isWet 3 .boolean 2 [.ref (hY Y + 0), .int a1] M r M1 := by
  refine met_Z (own := RX8) (by decide +kernel) rfl hG (Nat.le_of_ble_eq_true rfl) (fun X S hY1 hl1 hret => ?_)
  subst hY1
  subst hl1
  show AW X 0 [(0, .ref (hY X.2.1.2 + 0)), (1, .int a1)] [] M
  unfold MD_isWet at hE
  refine r_aload_n S dX8_isWet_0 0 rfl ?_
  refine r_iload_n S dX8_isWet_1 1 rfl ?_
  obtain ⟨x1, h9, hE⟩ := b1_some hE
  refine rc_I S (rn_V S fc8 (by decide) (c_MD_lakeOf _ _ (gYX S) a1 M _ h9) wdX8_lakeOf q_612 ⟨Nat.le_of_ble_eq_true rfl, Nat.le_of_ble_eq_true rfl⟩ rfl (Nat.le_of_ble_eq_true rfl) dX8_isWet_2) ?_
  refine r_istore_n (lv2 := [(2, .int x1), (0, .ref (hY X.2.1.2 + 0)), (1, .int a1)]) S dX8_isWet_5 (by decide) rfl ?_
  refine r_iload_n S dX8_isWet_6 0 rfl ?_
  refine r_iconst S (-1 : Int32) dX8_isWet_7 rfl ?_
  refine r_icmp_ne S 13 dX8_isWet_8 (by decide) (fun c => ?_) (fun c => ?_)
  · rw [if_pos c] at hE
    refine r_aload_n S dX8_isWet_13 1 rfl ?_
    refine r_iload_n S dX8_isWet_14 0 rfl ?_
    obtain ⟨x2, M3, h9, hE⟩ := b2_some hE
    refine rc_V S (rn_V S fc8 (by decide) (c_MD_levels _ _ (gYX S) x1 M _ _ h9) wdX8_levels q_648 ⟨Nat.le_of_ble_eq_true rfl, Nat.le_of_ble_eq_true rfl⟩ rfl (Nat.le_of_ble_eq_true rfl) dX8_isWet_15) ?_
    refine r_aload_n S dX8_isWet_18 1 rfl ?_
    refine r_getL S fc8 (by decide) 13 rfl q_647 dX8_isWet_19 ?_
    refine r_aload_n S dX8_isWet_22 1 rfl ?_
    refine r_getL S fc8 (by decide) 14 rfl q_646 dX8_isWet_23 ?_
    refine r_aload_n S dX8_isWet_26 1 rfl ?_
    refine r_iload_n S dX8_isWet_27 2 rfl ?_
    obtain ⟨x4, h9, hE⟩ := b1_some hE
    refine rc_I S (rn_V S fc8 (by decide) (c_MD_height _ _ (gYX S) a1 M3 _ h9) wdX8_height q_559 ⟨Nat.le_of_ble_eq_true rfl, Nat.le_of_ble_eq_true rfl⟩ rfl (Nat.le_of_ble_eq_true rfl) dX8_isWet_28) ?_
    refine r_i2l S dX8_isWet_31 ?_
    refine r_lmul S dX8_isWet_32 ?_
    refine r_lcmp_le S 41 dX8_isWet_33 dX8_isWet_34 (by decide) (fun c => ?_) (fun c => ?_)
    · rw [if_pos c] at hE
      refine r_iconst S (0 : Int32) dX8_isWet_41 rfl ?_
      obtain ⟨rfl, rfl⟩ := si2 hE
      exact hret _ _ _ dX8_isWet_42 (by decide)
    · rw [if_neg c] at hE
      refine r_iconst S (1 : Int32) dX8_isWet_37 rfl ?_
      refine r_goto S 42 dX8_isWet_38 (by decide) ?_
      obtain ⟨rfl, rfl⟩ := si2 hE
      exact hret _ _ _ dX8_isWet_42 (by decide)
  · rw [if_neg (not_not_intro c)] at hE
    refine r_iconst S (0 : Int32) dX8_isWet_11 rfl ?_
    obtain ⟨rfl, rfl⟩ := si2 hE
    exact hret _ _ _ dX8_isWet_12 (by decide)
set_option maxRecDepth 100000 in
set_option maxHeartbeats 4000000 in
theorem c_MD_wetOf (l : Launch) (Y : Env1) (hG : gY Y = gM) (a1 : Int64) (M : Mem) (r : Int32) (M1 : Mem) (hE : MD_wetOf a1 M = some (r, M1)) : CnI l Y yX8_wetOf cX8_wetOf 5 .int 3 [.ref (hY Y + 0), .long a1] M r M1 := by
  refine met_I (own := RX8) (by decide +kernel) rfl hG (Nat.le_of_ble_eq_true rfl) (fun X S hY1 hl1 hret => ?_)
  subst hY1
  subst hl1
  show AW X 0 [(0, .ref (hY X.2.1.2 + 0)), (1, .long a1)] [] M
  have L5 : ∀ (v1 : Int64) (e : (Int32)) (M2 : Mem), AW X 46 [(3, .int e)] [] M2 → ∀ (n : Nat) (s : Int32 × Int32) (M : Mem), lpM (fun s M => MD_wetOf_L5 v1 s.1 s.2 M) n s M = some (e, M2) → AW X 5 [(0, .ref (hY X.2.1.2 + 0)), (1, .long v1), (3, .int s.1), (4, .int s.2)] [] M := by
    intro v1 e M2 hX
    refine lpM_ind (P := fun (s : Int32 × Int32) (M : Mem) => AW X 5 [(0, .ref (hY X.2.1.2 + 0)), (1, .long v1), (3, .int s.1), (4, .int s.2)] [] M) ?_
    rintro ⟨v3, v4⟩ M d M3 hE hC hD
    replace hE : MD_wetOf_L5 v1 v3 v4 M = some (d, M3) := hE
    show AW X 5 [(0, .ref (hY X.2.1.2 + 0)), (1, .long v1), (3, .int v3), (4, .int v4)] [] M
    unfold MD_wetOf_L5 at hE
    refine r_iload S dX8_wetOf_5 3 rfl ?_
    refine r_aload_n S dX8_wetOf_7 0 rfl ?_
    refine rc_I S (rn_V S fc8 (by decide) (c_MD_many _ _ (gYX S)  M _ rfl) wdX8_many q_525 ⟨Nat.le_of_ble_eq_true rfl, Nat.le_of_ble_eq_true rfl⟩ rfl (Nat.le_of_ble_eq_true rfl) dX8_wetOf_8) ?_
    refine r_icmp_ge S 46 dX8_wetOf_11 (by decide) (fun c => ?_) (fun c => ?_)
    · rw [if_pos c] at hE
      obtain ⟨rfl, rfl⟩ := si2 hE
      rcases hD with ⟨h1, h2⟩ | ⟨_, h1⟩
      · obtain rfl := sir h1
        subst h2
        exact r_sub [2] rfl hX
      · exact (sil h1).elim
    · rw [if_neg c] at hE
      refine r_iload_n S dX8_wetOf_14 2 rfl ?_
      refine r_lload_n S dX8_wetOf_15 1 rfl ?_
      refine r_iload S dX8_wetOf_16 3 rfl ?_
      refine rc_I S (rn_S S (c_MD_has _ _ (gYX S) v1 v4 M _ rfl) wdX8_has q_564 ⟨Nat.le_of_ble_eq_true rfl, Nat.le_of_ble_eq_true rfl⟩ rfl (Nat.le_of_ble_eq_true rfl) dX8_wetOf_18) ?_
      refine r_if_eq S 37 dX8_wetOf_21 (by decide) (fun c => ?_) (fun c => ?_)
      · rw [if_pos c] at hE
        refine r_iconst S (0 : Int32) dX8_wetOf_37 rfl ?_
        refine r_iadd S dX8_wetOf_38 ?_
        refine r_istore_n (lv2 := [(3, .int (v3 + (0 : Int32))), (0, .ref (hY X.2.1.2 + 0)), (1, .long v1), (4, .int v4)]) S dX8_wetOf_39 (by decide) rfl ?_
        refine r_iinc (lv2 := [(4, .int (v4 + (1 : Int32))), (3, .int (v3 + (0 : Int32))), (0, .ref (hY X.2.1.2 + 0)), (1, .long v1)]) S dX8_wetOf_40 (j := 3) rfl (by decide) rfl ?_
        refine r_goto S 5 dX8_wetOf_43 (by decide) ?_
        obtain ⟨rfl, rfl⟩ := si2 hE
        exact r_sub (lv2 := [(0, .ref (hY X.2.1.2 + 0)), (1, .long v1), (3, .int (v3 + (0 : Int32))), (4, .int (v4 + (1 : Int32)))]) [2, 3, 1, 0] rfl (hC ((v3 + (0 : Int32)), (v4 + (1 : Int32))) rfl)
      · rw [if_neg c] at hE
        refine r_aload_n S dX8_wetOf_24 0 rfl ?_
        refine r_iload S dX8_wetOf_25 3 rfl ?_
        obtain ⟨x1, M2, h9, hE⟩ := b2_some hE
        refine rc_I S (rn_V S fc8 (by decide) (c_MD_isWet _ _ (gYX S) v4 M _ _ h9) wdX8_isWet q_653 ⟨Nat.le_of_ble_eq_true rfl, Nat.le_of_ble_eq_true rfl⟩ rfl (Nat.le_of_ble_eq_true rfl) dX8_wetOf_27) ?_
        refine r_if_eq S 37 dX8_wetOf_30 (by decide) (fun c => ?_) (fun c => ?_)
        · try simp only [if_pos c] at hE
          refine r_iconst S (0 : Int32) dX8_wetOf_37 rfl ?_
          refine r_iadd S dX8_wetOf_38 ?_
          refine r_istore_n (lv2 := [(3, .int (v3 + (0 : Int32))), (0, .ref (hY X.2.1.2 + 0)), (1, .long v1), (4, .int v4)]) S dX8_wetOf_39 (by decide) rfl ?_
          refine r_iinc (lv2 := [(4, .int (v4 + (1 : Int32))), (3, .int (v3 + (0 : Int32))), (0, .ref (hY X.2.1.2 + 0)), (1, .long v1)]) S dX8_wetOf_40 (j := 3) rfl (by decide) rfl ?_
          refine r_goto S 5 dX8_wetOf_43 (by decide) ?_
          obtain ⟨rfl, rfl⟩ := si2 hE
          exact r_sub (lv2 := [(0, .ref (hY X.2.1.2 + 0)), (1, .long v1), (3, .int (v3 + (0 : Int32))), (4, .int (v4 + (1 : Int32)))]) [2, 3, 1, 0] rfl (hC ((v3 + (0 : Int32)), (v4 + (1 : Int32))) rfl)
        · try simp only [if_neg c] at hE
          refine r_iconst S (1 : Int32) dX8_wetOf_33 rfl ?_
          refine r_goto S 38 dX8_wetOf_34 (by decide) ?_
          refine r_iadd S dX8_wetOf_38 ?_
          refine r_istore_n (lv2 := [(3, .int (v3 + (1 : Int32))), (0, .ref (hY X.2.1.2 + 0)), (1, .long v1), (4, .int v4)]) S dX8_wetOf_39 (by decide) rfl ?_
          refine r_iinc (lv2 := [(4, .int (v4 + (1 : Int32))), (3, .int (v3 + (1 : Int32))), (0, .ref (hY X.2.1.2 + 0)), (1, .long v1)]) S dX8_wetOf_40 (j := 3) rfl (by decide) rfl ?_
          refine r_goto S 5 dX8_wetOf_43 (by decide) ?_
          obtain ⟨rfl, rfl⟩ := si2 hE
          exact r_sub (lv2 := [(0, .ref (hY X.2.1.2 + 0)), (1, .long v1), (3, .int (v3 + (1 : Int32))), (4, .int (v4 + (1 : Int32)))]) [2, 3, 1, 0] rfl (hC ((v3 + (1 : Int32)), (v4 + (1 : Int32))) rfl)
  unfold MD_wetOf at hE
  refine r_iconst S (0 : Int32) dX8_wetOf_0 rfl ?_
  refine r_istore_n (lv2 := [(3, .int (0 : Int32)), (0, .ref (hY X.2.1.2 + 0)), (1, .long a1)]) S dX8_wetOf_1 (by decide) rfl ?_
  refine r_iconst S (0 : Int32) dX8_wetOf_2 rfl ?_
  refine r_istore (lv2 := [(4, .int (0 : Int32)), (3, .int (0 : Int32)), (0, .ref (hY X.2.1.2 + 0)), (1, .long a1)]) S dX8_wetOf_3 (by decide) rfl ?_
  obtain ⟨e1, M2, h9, hE⟩ := b2_some hE
  refine r_sub [2, 3, 1, 0] rfl (L5 a1  e1 M2 ?_ _ _ M h9)
  refine r_iload_n S dX8_wetOf_46 0 rfl ?_
  obtain ⟨rfl, rfl⟩ := si2 hE
  exact hret _ _ dX8_wetOf_47
set_option maxRecDepth 100000 in
set_option maxHeartbeats 4000000 in
theorem c_MD_wet (l : Launch) (Y : Env1) (hG : gY Y = gM) (M : Mem) (r : Int32) (M1 : Mem) (hE : MD_wet M = some (r, M1)) : CnI l Y yX8_wet cX8_wet 1 .int 4 [.ref (hY Y + 0)] M r M1 := by
  refine met_I (own := RX8) (by decide +kernel) rfl hG (Nat.le_of_ble_eq_true rfl) (fun X S hY1 hl1 hret => ?_)
  subst hY1
  subst hl1
  show AW X 0 [(0, .ref (hY X.2.1.2 + 0))] [] M
  unfold MD_wet at hE
  refine r_aload_n S dX8_wet_0 0 rfl ?_
  refine r_lconst S (1 : Int64) dX8_wet_1 rfl ?_
  refine r_aload_n S dX8_wet_2 0 rfl ?_
  refine rc_I S (rn_V S fc8 (by decide) (c_MD_many _ _ (gYX S)  M _ rfl) wdX8_many q_525 ⟨Nat.le_of_ble_eq_true rfl, Nat.le_of_ble_eq_true rfl⟩ rfl (Nat.le_of_ble_eq_true rfl) dX8_wet_3) ?_
  refine r_lshl S dX8_wet_6 ?_
  refine r_lconst S (1 : Int64) dX8_wet_7 rfl ?_
  refine r_lsub S dX8_wet_8 ?_
  obtain ⟨x1, M2, h9, hE⟩ := b2_some hE
  refine rc_I S (rn_V S fc8 (by decide) (c_MD_wetOf _ _ (gYX S) ((lsh (1 : Int64) (MD_many M)) - (1 : Int64)) M _ _ h9) wdX8_wetOf q_658 ⟨Nat.le_of_ble_eq_true rfl, Nat.le_of_ble_eq_true rfl⟩ rfl (Nat.le_of_ble_eq_true rfl) dX8_wet_9) ?_
  obtain ⟨rfl, rfl⟩ := si2 hE
  exact hret _ _ dX8_wet_12
set_option maxRecDepth 100000 in
set_option maxHeartbeats 4000000 in
theorem c_MD_divisor (l : Launch) (Y : Env1) (hG : gY Y = gM) (a0 : Int64) (a2 : Int64) (M : Mem) (r : Int64) (hE : MD_divisor a0 a2 = some r) : CnL l Y yX8_divisor cX8_divisor 10 0 [.long a0, .long a2] M r M := by
  refine met_L (own := RX8) (by decide +kernel) rfl hG (Nat.le_of_ble_eq_true rfl) (fun X S hY1 hl1 hret => ?_)
  subst hY1
  subst hl1
  show AW X 0 [(0, .long a0), (2, .long a2)] [] M
  have L6 : ∀ (e : (Int64)), AW X 31 [(4, .long e)] [] M → ∀ (n : Nat) (s : Int64 × Int64), lpR (fun s => MD_divisor_L6 s.1 s.2) n s = some e → AW X 6 [(4, .long s.1), (6, .long s.2)] [] M := by
    intro e hX
    refine lpR_ind (P := fun (s : Int64 × Int64) => AW X 6 [(4, .long s.1), (6, .long s.2)] [] M) ?_
    rintro ⟨v4, v6⟩ d hE hC hD
    replace hE : MD_divisor_L6 v4 v6 = some d := hE
    show AW X 6 [(4, .long v4), (6, .long v6)] [] M
    unfold MD_divisor_L6 at hE
    refine r_lload S dX8_divisor_6 1 rfl ?_
    refine r_lconst S (0 : Int64) dX8_divisor_8 rfl ?_
    refine r_lcmp_eq S 31 dX8_divisor_9 dX8_divisor_10 (by decide) (fun c => ?_) (fun c => ?_)
    · rw [if_pos c] at hE
      obtain rfl := si1 hE
      rcases hD with h1 | ⟨_, h1⟩
      · obtain rfl := sir h1
        exact r_sub [0] rfl hX
      · exact (sil h1).elim
    · rw [if_neg c] at hE
      refine r_lload S dX8_divisor_13 0 rfl ?_
      refine r_lload S dX8_divisor_15 1 rfl ?_
      obtain ⟨hy, hE⟩ := ck_some hE
      refine r_lrem S dX8_divisor_17 (of_decide_eq_true hy) ?_
      refine r_lstore (lv2 := [(8, .long (lrm v4 v6)), (4, .long v4), (6, .long v6)]) S dX8_divisor_18 (by decide) rfl ?_
      refine r_lload S dX8_divisor_20 2 rfl ?_
      refine r_lstore (lv2 := [(4, .long v6), (8, .long (lrm v4 v6)), (6, .long v6)]) S dX8_divisor_22 (by decide) rfl ?_
      refine r_lload S dX8_divisor_24 1 rfl ?_
      refine r_lstore (lv2 := [(6, .long (lrm v4 v6)), (4, .long v6), (8, .long (lrm v4 v6))]) S dX8_divisor_26 (by decide) rfl ?_
      refine r_goto S 6 dX8_divisor_28 (by decide) ?_
      obtain rfl := si1 hE
      exact r_sub (lv2 := [(4, .long v6), (6, .long (lrm v4 v6))]) [1, 0] rfl (hC (v6, (lrm v4 v6)) rfl)
  unfold MD_divisor at hE
  refine r_lload_n S dX8_divisor_0 0 rfl ?_
  refine r_lstore (lv2 := [(4, .long a0), (0, .long a0), (2, .long a2)]) S dX8_divisor_1 (by decide) rfl ?_
  refine r_lload_n S dX8_divisor_3 2 rfl ?_
  refine r_lstore (lv2 := [(6, .long a2), (4, .long a0), (0, .long a0), (2, .long a2)]) S dX8_divisor_4 (by decide) rfl ?_
  obtain ⟨e1, h9, hE⟩ := b1_some hE
  refine r_sub [1, 0] rfl (L6   e1 ?_ _ _  h9)
  refine r_lload S dX8_divisor_31 0 rfl ?_
  obtain rfl := si1 hE
  exact hret _ _ dX8_divisor_33
set_option maxRecDepth 100000 in
set_option maxHeartbeats 4000000 in
theorem c_MD_bits (l : Launch) (Y : Env1) (hG : gY Y = gM) (a0 : Int64) (M : Mem) (r : Int32) (hE : MD_bits a0 = some r) : CnI l Y yX8_bits cX8_bits 5 .int 0 [.long a0] M r M := by
  refine met_I (own := RX8) (by decide +kernel) rfl hG (Nat.le_of_ble_eq_true rfl) (fun X S hY1 hl1 hret => ?_)
  subst hY1
  subst hl1
  show AW X 0 [(0, .long a0)] [] M
  have L4 : ∀ (e : (Int32)), AW X 22 [(2, .int e)] [] M → ∀ (n : Nat) (s : Int32 × Int64), lpR (fun s => MD_bits_L4 s.1 s.2) n s = some e → AW X 4 [(2, .int s.1), (3, .long s.2)] [] M := by
    intro e hX
    refine lpR_ind (P := fun (s : Int32 × Int64) => AW X 4 [(2, .int s.1), (3, .long s.2)] [] M) ?_
    rintro ⟨v2, v3⟩ d hE hC hD
    replace hE : MD_bits_L4 v2 v3 = some d := hE
    show AW X 4 [(2, .int v2), (3, .long v3)] [] M
    unfold MD_bits_L4 at hE
    refine r_lload_n S dX8_bits_4 1 rfl ?_
    refine r_lconst S (0 : Int64) dX8_bits_5 rfl ?_
    refine r_lcmp_eq S 22 dX8_bits_6 dX8_bits_7 (by decide) (fun c => ?_) (fun c => ?_)
    · rw [if_pos c] at hE
      obtain rfl := si1 hE
      rcases hD with h1 | ⟨_, h1⟩
      · obtain rfl := sir h1
        exact r_sub [0] rfl hX
      · exact (sil h1).elim
    · rw [if_neg c] at hE
      refine r_iinc (lv2 := [(2, .int (v2 + (1 : Int32))), (3, .long v3)]) S dX8_bits_10 (j := 0) rfl (by decide) rfl ?_
      refine r_lload_n S dX8_bits_13 1 rfl ?_
      refine r_lload_n S dX8_bits_14 1 rfl ?_
      refine r_lconst S (1 : Int64) dX8_bits_15 rfl ?_
      refine r_lsub S dX8_bits_16 ?_
      refine r_land S dX8_bits_17 ?_
      refine r_lstore_n (lv2 := [(3, .long (v3 &&& (v3 - (1 : Int64)))), (2, .int (v2 + (1 : Int32)))]) S dX8_bits_18 (by decide) rfl ?_
      refine r_goto S 4 dX8_bits_19 (by decide) ?_
      obtain rfl := si1 hE
      exact r_sub (lv2 := [(2, .int (v2 + (1 : Int32))), (3, .long (v3 &&& (v3 - (1 : Int64))))]) [1, 0] rfl (hC ((v2 + (1 : Int32)), (v3 &&& (v3 - (1 : Int64)))) rfl)
  unfold MD_bits at hE
  refine r_iconst S (0 : Int32) dX8_bits_0 rfl ?_
  refine r_istore_n (lv2 := [(2, .int (0 : Int32)), (0, .long a0)]) S dX8_bits_1 (by decide) rfl ?_
  refine r_lload_n S dX8_bits_2 1 rfl ?_
  refine r_lstore_n (lv2 := [(3, .long a0), (2, .int (0 : Int32)), (0, .long a0)]) S dX8_bits_3 (by decide) rfl ?_
  obtain ⟨e1, h9, hE⟩ := b1_some hE
  refine r_sub [1, 0] rfl (L4   e1 ?_ _ _  h9)
  refine r_iload_n S dX8_bits_22 0 rfl ?_
  obtain rfl := si1 hE
  exact hret _ _ dX8_bits_23
set_option maxRecDepth 100000 in
set_option maxHeartbeats 4000000 in
theorem c_MD_remembers (l : Launch) (Y : Env1) (hG : gY Y = gM) (M : Mem) (r : Unit) (M1 : Mem) (hE : MD_remembers M = some (r, M1)) : CnV l Y yX8_remembers cX8_remembers 5 3 [.ref (hY Y + 0)] M M1 := by
  refine met_V (own := RX8) (by decide +kernel) rfl hG (Nat.le_of_ble_eq_true rfl) (fun X S hY1 hl1 hret => ?_)
  subst hY1
  subst hl1
  show AW X 0 [(0, .ref (hY X.2.1.2 + 0))] [] M
  have L47 : ∀ (v1 : Int32) (M : Mem) (e : (Int32)), AW X 111 [(0, .ref (hY X.2.1.2 + 0)), (1, .int v1), (2, .int e)] [] M → ∀ (n : Nat) (s : Int32 × Int32), lpR (fun s => MD_remembers_L47 v1 s.1 s.2 M) n s = some e → AW X 47 [(0, .ref (hY X.2.1.2 + 0)), (1, .int v1), (2, .int s.1), (3, .int s.2)] [] M := by
    intro v1 M e hX
    refine lpR_ind (P := fun (s : Int32 × Int32) => AW X 47 [(0, .ref (hY X.2.1.2 + 0)), (1, .int v1), (2, .int s.1), (3, .int s.2)] [] M) ?_
    rintro ⟨v2, v3⟩ d hE hC hD
    replace hE : MD_remembers_L47 v1 v2 v3 M = some d := hE
    show AW X 47 [(0, .ref (hY X.2.1.2 + 0)), (1, .int v1), (2, .int v2), (3, .int v3)] [] M
    unfold MD_remembers_L47 at hE
    refine r_iload_n S dX8_remembers_47 3 rfl ?_
    refine r_aload_n S dX8_remembers_48 0 rfl ?_
    refine rc_I S (rn_V S fc8 (by decide) (c_MD_many _ _ (gYX S)  M _ rfl) wdX8_many q_525 ⟨Nat.le_of_ble_eq_true rfl, Nat.le_of_ble_eq_true rfl⟩ rfl (Nat.le_of_ble_eq_true rfl) dX8_remembers_49) ?_
    refine r_icmp_ge S 111 dX8_remembers_52 (by decide) (fun c => ?_) (fun c => ?_)
    · rw [if_pos c] at hE
      obtain rfl := si1 hE
      rcases hD with h1 | ⟨_, h1⟩
      · obtain rfl := sir h1
        exact r_sub [0, 1, 2] rfl hX
      · exact (sil h1).elim
    · rw [if_neg c] at hE
      refine r_aload_n S dX8_remembers_55 0 rfl ?_
      refine r_getRK S fc8 (by decide) 0 1 rfl rfl q_523 dX8_remembers_56 ?_
      refine r_sipush S (152 : Int32) dX8_remembers_59 rfl ?_
      refine r_aload_n S dX8_remembers_62 0 rfl ?_
      refine r_getRK S fc8 (by decide) 11 7 rfl rfl q_640 dX8_remembers_63 ?_
      refine r_iload_n S dX8_remembers_66 1 rfl ?_
      obtain ⟨hi, hE⟩ := ck_some hE
      refine r_iald S (by decide) hi dX8_remembers_67 ?_
      refine r_iadd S dX8_remembers_68 ?_
      obtain ⟨hi, hE⟩ := ck_some hE
      refine r_lald S (by decide) hi dX8_remembers_69 ?_
      refine r_iload_n S dX8_remembers_70 3 rfl ?_
      refine rc_I S (rn_S S (c_MD_has _ _ (gYX S) (gL M 1 ((152 : Int32) + (gI M 7 v1.toNatClampNeg)).toNatClampNeg) v3 M _ rfl) wdX8_has q_564 ⟨Nat.le_of_ble_eq_true rfl, Nat.le_of_ble_eq_true rfl⟩ rfl (Nat.le_of_ble_eq_true rfl) dX8_remembers_71) ?_
      refine r_istore (lv2 := [(4, .int (MD_has (gL M 1 ((152 : Int32) + (gI M 7 v1.toNatClampNeg)).toNatClampNeg) v3)), (0, .ref (hY X.2.1.2 + 0)), (1, .int v1), (2, .int v2), (3, .int v3)]) S dX8_remembers_74 (by decide) rfl ?_
      refine r_iload S dX8_remembers_76 0 rfl ?_
      refine r_if_eq S 103 dX8_remembers_78 (by decide) (fun c => ?_) (fun c => ?_)
      · rw [if_pos c] at hE
        refine r_iload_n S dX8_remembers_103 3 rfl ?_
        refine r_istore_n (lv2 := [(2, .int v2), (4, .int (MD_has (gL M 1 ((152 : Int32) + (gI M 7 v1.toNatClampNeg)).toNatClampNeg) v3)), (0, .ref (hY X.2.1.2 + 0)), (1, .int v1), (3, .int v3)]) S dX8_remembers_104 (by decide) rfl ?_
        refine r_iinc (lv2 := [(3, .int (v3 + (1 : Int32))), (2, .int v2), (4, .int (MD_has (gL M 1 ((152 : Int32) + (gI M 7 v1.toNatClampNeg)).toNatClampNeg) v3)), (0, .ref (hY X.2.1.2 + 0)), (1, .int v1)]) S dX8_remembers_105 (j := 4) rfl (by decide) rfl ?_
        refine r_goto S 47 dX8_remembers_108 (by decide) ?_
        obtain rfl := si1 hE
        exact r_sub (lv2 := [(0, .ref (hY X.2.1.2 + 0)), (1, .int v1), (2, .int v2), (3, .int (v3 + (1 : Int32)))]) [3, 4, 1, 0] rfl (hC (v2, (v3 + (1 : Int32))) rfl)
      · rw [if_neg c] at hE
        refine r_iload_n S dX8_remembers_81 3 rfl ?_
        refine r_iconst S (-1 : Int32) dX8_remembers_82 rfl ?_
        refine r_icmp_eq S 99 dX8_remembers_83 (by decide) (fun c => ?_) (fun c => ?_)
        · rw [if_pos c] at hE
          refine r_iload_n S dX8_remembers_99 4 rfl ?_
          refine r_goto S 104 dX8_remembers_100 (by decide) ?_
          refine r_istore_n (lv2 := [(2, .int v3), (4, .int (MD_has (gL M 1 ((152 : Int32) + (gI M 7 v1.toNatClampNeg)).toNatClampNeg) v3)), (0, .ref (hY X.2.1.2 + 0)), (1, .int v1), (3, .int v3)]) S dX8_remembers_104 (by decide) rfl ?_
          refine r_iinc (lv2 := [(3, .int (v3 + (1 : Int32))), (2, .int v3), (4, .int (MD_has (gL M 1 ((152 : Int32) + (gI M 7 v1.toNatClampNeg)).toNatClampNeg) v3)), (0, .ref (hY X.2.1.2 + 0)), (1, .int v1)]) S dX8_remembers_105 (j := 4) rfl (by decide) rfl ?_
          refine r_goto S 47 dX8_remembers_108 (by decide) ?_
          obtain rfl := si1 hE
          exact r_sub (lv2 := [(0, .ref (hY X.2.1.2 + 0)), (1, .int v1), (2, .int v3), (3, .int (v3 + (1 : Int32)))]) [3, 4, 1, 0] rfl (hC (v3, (v3 + (1 : Int32))) rfl)
        · rw [if_neg c] at hE
          refine r_aload_n S dX8_remembers_86 1 rfl ?_
          refine r_iload_n S dX8_remembers_87 4 rfl ?_
          obtain ⟨x1, h9, hE⟩ := b1_some hE
          refine rc_I S (rn_V S fc8 (by decide) (c_MD_height _ _ (gYX S) v3 M _ h9) wdX8_height q_559 ⟨Nat.le_of_ble_eq_true rfl, Nat.le_of_ble_eq_true rfl⟩ rfl (Nat.le_of_ble_eq_true rfl) dX8_remembers_88) ?_
          refine r_aload_n S dX8_remembers_91 1 rfl ?_
          refine r_iload_n S dX8_remembers_92 3 rfl ?_
          obtain ⟨x2, h9, hE⟩ := b1_some hE
          refine rc_I S (rn_V S fc8 (by decide) (c_MD_height _ _ (gYX S) v2 M _ h9) wdX8_height q_559 ⟨Nat.le_of_ble_eq_true rfl, Nat.le_of_ble_eq_true rfl⟩ rfl (Nat.le_of_ble_eq_true rfl) dX8_remembers_93) ?_
          refine r_icmp_ge S 103 dX8_remembers_96 (by decide) (fun c => ?_) (fun c => ?_)
          · try simp only [if_pos c] at hE
            refine r_iload_n S dX8_remembers_103 3 rfl ?_
            refine r_istore_n (lv2 := [(2, .int v2), (4, .int (MD_has (gL M 1 ((152 : Int32) + (gI M 7 v1.toNatClampNeg)).toNatClampNeg) v3)), (0, .ref (hY X.2.1.2 + 0)), (1, .int v1), (3, .int v3)]) S dX8_remembers_104 (by decide) rfl ?_
            refine r_iinc (lv2 := [(3, .int (v3 + (1 : Int32))), (2, .int v2), (4, .int (MD_has (gL M 1 ((152 : Int32) + (gI M 7 v1.toNatClampNeg)).toNatClampNeg) v3)), (0, .ref (hY X.2.1.2 + 0)), (1, .int v1)]) S dX8_remembers_105 (j := 4) rfl (by decide) rfl ?_
            refine r_goto S 47 dX8_remembers_108 (by decide) ?_
            obtain rfl := si1 hE
            exact r_sub (lv2 := [(0, .ref (hY X.2.1.2 + 0)), (1, .int v1), (2, .int v2), (3, .int (v3 + (1 : Int32)))]) [3, 4, 1, 0] rfl (hC (v2, (v3 + (1 : Int32))) rfl)
          · try simp only [if_neg c] at hE
            refine r_iload_n S dX8_remembers_99 4 rfl ?_
            refine r_goto S 104 dX8_remembers_100 (by decide) ?_
            refine r_istore_n (lv2 := [(2, .int v3), (4, .int (MD_has (gL M 1 ((152 : Int32) + (gI M 7 v1.toNatClampNeg)).toNatClampNeg) v3)), (0, .ref (hY X.2.1.2 + 0)), (1, .int v1), (3, .int v3)]) S dX8_remembers_104 (by decide) rfl ?_
            refine r_iinc (lv2 := [(3, .int (v3 + (1 : Int32))), (2, .int v3), (4, .int (MD_has (gL M 1 ((152 : Int32) + (gI M 7 v1.toNatClampNeg)).toNatClampNeg) v3)), (0, .ref (hY X.2.1.2 + 0)), (1, .int v1)]) S dX8_remembers_105 (j := 4) rfl (by decide) rfl ?_
            refine r_goto S 47 dX8_remembers_108 (by decide) ?_
            obtain rfl := si1 hE
            exact r_sub (lv2 := [(0, .ref (hY X.2.1.2 + 0)), (1, .int v1), (2, .int v3), (3, .int (v3 + (1 : Int32)))]) [3, 4, 1, 0] rfl (hC (v3, (v3 + (1 : Int32))) rfl)
  have L14 : ∀ (e : (Unit)) (M2 : Mem), AW X 124 [] [] M2 → ∀ (n : Nat) (s : Int32) (M : Mem), lpM (fun s M => MD_remembers_L14 s M) n s M = some (e, M2) → AW X 14 [(0, .ref (hY X.2.1.2 + 0)), (1, .int s)] [] M := by
    intro e M2 hX
    refine lpM_ind (P := fun (s : Int32) (M : Mem) => AW X 14 [(0, .ref (hY X.2.1.2 + 0)), (1, .int s)] [] M) ?_
    rintro v1 M d M3 hE hC hD
    replace hE : MD_remembers_L14 v1 M = some (d, M3) := hE
    show AW X 14 [(0, .ref (hY X.2.1.2 + 0)), (1, .int v1)] [] M
    unfold MD_remembers_L14 at hE
    refine r_iload_n S dX8_remembers_14 1 rfl ?_
    refine r_aload_n S dX8_remembers_15 0 rfl ?_
    refine r_getI S fc8 (by decide) 12 rfl q_639 dX8_remembers_16 ?_
    refine r_icmp_ge S 124 dX8_remembers_19 (by decide) (fun c => ?_) (fun c => ?_)
    · rw [if_pos c] at hE
      obtain ⟨rfl, rfl⟩ := si2 hE
      rcases hD with ⟨h1, h2⟩ | ⟨_, h1⟩
      · obtain rfl := sir h1
        subst h2
        exact r_sub [] rfl hX
      · exact (sil h1).elim
    · rw [if_neg c] at hE
      refine r_aload_n S dX8_remembers_22 0 rfl ?_
      refine r_getRK S fc8 (by decide) 15 8 rfl rfl q_664 dX8_remembers_23 ?_
      refine r_iload_n S dX8_remembers_26 1 rfl ?_
      refine r_aload_n S dX8_remembers_27 0 rfl ?_
      refine r_getRK S fc8 (by decide) 0 1 rfl rfl q_523 dX8_remembers_28 ?_
      refine r_sipush S (224 : Int32) dX8_remembers_31 rfl ?_
      refine r_aload_n S dX8_remembers_34 0 rfl ?_
      refine r_getRK S fc8 (by decide) 11 7 rfl rfl q_640 dX8_remembers_35 ?_
      refine r_iload_n S dX8_remembers_38 1 rfl ?_
      obtain ⟨hi, hE⟩ := ck_some hE
      refine r_iald S (by decide) hi dX8_remembers_39 ?_
      refine r_iadd S dX8_remembers_40 ?_
      obtain ⟨hi, hE⟩ := ck_some hE
      refine r_lald S (by decide) hi dX8_remembers_41 ?_
      obtain ⟨hi, hE⟩ := ck_some hE
      refine r_last S (by decide) hi dX8_remembers_42 ?_
      refine r_iconst S (-1 : Int32) dX8_remembers_43 rfl ?_
      refine r_istore_n (lv2 := [(2, .int (-1 : Int32)), (0, .ref (hY X.2.1.2 + 0)), (1, .int v1)]) S dX8_remembers_44 (by decide) rfl ?_
      refine r_iconst S (0 : Int32) dX8_remembers_45 rfl ?_
      refine r_istore_n (lv2 := [(3, .int (0 : Int32)), (2, .int (-1 : Int32)), (0, .ref (hY X.2.1.2 + 0)), (1, .int v1)]) S dX8_remembers_46 (by decide) rfl ?_
      obtain ⟨e1, h9, hE⟩ := b1_some hE
      refine r_sub [2, 3, 1, 0] rfl (L47 v1 (sL M 8 v1.toNatClampNeg (gL M 1 ((224 : Int32) + (gI M 7 v1.toNatClampNeg)).toNatClampNeg)) e1 ?_ _ _  h9)
      refine r_aload_n S dX8_remembers_111 0 rfl ?_
      refine r_getRK S fc8 (by decide) 16 9 rfl rfl q_665 dX8_remembers_112 ?_
      refine r_iload_n S dX8_remembers_115 1 rfl ?_
      refine r_iload_n S dX8_remembers_116 2 rfl ?_
      obtain ⟨hi, hE⟩ := ck_some hE
      refine r_iast S (by decide) hi dX8_remembers_117 ?_
      refine r_iinc (lv2 := [(1, .int (v1 + (1 : Int32))), (0, .ref (hY X.2.1.2 + 0)), (2, .int e1)]) S dX8_remembers_118 (j := 1) rfl (by decide) rfl ?_
      refine r_goto S 14 dX8_remembers_121 (by decide) ?_
      obtain ⟨rfl, rfl⟩ := si2 hE
      exact r_sub (lv2 := [(0, .ref (hY X.2.1.2 + 0)), (1, .int (v1 + (1 : Int32)))]) [1, 0] rfl (hC (v1 + (1 : Int32)) rfl)
  unfold MD_remembers at hE
  refine r_aload_n S dX8_remembers_0 0 rfl ?_
  obtain ⟨x1, M2, h9, hE⟩ := b2_some hE
  refine rc_V S (rn_V S fc8 (by decide) (c_MD_orders _ _ (gYX S)  M _ _ h9) wdX8_orders q_641 ⟨Nat.le_of_ble_eq_true rfl, Nat.le_of_ble_eq_true rfl⟩ rfl (Nat.le_of_ble_eq_true rfl) dX8_remembers_1) ?_
  refine r_aload_n S dX8_remembers_4 0 rfl ?_
  refine r_aload_n S dX8_remembers_5 0 rfl ?_
  refine r_getI S fc8 (by decide) 12 rfl q_639 dX8_remembers_6 ?_
  refine r_putI S fc8 (by decide) 17 rfl rfl (by decide +kernel) q_663 dX8_remembers_9 ?_
  refine r_iconst S (0 : Int32) dX8_remembers_12 rfl ?_
  refine r_istore_n (lv2 := [(1, .int (0 : Int32)), (0, .ref (hY X.2.1.2 + 0))]) S dX8_remembers_13 (by decide) rfl ?_
  obtain ⟨e3, M4, h9, hE⟩ := b2_some hE
  refine r_sub [1, 0] rfl (L14   e3 M4 ?_ _ _ (sI M2 0 17 (gI M2 0 12)) h9)
  obtain ⟨rfl, rfl⟩ := si2 hE
  exact hret _ _ dX8_remembers_124
set_option maxRecDepth 100000 in
set_option maxHeartbeats 4000000 in
theorem c_MD_changes (l : Launch) (Y : Env1) (hG : gY Y = gM) (M : Mem) (r : Unit) (M1 : Mem) (hE : MD_changes M = some (r, M1)) : CnV l Y yX8_changes cX8_changes 2 8 [.ref (hY Y + 0)] M M1 := by
  refine met_V (own := RX8) (by decide +kernel) rfl hG (Nat.le_of_ble_eq_true rfl) (fun X S hY1 hl1 hret => ?_)
  subst hY1
  subst hl1
  show AW X 0 [(0, .ref (hY X.2.1.2 + 0))] [] M
  have L6 : ∀ (e : (Unit)) (M2 : Mem), AW X 36 [] [] M2 → ∀ (n : Nat) (s : Int32) (M : Mem), lpM (fun s M => MD_changes_L6 s M) n s M = some (e, M2) → AW X 6 [(0, .ref (hY X.2.1.2 + 0)), (1, .int s)] [] M := by
    intro e M2 hX
    refine lpM_ind (P := fun (s : Int32) (M : Mem) => AW X 6 [(0, .ref (hY X.2.1.2 + 0)), (1, .int s)] [] M) ?_
    rintro v1 M d M3 hE hC hD
    replace hE : MD_changes_L6 v1 M = some (d, M3) := hE
    show AW X 6 [(0, .ref (hY X.2.1.2 + 0)), (1, .int v1)] [] M
    unfold MD_changes_L6 at hE
    refine r_iload_n S dX8_changes_6 1 rfl ?_
    refine r_aload_n S dX8_changes_7 0 rfl ?_
    refine r_getI S fc8 (by decide) 17 rfl q_663 dX8_changes_8 ?_
    refine r_icmp_ge S 36 dX8_changes_11 (by decide) (fun c => ?_) (fun c => ?_)
    · rw [if_pos c] at hE
      obtain ⟨rfl, rfl⟩ := si2 hE
      rcases hD with ⟨h1, h2⟩ | ⟨_, h1⟩
      · obtain rfl := sir h1
        subst h2
        exact r_sub [] rfl hX
      · exact (sil h1).elim
    · rw [if_neg c] at hE
      refine r_aload_n S dX8_changes_14 0 rfl ?_
      refine r_aload_n S dX8_changes_15 0 rfl ?_
      refine r_getRK S fc8 (by decide) 16 9 rfl rfl q_665 dX8_changes_16 ?_
      refine r_iload_n S dX8_changes_19 1 rfl ?_
      obtain ⟨hi, hE⟩ := ck_some hE
      refine r_iald S (by decide) hi dX8_changes_20 ?_
      refine r_aload_n S dX8_changes_21 0 rfl ?_
      refine r_getRK S fc8 (by decide) 15 8 rfl rfl q_664 dX8_changes_22 ?_
      refine r_iload_n S dX8_changes_25 1 rfl ?_
      obtain ⟨hi, hE⟩ := ck_some hE
      refine r_lald S (by decide) hi dX8_changes_26 ?_
      obtain ⟨x1, M2, h9, hE⟩ := b2_some hE
      refine rc_V S (rn_V S fc8 (by decide) (c_MD_pours _ _ (gYX S) (gI M 9 v1.toNatClampNeg) (gL M 8 v1.toNatClampNeg) M _ _ h9) wdX8_pours q_671 ⟨Nat.le_of_ble_eq_true rfl, Nat.le_of_ble_eq_true rfl⟩ rfl (Nat.le_of_ble_eq_true rfl) dX8_changes_27) ?_
      refine r_iinc (lv2 := [(1, .int (v1 + (1 : Int32))), (0, .ref (hY X.2.1.2 + 0))]) S dX8_changes_30 (j := 1) rfl (by decide) rfl ?_
      refine r_goto S 6 dX8_changes_33 (by decide) ?_
      obtain ⟨rfl, rfl⟩ := si2 hE
      exact r_sub (lv2 := [(0, .ref (hY X.2.1.2 + 0)), (1, .int (v1 + (1 : Int32)))]) [1, 0] rfl (hC (v1 + (1 : Int32)) rfl)
  unfold MD_changes at hE
  refine r_aload_n S dX8_changes_0 0 rfl ?_
  obtain ⟨x1, M2, h9, hE⟩ := b2_some hE
  refine rc_V S (rn_V S fc8 (by decide) (c_MD_finds _ _ (gYX S)  M _ _ h9) wdX8_finds q_666 ⟨Nat.le_of_ble_eq_true rfl, Nat.le_of_ble_eq_true rfl⟩ rfl (Nat.le_of_ble_eq_true rfl) dX8_changes_1) ?_
  refine r_iconst S (0 : Int32) dX8_changes_4 rfl ?_
  refine r_istore_n (lv2 := [(1, .int (0 : Int32)), (0, .ref (hY X.2.1.2 + 0))]) S dX8_changes_5 (by decide) rfl ?_
  obtain ⟨e3, M4, h9, hE⟩ := b2_some hE
  refine r_sub [1, 0] rfl (L6   e3 M4 ?_ _ _ M2 h9)
  obtain ⟨rfl, rfl⟩ := si2 hE
  exact hret _ _ dX8_changes_36
set_option maxRecDepth 100000 in
set_option maxHeartbeats 4000000 in
theorem c_MD_begins (l : Launch) (Y : Env1) (hG : gY Y = gM) (a1 : Int32) (a2 : Int32) (M : Mem) (r : Unit) (M1 : Mem) (hE : MD_begins a1 a2 M = some (r, M1)) : CnV l Y yX8_begins cX8_begins 4 8 [.ref (hY Y + 0), .int a1, .int a2] M M1 := by
  refine met_V (own := RX8) (by decide +kernel) rfl hG (Nat.le_of_ble_eq_true rfl) (fun X S hY1 hl1 hret => ?_)
  subst hY1
  subst hl1
  show AW X 0 [(0, .ref (hY X.2.1.2 + 0)), (1, .int a1), (2, .int a2)] [] M
  have L2 : ∀ (v1 : Int32) (v2 : Int32) (e : (Unit)) (M2 : Mem), AW X 40 [(0, .ref (hY X.2.1.2 + 0)), (1, .int v1), (2, .int v2)] [] M2 → ∀ (n : Nat) (s : Int32) (M : Mem), lpM (fun s M => MD_begins_L2 v1 v2 s M) n s M = some (e, M2) → AW X 2 [(0, .ref (hY X.2.1.2 + 0)), (1, .int v1), (2, .int v2), (3, .int s)] [] M := by
    intro v1 v2 e M2 hX
    refine lpM_ind (P := fun (s : Int32) (M : Mem) => AW X 2 [(0, .ref (hY X.2.1.2 + 0)), (1, .int v1), (2, .int v2), (3, .int s)] [] M) ?_
    rintro v3 M d M3 hE hC hD
    replace hE : MD_begins_L2 v1 v2 v3 M = some (d, M3) := hE
    show AW X 2 [(0, .ref (hY X.2.1.2 + 0)), (1, .int v1), (2, .int v2), (3, .int v3)] [] M
    unfold MD_begins_L2 at hE
    refine r_iload_n S dX8_begins_2 3 rfl ?_
    refine r_sipush S (513 : Int32) dX8_begins_3 rfl ?_
    refine r_icmp_ge S 40 dX8_begins_6 (by decide) (fun c => ?_) (fun c => ?_)
    · rw [if_pos c] at hE
      obtain ⟨rfl, rfl⟩ := si2 hE
      rcases hD with ⟨h1, h2⟩ | ⟨_, h1⟩
      · obtain rfl := sir h1
        subst h2
        exact r_sub [0, 1, 2] rfl hX
      · exact (sil h1).elim
    · rw [if_neg c] at hE
      refine r_aload_n S dX8_begins_9 0 rfl ?_
      refine r_getRK S fc8 (by decide) 0 1 rfl rfl q_523 dX8_begins_10 ?_
      refine r_iload_n S dX8_begins_13 3 rfl ?_
      refine r_iload_n S dX8_begins_14 3 rfl ?_
      refine r_bipush S (44 : Int32) dX8_begins_15 rfl ?_
      refine r_icmp_lt S 32 dX8_begins_17 (by decide) (fun c => ?_) (fun c => ?_)
      · try simp only [if_pos c] at hE
        refine r_lconst S (0 : Int64) dX8_begins_32 rfl ?_
        obtain ⟨hi, hE⟩ := ck_some hE
        refine r_last S (by decide) hi dX8_begins_33 ?_
        refine r_iinc (lv2 := [(3, .int (v3 + (1 : Int32))), (0, .ref (hY X.2.1.2 + 0)), (1, .int v1), (2, .int v2)]) S dX8_begins_34 (j := 3) rfl (by decide) rfl ?_
        refine r_goto S 2 dX8_begins_37 (by decide) ?_
        obtain ⟨rfl, rfl⟩ := si2 hE
        exact r_sub (lv2 := [(0, .ref (hY X.2.1.2 + 0)), (1, .int v1), (2, .int v2), (3, .int (v3 + (1 : Int32)))]) [1, 2, 3, 0] rfl (hC (v3 + (1 : Int32)) rfl)
      · try simp only [if_neg c] at hE
        refine r_iload_n S dX8_begins_20 3 rfl ?_
        refine r_bipush S (116 : Int32) dX8_begins_21 rfl ?_
        refine r_icmp_ge S 32 dX8_begins_23 (by decide) (fun c => ?_) (fun c => ?_)
        · try simp only [if_pos c] at hE
          refine r_lconst S (0 : Int64) dX8_begins_32 rfl ?_
          obtain ⟨hi, hE⟩ := ck_some hE
          refine r_last S (by decide) hi dX8_begins_33 ?_
          refine r_iinc (lv2 := [(3, .int (v3 + (1 : Int32))), (0, .ref (hY X.2.1.2 + 0)), (1, .int v1), (2, .int v2)]) S dX8_begins_34 (j := 3) rfl (by decide) rfl ?_
          refine r_goto S 2 dX8_begins_37 (by decide) ?_
          obtain ⟨rfl, rfl⟩ := si2 hE
          exact r_sub (lv2 := [(0, .ref (hY X.2.1.2 + 0)), (1, .int v1), (2, .int v2), (3, .int (v3 + (1 : Int32)))]) [1, 2, 3, 0] rfl (hC (v3 + (1 : Int32)) rfl)
        · try simp only [if_neg c] at hE
          refine r_ldc2 S (v := -1) q_589 dX8_begins_26 ?_
          refine r_goto S 33 dX8_begins_29 (by decide) ?_
          obtain ⟨hi, hE⟩ := ck_some hE
          refine r_last S (by decide) hi dX8_begins_33 ?_
          refine r_iinc (lv2 := [(3, .int (v3 + (1 : Int32))), (0, .ref (hY X.2.1.2 + 0)), (1, .int v1), (2, .int v2)]) S dX8_begins_34 (j := 3) rfl (by decide) rfl ?_
          refine r_goto S 2 dX8_begins_37 (by decide) ?_
          obtain ⟨rfl, rfl⟩ := si2 hE
          exact r_sub (lv2 := [(0, .ref (hY X.2.1.2 + 0)), (1, .int v1), (2, .int v2), (3, .int (v3 + (1 : Int32)))]) [1, 2, 3, 0] rfl (hC (v3 + (1 : Int32)) rfl)
  unfold MD_begins at hE
  refine r_iconst S (0 : Int32) dX8_begins_0 rfl ?_
  refine r_istore_n (lv2 := [(3, .int (0 : Int32)), (0, .ref (hY X.2.1.2 + 0)), (1, .int a1), (2, .int a2)]) S dX8_begins_1 (by decide) rfl ?_
  obtain ⟨e1, M2, h9, hE⟩ := b2_some hE
  refine r_sub [1, 2, 3, 0] rfl (L2 a1 a2  e1 M2 ?_ _ _ M h9)
  refine r_aload_n S dX8_begins_40 0 rfl ?_
  refine r_getRK S fc8 (by decide) 0 1 rfl rfl q_523 dX8_begins_41 ?_
  refine r_iconst S (0 : Int32) dX8_begins_44 rfl ?_
  refine r_iload_n S dX8_begins_45 1 rfl ?_
  refine r_i2l S dX8_begins_46 ?_
  refine r_lastK S 0 rfl (by decide) (by decide) dX8_begins_47 ?_
  refine r_aload_n S dX8_begins_48 0 rfl ?_
  refine r_getRK S fc8 (by decide) 0 1 rfl rfl q_523 dX8_begins_49 ?_
  refine r_iconst S (1 : Int32) dX8_begins_52 rfl ?_
  refine r_iload_n S dX8_begins_53 2 rfl ?_
  refine r_i2l S dX8_begins_54 ?_
  refine r_lastK S 1 rfl (by decide) (by decide) dX8_begins_55 ?_
  refine r_aload_n S dX8_begins_56 0 rfl ?_
  obtain ⟨x3, M4, h9, hE⟩ := b2_some hE
  refine rc_V S (rn_V S fc8 (by decide) (c_MD_finds _ _ (gYX S)  (sL (sL M2 1 0 a1.toInt64) 1 1 a2.toInt64) _ _ h9) wdX8_finds q_666 ⟨Nat.le_of_ble_eq_true rfl, Nat.le_of_ble_eq_true rfl⟩ rfl (Nat.le_of_ble_eq_true rfl) dX8_begins_57) ?_
  obtain ⟨rfl, rfl⟩ := si2 hE
  exact hret _ _ dX8_begins_60
