set_option maxRecDepth 100000 in
set_option maxHeartbeats 4000000 in
theorem c_WD_copyFrom (l : Launch) (Y : Env1) (hG : gY Y = gC) (o : Nat) (ho : kC o = 6) (a1 : Nat) (k1 : kC a1 = 6) (M : Mem) (r : Unit) (M1 : Mem) (hE : WD_copyFrom o a1 M = some (r, M1)) : CnV l Y yX6_copyFrom cX6_copyFrom 2 4 [.ref (hY Y + o), .ref (hY Y + a1)] M M1 := by
  refine met_V (own := RX6) (by decide +kernel) rfl hG (Nat.le_of_ble_eq_true rfl) (fun X S hY1 hl1 hret => ?_)
  subst hY1
  subst hl1
  show AW X 0 [(0, .ref (hY X.2.1.2 + o)), (1, .ref (hY X.2.1.2 + a1))] [] M
  unfold WD_copyFrom at hE
  refine r_aload_n S dX6_copyFrom_0 0 rfl ?_
  refine r_getRK S fc6 ho 0 (o + 1) rfl rfl q_216 dX6_copyFrom_1 ?_
  refine r_aload_n S dX6_copyFrom_4 1 rfl ?_
  refine r_getRK S fc6 k1 0 (a1 + 1) rfl rfl q_216 dX6_copyFrom_5 ?_
  obtain ⟨x1, M2, h9, hE⟩ := b2_some hE
  refine rc_V S (rn_V S fc0 (kk6_1 ho) (c_GR_copyFrom _ _ (gYX S) (o + 1) (kk6_1 ho) (a1 + 1) (kk6_1 k1) M _ _ h9) wdX0_copyFrom q_217 ⟨Nat.le_of_ble_eq_true rfl, Nat.le_of_ble_eq_true rfl⟩ rfl (Nat.le_of_ble_eq_true rfl) dX6_copyFrom_8) ?_
  refine r_aload_n S dX6_copyFrom_11 0 rfl ?_
  refine r_getRK S fc6 ho 1 (o + 12) rfl rfl q_222 dX6_copyFrom_12 ?_
  refine r_aload_n S dX6_copyFrom_15 1 rfl ?_
  refine r_getRK S fc6 k1 1 (a1 + 12) rfl rfl q_222 dX6_copyFrom_16 ?_
  obtain ⟨x3, M4, h9, hE⟩ := b2_some hE
  refine rc_V S (rn_V S fc5 (kk6_12 ho) (c_WY_copyFrom _ _ (gYX S) (o + 12) (kk6_12 ho) (a1 + 12) (kk6_12 k1) M2 _ _ h9) wdX5_copyFrom q_223 ⟨Nat.le_of_ble_eq_true rfl, Nat.le_of_ble_eq_true rfl⟩ rfl (Nat.le_of_ble_eq_true rfl) dX6_copyFrom_19) ?_
  refine r_aload_n S dX6_copyFrom_22 0 rfl ?_
  refine r_getRK S fc6 ho 2 (o + 19) rfl rfl q_228 dX6_copyFrom_23 ?_
  refine r_aload_n S dX6_copyFrom_26 1 rfl ?_
  refine r_getRK S fc6 k1 2 (a1 + 19) rfl rfl q_228 dX6_copyFrom_27 ?_
  obtain ⟨x5, M6, h9, hE⟩ := b2_some hE
  refine rc_V S (rn_V S fc1 (kk6_19 ho) (c_LK_copyFrom _ _ (gYX S) (o + 19) (kk6_19 ho) (a1 + 19) (kk6_19 k1) M4 _ _ h9) wdX1_copyFrom q_229 ⟨Nat.le_of_ble_eq_true rfl, Nat.le_of_ble_eq_true rfl⟩ rfl (Nat.le_of_ble_eq_true rfl) dX6_copyFrom_30) ?_
  refine r_aload_n S dX6_copyFrom_33 0 rfl ?_
  refine r_aload_n S dX6_copyFrom_34 1 rfl ?_
  refine r_getL S fc6 k1 3 rfl q_234 dX6_copyFrom_35 ?_
  refine r_putL S fc6 ho 3 rfl rfl (by decide +kernel) q_234 dX6_copyFrom_38 ?_
  refine r_aload_n S dX6_copyFrom_41 0 rfl ?_
  refine r_aload_n S dX6_copyFrom_42 1 rfl ?_
  refine r_getL S fc6 k1 4 rfl q_235 dX6_copyFrom_43 ?_
  refine r_putL S fc6 ho 4 rfl rfl (by decide +kernel) q_235 dX6_copyFrom_46 ?_
  refine r_aload_n S dX6_copyFrom_49 0 rfl ?_
  refine r_aload_n S dX6_copyFrom_50 1 rfl ?_
  refine r_getL S fc6 k1 5 rfl q_236 dX6_copyFrom_51 ?_
  refine r_putL S fc6 ho 5 rfl rfl (by decide +kernel) q_236 dX6_copyFrom_54 ?_
  obtain ⟨rfl, rfl⟩ := si2 hE
  exact hret _ _ dX6_copyFrom_57
set_option maxRecDepth 100000 in
set_option maxHeartbeats 4000000 in
theorem c_LL_save (l : Launch) (Y : Env1) (hG : gY Y = gC) (M : Mem) (r : Unit) (M1 : Mem) (hE : LL_save M = some (r, M1)) : CnV l Y yX7_save cX7_save 1 5 [.ref (hY Y + 0)] M M1 := by
  refine met_V (own := RX7) (by decide +kernel) rfl hG (Nat.le_of_ble_eq_true rfl) (fun X S hY1 hl1 hret => ?_)
  subst hY1
  subst hl1
  show AW X 0 [(0, .ref (hY X.2.1.2 + 0))] [] M
  unfold LL_save at hE
  refine r_aload_n S dX7_save_0 0 rfl ?_
  refine r_aload_n S dX7_save_1 0 rfl ?_
  refine r_getI S fc7 (by decide) 5 rfl q_237 dX7_save_2 ?_
  refine rc_R S (rn_V S fc7 (by decide) (c_LL_savedAt _ _ (gYX S) (gI M 0 5) M _ rfl) wdX7_savedAt q_238 ⟨Nat.le_of_ble_eq_true rfl, Nat.le_of_ble_eq_true rfl⟩ rfl (Nat.le_of_ble_eq_true rfl) dX7_save_5) ?_
  refine r_aload_n S dX7_save_8 0 rfl ?_
  refine r_getRK S fc7 (by decide) 0 1 rfl rfl q_50 dX7_save_9 ?_
  obtain ⟨x1, M2, h9, hE⟩ := b2_some hE
  refine rc_V S (rn_V S fc6 (kk_savedAt (gI M 0 5)) (c_WD_copyFrom _ _ (gYX S) (fSavedAt (gI M 0 5)) (kk_savedAt (gI M 0 5)) 1 (by decide) M _ _ h9) wdX6_copyFrom q_243 ⟨Nat.le_of_ble_eq_true rfl, Nat.le_of_ble_eq_true rfl⟩ rfl (Nat.le_of_ble_eq_true rfl) dX7_save_12) ?_
  refine r_aload_n S dX7_save_15 0 rfl ?_
  refine r_aload_n S dX7_save_16 0 rfl ?_
  refine r_getI S fc7 (by decide) 5 rfl q_237 dX7_save_17 ?_
  refine r_iconst S (1 : Int32) dX7_save_20 rfl ?_
  refine r_iadd S dX7_save_21 ?_
  refine r_iconst S (4 : Int32) dX7_save_22 rfl ?_
  refine r_irem S dX7_save_23 (by decide) ?_
  refine r_putI S fc7 (by decide) 5 rfl rfl (by decide +kernel) q_237 dX7_save_24 ?_
  refine r_aload_n S dX7_save_27 0 rfl ?_
  refine r_aload_n S dX7_save_28 0 rfl ?_
  refine r_getI S fc7 (by decide) 4 rfl q_248 dX7_save_29 ?_
  refine r_iconst S (1 : Int32) dX7_save_32 rfl ?_
  refine r_iadd S dX7_save_33 ?_
  refine r_iconst S (4 : Int32) dX7_save_34 rfl ?_
  refine r_mmin S q_249 q_11 q_12 q_13 (by decide) (Nat.le_of_ble_eq_true rfl) dX7_save_35 ?_
  refine r_putI S fc7 (by decide) 4 rfl rfl (by decide +kernel) q_248 dX7_save_38 ?_
  obtain ⟨rfl, rfl⟩ := si2 hE
  exact hret _ _ dX7_save_41
set_option maxRecDepth 100000 in
set_option maxHeartbeats 4000000 in
theorem c_GR_measure (l : Launch) (Y : Env1) (hG : gY Y = gC) (o : Nat) (ho : kC o = 0) (M : Mem) (r : Unit) (M1 : Mem) (hE : GR_measure o M = some (r, M1)) : CnV l Y yX0_measure cX0_measure 4 1 [.ref (hY Y + o)] M M1 := by
  refine met_V (own := RX0) (by decide +kernel) rfl hG (Nat.le_of_ble_eq_true rfl) (fun X S hY1 hl1 hret => ?_)
  subst hY1
  subst hl1
  show AW X 0 [(0, .ref (hY X.2.1.2 + o))] [] M
  have L91 : ∀ (v0 : Nat) (k0 : kC v0 = 0) (v1 : Int32) (e : (Int32)) (M2 : Mem), AW X 147 [(0, .ref (hY X.2.1.2 + v0)), (1, .int v1), (2, .int e)] [] M2 → ∀ (n : Nat) (s : Int32) (M : Mem), lpM (fun s M => GR_measure_L91 v0 v1 s M) n s M = some (e, M2) → AW X 91 [(0, .ref (hY X.2.1.2 + v0)), (1, .int v1), (2, .int s)] [] M := by
    intro v0 k0 v1 e M2 hX
    refine lpM_ind (P := fun (s : Int32) (M : Mem) => AW X 91 [(0, .ref (hY X.2.1.2 + v0)), (1, .int v1), (2, .int s)] [] M) ?_
    rintro v2 M d M3 hE hC hD
    replace hE : GR_measure_L91 v0 v1 v2 M = some (d, M3) := hE
    show AW X 91 [(0, .ref (hY X.2.1.2 + v0)), (1, .int v1), (2, .int v2)] [] M
    unfold GR_measure_L91 at hE
    refine r_iload_n S dX0_measure_91 2 rfl ?_
    refine r_if_le S 147 dX0_measure_92 (by decide) (fun c => ?_) (fun c => ?_)
    · rw [if_pos c] at hE
      obtain ⟨rfl, rfl⟩ := si2 hE
      rcases hD with ⟨h1, h2⟩ | ⟨_, h1⟩
      · obtain rfl := sir h1
        subst h2
        exact r_sub [0, 1, 2] rfl hX
      · exact (sil h1).elim
    · rw [if_neg c] at hE
      refine r_aload_n S dX0_measure_95 0 rfl ?_
      refine r_getRK S fc0 k0 4 (v0 + 1) rfl rfl q_48 dX0_measure_96 ?_
      refine r_aload_n S dX0_measure_99 0 rfl ?_
      refine r_getRK S fc0 k0 8 (v0 + 9) rfl rfl q_196 dX0_measure_100 ?_
      refine r_iload_n S dX0_measure_103 2 rfl ?_
      refine r_iconst S (1 : Int32) dX0_measure_104 rfl ?_
      refine r_isub S dX0_measure_105 ?_
      refine rc_I S (rn_V S fc3 (kk0_9 k0) (c_NR_at _ _ (gYX S) (v0 + 9) (kk0_9 k0) (v2 - (1 : Int32)) M _ rfl) wdX3_at q_49 ⟨Nat.le_of_ble_eq_true rfl, Nat.le_of_ble_eq_true rfl⟩ rfl (Nat.le_of_ble_eq_true rfl) dX0_measure_106) ?_
      refine rc_I S (rn_V S fc3 (kk0_1 k0) (c_NR_at _ _ (gYX S) (v0 + 1) (kk0_1 k0) (fAtI (v0 + 9) (v2 - (1 : Int32)) M) M _ rfl) wdX3_at q_49 ⟨Nat.le_of_ble_eq_true rfl, Nat.le_of_ble_eq_true rfl⟩ rfl (Nat.le_of_ble_eq_true rfl) dX0_measure_109) ?_
      refine r_aload_n S dX0_measure_112 0 rfl ?_
      refine r_getRK S fc0 k0 4 (v0 + 1) rfl rfl q_48 dX0_measure_113 ?_
      refine r_iload_n S dX0_measure_116 1 rfl ?_
      refine rc_I S (rn_V S fc3 (kk0_1 k0) (c_NR_at _ _ (gYX S) (v0 + 1) (kk0_1 k0) v1 M _ rfl) wdX3_at q_49 ⟨Nat.le_of_ble_eq_true rfl, Nat.le_of_ble_eq_true rfl⟩ rfl (Nat.le_of_ble_eq_true rfl) dX0_measure_117) ?_
      refine r_icmp_le S 147 dX0_measure_120 (by decide) (fun c => ?_) (fun c => ?_)
      · rw [if_pos c] at hE
        obtain ⟨rfl, rfl⟩ := si2 hE
        rcases hD with ⟨h1, h2⟩ | ⟨_, h1⟩
        · obtain rfl := sir h1
          subst h2
          exact r_sub [0, 1, 2] rfl hX
        · exact (sil h1).elim
      · rw [if_neg c] at hE
        refine r_aload_n S dX0_measure_123 0 rfl ?_
        refine r_getRK S fc0 k0 8 (v0 + 9) rfl rfl q_196 dX0_measure_124 ?_
        refine r_iload_n S dX0_measure_127 2 rfl ?_
        refine r_aload_n S dX0_measure_128 0 rfl ?_
        refine r_getRK S fc0 k0 8 (v0 + 9) rfl rfl q_196 dX0_measure_129 ?_
        refine r_iload_n S dX0_measure_132 2 rfl ?_
        refine r_iconst S (1 : Int32) dX0_measure_133 rfl ?_
        refine r_isub S dX0_measure_134 ?_
        refine rc_I S (rn_V S fc3 (kk0_9 k0) (c_NR_at _ _ (gYX S) (v0 + 9) (kk0_9 k0) (v2 - (1 : Int32)) M _ rfl) wdX3_at q_49 ⟨Nat.le_of_ble_eq_true rfl, Nat.le_of_ble_eq_true rfl⟩ rfl (Nat.le_of_ble_eq_true rfl) dX0_measure_135) ?_
        refine rc_V S (rn_V S fc3 (kk0_9 k0) (c_NR_put _ _ (gYX S) (v0 + 9) (kk0_9 k0) v2 (fAtI (v0 + 9) (v2 - (1 : Int32)) M) M _ rfl) wdX3_put q_105 ⟨Nat.le_of_ble_eq_true rfl, Nat.le_of_ble_eq_true rfl⟩ rfl (Nat.le_of_ble_eq_true rfl) dX0_measure_138) ?_
        refine r_iinc (lv2 := [(2, .int (v2 + (-1 : Int32))), (0, .ref (hY X.2.1.2 + v0)), (1, .int v1)]) S dX0_measure_141 (j := 2) rfl (by decide) rfl ?_
        refine r_goto S 91 dX0_measure_144 (by decide) ?_
        obtain ⟨rfl, rfl⟩ := si2 hE
        exact r_sub (lv2 := [(0, .ref (hY X.2.1.2 + v0)), (1, .int v1), (2, .int (v2 + (-1 : Int32)))]) [1, 2, 0] rfl (hC (v2 + (-1 : Int32)) rfl)
  have L81 : ∀ (v0 : Nat) (k0 : kC v0 = 0) (e : (Unit)) (M2 : Mem), AW X 162 [] [] M2 → ∀ (n : Nat) (s : Int32) (M : Mem), lpM (fun s M => GR_measure_L81 v0 s M) n s M = some (e, M2) → AW X 81 [(0, .ref (hY X.2.1.2 + v0)), (1, .int s)] [] M := by
    intro v0 k0 e M2 hX
    refine lpM_ind (P := fun (s : Int32) (M : Mem) => AW X 81 [(0, .ref (hY X.2.1.2 + v0)), (1, .int s)] [] M) ?_
    rintro v1 M d M3 hE hC hD
    replace hE : GR_measure_L81 v0 v1 M = some (d, M3) := hE
    show AW X 81 [(0, .ref (hY X.2.1.2 + v0)), (1, .int v1)] [] M
    unfold GR_measure_L81 at hE
    refine r_iload_n S dX0_measure_81 1 rfl ?_
    refine r_aload_n S dX0_measure_82 0 rfl ?_
    refine r_getI S fc0 k0 2 rfl q_46 dX0_measure_83 ?_
    refine r_icmp_ge S 162 dX0_measure_86 (by decide) (fun c => ?_) (fun c => ?_)
    · rw [if_pos c] at hE
      obtain ⟨rfl, rfl⟩ := si2 hE
      rcases hD with ⟨h1, h2⟩ | ⟨_, h1⟩
      · obtain rfl := sir h1
        subst h2
        exact r_sub [] rfl hX
      · exact (sil h1).elim
    · rw [if_neg c] at hE
      refine r_iload_n S dX0_measure_89 1 rfl ?_
      refine r_istore_n (lv2 := [(2, .int v1), (0, .ref (hY X.2.1.2 + v0)), (1, .int v1)]) S dX0_measure_90 (by decide) rfl ?_
      obtain ⟨e1, M2, h9, hE⟩ := b2_some hE
      refine r_sub [1, 2, 0] rfl (L91 v0 k0 v1  e1 M2 ?_ _ _ M h9)
      refine r_aload_n S dX0_measure_147 0 rfl ?_
      refine r_getRK S fc0 k0 8 (v0 + 9) rfl rfl q_196 dX0_measure_148 ?_
      refine r_iload_n S dX0_measure_151 2 rfl ?_
      refine r_iload_n S dX0_measure_152 1 rfl ?_
      refine rc_V S (rn_V S fc3 (kk0_9 k0) (c_NR_put _ _ (gYX S) (v0 + 9) (kk0_9 k0) e1 v1 M2 _ rfl) wdX3_put q_105 ⟨Nat.le_of_ble_eq_true rfl, Nat.le_of_ble_eq_true rfl⟩ rfl (Nat.le_of_ble_eq_true rfl) dX0_measure_153) ?_
      refine r_iinc (lv2 := [(1, .int (v1 + (1 : Int32))), (0, .ref (hY X.2.1.2 + v0)), (2, .int e1)]) S dX0_measure_156 (j := 1) rfl (by decide) rfl ?_
      refine r_goto S 81 dX0_measure_159 (by decide) ?_
      obtain ⟨rfl, rfl⟩ := si2 hE
      exact r_sub (lv2 := [(0, .ref (hY X.2.1.2 + v0)), (1, .int (v1 + (1 : Int32)))]) [1, 0] rfl (hC (v1 + (1 : Int32)) rfl)
  have L2 : ∀ (v0 : Nat) (k0 : kC v0 = 0) (e : (Unit)) (M2 : Mem), AW X 79 [(0, .ref (hY X.2.1.2 + v0))] [] M2 → ∀ (n : Nat) (s : Int32) (M : Mem), lpM (fun s M => GR_measure_L2 v0 s M) n s M = some (e, M2) → AW X 2 [(0, .ref (hY X.2.1.2 + v0)), (1, .int s)] [] M := by
    intro v0 k0 e M2 hX
    refine lpM_ind (P := fun (s : Int32) (M : Mem) => AW X 2 [(0, .ref (hY X.2.1.2 + v0)), (1, .int s)] [] M) ?_
    rintro v1 M d M3 hE hC hD
    replace hE : GR_measure_L2 v0 v1 M = some (d, M3) := hE
    show AW X 2 [(0, .ref (hY X.2.1.2 + v0)), (1, .int v1)] [] M
    have J70 : ∀ (v1 : Int32) (t0 : Int32) (t1 : Int32) (t2 : Nat) (kt2 : kC t2 = 3) (M : Mem), GR_measure_L2_J70 v0 v1 t0 t1 t2 M = some (d, M3) → AW X 70 [(0, .ref (hY X.2.1.2 + v0)), (1, .int v1)] [.int t0, .int t1, .ref (hY X.2.1.2 + t2)] M := by
      intro v1 t0 t1 t2 kt2 M hE
      unfold GR_measure_L2_J70 at hE
      refine rc_V S (rn_V S fc3 kt2 (c_NR_put _ _ (gYX S) t2 kt2 t1 t0 M _ rfl) wdX3_put q_105 ⟨Nat.le_of_ble_eq_true rfl, Nat.le_of_ble_eq_true rfl⟩ rfl (Nat.le_of_ble_eq_true rfl) dX0_measure_70) ?_
      refine r_iinc (lv2 := [(1, .int (v1 + (1 : Int32))), (0, .ref (hY X.2.1.2 + v0))]) S dX0_measure_73 (j := 1) rfl (by decide) rfl ?_
      refine r_goto S 2 dX0_measure_76 (by decide) ?_
      obtain ⟨rfl, rfl⟩ := si2 hE
      exact r_sub (lv2 := [(0, .ref (hY X.2.1.2 + v0)), (1, .int (v1 + (1 : Int32)))]) [1, 0] rfl (hC (v1 + (1 : Int32)) rfl)
    unfold GR_measure_L2 at hE
    refine r_iload_n S dX0_measure_2 1 rfl ?_
    refine r_iconst S (4 : Int32) dX0_measure_3 rfl ?_
    refine r_aload_n S dX0_measure_4 0 rfl ?_
    refine r_getI S fc0 k0 2 rfl q_46 dX0_measure_5 ?_
    refine r_imul S dX0_measure_8 ?_
    refine r_icmp_ge S 79 dX0_measure_9 (by decide) (fun c => ?_) (fun c => ?_)
    · rw [if_pos c] at hE
      obtain ⟨rfl, rfl⟩ := si2 hE
      rcases hD with ⟨h1, h2⟩ | ⟨_, h1⟩
      · obtain rfl := sir h1
        subst h2
        exact r_sub [0] rfl hX
      · exact (sil h1).elim
    · rw [if_neg c] at hE
      refine r_aload_n S dX0_measure_12 0 rfl ?_
      refine r_getRK S fc0 k0 5 (v0 + 3) rfl rfl q_104 dX0_measure_13 ?_
      refine r_iload_n S dX0_measure_16 1 rfl ?_
      refine rc_I S (rn_V S fc3 (kk0_3 k0) (c_NR_at _ _ (gYX S) (v0 + 3) (kk0_3 k0) v1 M _ rfl) wdX3_at q_49 ⟨Nat.le_of_ble_eq_true rfl, Nat.le_of_ble_eq_true rfl⟩ rfl (Nat.le_of_ble_eq_true rfl) dX0_measure_17) ?_
      refine r_istore_n (lv2 := [(2, .int (fAtI (v0 + 3) v1 M)), (0, .ref (hY X.2.1.2 + v0)), (1, .int v1)]) S dX0_measure_20 (by decide) rfl ?_
      refine r_aload_n S dX0_measure_21 1 rfl ?_
      refine r_getRK S fc0 k0 4 (v0 + 1) rfl rfl q_48 dX0_measure_22 ?_
      refine r_iload_n S dX0_measure_25 2 rfl ?_
      refine r_iconst S (4 : Int32) dX0_measure_26 rfl ?_
      refine r_idiv S dX0_measure_27 (by decide) ?_
      refine rc_I S (rn_V S fc3 (kk0_1 k0) (c_NR_at _ _ (gYX S) (v0 + 1) (kk0_1 k0) (v1 / (4 : Int32)) M _ rfl) wdX3_at q_49 ⟨Nat.le_of_ble_eq_true rfl, Nat.le_of_ble_eq_true rfl⟩ rfl (Nat.le_of_ble_eq_true rfl) dX0_measure_28) ?_
      refine r_aload_n S dX0_measure_31 1 rfl ?_
      refine r_getRK S fc0 k0 4 (v0 + 1) rfl rfl q_48 dX0_measure_32 ?_
      refine r_iload_n S dX0_measure_35 0 rfl ?_
      refine rc_I S (rn_V S fc3 (kk0_1 k0) (c_NR_at _ _ (gYX S) (v0 + 1) (kk0_1 k0) (fAtI (v0 + 3) v1 M) M _ rfl) wdX3_at q_49 ⟨Nat.le_of_ble_eq_true rfl, Nat.le_of_ble_eq_true rfl⟩ rfl (Nat.le_of_ble_eq_true rfl) dX0_measure_36) ?_
      refine r_mmax S q_250 q_251 q_12 q_252 (by decide) (Nat.le_of_ble_eq_true rfl) dX0_measure_39 ?_
      refine r_istore_n (lv2 := [(3, .int (JM_max (fAtI (v0 + 1) (v1 / (4 : Int32)) M) (fAtI (v0 + 1) (fAtI (v0 + 3) v1 M) M))), (2, .int (fAtI (v0 + 3) v1 M)), (0, .ref (hY X.2.1.2 + v0)), (1, .int v1)]) S dX0_measure_42 (by decide) rfl ?_
      refine r_aload_n S dX0_measure_43 2 rfl ?_
      refine r_getRK S fc0 k0 7 (v0 + 7) rfl rfl q_195 dX0_measure_44 ?_
      refine r_iload_n S dX0_measure_47 3 rfl ?_
      refine r_iload_n S dX0_measure_48 1 rfl ?_
      refine r_iconst S (-1 : Int32) dX0_measure_49 rfl ?_
      refine r_icmp_ne S 58 dX0_measure_50 (by decide) (fun c => ?_) (fun c => ?_)
      · try simp only [if_pos c] at hE
        refine r_iload_n S dX0_measure_58 0 rfl ?_
        refine r_aload_n S dX0_measure_59 2 rfl ?_
        refine r_getRK S fc0 k0 6 (v0 + 5) rfl rfl q_117 dX0_measure_60 ?_
        refine r_iload_n S dX0_measure_63 3 rfl ?_
        refine rc_I S (rn_V S fc3 (kk0_5 k0) (c_NR_at _ _ (gYX S) (v0 + 5) (kk0_5 k0) v1 M _ rfl) wdX3_at q_49 ⟨Nat.le_of_ble_eq_true rfl, Nat.le_of_ble_eq_true rfl⟩ rfl (Nat.le_of_ble_eq_true rfl) dX0_measure_64) ?_
        refine r_mmax S q_250 q_251 q_12 q_252 (by decide) (Nat.le_of_ble_eq_true rfl) dX0_measure_67 ?_
        exact r_sub [2, 3] rfl (J70 v1 (JM_max (JM_max (fAtI (v0 + 1) (v1 / (4 : Int32)) M) (fAtI (v0 + 1) (fAtI (v0 + 3) v1 M) M)) (fAtI (v0 + 5) v1 M)) v1 (v0 + 7) (kk0_7 k0) M hE)
      · try simp only [if_neg (not_not_intro c)] at hE
        refine r_bipush S (100 : Int32) dX0_measure_53 rfl ?_
        refine r_goto S 70 dX0_measure_55 (by decide) ?_
        exact r_sub [2, 3] rfl (J70 v1 (100 : Int32) v1 (v0 + 7) (kk0_7 k0) M hE)
  unfold GR_measure at hE
  refine r_iconst S (0 : Int32) dX0_measure_0 rfl ?_
  refine r_istore_n (lv2 := [(1, .int (0 : Int32)), (0, .ref (hY X.2.1.2 + o))]) S dX0_measure_1 (by decide) rfl ?_
  obtain ⟨e1, M2, h9, hE⟩ := b2_some hE
  refine r_sub [1, 0] rfl (L2 o ho  e1 M2 ?_ _ _ M h9)
  refine r_iconst S (0 : Int32) dX0_measure_79 rfl ?_
  refine r_istore_n (lv2 := [(1, .int (0 : Int32)), (0, .ref (hY X.2.1.2 + o))]) S dX0_measure_80 (by decide) rfl ?_
  obtain ⟨e3, M4, h9, hE⟩ := b2_some hE
  refine r_sub [1, 0] rfl (L81 o ho  e3 M4 ?_ _ _ M2 h9)
  obtain ⟨rfl, rfl⟩ := si2 hE
  exact hret _ _ dX0_measure_162
set_option maxRecDepth 100000 in
set_option maxHeartbeats 4000000 in
theorem c_LL_lowestIn (l : Launch) (Y : Env1) (hG : gY Y = gC) (a0 : Int64) (M : Mem) (r : Int32) (hE : LL_lowestIn a0 = r) : CnI l Y yX7_lowestIn cX7_lowestIn 2 .int 1 [.long a0] M r M := by
  refine met_I (own := RX7) (by decide +kernel) rfl hG (Nat.le_of_ble_eq_true rfl) (fun X S hY1 hl1 hret => ?_)
  subst hY1
  subst hl1
  show AW X 0 [(0, .long a0)] [] M
  unfold LL_lowestIn at hE
  refine r_lload_n S dX7_lowestIn_0 0 rfl ?_
  refine r_lconst S (0 : Int64) dX7_lowestIn_1 rfl ?_
  refine r_lcmp_ne S 10 dX7_lowestIn_2 dX7_lowestIn_3 (by decide) (fun c => ?_) (fun c => ?_)
  · try simp only [if_pos c] at hE
    refine r_lload_n S dX7_lowestIn_10 0 rfl ?_
    refine r_lload_n S dX7_lowestIn_11 0 rfl ?_
    refine r_lneg S dX7_lowestIn_12 ?_
    refine r_land S dX7_lowestIn_13 ?_
    refine r_lconst S (1 : Int64) dX7_lowestIn_14 rfl ?_
    refine r_lsub S dX7_lowestIn_15 ?_
    refine rc_I S (rn_S S (c_JL_bitCount _ _ (gYX S) ((a0 &&& (-a0)) - (1 : Int64)) M _ rfl) wdJ13_bitCount_95d88 q_61 ⟨Nat.le_of_ble_eq_true rfl, Nat.le_of_ble_eq_true rfl⟩ rfl (Nat.le_of_ble_eq_true rfl) dX7_lowestIn_16) ?_
    subst hE
    exact hret _ _ dX7_lowestIn_19
  · try simp only [if_neg (not_not_intro c)] at hE
    refine r_iconst S (-1 : Int32) dX7_lowestIn_6 rfl ?_
    refine r_goto S 19 dX7_lowestIn_7 (by decide) ?_
    subst hE
    exact hret _ _ dX7_lowestIn_19
set_option maxRecDepth 100000 in
set_option maxHeartbeats 4000000 in
theorem c_WY_plainAround (l : Launch) (Y : Env1) (hG : gY Y = gC) (a0 : Nat) (k0 : kC a0 = 0) (a1 : Int32) (M : Mem) (r : Int64) (hE : WY_plainAround a0 a1 M = some r) : CnL l Y yX5_plainAround cX5_plainAround 11 2 [.ref (hY Y + a0), .int a1] M r M := by
  refine met_L (own := RX5) (by decide +kernel) rfl hG (Nat.le_of_ble_eq_true rfl) (fun X S hY1 hl1 hret => ?_)
  subst hY1
  subst hl1
  show AW X 0 [(0, .ref (hY X.2.1.2 + a0)), (1, .int a1)] [] M
  have L63 : ∀ (v0 : Nat) (k0 : kC v0 = 0) (v6 : Int32) (v7 : Int32) (v8 : Int32) (e : (Int64 × Int64)), AW X 146 [(0, .ref (hY X.2.1.2 + v0)), (2, .long e.1), (4, .long e.2), (6, .int v6)] [] M → ∀ (n : Nat) (s : Int64 × Int64 × Int32), lpR (fun s => WY_plainAround_L63 v0 v6 v7 v8 s.1 s.2.1 s.2.2 M) n s = some e → AW X 63 [(0, .ref (hY X.2.1.2 + v0)), (2, .long s.1), (4, .long s.2.1), (6, .int v6), (7, .int v7), (8, .int v8), (9, .int s.2.2)] [] M := by
    intro v0 k0 v6 v7 v8 e hX
    refine lpR_ind (P := fun (s : Int64 × Int64 × Int32) => AW X 63 [(0, .ref (hY X.2.1.2 + v0)), (2, .long s.1), (4, .long s.2.1), (6, .int v6), (7, .int v7), (8, .int v8), (9, .int s.2.2)] [] M) ?_
    rintro ⟨v2, v4, v9⟩ d hE hC hD
    replace hE : WY_plainAround_L63 v0 v6 v7 v8 v2 v4 v9 M = some d := hE
    show AW X 63 [(0, .ref (hY X.2.1.2 + v0)), (2, .long v2), (4, .long v4), (6, .int v6), (7, .int v7), (8, .int v8), (9, .int v9)] [] M
    unfold WY_plainAround_L63 at hE
    refine r_iload S dX5_plainAround_63 6 rfl ?_
    refine r_iconst S (4 : Int32) dX5_plainAround_65 rfl ?_
    refine r_iload S dX5_plainAround_66 4 rfl ?_
    refine r_imul S dX5_plainAround_68 ?_
    refine r_iconst S (4 : Int32) dX5_plainAround_69 rfl ?_
    refine r_iadd S dX5_plainAround_70 ?_
    refine r_icmp_ge S 146 dX5_plainAround_71 (by decide) (fun c => ?_) (fun c => ?_)
    · rw [if_pos c] at hE
      obtain rfl := si1 hE
      rcases hD with h1 | ⟨_, h1⟩
      · obtain rfl := sir h1
        exact r_sub [0, 1, 2, 3] rfl hX
      · exact (sil h1).elim
    · rw [if_neg c] at hE
      refine r_aload_n S dX5_plainAround_74 0 rfl ?_
      refine r_getRKN S fc0 k0 5 (v0 + 3) rfl rfl q_261 dX5_plainAround_75 ?_
      refine r_iload S dX5_plainAround_78 6 rfl ?_
      refine rc_I S (rn_V S fc3 (kk0_3 k0) (c_NR_at _ _ (gYX S) (v0 + 3) (kk0_3 k0) v9 M _ rfl) wdX3_at q_259 ⟨Nat.le_of_ble_eq_true rfl, Nat.le_of_ble_eq_true rfl⟩ rfl (Nat.le_of_ble_eq_true rfl) dX5_plainAround_80) ?_
      refine r_istore (lv2 := [(10, .int (fAtI (v0 + 3) v9 M)), (0, .ref (hY X.2.1.2 + v0)), (2, .long v2), (4, .long v4), (6, .int v6), (7, .int v7), (8, .int v8), (9, .int v9)]) S dX5_plainAround_83 (by decide) rfl ?_
      refine r_aload_n S dX5_plainAround_85 1 rfl ?_
      refine r_getRKN S fc0 k0 7 (v0 + 7) rfl rfl q_262 dX5_plainAround_86 ?_
      refine r_iload S dX5_plainAround_89 7 rfl ?_
      refine rc_I S (rn_V S fc3 (kk0_7 k0) (c_NR_at _ _ (gYX S) (v0 + 7) (kk0_7 k0) v9 M _ rfl) wdX3_at q_259 ⟨Nat.le_of_ble_eq_true rfl, Nat.le_of_ble_eq_true rfl⟩ rfl (Nat.le_of_ble_eq_true rfl) dX5_plainAround_91) ?_
      refine r_iload S dX5_plainAround_94 6 rfl ?_
      refine r_icmp_ne S 140 dX5_plainAround_96 (by decide) (fun c => ?_) (fun c => ?_)
      · try simp only [if_pos c] at hE
        refine r_iinc (lv2 := [(9, .int (v9 + (1 : Int32))), (10, .int (fAtI (v0 + 3) v9 M)), (0, .ref (hY X.2.1.2 + v0)), (2, .long v2), (4, .long v4), (6, .int v6), (7, .int v7), (8, .int v8)]) S dX5_plainAround_140 (j := 7) rfl (by decide) rfl ?_
        refine r_goto S 63 dX5_plainAround_143 (by decide) ?_
        obtain rfl := si1 hE
        exact r_sub (lv2 := [(0, .ref (hY X.2.1.2 + v0)), (2, .long v2), (4, .long v4), (6, .int v6), (7, .int v7), (8, .int v8), (9, .int (v9 + (1 : Int32)))]) [2, 3, 4, 5, 6, 7, 0] rfl (hC (v2, v4, (v9 + (1 : Int32))) rfl)
      · try simp only [if_neg (not_not_intro c)] at hE
        refine r_aload_n S dX5_plainAround_99 1 rfl ?_
        refine r_getRKN S fc0 k0 4 (v0 + 1) rfl rfl q_258 dX5_plainAround_100 ?_
        refine r_iload S dX5_plainAround_103 0 rfl ?_
        refine rc_I S (rn_V S fc3 (kk0_1 k0) (c_NR_at _ _ (gYX S) (v0 + 1) (kk0_1 k0) (fAtI (v0 + 3) v9 M) M _ rfl) wdX3_at q_259 ⟨Nat.le_of_ble_eq_true rfl, Nat.le_of_ble_eq_true rfl⟩ rfl (Nat.le_of_ble_eq_true rfl) dX5_plainAround_105) ?_
        refine r_iload S dX5_plainAround_108 6 rfl ?_
        refine r_icmp_ne S 140 dX5_plainAround_110 (by decide) (fun c => ?_) (fun c => ?_)
        · try simp only [if_pos c] at hE
          refine r_iinc (lv2 := [(9, .int (v9 + (1 : Int32))), (10, .int (fAtI (v0 + 3) v9 M)), (0, .ref (hY X.2.1.2 + v0)), (2, .long v2), (4, .long v4), (6, .int v6), (7, .int v7), (8, .int v8)]) S dX5_plainAround_140 (j := 7) rfl (by decide) rfl ?_
          refine r_goto S 63 dX5_plainAround_143 (by decide) ?_
          obtain rfl := si1 hE
          exact r_sub (lv2 := [(0, .ref (hY X.2.1.2 + v0)), (2, .long v2), (4, .long v4), (6, .int v6), (7, .int v7), (8, .int v8), (9, .int (v9 + (1 : Int32)))]) [2, 3, 4, 5, 6, 7, 0] rfl (hC (v2, v4, (v9 + (1 : Int32))) rfl)
        · try simp only [if_neg (not_not_intro c)] at hE
          refine r_lload_n S dX5_plainAround_113 2 rfl ?_
          refine r_iload S dX5_plainAround_114 0 rfl ?_
          refine rc_I S (rn_SN S (c_LL_has _ _ (gYX S) v2 (fAtI (v0 + 3) v9 M) M _ rfl) wdX7_has q_263 ⟨Nat.le_of_ble_eq_true rfl, Nat.le_of_ble_eq_true rfl⟩ rfl (Nat.le_of_ble_eq_true rfl) dX5_plainAround_116) ?_
          refine r_if_ne S 140 dX5_plainAround_119 (by decide) (fun c => ?_) (fun c => ?_)
          · try simp only [if_pos c] at hE
            refine r_iinc (lv2 := [(9, .int (v9 + (1 : Int32))), (10, .int (fAtI (v0 + 3) v9 M)), (0, .ref (hY X.2.1.2 + v0)), (2, .long v2), (4, .long v4), (6, .int v6), (7, .int v7), (8, .int v8)]) S dX5_plainAround_140 (j := 7) rfl (by decide) rfl ?_
            refine r_goto S 63 dX5_plainAround_143 (by decide) ?_
            obtain rfl := si1 hE
            exact r_sub (lv2 := [(0, .ref (hY X.2.1.2 + v0)), (2, .long v2), (4, .long v4), (6, .int v6), (7, .int v7), (8, .int v8), (9, .int (v9 + (1 : Int32)))]) [2, 3, 4, 5, 6, 7, 0] rfl (hC (v2, v4, (v9 + (1 : Int32))) rfl)
          · try simp only [if_neg (not_not_intro c)] at hE
            refine r_lload_n S dX5_plainAround_122 2 rfl ?_
            refine r_iload S dX5_plainAround_123 0 rfl ?_
            refine rc_L S (rn_SN S (c_LL_bit _ _ (gYX S) (fAtI (v0 + 3) v9 M) M _ rfl) wdX7_bit q_253 ⟨Nat.le_of_ble_eq_true rfl, Nat.le_of_ble_eq_true rfl⟩ rfl (Nat.le_of_ble_eq_true rfl) dX5_plainAround_125) ?_
            refine r_lor S dX5_plainAround_128 ?_
            refine r_lstore_n (lv2 := [(2, .long (v2 ||| (LL_bit (fAtI (v0 + 3) v9 M)))), (10, .int (fAtI (v0 + 3) v9 M)), (0, .ref (hY X.2.1.2 + v0)), (4, .long v4), (6, .int v6), (7, .int v7), (8, .int v8), (9, .int v9)]) S dX5_plainAround_129 (by decide) rfl ?_
            refine r_lload S dX5_plainAround_130 3 rfl ?_
            refine r_iload S dX5_plainAround_132 1 rfl ?_
            refine rc_L S (rn_SN S (c_LL_bit _ _ (gYX S) (fAtI (v0 + 3) v9 M) M _ rfl) wdX7_bit q_253 ⟨Nat.le_of_ble_eq_true rfl, Nat.le_of_ble_eq_true rfl⟩ rfl (Nat.le_of_ble_eq_true rfl) dX5_plainAround_134) ?_
            refine r_lor S dX5_plainAround_137 ?_
            refine r_lstore (lv2 := [(4, .long (v4 ||| (LL_bit (fAtI (v0 + 3) v9 M)))), (2, .long (v2 ||| (LL_bit (fAtI (v0 + 3) v9 M)))), (10, .int (fAtI (v0 + 3) v9 M)), (0, .ref (hY X.2.1.2 + v0)), (6, .int v6), (7, .int v7), (8, .int v8), (9, .int v9)]) S dX5_plainAround_138 (by decide) rfl ?_
            refine r_iinc (lv2 := [(9, .int (v9 + (1 : Int32))), (4, .long (v4 ||| (LL_bit (fAtI (v0 + 3) v9 M)))), (2, .long (v2 ||| (LL_bit (fAtI (v0 + 3) v9 M)))), (10, .int (fAtI (v0 + 3) v9 M)), (0, .ref (hY X.2.1.2 + v0)), (6, .int v6), (7, .int v7), (8, .int v8)]) S dX5_plainAround_140 (j := 7) rfl (by decide) rfl ?_
            refine r_goto S 63 dX5_plainAround_143 (by decide) ?_
            obtain rfl := si1 hE
            exact r_sub (lv2 := [(0, .ref (hY X.2.1.2 + v0)), (2, .long (v2 ||| (LL_bit (fAtI (v0 + 3) v9 M)))), (4, .long (v4 ||| (LL_bit (fAtI (v0 + 3) v9 M)))), (6, .int v6), (7, .int v7), (8, .int v8), (9, .int (v9 + (1 : Int32)))]) [4, 2, 1, 5, 6, 7, 0] rfl (hC ((v2 ||| (LL_bit (fAtI (v0 + 3) v9 M))), (v4 ||| (LL_bit (fAtI (v0 + 3) v9 M))), (v9 + (1 : Int32))) rfl)
  have L11 : ∀ (v0 : Nat) (k0 : kC v0 = 0) (e : (Int64)), AW X 152 [(2, .long e)] [] M → ∀ (n : Nat) (s : Int64 × Int64 × Int32), lpR (fun s => WY_plainAround_L11 v0 s.1 s.2.1 s.2.2 M) n s = some e → AW X 11 [(0, .ref (hY X.2.1.2 + v0)), (2, .long s.1), (4, .long s.2.1), (6, .int s.2.2)] [] M := by
    intro v0 k0 e hX
    refine lpR_ind (P := fun (s : Int64 × Int64 × Int32) => AW X 11 [(0, .ref (hY X.2.1.2 + v0)), (2, .long s.1), (4, .long s.2.1), (6, .int s.2.2)] [] M) ?_
    rintro ⟨v2, v4, v6⟩ d hE hC hD
    replace hE : WY_plainAround_L11 v0 v2 v4 v6 M = some d := hE
    show AW X 11 [(0, .ref (hY X.2.1.2 + v0)), (2, .long v2), (4, .long v4), (6, .int v6)] [] M
    unfold WY_plainAround_L11 at hE
    refine r_iload S dX5_plainAround_11 3 rfl ?_
    refine r_bipush S (36 : Int32) dX5_plainAround_13 rfl ?_
    refine r_icmp_ge S 152 dX5_plainAround_15 (by decide) (fun c => ?_) (fun c => ?_)
    · rw [if_pos c] at hE
      obtain rfl := si1 hE
      rcases hD with h1 | ⟨_, h1⟩
      · obtain rfl := sir h1
        exact r_sub [1] rfl hX
      · exact (sil h1).elim
    · rw [if_neg c] at hE
      refine r_lload S dX5_plainAround_18 2 rfl ?_
      refine r_lconst S (0 : Int64) dX5_plainAround_20 rfl ?_
      refine r_lcmp_eq S 152 dX5_plainAround_21 dX5_plainAround_22 (by decide) (fun c => ?_) (fun c => ?_)
      · rw [if_pos c] at hE
        obtain rfl := si1 hE
        rcases hD with h1 | ⟨_, h1⟩
        · obtain rfl := sir h1
          exact r_sub [1] rfl hX
        · exact (sil h1).elim
      · rw [if_neg c] at hE
        refine r_lload S dX5_plainAround_25 2 rfl ?_
        refine rc_I S (rn_SN S (c_LL_lowestIn _ _ (gYX S) v4 M _ rfl) wdX7_lowestIn q_254 ⟨Nat.le_of_ble_eq_true rfl, Nat.le_of_ble_eq_true rfl⟩ rfl (Nat.le_of_ble_eq_true rfl) dX5_plainAround_27) ?_
        refine r_istore (lv2 := [(7, .int (LL_lowestIn v4)), (0, .ref (hY X.2.1.2 + v0)), (2, .long v2), (4, .long v4), (6, .int v6)]) S dX5_plainAround_30 (by decide) rfl ?_
        refine r_aload_n S dX5_plainAround_32 1 rfl ?_
        refine r_getRKN S fc0 k0 4 (v0 + 1) rfl rfl q_258 dX5_plainAround_33 ?_
        refine r_iload S dX5_plainAround_36 0 rfl ?_
        refine rc_I S (rn_V S fc3 (kk0_1 k0) (c_NR_at _ _ (gYX S) (v0 + 1) (kk0_1 k0) (LL_lowestIn v4) M _ rfl) wdX3_at q_259 ⟨Nat.le_of_ble_eq_true rfl, Nat.le_of_ble_eq_true rfl⟩ rfl (Nat.le_of_ble_eq_true rfl) dX5_plainAround_38) ?_
        refine r_istore (lv2 := [(8, .int (fAtI (v0 + 1) (LL_lowestIn v4) M)), (7, .int (LL_lowestIn v4)), (0, .ref (hY X.2.1.2 + v0)), (2, .long v2), (4, .long v4), (6, .int v6)]) S dX5_plainAround_41 (by decide) rfl ?_
        refine r_lload S dX5_plainAround_43 4 rfl ?_
        refine r_iload S dX5_plainAround_45 1 rfl ?_
        refine rc_L S (rn_SN S (c_LL_bit _ _ (gYX S) (LL_lowestIn v4) M _ rfl) wdX7_bit q_253 ⟨Nat.le_of_ble_eq_true rfl, Nat.le_of_ble_eq_true rfl⟩ rfl (Nat.le_of_ble_eq_true rfl) dX5_plainAround_47) ?_
        refine r_ldc2 S (v := -1) q_260 dX5_plainAround_50 ?_
        refine r_lxor S dX5_plainAround_53 ?_
        refine r_land S dX5_plainAround_54 ?_
        refine r_lstore (lv2 := [(4, .long (v4 &&& ((LL_bit (LL_lowestIn v4)) ^^^ (-1 : Int64)))), (8, .int (fAtI (v0 + 1) (LL_lowestIn v4) M)), (7, .int (LL_lowestIn v4)), (0, .ref (hY X.2.1.2 + v0)), (2, .long v2), (6, .int v6)]) S dX5_plainAround_55 (by decide) rfl ?_
        refine r_iconst S (4 : Int32) dX5_plainAround_57 rfl ?_
        refine r_iload S dX5_plainAround_58 2 rfl ?_
        refine r_imul S dX5_plainAround_60 ?_
        refine r_istore (lv2 := [(9, .int ((4 : Int32) * (LL_lowestIn v4))), (4, .long (v4 &&& ((LL_bit (LL_lowestIn v4)) ^^^ (-1 : Int64)))), (8, .int (fAtI (v0 + 1) (LL_lowestIn v4) M)), (7, .int (LL_lowestIn v4)), (0, .ref (hY X.2.1.2 + v0)), (2, .long v2), (6, .int v6)]) S dX5_plainAround_61 (by decide) rfl ?_
        obtain ⟨e1, h9, hE⟩ := b1_some hE
        refine r_sub [4, 5, 1, 6, 3, 2, 0] rfl (L63 v0 k0 v6 (LL_lowestIn v4) (fAtI (v0 + 1) (LL_lowestIn v4) M)  e1 ?_ _ _  h9)
        refine r_iinc (lv2 := [(6, .int (v6 + (1 : Int32))), (0, .ref (hY X.2.1.2 + v0)), (2, .long e1.1), (4, .long e1.2)]) S dX5_plainAround_146 (j := 3) rfl (by decide) rfl ?_
        refine r_goto S 11 dX5_plainAround_149 (by decide) ?_
        obtain rfl := si1 hE
        exact r_sub (lv2 := [(0, .ref (hY X.2.1.2 + v0)), (2, .long e1.1), (4, .long e1.2), (6, .int (v6 + (1 : Int32)))]) [1, 2, 3, 0] rfl (hC (e1.1, e1.2, (v6 + (1 : Int32))) rfl)
  unfold WY_plainAround at hE
  refine r_iload_n S dX5_plainAround_0 1 rfl ?_
  refine rc_L S (rn_SN S (c_LL_bit _ _ (gYX S) a1 M _ rfl) wdX7_bit q_253 ⟨Nat.le_of_ble_eq_true rfl, Nat.le_of_ble_eq_true rfl⟩ rfl (Nat.le_of_ble_eq_true rfl) dX5_plainAround_1) ?_
  refine r_lstore_n (lv2 := [(2, .long (LL_bit a1)), (0, .ref (hY X.2.1.2 + a0)), (1, .int a1)]) S dX5_plainAround_4 (by decide) rfl ?_
  refine r_lload_n S dX5_plainAround_5 0 rfl ?_
  refine r_lstore (lv2 := [(4, .long (LL_bit a1)), (2, .long (LL_bit a1)), (0, .ref (hY X.2.1.2 + a0)), (1, .int a1)]) S dX5_plainAround_6 (by decide) rfl ?_
  refine r_iconst S (0 : Int32) dX5_plainAround_8 rfl ?_
  refine r_istore (lv2 := [(6, .int (0 : Int32)), (4, .long (LL_bit a1)), (2, .long (LL_bit a1)), (0, .ref (hY X.2.1.2 + a0)), (1, .int a1)]) S dX5_plainAround_9 (by decide) rfl ?_
  obtain ⟨e1, h9, hE⟩ := b1_some hE
  refine r_sub [3, 2, 1, 0] rfl (L11 a0 k0  e1 ?_ _ _  h9)
  refine r_lload_n S dX5_plainAround_152 0 rfl ?_
  obtain rfl := si1 hE
  exact hret _ _ dX5_plainAround_153
set_option maxRecDepth 100000 in
set_option maxHeartbeats 4000000 in
theorem c_WY_lowerNeighbor (l : Launch) (Y : Env1) (hG : gY Y = gC) (a0 : Nat) (k0 : kC a0 = 0) (a1 : Int32) (M : Mem) (r : Int32) (hE : WY_lowerNeighbor a0 a1 M = some r) : CnI l Y yX5_lowerNeighbor cX5_lowerNeighbor 7 .int 1 [.ref (hY Y + a0), .int a1] M r M := by
  refine met_I (own := RX5) (by decide +kernel) rfl hG (Nat.le_of_ble_eq_true rfl) (fun X S hY1 hl1 hret => ?_)
  subst hY1
  subst hl1
  show AW X 0 [(0, .ref (hY X.2.1.2 + a0)), (1, .int a1)] [] M
  have L19 : ∀ (v0 : Nat) (k0 : kC v0 = 0) (v1 : Int32) (v3 : Int32) (e : (Int32)), AW X 87 [(2, .int e)] [] M → ∀ (n : Nat) (s : Int32 × Int32 × Int32), lpR (fun s => WY_lowerNeighbor_L19 v0 v1 v3 s.1 s.2.1 s.2.2 M) n s = some e → AW X 19 [(0, .ref (hY X.2.1.2 + v0)), (1, .int v1), (2, .int s.1), (3, .int v3), (4, .int s.2.1), (5, .int s.2.2)] [] M := by
    intro v0 k0 v1 v3 e hX
    refine lpR_ind (P := fun (s : Int32 × Int32 × Int32) => AW X 19 [(0, .ref (hY X.2.1.2 + v0)), (1, .int v1), (2, .int s.1), (3, .int v3), (4, .int s.2.1), (5, .int s.2.2)] [] M) ?_
    rintro ⟨v2, v4, v5⟩ d hE hC hD
    replace hE : WY_lowerNeighbor_L19 v0 v1 v3 v2 v4 v5 M = some d := hE
    show AW X 19 [(0, .ref (hY X.2.1.2 + v0)), (1, .int v1), (2, .int v2), (3, .int v3), (4, .int v4), (5, .int v5)] [] M
    unfold WY_lowerNeighbor_L19 at hE
    refine r_iload S dX5_lowerNeighbor_19 5 rfl ?_
    refine r_iconst S (4 : Int32) dX5_lowerNeighbor_21 rfl ?_
    refine r_iload_n S dX5_lowerNeighbor_22 1 rfl ?_
    refine r_imul S dX5_lowerNeighbor_23 ?_
    refine r_iconst S (4 : Int32) dX5_lowerNeighbor_24 rfl ?_
    refine r_iadd S dX5_lowerNeighbor_25 ?_
    refine r_icmp_ge S 87 dX5_lowerNeighbor_26 (by decide) (fun c => ?_) (fun c => ?_)
    · rw [if_pos c] at hE
      obtain rfl := si1 hE
      rcases hD with h1 | ⟨_, h1⟩
      · obtain rfl := sir h1
        exact r_sub [2] rfl hX
      · exact (sil h1).elim
    · rw [if_neg c] at hE
      refine r_aload_n S dX5_lowerNeighbor_29 0 rfl ?_
      refine r_getRKN S fc0 k0 5 (v0 + 3) rfl rfl q_261 dX5_lowerNeighbor_30 ?_
      refine r_iload S dX5_lowerNeighbor_33 5 rfl ?_
      refine rc_I S (rn_V S fc3 (kk0_3 k0) (c_NR_at _ _ (gYX S) (v0 + 3) (kk0_3 k0) v5 M _ rfl) wdX3_at q_259 ⟨Nat.le_of_ble_eq_true rfl, Nat.le_of_ble_eq_true rfl⟩ rfl (Nat.le_of_ble_eq_true rfl) dX5_lowerNeighbor_35) ?_
      refine r_istore (lv2 := [(6, .int (fAtI (v0 + 3) v5 M)), (0, .ref (hY X.2.1.2 + v0)), (1, .int v1), (2, .int v2), (3, .int v3), (4, .int v4), (5, .int v5)]) S dX5_lowerNeighbor_38 (by decide) rfl ?_
      refine r_aload_n S dX5_lowerNeighbor_40 1 rfl ?_
      refine r_getRKN S fc0 k0 7 (v0 + 7) rfl rfl q_262 dX5_lowerNeighbor_41 ?_
      refine r_iload S dX5_lowerNeighbor_44 6 rfl ?_
      refine rc_I S (rn_V S fc3 (kk0_7 k0) (c_NR_at _ _ (gYX S) (v0 + 7) (kk0_7 k0) v5 M _ rfl) wdX3_at q_259 ⟨Nat.le_of_ble_eq_true rfl, Nat.le_of_ble_eq_true rfl⟩ rfl (Nat.le_of_ble_eq_true rfl) dX5_lowerNeighbor_46) ?_
      refine r_iload_n S dX5_lowerNeighbor_49 4 rfl ?_
      refine r_icmp_ne S 81 dX5_lowerNeighbor_50 (by decide) (fun c => ?_) (fun c => ?_)
      · try simp only [if_pos c] at hE
        refine r_iinc (lv2 := [(5, .int (v5 + (1 : Int32))), (6, .int (fAtI (v0 + 3) v5 M)), (0, .ref (hY X.2.1.2 + v0)), (1, .int v1), (2, .int v2), (3, .int v3), (4, .int v4)]) S dX5_lowerNeighbor_81 (j := 6) rfl (by decide) rfl ?_
        refine r_goto S 19 dX5_lowerNeighbor_84 (by decide) ?_
        obtain rfl := si1 hE
        exact r_sub (lv2 := [(0, .ref (hY X.2.1.2 + v0)), (1, .int v1), (2, .int v2), (3, .int v3), (4, .int v4), (5, .int (v5 + (1 : Int32)))]) [2, 3, 4, 5, 6, 0] rfl (hC (v2, v4, (v5 + (1 : Int32))) rfl)
      · try simp only [if_neg (not_not_intro c)] at hE
        refine r_aload_n S dX5_lowerNeighbor_53 1 rfl ?_
        refine r_getRKN S fc0 k0 4 (v0 + 1) rfl rfl q_258 dX5_lowerNeighbor_54 ?_
        refine r_iload S dX5_lowerNeighbor_57 0 rfl ?_
        refine rc_I S (rn_V S fc3 (kk0_1 k0) (c_NR_at _ _ (gYX S) (v0 + 1) (kk0_1 k0) (fAtI (v0 + 3) v5 M) M _ rfl) wdX3_at q_259 ⟨Nat.le_of_ble_eq_true rfl, Nat.le_of_ble_eq_true rfl⟩ rfl (Nat.le_of_ble_eq_true rfl) dX5_lowerNeighbor_59) ?_
        refine r_iload S dX5_lowerNeighbor_62 5 rfl ?_
        refine r_icmp_ge S 81 dX5_lowerNeighbor_64 (by decide) (fun c => ?_) (fun c => ?_)
        · try simp only [if_pos c] at hE
          refine r_iinc (lv2 := [(5, .int (v5 + (1 : Int32))), (6, .int (fAtI (v0 + 3) v5 M)), (0, .ref (hY X.2.1.2 + v0)), (1, .int v1), (2, .int v2), (3, .int v3), (4, .int v4)]) S dX5_lowerNeighbor_81 (j := 6) rfl (by decide) rfl ?_
          refine r_goto S 19 dX5_lowerNeighbor_84 (by decide) ?_
          obtain rfl := si1 hE
          exact r_sub (lv2 := [(0, .ref (hY X.2.1.2 + v0)), (1, .int v1), (2, .int v2), (3, .int v3), (4, .int v4), (5, .int (v5 + (1 : Int32)))]) [2, 3, 4, 5, 6, 0] rfl (hC (v2, v4, (v5 + (1 : Int32))) rfl)
        · try simp only [if_neg c] at hE
          refine r_iload S dX5_lowerNeighbor_67 0 rfl ?_
          refine r_istore_n (lv2 := [(2, .int (fAtI (v0 + 3) v5 M)), (6, .int (fAtI (v0 + 3) v5 M)), (0, .ref (hY X.2.1.2 + v0)), (1, .int v1), (3, .int v3), (4, .int v4), (5, .int v5)]) S dX5_lowerNeighbor_69 (by decide) rfl ?_
          refine r_aload_n S dX5_lowerNeighbor_70 2 rfl ?_
          refine r_getRKN S fc0 k0 4 (v0 + 1) rfl rfl q_258 dX5_lowerNeighbor_71 ?_
          refine r_iload S dX5_lowerNeighbor_74 1 rfl ?_
          refine rc_I S (rn_V S fc3 (kk0_1 k0) (c_NR_at _ _ (gYX S) (v0 + 1) (kk0_1 k0) (fAtI (v0 + 3) v5 M) M _ rfl) wdX3_at q_259 ⟨Nat.le_of_ble_eq_true rfl, Nat.le_of_ble_eq_true rfl⟩ rfl (Nat.le_of_ble_eq_true rfl) dX5_lowerNeighbor_76) ?_
          refine r_istore (lv2 := [(4, .int (fAtI (v0 + 1) (fAtI (v0 + 3) v5 M) M)), (2, .int (fAtI (v0 + 3) v5 M)), (6, .int (fAtI (v0 + 3) v5 M)), (0, .ref (hY X.2.1.2 + v0)), (1, .int v1), (3, .int v3), (5, .int v5)]) S dX5_lowerNeighbor_79 (by decide) rfl ?_
          refine r_iinc (lv2 := [(5, .int (v5 + (1 : Int32))), (4, .int (fAtI (v0 + 1) (fAtI (v0 + 3) v5 M) M)), (2, .int (fAtI (v0 + 3) v5 M)), (6, .int (fAtI (v0 + 3) v5 M)), (0, .ref (hY X.2.1.2 + v0)), (1, .int v1), (3, .int v3)]) S dX5_lowerNeighbor_81 (j := 6) rfl (by decide) rfl ?_
          refine r_goto S 19 dX5_lowerNeighbor_84 (by decide) ?_
          obtain rfl := si1 hE
          exact r_sub (lv2 := [(0, .ref (hY X.2.1.2 + v0)), (1, .int v1), (2, .int (fAtI (v0 + 3) v5 M)), (3, .int v3), (4, .int (fAtI (v0 + 1) (fAtI (v0 + 3) v5 M) M)), (5, .int (v5 + (1 : Int32)))]) [4, 5, 2, 6, 1, 0] rfl (hC ((fAtI (v0 + 3) v5 M), (fAtI (v0 + 1) (fAtI (v0 + 3) v5 M) M), (v5 + (1 : Int32))) rfl)
  unfold WY_lowerNeighbor at hE
  refine r_iconst S (-1 : Int32) dX5_lowerNeighbor_0 rfl ?_
  refine r_istore_n (lv2 := [(2, .int (-1 : Int32)), (0, .ref (hY X.2.1.2 + a0)), (1, .int a1)]) S dX5_lowerNeighbor_1 (by decide) rfl ?_
  refine r_aload_n S dX5_lowerNeighbor_2 1 rfl ?_
  refine r_getRKN S fc0 k0 4 (a0 + 1) rfl rfl q_258 dX5_lowerNeighbor_3 ?_
  refine r_iload_n S dX5_lowerNeighbor_6 2 rfl ?_
  refine rc_I S (rn_V S fc3 (kk0_1 k0) (c_NR_at _ _ (gYX S) (a0 + 1) (kk0_1 k0) a1 M _ rfl) wdX3_at q_259 ⟨Nat.le_of_ble_eq_true rfl, Nat.le_of_ble_eq_true rfl⟩ rfl (Nat.le_of_ble_eq_true rfl) dX5_lowerNeighbor_7) ?_
  refine r_istore_n (lv2 := [(3, .int (fAtI (a0 + 1) a1 M)), (2, .int (-1 : Int32)), (0, .ref (hY X.2.1.2 + a0)), (1, .int a1)]) S dX5_lowerNeighbor_10 (by decide) rfl ?_
  refine r_iload_n S dX5_lowerNeighbor_11 0 rfl ?_
  refine r_istore (lv2 := [(4, .int (fAtI (a0 + 1) a1 M)), (3, .int (fAtI (a0 + 1) a1 M)), (2, .int (-1 : Int32)), (0, .ref (hY X.2.1.2 + a0)), (1, .int a1)]) S dX5_lowerNeighbor_12 (by decide) rfl ?_
  refine r_iconst S (4 : Int32) dX5_lowerNeighbor_14 rfl ?_
  refine r_iload_n S dX5_lowerNeighbor_15 4 rfl ?_
  refine r_imul S dX5_lowerNeighbor_16 ?_
  refine r_istore (lv2 := [(5, .int ((4 : Int32) * a1)), (4, .int (fAtI (a0 + 1) a1 M)), (3, .int (fAtI (a0 + 1) a1 M)), (2, .int (-1 : Int32)), (0, .ref (hY X.2.1.2 + a0)), (1, .int a1)]) S dX5_lowerNeighbor_17 (by decide) rfl ?_
  obtain ⟨e1, h9, hE⟩ := b1_some hE
  refine r_sub [4, 5, 3, 2, 1, 0] rfl (L19 a0 k0 a1 (fAtI (a0 + 1) a1 M)  e1 ?_ _ _  h9)
  refine r_iload_n S dX5_lowerNeighbor_87 0 rfl ?_
  obtain rfl := si1 hE
  exact hret _ _ dX5_lowerNeighbor_88
set_option maxRecDepth 100000 in
set_option maxHeartbeats 4000000 in
theorem c_WY_targetOf (l : Launch) (Y : Env1) (hG : gY Y = gC) (a0 : Nat) (k0 : kC a0 = 0) (a1 : Int64) (M : Mem) (r : Int32) (hE : WY_targetOf a0 a1 M = some r) : CnI l Y yX5_targetOf cX5_targetOf 5 .int 2 [.ref (hY Y + a0), .long a1] M r M := by
  refine met_I (own := RX5) (by decide +kernel) rfl hG (Nat.le_of_ble_eq_true rfl) (fun X S hY1 hl1 hret => ?_)
  subst hY1
  subst hl1
  show AW X 0 [(0, .ref (hY X.2.1.2 + a0)), (1, .long a1)] [] M
  have L18 : ∀ (v0 : Nat) (k0 : kC v0 = 0) (v1 : Int64) (e : (Int32)), AW X 54 [(3, .int e)] [] M → ∀ (n : Nat) (s : Int32 × Int32), lpR (fun s => WY_targetOf_L18 v0 v1 s.1 s.2 M) n s = some e → AW X 18 [(0, .ref (hY X.2.1.2 + v0)), (1, .long v1), (3, .int s.1), (4, .int s.2)] [] M := by
    intro v0 k0 v1 e hX
    refine lpR_ind (P := fun (s : Int32 × Int32) => AW X 18 [(0, .ref (hY X.2.1.2 + v0)), (1, .long v1), (3, .int s.1), (4, .int s.2)] [] M) ?_
    rintro ⟨v3, v4⟩ d hE hC hD
    replace hE : WY_targetOf_L18 v0 v1 v3 v4 M = some d := hE
    show AW X 18 [(0, .ref (hY X.2.1.2 + v0)), (1, .long v1), (3, .int v3), (4, .int v4)] [] M
    unfold WY_targetOf_L18 at hE
    refine r_iload S dX5_targetOf_18 3 rfl ?_
    refine r_aload_n S dX5_targetOf_20 0 rfl ?_
    refine r_getIN S fc0 k0 2 rfl q_265 dX5_targetOf_21 ?_
    refine r_icmp_ge S 54 dX5_targetOf_24 (by decide) (fun c => ?_) (fun c => ?_)
    · rw [if_pos c] at hE
      obtain rfl := si1 hE
      rcases hD with h1 | ⟨_, h1⟩
      · obtain rfl := sir h1
        exact r_sub [2] rfl hX
      · exact (sil h1).elim
    · rw [if_neg c] at hE
      refine r_iload_n S dX5_targetOf_27 2 rfl ?_
      refine r_iconst S (-1 : Int32) dX5_targetOf_28 rfl ?_
      refine r_icmp_ne S 54 dX5_targetOf_29 (by decide) (fun c => ?_) (fun c => ?_)
      · rw [if_pos c] at hE
        obtain rfl := si1 hE
        rcases hD with h1 | ⟨_, h1⟩
        · obtain rfl := sir h1
          exact r_sub [2] rfl hX
        · exact (sil h1).elim
      · rw [if_neg (not_not_intro c)] at hE
        refine r_lload_n S dX5_targetOf_32 1 rfl ?_
        refine r_iload S dX5_targetOf_33 3 rfl ?_
        refine rc_I S (rn_SN S (c_LL_has _ _ (gYX S) v1 v4 M _ rfl) wdX7_has q_263 ⟨Nat.le_of_ble_eq_true rfl, Nat.le_of_ble_eq_true rfl⟩ rfl (Nat.le_of_ble_eq_true rfl) dX5_targetOf_35) ?_
        refine r_if_eq S 48 dX5_targetOf_38 (by decide) (fun c => ?_) (fun c => ?_)
        · rw [if_pos c] at hE
          refine r_iinc (lv2 := [(4, .int (v4 + (1 : Int32))), (0, .ref (hY X.2.1.2 + v0)), (1, .long v1), (3, .int v3)]) S dX5_targetOf_48 (j := 3) rfl (by decide) rfl ?_
          refine r_goto S 18 dX5_targetOf_51 (by decide) ?_
          obtain rfl := si1 hE
          exact r_sub (lv2 := [(0, .ref (hY X.2.1.2 + v0)), (1, .long v1), (3, .int v3), (4, .int (v4 + (1 : Int32)))]) [1, 2, 3, 0] rfl (hC (v3, (v4 + (1 : Int32))) rfl)
        · rw [if_neg c] at hE
          refine r_aload_n S dX5_targetOf_41 0 rfl ?_
          refine r_iload S dX5_targetOf_42 3 rfl ?_
          obtain ⟨x1, h9, hE⟩ := b1_some hE
          refine rc_I S (rn_S S (c_WY_lowerNeighbor _ _ (gYX S) v0 k0 v4 M _ h9) wdX5_lowerNeighbor q_266 ⟨Nat.le_of_ble_eq_true rfl, Nat.le_of_ble_eq_true rfl⟩ rfl (Nat.le_of_ble_eq_true rfl) dX5_targetOf_44) ?_
          refine r_istore_n (lv2 := [(3, .int x1), (0, .ref (hY X.2.1.2 + v0)), (1, .long v1), (4, .int v4)]) S dX5_targetOf_47 (by decide) rfl ?_
          refine r_iinc (lv2 := [(4, .int (v4 + (1 : Int32))), (3, .int x1), (0, .ref (hY X.2.1.2 + v0)), (1, .long v1)]) S dX5_targetOf_48 (j := 3) rfl (by decide) rfl ?_
          refine r_goto S 18 dX5_targetOf_51 (by decide) ?_
          obtain rfl := si1 hE
          exact r_sub (lv2 := [(0, .ref (hY X.2.1.2 + v0)), (1, .long v1), (3, .int x1), (4, .int (v4 + (1 : Int32)))]) [2, 3, 1, 0] rfl (hC (x1, (v4 + (1 : Int32))) rfl)
  unfold WY_targetOf at hE
  refine r_lload_n S dX5_targetOf_0 1 rfl ?_
  refine r_aload_n S dX5_targetOf_1 0 rfl ?_
  refine r_getLN S fc0 k0 3 rfl q_264 dX5_targetOf_2 ?_
  refine r_land S dX5_targetOf_5 ?_
  refine r_lconst S (0 : Int64) dX5_targetOf_6 rfl ?_
  refine r_lcmp_eq S 13 dX5_targetOf_7 dX5_targetOf_8 (by decide) (fun c => ?_) (fun c => ?_)
  · rw [if_pos c] at hE
    refine r_iconst S (-1 : Int32) dX5_targetOf_13 rfl ?_
    refine r_istore_n (lv2 := [(3, .int (-1 : Int32)), (0, .ref (hY X.2.1.2 + a0)), (1, .long a1)]) S dX5_targetOf_14 (by decide) rfl ?_
    refine r_iconst S (0 : Int32) dX5_targetOf_15 rfl ?_
    refine r_istore (lv2 := [(4, .int (0 : Int32)), (3, .int (-1 : Int32)), (0, .ref (hY X.2.1.2 + a0)), (1, .long a1)]) S dX5_targetOf_16 (by decide) rfl ?_
    obtain ⟨e1, h9, hE⟩ := b1_some hE
    refine r_sub [2, 3, 1, 0] rfl (L18 a0 k0 a1  e1 ?_ _ _  h9)
    refine r_iload_n S dX5_targetOf_54 0 rfl ?_
    obtain rfl := si1 hE
    exact hret _ _ dX5_targetOf_55
  · rw [if_neg c] at hE
    refine r_iconst S (-1 : Int32) dX5_targetOf_11 rfl ?_
    obtain rfl := si1 hE
    exact hret _ _ dX5_targetOf_12
set_option maxRecDepth 100000 in
set_option maxHeartbeats 4000000 in
theorem c_WY_markPlain (l : Launch) (Y : Env1) (hG : gY Y = gC) (o : Nat) (ho : kC o = 5) (a1 : Int64) (a3 : Int32) (M : Mem) (r : Unit) (M1 : Mem) (hE : WY_markPlain o a1 a3 M = some (r, M1)) : CnV l Y yX5_markPlain cX5_markPlain 5 1 [.ref (hY Y + o), .long a1, .int a3] M M1 := by
  refine met_V (own := RX5) (by decide +kernel) rfl hG (Nat.le_of_ble_eq_true rfl) (fun X S hY1 hl1 hret => ?_)
  subst hY1
  subst hl1
  show AW X 0 [(0, .ref (hY X.2.1.2 + o)), (1, .long a1), (3, .int a3)] [] M
  have L3 : ∀ (v0 : Nat) (k0 : kC v0 = 5) (v1 : Int64) (v3 : Int32) (e : (Unit)) (M2 : Mem), AW X 45 [] [] M2 → ∀ (n : Nat) (s : Int32) (M : Mem), lpM (fun s M => WY_markPlain_L3 v0 v1 v3 s M) n s M = some (e, M2) → AW X 3 [(0, .ref (hY X.2.1.2 + v0)), (1, .long v1), (3, .int v3), (4, .int s)] [] M := by
    intro v0 k0 v1 v3 e M2 hX
    refine lpM_ind (P := fun (s : Int32) (M : Mem) => AW X 3 [(0, .ref (hY X.2.1.2 + v0)), (1, .long v1), (3, .int v3), (4, .int s)] [] M) ?_
    rintro v4 M d M3 hE hC hD
    replace hE : WY_markPlain_L3 v0 v1 v3 v4 M = some (d, M3) := hE
    show AW X 3 [(0, .ref (hY X.2.1.2 + v0)), (1, .long v1), (3, .int v3), (4, .int v4)] [] M
    unfold WY_markPlain_L3 at hE
    refine r_iload S dX5_markPlain_3 3 rfl ?_
    refine r_bipush S (36 : Int32) dX5_markPlain_5 rfl ?_
    refine r_icmp_ge S 45 dX5_markPlain_7 (by decide) (fun c => ?_) (fun c => ?_)
    · rw [if_pos c] at hE
      obtain ⟨rfl, rfl⟩ := si2 hE
      rcases hD with ⟨h1, h2⟩ | ⟨_, h1⟩
      · obtain rfl := sir h1
        subst h2
        exact r_sub [] rfl hX
      · exact (sil h1).elim
    · rw [if_neg c] at hE
      refine r_lload_n S dX5_markPlain_10 1 rfl ?_
      refine r_iload S dX5_markPlain_11 3 rfl ?_
      refine rc_I S (rn_SN S (c_LL_has _ _ (gYX S) v1 v4 M _ rfl) wdX7_has q_263 ⟨Nat.le_of_ble_eq_true rfl, Nat.le_of_ble_eq_true rfl⟩ rfl (Nat.le_of_ble_eq_true rfl) dX5_markPlain_13) ?_
      refine r_if_eq S 39 dX5_markPlain_16 (by decide) (fun c => ?_) (fun c => ?_)
      · rw [if_pos c] at hE
        refine r_iinc (lv2 := [(4, .int (v4 + (1 : Int32))), (0, .ref (hY X.2.1.2 + v0)), (1, .long v1), (3, .int v3)]) S dX5_markPlain_39 (j := 3) rfl (by decide) rfl ?_
        refine r_goto S 3 dX5_markPlain_42 (by decide) ?_
        obtain ⟨rfl, rfl⟩ := si2 hE
        exact r_sub (lv2 := [(0, .ref (hY X.2.1.2 + v0)), (1, .long v1), (3, .int v3), (4, .int (v4 + (1 : Int32)))]) [1, 2, 3, 0] rfl (hC (v4 + (1 : Int32)) rfl)
      · rw [if_neg c] at hE
        refine r_aload_n S dX5_markPlain_19 0 rfl ?_
        refine r_getRK S fc5 k0 1 (v0 + 1) rfl rfl q_198 dX5_markPlain_20 ?_
        refine r_iload S dX5_markPlain_23 3 rfl ?_
        refine r_lload_n S dX5_markPlain_25 1 rfl ?_
        refine rc_V S (rn_V S fc4 (kk5_1 k0) (c_SR_put _ _ (gYX S) (v0 + 1) (kk5_1 k0) v4 v1 M _ rfl) wdX4_put q_270 ⟨Nat.le_of_ble_eq_true rfl, Nat.le_of_ble_eq_true rfl⟩ rfl (Nat.le_of_ble_eq_true rfl) dX5_markPlain_26) ?_
        refine r_aload_n S dX5_markPlain_29 0 rfl ?_
        refine r_getRK S fc5 k0 2 (v0 + 3) rfl rfl q_204 dX5_markPlain_30 ?_
        refine r_iload S dX5_markPlain_33 3 rfl ?_
        refine r_iload_n S dX5_markPlain_35 2 rfl ?_
        refine rc_V S (rn_V S fc3 (kk5_3 k0) (c_NR_put _ _ (gYX S) (v0 + 3) (kk5_3 k0) v4 v3 (fPutL (v0 + 1) v4 v1 M) _ rfl) wdX3_put q_275 ⟨Nat.le_of_ble_eq_true rfl, Nat.le_of_ble_eq_true rfl⟩ rfl (Nat.le_of_ble_eq_true rfl) dX5_markPlain_36) ?_
        refine r_iinc (lv2 := [(4, .int (v4 + (1 : Int32))), (0, .ref (hY X.2.1.2 + v0)), (1, .long v1), (3, .int v3)]) S dX5_markPlain_39 (j := 3) rfl (by decide) rfl ?_
        refine r_goto S 3 dX5_markPlain_42 (by decide) ?_
        obtain ⟨rfl, rfl⟩ := si2 hE
        exact r_sub (lv2 := [(0, .ref (hY X.2.1.2 + v0)), (1, .long v1), (3, .int v3), (4, .int (v4 + (1 : Int32)))]) [1, 2, 3, 0] rfl (hC (v4 + (1 : Int32)) rfl)
  unfold WY_markPlain at hE
  refine r_iconst S (0 : Int32) dX5_markPlain_0 rfl ?_
  refine r_istore (lv2 := [(4, .int (0 : Int32)), (0, .ref (hY X.2.1.2 + o)), (1, .long a1), (3, .int a3)]) S dX5_markPlain_1 (by decide) rfl ?_
  obtain ⟨e1, M2, h9, hE⟩ := b2_some hE
  refine r_sub [1, 2, 3, 0] rfl (L3 o ho a1 a3  e1 M2 ?_ _ _ M h9)
  obtain ⟨rfl, rfl⟩ := si2 hE
  exact hret _ _ dX5_markPlain_45
