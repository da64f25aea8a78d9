set_option maxRecDepth 100000 in
set_option maxHeartbeats 4000000 in
theorem c_LK_claimCells (l : Launch) (Y : Env1) (hG : gY Y = gC) (o : Nat) (ho : kC o = 1) (a1 : Int32) (M : Mem) (r : Unit) (M1 : Mem) (hE : LK_claimCells o a1 M = some (r, M1)) : CnV l Y yX1_claimCells cX1_claimCells 3 1 [.ref (hY Y + o), .int a1] M M1 := by
  refine met_V (own := RX1) (by decide +kernel) rfl hG (Nat.le_of_ble_eq_true rfl) (fun X S hY1 hl1 hret => ?_)
  subst hY1
  subst hl1
  show AW X 0 [(0, .ref (hY X.2.1.2 + o)), (1, .int a1)] [] M
  have L2 : ∀ (v0 : Nat) (k0 : kC v0 = 1) (v1 : Int32) (e : (Unit)) (M2 : Mem), AW X 38 [] [] M2 → ∀ (n : Nat) (s : Int32) (M : Mem), lpM (fun s M => LK_claimCells_L2 v0 v1 s M) n s M = some (e, M2) → AW X 2 [(0, .ref (hY X.2.1.2 + v0)), (1, .int v1), (2, .int s)] [] M := by
    intro v0 k0 v1 e M2 hX
    refine lpM_ind (P := fun (s : Int32) (M : Mem) => AW X 2 [(0, .ref (hY X.2.1.2 + v0)), (1, .int v1), (2, .int s)] [] M) ?_
    rintro v2 M d M3 hE hC hD
    replace hE : LK_claimCells_L2 v0 v1 v2 M = some (d, M3) := hE
    show AW X 2 [(0, .ref (hY X.2.1.2 + v0)), (1, .int v1), (2, .int v2)] [] M
    unfold LK_claimCells_L2 at hE
    refine r_iload_n S dX1_claimCells_2 2 rfl ?_
    refine r_bipush S (36 : Int32) dX1_claimCells_3 rfl ?_
    refine r_icmp_ge S 38 dX1_claimCells_5 (by decide) (fun c => ?_) (fun c => ?_)
    · rw [if_pos c] at hE
      obtain ⟨rfl, rfl⟩ := si2 hE
      rcases hD with ⟨h1, h2⟩ | ⟨_, h1⟩
      · obtain rfl := sir h1
        subst h2
        exact r_sub [] rfl hX
      · exact (sil h1).elim
    · rw [if_neg c] at hE
      refine r_aload_n S dX1_claimCells_8 0 rfl ?_
      refine r_getRK S fc1 k0 0 (v0 + 1) rfl rfl q_23 dX1_claimCells_9 ?_
      refine r_iload_n S dX1_claimCells_12 1 rfl ?_
      refine rc_L S (rn_V S fc4 (kk1_1 k0) (c_SR_at _ _ (gYX S) (v0 + 1) (kk1_1 k0) v1 M _ rfl) wdX4_at q_24 ⟨Nat.le_of_ble_eq_true rfl, Nat.le_of_ble_eq_true rfl⟩ rfl (Nat.le_of_ble_eq_true rfl) dX1_claimCells_13) ?_
      refine r_iload_n S dX1_claimCells_16 2 rfl ?_
      refine rc_I S (rn_SN S (c_LL_has _ _ (gYX S) (fAtL (v0 + 1) v1 M) v2 M _ rfl) wdX7_has q_37 ⟨Nat.le_of_ble_eq_true rfl, Nat.le_of_ble_eq_true rfl⟩ rfl (Nat.le_of_ble_eq_true rfl) dX1_claimCells_17) ?_
      refine r_if_eq S 32 dX1_claimCells_20 (by decide) (fun c => ?_) (fun c => ?_)
      · rw [if_pos c] at hE
        refine r_iinc (lv2 := [(2, .int (v2 + (1 : Int32))), (0, .ref (hY X.2.1.2 + v0)), (1, .int v1)]) S dX1_claimCells_32 (j := 2) rfl (by decide) rfl ?_
        refine r_goto S 2 dX1_claimCells_35 (by decide) ?_
        obtain ⟨rfl, rfl⟩ := si2 hE
        exact r_sub (lv2 := [(0, .ref (hY X.2.1.2 + v0)), (1, .int v1), (2, .int (v2 + (1 : Int32)))]) [1, 2, 0] rfl (hC (v2 + (1 : Int32)) rfl)
      · rw [if_neg c] at hE
        refine r_aload_n S dX1_claimCells_23 0 rfl ?_
        refine r_getRK S fc1 k0 8 (v0 + 17) rfl rfl q_215 dX1_claimCells_24 ?_
        refine r_iload_n S dX1_claimCells_27 2 rfl ?_
        refine r_iload_n S dX1_claimCells_28 1 rfl ?_
        refine rc_V S (rn_V S fc3 (kk1_17 k0) (c_NR_put _ _ (gYX S) (v0 + 17) (kk1_17 k0) v2 v1 M _ rfl) wdX3_put q_308 ⟨Nat.le_of_ble_eq_true rfl, Nat.le_of_ble_eq_true rfl⟩ rfl (Nat.le_of_ble_eq_true rfl) dX1_claimCells_29) ?_
        refine r_iinc (lv2 := [(2, .int (v2 + (1 : Int32))), (0, .ref (hY X.2.1.2 + v0)), (1, .int v1)]) S dX1_claimCells_32 (j := 2) rfl (by decide) rfl ?_
        refine r_goto S 2 dX1_claimCells_35 (by decide) ?_
        obtain ⟨rfl, rfl⟩ := si2 hE
        exact r_sub (lv2 := [(0, .ref (hY X.2.1.2 + v0)), (1, .int v1), (2, .int (v2 + (1 : Int32)))]) [1, 2, 0] rfl (hC (v2 + (1 : Int32)) rfl)
  unfold LK_claimCells at hE
  refine r_iconst S (0 : Int32) dX1_claimCells_0 rfl ?_
  refine r_istore_n (lv2 := [(2, .int (0 : Int32)), (0, .ref (hY X.2.1.2 + o)), (1, .int a1)]) S dX1_claimCells_1 (by decide) rfl ?_
  obtain ⟨e1, M2, h9, hE⟩ := b2_some hE
  refine r_sub [1, 2, 0] rfl (L2 o ho a1  e1 M2 ?_ _ _ M h9)
  obtain ⟨rfl, rfl⟩ := si2 hE
  exact hret _ _ dX1_claimCells_38
set_option maxRecDepth 100000 in
set_option maxHeartbeats 4000000 in
theorem c_LK_join (l : Launch) (Y : Env1) (hG : gY Y = gC) (o : Nat) (ho : kC o = 1) (a1 : Nat) (k1 : kC a1 = 0) (a2 : Int32) (a3 : Int32) (M : Mem) (r : Int32) (M1 : Mem) (hE : LK_join o a1 a2 a3 M = some (r, M1)) : CnI l Y yX1_join cX1_join 6 .int 2 [.ref (hY Y + o), .ref (hY Y + a1), .int a2, .int a3] M r M1 := by
  refine met_I (own := RX1) (by decide +kernel) rfl hG (Nat.le_of_ble_eq_true rfl) (fun X S hY1 hl1 hret => ?_)
  subst hY1
  subst hl1
  show AW X 0 [(0, .ref (hY X.2.1.2 + o)), (1, .ref (hY X.2.1.2 + a1)), (2, .int a2), (3, .int a3)] [] M
  have J73 : ∀ (v0 : Nat) (k0 : kC v0 = 1) (v1 : Nat) (k1 : kC v1 = 0) (v2 : Int32) (v3 : Int32) (v4 : Int32) (t0 : Int32) (t1 : Int32) (t2 : Nat) (kt2 : kC t2 = 3) (M : Mem), LK_join_J73 v0 v1 v2 v3 v4 t0 t1 t2 M = some (r, M1) → AW X 73 [(0, .ref (hY X.2.1.2 + v0)), (1, .ref (hY X.2.1.2 + v1)), (2, .int v2), (3, .int v3), (4, .int v4)] [.int t0, .int t1, .ref (hY X.2.1.2 + t2)] M := by
    intro v0 k0 v1 k1 v2 v3 v4 t0 t1 t2 kt2 M hE
    unfold LK_join_J73 at hE
    refine rc_V S (rn_V S fc3 kt2 (c_NR_put _ _ (gYX S) t2 kt2 t1 t0 M _ rfl) wdX3_put q_308 ⟨Nat.le_of_ble_eq_true rfl, Nat.le_of_ble_eq_true rfl⟩ rfl (Nat.le_of_ble_eq_true rfl) dX1_join_73) ?_
    refine r_aload_n S dX1_join_76 0 rfl ?_
    refine r_getRK S fc1 k0 0 (v0 + 1) rfl rfl q_23 dX1_join_77 ?_
    refine r_iload S dX1_join_80 4 rfl ?_
    refine r_aload_n S dX1_join_82 0 rfl ?_
    refine r_getRK S fc1 k0 0 (v0 + 1) rfl rfl q_23 dX1_join_83 ?_
    refine r_iload_n S dX1_join_86 2 rfl ?_
    refine rc_L S (rn_V S fc4 (kk1_1 k0) (c_SR_at _ _ (gYX S) (v0 + 1) (kk1_1 k0) v2 (fPutI t2 t1 t0 M) _ rfl) wdX4_at q_24 ⟨Nat.le_of_ble_eq_true rfl, Nat.le_of_ble_eq_true rfl⟩ rfl (Nat.le_of_ble_eq_true rfl) dX1_join_87) ?_
    refine r_aload_n S dX1_join_90 0 rfl ?_
    refine r_getRK S fc1 k0 0 (v0 + 1) rfl rfl q_23 dX1_join_91 ?_
    refine r_iload_n S dX1_join_94 3 rfl ?_
    refine rc_L S (rn_V S fc4 (kk1_1 k0) (c_SR_at _ _ (gYX S) (v0 + 1) (kk1_1 k0) v3 (fPutI t2 t1 t0 M) _ rfl) wdX4_at q_24 ⟨Nat.le_of_ble_eq_true rfl, Nat.le_of_ble_eq_true rfl⟩ rfl (Nat.le_of_ble_eq_true rfl) dX1_join_95) ?_
    refine r_lor S dX1_join_98 ?_
    refine rc_V S (rn_V S fc4 (kk1_1 k0) (c_SR_put _ _ (gYX S) (v0 + 1) (kk1_1 k0) v4 ((fAtL (v0 + 1) v2 (fPutI t2 t1 t0 M)) ||| (fAtL (v0 + 1) v3 (fPutI t2 t1 t0 M))) (fPutI t2 t1 t0 M) _ rfl) wdX4_put q_311 ⟨Nat.le_of_ble_eq_true rfl, Nat.le_of_ble_eq_true rfl⟩ rfl (Nat.le_of_ble_eq_true rfl) dX1_join_99) ?_
    refine r_aload_n S dX1_join_102 0 rfl ?_
    refine r_getRK S fc1 k0 1 (v0 + 3) rfl rfl q_41 dX1_join_103 ?_
    refine r_iload S dX1_join_106 4 rfl ?_
    refine r_aload_n S dX1_join_108 0 rfl ?_
    refine r_getRK S fc1 k0 1 (v0 + 3) rfl rfl q_41 dX1_join_109 ?_
    refine r_iload_n S dX1_join_112 2 rfl ?_
    refine rc_I S (rn_V S fc3 (kk1_3 k0) (c_NR_at _ _ (gYX S) (v0 + 3) (kk1_3 k0) v2 (fPutL (v0 + 1) v4 ((fAtL (v0 + 1) v2 (fPutI t2 t1 t0 M)) ||| (fAtL (v0 + 1) v3 (fPutI t2 t1 t0 M))) (fPutI t2 t1 t0 M)) _ rfl) wdX3_at q_31 ⟨Nat.le_of_ble_eq_true rfl, Nat.le_of_ble_eq_true rfl⟩ rfl (Nat.le_of_ble_eq_true rfl) dX1_join_113) ?_
    refine r_aload_n S dX1_join_116 0 rfl ?_
    refine r_getRK S fc1 k0 1 (v0 + 3) rfl rfl q_41 dX1_join_117 ?_
    refine r_iload_n S dX1_join_120 3 rfl ?_
    refine rc_I S (rn_V S fc3 (kk1_3 k0) (c_NR_at _ _ (gYX S) (v0 + 3) (kk1_3 k0) v3 (fPutL (v0 + 1) v4 ((fAtL (v0 + 1) v2 (fPutI t2 t1 t0 M)) ||| (fAtL (v0 + 1) v3 (fPutI t2 t1 t0 M))) (fPutI t2 t1 t0 M)) _ rfl) wdX3_at q_31 ⟨Nat.le_of_ble_eq_true rfl, Nat.le_of_ble_eq_true rfl⟩ rfl (Nat.le_of_ble_eq_true rfl) dX1_join_121) ?_
    refine r_iadd S dX1_join_124 ?_
    refine rc_V S (rn_V S fc3 (kk1_3 k0) (c_NR_put _ _ (gYX S) (v0 + 3) (kk1_3 k0) v4 ((fAtI (v0 + 3) v2 (fPutL (v0 + 1) v4 ((fAtL (v0 + 1) v2 (fPutI t2 t1 t0 M)) ||| (fAtL (v0 + 1) v3 (fPutI t2 t1 t0 M))) (fPutI t2 t1 t0 M))) + (fAtI (v0 + 3) v3 (fPutL (v0 + 1) v4 ((fAtL (v0 + 1) v2 (fPutI t2 t1 t0 M)) ||| (fAtL (v0 + 1) v3 (fPutI t2 t1 t0 M))) (fPutI t2 t1 t0 M)))) (fPutL (v0 + 1) v4 ((fAtL (v0 + 1) v2 (fPutI t2 t1 t0 M)) ||| (fAtL (v0 + 1) v3 (fPutI t2 t1 t0 M))) (fPutI t2 t1 t0 M)) _ rfl) wdX3_put q_308 ⟨Nat.le_of_ble_eq_true rfl, Nat.le_of_ble_eq_true rfl⟩ rfl (Nat.le_of_ble_eq_true rfl) dX1_join_125) ?_
    refine r_aload_n S dX1_join_128 0 rfl ?_
    refine r_getRK S fc1 k0 4 (v0 + 9) rfl rfl q_211 dX1_join_129 ?_
    refine r_iload S dX1_join_132 4 rfl ?_
    refine r_aload_n S dX1_join_134 0 rfl ?_
    refine r_getRK S fc1 k0 2 (v0 + 5) rfl rfl q_209 dX1_join_135 ?_
    refine r_iload_n S dX1_join_138 2 rfl ?_
    refine rc_I S (rn_V S fc3 (kk1_5 k0) (c_NR_at _ _ (gYX S) (v0 + 5) (kk1_5 k0) v2 (fPutI (v0 + 3) v4 ((fAtI (v0 + 3) v2 (fPutL (v0 + 1) v4 ((fAtL (v0 + 1) v2 (fPutI t2 t1 t0 M)) ||| (fAtL (v0 + 1) v3 (fPutI t2 t1 t0 M))) (fPutI t2 t1 t0 M))) + (fAtI (v0 + 3) v3 (fPutL (v0 + 1) v4 ((fAtL (v0 + 1) v2 (fPutI t2 t1 t0 M)) ||| (fAtL (v0 + 1) v3 (fPutI t2 t1 t0 M))) (fPutI t2 t1 t0 M)))) (fPutL (v0 + 1) v4 ((fAtL (v0 + 1) v2 (fPutI t2 t1 t0 M)) ||| (fAtL (v0 + 1) v3 (fPutI t2 t1 t0 M))) (fPutI t2 t1 t0 M))) _ rfl) wdX3_at q_31 ⟨Nat.le_of_ble_eq_true rfl, Nat.le_of_ble_eq_true rfl⟩ rfl (Nat.le_of_ble_eq_true rfl) dX1_join_139) ?_
    refine r_aload_n S dX1_join_142 0 rfl ?_
    refine r_getRK S fc1 k0 2 (v0 + 5) rfl rfl q_209 dX1_join_143 ?_
    refine r_iload_n S dX1_join_146 3 rfl ?_
    refine rc_I S (rn_V S fc3 (kk1_5 k0) (c_NR_at _ _ (gYX S) (v0 + 5) (kk1_5 k0) v3 (fPutI (v0 + 3) v4 ((fAtI (v0 + 3) v2 (fPutL (v0 + 1) v4 ((fAtL (v0 + 1) v2 (fPutI t2 t1 t0 M)) ||| (fAtL (v0 + 1) v3 (fPutI t2 t1 t0 M))) (fPutI t2 t1 t0 M))) + (fAtI (v0 + 3) v3 (fPutL (v0 + 1) v4 ((fAtL (v0 + 1) v2 (fPutI t2 t1 t0 M)) ||| (fAtL (v0 + 1) v3 (fPutI t2 t1 t0 M))) (fPutI t2 t1 t0 M)))) (fPutL (v0 + 1) v4 ((fAtL (v0 + 1) v2 (fPutI t2 t1 t0 M)) ||| (fAtL (v0 + 1) v3 (fPutI t2 t1 t0 M))) (fPutI t2 t1 t0 M))) _ rfl) wdX3_at q_31 ⟨Nat.le_of_ble_eq_true rfl, Nat.le_of_ble_eq_true rfl⟩ rfl (Nat.le_of_ble_eq_true rfl) dX1_join_147) ?_
    refine r_iadd S dX1_join_150 ?_
    refine rc_V S (rn_V S fc3 (kk1_9 k0) (c_NR_put _ _ (gYX S) (v0 + 9) (kk1_9 k0) v4 ((fAtI (v0 + 5) v2 (fPutI (v0 + 3) v4 ((fAtI (v0 + 3) v2 (fPutL (v0 + 1) v4 ((fAtL (v0 + 1) v2 (fPutI t2 t1 t0 M)) ||| (fAtL (v0 + 1) v3 (fPutI t2 t1 t0 M))) (fPutI t2 t1 t0 M))) + (fAtI (v0 + 3) v3 (fPutL (v0 + 1) v4 ((fAtL (v0 + 1) v2 (fPutI t2 t1 t0 M)) ||| (fAtL (v0 + 1) v3 (fPutI t2 t1 t0 M))) (fPutI t2 t1 t0 M)))) (fPutL (v0 + 1) v4 ((fAtL (v0 + 1) v2 (fPutI t2 t1 t0 M)) ||| (fAtL (v0 + 1) v3 (fPutI t2 t1 t0 M))) (fPutI t2 t1 t0 M)))) + (fAtI (v0 + 5) v3 (fPutI (v0 + 3) v4 ((fAtI (v0 + 3) v2 (fPutL (v0 + 1) v4 ((fAtL (v0 + 1) v2 (fPutI t2 t1 t0 M)) ||| (fAtL (v0 + 1) v3 (fPutI t2 t1 t0 M))) (fPutI t2 t1 t0 M))) + (fAtI (v0 + 3) v3 (fPutL (v0 + 1) v4 ((fAtL (v0 + 1) v2 (fPutI t2 t1 t0 M)) ||| (fAtL (v0 + 1) v3 (fPutI t2 t1 t0 M))) (fPutI t2 t1 t0 M)))) (fPutL (v0 + 1) v4 ((fAtL (v0 + 1) v2 (fPutI t2 t1 t0 M)) ||| (fAtL (v0 + 1) v3 (fPutI t2 t1 t0 M))) (fPutI t2 t1 t0 M))))) (fPutI (v0 + 3) v4 ((fAtI (v0 + 3) v2 (fPutL (v0 + 1) v4 ((fAtL (v0 + 1) v2 (fPutI t2 t1 t0 M)) ||| (fAtL (v0 + 1) v3 (fPutI t2 t1 t0 M))) (fPutI t2 t1 t0 M))) + (fAtI (v0 + 3) v3 (fPutL (v0 + 1) v4 ((fAtL (v0 + 1) v2 (fPutI t2 t1 t0 M)) ||| (fAtL (v0 + 1) v3 (fPutI t2 t1 t0 M))) (fPutI t2 t1 t0 M)))) (fPutL (v0 + 1) v4 ((fAtL (v0 + 1) v2 (fPutI t2 t1 t0 M)) ||| (fAtL (v0 + 1) v3 (fPutI t2 t1 t0 M))) (fPutI t2 t1 t0 M))) _ rfl) wdX3_put q_308 ⟨Nat.le_of_ble_eq_true rfl, Nat.le_of_ble_eq_true rfl⟩ rfl (Nat.le_of_ble_eq_true rfl) dX1_join_151) ?_
    refine r_aload_n S dX1_join_154 0 rfl ?_
    refine r_getRK S fc1 k0 5 (v0 + 11) rfl rfl q_212 dX1_join_155 ?_
    refine r_iload S dX1_join_158 4 rfl ?_
    refine r_aload_n S dX1_join_160 0 rfl ?_
    refine r_getRK S fc1 k0 5 (v0 + 11) rfl rfl q_212 dX1_join_161 ?_
    refine r_iload_n S dX1_join_164 2 rfl ?_
    refine rc_I S (rn_V S fc3 (kk1_11 k0) (c_NR_at _ _ (gYX S) (v0 + 11) (kk1_11 k0) v2 (fPutI (v0 + 9) v4 ((fAtI (v0 + 5) v2 (fPutI (v0 + 3) v4 ((fAtI (v0 + 3) v2 (fPutL (v0 + 1) v4 ((fAtL (v0 + 1) v2 (fPutI t2 t1 t0 M)) ||| (fAtL (v0 + 1) v3 (fPutI t2 t1 t0 M))) (fPutI t2 t1 t0 M))) + (fAtI (v0 + 3) v3 (fPutL (v0 + 1) v4 ((fAtL (v0 + 1) v2 (fPutI t2 t1 t0 M)) ||| (fAtL (v0 + 1) v3 (fPutI t2 t1 t0 M))) (fPutI t2 t1 t0 M)))) (fPutL (v0 + 1) v4 ((fAtL (v0 + 1) v2 (fPutI t2 t1 t0 M)) ||| (fAtL (v0 + 1) v3 (fPutI t2 t1 t0 M))) (fPutI t2 t1 t0 M)))) + (fAtI (v0 + 5) v3 (fPutI (v0 + 3) v4 ((fAtI (v0 + 3) v2 (fPutL (v0 + 1) v4 ((fAtL (v0 + 1) v2 (fPutI t2 t1 t0 M)) ||| (fAtL (v0 + 1) v3 (fPutI t2 t1 t0 M))) (fPutI t2 t1 t0 M))) + (fAtI (v0 + 3) v3 (fPutL (v0 + 1) v4 ((fAtL (v0 + 1) v2 (fPutI t2 t1 t0 M)) ||| (fAtL (v0 + 1) v3 (fPutI t2 t1 t0 M))) (fPutI t2 t1 t0 M)))) (fPutL (v0 + 1) v4 ((fAtL (v0 + 1) v2 (fPutI t2 t1 t0 M)) ||| (fAtL (v0 + 1) v3 (fPutI t2 t1 t0 M))) (fPutI t2 t1 t0 M))))) (fPutI (v0 + 3) v4 ((fAtI (v0 + 3) v2 (fPutL (v0 + 1) v4 ((fAtL (v0 + 1) v2 (fPutI t2 t1 t0 M)) ||| (fAtL (v0 + 1) v3 (fPutI t2 t1 t0 M))) (fPutI t2 t1 t0 M))) + (fAtI (v0 + 3) v3 (fPutL (v0 + 1) v4 ((fAtL (v0 + 1) v2 (fPutI t2 t1 t0 M)) ||| (fAtL (v0 + 1) v3 (fPutI t2 t1 t0 M))) (fPutI t2 t1 t0 M)))) (fPutL (v0 + 1) v4 ((fAtL (v0 + 1) v2 (fPutI t2 t1 t0 M)) ||| (fAtL (v0 + 1) v3 (fPutI t2 t1 t0 M))) (fPutI t2 t1 t0 M)))) _ rfl) wdX3_at q_31 ⟨Nat.le_of_ble_eq_true rfl, Nat.le_of_ble_eq_true rfl⟩ rfl (Nat.le_of_ble_eq_true rfl) dX1_join_165) ?_
    refine r_aload_n S dX1_join_168 0 rfl ?_
    refine r_getRK S fc1 k0 5 (v0 + 11) rfl rfl q_212 dX1_join_169 ?_
    refine r_iload_n S dX1_join_172 3 rfl ?_
    refine rc_I S (rn_V S fc3 (kk1_11 k0) (c_NR_at _ _ (gYX S) (v0 + 11) (kk1_11 k0) v3 (fPutI (v0 + 9) v4 ((fAtI (v0 + 5) v2 (fPutI (v0 + 3) v4 ((fAtI (v0 + 3) v2 (fPutL (v0 + 1) v4 ((fAtL (v0 + 1) v2 (fPutI t2 t1 t0 M)) ||| (fAtL (v0 + 1) v3 (fPutI t2 t1 t0 M))) (fPutI t2 t1 t0 M))) + (fAtI (v0 + 3) v3 (fPutL (v0 + 1) v4 ((fAtL (v0 + 1) v2 (fPutI t2 t1 t0 M)) ||| (fAtL (v0 + 1) v3 (fPutI t2 t1 t0 M))) (fPutI t2 t1 t0 M)))) (fPutL (v0 + 1) v4 ((fAtL (v0 + 1) v2 (fPutI t2 t1 t0 M)) ||| (fAtL (v0 + 1) v3 (fPutI t2 t1 t0 M))) (fPutI t2 t1 t0 M)))) + (fAtI (v0 + 5) v3 (fPutI (v0 + 3) v4 ((fAtI (v0 + 3) v2 (fPutL (v0 + 1) v4 ((fAtL (v0 + 1) v2 (fPutI t2 t1 t0 M)) ||| (fAtL (v0 + 1) v3 (fPutI t2 t1 t0 M))) (fPutI t2 t1 t0 M))) + (fAtI (v0 + 3) v3 (fPutL (v0 + 1) v4 ((fAtL (v0 + 1) v2 (fPutI t2 t1 t0 M)) ||| (fAtL (v0 + 1) v3 (fPutI t2 t1 t0 M))) (fPutI t2 t1 t0 M)))) (fPutL (v0 + 1) v4 ((fAtL (v0 + 1) v2 (fPutI t2 t1 t0 M)) ||| (fAtL (v0 + 1) v3 (fPutI t2 t1 t0 M))) (fPutI t2 t1 t0 M))))) (fPutI (v0 + 3) v4 ((fAtI (v0 + 3) v2 (fPutL (v0 + 1) v4 ((fAtL (v0 + 1) v2 (fPutI t2 t1 t0 M)) ||| (fAtL (v0 + 1) v3 (fPutI t2 t1 t0 M))) (fPutI t2 t1 t0 M))) + (fAtI (v0 + 3) v3 (fPutL (v0 + 1) v4 ((fAtL (v0 + 1) v2 (fPutI t2 t1 t0 M)) ||| (fAtL (v0 + 1) v3 (fPutI t2 t1 t0 M))) (fPutI t2 t1 t0 M)))) (fPutL (v0 + 1) v4 ((fAtL (v0 + 1) v2 (fPutI t2 t1 t0 M)) ||| (fAtL (v0 + 1) v3 (fPutI t2 t1 t0 M))) (fPutI t2 t1 t0 M)))) _ rfl) wdX3_at q_31 ⟨Nat.le_of_ble_eq_true rfl, Nat.le_of_ble_eq_true rfl⟩ rfl (Nat.le_of_ble_eq_true rfl) dX1_join_173) ?_
    refine r_iadd S dX1_join_176 ?_
    refine rc_V S (rn_V S fc3 (kk1_11 k0) (c_NR_put _ _ (gYX S) (v0 + 11) (kk1_11 k0) v4 ((fAtI (v0 + 11) v2 (fPutI (v0 + 9) v4 ((fAtI (v0 + 5) v2 (fPutI (v0 + 3) v4 ((fAtI (v0 + 3) v2 (fPutL (v0 + 1) v4 ((fAtL (v0 + 1) v2 (fPutI t2 t1 t0 M)) ||| (fAtL (v0 + 1) v3 (fPutI t2 t1 t0 M))) (fPutI t2 t1 t0 M))) + (fAtI (v0 + 3) v3 (fPutL (v0 + 1) v4 ((fAtL (v0 + 1) v2 (fPutI t2 t1 t0 M)) ||| (fAtL (v0 + 1) v3 (fPutI t2 t1 t0 M))) (fPutI t2 t1 t0 M)))) (fPutL (v0 + 1) v4 ((fAtL (v0 + 1) v2 (fPutI t2 t1 t0 M)) ||| (fAtL (v0 + 1) v3 (fPutI t2 t1 t0 M))) (fPutI t2 t1 t0 M)))) + (fAtI (v0 + 5) v3 (fPutI (v0 + 3) v4 ((fAtI (v0 + 3) v2 (fPutL (v0 + 1) v4 ((fAtL (v0 + 1) v2 (fPutI t2 t1 t0 M)) ||| (fAtL (v0 + 1) v3 (fPutI t2 t1 t0 M))) (fPutI t2 t1 t0 M))) + (fAtI (v0 + 3) v3 (fPutL (v0 + 1) v4 ((fAtL (v0 + 1) v2 (fPutI t2 t1 t0 M)) ||| (fAtL (v0 + 1) v3 (fPutI t2 t1 t0 M))) (fPutI t2 t1 t0 M)))) (fPutL (v0 + 1) v4 ((fAtL (v0 + 1) v2 (fPutI t2 t1 t0 M)) ||| (fAtL (v0 + 1) v3 (fPutI t2 t1 t0 M))) (fPutI t2 t1 t0 M))))) (fPutI (v0 + 3) v4 ((fAtI (v0 + 3) v2 (fPutL (v0 + 1) v4 ((fAtL (v0 + 1) v2 (fPutI t2 t1 t0 M)) ||| (fAtL (v0 + 1) v3 (fPutI t2 t1 t0 M))) (fPutI t2 t1 t0 M))) + (fAtI (v0 + 3) v3 (fPutL (v0 + 1) v4 ((fAtL (v0 + 1) v2 (fPutI t2 t1 t0 M)) ||| (fAtL (v0 + 1) v3 (fPutI t2 t1 t0 M))) (fPutI t2 t1 t0 M)))) (fPutL (v0 + 1) v4 ((fAtL (v0 + 1) v2 (fPutI t2 t1 t0 M)) ||| (fAtL (v0 + 1) v3 (fPutI t2 t1 t0 M))) (fPutI t2 t1 t0 M))))) + (fAtI (v0 + 11) v3 (fPutI (v0 + 9) v4 ((fAtI (v0 + 5) v2 (fPutI (v0 + 3) v4 ((fAtI (v0 + 3) v2 (fPutL (v0 + 1) v4 ((fAtL (v0 + 1) v2 (fPutI t2 t1 t0 M)) ||| (fAtL (v0 + 1) v3 (fPutI t2 t1 t0 M))) (fPutI t2 t1 t0 M))) + (fAtI (v0 + 3) v3 (fPutL (v0 + 1) v4 ((fAtL (v0 + 1) v2 (fPutI t2 t1 t0 M)) ||| (fAtL (v0 + 1) v3 (fPutI t2 t1 t0 M))) (fPutI t2 t1 t0 M)))) (fPutL (v0 + 1) v4 ((fAtL (v0 + 1) v2 (fPutI t2 t1 t0 M)) ||| (fAtL (v0 + 1) v3 (fPutI t2 t1 t0 M))) (fPutI t2 t1 t0 M)))) + (fAtI (v0 + 5) v3 (fPutI (v0 + 3) v4 ((fAtI (v0 + 3) v2 (fPutL (v0 + 1) v4 ((fAtL (v0 + 1) v2 (fPutI t2 t1 t0 M)) ||| (fAtL (v0 + 1) v3 (fPutI t2 t1 t0 M))) (fPutI t2 t1 t0 M))) + (fAtI (v0 + 3) v3 (fPutL (v0 + 1) v4 ((fAtL (v0 + 1) v2 (fPutI t2 t1 t0 M)) ||| (fAtL (v0 + 1) v3 (fPutI t2 t1 t0 M))) (fPutI t2 t1 t0 M)))) (fPutL (v0 + 1) v4 ((fAtL (v0 + 1) v2 (fPutI t2 t1 t0 M)) ||| (fAtL (v0 + 1) v3 (fPutI t2 t1 t0 M))) (fPutI t2 t1 t0 M))))) (fPutI (v0 + 3) v4 ((fAtI (v0 + 3) v2 (fPutL (v0 + 1) v4 ((fAtL (v0 + 1) v2 (fPutI t2 t1 t0 M)) ||| (fAtL (v0 + 1) v3 (fPutI t2 t1 t0 M))) (fPutI t2 t1 t0 M))) + (fAtI (v0 + 3) v3 (fPutL (v0 + 1) v4 ((fAtL (v0 + 1) v2 (fPutI t2 t1 t0 M)) ||| (fAtL (v0 + 1) v3 (fPutI t2 t1 t0 M))) (fPutI t2 t1 t0 M)))) (fPutL (v0 + 1) v4 ((fAtL (v0 + 1) v2 (fPutI t2 t1 t0 M)) ||| (fAtL (v0 + 1) v3 (fPutI t2 t1 t0 M))) (fPutI t2 t1 t0 M)))))) (fPutI (v0 + 9) v4 ((fAtI (v0 + 5) v2 (fPutI (v0 + 3) v4 ((fAtI (v0 + 3) v2 (fPutL (v0 + 1) v4 ((fAtL (v0 + 1) v2 (fPutI t2 t1 t0 M)) ||| (fAtL (v0 + 1) v3 (fPutI t2 t1 t0 M))) (fPutI t2 t1 t0 M))) + (fAtI (v0 + 3) v3 (fPutL (v0 + 1) v4 ((fAtL (v0 + 1) v2 (fPutI t2 t1 t0 M)) ||| (fAtL (v0 + 1) v3 (fPutI t2 t1 t0 M))) (fPutI t2 t1 t0 M)))) (fPutL (v0 + 1) v4 ((fAtL (v0 + 1) v2 (fPutI t2 t1 t0 M)) ||| (fAtL (v0 + 1) v3 (fPutI t2 t1 t0 M))) (fPutI t2 t1 t0 M)))) + (fAtI (v0 + 5) v3 (fPutI (v0 + 3) v4 ((fAtI (v0 + 3) v2 (fPutL (v0 + 1) v4 ((fAtL (v0 + 1) v2 (fPutI t2 t1 t0 M)) ||| (fAtL (v0 + 1) v3 (fPutI t2 t1 t0 M))) (fPutI t2 t1 t0 M))) + (fAtI (v0 + 3) v3 (fPutL (v0 + 1) v4 ((fAtL (v0 + 1) v2 (fPutI t2 t1 t0 M)) ||| (fAtL (v0 + 1) v3 (fPutI t2 t1 t0 M))) (fPutI t2 t1 t0 M)))) (fPutL (v0 + 1) v4 ((fAtL (v0 + 1) v2 (fPutI t2 t1 t0 M)) ||| (fAtL (v0 + 1) v3 (fPutI t2 t1 t0 M))) (fPutI t2 t1 t0 M))))) (fPutI (v0 + 3) v4 ((fAtI (v0 + 3) v2 (fPutL (v0 + 1) v4 ((fAtL (v0 + 1) v2 (fPutI t2 t1 t0 M)) ||| (fAtL (v0 + 1) v3 (fPutI t2 t1 t0 M))) (fPutI t2 t1 t0 M))) + (fAtI (v0 + 3) v3 (fPutL (v0 + 1) v4 ((fAtL (v0 + 1) v2 (fPutI t2 t1 t0 M)) ||| (fAtL (v0 + 1) v3 (fPutI t2 t1 t0 M))) (fPutI t2 t1 t0 M)))) (fPutL (v0 + 1) v4 ((fAtL (v0 + 1) v2 (fPutI t2 t1 t0 M)) ||| (fAtL (v0 + 1) v3 (fPutI t2 t1 t0 M))) (fPutI t2 t1 t0 M)))) _ rfl) wdX3_put q_308 ⟨Nat.le_of_ble_eq_true rfl, Nat.le_of_ble_eq_true rfl⟩ rfl (Nat.le_of_ble_eq_true rfl) dX1_join_177) ?_
    refine r_aload_n S dX1_join_180 0 rfl ?_
    refine r_aload_n S dX1_join_181 1 rfl ?_
    refine r_iload S dX1_join_182 4 rfl ?_
    obtain ⟨x1, M2, h9, hE⟩ := b2_some hE
    refine rc_V S (rn_V S fc1 k0 (c_LK_findPass _ _ (gYX S) v0 k0 v1 k1 v4 (fPutI (v0 + 11) v4 ((fAtI (v0 + 11) v2 (fPutI (v0 + 9) v4 ((fAtI (v0 + 5) v2 (fPutI (v0 + 3) v4 ((fAtI (v0 + 3) v2 (fPutL (v0 + 1) v4 ((fAtL (v0 + 1) v2 (fPutI t2 t1 t0 M)) ||| (fAtL (v0 + 1) v3 (fPutI t2 t1 t0 M))) (fPutI t2 t1 t0 M))) + (fAtI (v0 + 3) v3 (fPutL (v0 + 1) v4 ((fAtL (v0 + 1) v2 (fPutI t2 t1 t0 M)) ||| (fAtL (v0 + 1) v3 (fPutI t2 t1 t0 M))) (fPutI t2 t1 t0 M)))) (fPutL (v0 + 1) v4 ((fAtL (v0 + 1) v2 (fPutI t2 t1 t0 M)) ||| (fAtL (v0 + 1) v3 (fPutI t2 t1 t0 M))) (fPutI t2 t1 t0 M)))) + (fAtI (v0 + 5) v3 (fPutI (v0 + 3) v4 ((fAtI (v0 + 3) v2 (fPutL (v0 + 1) v4 ((fAtL (v0 + 1) v2 (fPutI t2 t1 t0 M)) ||| (fAtL (v0 + 1) v3 (fPutI t2 t1 t0 M))) (fPutI t2 t1 t0 M))) + (fAtI (v0 + 3) v3 (fPutL (v0 + 1) v4 ((fAtL (v0 + 1) v2 (fPutI t2 t1 t0 M)) ||| (fAtL (v0 + 1) v3 (fPutI t2 t1 t0 M))) (fPutI t2 t1 t0 M)))) (fPutL (v0 + 1) v4 ((fAtL (v0 + 1) v2 (fPutI t2 t1 t0 M)) ||| (fAtL (v0 + 1) v3 (fPutI t2 t1 t0 M))) (fPutI t2 t1 t0 M))))) (fPutI (v0 + 3) v4 ((fAtI (v0 + 3) v2 (fPutL (v0 + 1) v4 ((fAtL (v0 + 1) v2 (fPutI t2 t1 t0 M)) ||| (fAtL (v0 + 1) v3 (fPutI t2 t1 t0 M))) (fPutI t2 t1 t0 M))) + (fAtI (v0 + 3) v3 (fPutL (v0 + 1) v4 ((fAtL (v0 + 1) v2 (fPutI t2 t1 t0 M)) ||| (fAtL (v0 + 1) v3 (fPutI t2 t1 t0 M))) (fPutI t2 t1 t0 M)))) (fPutL (v0 + 1) v4 ((fAtL (v0 + 1) v2 (fPutI t2 t1 t0 M)) ||| (fAtL (v0 + 1) v3 (fPutI t2 t1 t0 M))) (fPutI t2 t1 t0 M))))) + (fAtI (v0 + 11) v3 (fPutI (v0 + 9) v4 ((fAtI (v0 + 5) v2 (fPutI (v0 + 3) v4 ((fAtI (v0 + 3) v2 (fPutL (v0 + 1) v4 ((fAtL (v0 + 1) v2 (fPutI t2 t1 t0 M)) ||| (fAtL (v0 + 1) v3 (fPutI t2 t1 t0 M))) (fPutI t2 t1 t0 M))) + (fAtI (v0 + 3) v3 (fPutL (v0 + 1) v4 ((fAtL (v0 + 1) v2 (fPutI t2 t1 t0 M)) ||| (fAtL (v0 + 1) v3 (fPutI t2 t1 t0 M))) (fPutI t2 t1 t0 M)))) (fPutL (v0 + 1) v4 ((fAtL (v0 + 1) v2 (fPutI t2 t1 t0 M)) ||| (fAtL (v0 + 1) v3 (fPutI t2 t1 t0 M))) (fPutI t2 t1 t0 M)))) + (fAtI (v0 + 5) v3 (fPutI (v0 + 3) v4 ((fAtI (v0 + 3) v2 (fPutL (v0 + 1) v4 ((fAtL (v0 + 1) v2 (fPutI t2 t1 t0 M)) ||| (fAtL (v0 + 1) v3 (fPutI t2 t1 t0 M))) (fPutI t2 t1 t0 M))) + (fAtI (v0 + 3) v3 (fPutL (v0 + 1) v4 ((fAtL (v0 + 1) v2 (fPutI t2 t1 t0 M)) ||| (fAtL (v0 + 1) v3 (fPutI t2 t1 t0 M))) (fPutI t2 t1 t0 M)))) (fPutL (v0 + 1) v4 ((fAtL (v0 + 1) v2 (fPutI t2 t1 t0 M)) ||| (fAtL (v0 + 1) v3 (fPutI t2 t1 t0 M))) (fPutI t2 t1 t0 M))))) (fPutI (v0 + 3) v4 ((fAtI (v0 + 3) v2 (fPutL (v0 + 1) v4 ((fAtL (v0 + 1) v2 (fPutI t2 t1 t0 M)) ||| (fAtL (v0 + 1) v3 (fPutI t2 t1 t0 M))) (fPutI t2 t1 t0 M))) + (fAtI (v0 + 3) v3 (fPutL (v0 + 1) v4 ((fAtL (v0 + 1) v2 (fPutI t2 t1 t0 M)) ||| (fAtL (v0 + 1) v3 (fPutI t2 t1 t0 M))) (fPutI t2 t1 t0 M)))) (fPutL (v0 + 1) v4 ((fAtL (v0 + 1) v2 (fPutI t2 t1 t0 M)) ||| (fAtL (v0 + 1) v3 (fPutI t2 t1 t0 M))) (fPutI t2 t1 t0 M)))))) (fPutI (v0 + 9) v4 ((fAtI (v0 + 5) v2 (fPutI (v0 + 3) v4 ((fAtI (v0 + 3) v2 (fPutL (v0 + 1) v4 ((fAtL (v0 + 1) v2 (fPutI t2 t1 t0 M)) ||| (fAtL (v0 + 1) v3 (fPutI t2 t1 t0 M))) (fPutI t2 t1 t0 M))) + (fAtI (v0 + 3) v3 (fPutL (v0 + 1) v4 ((fAtL (v0 + 1) v2 (fPutI t2 t1 t0 M)) ||| (fAtL (v0 + 1) v3 (fPutI t2 t1 t0 M))) (fPutI t2 t1 t0 M)))) (fPutL (v0 + 1) v4 ((fAtL (v0 + 1) v2 (fPutI t2 t1 t0 M)) ||| (fAtL (v0 + 1) v3 (fPutI t2 t1 t0 M))) (fPutI t2 t1 t0 M)))) + (fAtI (v0 + 5) v3 (fPutI (v0 + 3) v4 ((fAtI (v0 + 3) v2 (fPutL (v0 + 1) v4 ((fAtL (v0 + 1) v2 (fPutI t2 t1 t0 M)) ||| (fAtL (v0 + 1) v3 (fPutI t2 t1 t0 M))) (fPutI t2 t1 t0 M))) + (fAtI (v0 + 3) v3 (fPutL (v0 + 1) v4 ((fAtL (v0 + 1) v2 (fPutI t2 t1 t0 M)) ||| (fAtL (v0 + 1) v3 (fPutI t2 t1 t0 M))) (fPutI t2 t1 t0 M)))) (fPutL (v0 + 1) v4 ((fAtL (v0 + 1) v2 (fPutI t2 t1 t0 M)) ||| (fAtL (v0 + 1) v3 (fPutI t2 t1 t0 M))) (fPutI t2 t1 t0 M))))) (fPutI (v0 + 3) v4 ((fAtI (v0 + 3) v2 (fPutL (v0 + 1) v4 ((fAtL (v0 + 1) v2 (fPutI t2 t1 t0 M)) ||| (fAtL (v0 + 1) v3 (fPutI t2 t1 t0 M))) (fPutI t2 t1 t0 M))) + (fAtI (v0 + 3) v3 (fPutL (v0 + 1) v4 ((fAtL (v0 + 1) v2 (fPutI t2 t1 t0 M)) ||| (fAtL (v0 + 1) v3 (fPutI t2 t1 t0 M))) (fPutI t2 t1 t0 M)))) (fPutL (v0 + 1) v4 ((fAtL (v0 + 1) v2 (fPutI t2 t1 t0 M)) ||| (fAtL (v0 + 1) v3 (fPutI t2 t1 t0 M))) (fPutI t2 t1 t0 M))))) _ _ h9) wdX1_findPass q_313 ⟨Nat.le_of_ble_eq_true rfl, Nat.le_of_ble_eq_true rfl⟩ rfl (Nat.le_of_ble_eq_true rfl) dX1_join_184) ?_
    refine r_aload_n S dX1_join_187 0 rfl ?_
    refine r_aload_n S dX1_join_188 1 rfl ?_
    refine r_iload S dX1_join_189 4 rfl ?_
    obtain ⟨x3, M4, h9, hE⟩ := b2_some hE
    refine rc_V S (rn_V S fc1 k0 (c_LK_findCapacity _ _ (gYX S) v0 k0 v1 k1 v4 M2 _ _ h9) wdX1_findCapacity q_318 ⟨Nat.le_of_ble_eq_true rfl, Nat.le_of_ble_eq_true rfl⟩ rfl (Nat.le_of_ble_eq_true rfl) dX1_join_191) ?_
    refine r_aload_n S dX1_join_194 0 rfl ?_
    refine r_iload S dX1_join_195 4 rfl ?_
    obtain ⟨x5, M6, h9, hE⟩ := b2_some hE
    refine rc_V S (rn_V S fc1 k0 (c_LK_claimCells _ _ (gYX S) v0 k0 v4 M4 _ _ h9) wdX1_claimCells q_488 ⟨Nat.le_of_ble_eq_true rfl, Nat.le_of_ble_eq_true rfl⟩ rfl (Nat.le_of_ble_eq_true rfl) dX1_join_197) ?_
    refine r_iload S dX1_join_200 4 rfl ?_
    obtain ⟨rfl, rfl⟩ := si2 hE
    exact hret _ _ dX1_join_202
  have J54 : ∀ (v0 : Nat) (k0 : kC v0 = 1) (v1 : Nat) (k1 : kC v1 = 0) (v2 : Int32) (v3 : Int32) (v4 : Int32) (v5 : Int32) (t0 : Int32) (t1 : Int32) (t2 : Nat) (kt2 : kC t2 = 3) (M : Mem), LK_join_J54 v0 v1 v2 v3 v4 v5 t0 t1 t2 M = some (r, M1) → AW X 54 [(0, .ref (hY X.2.1.2 + v0)), (1, .ref (hY X.2.1.2 + v1)), (2, .int v2), (3, .int v3), (4, .int v4), (5, .int v5)] [.int t0, .int t1, .ref (hY X.2.1.2 + t2)] M := by
    intro v0 k0 v1 k1 v2 v3 v4 v5 t0 t1 t2 kt2 M hE
    unfold LK_join_J54 at hE
    refine rc_V S (rn_V S fc3 kt2 (c_NR_put _ _ (gYX S) t2 kt2 t1 t0 M _ rfl) wdX3_put q_308 ⟨Nat.le_of_ble_eq_true rfl, Nat.le_of_ble_eq_true rfl⟩ rfl (Nat.le_of_ble_eq_true rfl) dX1_join_54) ?_
    refine r_aload_n S dX1_join_57 0 rfl ?_
    refine r_getRK S fc1 k0 7 (v0 + 15) rfl rfl q_214 dX1_join_58 ?_
    refine r_iload S dX1_join_61 4 rfl ?_
    refine r_iload S dX1_join_63 5 rfl ?_
    refine r_if_eq S 72 dX1_join_65 (by decide) (fun c => ?_) (fun c => ?_)
    · try simp only [if_pos c] at hE
      refine r_iload_n S dX1_join_72 2 rfl ?_
      exact r_sub [0, 1, 2, 3, 4] rfl (J73 v0 k0 v1 k1 v2 v3 v4 v2 v4 (v0 + 15) (kk1_15 k0) (fPutI t2 t1 t0 M) hE)
    · try simp only [if_neg c] at hE
      refine r_iload_n S dX1_join_68 3 rfl ?_
      refine r_goto S 73 dX1_join_69 (by decide) ?_
      exact r_sub [0, 1, 2, 3, 4] rfl (J73 v0 k0 v1 k1 v2 v3 v4 v3 v4 (v0 + 15) (kk1_15 k0) (fPutI t2 t1 t0 M) hE)
  have J36 : ∀ (v0 : Nat) (k0 : kC v0 = 1) (v1 : Nat) (k1 : kC v1 = 0) (v2 : Int32) (v3 : Int32) (v4 : Int32) (t0 : Int32) (M : Mem), LK_join_J36 v0 v1 v2 v3 v4 t0 M = some (r, M1) → AW X 36 [(0, .ref (hY X.2.1.2 + v0)), (1, .ref (hY X.2.1.2 + v1)), (2, .int v2), (3, .int v3), (4, .int v4)] [.int t0] M := by
    intro v0 k0 v1 k1 v2 v3 v4 t0 M hE
    unfold LK_join_J36 at hE
    refine r_istore (lv2 := [(5, .int t0), (0, .ref (hY X.2.1.2 + v0)), (1, .ref (hY X.2.1.2 + v1)), (2, .int v2), (3, .int v3), (4, .int v4)]) S dX1_join_36 (by decide) rfl ?_
    refine r_aload_n S dX1_join_38 1 rfl ?_
    refine r_getRK S fc1 k0 6 (v0 + 13) rfl rfl q_213 dX1_join_39 ?_
    refine r_iload S dX1_join_42 5 rfl ?_
    refine r_iload S dX1_join_44 0 rfl ?_
    refine r_if_eq S 53 dX1_join_46 (by decide) (fun c => ?_) (fun c => ?_)
    · try simp only [if_pos c] at hE
      refine r_iload_n S dX1_join_53 4 rfl ?_
      exact r_sub [1, 2, 3, 4, 5, 0] rfl (J54 v0 k0 v1 k1 v2 v3 v4 t0 v3 v4 (v0 + 13) (kk1_13 k0) M hE)
    · try simp only [if_neg c] at hE
      refine r_iload_n S dX1_join_49 3 rfl ?_
      refine r_goto S 54 dX1_join_50 (by decide) ?_
      exact r_sub [1, 2, 3, 4, 5, 0] rfl (J54 v0 k0 v1 k1 v2 v3 v4 t0 v2 v4 (v0 + 13) (kk1_13 k0) M hE)
  unfold LK_join at hE
  refine r_aload_n S dX1_join_0 0 rfl ?_
  obtain ⟨x1, h9, hE⟩ := b1_some hE
  refine rc_I S (rn_V S fc1 ho (c_LK_freePlace _ _ (gYX S) o ho M _ h9) wdX1_freePlace q_483 ⟨Nat.le_of_ble_eq_true rfl, Nat.le_of_ble_eq_true rfl⟩ rfl (Nat.le_of_ble_eq_true rfl) dX1_join_1) ?_
  refine r_istore (lv2 := [(4, .int x1), (0, .ref (hY X.2.1.2 + o)), (1, .ref (hY X.2.1.2 + a1)), (2, .int a2), (3, .int a3)]) S dX1_join_4 (by decide) rfl ?_
  refine r_aload_n S dX1_join_6 1 rfl ?_
  refine r_getRK S fc1 ho 0 (o + 1) rfl rfl q_23 dX1_join_7 ?_
  refine r_iload_n S dX1_join_10 3 rfl ?_
  refine rc_L S (rn_V S fc4 (kk1_1 ho) (c_SR_at _ _ (gYX S) (o + 1) (kk1_1 ho) a2 M _ rfl) wdX4_at q_24 ⟨Nat.le_of_ble_eq_true rfl, Nat.le_of_ble_eq_true rfl⟩ rfl (Nat.le_of_ble_eq_true rfl) dX1_join_11) ?_
  refine rc_I S (rn_SN S (c_LL_lowestIn _ _ (gYX S) (fAtL (o + 1) a2 M) M _ rfl) wdX7_lowestIn q_363 ⟨Nat.le_of_ble_eq_true rfl, Nat.le_of_ble_eq_true rfl⟩ rfl (Nat.le_of_ble_eq_true rfl) dX1_join_14) ?_
  refine r_aload_n S dX1_join_17 1 rfl ?_
  refine r_getRK S fc1 ho 0 (o + 1) rfl rfl q_23 dX1_join_18 ?_
  refine r_iload_n S dX1_join_21 4 rfl ?_
  refine rc_L S (rn_V S fc4 (kk1_1 ho) (c_SR_at _ _ (gYX S) (o + 1) (kk1_1 ho) a3 M _ rfl) wdX4_at q_24 ⟨Nat.le_of_ble_eq_true rfl, Nat.le_of_ble_eq_true rfl⟩ rfl (Nat.le_of_ble_eq_true rfl) dX1_join_22) ?_
  refine rc_I S (rn_SN S (c_LL_lowestIn _ _ (gYX S) (fAtL (o + 1) a3 M) M _ rfl) wdX7_lowestIn q_363 ⟨Nat.le_of_ble_eq_true rfl, Nat.le_of_ble_eq_true rfl⟩ rfl (Nat.le_of_ble_eq_true rfl) dX1_join_25) ?_
  refine r_icmp_ge S 35 dX1_join_28 (by decide) (fun c => ?_) (fun c => ?_)
  · try simp only [if_pos c] at hE
    refine r_iconst S (0 : Int32) dX1_join_35 rfl ?_
    exact r_sub [1, 2, 3, 4, 0] rfl (J36 o ho a1 k1 a2 a3 x1 (0 : Int32) M hE)
  · try simp only [if_neg c] at hE
    refine r_iconst S (1 : Int32) dX1_join_31 rfl ?_
    refine r_goto S 36 dX1_join_32 (by decide) ?_
    exact r_sub [1, 2, 3, 4, 0] rfl (J36 o ho a1 k1 a2 a3 x1 (1 : Int32) M hE)
set_option maxRecDepth 100000 in
set_option maxHeartbeats 4000000 in
theorem c_LK_pourInto (l : Launch) (Y : Env1) (hG : gY Y = gC) (o : Nat) (ho : kC o = 1) (a1 : Nat) (k1 : kC a1 = 0) (a2 : Int32) (a3 : Int32) (M : Mem) (r : Int32) (M1 : Mem) (hE : LK_pourInto o a1 a2 a3 M = some (r, M1)) : CnI l Y yX1_pourInto cX1_pourInto 10 .int 3 [.ref (hY Y + o), .ref (hY Y + a1), .int a2, .int a3] M r M1 := by
  refine met_I (own := RX1) (by decide +kernel) rfl hG (Nat.le_of_ble_eq_true rfl) (fun X S hY1 hl1 hret => ?_)
  subst hY1
  subst hl1
  show AW X 0 [(0, .ref (hY X.2.1.2 + o)), (1, .ref (hY X.2.1.2 + a1)), (2, .int a2), (3, .int a3)] [] M
  have L9 : ∀ (v0 : Nat) (k0 : kC v0 = 1) (v1 : Nat) (k1 : kC v1 = 0) (q : ((Unit) ⊕ Int32)) (M2 : Mem), (∀ e, q = .inl e → AW X 148 [] [] M2) → (∀ r8, q = .inr r8 → (r8 = r ∧ M2 = M1)) → ∀ (n : Nat) (s : Int32 × Int32 × Int32) (M : Mem), lpM (fun s M => LK_pourInto_L9 v0 v1 s.1 s.2.1 s.2.2 M) n s M = some (q, M2) → AW X 9 [(0, .ref (hY X.2.1.2 + v0)), (1, .ref (hY X.2.1.2 + v1)), (4, .int s.1), (5, .int s.2.1), (6, .int s.2.2)] [] M := by
    intro v0 k0 v1 k1 q M2 hX hR
    refine lpM_ind (P := fun (s : Int32 × Int32 × Int32) (M : Mem) => AW X 9 [(0, .ref (hY X.2.1.2 + v0)), (1, .ref (hY X.2.1.2 + v1)), (4, .int s.1), (5, .int s.2.1), (6, .int s.2.2)] [] M) ?_
    rintro ⟨v4, v5, v6⟩ M d M3 hE hC hD
    replace hE : LK_pourInto_L9 v0 v1 v4 v5 v6 M = some (d, M3) := hE
    show AW X 9 [(0, .ref (hY X.2.1.2 + v0)), (1, .ref (hY X.2.1.2 + v1)), (4, .int v4), (5, .int v5), (6, .int v6)] [] M
    have J119 : ∀ (v4 : Int32) (v5 : Int32) (v6 : Int32) (v8 : Int32) (t0 : Int32) (M : Mem), LK_pourInto_L9_J119 v0 v1 v4 v5 v6 v8 t0 M = some (d, M3) → AW X 119 [(0, .ref (hY X.2.1.2 + v0)), (1, .ref (hY X.2.1.2 + v1)), (4, .int v4), (5, .int v5), (6, .int v6), (8, .int v8)] [.int t0] M := by
      intro v4 v5 v6 v8 t0 M hE
      unfold LK_pourInto_L9_J119 at hE
      refine r_istore (lv2 := [(9, .int t0), (0, .ref (hY X.2.1.2 + v0)), (1, .ref (hY X.2.1.2 + v1)), (4, .int v4), (5, .int v5), (6, .int v6), (8, .int v8)]) S dX1_pourInto_119 (by decide) rfl ?_
      refine r_iload S dX1_pourInto_121 0 rfl ?_
      refine r_if_eq S 138 dX1_pourInto_123 (by decide) (fun c => ?_) (fun c => ?_)
      · rw [if_pos c] at hE
        refine r_iload S dX1_pourInto_138 6 rfl ?_
        refine r_istore (lv2 := [(4, .int v8), (9, .int t0), (0, .ref (hY X.2.1.2 + v0)), (1, .ref (hY X.2.1.2 + v1)), (5, .int v5), (6, .int v6), (8, .int v8)]) S dX1_pourInto_140 (by decide) rfl ?_
        refine r_iinc (lv2 := [(6, .int (v6 + (1 : Int32))), (4, .int v8), (9, .int t0), (0, .ref (hY X.2.1.2 + v0)), (1, .ref (hY X.2.1.2 + v1)), (5, .int v5), (8, .int v8)]) S dX1_pourInto_142 (j := 5) rfl (by decide) rfl ?_
        refine r_goto S 9 dX1_pourInto_145 (by decide) ?_
        obtain ⟨rfl, rfl⟩ := si2 hE
        exact r_sub (lv2 := [(0, .ref (hY X.2.1.2 + v0)), (1, .ref (hY X.2.1.2 + v1)), (4, .int v8), (5, .int v5), (6, .int (v6 + (1 : Int32)))]) [3, 4, 1, 5, 0] rfl (hC (v8, v5, (v6 + (1 : Int32))) rfl)
      · rw [if_neg c] at hE
        refine r_aload_n S dX1_pourInto_126 1 rfl ?_
        refine r_aload_n S dX1_pourInto_127 2 rfl ?_
        refine r_iload S dX1_pourInto_128 3 rfl ?_
        refine r_iload S dX1_pourInto_130 6 rfl ?_
        obtain ⟨x1, M2, h9, hE⟩ := b2_some hE
        refine rc_I S (rn_V S fc1 k0 (c_LK_join _ _ (gYX S) v0 k0 v1 k1 v4 v8 M _ _ h9) wdX1_join q_499 ⟨Nat.le_of_ble_eq_true rfl, Nat.le_of_ble_eq_true rfl⟩ rfl (Nat.le_of_ble_eq_true rfl) dX1_pourInto_132) ?_
        refine r_goto S 140 dX1_pourInto_135 (by decide) ?_
        refine r_istore (lv2 := [(4, .int x1), (9, .int t0), (0, .ref (hY X.2.1.2 + v0)), (1, .ref (hY X.2.1.2 + v1)), (5, .int v5), (6, .int v6), (8, .int v8)]) S dX1_pourInto_140 (by decide) rfl ?_
        refine r_iinc (lv2 := [(6, .int (v6 + (1 : Int32))), (4, .int x1), (9, .int t0), (0, .ref (hY X.2.1.2 + v0)), (1, .ref (hY X.2.1.2 + v1)), (5, .int v5), (8, .int v8)]) S dX1_pourInto_142 (j := 5) rfl (by decide) rfl ?_
        refine r_goto S 9 dX1_pourInto_145 (by decide) ?_
        obtain ⟨rfl, rfl⟩ := si2 hE
        exact r_sub (lv2 := [(0, .ref (hY X.2.1.2 + v0)), (1, .ref (hY X.2.1.2 + v1)), (4, .int x1), (5, .int v5), (6, .int (v6 + (1 : Int32)))]) [3, 4, 1, 5, 0] rfl (hC (x1, v5, (v6 + (1 : Int32))) rfl)
    have J118 : ∀ (v4 : Int32) (v5 : Int32) (v6 : Int32) (v8 : Int32) (M : Mem), LK_pourInto_L9_J118 v0 v1 v4 v5 v6 v8 M = some (d, M3) → AW X 118 [(0, .ref (hY X.2.1.2 + v0)), (1, .ref (hY X.2.1.2 + v1)), (4, .int v4), (5, .int v5), (6, .int v6), (8, .int v8)] [] M := by
      intro v4 v5 v6 v8 M hE
      unfold LK_pourInto_L9_J118 at hE
      refine r_iconst S (0 : Int32) dX1_pourInto_118 rfl ?_
      exact r_sub [0, 1, 2, 3, 4, 5] rfl (J119 v4 v5 v6 v8 (0 : Int32) M hE)
    unfold LK_pourInto_L9 at hE
    refine r_iload S dX1_pourInto_9 4 rfl ?_
    refine r_ldc S (v := 1000000) q_493 dX1_pourInto_11 ?_
    refine r_icmp_ge S 148 dX1_pourInto_13 (by decide) (fun c => ?_) (fun c => ?_)
    · rw [if_pos c] at hE
      obtain ⟨rfl, rfl⟩ := si2 hE
      rcases hD with ⟨h1, h2⟩ | ⟨_, h1⟩
      · obtain rfl := sir h1
        subst h2
        exact r_sub [] rfl (hX _ rfl)
      · exact (sil h1).elim
    · rw [if_neg c] at hE
      refine r_iload S dX1_pourInto_16 3 rfl ?_
      refine r_if_le S 148 dX1_pourInto_18 (by decide) (fun c => ?_) (fun c => ?_)
      · rw [if_pos c] at hE
        obtain ⟨rfl, rfl⟩ := si2 hE
        rcases hD with ⟨h1, h2⟩ | ⟨_, h1⟩
        · obtain rfl := sir h1
          subst h2
          exact r_sub [] rfl (hX _ rfl)
        · exact (sil h1).elim
      · rw [if_neg c] at hE
        refine r_iload S dX1_pourInto_21 3 rfl ?_
        refine r_aload_n S dX1_pourInto_23 0 rfl ?_
        refine r_iload S dX1_pourInto_24 2 rfl ?_
        refine r_iload S dX1_pourInto_26 3 rfl ?_
        obtain ⟨x1, M2, h9, hE⟩ := b2_some hE
        refine rc_I S (rn_V S fc1 k0 (c_LK_fill _ _ (gYX S) v0 k0 v4 v5 M _ _ h9) wdX1_fill q_494 ⟨Nat.le_of_ble_eq_true rfl, Nat.le_of_ble_eq_true rfl⟩ rfl (Nat.le_of_ble_eq_true rfl) dX1_pourInto_28) ?_
        refine r_isub S dX1_pourInto_31 ?_
        refine r_istore (lv2 := [(5, .int (v5 - x1)), (0, .ref (hY X.2.1.2 + v0)), (1, .ref (hY X.2.1.2 + v1)), (4, .int v4), (6, .int v6)]) S dX1_pourInto_32 (by decide) rfl ?_
        refine r_iload S dX1_pourInto_34 0 rfl ?_
        refine r_if_le S 142 dX1_pourInto_36 (by decide) (fun c => ?_) (fun c => ?_)
        · rw [if_pos c] at hE
          refine r_iinc (lv2 := [(6, .int (v6 + (1 : Int32))), (5, .int (v5 - x1)), (0, .ref (hY X.2.1.2 + v0)), (1, .ref (hY X.2.1.2 + v1)), (4, .int v4)]) S dX1_pourInto_142 (j := 4) rfl (by decide) rfl ?_
          refine r_goto S 9 dX1_pourInto_145 (by decide) ?_
          obtain ⟨rfl, rfl⟩ := si2 hE
          exact r_sub (lv2 := [(0, .ref (hY X.2.1.2 + v0)), (1, .ref (hY X.2.1.2 + v1)), (4, .int v4), (5, .int (v5 - x1)), (6, .int (v6 + (1 : Int32)))]) [2, 3, 4, 1, 0] rfl (hC (v4, (v5 - x1), (v6 + (1 : Int32))) rfl)
        · rw [if_neg c] at hE
          refine r_aload_n S dX1_pourInto_39 1 rfl ?_
          refine r_getRK S fc1 k0 3 (v0 + 7) rfl rfl q_210 dX1_pourInto_40 ?_
          refine r_iload S dX1_pourInto_43 3 rfl ?_
          refine rc_I S (rn_V S fc3 (kk1_7 k0) (c_NR_at _ _ (gYX S) (v0 + 7) (kk1_7 k0) v4 M2 _ rfl) wdX3_at q_31 ⟨Nat.le_of_ble_eq_true rfl, Nat.le_of_ble_eq_true rfl⟩ rfl (Nat.le_of_ble_eq_true rfl) dX1_pourInto_45) ?_
          refine r_istore (lv2 := [(7, .int (fAtI (v0 + 7) v4 M2)), (5, .int (v5 - x1)), (0, .ref (hY X.2.1.2 + v0)), (1, .ref (hY X.2.1.2 + v1)), (4, .int v4), (6, .int v6)]) S dX1_pourInto_48 (by decide) rfl ?_
          refine r_aload_n S dX1_pourInto_50 2 rfl ?_
          refine r_getRK S fc1 k0 8 (v0 + 17) rfl rfl q_215 dX1_pourInto_51 ?_
          refine r_aload_n S dX1_pourInto_54 3 rfl ?_
          refine r_getRKN S fc0 k1 5 (v1 + 3) rfl rfl q_306 dX1_pourInto_55 ?_
          refine r_iload S dX1_pourInto_58 0 rfl ?_
          refine rc_I S (rn_V S fc3 (kk0_3 k1) (c_NR_at _ _ (gYX S) (v1 + 3) (kk0_3 k1) (fAtI (v0 + 7) v4 M2) M2 _ rfl) wdX3_at q_31 ⟨Nat.le_of_ble_eq_true rfl, Nat.le_of_ble_eq_true rfl⟩ rfl (Nat.le_of_ble_eq_true rfl) dX1_pourInto_60) ?_
          refine rc_I S (rn_V S fc3 (kk1_17 k0) (c_NR_at _ _ (gYX S) (v0 + 17) (kk1_17 k0) (fAtI (v1 + 3) (fAtI (v0 + 7) v4 M2) M2) M2 _ rfl) wdX3_at q_31 ⟨Nat.le_of_ble_eq_true rfl, Nat.le_of_ble_eq_true rfl⟩ rfl (Nat.le_of_ble_eq_true rfl) dX1_pourInto_63) ?_
          refine r_istore (lv2 := [(8, .int (fAtI (v0 + 17) (fAtI (v1 + 3) (fAtI (v0 + 7) v4 M2) M2) M2)), (7, .int (fAtI (v0 + 7) v4 M2)), (5, .int (v5 - x1)), (0, .ref (hY X.2.1.2 + v0)), (1, .ref (hY X.2.1.2 + v1)), (4, .int v4), (6, .int v6)]) S dX1_pourInto_66 (by decide) rfl ?_
          refine r_iload S dX1_pourInto_68 0 rfl ?_
          refine r_iconst S (-1 : Int32) dX1_pourInto_70 rfl ?_
          refine r_icmp_ne S 77 dX1_pourInto_71 (by decide) (fun c => ?_) (fun c => ?_)
          · rw [if_pos c] at hE
            refine r_aload_n S dX1_pourInto_77 3 rfl ?_
            refine r_iload S dX1_pourInto_78 0 rfl ?_
            refine rc_I S (rn_V S fc1 k0 (c_LK_isFull _ _ (gYX S) v0 k0 (fAtI (v0 + 17) (fAtI (v1 + 3) (fAtI (v0 + 7) v4 M2) M2) M2) M2 _ rfl) wdX1_isFull q_380 ⟨Nat.le_of_ble_eq_true rfl, Nat.le_of_ble_eq_true rfl⟩ rfl (Nat.le_of_ble_eq_true rfl) dX1_pourInto_80) ?_
            refine r_if_eq S 118 dX1_pourInto_83 (by decide) (fun c => ?_) (fun c => ?_)
            · try simp only [if_pos c] at hE
              refine r_iconst S (0 : Int32) dX1_pourInto_118 rfl ?_
              exact r_sub [3, 4, 5, 2, 6, 0] rfl (J119 v4 (v5 - x1) v6 (fAtI (v0 + 17) (fAtI (v1 + 3) (fAtI (v0 + 7) v4 M2) M2) M2) (0 : Int32) M2 hE)
            · try simp only [if_neg c] at hE
              refine r_aload_n S dX1_pourInto_86 4 rfl ?_
              refine r_getRKN S fc0 k1 7 (v1 + 7) rfl rfl q_307 dX1_pourInto_87 ?_
              refine r_aload_n S dX1_pourInto_90 3 rfl ?_
              refine r_getRK S fc1 k0 3 (v0 + 7) rfl rfl q_210 dX1_pourInto_91 ?_
              refine r_iload S dX1_pourInto_94 0 rfl ?_
              refine rc_I S (rn_V S fc3 (kk1_7 k0) (c_NR_at _ _ (gYX S) (v0 + 7) (kk1_7 k0) (fAtI (v0 + 17) (fAtI (v1 + 3) (fAtI (v0 + 7) v4 M2) M2) M2) M2 _ rfl) wdX3_at q_31 ⟨Nat.le_of_ble_eq_true rfl, Nat.le_of_ble_eq_true rfl⟩ rfl (Nat.le_of_ble_eq_true rfl) dX1_pourInto_96) ?_
              refine rc_I S (rn_V S fc3 (kk0_7 k1) (c_NR_at _ _ (gYX S) (v1 + 7) (kk0_7 k1) (fAtI (v0 + 7) (fAtI (v0 + 17) (fAtI (v1 + 3) (fAtI (v0 + 7) v4 M2) M2) M2) M2) M2 _ rfl) wdX3_at q_31 ⟨Nat.le_of_ble_eq_true rfl, Nat.le_of_ble_eq_true rfl⟩ rfl (Nat.le_of_ble_eq_true rfl) dX1_pourInto_99) ?_
              refine r_aload_n S dX1_pourInto_102 4 rfl ?_
              refine r_getRKN S fc0 k1 7 (v1 + 7) rfl rfl q_307 dX1_pourInto_103 ?_
              refine r_iload S dX1_pourInto_106 1 rfl ?_
              refine rc_I S (rn_V S fc3 (kk0_7 k1) (c_NR_at _ _ (gYX S) (v1 + 7) (kk0_7 k1) (fAtI (v0 + 7) v4 M2) M2 _ rfl) wdX3_at q_31 ⟨Nat.le_of_ble_eq_true rfl, Nat.le_of_ble_eq_true rfl⟩ rfl (Nat.le_of_ble_eq_true rfl) dX1_pourInto_108) ?_
              refine r_icmp_ne S 118 dX1_pourInto_111 (by decide) (fun c => ?_) (fun c => ?_)
              · try simp only [if_pos c] at hE
                refine r_iconst S (0 : Int32) dX1_pourInto_118 rfl ?_
                exact r_sub [3, 4, 5, 2, 6, 0] rfl (J119 v4 (v5 - x1) v6 (fAtI (v0 + 17) (fAtI (v1 + 3) (fAtI (v0 + 7) v4 M2) M2) M2) (0 : Int32) M2 hE)
              · try simp only [if_neg (not_not_intro c)] at hE
                refine r_iconst S (1 : Int32) dX1_pourInto_114 rfl ?_
                refine r_goto S 119 dX1_pourInto_115 (by decide) ?_
                exact r_sub [3, 4, 5, 2, 6, 0] rfl (J119 v4 (v5 - x1) v6 (fAtI (v0 + 17) (fAtI (v1 + 3) (fAtI (v0 + 7) v4 M2) M2) M2) (1 : Int32) M2 hE)
          · rw [if_neg (not_not_intro c)] at hE
            refine r_iload S dX1_pourInto_74 2 rfl ?_
            obtain ⟨rfl, rfl⟩ := si2 hE
            rcases hD with ⟨h1, h2⟩ | ⟨_, h1⟩
            · obtain rfl := sir h1
              subst h2
              obtain ⟨rfl, rfl⟩ := hR _ rfl
              exact hret _ _ dX1_pourInto_76
            · exact (sil h1).elim
  unfold LK_pourInto at hE
  refine r_iload_n S dX1_pourInto_0 2 rfl ?_
  refine r_istore (lv2 := [(4, .int a2), (0, .ref (hY X.2.1.2 + o)), (1, .ref (hY X.2.1.2 + a1)), (2, .int a2), (3, .int a3)]) S dX1_pourInto_1 (by decide) rfl ?_
  refine r_iload_n S dX1_pourInto_3 4 rfl ?_
  refine r_istore (lv2 := [(5, .int a3), (4, .int a2), (0, .ref (hY X.2.1.2 + o)), (1, .ref (hY X.2.1.2 + a1)), (2, .int a2), (3, .int a3)]) S dX1_pourInto_4 (by decide) rfl ?_
  refine r_iconst S (0 : Int32) dX1_pourInto_6 rfl ?_
  refine r_istore (lv2 := [(6, .int (0 : Int32)), (5, .int a3), (4, .int a2), (0, .ref (hY X.2.1.2 + o)), (1, .ref (hY X.2.1.2 + a1)), (2, .int a2), (3, .int a3)]) S dX1_pourInto_7 (by decide) rfl ?_
  obtain ⟨e1, M2, h9, hE⟩ := b2_some hE
  refine r_sub [3, 4, 2, 1, 0] rfl (L9 o ho a1 k1  e1 M2 (fun e3 h8 => ?_) (fun r8 h8 => ?_) _ _ M h9)
  · subst h8
    refine r_iconst S (0 : Int32) dX1_pourInto_148 rfl ?_
    obtain ⟨rfl, rfl⟩ := si2 hE
    exact hret _ _ dX1_pourInto_149
  · subst h8
    exact si2 hE
set_option maxRecDepth 100000 in
set_option maxHeartbeats 4000000 in
theorem c_WD_pourAt (l : Launch) (Y : Env1) (hG : gY Y = gC) (o : Nat) (ho : kC o = 6) (a1 : Int32) (a2 : Int32) (M : Mem) (r : Int32) (M1 : Mem) (hE : WD_pourAt o a1 a2 M = some (r, M1)) : CnI l Y yX6_pourAt cX6_pourAt 5 .int 4 [.ref (hY Y + o), .int a1, .int a2] M r M1 := by
  refine met_I (own := RX6) (by decide +kernel) rfl hG (Nat.le_of_ble_eq_true rfl) (fun X S hY1 hl1 hret => ?_)
  subst hY1
  subst hl1
  show AW X 0 [(0, .ref (hY X.2.1.2 + o)), (1, .int a1), (2, .int a2)] [] M
  have J34 : ∀ (v0 : Nat) (k0 : kC v0 = 6) (t0 : Int32) (M : Mem), WD_pourAt_J34 v0 t0 M = some (r, M1) → AW X 34 [(0, .ref (hY X.2.1.2 + v0))] [.int t0] M := by
    intro v0 k0 t0 M hE
    unfold WD_pourAt_J34 at hE
    refine r_istore (lv2 := [(4, .int t0), (0, .ref (hY X.2.1.2 + v0))]) S dX6_pourAt_34 (by decide) rfl ?_
    refine r_aload_n S dX6_pourAt_36 1 rfl ?_
    refine r_dup S dX6_pourAt_37 rfl ?_
    refine r_getL S fc6 k0 4 rfl q_235 dX6_pourAt_38 ?_
    refine r_iload S dX6_pourAt_41 0 rfl ?_
    refine r_i2l S dX6_pourAt_43 ?_
    refine r_ladd S dX6_pourAt_44 ?_
    refine r_putL S fc6 k0 4 rfl rfl (by decide +kernel) q_235 dX6_pourAt_45 ?_
    refine r_iload S dX6_pourAt_48 0 rfl ?_
    obtain ⟨rfl, rfl⟩ := si2 hE
    exact hret _ _ dX6_pourAt_50
  unfold WD_pourAt at hE
  refine r_aload_n S dX6_pourAt_0 0 rfl ?_
  refine r_getRK S fc6 ho 2 (o + 19) rfl rfl q_228 dX6_pourAt_1 ?_
  refine r_getRKN S fc1 (kk6_19 ho) 8 (o + 36) rfl rfl q_369 dX6_pourAt_4 ?_
  refine r_iload_n S dX6_pourAt_7 1 rfl ?_
  refine rc_I S (rn_V S fc3 (kk1_17 (kk6_19 ho)) (c_NR_at _ _ (gYX S) (o + 36) (kk1_17 (kk6_19 ho)) a1 M _ rfl) wdX3_at q_370 ⟨Nat.le_of_ble_eq_true rfl, Nat.le_of_ble_eq_true rfl⟩ rfl (Nat.le_of_ble_eq_true rfl) dX6_pourAt_8) ?_
  refine r_istore_n (lv2 := [(3, .int (fAtI (o + 36) a1 M)), (0, .ref (hY X.2.1.2 + o)), (1, .int a1), (2, .int a2)]) S dX6_pourAt_11 (by decide) rfl ?_
  refine r_iload_n S dX6_pourAt_12 0 rfl ?_
  refine r_iconst S (-1 : Int32) dX6_pourAt_13 rfl ?_
  refine r_icmp_ne S 21 dX6_pourAt_14 (by decide) (fun c => ?_) (fun c => ?_)
  · rw [if_pos c] at hE
    refine r_aload_n S dX6_pourAt_21 1 rfl ?_
    refine r_getRK S fc6 ho 2 (o + 19) rfl rfl q_228 dX6_pourAt_22 ?_
    refine r_aload_n S dX6_pourAt_25 1 rfl ?_
    refine r_getRK S fc6 ho 0 (o + 1) rfl rfl q_216 dX6_pourAt_26 ?_
    refine r_iload_n S dX6_pourAt_29 0 rfl ?_
    refine r_iload_n S dX6_pourAt_30 3 rfl ?_
    obtain ⟨x1, M2, h9, hE⟩ := b2_some hE
    refine rc_I S (rn_V S fc1 (kk6_19 ho) (c_LK_pourInto _ _ (gYX S) (o + 19) (kk6_19 ho) (o + 1) (kk6_1 ho) (fAtI (o + 36) a1 M) a2 M _ _ h9) wdX1_pourInto q_504 ⟨Nat.le_of_ble_eq_true rfl, Nat.le_of_ble_eq_true rfl⟩ rfl (Nat.le_of_ble_eq_true rfl) dX6_pourAt_31) ?_
    exact r_sub [1] rfl (J34 o ho x1 M2 hE)
  · rw [if_neg (not_not_intro c)] at hE
    refine r_iload_n S dX6_pourAt_17 3 rfl ?_
    refine r_goto S 34 dX6_pourAt_18 (by decide) ?_
    exact r_sub [1] rfl (J34 o ho a2 M hE)
set_option maxRecDepth 100000 in
set_option maxHeartbeats 4000000 in
theorem c_LL_wouldBeWet (l : Launch) (Y : Env1) (hG : gY Y = gC) (a1 : Int32) (a2 : Int32) (a3 : Int32) (M : Mem) (r : Int32) (M1 : Mem) (hE : LL_wouldBeWet a1 a2 a3 M = some (r, M1)) : CnI l Y yX7_wouldBeWet cX7_wouldBeWet 4 .boolean 5 [.ref (hY Y + 0), .int a1, .int a2, .int a3] M r M1 := by
  refine met_Z (own := RX7) (by decide +kernel) rfl hG (Nat.le_of_ble_eq_true rfl) (fun X S hY1 hl1 hret => ?_)
  subst hY1
  subst hl1
  show AW X 0 [(0, .ref (hY X.2.1.2 + 0)), (1, .int a1), (2, .int a2), (3, .int a3)] [] M
  unfold LL_wouldBeWet at hE
  refine r_aload_n S dX7_wouldBeWet_0 0 rfl ?_
  refine r_getRK S fc7 (by decide) 1 47 rfl rfl q_343 dX7_wouldBeWet_1 ?_
  refine r_aload_n S dX7_wouldBeWet_4 0 rfl ?_
  refine r_getRK S fc7 (by decide) 0 1 rfl rfl q_50 dX7_wouldBeWet_5 ?_
  obtain ⟨x1, M2, h9, hE⟩ := b2_some hE
  refine rc_V S (rn_V S fc6 (by decide) (c_WD_copyFrom _ _ (gYX S) 47 (by decide) 1 (by decide) M _ _ h9) wdX6_copyFrom q_243 ⟨Nat.le_of_ble_eq_true rfl, Nat.le_of_ble_eq_true rfl⟩ rfl (Nat.le_of_ble_eq_true rfl) dX7_wouldBeWet_8) ?_
  refine r_aload_n S dX7_wouldBeWet_11 0 rfl ?_
  refine r_getRK S fc7 (by decide) 1 47 rfl rfl q_343 dX7_wouldBeWet_12 ?_
  refine r_iload_n S dX7_wouldBeWet_15 1 rfl ?_
  refine r_iload_n S dX7_wouldBeWet_16 2 rfl ?_
  obtain ⟨x3, M4, h9, hE⟩ := b2_some hE
  refine rc_I S (rn_V S fc6 (by decide) (c_WD_pourAt _ _ (gYX S) 47 (by decide) a1 a2 M2 _ _ h9) wdX6_pourAt q_509 ⟨Nat.le_of_ble_eq_true rfl, Nat.le_of_ble_eq_true rfl⟩ rfl (Nat.le_of_ble_eq_true rfl) dX7_wouldBeWet_17) ?_
  refine r_pop S dX7_wouldBeWet_20 rfl ?_
  refine r_aload_n S dX7_wouldBeWet_21 0 rfl ?_
  refine r_getRK S fc7 (by decide) 1 47 rfl rfl q_343 dX7_wouldBeWet_22 ?_
  refine r_iload_n S dX7_wouldBeWet_25 3 rfl ?_
  obtain ⟨x5, h9, hE⟩ := b1_some hE
  refine rc_I S (rn_V S fc6 (by decide) (c_WD_isWet _ _ (gYX S) 47 (by decide) a3 M4 _ h9) wdX6_isWet q_412 ⟨Nat.le_of_ble_eq_true rfl, Nat.le_of_ble_eq_true rfl⟩ rfl (Nat.le_of_ble_eq_true rfl) dX7_wouldBeWet_26) ?_
  obtain ⟨rfl, rfl⟩ := si2 hE
  exact hret _ _ _ dX7_wouldBeWet_29 rfl
set_option maxRecDepth 100000 in
set_option maxHeartbeats 4000000 in
theorem c_GR_scatter (l : Launch) (Y : Env1) (hG : gY Y = gC) (o : Nat) (ho : kC o = 0) (a1 : Int32) (a2 : Int32) (M : Mem) (r : Unit) (M1 : Mem) (hE : GR_scatter o a1 a2 M = some (r, M1)) : CnV l Y yX0_scatter cX0_scatter 7 1 [.ref (hY Y + o), .int a1, .int a2] M M1 := by
  refine met_V (own := RX0) (by decide +kernel) rfl hG (Nat.le_of_ble_eq_true rfl) (fun X S hY1 hl1 hret => ?_)
  subst hY1
  subst hl1
  show AW X 0 [(0, .ref (hY X.2.1.2 + o)), (1, .int a1), (2, .int a2)] [] M
  have L11 : ∀ (v0 : Nat) (k0 : kC v0 = 0) (v5 : Int32) (e : (Unit)) (M2 : Mem), AW X 64 [] [] M2 → ∀ (n : Nat) (s : Int64 × Int32) (M : Mem), lpM (fun s M => GR_scatter_L11 v0 v5 s.1 s.2 M) n s M = some (e, M2) → AW X 11 [(0, .ref (hY X.2.1.2 + v0)), (3, .long s.1), (5, .int v5), (6, .int s.2)] [] M := by
    intro v0 k0 v5 e M2 hX
    refine lpM_ind (P := fun (s : Int64 × Int32) (M : Mem) => AW X 11 [(0, .ref (hY X.2.1.2 + v0)), (3, .long s.1), (5, .int v5), (6, .int s.2)] [] M) ?_
    rintro ⟨v3, v6⟩ M d M3 hE hC hD
    replace hE : GR_scatter_L11 v0 v5 v3 v6 M = some (d, M3) := hE
    show AW X 11 [(0, .ref (hY X.2.1.2 + v0)), (3, .long v3), (5, .int v5), (6, .int v6)] [] M
    unfold GR_scatter_L11 at hE
    refine r_iload S dX0_scatter_11 3 rfl ?_
    refine r_aload_n S dX0_scatter_13 0 rfl ?_
    refine r_getI S fc0 k0 2 rfl q_46 dX0_scatter_14 ?_
    refine r_icmp_ge S 64 dX0_scatter_17 (by decide) (fun c => ?_) (fun c => ?_)
    · rw [if_pos c] at hE
      obtain ⟨rfl, rfl⟩ := si2 hE
      rcases hD with ⟨h1, h2⟩ | ⟨_, h1⟩
      · obtain rfl := sir h1
        subst h2
        exact r_sub [] rfl hX
      · exact (sil h1).elim
    · rw [if_neg c] at hE
      refine r_iload S dX0_scatter_20 2 rfl ?_
      refine r_if_le S 64 dX0_scatter_22 (by decide) (fun c => ?_) (fun c => ?_)
      · rw [if_pos c] at hE
        obtain ⟨rfl, rfl⟩ := si2 hE
        rcases hD with ⟨h1, h2⟩ | ⟨_, h1⟩
        · obtain rfl := sir h1
          subst h2
          exact r_sub [] rfl hX
        · exact (sil h1).elim
      · rw [if_neg c] at hE
        refine r_ldc2 S (v := 1103515245) q_514 dX0_scatter_25 ?_
        refine r_lload_n S dX0_scatter_28 1 rfl ?_
        refine r_lmul S dX0_scatter_29 ?_
        refine r_ldc2 S (v := 12345) q_515 dX0_scatter_30 ?_
        refine r_ladd S dX0_scatter_33 ?_
        refine r_ldc2 S (v := 2147483648) q_516 dX0_scatter_34 ?_
        refine r_lrem S dX0_scatter_37 (by decide) ?_
        refine r_lstore_n (lv2 := [(3, .long (lrm (((1103515245 : Int64) * v3) + (12345 : Int64)) (2147483648 : Int64))), (0, .ref (hY X.2.1.2 + v0)), (5, .int v5), (6, .int v6)]) S dX0_scatter_38 (by decide) rfl ?_
        refine r_aload_n S dX0_scatter_39 1 rfl ?_
        refine r_getRK S fc0 k0 4 (v0 + 1) rfl rfl q_48 dX0_scatter_40 ?_
        refine r_iload S dX0_scatter_43 3 rfl ?_
        refine r_lload_n S dX0_scatter_45 0 rfl ?_
        refine r_ldc2 S (v := 65536) q_517 dX0_scatter_46 ?_
        refine r_ldiv S dX0_scatter_49 (by decide) ?_
        refine r_iload S dX0_scatter_50 2 rfl ?_
        refine r_i2l S dX0_scatter_52 ?_
        obtain ⟨hy, hE⟩ := ck_some hE
        refine r_lrem S dX0_scatter_53 (of_decide_eq_true hy) ?_
        refine r_l2i S dX0_scatter_54 ?_
        refine rc_V S (rn_V S fc3 (kk0_1 k0) (c_NR_put _ _ (gYX S) (v0 + 1) (kk0_1 k0) v6 ((lrm ((lrm (((1103515245 : Int64) * v3) + (12345 : Int64)) (2147483648 : Int64)) / (65536 : Int64)) v5.toInt64).toInt32) M _ rfl) wdX3_put q_105 ⟨Nat.le_of_ble_eq_true rfl, Nat.le_of_ble_eq_true rfl⟩ rfl (Nat.le_of_ble_eq_true rfl) dX0_scatter_55) ?_
        refine r_iinc (lv2 := [(6, .int (v6 + (1 : Int32))), (3, .long (lrm (((1103515245 : Int64) * v3) + (12345 : Int64)) (2147483648 : Int64))), (0, .ref (hY X.2.1.2 + v0)), (5, .int v5)]) S dX0_scatter_58 (j := 3) rfl (by decide) rfl ?_
        refine r_goto S 11 dX0_scatter_61 (by decide) ?_
        obtain ⟨rfl, rfl⟩ := si2 hE
        exact r_sub (lv2 := [(0, .ref (hY X.2.1.2 + v0)), (3, .long (lrm (((1103515245 : Int64) * v3) + (12345 : Int64)) (2147483648 : Int64))), (5, .int v5), (6, .int (v6 + (1 : Int32)))]) [2, 1, 3, 0] rfl (hC ((lrm (((1103515245 : Int64) * v3) + (12345 : Int64)) (2147483648 : Int64)), (v6 + (1 : Int32))) rfl)
  unfold GR_scatter at hE
  refine r_iload_n S dX0_scatter_0 1 rfl ?_
  refine r_i2l S dX0_scatter_1 ?_
  refine r_lstore_n (lv2 := [(3, .long a1.toInt64), (0, .ref (hY X.2.1.2 + o)), (1, .int a1), (2, .int a2)]) S dX0_scatter_2 (by decide) rfl ?_
  refine r_iload_n S dX0_scatter_3 3 rfl ?_
  refine r_iconst S (1 : Int32) dX0_scatter_4 rfl ?_
  refine r_iadd S dX0_scatter_5 ?_
  refine r_istore (lv2 := [(5, .int (a2 + (1 : Int32))), (3, .long a1.toInt64), (0, .ref (hY X.2.1.2 + o)), (1, .int a1), (2, .int a2)]) S dX0_scatter_6 (by decide) rfl ?_
  refine r_iconst S (0 : Int32) dX0_scatter_8 rfl ?_
  refine r_istore (lv2 := [(6, .int (0 : Int32)), (5, .int (a2 + (1 : Int32))), (3, .long a1.toInt64), (0, .ref (hY X.2.1.2 + o)), (1, .int a1), (2, .int a2)]) S dX0_scatter_9 (by decide) rfl ?_
  obtain ⟨e1, M2, h9, hE⟩ := b2_some hE
  refine r_sub [3, 2, 1, 0] rfl (L11 o ho (a2 + (1 : Int32))  e1 M2 ?_ _ _ M h9)
  obtain ⟨rfl, rfl⟩ := si2 hE
  exact hret _ _ dX0_scatter_64
set_option maxRecDepth 100000 in
set_option maxHeartbeats 4000000 in
theorem c_LK_partLake (l : Launch) (Y : Env1) (hG : gY Y = gC) (o : Nat) (ho : kC o = 1) (a1 : Int32) (M : Mem) (r : Unit) (M1 : Mem) (hE : LK_partLake o a1 M = some (r, M1)) : CnV l Y yX1_partLake cX1_partLake 4 2 [.ref (hY Y + o), .int a1] M M1 := by
  refine met_V (own := RX1) (by decide +kernel) rfl hG (Nat.le_of_ble_eq_true rfl) (fun X S hY1 hl1 hret => ?_)
  subst hY1
  subst hl1
  show AW X 0 [(0, .ref (hY X.2.1.2 + o)), (1, .int a1)] [] M
  unfold LK_partLake at hE
  refine r_aload_n S dX1_partLake_0 0 rfl ?_
  refine r_getRK S fc1 ho 6 (o + 13) rfl rfl q_213 dX1_partLake_1 ?_
  refine r_iload_n S dX1_partLake_4 1 rfl ?_
  refine rc_I S (rn_V S fc3 (kk1_13 ho) (c_NR_at _ _ (gYX S) (o + 13) (kk1_13 ho) a1 M _ rfl) wdX3_at q_31 ⟨Nat.le_of_ble_eq_true rfl, Nat.le_of_ble_eq_true rfl⟩ rfl (Nat.le_of_ble_eq_true rfl) dX1_partLake_5) ?_
  refine r_istore_n (lv2 := [(2, .int (fAtI (o + 13) a1 M)), (0, .ref (hY X.2.1.2 + o)), (1, .int a1)]) S dX1_partLake_8 (by decide) rfl ?_
  refine r_aload_n S dX1_partLake_9 1 rfl ?_
  refine r_getRK S fc1 ho 7 (o + 15) rfl rfl q_214 dX1_partLake_10 ?_
  refine r_iload_n S dX1_partLake_13 2 rfl ?_
  refine rc_I S (rn_V S fc3 (kk1_15 ho) (c_NR_at _ _ (gYX S) (o + 15) (kk1_15 ho) a1 M _ rfl) wdX3_at q_31 ⟨Nat.le_of_ble_eq_true rfl, Nat.le_of_ble_eq_true rfl⟩ rfl (Nat.le_of_ble_eq_true rfl) dX1_partLake_14) ?_
  refine r_istore_n (lv2 := [(3, .int (fAtI (o + 15) a1 M)), (2, .int (fAtI (o + 13) a1 M)), (0, .ref (hY X.2.1.2 + o)), (1, .int a1)]) S dX1_partLake_17 (by decide) rfl ?_
  refine r_aload_n S dX1_partLake_18 2 rfl ?_
  refine r_getRK S fc1 ho 1 (o + 3) rfl rfl q_41 dX1_partLake_19 ?_
  refine r_iload_n S dX1_partLake_22 1 rfl ?_
  refine r_aload_n S dX1_partLake_23 2 rfl ?_
  refine r_getRK S fc1 ho 2 (o + 5) rfl rfl q_209 dX1_partLake_24 ?_
  refine r_iload_n S dX1_partLake_27 1 rfl ?_
  refine rc_I S (rn_V S fc3 (kk1_5 ho) (c_NR_at _ _ (gYX S) (o + 5) (kk1_5 ho) (fAtI (o + 13) a1 M) M _ rfl) wdX3_at q_31 ⟨Nat.le_of_ble_eq_true rfl, Nat.le_of_ble_eq_true rfl⟩ rfl (Nat.le_of_ble_eq_true rfl) dX1_partLake_28) ?_
  refine rc_V S (rn_V S fc3 (kk1_3 ho) (c_NR_put _ _ (gYX S) (o + 3) (kk1_3 ho) (fAtI (o + 13) a1 M) (fAtI (o + 5) (fAtI (o + 13) a1 M) M) M _ rfl) wdX3_put q_308 ⟨Nat.le_of_ble_eq_true rfl, Nat.le_of_ble_eq_true rfl⟩ rfl (Nat.le_of_ble_eq_true rfl) dX1_partLake_31) ?_
  refine r_aload_n S dX1_partLake_34 2 rfl ?_
  refine r_getRK S fc1 ho 1 (o + 3) rfl rfl q_41 dX1_partLake_35 ?_
  refine r_iload_n S dX1_partLake_38 0 rfl ?_
  refine r_aload_n S dX1_partLake_39 2 rfl ?_
  refine r_getRK S fc1 ho 2 (o + 5) rfl rfl q_209 dX1_partLake_40 ?_
  refine r_iload_n S dX1_partLake_43 0 rfl ?_
  refine rc_I S (rn_V S fc3 (kk1_5 ho) (c_NR_at _ _ (gYX S) (o + 5) (kk1_5 ho) (fAtI (o + 15) a1 M) (fPutI (o + 3) (fAtI (o + 13) a1 M) (fAtI (o + 5) (fAtI (o + 13) a1 M) M) M) _ rfl) wdX3_at q_31 ⟨Nat.le_of_ble_eq_true rfl, Nat.le_of_ble_eq_true rfl⟩ rfl (Nat.le_of_ble_eq_true rfl) dX1_partLake_44) ?_
  refine rc_V S (rn_V S fc3 (kk1_3 ho) (c_NR_put _ _ (gYX S) (o + 3) (kk1_3 ho) (fAtI (o + 15) a1 M) (fAtI (o + 5) (fAtI (o + 15) a1 M) (fPutI (o + 3) (fAtI (o + 13) a1 M) (fAtI (o + 5) (fAtI (o + 13) a1 M) M) M)) (fPutI (o + 3) (fAtI (o + 13) a1 M) (fAtI (o + 5) (fAtI (o + 13) a1 M) M) M) _ rfl) wdX3_put q_308 ⟨Nat.le_of_ble_eq_true rfl, Nat.le_of_ble_eq_true rfl⟩ rfl (Nat.le_of_ble_eq_true rfl) dX1_partLake_47) ?_
  refine r_aload_n S dX1_partLake_50 2 rfl ?_
  refine r_iload_n S dX1_partLake_51 1 rfl ?_
  obtain ⟨x1, M2, h9, hE⟩ := b2_some hE
  refine rc_V S (rn_V S fc1 ho (c_LK_claimCells _ _ (gYX S) o ho (fAtI (o + 13) a1 M) (fPutI (o + 3) (fAtI (o + 15) a1 M) (fAtI (o + 5) (fAtI (o + 15) a1 M) (fPutI (o + 3) (fAtI (o + 13) a1 M) (fAtI (o + 5) (fAtI (o + 13) a1 M) M) M)) (fPutI (o + 3) (fAtI (o + 13) a1 M) (fAtI (o + 5) (fAtI (o + 13) a1 M) M) M)) _ _ h9) wdX1_claimCells q_488 ⟨Nat.le_of_ble_eq_true rfl, Nat.le_of_ble_eq_true rfl⟩ rfl (Nat.le_of_ble_eq_true rfl) dX1_partLake_52) ?_
  refine r_aload_n S dX1_partLake_55 2 rfl ?_
  refine r_iload_n S dX1_partLake_56 0 rfl ?_
  obtain ⟨x3, M4, h9, hE⟩ := b2_some hE
  refine rc_V S (rn_V S fc1 ho (c_LK_claimCells _ _ (gYX S) o ho (fAtI (o + 15) a1 M) M2 _ _ h9) wdX1_claimCells q_488 ⟨Nat.le_of_ble_eq_true rfl, Nat.le_of_ble_eq_true rfl⟩ rfl (Nat.le_of_ble_eq_true rfl) dX1_partLake_57) ?_
  refine r_aload_n S dX1_partLake_60 2 rfl ?_
  refine r_getRK S fc1 ho 0 (o + 1) rfl rfl q_23 dX1_partLake_61 ?_
  refine r_iload_n S dX1_partLake_64 3 rfl ?_
  refine r_lconst S (0 : Int64) dX1_partLake_65 rfl ?_
  refine rc_V S (rn_V S fc4 (kk1_1 ho) (c_SR_put _ _ (gYX S) (o + 1) (kk1_1 ho) a1 (0 : Int64) M4 _ rfl) wdX4_put q_311 ⟨Nat.le_of_ble_eq_true rfl, Nat.le_of_ble_eq_true rfl⟩ rfl (Nat.le_of_ble_eq_true rfl) dX1_partLake_66) ?_
  obtain ⟨rfl, rfl⟩ := si2 hE
  exact hret _ _ dX1_partLake_69
