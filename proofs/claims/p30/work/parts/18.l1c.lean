set_option maxRecDepth 100000 in
set_option maxHeartbeats 4000000 in
theorem c_LK_draw (l : Launch) (Y : Env1) (hG : gY Y = gC) (o : Nat) (ho : kC o = 1) (a1 : Int32) (a2 : Int32) (M : Mem) (r : Unit) (M1 : Mem) (hE : LK_draw o a1 a2 M = some (r, M1)) : CnV l Y yX1_draw cX1_draw 9 3 [.ref (hY Y + o), .int a1, .int a2] M M1 := by
  refine met_V (own := RX1) (by decide +kernel) rfl hG (Nat.le_of_ble_eq_true rfl) (fun X S hY1 hl1 hret => ?_)
  subst hY1
  subst hl1
  show AW X 0 [(0, .ref (hY X.2.1.2 + o)), (1, .int a1), (2, .int a2)] [] M
  have L23 : ∀ (v0 : Nat) (k0 : kC v0 = 1) (e : (Unit)) (M2 : Mem), AW X 199 [] [] M2 → ∀ (n : Nat) (s : Int32 × Int32) (M : Mem), lpM (fun s M => LK_draw_L23 v0 s.1 s.2 M) n s M = some (e, M2) → AW X 23 [(0, .ref (hY X.2.1.2 + v0)), (3, .int s.1), (4, .int s.2)] [] M := by
    intro v0 k0 e M2 hX
    refine lpM_ind (P := fun (s : Int32 × Int32) (M : Mem) => AW X 23 [(0, .ref (hY X.2.1.2 + v0)), (3, .int s.1), (4, .int s.2)] [] M) ?_
    rintro ⟨v3, v4⟩ M d M3 hE hC hD
    replace hE : LK_draw_L23 v0 v3 v4 M = some (d, M3) := hE
    show AW X 23 [(0, .ref (hY X.2.1.2 + v0)), (3, .int v3), (4, .int v4)] [] M
    unfold LK_draw_L23 at hE
    refine r_iload S dX1_draw_23 2 rfl ?_
    refine r_bipush S (71 : Int32) dX1_draw_25 rfl ?_
    refine r_icmp_ge S 199 dX1_draw_27 (by decide) (fun c => ?_) (fun c => ?_)
    · rw [if_pos c] at hE
      obtain ⟨rfl, rfl⟩ := si2 hE
      rcases hD with ⟨h1, h2⟩ | ⟨_, h1⟩
      · obtain rfl := sir h1
        subst h2
        exact r_sub [] rfl hX
      · exact (sil h1).elim
    · rw [if_neg c] at hE
      refine r_iload_n S dX1_draw_30 1 rfl ?_
      refine r_if_le S 199 dX1_draw_31 (by decide) (fun c => ?_) (fun c => ?_)
      · rw [if_pos c] at hE
        obtain ⟨rfl, rfl⟩ := si2 hE
        rcases hD with ⟨h1, h2⟩ | ⟨_, h1⟩
        · obtain rfl := sir h1
          subst h2
          exact r_sub [] rfl hX
        · exact (sil h1).elim
      · rw [if_neg c] at hE
        refine r_iinc (lv2 := [(3, .int (v3 + (-1 : Int32))), (0, .ref (hY X.2.1.2 + v0)), (4, .int v4)]) S dX1_draw_34 (j := 1) rfl (by decide) rfl ?_
        refine r_aload_n S dX1_draw_37 1 rfl ?_
        refine r_getRK S fc1 k0 9 (v0 + 19) rfl rfl q_518 dX1_draw_38 ?_
        refine r_iload_n S dX1_draw_41 0 rfl ?_
        refine rc_I S (rn_V S fc3 (kk1_19 k0) (c_NR_at _ _ (gYX S) (v0 + 19) (kk1_19 k0) (v3 + (-1 : Int32)) M _ rfl) wdX3_at q_31 ⟨Nat.le_of_ble_eq_true rfl, Nat.le_of_ble_eq_true rfl⟩ rfl (Nat.le_of_ble_eq_true rfl) dX1_draw_42) ?_
        refine r_istore (lv2 := [(5, .int (fAtI (v0 + 19) (v3 + (-1 : Int32)) M)), (3, .int (v3 + (-1 : Int32))), (0, .ref (hY X.2.1.2 + v0)), (4, .int v4)]) S dX1_draw_45 (by decide) rfl ?_
        refine r_aload_n S dX1_draw_47 2 rfl ?_
        refine r_getRK S fc1 k0 1 (v0 + 3) rfl rfl q_41 dX1_draw_48 ?_
        refine r_iload S dX1_draw_51 0 rfl ?_
        refine rc_I S (rn_V S fc3 (kk1_3 k0) (c_NR_at _ _ (gYX S) (v0 + 3) (kk1_3 k0) (fAtI (v0 + 19) (v3 + (-1 : Int32)) M) M _ rfl) wdX3_at q_31 ⟨Nat.le_of_ble_eq_true rfl, Nat.le_of_ble_eq_true rfl⟩ rfl (Nat.le_of_ble_eq_true rfl) dX1_draw_53) ?_
        refine r_aload_n S dX1_draw_56 2 rfl ?_
        refine r_getRK S fc1 k0 10 (v0 + 21) rfl rfl q_519 dX1_draw_57 ?_
        refine r_iload_n S dX1_draw_60 1 rfl ?_
        refine rc_I S (rn_V S fc3 (kk1_21 k0) (c_NR_at _ _ (gYX S) (v0 + 21) (kk1_21 k0) (v3 + (-1 : Int32)) M _ rfl) wdX3_at q_31 ⟨Nat.le_of_ble_eq_true rfl, Nat.le_of_ble_eq_true rfl⟩ rfl (Nat.le_of_ble_eq_true rfl) dX1_draw_61) ?_
        refine r_isub S dX1_draw_64 ?_
        refine r_istore (lv2 := [(6, .int ((fAtI (v0 + 3) (fAtI (v0 + 19) (v3 + (-1 : Int32)) M) M) - (fAtI (v0 + 21) (v3 + (-1 : Int32)) M))), (5, .int (fAtI (v0 + 19) (v3 + (-1 : Int32)) M)), (3, .int (v3 + (-1 : Int32))), (0, .ref (hY X.2.1.2 + v0)), (4, .int v4)]) S dX1_draw_65 (by decide) rfl ?_
        refine r_aload_n S dX1_draw_67 3 rfl ?_
        refine r_getRK S fc1 k0 4 (v0 + 9) rfl rfl q_211 dX1_draw_68 ?_
        refine r_iload S dX1_draw_71 1 rfl ?_
        refine rc_I S (rn_V S fc3 (kk1_9 k0) (c_NR_at _ _ (gYX S) (v0 + 9) (kk1_9 k0) (fAtI (v0 + 19) (v3 + (-1 : Int32)) M) M _ rfl) wdX3_at q_31 ⟨Nat.le_of_ble_eq_true rfl, Nat.le_of_ble_eq_true rfl⟩ rfl (Nat.le_of_ble_eq_true rfl) dX1_draw_73) ?_
        refine r_iload S dX1_draw_76 0 rfl ?_
        refine r_isub S dX1_draw_78 ?_
        refine r_istore (lv2 := [(7, .int ((fAtI (v0 + 9) (fAtI (v0 + 19) (v3 + (-1 : Int32)) M) M) - ((fAtI (v0 + 3) (fAtI (v0 + 19) (v3 + (-1 : Int32)) M) M) - (fAtI (v0 + 21) (v3 + (-1 : Int32)) M)))), (6, .int ((fAtI (v0 + 3) (fAtI (v0 + 19) (v3 + (-1 : Int32)) M) M) - (fAtI (v0 + 21) (v3 + (-1 : Int32)) M))), (5, .int (fAtI (v0 + 19) (v3 + (-1 : Int32)) M)), (3, .int (v3 + (-1 : Int32))), (0, .ref (hY X.2.1.2 + v0)), (4, .int v4)]) S dX1_draw_79 (by decide) rfl ?_
        refine r_iload S dX1_draw_81 0 rfl ?_
        refine r_if_le S 182 dX1_draw_83 (by decide) (fun c => ?_) (fun c => ?_)
        · rw [if_pos c] at hE
          refine r_aload_n S dX1_draw_182 4 rfl ?_
          refine r_getRK S fc1 k0 1 (v0 + 3) rfl rfl q_41 dX1_draw_183 ?_
          refine r_iload S dX1_draw_186 2 rfl ?_
          refine r_iload S dX1_draw_188 1 rfl ?_
          refine rc_V S (rn_V S fc3 (kk1_3 k0) (c_NR_put _ _ (gYX S) (v0 + 3) (kk1_3 k0) (fAtI (v0 + 19) (v3 + (-1 : Int32)) M) ((fAtI (v0 + 3) (fAtI (v0 + 19) (v3 + (-1 : Int32)) M) M) - (fAtI (v0 + 21) (v3 + (-1 : Int32)) M)) M _ rfl) wdX3_put q_308 ⟨Nat.le_of_ble_eq_true rfl, Nat.le_of_ble_eq_true rfl⟩ rfl (Nat.le_of_ble_eq_true rfl) dX1_draw_190) ?_
          refine r_iinc (lv2 := [(4, .int (v4 + (1 : Int32))), (7, .int ((fAtI (v0 + 9) (fAtI (v0 + 19) (v3 + (-1 : Int32)) M) M) - ((fAtI (v0 + 3) (fAtI (v0 + 19) (v3 + (-1 : Int32)) M) M) - (fAtI (v0 + 21) (v3 + (-1 : Int32)) M)))), (6, .int ((fAtI (v0 + 3) (fAtI (v0 + 19) (v3 + (-1 : Int32)) M) M) - (fAtI (v0 + 21) (v3 + (-1 : Int32)) M))), (5, .int (fAtI (v0 + 19) (v3 + (-1 : Int32)) M)), (3, .int (v3 + (-1 : Int32))), (0, .ref (hY X.2.1.2 + v0))]) S dX1_draw_193 (j := 5) rfl (by decide) rfl ?_
          refine r_goto S 23 dX1_draw_196 (by decide) ?_
          obtain ⟨rfl, rfl⟩ := si2 hE
          exact r_sub (lv2 := [(0, .ref (hY X.2.1.2 + v0)), (3, .int (v3 + (-1 : Int32))), (4, .int (v4 + (1 : Int32)))]) [5, 4, 0] rfl (hC ((v3 + (-1 : Int32)), (v4 + (1 : Int32))) rfl)
        · rw [if_neg c] at hE
          refine r_aload_n S dX1_draw_86 4 rfl ?_
          refine r_iload S dX1_draw_87 2 rfl ?_
          obtain ⟨x1, M2, h9, hE⟩ := b2_some hE
          refine rc_V S (rn_V S fc1 k0 (c_LK_partLake _ _ (gYX S) v0 k0 (fAtI (v0 + 19) (v3 + (-1 : Int32)) M) M _ _ h9) wdX1_partLake q_520 ⟨Nat.le_of_ble_eq_true rfl, Nat.le_of_ble_eq_true rfl⟩ rfl (Nat.le_of_ble_eq_true rfl) dX1_draw_89) ?_
          refine r_iload S dX1_draw_92 0 rfl ?_
          refine r_aload_n S dX1_draw_94 4 rfl ?_
          refine r_getRK S fc1 k0 1 (v0 + 3) rfl rfl q_41 dX1_draw_95 ?_
          refine r_aload_n S dX1_draw_98 4 rfl ?_
          refine r_getRK S fc1 k0 6 (v0 + 13) rfl rfl q_213 dX1_draw_99 ?_
          refine r_iload S dX1_draw_102 2 rfl ?_
          refine rc_I S (rn_V S fc3 (kk1_13 k0) (c_NR_at _ _ (gYX S) (v0 + 13) (kk1_13 k0) (fAtI (v0 + 19) (v3 + (-1 : Int32)) M) M2 _ rfl) wdX3_at q_31 ⟨Nat.le_of_ble_eq_true rfl, Nat.le_of_ble_eq_true rfl⟩ rfl (Nat.le_of_ble_eq_true rfl) dX1_draw_104) ?_
          refine rc_I S (rn_V S fc3 (kk1_3 k0) (c_NR_at _ _ (gYX S) (v0 + 3) (kk1_3 k0) (fAtI (v0 + 13) (fAtI (v0 + 19) (v3 + (-1 : Int32)) M) M2) M2 _ rfl) wdX3_at q_31 ⟨Nat.le_of_ble_eq_true rfl, Nat.le_of_ble_eq_true rfl⟩ rfl (Nat.le_of_ble_eq_true rfl) dX1_draw_107) ?_
          refine r_mmin S q_482 q_11 q_12 q_13 (by decide) (Nat.le_of_ble_eq_true rfl) dX1_draw_110 ?_
          refine r_istore (lv2 := [(8, .int (JM_min ((fAtI (v0 + 9) (fAtI (v0 + 19) (v3 + (-1 : Int32)) M) M) - ((fAtI (v0 + 3) (fAtI (v0 + 19) (v3 + (-1 : Int32)) M) M) - (fAtI (v0 + 21) (v3 + (-1 : Int32)) M))) (fAtI (v0 + 3) (fAtI (v0 + 13) (fAtI (v0 + 19) (v3 + (-1 : Int32)) M) M2) M2))), (7, .int ((fAtI (v0 + 9) (fAtI (v0 + 19) (v3 + (-1 : Int32)) M) M) - ((fAtI (v0 + 3) (fAtI (v0 + 19) (v3 + (-1 : Int32)) M) M) - (fAtI (v0 + 21) (v3 + (-1 : Int32)) M)))), (6, .int ((fAtI (v0 + 3) (fAtI (v0 + 19) (v3 + (-1 : Int32)) M) M) - (fAtI (v0 + 21) (v3 + (-1 : Int32)) M))), (5, .int (fAtI (v0 + 19) (v3 + (-1 : Int32)) M)), (3, .int (v3 + (-1 : Int32))), (0, .ref (hY X.2.1.2 + v0)), (4, .int v4)]) S dX1_draw_113 (by decide) rfl ?_
          refine r_aload_n S dX1_draw_115 5 rfl ?_
          refine r_getRK S fc1 k0 9 (v0 + 19) rfl rfl q_518 dX1_draw_116 ?_
          refine r_iload_n S dX1_draw_119 4 rfl ?_
          refine r_aload_n S dX1_draw_120 5 rfl ?_
          refine r_getRK S fc1 k0 6 (v0 + 13) rfl rfl q_213 dX1_draw_121 ?_
          refine r_iload S dX1_draw_124 3 rfl ?_
          refine rc_I S (rn_V S fc3 (kk1_13 k0) (c_NR_at _ _ (gYX S) (v0 + 13) (kk1_13 k0) (fAtI (v0 + 19) (v3 + (-1 : Int32)) M) M2 _ rfl) wdX3_at q_31 ⟨Nat.le_of_ble_eq_true rfl, Nat.le_of_ble_eq_true rfl⟩ rfl (Nat.le_of_ble_eq_true rfl) dX1_draw_126) ?_
          refine rc_V S (rn_V S fc3 (kk1_19 k0) (c_NR_put _ _ (gYX S) (v0 + 19) (kk1_19 k0) (v3 + (-1 : Int32)) (fAtI (v0 + 13) (fAtI (v0 + 19) (v3 + (-1 : Int32)) M) M2) M2 _ rfl) wdX3_put q_308 ⟨Nat.le_of_ble_eq_true rfl, Nat.le_of_ble_eq_true rfl⟩ rfl (Nat.le_of_ble_eq_true rfl) dX1_draw_129) ?_
          refine r_aload_n S dX1_draw_132 5 rfl ?_
          refine r_getRK S fc1 k0 10 (v0 + 21) rfl rfl q_519 dX1_draw_133 ?_
          refine r_iload_n S dX1_draw_136 4 rfl ?_
          refine r_iload S dX1_draw_137 0 rfl ?_
          refine rc_V S (rn_V S fc3 (kk1_21 k0) (c_NR_put _ _ (gYX S) (v0 + 21) (kk1_21 k0) (v3 + (-1 : Int32)) (JM_min ((fAtI (v0 + 9) (fAtI (v0 + 19) (v3 + (-1 : Int32)) M) M) - ((fAtI (v0 + 3) (fAtI (v0 + 19) (v3 + (-1 : Int32)) M) M) - (fAtI (v0 + 21) (v3 + (-1 : Int32)) M))) (fAtI (v0 + 3) (fAtI (v0 + 13) (fAtI (v0 + 19) (v3 + (-1 : Int32)) M) M2) M2)) (fPutI (v0 + 19) (v3 + (-1 : Int32)) (fAtI (v0 + 13) (fAtI (v0 + 19) (v3 + (-1 : Int32)) M) M2) M2) _ rfl) wdX3_put q_308 ⟨Nat.le_of_ble_eq_true rfl, Nat.le_of_ble_eq_true rfl⟩ rfl (Nat.le_of_ble_eq_true rfl) dX1_draw_139) ?_
          refine r_aload_n S dX1_draw_142 5 rfl ?_
          refine r_getRK S fc1 k0 9 (v0 + 19) rfl rfl q_518 dX1_draw_143 ?_
          refine r_iload_n S dX1_draw_146 4 rfl ?_
          refine r_iconst S (1 : Int32) dX1_draw_147 rfl ?_
          refine r_iadd S dX1_draw_148 ?_
          refine r_aload_n S dX1_draw_149 5 rfl ?_
          refine r_getRK S fc1 k0 7 (v0 + 15) rfl rfl q_214 dX1_draw_150 ?_
          refine r_iload S dX1_draw_153 3 rfl ?_
          refine rc_I S (rn_V S fc3 (kk1_15 k0) (c_NR_at _ _ (gYX S) (v0 + 15) (kk1_15 k0) (fAtI (v0 + 19) (v3 + (-1 : Int32)) M) (fPutI (v0 + 21) (v3 + (-1 : Int32)) (JM_min ((fAtI (v0 + 9) (fAtI (v0 + 19) (v3 + (-1 : Int32)) M) M) - ((fAtI (v0 + 3) (fAtI (v0 + 19) (v3 + (-1 : Int32)) M) M) - (fAtI (v0 + 21) (v3 + (-1 : Int32)) M))) (fAtI (v0 + 3) (fAtI (v0 + 13) (fAtI (v0 + 19) (v3 + (-1 : Int32)) M) M2) M2)) (fPutI (v0 + 19) (v3 + (-1 : Int32)) (fAtI (v0 + 13) (fAtI (v0 + 19) (v3 + (-1 : Int32)) M) M2) M2)) _ rfl) wdX3_at q_31 ⟨Nat.le_of_ble_eq_true rfl, Nat.le_of_ble_eq_true rfl⟩ rfl (Nat.le_of_ble_eq_true rfl) dX1_draw_155) ?_
          refine rc_V S (rn_V S fc3 (kk1_19 k0) (c_NR_put _ _ (gYX S) (v0 + 19) (kk1_19 k0) ((v3 + (-1 : Int32)) + (1 : Int32)) (fAtI (v0 + 15) (fAtI (v0 + 19) (v3 + (-1 : Int32)) M) (fPutI (v0 + 21) (v3 + (-1 : Int32)) (JM_min ((fAtI (v0 + 9) (fAtI (v0 + 19) (v3 + (-1 : Int32)) M) M) - ((fAtI (v0 + 3) (fAtI (v0 + 19) (v3 + (-1 : Int32)) M) M) - (fAtI (v0 + 21) (v3 + (-1 : Int32)) M))) (fAtI (v0 + 3) (fAtI (v0 + 13) (fAtI (v0 + 19) (v3 + (-1 : Int32)) M) M2) M2)) (fPutI (v0 + 19) (v3 + (-1 : Int32)) (fAtI (v0 + 13) (fAtI (v0 + 19) (v3 + (-1 : Int32)) M) M2) M2))) (fPutI (v0 + 21) (v3 + (-1 : Int32)) (JM_min ((fAtI (v0 + 9) (fAtI (v0 + 19) (v3 + (-1 : Int32)) M) M) - ((fAtI (v0 + 3) (fAtI (v0 + 19) (v3 + (-1 : Int32)) M) M) - (fAtI (v0 + 21) (v3 + (-1 : Int32)) M))) (fAtI (v0 + 3) (fAtI (v0 + 13) (fAtI (v0 + 19) (v3 + (-1 : Int32)) M) M2) M2)) (fPutI (v0 + 19) (v3 + (-1 : Int32)) (fAtI (v0 + 13) (fAtI (v0 + 19) (v3 + (-1 : Int32)) M) M2) M2)) _ rfl) wdX3_put q_308 ⟨Nat.le_of_ble_eq_true rfl, Nat.le_of_ble_eq_true rfl⟩ rfl (Nat.le_of_ble_eq_true rfl) dX1_draw_158) ?_
          refine r_aload_n S dX1_draw_161 5 rfl ?_
          refine r_getRK S fc1 k0 10 (v0 + 21) rfl rfl q_519 dX1_draw_162 ?_
          refine r_iload_n S dX1_draw_165 4 rfl ?_
          refine r_iconst S (1 : Int32) dX1_draw_166 rfl ?_
          refine r_iadd S dX1_draw_167 ?_
          refine r_iload S dX1_draw_168 1 rfl ?_
          refine r_iload S dX1_draw_170 0 rfl ?_
          refine r_isub S dX1_draw_172 ?_
          refine rc_V S (rn_V S fc3 (kk1_21 k0) (c_NR_put _ _ (gYX S) (v0 + 21) (kk1_21 k0) ((v3 + (-1 : Int32)) + (1 : Int32)) (((fAtI (v0 + 9) (fAtI (v0 + 19) (v3 + (-1 : Int32)) M) M) - ((fAtI (v0 + 3) (fAtI (v0 + 19) (v3 + (-1 : Int32)) M) M) - (fAtI (v0 + 21) (v3 + (-1 : Int32)) M))) - (JM_min ((fAtI (v0 + 9) (fAtI (v0 + 19) (v3 + (-1 : Int32)) M) M) - ((fAtI (v0 + 3) (fAtI (v0 + 19) (v3 + (-1 : Int32)) M) M) - (fAtI (v0 + 21) (v3 + (-1 : Int32)) M))) (fAtI (v0 + 3) (fAtI (v0 + 13) (fAtI (v0 + 19) (v3 + (-1 : Int32)) M) M2) M2))) (fPutI (v0 + 19) ((v3 + (-1 : Int32)) + (1 : Int32)) (fAtI (v0 + 15) (fAtI (v0 + 19) (v3 + (-1 : Int32)) M) (fPutI (v0 + 21) (v3 + (-1 : Int32)) (JM_min ((fAtI (v0 + 9) (fAtI (v0 + 19) (v3 + (-1 : Int32)) M) M) - ((fAtI (v0 + 3) (fAtI (v0 + 19) (v3 + (-1 : Int32)) M) M) - (fAtI (v0 + 21) (v3 + (-1 : Int32)) M))) (fAtI (v0 + 3) (fAtI (v0 + 13) (fAtI (v0 + 19) (v3 + (-1 : Int32)) M) M2) M2)) (fPutI (v0 + 19) (v3 + (-1 : Int32)) (fAtI (v0 + 13) (fAtI (v0 + 19) (v3 + (-1 : Int32)) M) M2) M2))) (fPutI (v0 + 21) (v3 + (-1 : Int32)) (JM_min ((fAtI (v0 + 9) (fAtI (v0 + 19) (v3 + (-1 : Int32)) M) M) - ((fAtI (v0 + 3) (fAtI (v0 + 19) (v3 + (-1 : Int32)) M) M) - (fAtI (v0 + 21) (v3 + (-1 : Int32)) M))) (fAtI (v0 + 3) (fAtI (v0 + 13) (fAtI (v0 + 19) (v3 + (-1 : Int32)) M) M2) M2)) (fPutI (v0 + 19) (v3 + (-1 : Int32)) (fAtI (v0 + 13) (fAtI (v0 + 19) (v3 + (-1 : Int32)) M) M2) M2))) _ rfl) wdX3_put q_308 ⟨Nat.le_of_ble_eq_true rfl, Nat.le_of_ble_eq_true rfl⟩ rfl (Nat.le_of_ble_eq_true rfl) dX1_draw_173) ?_
          refine r_iinc (lv2 := [(3, .int ((v3 + (-1 : Int32)) + (2 : Int32))), (8, .int (JM_min ((fAtI (v0 + 9) (fAtI (v0 + 19) (v3 + (-1 : Int32)) M) M) - ((fAtI (v0 + 3) (fAtI (v0 + 19) (v3 + (-1 : Int32)) M) M) - (fAtI (v0 + 21) (v3 + (-1 : Int32)) M))) (fAtI (v0 + 3) (fAtI (v0 + 13) (fAtI (v0 + 19) (v3 + (-1 : Int32)) M) M2) M2))), (7, .int ((fAtI (v0 + 9) (fAtI (v0 + 19) (v3 + (-1 : Int32)) M) M) - ((fAtI (v0 + 3) (fAtI (v0 + 19) (v3 + (-1 : Int32)) M) M) - (fAtI (v0 + 21) (v3 + (-1 : Int32)) M)))), (6, .int ((fAtI (v0 + 3) (fAtI (v0 + 19) (v3 + (-1 : Int32)) M) M) - (fAtI (v0 + 21) (v3 + (-1 : Int32)) M))), (5, .int (fAtI (v0 + 19) (v3 + (-1 : Int32)) M)), (0, .ref (hY X.2.1.2 + v0)), (4, .int v4)]) S dX1_draw_176 (j := 4) rfl (by decide) rfl ?_
          refine r_goto S 193 dX1_draw_179 (by decide) ?_
          refine r_iinc (lv2 := [(4, .int (v4 + (1 : Int32))), (3, .int ((v3 + (-1 : Int32)) + (2 : Int32))), (8, .int (JM_min ((fAtI (v0 + 9) (fAtI (v0 + 19) (v3 + (-1 : Int32)) M) M) - ((fAtI (v0 + 3) (fAtI (v0 + 19) (v3 + (-1 : Int32)) M) M) - (fAtI (v0 + 21) (v3 + (-1 : Int32)) M))) (fAtI (v0 + 3) (fAtI (v0 + 13) (fAtI (v0 + 19) (v3 + (-1 : Int32)) M) M2) M2))), (7, .int ((fAtI (v0 + 9) (fAtI (v0 + 19) (v3 + (-1 : Int32)) M) M) - ((fAtI (v0 + 3) (fAtI (v0 + 19) (v3 + (-1 : Int32)) M) M) - (fAtI (v0 + 21) (v3 + (-1 : Int32)) M)))), (6, .int ((fAtI (v0 + 3) (fAtI (v0 + 19) (v3 + (-1 : Int32)) M) M) - (fAtI (v0 + 21) (v3 + (-1 : Int32)) M))), (5, .int (fAtI (v0 + 19) (v3 + (-1 : Int32)) M)), (0, .ref (hY X.2.1.2 + v0))]) S dX1_draw_193 (j := 6) rfl (by decide) rfl ?_
          refine r_goto S 23 dX1_draw_196 (by decide) ?_
          obtain ⟨rfl, rfl⟩ := si2 hE
          exact r_sub (lv2 := [(0, .ref (hY X.2.1.2 + v0)), (3, .int ((v3 + (-1 : Int32)) + (2 : Int32))), (4, .int (v4 + (1 : Int32)))]) [6, 1, 0] rfl (hC (((v3 + (-1 : Int32)) + (2 : Int32)), (v4 + (1 : Int32))) rfl)
  unfold LK_draw at hE
  refine r_aload_n S dX1_draw_0 0 rfl ?_
  refine r_getRK S fc1 ho 9 (o + 19) rfl rfl q_518 dX1_draw_1 ?_
  refine r_iconst S (0 : Int32) dX1_draw_4 rfl ?_
  refine r_iload_n S dX1_draw_5 1 rfl ?_
  refine rc_V S (rn_V S fc3 (kk1_19 ho) (c_NR_put _ _ (gYX S) (o + 19) (kk1_19 ho) (0 : Int32) a1 M _ rfl) wdX3_put q_308 ⟨Nat.le_of_ble_eq_true rfl, Nat.le_of_ble_eq_true rfl⟩ rfl (Nat.le_of_ble_eq_true rfl) dX1_draw_6) ?_
  refine r_aload_n S dX1_draw_9 0 rfl ?_
  refine r_getRK S fc1 ho 10 (o + 21) rfl rfl q_519 dX1_draw_10 ?_
  refine r_iconst S (0 : Int32) dX1_draw_13 rfl ?_
  refine r_iload_n S dX1_draw_14 2 rfl ?_
  refine rc_V S (rn_V S fc3 (kk1_21 ho) (c_NR_put _ _ (gYX S) (o + 21) (kk1_21 ho) (0 : Int32) a2 (fPutI (o + 19) (0 : Int32) a1 M) _ rfl) wdX3_put q_308 ⟨Nat.le_of_ble_eq_true rfl, Nat.le_of_ble_eq_true rfl⟩ rfl (Nat.le_of_ble_eq_true rfl) dX1_draw_15) ?_
  refine r_iconst S (1 : Int32) dX1_draw_18 rfl ?_
  refine r_istore_n (lv2 := [(3, .int (1 : Int32)), (0, .ref (hY X.2.1.2 + o)), (1, .int a1), (2, .int a2)]) S dX1_draw_19 (by decide) rfl ?_
  refine r_iconst S (0 : Int32) dX1_draw_20 rfl ?_
  refine r_istore (lv2 := [(4, .int (0 : Int32)), (3, .int (1 : Int32)), (0, .ref (hY X.2.1.2 + o)), (1, .int a1), (2, .int a2)]) S dX1_draw_21 (by decide) rfl ?_
  obtain ⟨e1, M2, h9, hE⟩ := b2_some hE
  refine r_sub [2, 1, 0] rfl (L23 o ho  e1 M2 ?_ _ _ (fPutI (o + 21) (0 : Int32) a2 (fPutI (o + 19) (0 : Int32) a1 M)) h9)
  obtain ⟨rfl, rfl⟩ := si2 hE
  exact hret _ _ dX1_draw_199
set_option maxRecDepth 100000 in
set_option maxHeartbeats 4000000 in
theorem c_LT_add (l : Launch) (Y : Env1) (hG : gY Y = gC) (a1 : Int32) (M : Mem) (r : Unit) (M1 : Mem) (hE : LT_add a1 M = some (r, M1)) : CnV l Y yX2_add cX2_add 2 1 [.ref (hY Y + 94), .int a1] M M1 := by
  refine met_V (own := RX2) (by decide +kernel) rfl hG (Nat.le_of_ble_eq_true rfl) (fun X S hY1 hl1 hret => ?_)
  subst hY1
  subst hl1
  show AW X 0 [(0, .ref (hY X.2.1.2 + 94)), (1, .int a1)] [] M
  unfold LT_add at hE
  refine r_aload_n S dX2_add_0 0 rfl ?_
  refine r_getRK S fc2 (by decide) 0 95 rfl rfl q_90 dX2_add_1 ?_
  refine r_aload_n S dX2_add_4 0 rfl ?_
  refine r_getI S fc2 (by decide) 1 rfl q_89 dX2_add_5 ?_
  refine r_iload_n S dX2_add_8 1 rfl ?_
  refine rc_V S (rn_V S fc3 (by decide) (c_NR_put _ _ (gYX S) 95 (by decide) (gI M 94 1) a1 M _ rfl) wdX3_put q_140 ⟨Nat.le_of_ble_eq_true rfl, Nat.le_of_ble_eq_true rfl⟩ rfl (Nat.le_of_ble_eq_true rfl) dX2_add_9) ?_
  refine r_aload_n S dX2_add_12 0 rfl ?_
  refine r_dup S dX2_add_13 rfl ?_
  refine r_getI S fc2 (by decide) 1 rfl q_89 dX2_add_14 ?_
  refine r_iconst S (1 : Int32) dX2_add_17 rfl ?_
  refine r_iadd S dX2_add_18 ?_
  refine r_putI S fc2 (by decide) 1 rfl rfl (by decide +kernel) q_89 dX2_add_19 ?_
  obtain ⟨rfl, rfl⟩ := si2 hE
  exact hret _ _ dX2_add_22
set_option maxRecDepth 100000 in
set_option maxHeartbeats 4000000 in
theorem c_WY_courseFrom (l : Launch) (Y : Env1) (hG : gY Y = gC) (o : Nat) (ho : kC o = 5) (a1 : Int32) (M : Mem) (r : Int64) (hE : WY_courseFrom o a1 M = some r) : CnL l Y yX5_courseFrom cX5_courseFrom 6 1 [.ref (hY Y + o), .int a1] M r M := by
  refine met_L (own := RX5) (by decide +kernel) rfl hG (Nat.le_of_ble_eq_true rfl) (fun X S hY1 hl1 hret => ?_)
  subst hY1
  subst hl1
  show AW X 0 [(0, .ref (hY X.2.1.2 + o)), (1, .int a1)] [] M
  have L8 : ∀ (v0 : Nat) (k0 : kC v0 = 5) (e : (Int64)), AW X 50 [(2, .long e)] [] M → ∀ (n : Nat) (s : Int64 × Int32 × Int32), lpR (fun s => WY_courseFrom_L8 v0 s.1 s.2.1 s.2.2 M) n s = some e → AW X 8 [(0, .ref (hY X.2.1.2 + v0)), (2, .long s.1), (4, .int s.2.1), (5, .int s.2.2)] [] M := by
    intro v0 k0 e hX
    refine lpR_ind (P := fun (s : Int64 × Int32 × Int32) => AW X 8 [(0, .ref (hY X.2.1.2 + v0)), (2, .long s.1), (4, .int s.2.1), (5, .int s.2.2)] [] M) ?_
    rintro ⟨v2, v4, v5⟩ d hE hC hD
    replace hE : WY_courseFrom_L8 v0 v2 v4 v5 M = some d := hE
    show AW X 8 [(0, .ref (hY X.2.1.2 + v0)), (2, .long v2), (4, .int v4), (5, .int v5)] [] M
    unfold WY_courseFrom_L8 at hE
    refine r_iload S dX5_courseFrom_8 3 rfl ?_
    refine r_bipush S (36 : Int32) dX5_courseFrom_10 rfl ?_
    refine r_icmp_ge S 50 dX5_courseFrom_12 (by decide) (fun c => ?_) (fun c => ?_)
    · rw [if_pos c] at hE
      obtain rfl := si1 hE
      rcases hD with h1 | ⟨_, h1⟩
      · obtain rfl := sir h1
        exact r_sub [1] rfl hX
      · exact (sil h1).elim
    · rw [if_neg c] at hE
      refine r_iload S dX5_courseFrom_15 2 rfl ?_
      refine r_iconst S (-1 : Int32) dX5_courseFrom_17 rfl ?_
      refine r_icmp_eq S 50 dX5_courseFrom_18 (by decide) (fun c => ?_) (fun c => ?_)
      · rw [if_pos c] at hE
        obtain rfl := si1 hE
        rcases hD with h1 | ⟨_, h1⟩
        · obtain rfl := sir h1
          exact r_sub [1] rfl hX
        · exact (sil h1).elim
      · rw [if_neg c] at hE
        refine r_lload_n S dX5_courseFrom_21 1 rfl ?_
        refine r_aload_n S dX5_courseFrom_22 0 rfl ?_
        refine r_getRK S fc5 k0 1 (v0 + 1) rfl rfl q_198 dX5_courseFrom_23 ?_
        refine r_iload S dX5_courseFrom_26 2 rfl ?_
        refine rc_L S (rn_V S fc4 (kk5_1 k0) (c_SR_at _ _ (gYX S) (v0 + 1) (kk5_1 k0) v4 M _ rfl) wdX4_at q_277 ⟨Nat.le_of_ble_eq_true rfl, Nat.le_of_ble_eq_true rfl⟩ rfl (Nat.le_of_ble_eq_true rfl) dX5_courseFrom_28) ?_
        refine r_lor S dX5_courseFrom_31 ?_
        refine r_lstore_n (lv2 := [(2, .long (v2 ||| (fAtL (v0 + 1) v4 M))), (0, .ref (hY X.2.1.2 + v0)), (4, .int v4), (5, .int v5)]) S dX5_courseFrom_32 (by decide) rfl ?_
        refine r_aload_n S dX5_courseFrom_33 1 rfl ?_
        refine r_getRK S fc5 k0 2 (v0 + 3) rfl rfl q_204 dX5_courseFrom_34 ?_
        refine r_iload S dX5_courseFrom_37 2 rfl ?_
        refine rc_I S (rn_V S fc3 (kk5_3 k0) (c_NR_at _ _ (gYX S) (v0 + 3) (kk5_3 k0) v4 M _ rfl) wdX3_at q_259 ⟨Nat.le_of_ble_eq_true rfl, Nat.le_of_ble_eq_true rfl⟩ rfl (Nat.le_of_ble_eq_true rfl) dX5_courseFrom_39) ?_
        refine r_istore (lv2 := [(4, .int (fAtI (v0 + 3) v4 M)), (2, .long (v2 ||| (fAtL (v0 + 1) v4 M))), (0, .ref (hY X.2.1.2 + v0)), (5, .int v5)]) S dX5_courseFrom_42 (by decide) rfl ?_
        refine r_iinc (lv2 := [(5, .int (v5 + (1 : Int32))), (4, .int (fAtI (v0 + 3) v4 M)), (2, .long (v2 ||| (fAtL (v0 + 1) v4 M))), (0, .ref (hY X.2.1.2 + v0))]) S dX5_courseFrom_44 (j := 3) rfl (by decide) rfl ?_
        refine r_goto S 8 dX5_courseFrom_47 (by decide) ?_
        obtain rfl := si1 hE
        exact r_sub (lv2 := [(0, .ref (hY X.2.1.2 + v0)), (2, .long (v2 ||| (fAtL (v0 + 1) v4 M))), (4, .int (fAtI (v0 + 3) v4 M)), (5, .int (v5 + (1 : Int32)))]) [3, 2, 1, 0] rfl (hC ((v2 ||| (fAtL (v0 + 1) v4 M)), (fAtI (v0 + 3) v4 M), (v5 + (1 : Int32))) rfl)
  unfold WY_courseFrom at hE
  refine r_lconst S (0 : Int64) dX5_courseFrom_0 rfl ?_
  refine r_lstore_n (lv2 := [(2, .long (0 : Int64)), (0, .ref (hY X.2.1.2 + o)), (1, .int a1)]) S dX5_courseFrom_1 (by decide) rfl ?_
  refine r_iload_n S dX5_courseFrom_2 2 rfl ?_
  refine r_istore (lv2 := [(4, .int a1), (2, .long (0 : Int64)), (0, .ref (hY X.2.1.2 + o)), (1, .int a1)]) S dX5_courseFrom_3 (by decide) rfl ?_
  refine r_iconst S (0 : Int32) dX5_courseFrom_5 rfl ?_
  refine r_istore (lv2 := [(5, .int (0 : Int32)), (4, .int a1), (2, .long (0 : Int64)), (0, .ref (hY X.2.1.2 + o)), (1, .int a1)]) S dX5_courseFrom_6 (by decide) rfl ?_
  obtain ⟨e1, h9, hE⟩ := b1_some hE
  refine r_sub [3, 2, 1, 0] rfl (L8 o ho  e1 ?_ _ _  h9)
  refine r_lload_n S dX5_courseFrom_50 0 rfl ?_
  obtain rfl := si1 hE
  exact hret _ _ dX5_courseFrom_51
set_option maxRecDepth 100000 in
set_option maxHeartbeats 4000000 in
theorem c_WD_noteLakes (l : Launch) (Y : Env1) (hG : gY Y = gC) (o : Nat) (ho : kC o = 6) (M : Mem) (r : Unit) (M1 : Mem) (hE : WD_noteLakes o M = some (r, M1)) : CnV l Y yX6_noteLakes cX6_noteLakes 3 4 [.ref (hY Y + o)] M M1 := by
  refine met_V (own := RX6) (by decide +kernel) rfl hG (Nat.le_of_ble_eq_true rfl) (fun X S hY1 hl1 hret => ?_)
  subst hY1
  subst hl1
  show AW X 0 [(0, .ref (hY X.2.1.2 + o))] [] M
  have L13 : ∀ (v0 : Nat) (k0 : kC v0 = 6) (e : (Unit)) (M2 : Mem), AW X 75 [] [] M2 → ∀ (n : Nat) (s : Int32) (M : Mem), lpM (fun s M => WD_noteLakes_L13 v0 s M) n s M = some (e, M2) → AW X 13 [(0, .ref (hY X.2.1.2 + v0)), (1, .int s)] [] M := by
    intro v0 k0 e M2 hX
    refine lpM_ind (P := fun (s : Int32) (M : Mem) => AW X 13 [(0, .ref (hY X.2.1.2 + v0)), (1, .int s)] [] M) ?_
    rintro v1 M d M3 hE hC hD
    replace hE : WD_noteLakes_L13 v0 v1 M = some (d, M3) := hE
    show AW X 13 [(0, .ref (hY X.2.1.2 + v0)), (1, .int v1)] [] M
    unfold WD_noteLakes_L13 at hE
    refine r_iload_n S dX6_noteLakes_13 1 rfl ?_
    refine r_aload_n S dX6_noteLakes_14 0 rfl ?_
    refine r_getI S fc6 k0 8 rfl q_526 dX6_noteLakes_15 ?_
    refine r_icmp_ge S 75 dX6_noteLakes_18 (by decide) (fun c => ?_) (fun c => ?_)
    · rw [if_pos c] at hE
      obtain ⟨rfl, rfl⟩ := si2 hE
      rcases hD with ⟨h1, h2⟩ | ⟨_, h1⟩
      · obtain rfl := sir h1
        subst h2
        exact r_sub [] rfl hX
      · exact (sil h1).elim
    · rw [if_neg c] at hE
      refine r_aload_n S dX6_noteLakes_21 0 rfl ?_
      refine r_getRK S fc6 k0 2 (v0 + 19) rfl rfl q_228 dX6_noteLakes_22 ?_
      refine r_iload_n S dX6_noteLakes_25 1 rfl ?_
      obtain ⟨x1, h9, hE⟩ := b1_some hE
      refine rc_I S (rn_V S fc1 (kk6_19 k0) (c_LK_placeOf _ _ (gYX S) (v0 + 19) (kk6_19 k0) v1 M _ h9) wdX1_placeOf q_527 ⟨Nat.le_of_ble_eq_true rfl, Nat.le_of_ble_eq_true rfl⟩ rfl (Nat.le_of_ble_eq_true rfl) dX6_noteLakes_26) ?_
      refine r_istore_n (lv2 := [(2, .int x1), (0, .ref (hY X.2.1.2 + v0)), (1, .int v1)]) S dX6_noteLakes_29 (by decide) rfl ?_
      refine r_aload_n S dX6_noteLakes_30 1 rfl ?_
      refine r_getRK S fc6 k0 6 (v0 + 42) rfl rfl q_528 dX6_noteLakes_31 ?_
      refine r_iload_n S dX6_noteLakes_34 2 rfl ?_
      refine r_aload_n S dX6_noteLakes_35 1 rfl ?_
      refine r_getRK S fc6 k0 2 (v0 + 19) rfl rfl q_228 dX6_noteLakes_36 ?_
      refine r_aload_n S dX6_noteLakes_39 1 rfl ?_
      refine r_getRK S fc6 k0 0 (v0 + 1) rfl rfl q_216 dX6_noteLakes_40 ?_
      refine r_iload_n S dX6_noteLakes_43 0 rfl ?_
      obtain ⟨x2, h9, hE⟩ := b1_some hE
      refine rc_I S (rn_V S fc1 (kk6_19 k0) (c_LK_lowestPlace _ _ (gYX S) (v0 + 19) (kk6_19 k0) (v0 + 1) (kk6_1 k0) x1 M _ h9) wdX1_lowestPlace q_529 ⟨Nat.le_of_ble_eq_true rfl, Nat.le_of_ble_eq_true rfl⟩ rfl (Nat.le_of_ble_eq_true rfl) dX6_noteLakes_44) ?_
      refine rc_V S (rn_V S fc3 (kk6_42 k0) (c_NR_put _ _ (gYX S) (v0 + 42) (kk6_42 k0) v1 x2 M _ rfl) wdX3_put q_530 ⟨Nat.le_of_ble_eq_true rfl, Nat.le_of_ble_eq_true rfl⟩ rfl (Nat.le_of_ble_eq_true rfl) dX6_noteLakes_47) ?_
      refine r_aload_n S dX6_noteLakes_50 1 rfl ?_
      refine r_getRK S fc6 k0 7 (v0 + 44) rfl rfl q_531 dX6_noteLakes_51 ?_
      refine r_iload_n S dX6_noteLakes_54 2 rfl ?_
      refine r_aload_n S dX6_noteLakes_55 1 rfl ?_
      refine r_getRK S fc6 k0 2 (v0 + 19) rfl rfl q_228 dX6_noteLakes_56 ?_
      refine r_getRKN S fc1 (kk6_19 k0) 1 (v0 + 22) rfl rfl q_532 dX6_noteLakes_59 ?_
      refine r_iload_n S dX6_noteLakes_62 0 rfl ?_
      refine rc_I S (rn_V S fc3 (kk1_3 (kk6_19 k0)) (c_NR_at _ _ (gYX S) (v0 + 22) (kk1_3 (kk6_19 k0)) x1 (fPutI (v0 + 42) v1 x2 M) _ rfl) wdX3_at q_370 ⟨Nat.le_of_ble_eq_true rfl, Nat.le_of_ble_eq_true rfl⟩ rfl (Nat.le_of_ble_eq_true rfl) dX6_noteLakes_63) ?_
      refine rc_V S (rn_V S fc3 (kk6_44 k0) (c_NR_put _ _ (gYX S) (v0 + 44) (kk6_44 k0) v1 (fAtI (v0 + 22) x1 (fPutI (v0 + 42) v1 x2 M)) (fPutI (v0 + 42) v1 x2 M) _ rfl) wdX3_put q_530 ⟨Nat.le_of_ble_eq_true rfl, Nat.le_of_ble_eq_true rfl⟩ rfl (Nat.le_of_ble_eq_true rfl) dX6_noteLakes_66) ?_
      refine r_iinc (lv2 := [(1, .int (v1 + (1 : Int32))), (2, .int x1), (0, .ref (hY X.2.1.2 + v0))]) S dX6_noteLakes_69 (j := 2) rfl (by decide) rfl ?_
      refine r_goto S 13 dX6_noteLakes_72 (by decide) ?_
      obtain ⟨rfl, rfl⟩ := si2 hE
      exact r_sub (lv2 := [(0, .ref (hY X.2.1.2 + v0)), (1, .int (v1 + (1 : Int32)))]) [2, 0] rfl (hC (v1 + (1 : Int32)) rfl)
  unfold WD_noteLakes at hE
  refine r_aload_n S dX6_noteLakes_0 0 rfl ?_
  refine r_aload_n S dX6_noteLakes_1 0 rfl ?_
  refine r_getRK S fc6 ho 2 (o + 19) rfl rfl q_228 dX6_noteLakes_2 ?_
  obtain ⟨x1, h9, hE⟩ := b1_some hE
  refine rc_I S (rn_V S fc1 (kk6_19 ho) (c_LK_total _ _ (gYX S) (o + 19) (kk6_19 ho) M _ h9) wdX1_total q_525 ⟨Nat.le_of_ble_eq_true rfl, Nat.le_of_ble_eq_true rfl⟩ rfl (Nat.le_of_ble_eq_true rfl) dX6_noteLakes_5) ?_
  refine r_putI S fc6 ho 8 rfl rfl (by decide +kernel) q_526 dX6_noteLakes_8 ?_
  refine r_iconst S (0 : Int32) dX6_noteLakes_11 rfl ?_
  refine r_istore_n (lv2 := [(1, .int (0 : Int32)), (0, .ref (hY X.2.1.2 + o))]) S dX6_noteLakes_12 (by decide) rfl ?_
  obtain ⟨e2, M3, h9, hE⟩ := b2_some hE
  refine r_sub [1, 0] rfl (L13 o ho  e2 M3 ?_ _ _ (sI M o 8 x1) h9)
  obtain ⟨rfl, rfl⟩ := si2 hE
  exact hret _ _ dX6_noteLakes_75
set_option maxRecDepth 100000 in
set_option maxHeartbeats 4000000 in
theorem c_WD_renew (l : Launch) (Y : Env1) (hG : gY Y = gC) (o : Nat) (ho : kC o = 6) (M : Mem) (r : Unit) (M1 : Mem) (hE : WD_renew o M = some (r, M1)) : CnV l Y yX6_renew cX6_renew 2 5 [.ref (hY Y + o)] M M1 := by
  refine met_V (own := RX6) (by decide +kernel) rfl hG (Nat.le_of_ble_eq_true rfl) (fun X S hY1 hl1 hret => ?_)
  subst hY1
  subst hl1
  show AW X 0 [(0, .ref (hY X.2.1.2 + o))] [] M
  have L6 : ∀ (v0 : Nat) (k0 : kC v0 = 6) (e : (Unit)) (M2 : Mem), AW X 41 [] [] M2 → ∀ (n : Nat) (s : Int32) (M : Mem), lpM (fun s M => WD_renew_L6 v0 s M) n s M = some (e, M2) → AW X 6 [(0, .ref (hY X.2.1.2 + v0)), (1, .int s)] [] M := by
    intro v0 k0 e M2 hX
    refine lpM_ind (P := fun (s : Int32) (M : Mem) => AW X 6 [(0, .ref (hY X.2.1.2 + v0)), (1, .int s)] [] M) ?_
    rintro v1 M d M3 hE hC hD
    replace hE : WD_renew_L6 v0 v1 M = some (d, M3) := hE
    show AW X 6 [(0, .ref (hY X.2.1.2 + v0)), (1, .int v1)] [] M
    unfold WD_renew_L6 at hE
    refine r_iload_n S dX6_renew_6 1 rfl ?_
    refine r_aload_n S dX6_renew_7 0 rfl ?_
    refine r_getI S fc6 k0 8 rfl q_526 dX6_renew_8 ?_
    refine r_icmp_ge S 41 dX6_renew_11 (by decide) (fun c => ?_) (fun c => ?_)
    · rw [if_pos c] at hE
      obtain ⟨rfl, rfl⟩ := si2 hE
      rcases hD with ⟨h1, h2⟩ | ⟨_, h1⟩
      · obtain rfl := sir h1
        subst h2
        exact r_sub [] rfl hX
      · exact (sil h1).elim
    · rw [if_neg c] at hE
      refine r_aload_n S dX6_renew_14 0 rfl ?_
      refine r_aload_n S dX6_renew_15 0 rfl ?_
      refine r_getRK S fc6 k0 6 (v0 + 42) rfl rfl q_528 dX6_renew_16 ?_
      refine r_iload_n S dX6_renew_19 1 rfl ?_
      refine rc_I S (rn_V S fc3 (kk6_42 k0) (c_NR_at _ _ (gYX S) (v0 + 42) (kk6_42 k0) v1 M _ rfl) wdX3_at q_370 ⟨Nat.le_of_ble_eq_true rfl, Nat.le_of_ble_eq_true rfl⟩ rfl (Nat.le_of_ble_eq_true rfl) dX6_renew_20) ?_
      refine r_aload_n S dX6_renew_23 0 rfl ?_
      refine r_getRK S fc6 k0 7 (v0 + 44) rfl rfl q_531 dX6_renew_24 ?_
      refine r_iload_n S dX6_renew_27 1 rfl ?_
      refine rc_I S (rn_V S fc3 (kk6_44 k0) (c_NR_at _ _ (gYX S) (v0 + 44) (kk6_44 k0) v1 M _ rfl) wdX3_at q_370 ⟨Nat.le_of_ble_eq_true rfl, Nat.le_of_ble_eq_true rfl⟩ rfl (Nat.le_of_ble_eq_true rfl) dX6_renew_28) ?_
      obtain ⟨x1, M2, h9, hE⟩ := b2_some hE
      refine rc_I S (rn_V S fc6 k0 (c_WD_pourAt _ _ (gYX S) v0 k0 (fAtI (v0 + 42) v1 M) (fAtI (v0 + 44) v1 M) M _ _ h9) wdX6_pourAt q_533 ⟨Nat.le_of_ble_eq_true rfl, Nat.le_of_ble_eq_true rfl⟩ rfl (Nat.le_of_ble_eq_true rfl) dX6_renew_31) ?_
      refine r_pop S dX6_renew_34 rfl ?_
      refine r_iinc (lv2 := [(1, .int (v1 + (1 : Int32))), (0, .ref (hY X.2.1.2 + v0))]) S dX6_renew_35 (j := 1) rfl (by decide) rfl ?_
      refine r_goto S 6 dX6_renew_38 (by decide) ?_
      obtain ⟨rfl, rfl⟩ := si2 hE
      exact r_sub (lv2 := [(0, .ref (hY X.2.1.2 + v0)), (1, .int (v1 + (1 : Int32)))]) [1, 0] rfl (hC (v1 + (1 : Int32)) rfl)
  unfold WD_renew at hE
  refine r_aload_n S dX6_renew_0 0 rfl ?_
  obtain ⟨x1, M2, h9, hE⟩ := b2_some hE
  refine rc_V S (rn_V S fc6 ho (c_WD_findAnew _ _ (gYX S) o ho M _ _ h9) wdX6_findAnew q_338 ⟨Nat.le_of_ble_eq_true rfl, Nat.le_of_ble_eq_true rfl⟩ rfl (Nat.le_of_ble_eq_true rfl) dX6_renew_1) ?_
  refine r_iconst S (0 : Int32) dX6_renew_4 rfl ?_
  refine r_istore_n (lv2 := [(1, .int (0 : Int32)), (0, .ref (hY X.2.1.2 + o))]) S dX6_renew_5 (by decide) rfl ?_
  obtain ⟨e3, M4, h9, hE⟩ := b2_some hE
  refine r_sub [1, 0] rfl (L6 o ho  e3 M4 ?_ _ _ M2 h9)
  obtain ⟨rfl, rfl⟩ := si2 hE
  exact hret _ _ dX6_renew_41
set_option maxRecDepth 100000 in
set_option maxHeartbeats 4000000 in
theorem c_WD_dryOnce (l : Launch) (Y : Env1) (hG : gY Y = gC) (o : Nat) (ho : kC o = 6) (M : Mem) (r : Int32) (M1 : Mem) (hE : WD_dryOnce o M = some (r, M1)) : CnI l Y yX6_dryOnce cX6_dryOnce 5 .int 4 [.ref (hY Y + o)] M r M1 := by
  refine met_I (own := RX6) (by decide +kernel) rfl hG (Nat.le_of_ble_eq_true rfl) (fun X S hY1 hl1 hret => ?_)
  subst hY1
  subst hl1
  show AW X 0 [(0, .ref (hY X.2.1.2 + o))] [] M
  have L90 : ∀ (v0 : Nat) (k0 : kC v0 = 6) (e : (Int32)) (M2 : Mem), AW X 138 [(1, .int e)] [] M2 → ∀ (n : Nat) (s : Int32 × Int32) (M : Mem), lpM (fun s M => WD_dryOnce_L90 v0 s.1 s.2 M) n s M = some (e, M2) → AW X 90 [(0, .ref (hY X.2.1.2 + v0)), (1, .int s.1), (2, .int s.2)] [] M := by
    intro v0 k0 e M2 hX
    refine lpM_ind (P := fun (s : Int32 × Int32) (M : Mem) => AW X 90 [(0, .ref (hY X.2.1.2 + v0)), (1, .int s.1), (2, .int s.2)] [] M) ?_
    rintro ⟨v1, v2⟩ M d M3 hE hC hD
    replace hE : WD_dryOnce_L90 v0 v1 v2 M = some (d, M3) := hE
    show AW X 90 [(0, .ref (hY X.2.1.2 + v0)), (1, .int v1), (2, .int v2)] [] M
    unfold WD_dryOnce_L90 at hE
    refine r_iload_n S dX6_dryOnce_90 2 rfl ?_
    refine r_aload_n S dX6_dryOnce_91 0 rfl ?_
    refine r_getI S fc6 k0 8 rfl q_526 dX6_dryOnce_92 ?_
    refine r_icmp_ge S 138 dX6_dryOnce_95 (by decide) (fun c => ?_) (fun c => ?_)
    · rw [if_pos c] at hE
      obtain ⟨rfl, rfl⟩ := si2 hE
      rcases hD with ⟨h1, h2⟩ | ⟨_, h1⟩
      · obtain rfl := sir h1
        subst h2
        exact r_sub [1] rfl hX
      · exact (sil h1).elim
    · rw [if_neg c] at hE
      refine r_aload_n S dX6_dryOnce_98 0 rfl ?_
      refine r_getRK S fc6 k0 2 (v0 + 19) rfl rfl q_228 dX6_dryOnce_99 ?_
      refine r_aload_n S dX6_dryOnce_102 0 rfl ?_
      refine r_getRK S fc6 k0 6 (v0 + 42) rfl rfl q_528 dX6_dryOnce_103 ?_
      refine r_iload_n S dX6_dryOnce_106 2 rfl ?_
      refine rc_I S (rn_V S fc3 (kk6_42 k0) (c_NR_at _ _ (gYX S) (v0 + 42) (kk6_42 k0) v2 M _ rfl) wdX3_at q_370 ⟨Nat.le_of_ble_eq_true rfl, Nat.le_of_ble_eq_true rfl⟩ rfl (Nat.le_of_ble_eq_true rfl) dX6_dryOnce_107) ?_
      refine r_aload_n S dX6_dryOnce_110 0 rfl ?_
      refine r_getRK S fc6 k0 7 (v0 + 44) rfl rfl q_531 dX6_dryOnce_111 ?_
      refine r_iload_n S dX6_dryOnce_114 2 rfl ?_
      refine rc_I S (rn_V S fc3 (kk6_44 k0) (c_NR_at _ _ (gYX S) (v0 + 44) (kk6_44 k0) v2 M _ rfl) wdX3_at q_370 ⟨Nat.le_of_ble_eq_true rfl, Nat.le_of_ble_eq_true rfl⟩ rfl (Nat.le_of_ble_eq_true rfl) dX6_dryOnce_115) ?_
      obtain ⟨x1, M2, h9, hE⟩ := b2_some hE
      refine rc_V S (rn_V S fc1 (kk6_19 k0) (c_LK_draw _ _ (gYX S) (v0 + 19) (kk6_19 k0) (fAtI (v0 + 42) v2 M) (fAtI (v0 + 44) v2 M) M _ _ h9) wdX1_draw q_536 ⟨Nat.le_of_ble_eq_true rfl, Nat.le_of_ble_eq_true rfl⟩ rfl (Nat.le_of_ble_eq_true rfl) dX6_dryOnce_118) ?_
      refine r_iload_n S dX6_dryOnce_121 1 rfl ?_
      refine r_aload_n S dX6_dryOnce_122 0 rfl ?_
      refine r_getRK S fc6 k0 7 (v0 + 44) rfl rfl q_531 dX6_dryOnce_123 ?_
      refine r_iload_n S dX6_dryOnce_126 2 rfl ?_
      refine rc_I S (rn_V S fc3 (kk6_44 k0) (c_NR_at _ _ (gYX S) (v0 + 44) (kk6_44 k0) v2 M2 _ rfl) wdX3_at q_370 ⟨Nat.le_of_ble_eq_true rfl, Nat.le_of_ble_eq_true rfl⟩ rfl (Nat.le_of_ble_eq_true rfl) dX6_dryOnce_127) ?_
      refine r_iadd S dX6_dryOnce_130 ?_
      refine r_istore_n (lv2 := [(1, .int (v1 + (fAtI (v0 + 44) v2 M2))), (0, .ref (hY X.2.1.2 + v0)), (2, .int v2)]) S dX6_dryOnce_131 (by decide) rfl ?_
      refine r_iinc (lv2 := [(2, .int (v2 + (1 : Int32))), (1, .int (v1 + (fAtI (v0 + 44) v2 M2))), (0, .ref (hY X.2.1.2 + v0))]) S dX6_dryOnce_132 (j := 2) rfl (by decide) rfl ?_
      refine r_goto S 90 dX6_dryOnce_135 (by decide) ?_
      obtain ⟨rfl, rfl⟩ := si2 hE
      exact r_sub (lv2 := [(0, .ref (hY X.2.1.2 + v0)), (1, .int (v1 + (fAtI (v0 + 44) v2 M2))), (2, .int (v2 + (1 : Int32)))]) [2, 1, 0] rfl (hC ((v1 + (fAtI (v0 + 44) v2 M2)), (v2 + (1 : Int32))) rfl)
  have L15 : ∀ (v0 : Nat) (k0 : kC v0 = 6) (v1 : Int32) (e : (Unit)) (M2 : Mem), AW X 88 [(0, .ref (hY X.2.1.2 + v0)), (1, .int v1)] [] M2 → ∀ (n : Nat) (s : Int32) (M : Mem), lpM (fun s M => WD_dryOnce_L15 v0 v1 s M) n s M = some (e, M2) → AW X 15 [(0, .ref (hY X.2.1.2 + v0)), (1, .int v1), (2, .int s)] [] M := by
    intro v0 k0 v1 e M2 hX
    refine lpM_ind (P := fun (s : Int32) (M : Mem) => AW X 15 [(0, .ref (hY X.2.1.2 + v0)), (1, .int v1), (2, .int s)] [] M) ?_
    rintro v2 M d M3 hE hC hD
    replace hE : WD_dryOnce_L15 v0 v1 v2 M = some (d, M3) := hE
    show AW X 15 [(0, .ref (hY X.2.1.2 + v0)), (1, .int v1), (2, .int v2)] [] M
    unfold WD_dryOnce_L15 at hE
    refine r_iload_n S dX6_dryOnce_15 2 rfl ?_
    refine r_aload_n S dX6_dryOnce_16 0 rfl ?_
    refine r_getI S fc6 k0 8 rfl q_526 dX6_dryOnce_17 ?_
    refine r_icmp_ge S 88 dX6_dryOnce_20 (by decide) (fun c => ?_) (fun c => ?_)
    · rw [if_pos c] at hE
      obtain ⟨rfl, rfl⟩ := si2 hE
      rcases hD with ⟨h1, h2⟩ | ⟨_, h1⟩
      · obtain rfl := sir h1
        subst h2
        exact r_sub [0, 1] rfl hX
      · exact (sil h1).elim
    · rw [if_neg c] at hE
      refine r_aload_n S dX6_dryOnce_23 0 rfl ?_
      refine r_getRK S fc6 k0 2 (v0 + 19) rfl rfl q_228 dX6_dryOnce_24 ?_
      refine r_iload_n S dX6_dryOnce_27 2 rfl ?_
      obtain ⟨x1, h9, hE⟩ := b1_some hE
      refine rc_I S (rn_V S fc1 (kk6_19 k0) (c_LK_placeOf _ _ (gYX S) (v0 + 19) (kk6_19 k0) v2 M _ h9) wdX1_placeOf q_527 ⟨Nat.le_of_ble_eq_true rfl, Nat.le_of_ble_eq_true rfl⟩ rfl (Nat.le_of_ble_eq_true rfl) dX6_dryOnce_28) ?_
      refine r_istore_n (lv2 := [(3, .int x1), (0, .ref (hY X.2.1.2 + v0)), (1, .int v1), (2, .int v2)]) S dX6_dryOnce_31 (by decide) rfl ?_
      refine r_aload_n S dX6_dryOnce_32 1 rfl ?_
      refine r_getRK S fc6 k0 2 (v0 + 19) rfl rfl q_228 dX6_dryOnce_33 ?_
      refine r_aload_n S dX6_dryOnce_36 1 rfl ?_
      refine r_getRK S fc6 k0 0 (v0 + 1) rfl rfl q_216 dX6_dryOnce_37 ?_
      refine r_iload_n S dX6_dryOnce_40 0 rfl ?_
      obtain ⟨x2, h9, hE⟩ := b1_some hE
      refine rc_L S (rn_V S fc1 (kk6_19 k0) (c_LK_wetCells _ _ (gYX S) (v0 + 19) (kk6_19 k0) (v0 + 1) (kk6_1 k0) x1 M _ h9) wdX1_wetCells q_371 ⟨Nat.le_of_ble_eq_true rfl, Nat.le_of_ble_eq_true rfl⟩ rfl (Nat.le_of_ble_eq_true rfl) dX6_dryOnce_41) ?_
      refine rc_I S (rn_S S (c_JL_bitCount _ _ (gYX S) x2 M _ rfl) wdJ13_bitCount_95d88 q_534 ⟨Nat.le_of_ble_eq_true rfl, Nat.le_of_ble_eq_true rfl⟩ rfl (Nat.le_of_ble_eq_true rfl) dX6_dryOnce_44) ?_
      refine r_istore (lv2 := [(4, .int (JL_bitCount x2)), (3, .int x1), (0, .ref (hY X.2.1.2 + v0)), (1, .int v1), (2, .int v2)]) S dX6_dryOnce_47 (by decide) rfl ?_
      refine r_aload_n S dX6_dryOnce_49 2 rfl ?_
      refine r_getRK S fc6 k0 6 (v0 + 42) rfl rfl q_528 dX6_dryOnce_50 ?_
      refine r_iload_n S dX6_dryOnce_53 4 rfl ?_
      refine r_iload_n S dX6_dryOnce_54 1 rfl ?_
      refine rc_V S (rn_V S fc3 (kk6_42 k0) (c_NR_put _ _ (gYX S) (v0 + 42) (kk6_42 k0) v2 x1 M _ rfl) wdX3_put q_530 ⟨Nat.le_of_ble_eq_true rfl, Nat.le_of_ble_eq_true rfl⟩ rfl (Nat.le_of_ble_eq_true rfl) dX6_dryOnce_55) ?_
      refine r_aload_n S dX6_dryOnce_58 2 rfl ?_
      refine r_getRK S fc6 k0 7 (v0 + 44) rfl rfl q_531 dX6_dryOnce_59 ?_
      refine r_iload_n S dX6_dryOnce_62 4 rfl ?_
      refine r_iload S dX6_dryOnce_63 0 rfl ?_
      refine r_aload_n S dX6_dryOnce_65 2 rfl ?_
      refine r_getRK S fc6 k0 2 (v0 + 19) rfl rfl q_228 dX6_dryOnce_66 ?_
      refine r_getRKN S fc1 (kk6_19 k0) 1 (v0 + 22) rfl rfl q_532 dX6_dryOnce_69 ?_
      refine r_iload_n S dX6_dryOnce_72 1 rfl ?_
      refine rc_I S (rn_V S fc3 (kk1_3 (kk6_19 k0)) (c_NR_at _ _ (gYX S) (v0 + 22) (kk1_3 (kk6_19 k0)) x1 (fPutI (v0 + 42) v2 x1 M) _ rfl) wdX3_at q_370 ⟨Nat.le_of_ble_eq_true rfl, Nat.le_of_ble_eq_true rfl⟩ rfl (Nat.le_of_ble_eq_true rfl) dX6_dryOnce_73) ?_
      refine r_mmin S q_535 q_11 q_12 q_13 (by decide) (Nat.le_of_ble_eq_true rfl) dX6_dryOnce_76 ?_
      refine rc_V S (rn_V S fc3 (kk6_44 k0) (c_NR_put _ _ (gYX S) (v0 + 44) (kk6_44 k0) v2 (JM_min (JL_bitCount x2) (fAtI (v0 + 22) x1 (fPutI (v0 + 42) v2 x1 M))) (fPutI (v0 + 42) v2 x1 M) _ rfl) wdX3_put q_530 ⟨Nat.le_of_ble_eq_true rfl, Nat.le_of_ble_eq_true rfl⟩ rfl (Nat.le_of_ble_eq_true rfl) dX6_dryOnce_79) ?_
      refine r_iinc (lv2 := [(2, .int (v2 + (1 : Int32))), (4, .int (JL_bitCount x2)), (3, .int x1), (0, .ref (hY X.2.1.2 + v0)), (1, .int v1)]) S dX6_dryOnce_82 (j := 4) rfl (by decide) rfl ?_
      refine r_goto S 15 dX6_dryOnce_85 (by decide) ?_
      obtain ⟨rfl, rfl⟩ := si2 hE
      exact r_sub (lv2 := [(0, .ref (hY X.2.1.2 + v0)), (1, .int v1), (2, .int (v2 + (1 : Int32)))]) [3, 4, 0] rfl (hC (v2 + (1 : Int32)) rfl)
  unfold WD_dryOnce at hE
  refine r_aload_n S dX6_dryOnce_0 0 rfl ?_
  refine r_aload_n S dX6_dryOnce_1 0 rfl ?_
  refine r_getRK S fc6 ho 2 (o + 19) rfl rfl q_228 dX6_dryOnce_2 ?_
  obtain ⟨x1, h9, hE⟩ := b1_some hE
  refine rc_I S (rn_V S fc1 (kk6_19 ho) (c_LK_total _ _ (gYX S) (o + 19) (kk6_19 ho) M _ h9) wdX1_total q_525 ⟨Nat.le_of_ble_eq_true rfl, Nat.le_of_ble_eq_true rfl⟩ rfl (Nat.le_of_ble_eq_true rfl) dX6_dryOnce_5) ?_
  refine r_putI S fc6 ho 8 rfl rfl (by decide +kernel) q_526 dX6_dryOnce_8 ?_
  refine r_iconst S (0 : Int32) dX6_dryOnce_11 rfl ?_
  refine r_istore_n (lv2 := [(1, .int (0 : Int32)), (0, .ref (hY X.2.1.2 + o))]) S dX6_dryOnce_12 (by decide) rfl ?_
  refine r_iconst S (0 : Int32) dX6_dryOnce_13 rfl ?_
  refine r_istore_n (lv2 := [(2, .int (0 : Int32)), (1, .int (0 : Int32)), (0, .ref (hY X.2.1.2 + o))]) S dX6_dryOnce_14 (by decide) rfl ?_
  obtain ⟨e2, M3, h9, hE⟩ := b2_some hE
  refine r_sub [2, 1, 0] rfl (L15 o ho (0 : Int32)  e2 M3 ?_ _ _ (sI M o 8 x1) h9)
  refine r_iconst S (0 : Int32) dX6_dryOnce_88 rfl ?_
  refine r_istore_n (lv2 := [(2, .int (0 : Int32)), (0, .ref (hY X.2.1.2 + o)), (1, .int (0 : Int32))]) S dX6_dryOnce_89 (by decide) rfl ?_
  obtain ⟨e4, M5, h9, hE⟩ := b2_some hE
  refine r_sub [1, 2, 0] rfl (L90 o ho  e4 M5 ?_ _ _ M3 h9)
  refine r_iload_n S dX6_dryOnce_138 0 rfl ?_
  obtain ⟨rfl, rfl⟩ := si2 hE
  exact hret _ _ dX6_dryOnce_139
set_option maxRecDepth 100000 in
set_option maxHeartbeats 4000000 in
theorem c_WD_dry (l : Launch) (Y : Env1) (hG : gY Y = gC) (o : Nat) (ho : kC o = 6) (a1 : Int32) (M : Mem) (r : Int32) (M1 : Mem) (hE : WD_dry o a1 M = some (r, M1)) : CnI l Y yX6_dry cX6_dry 4 .int 5 [.ref (hY Y + o), .int a1] M r M1 := by
  refine met_I (own := RX6) (by decide +kernel) rfl hG (Nat.le_of_ble_eq_true rfl) (fun X S hY1 hl1 hret => ?_)
  subst hY1
  subst hl1
  show AW X 0 [(0, .ref (hY X.2.1.2 + o)), (1, .int a1)] [] M
  have L4 : ∀ (v0 : Nat) (k0 : kC v0 = 6) (v1 : Int32) (e : (Int32)) (M2 : Mem), AW X 22 [(0, .ref (hY X.2.1.2 + v0)), (2, .int e)] [] M2 → ∀ (n : Nat) (s : Int32 × Int32) (M : Mem), lpM (fun s M => WD_dry_L4 v0 v1 s.1 s.2 M) n s M = some (e, M2) → AW X 4 [(0, .ref (hY X.2.1.2 + v0)), (1, .int v1), (2, .int s.1), (3, .int s.2)] [] M := by
    intro v0 k0 v1 e M2 hX
    refine lpM_ind (P := fun (s : Int32 × Int32) (M : Mem) => AW X 4 [(0, .ref (hY X.2.1.2 + v0)), (1, .int v1), (2, .int s.1), (3, .int s.2)] [] M) ?_
    rintro ⟨v2, v3⟩ M d M3 hE hC hD
    replace hE : WD_dry_L4 v0 v1 v2 v3 M = some (d, M3) := hE
    show AW X 4 [(0, .ref (hY X.2.1.2 + v0)), (1, .int v1), (2, .int v2), (3, .int v3)] [] M
    unfold WD_dry_L4 at hE
    refine r_iload_n S dX6_dry_4 3 rfl ?_
    refine r_iload_n S dX6_dry_5 1 rfl ?_
    refine r_icmp_ge S 22 dX6_dry_6 (by decide) (fun c => ?_) (fun c => ?_)
    · rw [if_pos c] at hE
      obtain ⟨rfl, rfl⟩ := si2 hE
      rcases hD with ⟨h1, h2⟩ | ⟨_, h1⟩
      · obtain rfl := sir h1
        subst h2
        exact r_sub [0, 2] rfl hX
      · exact (sil h1).elim
    · rw [if_neg c] at hE
      refine r_iload_n S dX6_dry_9 2 rfl ?_
      refine r_aload_n S dX6_dry_10 0 rfl ?_
      obtain ⟨x1, M2, h9, hE⟩ := b2_some hE
      refine rc_I S (rn_V S fc6 k0 (c_WD_dryOnce _ _ (gYX S) v0 k0 M _ _ h9) wdX6_dryOnce q_541 ⟨Nat.le_of_ble_eq_true rfl, Nat.le_of_ble_eq_true rfl⟩ rfl (Nat.le_of_ble_eq_true rfl) dX6_dry_11) ?_
      refine r_iadd S dX6_dry_14 ?_
      refine r_istore_n (lv2 := [(2, .int (v2 + x1)), (0, .ref (hY X.2.1.2 + v0)), (1, .int v1), (3, .int v3)]) S dX6_dry_15 (by decide) rfl ?_
      refine r_iinc (lv2 := [(3, .int (v3 + (1 : Int32))), (2, .int (v2 + x1)), (0, .ref (hY X.2.1.2 + v0)), (1, .int v1)]) S dX6_dry_16 (j := 3) rfl (by decide) rfl ?_
      refine r_goto S 4 dX6_dry_19 (by decide) ?_
      obtain ⟨rfl, rfl⟩ := si2 hE
      exact r_sub (lv2 := [(0, .ref (hY X.2.1.2 + v0)), (1, .int v1), (2, .int (v2 + x1)), (3, .int (v3 + (1 : Int32)))]) [2, 3, 1, 0] rfl (hC ((v2 + x1), (v3 + (1 : Int32))) rfl)
  unfold WD_dry at hE
  refine r_iconst S (0 : Int32) dX6_dry_0 rfl ?_
  refine r_istore_n (lv2 := [(2, .int (0 : Int32)), (0, .ref (hY X.2.1.2 + o)), (1, .int a1)]) S dX6_dry_1 (by decide) rfl ?_
  refine r_iconst S (0 : Int32) dX6_dry_2 rfl ?_
  refine r_istore_n (lv2 := [(3, .int (0 : Int32)), (2, .int (0 : Int32)), (0, .ref (hY X.2.1.2 + o)), (1, .int a1)]) S dX6_dry_3 (by decide) rfl ?_
  obtain ⟨e1, M2, h9, hE⟩ := b2_some hE
  refine r_sub [2, 3, 1, 0] rfl (L4 o ho a1  e1 M2 ?_ _ _ M h9)
  refine r_aload_n S dX6_dry_22 0 rfl ?_
  refine r_dup S dX6_dry_23 rfl ?_
  refine r_getL S fc6 ho 5 rfl q_236 dX6_dry_24 ?_
  refine r_iload_n S dX6_dry_27 1 rfl ?_
  refine r_i2l S dX6_dry_28 ?_
  refine r_ladd S dX6_dry_29 ?_
  refine r_putL S fc6 ho 5 rfl rfl (by decide +kernel) q_236 dX6_dry_30 ?_
  refine r_iload_n S dX6_dry_33 1 rfl ?_
  obtain ⟨rfl, rfl⟩ := si2 hE
  exact hret _ _ dX6_dry_34
