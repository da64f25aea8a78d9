/-! A5: that their bytecode does so -/
set_option maxRecDepth 100000 in
set_option maxHeartbeats 16000000 in
theorem c_LW_cell (l : Launch) (Y : Env1) (hG : gY Y = gC) (b L : Nat) (xs : Nat → Int32) (a1 : Int32) (M : Mem2) (r : Int32) (hE : LW_cell L xs a1 = some r) : CqI l Y b L xs yL_cell cL_cell 2 .int 0 [.ref b, .int a1] M r M := by
  refine mq_I (by decide +kernel) rfl hG (Nat.le_of_ble_eq_true rfl) (fun X S hY1 hl1 hret => ?_)
  subst hY1
  subst hl1
  show AQ X 0 [(0, .ref b), (1, .int a1)] [] M
  unfold LW_cell at hE
  refine g_iload_n S.1 dL_cell_0 1 rfl ?_
  refine g_aload_n S.1 dL_cell_1 0 rfl ?_
  refine q_slen S dL_cell_2 ?_
  refine g_icmp_ge S.1 12 dL_cell_3 (by decide) (fun c => ?_) (fun c => ?_)
  · rw [if_pos c] at hE
    refine g_ldc S.1 (v := 1779033703) q_648 dL_cell_12 ?_
    refine g_iload_n S.1 dL_cell_14 1 rfl ?_
    refine g_sipush S.1 (463 : Int32) dL_cell_15 rfl ?_
    refine g_iadd S.1 dL_cell_18 ?_
    refine g_imul S.1 dL_cell_19 ?_
    obtain rfl := si1 hE
    exact hret _ _ dL_cell_20
  · rw [if_neg c] at hE
    refine g_aload_n S.1 dL_cell_6 0 rfl ?_
    refine g_iload_n S.1 dL_cell_7 1 rfl ?_
    obtain ⟨hi, hE⟩ := ck_some hE
    refine q_sld S hi dL_cell_8 ?_
    refine g_goto S.1 20 dL_cell_9 (by decide) ?_
    obtain rfl := si1 hE
    exact hret _ _ dL_cell_20
set_option maxRecDepth 100000 in
set_option maxHeartbeats 16000000 in
theorem c_LW_up (l : Launch) (Y : Env1) (hG : gY Y = gC) (b L : Nat) (xs : Nat → Int32) (a0 : Int32) (a1 : Int32) (M : Mem2) (r : Int32) (hE : LW_up a0 a1 = some r) : CqI l Y b L xs yL_up cL_up 2 .int 0 [.int a0, .int a1] M r M := by
  refine mq_I (by decide +kernel) rfl hG (Nat.le_of_ble_eq_true rfl) (fun X S hY1 hl1 hret => ?_)
  subst hY1
  subst hl1
  show AQ X 0 [(0, .int a0), (1, .int a1)] [] M
  unfold LW_up at hE
  refine g_iload_n S.1 dL_up_0 0 rfl ?_
  refine g_ldc S.1 (v := 2147483647) q_649 dL_up_1 ?_
  refine g_iand S.1 dL_up_3 ?_
  refine g_iload_n S.1 dL_up_4 1 rfl ?_
  obtain ⟨hy, hE⟩ := ck_some hE
  refine g_irem S.1 dL_up_5 (of_decide_eq_true hy) ?_
  obtain rfl := si1 hE
  exact hret _ _ dL_up_6
set_option maxRecDepth 100000 in
set_option maxHeartbeats 16000000 in
theorem c_LW_number (l : Launch) (Y : Env1) (hG : gY Y = gC) (b L : Nat) (xs : Nat → Int32) (a1 : Int32) (M : Mem2) (r : Int32) (M1 : Mem2) (hE : LW_number a1 M = some (r, M1)) : CqI l Y b L xs yL_number cL_number 2 .boolean 3 [.ref (hY Y + 281 + 0), .int a1] M r M1 := by
  refine mq_Z (by decide +kernel) rfl hG (Nat.le_of_ble_eq_true rfl) (fun X S hY1 hl1 hret => ?_)
  subst hY1
  subst hl1
  show AQ X 0 [(0, .ref (hY X.2.1.2 + 281 + 0)), (1, .int a1)] [] M
  have J20 : ∀ (v1 : Int32) (M : Mem2), LW_number_J20 v1 M = some (r, M1) → AQ X 20 [(0, .ref (hY X.2.1.2 + 281 + 0)), (1, .int v1)] [] M := by
    intro v1 M hE
    unfold LW_number_J20 at hE
    refine g_aload_n S.1 dL_number_20 0 rfl ?_
    refine g_bipush S.1 (48 : Int32) dL_number_21 rfl ?_
    refine g_iload_n S.1 dL_number_23 1 rfl ?_
    refine g_bipush S.1 (10 : Int32) dL_number_24 rfl ?_
    refine g_irem S.1 dL_number_26 (by decide) ?_
    refine g_iadd S.1 dL_number_27 ?_
    obtain ⟨x1, M2, h9, hE⟩ := bo_some hE
    refine qp_I S (n_LL_append _ (YP X.2.1.2) rfl ((48 : Int32) + (irm v1 (10 : Int32))) M.2 _ _ h9) fc7 wdX7_append q_650 ⟨Nat.le_of_ble_eq_true rfl, Nat.le_of_ble_eq_true rfl⟩ rfl (Nat.le_of_ble_eq_true rfl) dL_number_28 ?_
    refine g_if_le S.1 38 dL_number_31 (by decide) (fun c => ?_) (fun c => ?_)
    · try simp only [if_pos c] at hE
      refine g_iconst S.1 (0 : Int32) dL_number_38 rfl ?_
      obtain ⟨rfl, rfl⟩ := sq2 hE
      exact hret _ _ _ dL_number_39 (by decide)
    · try simp only [if_neg c] at hE
      refine g_iconst S.1 (1 : Int32) dL_number_34 rfl ?_
      refine g_goto S.1 39 dL_number_35 (by decide) ?_
      obtain ⟨rfl, rfl⟩ := sq2 hE
      exact hret _ _ _ dL_number_39 (by decide)
  unfold LW_number at hE
  refine g_iload_n S.1 dL_number_0 1 rfl ?_
  refine g_bipush S.1 (10 : Int32) dL_number_1 rfl ?_
  refine g_icmp_lt S.1 20 dL_number_3 (by decide) (fun c => ?_) (fun c => ?_)
  · rw [if_pos c] at hE
    exact g_sub [0, 1] rfl (J20 a1 M hE)
  · rw [if_neg c] at hE
    refine g_aload_n S.1 dL_number_6 0 rfl ?_
    refine g_bipush S.1 (48 : Int32) dL_number_7 rfl ?_
    refine g_iload_n S.1 dL_number_9 1 rfl ?_
    refine g_bipush S.1 (10 : Int32) dL_number_10 rfl ?_
    refine g_idiv S.1 dL_number_12 (by decide) ?_
    refine g_iadd S.1 dL_number_13 ?_
    obtain ⟨x1, M2, h9, hE⟩ := bo_some hE
    refine qp_I S (n_LL_append _ (YP X.2.1.2) rfl ((48 : Int32) + (a1 / (10 : Int32))) M.2 _ _ h9) fc7 wdX7_append q_650 ⟨Nat.le_of_ble_eq_true rfl, Nat.le_of_ble_eq_true rfl⟩ rfl (Nat.le_of_ble_eq_true rfl) dL_number_14 ?_
    refine g_if_le S.1 38 dL_number_17 (by decide) (fun c => ?_) (fun c => ?_)
    · rw [if_pos c] at hE
      refine g_iconst S.1 (0 : Int32) dL_number_38 rfl ?_
      obtain ⟨rfl, rfl⟩ := sq2 hE
      exact hret _ _ _ dL_number_39 (by decide)
    · rw [if_neg c] at hE
      exact g_sub [0, 1] rfl (J20 a1 (M.1, M2) hE)
set_option maxRecDepth 100000 in
set_option maxHeartbeats 16000000 in
theorem c_LW_tells (l : Launch) (Y : Env1) (hG : gY Y = gC) (b L : Nat) (xs : Nat → Int32) (M : Mem2) (r : Int32) (M1 : Mem2) (hE : LW_tells M = some (r, M1)) : CqI l Y b L xs yL_tells cL_tells 5 .boolean 6 [.ref (hY Y + 0), .ref (hY Y + 281 + 0)] M r M1 := by
  refine mq_Z (by decide +kernel) rfl hG (Nat.le_of_ble_eq_true rfl) (fun X S hY1 hl1 hret => ?_)
  subst hY1
  subst hl1
  show AQ X 0 [(0, .ref (hY X.2.1.2 + 0)), (1, .ref (hY X.2.1.2 + 281 + 0))] [] M
  have L116 : ∀ (v2 : Int32) (e : (Int32)) (M2 : Mem2), AQ X 176 [(3, .int e)] [] M2 → ∀ (n : Nat) (s : Int32 × Int32) (M : Mem2), lpQ (fun s M => LW_tells_L116 v2 s.1 s.2 M) n s M = some (e, M2) → AQ X 116 [(0, .ref (hY X.2.1.2 + 0)), (1, .ref (hY X.2.1.2 + 281 + 0)), (2, .int v2), (3, .int s.1), (4, .int s.2)] [] M := by
    intro v2 e M2 hX
    refine lpQ_ind (P := fun (s : Int32 × Int32) (M : Mem2) => AQ X 116 [(0, .ref (hY X.2.1.2 + 0)), (1, .ref (hY X.2.1.2 + 281 + 0)), (2, .int v2), (3, .int s.1), (4, .int s.2)] [] M) ?_
    rintro ⟨v3, v4⟩ M d M3 hE hC hD
    replace hE : LW_tells_L116 v2 v3 v4 M = some (d, M3) := hE
    show AQ X 116 [(0, .ref (hY X.2.1.2 + 0)), (1, .ref (hY X.2.1.2 + 281 + 0)), (2, .int v2), (3, .int v3), (4, .int v4)] [] M
    unfold LW_tells_L116 at hE
    refine g_iload S.1 dL_tells_116 4 rfl ?_
    refine g_iload_n S.1 dL_tells_118 2 rfl ?_
    refine g_icmp_ge S.1 176 dL_tells_119 (by decide) (fun c => ?_) (fun c => ?_)
    · rw [if_pos c] at hE
      obtain ⟨rfl, rfl⟩ := sq2 hE
      rcases hD with ⟨h1, h2⟩ | ⟨_, h1⟩
      · obtain rfl := sir h1
        subst h2
        exact g_sub [3] rfl hX
      · exact (sil h1).elim
    · rw [if_neg c] at hE
      refine g_aload_n S.1 dL_tells_122 0 rfl ?_
      refine g_iload S.1 dL_tells_123 4 rfl ?_
      refine g_iconst S.1 (1 : Int32) dL_tells_125 rfl ?_
      obtain ⟨x1, M2, h9, hE⟩ := bo_some hE
      refine qo_I S (n_LL_cell _ _ S.G v4 (1 : Int32) M.1 _ _ h9) fc7 wdX7_cell q_665 ⟨Nat.le_of_ble_eq_true rfl, Nat.le_of_ble_eq_true rfl⟩ rfl (Nat.le_of_ble_eq_true rfl) dL_tells_126 ?_
      refine g_iconst S.1 (1 : Int32) dL_tells_129 rfl ?_
      refine g_icmp_ne S.1 170 dL_tells_130 (by decide) (fun c => ?_) (fun c => ?_)
      · rw [if_pos c] at hE
        refine g_iinc (lv2 := [(4, .int (v4 + (1 : Int32))), (0, .ref (hY X.2.1.2 + 0)), (1, .ref (hY X.2.1.2 + 281 + 0)), (2, .int v2), (3, .int v3)]) S.1 dL_tells_170 (j := 4) rfl (by decide) rfl ?_
        refine g_goto S.1 116 dL_tells_173 (by decide) ?_
        obtain ⟨rfl, rfl⟩ := sq2 hE
        exact g_sub (lv2 := [(0, .ref (hY X.2.1.2 + 0)), (1, .ref (hY X.2.1.2 + 281 + 0)), (2, .int v2), (3, .int v3), (4, .int (v4 + (1 : Int32)))]) [1, 2, 3, 4, 0] rfl (hC (v3, (v4 + (1 : Int32))) rfl)
      · rw [if_neg (not_not_intro c)] at hE
        refine g_iload_n S.1 dL_tells_133 3 rfl ?_
        refine g_if_eq S.1 168 dL_tells_134 (by decide) (fun c => ?_) (fun c => ?_)
        · rw [if_pos c] at hE
          refine g_iconst S.1 (0 : Int32) dL_tells_168 rfl ?_
          refine g_istore_n (lv2 := [(3, .int (0 : Int32)), (0, .ref (hY X.2.1.2 + 0)), (1, .ref (hY X.2.1.2 + 281 + 0)), (2, .int v2), (4, .int v4)]) S.1 dL_tells_169 (by decide) rfl ?_
          refine g_iinc (lv2 := [(4, .int (v4 + (1 : Int32))), (3, .int (0 : Int32)), (0, .ref (hY X.2.1.2 + 0)), (1, .ref (hY X.2.1.2 + 281 + 0)), (2, .int v2)]) S.1 dL_tells_170 (j := 4) rfl (by decide) rfl ?_
          refine g_goto S.1 116 dL_tells_173 (by decide) ?_
          obtain ⟨rfl, rfl⟩ := sq2 hE
          exact g_sub (lv2 := [(0, .ref (hY X.2.1.2 + 0)), (1, .ref (hY X.2.1.2 + 281 + 0)), (2, .int v2), (3, .int (0 : Int32)), (4, .int (v4 + (1 : Int32)))]) [2, 3, 4, 1, 0] rfl (hC ((0 : Int32), (v4 + (1 : Int32))) rfl)
        · rw [if_neg c] at hE
          refine g_aload_n S.1 dL_tells_137 1 rfl ?_
          refine g_bipush S.1 (59 : Int32) dL_tells_138 rfl ?_
          obtain ⟨x3, M4, h9, hE⟩ := bo_some hE
          refine qp_I S (n_LL_append _ (YP X.2.1.2) rfl (59 : Int32) M.2 _ _ h9) fc7 wdX7_append q_650 ⟨Nat.le_of_ble_eq_true rfl, Nat.le_of_ble_eq_true rfl⟩ rfl (Nat.le_of_ble_eq_true rfl) dL_tells_140 ?_
          refine g_if_le S.1 168 dL_tells_143 (by decide) (fun c => ?_) (fun c => ?_)
          · rw [if_pos c] at hE
            refine g_iconst S.1 (0 : Int32) dL_tells_168 rfl ?_
            refine g_istore_n (lv2 := [(3, .int (0 : Int32)), (0, .ref (hY X.2.1.2 + 0)), (1, .ref (hY X.2.1.2 + 281 + 0)), (2, .int v2), (4, .int v4)]) S.1 dL_tells_169 (by decide) rfl ?_
            refine g_iinc (lv2 := [(4, .int (v4 + (1 : Int32))), (3, .int (0 : Int32)), (0, .ref (hY X.2.1.2 + 0)), (1, .ref (hY X.2.1.2 + 281 + 0)), (2, .int v2)]) S.1 dL_tells_170 (j := 4) rfl (by decide) rfl ?_
            refine g_goto S.1 116 dL_tells_173 (by decide) ?_
            obtain ⟨rfl, rfl⟩ := sq2 hE
            exact g_sub (lv2 := [(0, .ref (hY X.2.1.2 + 0)), (1, .ref (hY X.2.1.2 + 281 + 0)), (2, .int v2), (3, .int (0 : Int32)), (4, .int (v4 + (1 : Int32)))]) [2, 3, 4, 1, 0] rfl (hC ((0 : Int32), (v4 + (1 : Int32))) rfl)
          · rw [if_neg c] at hE
            refine g_aload_n S.1 dL_tells_146 1 rfl ?_
            refine g_bipush S.1 (100 : Int32) dL_tells_147 rfl ?_
            obtain ⟨x5, M6, h9, hE⟩ := bo_some hE
            refine qp_I S (n_LL_append _ (YP X.2.1.2) rfl (100 : Int32) M4 _ _ h9) fc7 wdX7_append q_650 ⟨Nat.le_of_ble_eq_true rfl, Nat.le_of_ble_eq_true rfl⟩ rfl (Nat.le_of_ble_eq_true rfl) dL_tells_149 ?_
            refine g_if_le S.1 168 dL_tells_152 (by decide) (fun c => ?_) (fun c => ?_)
            · rw [if_pos c] at hE
              refine g_iconst S.1 (0 : Int32) dL_tells_168 rfl ?_
              refine g_istore_n (lv2 := [(3, .int (0 : Int32)), (0, .ref (hY X.2.1.2 + 0)), (1, .ref (hY X.2.1.2 + 281 + 0)), (2, .int v2), (4, .int v4)]) S.1 dL_tells_169 (by decide) rfl ?_
              refine g_iinc (lv2 := [(4, .int (v4 + (1 : Int32))), (3, .int (0 : Int32)), (0, .ref (hY X.2.1.2 + 0)), (1, .ref (hY X.2.1.2 + 281 + 0)), (2, .int v2)]) S.1 dL_tells_170 (j := 4) rfl (by decide) rfl ?_
              refine g_goto S.1 116 dL_tells_173 (by decide) ?_
              obtain ⟨rfl, rfl⟩ := sq2 hE
              exact g_sub (lv2 := [(0, .ref (hY X.2.1.2 + 0)), (1, .ref (hY X.2.1.2 + 281 + 0)), (2, .int v2), (3, .int (0 : Int32)), (4, .int (v4 + (1 : Int32)))]) [2, 3, 4, 1, 0] rfl (hC ((0 : Int32), (v4 + (1 : Int32))) rfl)
            · rw [if_neg c] at hE
              refine g_aload_n S.1 dL_tells_155 1 rfl ?_
              refine g_iload S.1 dL_tells_156 4 rfl ?_
              obtain ⟨x7, M8, h9, hE⟩ := bq_some hE
              refine qs_I S (c_LW_number _ _ S.G b L xs v4 (M2, M6) _ _ h9) wdL_number q_670 ⟨Nat.le_of_ble_eq_true rfl, Nat.le_of_ble_eq_true rfl⟩ rfl (Nat.le_of_ble_eq_true rfl) dL_tells_158 ?_
              refine g_if_eq S.1 168 dL_tells_161 (by decide) (fun c => ?_) (fun c => ?_)
              · try simp only [if_pos c] at hE
                refine g_iconst S.1 (0 : Int32) dL_tells_168 rfl ?_
                refine g_istore_n (lv2 := [(3, .int (0 : Int32)), (0, .ref (hY X.2.1.2 + 0)), (1, .ref (hY X.2.1.2 + 281 + 0)), (2, .int v2), (4, .int v4)]) S.1 dL_tells_169 (by decide) rfl ?_
                refine g_iinc (lv2 := [(4, .int (v4 + (1 : Int32))), (3, .int (0 : Int32)), (0, .ref (hY X.2.1.2 + 0)), (1, .ref (hY X.2.1.2 + 281 + 0)), (2, .int v2)]) S.1 dL_tells_170 (j := 4) rfl (by decide) rfl ?_
                refine g_goto S.1 116 dL_tells_173 (by decide) ?_
                obtain ⟨rfl, rfl⟩ := sq2 hE
                exact g_sub (lv2 := [(0, .ref (hY X.2.1.2 + 0)), (1, .ref (hY X.2.1.2 + 281 + 0)), (2, .int v2), (3, .int (0 : Int32)), (4, .int (v4 + (1 : Int32)))]) [2, 3, 4, 1, 0] rfl (hC ((0 : Int32), (v4 + (1 : Int32))) rfl)
              · try simp only [if_neg c] at hE
                refine g_iconst S.1 (1 : Int32) dL_tells_164 rfl ?_
                refine g_goto S.1 169 dL_tells_165 (by decide) ?_
                refine g_istore_n (lv2 := [(3, .int (1 : Int32)), (0, .ref (hY X.2.1.2 + 0)), (1, .ref (hY X.2.1.2 + 281 + 0)), (2, .int v2), (4, .int v4)]) S.1 dL_tells_169 (by decide) rfl ?_
                refine g_iinc (lv2 := [(4, .int (v4 + (1 : Int32))), (3, .int (1 : Int32)), (0, .ref (hY X.2.1.2 + 0)), (1, .ref (hY X.2.1.2 + 281 + 0)), (2, .int v2)]) S.1 dL_tells_170 (j := 4) rfl (by decide) rfl ?_
                refine g_goto S.1 116 dL_tells_173 (by decide) ?_
                obtain ⟨rfl, rfl⟩ := sq2 hE
                exact g_sub (lv2 := [(0, .ref (hY X.2.1.2 + 0)), (1, .ref (hY X.2.1.2 + 281 + 0)), (2, .int v2), (3, .int (1 : Int32)), (4, .int (v4 + (1 : Int32)))]) [2, 3, 4, 1, 0] rfl (hC ((1 : Int32), (v4 + (1 : Int32))) rfl)
  have L58 : ∀ (v2 : Int32) (e : (Int32)) (M2 : Mem2), AQ X 113 [(0, .ref (hY X.2.1.2 + 0)), (1, .ref (hY X.2.1.2 + 281 + 0)), (2, .int v2), (3, .int e)] [] M2 → ∀ (n : Nat) (s : Int32 × Int32) (M : Mem2), lpQ (fun s M => LW_tells_L58 v2 s.1 s.2 M) n s M = some (e, M2) → AQ X 58 [(0, .ref (hY X.2.1.2 + 0)), (1, .ref (hY X.2.1.2 + 281 + 0)), (2, .int v2), (3, .int s.1), (4, .int s.2)] [] M := by
    intro v2 e M2 hX
    refine lpQ_ind (P := fun (s : Int32 × Int32) (M : Mem2) => AQ X 58 [(0, .ref (hY X.2.1.2 + 0)), (1, .ref (hY X.2.1.2 + 281 + 0)), (2, .int v2), (3, .int s.1), (4, .int s.2)] [] M) ?_
    rintro ⟨v3, v4⟩ M d M3 hE hC hD
    replace hE : LW_tells_L58 v2 v3 v4 M = some (d, M3) := hE
    show AQ X 58 [(0, .ref (hY X.2.1.2 + 0)), (1, .ref (hY X.2.1.2 + 281 + 0)), (2, .int v2), (3, .int v3), (4, .int v4)] [] M
    have J81 : ∀ (v4 : Int32) (t0 : Int32) (M : Mem2), LW_tells_L58_J81 v2 v4 t0 M = some (d, M3) → AQ X 81 [(0, .ref (hY X.2.1.2 + 0)), (1, .ref (hY X.2.1.2 + 281 + 0)), (2, .int v2), (4, .int v4)] [.int t0, .ref (hY X.2.1.2 + 281 + 0)] M := by
      intro v4 t0 M hE
      unfold LW_tells_L58_J81 at hE
      obtain ⟨x1, M2, h9, hE⟩ := bo_some hE
      refine qp_I S (n_LL_append _ (YP X.2.1.2) rfl t0 M.2 _ _ h9) fc7 wdX7_append q_650 ⟨Nat.le_of_ble_eq_true rfl, Nat.le_of_ble_eq_true rfl⟩ rfl (Nat.le_of_ble_eq_true rfl) dL_tells_81 ?_
      refine g_if_le S.1 105 dL_tells_84 (by decide) (fun c => ?_) (fun c => ?_)
      · rw [if_pos c] at hE
        refine g_iconst S.1 (0 : Int32) dL_tells_105 rfl ?_
        refine g_istore_n (lv2 := [(3, .int (0 : Int32)), (0, .ref (hY X.2.1.2 + 0)), (1, .ref (hY X.2.1.2 + 281 + 0)), (2, .int v2), (4, .int v4)]) S.1 dL_tells_106 (by decide) rfl ?_
        refine g_iinc (lv2 := [(4, .int (v4 + (1 : Int32))), (3, .int (0 : Int32)), (0, .ref (hY X.2.1.2 + 0)), (1, .ref (hY X.2.1.2 + 281 + 0)), (2, .int v2)]) S.1 dL_tells_107 (j := 4) rfl (by decide) rfl ?_
        refine g_goto S.1 58 dL_tells_110 (by decide) ?_
        obtain ⟨rfl, rfl⟩ := sq2 hE
        exact g_sub (lv2 := [(0, .ref (hY X.2.1.2 + 0)), (1, .ref (hY X.2.1.2 + 281 + 0)), (2, .int v2), (3, .int (0 : Int32)), (4, .int (v4 + (1 : Int32)))]) [2, 3, 4, 1, 0] rfl (hC ((0 : Int32), (v4 + (1 : Int32))) rfl)
      · rw [if_neg c] at hE
        refine g_aload_n S.1 dL_tells_87 1 rfl ?_
        refine g_aload_n S.1 dL_tells_88 0 rfl ?_
        refine g_iload S.1 dL_tells_89 3 rfl ?_
        refine g_iconst S.1 (0 : Int32) dL_tells_91 rfl ?_
        obtain ⟨x3, M4, h9, hE⟩ := bo_some hE
        refine qo_I S (n_LL_cell _ _ S.G v4 (0 : Int32) M.1 _ _ h9) fc7 wdX7_cell q_665 ⟨Nat.le_of_ble_eq_true rfl, Nat.le_of_ble_eq_true rfl⟩ rfl (Nat.le_of_ble_eq_true rfl) dL_tells_92 ?_
        obtain ⟨x5, M6, h9, hE⟩ := bq_some hE
        refine qs_I S (c_LW_number _ _ S.G b L xs x3 (M4, M2) _ _ h9) wdL_number q_670 ⟨Nat.le_of_ble_eq_true rfl, Nat.le_of_ble_eq_true rfl⟩ rfl (Nat.le_of_ble_eq_true rfl) dL_tells_95 ?_
        refine g_if_eq S.1 105 dL_tells_98 (by decide) (fun c => ?_) (fun c => ?_)
        · try simp only [if_pos c] at hE
          refine g_iconst S.1 (0 : Int32) dL_tells_105 rfl ?_
          refine g_istore_n (lv2 := [(3, .int (0 : Int32)), (0, .ref (hY X.2.1.2 + 0)), (1, .ref (hY X.2.1.2 + 281 + 0)), (2, .int v2), (4, .int v4)]) S.1 dL_tells_106 (by decide) rfl ?_
          refine g_iinc (lv2 := [(4, .int (v4 + (1 : Int32))), (3, .int (0 : Int32)), (0, .ref (hY X.2.1.2 + 0)), (1, .ref (hY X.2.1.2 + 281 + 0)), (2, .int v2)]) S.1 dL_tells_107 (j := 4) rfl (by decide) rfl ?_
          refine g_goto S.1 58 dL_tells_110 (by decide) ?_
          obtain ⟨rfl, rfl⟩ := sq2 hE
          exact g_sub (lv2 := [(0, .ref (hY X.2.1.2 + 0)), (1, .ref (hY X.2.1.2 + 281 + 0)), (2, .int v2), (3, .int (0 : Int32)), (4, .int (v4 + (1 : Int32)))]) [2, 3, 4, 1, 0] rfl (hC ((0 : Int32), (v4 + (1 : Int32))) rfl)
        · try simp only [if_neg c] at hE
          refine g_iconst S.1 (1 : Int32) dL_tells_101 rfl ?_
          refine g_goto S.1 106 dL_tells_102 (by decide) ?_
          refine g_istore_n (lv2 := [(3, .int (1 : Int32)), (0, .ref (hY X.2.1.2 + 0)), (1, .ref (hY X.2.1.2 + 281 + 0)), (2, .int v2), (4, .int v4)]) S.1 dL_tells_106 (by decide) rfl ?_
          refine g_iinc (lv2 := [(4, .int (v4 + (1 : Int32))), (3, .int (1 : Int32)), (0, .ref (hY X.2.1.2 + 0)), (1, .ref (hY X.2.1.2 + 281 + 0)), (2, .int v2)]) S.1 dL_tells_107 (j := 4) rfl (by decide) rfl ?_
          refine g_goto S.1 58 dL_tells_110 (by decide) ?_
          obtain ⟨rfl, rfl⟩ := sq2 hE
          exact g_sub (lv2 := [(0, .ref (hY X.2.1.2 + 0)), (1, .ref (hY X.2.1.2 + 281 + 0)), (2, .int v2), (3, .int (1 : Int32)), (4, .int (v4 + (1 : Int32)))]) [2, 3, 4, 1, 0] rfl (hC ((1 : Int32), (v4 + (1 : Int32))) rfl)
    unfold LW_tells_L58 at hE
    refine g_iload S.1 dL_tells_58 4 rfl ?_
    refine g_iload_n S.1 dL_tells_60 2 rfl ?_
    refine g_icmp_ge S.1 113 dL_tells_61 (by decide) (fun c => ?_) (fun c => ?_)
    · rw [if_pos c] at hE
      obtain ⟨rfl, rfl⟩ := sq2 hE
      rcases hD with ⟨h1, h2⟩ | ⟨_, h1⟩
      · obtain rfl := sir h1
        subst h2
        exact g_sub [0, 1, 2, 3] rfl hX
      · exact (sil h1).elim
    · rw [if_neg c] at hE
      refine g_iload_n S.1 dL_tells_64 3 rfl ?_
      refine g_if_eq S.1 105 dL_tells_65 (by decide) (fun c => ?_) (fun c => ?_)
      · rw [if_pos c] at hE
        refine g_iconst S.1 (0 : Int32) dL_tells_105 rfl ?_
        refine g_istore_n (lv2 := [(3, .int (0 : Int32)), (0, .ref (hY X.2.1.2 + 0)), (1, .ref (hY X.2.1.2 + 281 + 0)), (2, .int v2), (4, .int v4)]) S.1 dL_tells_106 (by decide) rfl ?_
        refine g_iinc (lv2 := [(4, .int (v4 + (1 : Int32))), (3, .int (0 : Int32)), (0, .ref (hY X.2.1.2 + 0)), (1, .ref (hY X.2.1.2 + 281 + 0)), (2, .int v2)]) S.1 dL_tells_107 (j := 4) rfl (by decide) rfl ?_
        refine g_goto S.1 58 dL_tells_110 (by decide) ?_
        obtain ⟨rfl, rfl⟩ := sq2 hE
        exact g_sub (lv2 := [(0, .ref (hY X.2.1.2 + 0)), (1, .ref (hY X.2.1.2 + 281 + 0)), (2, .int v2), (3, .int (0 : Int32)), (4, .int (v4 + (1 : Int32)))]) [2, 3, 4, 1, 0] rfl (hC ((0 : Int32), (v4 + (1 : Int32))) rfl)
      · rw [if_neg c] at hE
        refine g_aload_n S.1 dL_tells_68 1 rfl ?_
        refine g_iload S.1 dL_tells_69 4 rfl ?_
        refine g_if_ne S.1 79 dL_tells_71 (by decide) (fun c => ?_) (fun c => ?_)
        · try simp only [if_pos c] at hE
          refine g_bipush S.1 (44 : Int32) dL_tells_79 rfl ?_
          exact g_sub [0, 1, 2, 4] rfl (J81 v4 (44 : Int32) M hE)
        · try simp only [if_neg (not_not_intro c)] at hE
          refine g_bipush S.1 (58 : Int32) dL_tells_74 rfl ?_
          refine g_goto S.1 81 dL_tells_76 (by decide) ?_
          exact g_sub [0, 1, 2, 4] rfl (J81 v4 (58 : Int32) M hE)
  have J54 : ∀ (v2 : Int32) (t0 : Int32) (M : Mem2), LW_tells_J54 v2 t0 M = some (r, M1) → AQ X 54 [(0, .ref (hY X.2.1.2 + 0)), (1, .ref (hY X.2.1.2 + 281 + 0)), (2, .int v2)] [.int t0] M := by
    intro v2 t0 M hE
    unfold LW_tells_J54 at hE
    refine g_istore_n (lv2 := [(3, .int t0), (0, .ref (hY X.2.1.2 + 0)), (1, .ref (hY X.2.1.2 + 281 + 0)), (2, .int v2)]) S.1 dL_tells_54 (by decide) rfl ?_
    refine g_iconst S.1 (0 : Int32) dL_tells_55 rfl ?_
    refine g_istore (lv2 := [(4, .int (0 : Int32)), (3, .int t0), (0, .ref (hY X.2.1.2 + 0)), (1, .ref (hY X.2.1.2 + 281 + 0)), (2, .int v2)]) S.1 dL_tells_56 (by decide) rfl ?_
    obtain ⟨e1, M2, h9, hE⟩ := bq_some hE
    refine g_sub [2, 3, 4, 1, 0] rfl (L58 v2  e1 M2 ?_ _ _ M h9)
    refine g_iconst S.1 (0 : Int32) dL_tells_113 rfl ?_
    refine g_istore (lv2 := [(4, .int (0 : Int32)), (0, .ref (hY X.2.1.2 + 0)), (1, .ref (hY X.2.1.2 + 281 + 0)), (2, .int v2), (3, .int e1)]) S.1 dL_tells_114 (by decide) rfl ?_
    obtain ⟨e3, M4, h9, hE⟩ := bq_some hE
    refine g_sub [1, 2, 3, 4, 0] rfl (L116 v2  e3 M4 ?_ _ _ M2 h9)
    refine g_iload_n S.1 dL_tells_176 0 rfl ?_
    obtain ⟨rfl, rfl⟩ := sq2 hE
    exact hret _ _ _ dL_tells_177 rfl
  have J53 : ∀ (v2 : Int32) (M : Mem2), LW_tells_J53 v2 M = some (r, M1) → AQ X 53 [(0, .ref (hY X.2.1.2 + 0)), (1, .ref (hY X.2.1.2 + 281 + 0)), (2, .int v2)] [] M := by
    intro v2 M hE
    unfold LW_tells_J53 at hE
    refine g_iconst S.1 (0 : Int32) dL_tells_53 rfl ?_
    exact g_sub [0, 1, 2] rfl (J54 v2 (0 : Int32) M hE)
  unfold LW_tells at hE
  refine g_aload_n S.1 dL_tells_0 0 rfl ?_
  refine g_iconst S.1 (0 : Int32) dL_tells_1 rfl ?_
  obtain ⟨x1, M2, h9, hE⟩ := bo_some hE
  refine qo_I S (n_LL_count _ _ S.G (0 : Int32) M.1 _ _ h9) fc7 wdX7_count q_655 ⟨Nat.le_of_ble_eq_true rfl, Nat.le_of_ble_eq_true rfl⟩ rfl (Nat.le_of_ble_eq_true rfl) dL_tells_2 ?_
  refine g_aload_n S.1 dL_tells_5 0 rfl ?_
  refine g_iconst S.1 (1 : Int32) dL_tells_6 rfl ?_
  obtain ⟨x3, M4, h9, hE⟩ := bo_some hE
  refine qo_I S (n_LL_count _ _ S.G (1 : Int32) M2 _ _ h9) fc7 wdX7_count q_655 ⟨Nat.le_of_ble_eq_true rfl, Nat.le_of_ble_eq_true rfl⟩ rfl (Nat.le_of_ble_eq_true rfl) dL_tells_7 ?_
  refine g_imul S.1 dL_tells_10 ?_
  refine g_istore_n (lv2 := [(2, .int (x1 * x3)), (0, .ref (hY X.2.1.2 + 0)), (1, .ref (hY X.2.1.2 + 281 + 0))]) S.1 dL_tells_11 (by decide) rfl ?_
  refine g_aload_n S.1 dL_tells_12 2 rfl ?_
  obtain ⟨x5, M6, h9, hE⟩ := b2_some hE
  refine qp_I S (c_LL_clearText _ (YP X.2.1.2) rfl M.2 _ _ h9) fc7 wdX7_clearText q_660 ⟨Nat.le_of_ble_eq_true rfl, Nat.le_of_ble_eq_true rfl⟩ rfl (Nat.le_of_ble_eq_true rfl) dL_tells_13 ?_
  refine g_if_lt S.1 53 dL_tells_16 (by decide) (fun c => ?_) (fun c => ?_)
  · rw [if_pos c] at hE
    exact g_sub [1, 2, 0] rfl (J53 (x1 * x3) (M4, M6) hE)
  · rw [if_neg c] at hE
    refine g_aload_n S.1 dL_tells_19 2 rfl ?_
    refine g_bipush S.1 (48 : Int32) dL_tells_20 rfl ?_
    refine g_aload_n S.1 dL_tells_22 1 rfl ?_
    refine g_iconst S.1 (0 : Int32) dL_tells_23 rfl ?_
    obtain ⟨x7, M8, h9, hE⟩ := bo_some hE
    refine qo_I S (n_LL_count _ _ S.G (0 : Int32) M4 _ _ h9) fc7 wdX7_count q_655 ⟨Nat.le_of_ble_eq_true rfl, Nat.le_of_ble_eq_true rfl⟩ rfl (Nat.le_of_ble_eq_true rfl) dL_tells_24 ?_
    refine g_iadd S.1 dL_tells_27 ?_
    obtain ⟨x9, M10, h9, hE⟩ := bo_some hE
    refine qp_I S (n_LL_append _ (YP X.2.1.2) rfl ((48 : Int32) + x7) M6 _ _ h9) fc7 wdX7_append q_650 ⟨Nat.le_of_ble_eq_true rfl, Nat.le_of_ble_eq_true rfl⟩ rfl (Nat.le_of_ble_eq_true rfl) dL_tells_28 ?_
    refine g_if_le S.1 53 dL_tells_31 (by decide) (fun c => ?_) (fun c => ?_)
    · rw [if_pos c] at hE
      exact g_sub [1, 2, 0] rfl (J53 (x1 * x3) (M8, M10) hE)
    · rw [if_neg c] at hE
      refine g_aload_n S.1 dL_tells_34 2 rfl ?_
      refine g_bipush S.1 (48 : Int32) dL_tells_35 rfl ?_
      refine g_aload_n S.1 dL_tells_37 1 rfl ?_
      refine g_iconst S.1 (1 : Int32) dL_tells_38 rfl ?_
      obtain ⟨x11, M12, h9, hE⟩ := bo_some hE
      refine qo_I S (n_LL_count _ _ S.G (1 : Int32) M8 _ _ h9) fc7 wdX7_count q_655 ⟨Nat.le_of_ble_eq_true rfl, Nat.le_of_ble_eq_true rfl⟩ rfl (Nat.le_of_ble_eq_true rfl) dL_tells_39 ?_
      refine g_iadd S.1 dL_tells_42 ?_
      obtain ⟨x13, M14, h9, hE⟩ := bo_some hE
      refine qp_I S (n_LL_append _ (YP X.2.1.2) rfl ((48 : Int32) + x11) M10 _ _ h9) fc7 wdX7_append q_650 ⟨Nat.le_of_ble_eq_true rfl, Nat.le_of_ble_eq_true rfl⟩ rfl (Nat.le_of_ble_eq_true rfl) dL_tells_43 ?_
      refine g_if_le S.1 53 dL_tells_46 (by decide) (fun c => ?_) (fun c => ?_)
      · try simp only [if_pos c] at hE
        refine g_iconst S.1 (0 : Int32) dL_tells_53 rfl ?_
        exact g_sub [1, 2, 0] rfl (J54 (x1 * x3) (0 : Int32) (M12, M14) hE)
      · try simp only [if_neg c] at hE
        refine g_iconst S.1 (1 : Int32) dL_tells_49 rfl ?_
        refine g_goto S.1 54 dL_tells_50 (by decide) ?_
        exact g_sub [1, 2, 0] rfl (J54 (x1 * x3) (1 : Int32) (M12, M14) hE)
set_option maxRecDepth 100000 in
set_option maxHeartbeats 16000000 in
theorem c_LW_areBasins (l : Launch) (Y : Env1) (hG : gY Y = gC) (b L : Nat) (xs : Nat → Int32) (M : Mem2) (r : Int32) (M1 : Mem2) (hE : LW_areBasins M = some (r, M1)) : CqI l Y b L xs yL_areBasins cL_areBasins 5 .boolean 6 [.ref (hY Y + 0), .ref (hY Y + 281 + 0)] M r M1 := by
  refine mq_Z (by decide +kernel) rfl hG (Nat.le_of_ble_eq_true rfl) (fun X S hY1 hl1 hret => ?_)
  subst hY1
  subst hl1
  show AQ X 0 [(0, .ref (hY X.2.1.2 + 0)), (1, .ref (hY X.2.1.2 + 281 + 0))] [] M
  have L47 : ∀ (v2 : Int32) (e : (Int32)) (M2 : Mem2), AQ X 153 [(3, .int e)] [] M2 → ∀ (n : Nat) (s : Int32 × Int32) (M : Mem2), lpQ (fun s M => LW_areBasins_L47 v2 s.1 s.2 M) n s M = some (e, M2) → AQ X 47 [(0, .ref (hY X.2.1.2 + 0)), (1, .ref (hY X.2.1.2 + 281 + 0)), (2, .int v2), (3, .int s.1), (4, .int s.2)] [] M := by
    intro v2 e M2 hX
    refine lpQ_ind (P := fun (s : Int32 × Int32) (M : Mem2) => AQ X 47 [(0, .ref (hY X.2.1.2 + 0)), (1, .ref (hY X.2.1.2 + 281 + 0)), (2, .int v2), (3, .int s.1), (4, .int s.2)] [] M) ?_
    rintro ⟨v3, v4⟩ M d M3 hE hC hD
    replace hE : LW_areBasins_L47 v2 v3 v4 M = some (d, M3) := hE
    show AQ X 47 [(0, .ref (hY X.2.1.2 + 0)), (1, .ref (hY X.2.1.2 + 281 + 0)), (2, .int v2), (3, .int v3), (4, .int v4)] [] M
    unfold LW_areBasins_L47 at hE
    refine g_iload S.1 dL_areBasins_47 4 rfl ?_
    refine g_iload_n S.1 dL_areBasins_49 2 rfl ?_
    refine g_icmp_ge S.1 153 dL_areBasins_50 (by decide) (fun c => ?_) (fun c => ?_)
    · rw [if_pos c] at hE
      obtain ⟨rfl, rfl⟩ := sq2 hE
      rcases hD with ⟨h1, h2⟩ | ⟨_, h1⟩
      · obtain rfl := sir h1
        subst h2
        exact g_sub [3] rfl hX
      · exact (sil h1).elim
    · rw [if_neg c] at hE
      refine g_iload_n S.1 dL_areBasins_53 3 rfl ?_
      refine g_if_eq S.1 145 dL_areBasins_54 (by decide) (fun c => ?_) (fun c => ?_)
      · rw [if_pos c] at hE
        refine g_iconst S.1 (0 : Int32) dL_areBasins_145 rfl ?_
        refine g_istore_n (lv2 := [(3, .int (0 : Int32)), (0, .ref (hY X.2.1.2 + 0)), (1, .ref (hY X.2.1.2 + 281 + 0)), (2, .int v2), (4, .int v4)]) S.1 dL_areBasins_146 (by decide) rfl ?_
        refine g_iinc (lv2 := [(4, .int (v4 + (1 : Int32))), (3, .int (0 : Int32)), (0, .ref (hY X.2.1.2 + 0)), (1, .ref (hY X.2.1.2 + 281 + 0)), (2, .int v2)]) S.1 dL_areBasins_147 (j := 4) rfl (by decide) rfl ?_
        refine g_goto S.1 47 dL_areBasins_150 (by decide) ?_
        obtain ⟨rfl, rfl⟩ := sq2 hE
        exact g_sub (lv2 := [(0, .ref (hY X.2.1.2 + 0)), (1, .ref (hY X.2.1.2 + 281 + 0)), (2, .int v2), (3, .int (0 : Int32)), (4, .int (v4 + (1 : Int32)))]) [2, 3, 4, 1, 0] rfl (hC ((0 : Int32), (v4 + (1 : Int32))) rfl)
      · rw [if_neg c] at hE
        refine g_aload_n S.1 dL_areBasins_57 0 rfl ?_
        refine g_iload S.1 dL_areBasins_58 4 rfl ?_
        refine g_iconst S.1 (0 : Int32) dL_areBasins_60 rfl ?_
        obtain ⟨x1, M2, h9, hE⟩ := bo_some hE
        refine qo_I S (n_LL_cell _ _ S.G v4 (0 : Int32) M.1 _ _ h9) fc7 wdX7_cell q_665 ⟨Nat.le_of_ble_eq_true rfl, Nat.le_of_ble_eq_true rfl⟩ rfl (Nat.le_of_ble_eq_true rfl) dL_areBasins_61 ?_
        refine g_aload_n S.1 dL_areBasins_64 1 rfl ?_
        refine g_iload S.1 dL_areBasins_65 4 rfl ?_
        refine g_iconst S.1 (0 : Int32) dL_areBasins_67 rfl ?_
        obtain ⟨x3, M4, h9, hE⟩ := bo_some hE
        refine qp_I S (n_LL_cell _ (YP X.2.1.2) rfl v4 (0 : Int32) M.2 _ _ h9) fc7 wdX7_cell q_665 ⟨Nat.le_of_ble_eq_true rfl, Nat.le_of_ble_eq_true rfl⟩ rfl (Nat.le_of_ble_eq_true rfl) dL_areBasins_68 ?_
        refine g_icmp_ne S.1 145 dL_areBasins_71 (by decide) (fun c => ?_) (fun c => ?_)
        · rw [if_pos c] at hE
          refine g_iconst S.1 (0 : Int32) dL_areBasins_145 rfl ?_
          refine g_istore_n (lv2 := [(3, .int (0 : Int32)), (0, .ref (hY X.2.1.2 + 0)), (1, .ref (hY X.2.1.2 + 281 + 0)), (2, .int v2), (4, .int v4)]) S.1 dL_areBasins_146 (by decide) rfl ?_
          refine g_iinc (lv2 := [(4, .int (v4 + (1 : Int32))), (3, .int (0 : Int32)), (0, .ref (hY X.2.1.2 + 0)), (1, .ref (hY X.2.1.2 + 281 + 0)), (2, .int v2)]) S.1 dL_areBasins_147 (j := 4) rfl (by decide) rfl ?_
          refine g_goto S.1 47 dL_areBasins_150 (by decide) ?_
          obtain ⟨rfl, rfl⟩ := sq2 hE
          exact g_sub (lv2 := [(0, .ref (hY X.2.1.2 + 0)), (1, .ref (hY X.2.1.2 + 281 + 0)), (2, .int v2), (3, .int (0 : Int32)), (4, .int (v4 + (1 : Int32)))]) [2, 3, 4, 1, 0] rfl (hC ((0 : Int32), (v4 + (1 : Int32))) rfl)
        · rw [if_neg (not_not_intro c)] at hE
          refine g_aload_n S.1 dL_areBasins_74 0 rfl ?_
          refine g_iload S.1 dL_areBasins_75 4 rfl ?_
          refine g_iconst S.1 (1 : Int32) dL_areBasins_77 rfl ?_
          obtain ⟨x5, M6, h9, hE⟩ := bo_some hE
          refine qo_I S (n_LL_cell _ _ S.G v4 (1 : Int32) M2 _ _ h9) fc7 wdX7_cell q_665 ⟨Nat.le_of_ble_eq_true rfl, Nat.le_of_ble_eq_true rfl⟩ rfl (Nat.le_of_ble_eq_true rfl) dL_areBasins_78 ?_
          refine g_aload_n S.1 dL_areBasins_81 1 rfl ?_
          refine g_iload S.1 dL_areBasins_82 4 rfl ?_
          refine g_iconst S.1 (1 : Int32) dL_areBasins_84 rfl ?_
          obtain ⟨x7, M8, h9, hE⟩ := bo_some hE
          refine qp_I S (n_LL_cell _ (YP X.2.1.2) rfl v4 (1 : Int32) M4 _ _ h9) fc7 wdX7_cell q_665 ⟨Nat.le_of_ble_eq_true rfl, Nat.le_of_ble_eq_true rfl⟩ rfl (Nat.le_of_ble_eq_true rfl) dL_areBasins_85 ?_
          refine g_icmp_ne S.1 145 dL_areBasins_88 (by decide) (fun c => ?_) (fun c => ?_)
          · rw [if_pos c] at hE
            refine g_iconst S.1 (0 : Int32) dL_areBasins_145 rfl ?_
            refine g_istore_n (lv2 := [(3, .int (0 : Int32)), (0, .ref (hY X.2.1.2 + 0)), (1, .ref (hY X.2.1.2 + 281 + 0)), (2, .int v2), (4, .int v4)]) S.1 dL_areBasins_146 (by decide) rfl ?_
            refine g_iinc (lv2 := [(4, .int (v4 + (1 : Int32))), (3, .int (0 : Int32)), (0, .ref (hY X.2.1.2 + 0)), (1, .ref (hY X.2.1.2 + 281 + 0)), (2, .int v2)]) S.1 dL_areBasins_147 (j := 4) rfl (by decide) rfl ?_
            refine g_goto S.1 47 dL_areBasins_150 (by decide) ?_
            obtain ⟨rfl, rfl⟩ := sq2 hE
            exact g_sub (lv2 := [(0, .ref (hY X.2.1.2 + 0)), (1, .ref (hY X.2.1.2 + 281 + 0)), (2, .int v2), (3, .int (0 : Int32)), (4, .int (v4 + (1 : Int32)))]) [2, 3, 4, 1, 0] rfl (hC ((0 : Int32), (v4 + (1 : Int32))) rfl)
          · rw [if_neg (not_not_intro c)] at hE
            refine g_aload_n S.1 dL_areBasins_91 0 rfl ?_
            refine g_iload S.1 dL_areBasins_92 4 rfl ?_
            refine g_iconst S.1 (2 : Int32) dL_areBasins_94 rfl ?_
            obtain ⟨x9, M10, h9, hE⟩ := bo_some hE
            refine qo_I S (n_LL_cell _ _ S.G v4 (2 : Int32) M6 _ _ h9) fc7 wdX7_cell q_665 ⟨Nat.le_of_ble_eq_true rfl, Nat.le_of_ble_eq_true rfl⟩ rfl (Nat.le_of_ble_eq_true rfl) dL_areBasins_95 ?_
            refine g_aload_n S.1 dL_areBasins_98 1 rfl ?_
            refine g_iload S.1 dL_areBasins_99 4 rfl ?_
            refine g_iconst S.1 (2 : Int32) dL_areBasins_101 rfl ?_
            obtain ⟨x11, M12, h9, hE⟩ := bo_some hE
            refine qp_I S (n_LL_cell _ (YP X.2.1.2) rfl v4 (2 : Int32) M8 _ _ h9) fc7 wdX7_cell q_665 ⟨Nat.le_of_ble_eq_true rfl, Nat.le_of_ble_eq_true rfl⟩ rfl (Nat.le_of_ble_eq_true rfl) dL_areBasins_102 ?_
            refine g_icmp_ne S.1 145 dL_areBasins_105 (by decide) (fun c => ?_) (fun c => ?_)
            · rw [if_pos c] at hE
              refine g_iconst S.1 (0 : Int32) dL_areBasins_145 rfl ?_
              refine g_istore_n (lv2 := [(3, .int (0 : Int32)), (0, .ref (hY X.2.1.2 + 0)), (1, .ref (hY X.2.1.2 + 281 + 0)), (2, .int v2), (4, .int v4)]) S.1 dL_areBasins_146 (by decide) rfl ?_
              refine g_iinc (lv2 := [(4, .int (v4 + (1 : Int32))), (3, .int (0 : Int32)), (0, .ref (hY X.2.1.2 + 0)), (1, .ref (hY X.2.1.2 + 281 + 0)), (2, .int v2)]) S.1 dL_areBasins_147 (j := 4) rfl (by decide) rfl ?_
              refine g_goto S.1 47 dL_areBasins_150 (by decide) ?_
              obtain ⟨rfl, rfl⟩ := sq2 hE
              exact g_sub (lv2 := [(0, .ref (hY X.2.1.2 + 0)), (1, .ref (hY X.2.1.2 + 281 + 0)), (2, .int v2), (3, .int (0 : Int32)), (4, .int (v4 + (1 : Int32)))]) [2, 3, 4, 1, 0] rfl (hC ((0 : Int32), (v4 + (1 : Int32))) rfl)
            · rw [if_neg (not_not_intro c)] at hE
              refine g_aload_n S.1 dL_areBasins_108 0 rfl ?_
              refine g_iload S.1 dL_areBasins_109 4 rfl ?_
              refine g_iconst S.1 (5 : Int32) dL_areBasins_111 rfl ?_
              obtain ⟨x13, M14, h9, hE⟩ := bo_some hE
              refine qo_I S (n_LL_cell _ _ S.G v4 (5 : Int32) M10 _ _ h9) fc7 wdX7_cell q_665 ⟨Nat.le_of_ble_eq_true rfl, Nat.le_of_ble_eq_true rfl⟩ rfl (Nat.le_of_ble_eq_true rfl) dL_areBasins_112 ?_
              refine g_aload_n S.1 dL_areBasins_115 1 rfl ?_
              refine g_iload S.1 dL_areBasins_116 4 rfl ?_
              refine g_iconst S.1 (5 : Int32) dL_areBasins_118 rfl ?_
              obtain ⟨x15, M16, h9, hE⟩ := bo_some hE
              refine qp_I S (n_LL_cell _ (YP X.2.1.2) rfl v4 (5 : Int32) M12 _ _ h9) fc7 wdX7_cell q_665 ⟨Nat.le_of_ble_eq_true rfl, Nat.le_of_ble_eq_true rfl⟩ rfl (Nat.le_of_ble_eq_true rfl) dL_areBasins_119 ?_
              refine g_icmp_ne S.1 145 dL_areBasins_122 (by decide) (fun c => ?_) (fun c => ?_)
              · rw [if_pos c] at hE
                refine g_iconst S.1 (0 : Int32) dL_areBasins_145 rfl ?_
                refine g_istore_n (lv2 := [(3, .int (0 : Int32)), (0, .ref (hY X.2.1.2 + 0)), (1, .ref (hY X.2.1.2 + 281 + 0)), (2, .int v2), (4, .int v4)]) S.1 dL_areBasins_146 (by decide) rfl ?_
                refine g_iinc (lv2 := [(4, .int (v4 + (1 : Int32))), (3, .int (0 : Int32)), (0, .ref (hY X.2.1.2 + 0)), (1, .ref (hY X.2.1.2 + 281 + 0)), (2, .int v2)]) S.1 dL_areBasins_147 (j := 4) rfl (by decide) rfl ?_
                refine g_goto S.1 47 dL_areBasins_150 (by decide) ?_
                obtain ⟨rfl, rfl⟩ := sq2 hE
                exact g_sub (lv2 := [(0, .ref (hY X.2.1.2 + 0)), (1, .ref (hY X.2.1.2 + 281 + 0)), (2, .int v2), (3, .int (0 : Int32)), (4, .int (v4 + (1 : Int32)))]) [2, 3, 4, 1, 0] rfl (hC ((0 : Int32), (v4 + (1 : Int32))) rfl)
              · rw [if_neg (not_not_intro c)] at hE
                refine g_aload_n S.1 dL_areBasins_125 0 rfl ?_
                refine g_iload S.1 dL_areBasins_126 4 rfl ?_
                obtain ⟨x17, M18, h9, hE⟩ := bo_some hE
                refine qo_L S (n_LL_course _ _ S.G v4 M14 _ _ h9) fc7 wdX7_course q_674 ⟨Nat.le_of_ble_eq_true rfl, Nat.le_of_ble_eq_true rfl⟩ rfl (Nat.le_of_ble_eq_true rfl) dL_areBasins_128 ?_
                refine g_aload_n S.1 dL_areBasins_131 1 rfl ?_
                refine g_iload S.1 dL_areBasins_132 4 rfl ?_
                obtain ⟨x19, M20, h9, hE⟩ := bo_some hE
                refine qp_L S (n_LL_course _ (YP X.2.1.2) rfl v4 M16 _ _ h9) fc7 wdX7_course q_674 ⟨Nat.le_of_ble_eq_true rfl, Nat.le_of_ble_eq_true rfl⟩ rfl (Nat.le_of_ble_eq_true rfl) dL_areBasins_134 ?_
                refine g_lcmp_ne S.1 145 dL_areBasins_137 dL_areBasins_138 (by decide) (fun c => ?_) (fun c => ?_)
                · rw [if_pos c] at hE
                  refine g_iconst S.1 (0 : Int32) dL_areBasins_145 rfl ?_
                  refine g_istore_n (lv2 := [(3, .int (0 : Int32)), (0, .ref (hY X.2.1.2 + 0)), (1, .ref (hY X.2.1.2 + 281 + 0)), (2, .int v2), (4, .int v4)]) S.1 dL_areBasins_146 (by decide) rfl ?_
                  refine g_iinc (lv2 := [(4, .int (v4 + (1 : Int32))), (3, .int (0 : Int32)), (0, .ref (hY X.2.1.2 + 0)), (1, .ref (hY X.2.1.2 + 281 + 0)), (2, .int v2)]) S.1 dL_areBasins_147 (j := 4) rfl (by decide) rfl ?_
                  refine g_goto S.1 47 dL_areBasins_150 (by decide) ?_
                  obtain ⟨rfl, rfl⟩ := sq2 hE
                  exact g_sub (lv2 := [(0, .ref (hY X.2.1.2 + 0)), (1, .ref (hY X.2.1.2 + 281 + 0)), (2, .int v2), (3, .int (0 : Int32)), (4, .int (v4 + (1 : Int32)))]) [2, 3, 4, 1, 0] rfl (hC ((0 : Int32), (v4 + (1 : Int32))) rfl)
                · rw [if_neg (not_not_intro c)] at hE
                  refine g_iconst S.1 (1 : Int32) dL_areBasins_141 rfl ?_
                  refine g_goto S.1 146 dL_areBasins_142 (by decide) ?_
                  refine g_istore_n (lv2 := [(3, .int (1 : Int32)), (0, .ref (hY X.2.1.2 + 0)), (1, .ref (hY X.2.1.2 + 281 + 0)), (2, .int v2), (4, .int v4)]) S.1 dL_areBasins_146 (by decide) rfl ?_
                  refine g_iinc (lv2 := [(4, .int (v4 + (1 : Int32))), (3, .int (1 : Int32)), (0, .ref (hY X.2.1.2 + 0)), (1, .ref (hY X.2.1.2 + 281 + 0)), (2, .int v2)]) S.1 dL_areBasins_147 (j := 4) rfl (by decide) rfl ?_
                  refine g_goto S.1 47 dL_areBasins_150 (by decide) ?_
                  obtain ⟨rfl, rfl⟩ := sq2 hE
                  exact g_sub (lv2 := [(0, .ref (hY X.2.1.2 + 0)), (1, .ref (hY X.2.1.2 + 281 + 0)), (2, .int v2), (3, .int (1 : Int32)), (4, .int (v4 + (1 : Int32)))]) [2, 3, 4, 1, 0] rfl (hC ((1 : Int32), (v4 + (1 : Int32))) rfl)
  have J43 : ∀ (v2 : Int32) (t0 : Int32) (M : Mem2), LW_areBasins_J43 v2 t0 M = some (r, M1) → AQ X 43 [(0, .ref (hY X.2.1.2 + 0)), (1, .ref (hY X.2.1.2 + 281 + 0)), (2, .int v2)] [.int t0] M := by
    intro v2 t0 M hE
    unfold LW_areBasins_J43 at hE
    refine g_istore_n (lv2 := [(3, .int t0), (0, .ref (hY X.2.1.2 + 0)), (1, .ref (hY X.2.1.2 + 281 + 0)), (2, .int v2)]) S.1 dL_areBasins_43 (by decide) rfl ?_
    refine g_iconst S.1 (0 : Int32) dL_areBasins_44 rfl ?_
    refine g_istore (lv2 := [(4, .int (0 : Int32)), (3, .int t0), (0, .ref (hY X.2.1.2 + 0)), (1, .ref (hY X.2.1.2 + 281 + 0)), (2, .int v2)]) S.1 dL_areBasins_45 (by decide) rfl ?_
    obtain ⟨e1, M2, h9, hE⟩ := bq_some hE
    refine g_sub [2, 3, 4, 1, 0] rfl (L47 v2  e1 M2 ?_ _ _ M h9)
    refine g_iload_n S.1 dL_areBasins_153 0 rfl ?_
    obtain ⟨rfl, rfl⟩ := sq2 hE
    exact hret _ _ _ dL_areBasins_154 rfl
  have J42 : ∀ (v2 : Int32) (M : Mem2), LW_areBasins_J42 v2 M = some (r, M1) → AQ X 42 [(0, .ref (hY X.2.1.2 + 0)), (1, .ref (hY X.2.1.2 + 281 + 0)), (2, .int v2)] [] M := by
    intro v2 M hE
    unfold LW_areBasins_J42 at hE
    refine g_iconst S.1 (0 : Int32) dL_areBasins_42 rfl ?_
    exact g_sub [0, 1, 2] rfl (J43 v2 (0 : Int32) M hE)
  unfold LW_areBasins at hE
  refine g_aload_n S.1 dL_areBasins_0 0 rfl ?_
  refine g_iconst S.1 (0 : Int32) dL_areBasins_1 rfl ?_
  obtain ⟨x1, M2, h9, hE⟩ := bo_some hE
  refine qo_I S (n_LL_count _ _ S.G (0 : Int32) M.1 _ _ h9) fc7 wdX7_count q_655 ⟨Nat.le_of_ble_eq_true rfl, Nat.le_of_ble_eq_true rfl⟩ rfl (Nat.le_of_ble_eq_true rfl) dL_areBasins_2 ?_
  refine g_aload_n S.1 dL_areBasins_5 0 rfl ?_
  refine g_iconst S.1 (1 : Int32) dL_areBasins_6 rfl ?_
  obtain ⟨x3, M4, h9, hE⟩ := bo_some hE
  refine qo_I S (n_LL_count _ _ S.G (1 : Int32) M2 _ _ h9) fc7 wdX7_count q_655 ⟨Nat.le_of_ble_eq_true rfl, Nat.le_of_ble_eq_true rfl⟩ rfl (Nat.le_of_ble_eq_true rfl) dL_areBasins_7 ?_
  refine g_imul S.1 dL_areBasins_10 ?_
  refine g_istore_n (lv2 := [(2, .int (x1 * x3)), (0, .ref (hY X.2.1.2 + 0)), (1, .ref (hY X.2.1.2 + 281 + 0))]) S.1 dL_areBasins_11 (by decide) rfl ?_
  refine g_aload_n S.1 dL_areBasins_12 1 rfl ?_
  refine g_iconst S.1 (2 : Int32) dL_areBasins_13 rfl ?_
  obtain ⟨x5, M6, h9, hE⟩ := bo_some hE
  refine qo_I S (n_LL_count _ _ S.G (2 : Int32) M4 _ _ h9) fc7 wdX7_count q_655 ⟨Nat.le_of_ble_eq_true rfl, Nat.le_of_ble_eq_true rfl⟩ rfl (Nat.le_of_ble_eq_true rfl) dL_areBasins_14 ?_
  refine g_aload_n S.1 dL_areBasins_17 2 rfl ?_
  refine g_iconst S.1 (2 : Int32) dL_areBasins_18 rfl ?_
  obtain ⟨x7, M8, h9, hE⟩ := bo_some hE
  refine qp_I S (n_LL_count _ (YP X.2.1.2) rfl (2 : Int32) M.2 _ _ h9) fc7 wdX7_count q_655 ⟨Nat.le_of_ble_eq_true rfl, Nat.le_of_ble_eq_true rfl⟩ rfl (Nat.le_of_ble_eq_true rfl) dL_areBasins_19 ?_
  refine g_icmp_ne S.1 42 dL_areBasins_22 (by decide) (fun c => ?_) (fun c => ?_)
  · rw [if_pos c] at hE
    exact g_sub [1, 2, 0] rfl (J42 (x1 * x3) (M6, M8) hE)
  · rw [if_neg (not_not_intro c)] at hE
    refine g_aload_n S.1 dL_areBasins_25 1 rfl ?_
    refine g_iconst S.1 (5 : Int32) dL_areBasins_26 rfl ?_
    obtain ⟨x9, M10, h9, hE⟩ := bo_some hE
    refine qo_I S (n_LL_count _ _ S.G (5 : Int32) M6 _ _ h9) fc7 wdX7_count q_655 ⟨Nat.le_of_ble_eq_true rfl, Nat.le_of_ble_eq_true rfl⟩ rfl (Nat.le_of_ble_eq_true rfl) dL_areBasins_27 ?_
    refine g_aload_n S.1 dL_areBasins_30 2 rfl ?_
    refine g_iconst S.1 (5 : Int32) dL_areBasins_31 rfl ?_
    obtain ⟨x11, M12, h9, hE⟩ := bo_some hE
    refine qp_I S (n_LL_count _ (YP X.2.1.2) rfl (5 : Int32) M8 _ _ h9) fc7 wdX7_count q_655 ⟨Nat.le_of_ble_eq_true rfl, Nat.le_of_ble_eq_true rfl⟩ rfl (Nat.le_of_ble_eq_true rfl) dL_areBasins_32 ?_
    refine g_icmp_ne S.1 42 dL_areBasins_35 (by decide) (fun c => ?_) (fun c => ?_)
    · try simp only [if_pos c] at hE
      refine g_iconst S.1 (0 : Int32) dL_areBasins_42 rfl ?_
      exact g_sub [1, 2, 0] rfl (J43 (x1 * x3) (0 : Int32) (M10, M12) hE)
    · try simp only [if_neg (not_not_intro c)] at hE
      refine g_iconst S.1 (1 : Int32) dL_areBasins_38 rfl ?_
      refine g_goto S.1 43 dL_areBasins_39 (by decide) ?_
      exact g_sub [1, 2, 0] rfl (J43 (x1 * x3) (1 : Int32) (M10, M12) hE)
set_option maxRecDepth 100000 in
set_option maxHeartbeats 16000000 in
theorem c_LW_isSound (l : Launch) (Y : Env1) (hG : gY Y = gC) (b L : Nat) (xs : Nat → Int32) (M : Mem2) (r : Int32) (M1 : Mem2) (hE : LW_isSound M = some (r, M1)) : CqI l Y b L xs yL_isSound cL_isSound 10 .boolean 6 [.ref (hY Y + 0)] M r M1 := by
  refine mq_Z (by decide +kernel) rfl hG (Nat.le_of_ble_eq_true rfl) (fun X S hY1 hl1 hret => ?_)
  subst hY1
  subst hl1
  show AQ X 0 [(0, .ref (hY X.2.1.2 + 0))] [] M
  have L123 : ∀ (v1 : Int32) (v3 : Int32) (v4 : Int64) (e : (Int32 × Int32 × Int32)) (M2 : Mem2), AQ X 257 [(0, .ref (hY X.2.1.2 + 0)), (1, .int v1), (2, .int e.1), (3, .int v3), (4, .long v4), (6, .int e.2.1), (7, .int e.2.2)] [] M2 → ∀ (n : Nat) (s : Int32 × Int32 × Int32 × Int32) (M : Mem2), lpQ (fun s M => LW_isSound_L123 v1 v3 v4 s.1 s.2.1 s.2.2.1 s.2.2.2 M) n s M = some (e, M2) → AQ X 123 [(0, .ref (hY X.2.1.2 + 0)), (1, .int v1), (2, .int s.1), (3, .int v3), (4, .long v4), (6, .int s.2.1), (7, .int s.2.2.1), (8, .int s.2.2.2)] [] M := by
    intro v1 v3 v4 e M2 hX
    refine lpQ_ind (P := fun (s : Int32 × Int32 × Int32 × Int32) (M : Mem2) => AQ X 123 [(0, .ref (hY X.2.1.2 + 0)), (1, .int v1), (2, .int s.1), (3, .int v3), (4, .long v4), (6, .int s.2.1), (7, .int s.2.2.1), (8, .int s.2.2.2)] [] M) ?_
    rintro ⟨v2, v6, v7, v8⟩ M d M3 hE hC hD
    replace hE : LW_isSound_L123 v1 v3 v4 v2 v6 v7 v8 M = some (d, M3) := hE
    show AQ X 123 [(0, .ref (hY X.2.1.2 + 0)), (1, .int v1), (2, .int v2), (3, .int v3), (4, .long v4), (6, .int v6), (7, .int v7), (8, .int v8)] [] M
    have J202 : ∀ (v2 : Int32) (v6 : Int32) (v8 : Int32) (v9 : Int32) (t0 : Int32) (M : Mem2), LW_isSound_L123_J202 v1 v2 v3 v4 v6 v8 v9 t0 M = some (d, M3) → AQ X 202 [(0, .ref (hY X.2.1.2 + 0)), (1, .int v1), (2, .int v2), (3, .int v3), (4, .long v4), (6, .int v6), (8, .int v8), (9, .int v9)] [.int t0] M := by
      intro v2 v6 v8 v9 t0 M hE
      unfold LW_isSound_L123_J202 at hE
      refine g_istore (lv2 := [(7, .int t0), (0, .ref (hY X.2.1.2 + 0)), (1, .int v1), (2, .int v2), (3, .int v3), (4, .long v4), (6, .int v6), (8, .int v8), (9, .int v9)]) S.1 dL_isSound_202 (by decide) rfl ?_
      refine g_iload_n S.1 dL_isSound_204 3 rfl ?_
      refine g_if_eq S.1 249 dL_isSound_205 (by decide) (fun c => ?_) (fun c => ?_)
      · rw [if_pos c] at hE
        refine g_iconst S.1 (0 : Int32) dL_isSound_249 rfl ?_
        refine g_istore_n (lv2 := [(2, .int (0 : Int32)), (7, .int t0), (0, .ref (hY X.2.1.2 + 0)), (1, .int v1), (3, .int v3), (4, .long v4), (6, .int v6), (8, .int v8), (9, .int v9)]) S.1 dL_isSound_250 (by decide) rfl ?_
        refine g_iinc (lv2 := [(8, .int (v8 + (1 : Int32))), (2, .int (0 : Int32)), (7, .int t0), (0, .ref (hY X.2.1.2 + 0)), (1, .int v1), (3, .int v3), (4, .long v4), (6, .int v6), (9, .int v9)]) S.1 dL_isSound_251 (j := 7) rfl (by decide) rfl ?_
        refine g_goto S.1 123 dL_isSound_254 (by decide) ?_
        obtain ⟨rfl, rfl⟩ := sq2 hE
        exact g_sub (lv2 := [(0, .ref (hY X.2.1.2 + 0)), (1, .int v1), (2, .int (0 : Int32)), (3, .int v3), (4, .long v4), (6, .int v6), (7, .int t0), (8, .int (v8 + (1 : Int32)))]) [3, 4, 1, 5, 6, 7, 2, 0] rfl (hC ((0 : Int32), v6, t0, (v8 + (1 : Int32))) rfl)
      · rw [if_neg c] at hE
        refine g_iload S.1 dL_isSound_208 8 rfl ?_
        refine g_if_eq S.1 245 dL_isSound_210 (by decide) (fun c => ?_) (fun c => ?_)
        · rw [if_pos c] at hE
          refine g_iconst S.1 (1 : Int32) dL_isSound_245 rfl ?_
          refine g_goto S.1 250 dL_isSound_246 (by decide) ?_
          refine g_istore_n (lv2 := [(2, .int (1 : Int32)), (7, .int t0), (0, .ref (hY X.2.1.2 + 0)), (1, .int v1), (3, .int v3), (4, .long v4), (6, .int v6), (8, .int v8), (9, .int v9)]) S.1 dL_isSound_250 (by decide) rfl ?_
          refine g_iinc (lv2 := [(8, .int (v8 + (1 : Int32))), (2, .int (1 : Int32)), (7, .int t0), (0, .ref (hY X.2.1.2 + 0)), (1, .int v1), (3, .int v3), (4, .long v4), (6, .int v6), (9, .int v9)]) S.1 dL_isSound_251 (j := 7) rfl (by decide) rfl ?_
          refine g_goto S.1 123 dL_isSound_254 (by decide) ?_
          obtain ⟨rfl, rfl⟩ := sq2 hE
          exact g_sub (lv2 := [(0, .ref (hY X.2.1.2 + 0)), (1, .int v1), (2, .int (1 : Int32)), (3, .int v3), (4, .long v4), (6, .int v6), (7, .int t0), (8, .int (v8 + (1 : Int32)))]) [3, 4, 1, 5, 6, 7, 2, 0] rfl (hC ((1 : Int32), v6, t0, (v8 + (1 : Int32))) rfl)
        · rw [if_neg c] at hE
          refine g_aload_n S.1 dL_isSound_213 1 rfl ?_
          refine g_iload S.1 dL_isSound_214 7 rfl ?_
          refine g_iconst S.1 (0 : Int32) dL_isSound_216 rfl ?_
          obtain ⟨x1, M2, h9, hE⟩ := bo_some hE
          refine qo_I S (n_LL_cell _ _ S.G v8 (0 : Int32) M.1 _ _ h9) fc7 wdX7_cell q_665 ⟨Nat.le_of_ble_eq_true rfl, Nat.le_of_ble_eq_true rfl⟩ rfl (Nat.le_of_ble_eq_true rfl) dL_isSound_217 ?_
          refine g_aload_n S.1 dL_isSound_220 1 rfl ?_
          refine g_iload_n S.1 dL_isSound_221 4 rfl ?_
          refine g_iconst S.1 (0 : Int32) dL_isSound_222 rfl ?_
          obtain ⟨x3, M4, h9, hE⟩ := bo_some hE
          refine qo_I S (n_LL_cell _ _ S.G v3 (0 : Int32) M2 _ _ h9) fc7 wdX7_cell q_665 ⟨Nat.le_of_ble_eq_true rfl, Nat.le_of_ble_eq_true rfl⟩ rfl (Nat.le_of_ble_eq_true rfl) dL_isSound_223 ?_
          refine g_icmp_gt S.1 249 dL_isSound_226 (by decide) (fun c => ?_) (fun c => ?_)
          · rw [if_pos c] at hE
            refine g_iconst S.1 (0 : Int32) dL_isSound_249 rfl ?_
            refine g_istore_n (lv2 := [(2, .int (0 : Int32)), (7, .int t0), (0, .ref (hY X.2.1.2 + 0)), (1, .int v1), (3, .int v3), (4, .long v4), (6, .int v6), (8, .int v8), (9, .int v9)]) S.1 dL_isSound_250 (by decide) rfl ?_
            refine g_iinc (lv2 := [(8, .int (v8 + (1 : Int32))), (2, .int (0 : Int32)), (7, .int t0), (0, .ref (hY X.2.1.2 + 0)), (1, .int v1), (3, .int v3), (4, .long v4), (6, .int v6), (9, .int v9)]) S.1 dL_isSound_251 (j := 7) rfl (by decide) rfl ?_
            refine g_goto S.1 123 dL_isSound_254 (by decide) ?_
            obtain ⟨rfl, rfl⟩ := sq2 hE
            exact g_sub (lv2 := [(0, .ref (hY X.2.1.2 + 0)), (1, .int v1), (2, .int (0 : Int32)), (3, .int v3), (4, .long v4), (6, .int v6), (7, .int t0), (8, .int (v8 + (1 : Int32)))]) [3, 4, 1, 5, 6, 7, 2, 0] rfl (hC ((0 : Int32), v6, t0, (v8 + (1 : Int32))) rfl)
          · rw [if_neg c] at hE
            refine g_aload_n S.1 dL_isSound_229 1 rfl ?_
            refine g_iload S.1 dL_isSound_230 7 rfl ?_
            refine g_iconst S.1 (2 : Int32) dL_isSound_232 rfl ?_
            obtain ⟨x5, M6, h9, hE⟩ := bo_some hE
            refine qo_I S (n_LL_cell _ _ S.G v8 (2 : Int32) M4 _ _ h9) fc7 wdX7_cell q_665 ⟨Nat.le_of_ble_eq_true rfl, Nat.le_of_ble_eq_true rfl⟩ rfl (Nat.le_of_ble_eq_true rfl) dL_isSound_233 ?_
            refine g_aload_n S.1 dL_isSound_236 1 rfl ?_
            refine g_iload_n S.1 dL_isSound_237 4 rfl ?_
            refine g_iconst S.1 (2 : Int32) dL_isSound_238 rfl ?_
            obtain ⟨x7, M8, h9, hE⟩ := bo_some hE
            refine qo_I S (n_LL_cell _ _ S.G v3 (2 : Int32) M6 _ _ h9) fc7 wdX7_cell q_665 ⟨Nat.le_of_ble_eq_true rfl, Nat.le_of_ble_eq_true rfl⟩ rfl (Nat.le_of_ble_eq_true rfl) dL_isSound_239 ?_
            refine g_icmp_ne S.1 249 dL_isSound_242 (by decide) (fun c => ?_) (fun c => ?_)
            · try simp only [if_pos c] at hE
              refine g_iconst S.1 (0 : Int32) dL_isSound_249 rfl ?_
              refine g_istore_n (lv2 := [(2, .int (0 : Int32)), (7, .int t0), (0, .ref (hY X.2.1.2 + 0)), (1, .int v1), (3, .int v3), (4, .long v4), (6, .int v6), (8, .int v8), (9, .int v9)]) S.1 dL_isSound_250 (by decide) rfl ?_
              refine g_iinc (lv2 := [(8, .int (v8 + (1 : Int32))), (2, .int (0 : Int32)), (7, .int t0), (0, .ref (hY X.2.1.2 + 0)), (1, .int v1), (3, .int v3), (4, .long v4), (6, .int v6), (9, .int v9)]) S.1 dL_isSound_251 (j := 7) rfl (by decide) rfl ?_
              refine g_goto S.1 123 dL_isSound_254 (by decide) ?_
              obtain ⟨rfl, rfl⟩ := sq2 hE
              exact g_sub (lv2 := [(0, .ref (hY X.2.1.2 + 0)), (1, .int v1), (2, .int (0 : Int32)), (3, .int v3), (4, .long v4), (6, .int v6), (7, .int t0), (8, .int (v8 + (1 : Int32)))]) [3, 4, 1, 5, 6, 7, 2, 0] rfl (hC ((0 : Int32), v6, t0, (v8 + (1 : Int32))) rfl)
            · try simp only [if_neg (not_not_intro c)] at hE
              refine g_iconst S.1 (1 : Int32) dL_isSound_245 rfl ?_
              refine g_goto S.1 250 dL_isSound_246 (by decide) ?_
              refine g_istore_n (lv2 := [(2, .int (1 : Int32)), (7, .int t0), (0, .ref (hY X.2.1.2 + 0)), (1, .int v1), (3, .int v3), (4, .long v4), (6, .int v6), (8, .int v8), (9, .int v9)]) S.1 dL_isSound_250 (by decide) rfl ?_
              refine g_iinc (lv2 := [(8, .int (v8 + (1 : Int32))), (2, .int (1 : Int32)), (7, .int t0), (0, .ref (hY X.2.1.2 + 0)), (1, .int v1), (3, .int v3), (4, .long v4), (6, .int v6), (9, .int v9)]) S.1 dL_isSound_251 (j := 7) rfl (by decide) rfl ?_
              refine g_goto S.1 123 dL_isSound_254 (by decide) ?_
              obtain ⟨rfl, rfl⟩ := sq2 hE
              exact g_sub (lv2 := [(0, .ref (hY X.2.1.2 + 0)), (1, .int v1), (2, .int (1 : Int32)), (3, .int v3), (4, .long v4), (6, .int v6), (7, .int t0), (8, .int (v8 + (1 : Int32)))]) [3, 4, 1, 5, 6, 7, 2, 0] rfl (hC ((1 : Int32), v6, t0, (v8 + (1 : Int32))) rfl)
    have J201 : ∀ (v2 : Int32) (v6 : Int32) (v8 : Int32) (v9 : Int32) (M : Mem2), LW_isSound_L123_J201 v1 v2 v3 v4 v6 v8 v9 M = some (d, M3) → AQ X 201 [(0, .ref (hY X.2.1.2 + 0)), (1, .int v1), (2, .int v2), (3, .int v3), (4, .long v4), (6, .int v6), (8, .int v8), (9, .int v9)] [] M := by
      intro v2 v6 v8 v9 M hE
      unfold LW_isSound_L123_J201 at hE
      refine g_iconst S.1 (0 : Int32) dL_isSound_201 rfl ?_
      exact g_sub [0, 1, 2, 3, 4, 5, 6, 7] rfl (J202 v2 v6 v8 v9 (0 : Int32) M hE)
    have J197 : ∀ (v2 : Int32) (v6 : Int32) (v8 : Int32) (v9 : Int32) (M : Mem2), LW_isSound_L123_J197 v1 v2 v3 v4 v6 v8 v9 M = some (d, M3) → AQ X 197 [(0, .ref (hY X.2.1.2 + 0)), (1, .int v1), (2, .int v2), (3, .int v3), (4, .long v4), (6, .int v6), (8, .int v8), (9, .int v9)] [] M := by
      intro v2 v6 v8 v9 M hE
      unfold LW_isSound_L123_J197 at hE
      refine g_iconst S.1 (1 : Int32) dL_isSound_197 rfl ?_
      refine g_goto S.1 202 dL_isSound_198 (by decide) ?_
      exact g_sub [0, 1, 2, 3, 4, 5, 6, 7] rfl (J202 v2 v6 v8 v9 (1 : Int32) M hE)
    have J174 : ∀ (v2 : Int32) (v7 : Int32) (v8 : Int32) (v9 : Int32) (t0 : Int32) (M : Mem2), LW_isSound_L123_J174 v1 v2 v3 v4 v7 v8 v9 t0 M = some (d, M3) → AQ X 174 [(0, .ref (hY X.2.1.2 + 0)), (1, .int v1), (2, .int v2), (3, .int v3), (4, .long v4), (7, .int v7), (8, .int v8), (9, .int v9)] [.int t0] M := by
      intro v2 v7 v8 v9 t0 M hE
      unfold LW_isSound_L123_J174 at hE
      refine g_istore (lv2 := [(6, .int t0), (0, .ref (hY X.2.1.2 + 0)), (1, .int v1), (2, .int v2), (3, .int v3), (4, .long v4), (7, .int v7), (8, .int v8), (9, .int v9)]) S.1 dL_isSound_174 (by decide) rfl ?_
      refine g_iload S.1 dL_isSound_176 6 rfl ?_
      refine g_if_ne S.1 197 dL_isSound_178 (by decide) (fun c => ?_) (fun c => ?_)
      · rw [if_pos c] at hE
        exact g_sub [1, 2, 3, 4, 5, 0, 7, 8] rfl (J197 v2 t0 v8 v9 M hE)
      · rw [if_neg (not_not_intro c)] at hE
        refine g_iload S.1 dL_isSound_181 8 rfl ?_
        refine g_if_eq S.1 201 dL_isSound_183 (by decide) (fun c => ?_) (fun c => ?_)
        · rw [if_pos c] at hE
          exact g_sub [1, 2, 3, 4, 5, 0, 7, 8] rfl (J201 v2 t0 v8 v9 M hE)
        · rw [if_neg c] at hE
          refine g_aload_n S.1 dL_isSound_186 1 rfl ?_
          refine g_iload S.1 dL_isSound_187 7 rfl ?_
          refine g_iconst S.1 (1 : Int32) dL_isSound_189 rfl ?_
          obtain ⟨x1, M2, h9, hE⟩ := bo_some hE
          refine qo_I S (n_LL_cell _ _ S.G v8 (1 : Int32) M.1 _ _ h9) fc7 wdX7_cell q_665 ⟨Nat.le_of_ble_eq_true rfl, Nat.le_of_ble_eq_true rfl⟩ rfl (Nat.le_of_ble_eq_true rfl) dL_isSound_190 ?_
          refine g_iconst S.1 (1 : Int32) dL_isSound_193 rfl ?_
          refine g_icmp_ne S.1 201 dL_isSound_194 (by decide) (fun c => ?_) (fun c => ?_)
          · try simp only [if_pos c] at hE
            refine g_iconst S.1 (0 : Int32) dL_isSound_201 rfl ?_
            exact g_sub [1, 2, 3, 4, 5, 0, 7, 8] rfl (J202 v2 t0 v8 v9 (0 : Int32) (M2, M.2) hE)
          · try simp only [if_neg (not_not_intro c)] at hE
            refine g_iconst S.1 (1 : Int32) dL_isSound_197 rfl ?_
            refine g_goto S.1 202 dL_isSound_198 (by decide) ?_
            exact g_sub [1, 2, 3, 4, 5, 0, 7, 8] rfl (J202 v2 t0 v8 v9 (1 : Int32) (M2, M.2) hE)
    have J173 : ∀ (v2 : Int32) (v7 : Int32) (v8 : Int32) (v9 : Int32) (M : Mem2), LW_isSound_L123_J173 v1 v2 v3 v4 v7 v8 v9 M = some (d, M3) → AQ X 173 [(0, .ref (hY X.2.1.2 + 0)), (1, .int v1), (2, .int v2), (3, .int v3), (4, .long v4), (7, .int v7), (8, .int v8), (9, .int v9)] [] M := by
      intro v2 v7 v8 v9 M hE
      unfold LW_isSound_L123_J173 at hE
      refine g_iconst S.1 (0 : Int32) dL_isSound_173 rfl ?_
      exact g_sub [0, 1, 2, 3, 4, 5, 6, 7] rfl (J174 v2 v7 v8 v9 (0 : Int32) M hE)
    have J169 : ∀ (v2 : Int32) (v7 : Int32) (v8 : Int32) (v9 : Int32) (M : Mem2), LW_isSound_L123_J169 v1 v2 v3 v4 v7 v8 v9 M = some (d, M3) → AQ X 169 [(0, .ref (hY X.2.1.2 + 0)), (1, .int v1), (2, .int v2), (3, .int v3), (4, .long v4), (7, .int v7), (8, .int v8), (9, .int v9)] [] M := by
      intro v2 v7 v8 v9 M hE
      unfold LW_isSound_L123_J169 at hE
      refine g_iconst S.1 (1 : Int32) dL_isSound_169 rfl ?_
      refine g_goto S.1 174 dL_isSound_170 (by decide) ?_
      exact g_sub [0, 1, 2, 3, 4, 5, 6, 7] rfl (J174 v2 v7 v8 v9 (1 : Int32) M hE)
    have J146 : ∀ (v2 : Int32) (v6 : Int32) (v7 : Int32) (v8 : Int32) (t0 : Int32) (M : Mem2), LW_isSound_L123_J146 v1 v2 v3 v4 v6 v7 v8 t0 M = some (d, M3) → AQ X 146 [(0, .ref (hY X.2.1.2 + 0)), (1, .int v1), (2, .int v2), (3, .int v3), (4, .long v4), (6, .int v6), (7, .int v7), (8, .int v8)] [.int t0] M := by
      intro v2 v6 v7 v8 t0 M hE
      unfold LW_isSound_L123_J146 at hE
      refine g_istore (lv2 := [(9, .int t0), (0, .ref (hY X.2.1.2 + 0)), (1, .int v1), (2, .int v2), (3, .int v3), (4, .long v4), (6, .int v6), (7, .int v7), (8, .int v8)]) S.1 dL_isSound_146 (by decide) rfl ?_
      refine g_iload S.1 dL_isSound_148 6 rfl ?_
      refine g_if_ne S.1 169 dL_isSound_150 (by decide) (fun c => ?_) (fun c => ?_)
      · rw [if_pos c] at hE
        exact g_sub [1, 2, 3, 4, 5, 7, 8, 0] rfl (J169 v2 v7 v8 t0 M hE)
      · rw [if_neg (not_not_intro c)] at hE
        refine g_iload S.1 dL_isSound_153 0 rfl ?_
        refine g_if_eq S.1 173 dL_isSound_155 (by decide) (fun c => ?_) (fun c => ?_)
        · rw [if_pos c] at hE
          exact g_sub [1, 2, 3, 4, 5, 7, 8, 0] rfl (J173 v2 v7 v8 t0 M hE)
        · rw [if_neg c] at hE
          refine g_aload_n S.1 dL_isSound_158 1 rfl ?_
          refine g_iload S.1 dL_isSound_159 8 rfl ?_
          refine g_iconst S.1 (5 : Int32) dL_isSound_161 rfl ?_
          obtain ⟨x1, M2, h9, hE⟩ := bo_some hE
          refine qo_I S (n_LL_cell _ _ S.G v8 (5 : Int32) M.1 _ _ h9) fc7 wdX7_cell q_665 ⟨Nat.le_of_ble_eq_true rfl, Nat.le_of_ble_eq_true rfl⟩ rfl (Nat.le_of_ble_eq_true rfl) dL_isSound_162 ?_
          refine g_iconst S.1 (1 : Int32) dL_isSound_165 rfl ?_
          refine g_icmp_ne S.1 173 dL_isSound_166 (by decide) (fun c => ?_) (fun c => ?_)
          · try simp only [if_pos c] at hE
            refine g_iconst S.1 (0 : Int32) dL_isSound_173 rfl ?_
            exact g_sub [1, 2, 3, 4, 5, 7, 8, 0] rfl (J174 v2 v7 v8 t0 (0 : Int32) (M2, M.2) hE)
          · try simp only [if_neg (not_not_intro c)] at hE
            refine g_iconst S.1 (1 : Int32) dL_isSound_169 rfl ?_
            refine g_goto S.1 174 dL_isSound_170 (by decide) ?_
            exact g_sub [1, 2, 3, 4, 5, 7, 8, 0] rfl (J174 v2 v7 v8 t0 (1 : Int32) (M2, M.2) hE)
    unfold LW_isSound_L123 at hE
    refine g_iload S.1 dL_isSound_123 7 rfl ?_
    refine g_iload_n S.1 dL_isSound_125 1 rfl ?_
    refine g_icmp_ge S.1 257 dL_isSound_126 (by decide) (fun c => ?_) (fun c => ?_)
    · rw [if_pos c] at hE
      obtain ⟨rfl, rfl⟩ := sq2 hE
      rcases hD with ⟨h1, h2⟩ | ⟨_, h1⟩
      · obtain rfl := sir h1
        subst h2
        exact g_sub [0, 1, 2, 3, 4, 5, 6] rfl hX
      · exact (sil h1).elim
    · rw [if_neg c] at hE
      refine g_lload S.1 dL_isSound_129 4 rfl ?_
      refine g_iload S.1 dL_isSound_131 7 rfl ?_
      refine g_lshr S.1 dL_isSound_133 ?_
      refine g_lconst S.1 (1 : Int64) dL_isSound_134 rfl ?_
      refine g_land S.1 dL_isSound_135 ?_
      refine g_lconst S.1 (1 : Int64) dL_isSound_136 rfl ?_
      refine g_lcmp_ne S.1 145 dL_isSound_137 dL_isSound_138 (by decide) (fun c => ?_) (fun c => ?_)
      · rw [if_pos c] at hE
        refine g_iconst S.1 (0 : Int32) dL_isSound_145 rfl ?_
        exact g_sub [0, 1, 2, 3, 4, 5, 6, 7] rfl (J146 v2 v6 v7 v8 (0 : Int32) M hE)
      · rw [if_neg (not_not_intro c)] at hE
        refine g_iconst S.1 (1 : Int32) dL_isSound_141 rfl ?_
        refine g_goto S.1 146 dL_isSound_142 (by decide) ?_
        exact g_sub [0, 1, 2, 3, 4, 5, 6, 7] rfl (J146 v2 v6 v7 v8 (1 : Int32) M hE)
  have L102 : ∀ (v1 : Int32) (e : (Int32)) (M2 : Mem2), AQ X 328 [(2, .int e)] [] M2 → ∀ (n : Nat) (s : Int32 × Int32) (M : Mem2), lpQ (fun s M => LW_isSound_L102 v1 s.1 s.2 M) n s M = some (e, M2) → AQ X 102 [(0, .ref (hY X.2.1.2 + 0)), (1, .int v1), (2, .int s.1), (3, .int s.2)] [] M := by
    intro v1 e M2 hX
    refine lpQ_ind (P := fun (s : Int32 × Int32) (M : Mem2) => AQ X 102 [(0, .ref (hY X.2.1.2 + 0)), (1, .int v1), (2, .int s.1), (3, .int s.2)] [] M) ?_
    rintro ⟨v2, v3⟩ M d M3 hE hC hD
    replace hE : LW_isSound_L102 v1 v2 v3 M = some (d, M3) := hE
    show AQ X 102 [(0, .ref (hY X.2.1.2 + 0)), (1, .int v1), (2, .int v2), (3, .int v3)] [] M
    have J295 : ∀ (v3 : Int32) (t0 : Int32) (t1 : Int32) (M : Mem2), LW_isSound_L102_J295 v1 v3 t0 t1 M = some (d, M3) → AQ X 295 [(0, .ref (hY X.2.1.2 + 0)), (1, .int v1), (3, .int v3)] [.int t0, .int t1] M := by
      intro v3 t0 t1 M hE
      unfold LW_isSound_L102_J295 at hE
      refine g_icmp_ne S.1 320 dL_isSound_295 (by decide) (fun c => ?_) (fun c => ?_)
      · rw [if_pos c] at hE
        refine g_iconst S.1 (0 : Int32) dL_isSound_320 rfl ?_
        refine g_istore_n (lv2 := [(2, .int (0 : Int32)), (0, .ref (hY X.2.1.2 + 0)), (1, .int v1), (3, .int v3)]) S.1 dL_isSound_321 (by decide) rfl ?_
        refine g_iinc (lv2 := [(3, .int (v3 + (1 : Int32))), (2, .int (0 : Int32)), (0, .ref (hY X.2.1.2 + 0)), (1, .int v1)]) S.1 dL_isSound_322 (j := 3) rfl (by decide) rfl ?_
        refine g_goto S.1 102 dL_isSound_325 (by decide) ?_
        obtain ⟨rfl, rfl⟩ := sq2 hE
        exact g_sub (lv2 := [(0, .ref (hY X.2.1.2 + 0)), (1, .int v1), (2, .int (0 : Int32)), (3, .int (v3 + (1 : Int32)))]) [2, 3, 1, 0] rfl (hC ((0 : Int32), (v3 + (1 : Int32))) rfl)
      · rw [if_neg (not_not_intro c)] at hE
        refine g_aload_n S.1 dL_isSound_298 0 rfl ?_
        refine g_iload_n S.1 dL_isSound_299 2 rfl ?_
        refine g_iconst S.1 (5 : Int32) dL_isSound_300 rfl ?_
        obtain ⟨x1, M2, h9, hE⟩ := bo_some hE
        refine qo_I S (n_LL_cell _ _ S.G v3 (5 : Int32) M.1 _ _ h9) fc7 wdX7_cell q_665 ⟨Nat.le_of_ble_eq_true rfl, Nat.le_of_ble_eq_true rfl⟩ rfl (Nat.le_of_ble_eq_true rfl) dL_isSound_301 ?_
        refine g_if_eq S.1 316 dL_isSound_304 (by decide) (fun c => ?_) (fun c => ?_)
        · rw [if_pos c] at hE
          refine g_iconst S.1 (1 : Int32) dL_isSound_316 rfl ?_
          refine g_goto S.1 321 dL_isSound_317 (by decide) ?_
          refine g_istore_n (lv2 := [(2, .int (1 : Int32)), (0, .ref (hY X.2.1.2 + 0)), (1, .int v1), (3, .int v3)]) S.1 dL_isSound_321 (by decide) rfl ?_
          refine g_iinc (lv2 := [(3, .int (v3 + (1 : Int32))), (2, .int (1 : Int32)), (0, .ref (hY X.2.1.2 + 0)), (1, .int v1)]) S.1 dL_isSound_322 (j := 3) rfl (by decide) rfl ?_
          refine g_goto S.1 102 dL_isSound_325 (by decide) ?_
          obtain ⟨rfl, rfl⟩ := sq2 hE
          exact g_sub (lv2 := [(0, .ref (hY X.2.1.2 + 0)), (1, .int v1), (2, .int (1 : Int32)), (3, .int (v3 + (1 : Int32)))]) [2, 3, 1, 0] rfl (hC ((1 : Int32), (v3 + (1 : Int32))) rfl)
        · rw [if_neg c] at hE
          refine g_aload_n S.1 dL_isSound_307 0 rfl ?_
          refine g_iload_n S.1 dL_isSound_308 2 rfl ?_
          refine g_iconst S.1 (2 : Int32) dL_isSound_309 rfl ?_
          obtain ⟨x3, M4, h9, hE⟩ := bo_some hE
          refine qo_I S (n_LL_cell _ _ S.G v3 (2 : Int32) M2 _ _ h9) fc7 wdX7_cell q_665 ⟨Nat.le_of_ble_eq_true rfl, Nat.le_of_ble_eq_true rfl⟩ rfl (Nat.le_of_ble_eq_true rfl) dL_isSound_310 ?_
          refine g_if_lt S.1 320 dL_isSound_313 (by decide) (fun c => ?_) (fun c => ?_)
          · try simp only [if_pos c] at hE
            refine g_iconst S.1 (0 : Int32) dL_isSound_320 rfl ?_
            refine g_istore_n (lv2 := [(2, .int (0 : Int32)), (0, .ref (hY X.2.1.2 + 0)), (1, .int v1), (3, .int v3)]) S.1 dL_isSound_321 (by decide) rfl ?_
            refine g_iinc (lv2 := [(3, .int (v3 + (1 : Int32))), (2, .int (0 : Int32)), (0, .ref (hY X.2.1.2 + 0)), (1, .int v1)]) S.1 dL_isSound_322 (j := 3) rfl (by decide) rfl ?_
            refine g_goto S.1 102 dL_isSound_325 (by decide) ?_
            obtain ⟨rfl, rfl⟩ := sq2 hE
            exact g_sub (lv2 := [(0, .ref (hY X.2.1.2 + 0)), (1, .int v1), (2, .int (0 : Int32)), (3, .int (v3 + (1 : Int32)))]) [2, 3, 1, 0] rfl (hC ((0 : Int32), (v3 + (1 : Int32))) rfl)
          · try simp only [if_neg c] at hE
            refine g_iconst S.1 (1 : Int32) dL_isSound_316 rfl ?_
            refine g_goto S.1 321 dL_isSound_317 (by decide) ?_
            refine g_istore_n (lv2 := [(2, .int (1 : Int32)), (0, .ref (hY X.2.1.2 + 0)), (1, .int v1), (3, .int v3)]) S.1 dL_isSound_321 (by decide) rfl ?_
            refine g_iinc (lv2 := [(3, .int (v3 + (1 : Int32))), (2, .int (1 : Int32)), (0, .ref (hY X.2.1.2 + 0)), (1, .int v1)]) S.1 dL_isSound_322 (j := 3) rfl (by decide) rfl ?_
            refine g_goto S.1 102 dL_isSound_325 (by decide) ?_
            obtain ⟨rfl, rfl⟩ := sq2 hE
            exact g_sub (lv2 := [(0, .ref (hY X.2.1.2 + 0)), (1, .int v1), (2, .int (1 : Int32)), (3, .int (v3 + (1 : Int32)))]) [2, 3, 1, 0] rfl (hC ((1 : Int32), (v3 + (1 : Int32))) rfl)
    unfold LW_isSound_L102 at hE
    refine g_iload_n S.1 dL_isSound_102 3 rfl ?_
    refine g_iload_n S.1 dL_isSound_103 1 rfl ?_
    refine g_icmp_ge S.1 328 dL_isSound_104 (by decide) (fun c => ?_) (fun c => ?_)
    · rw [if_pos c] at hE
      obtain ⟨rfl, rfl⟩ := sq2 hE
      rcases hD with ⟨h1, h2⟩ | ⟨_, h1⟩
      · obtain rfl := sir h1
        subst h2
        exact g_sub [2] rfl hX
      · exact (sil h1).elim
    · rw [if_neg c] at hE
      refine g_aload_n S.1 dL_isSound_107 0 rfl ?_
      refine g_iload_n S.1 dL_isSound_108 3 rfl ?_
      obtain ⟨x1, M2, h9, hE⟩ := bo_some hE
      refine qo_L S (n_LL_course _ _ S.G v3 M.1 _ _ h9) fc7 wdX7_course q_674 ⟨Nat.le_of_ble_eq_true rfl, Nat.le_of_ble_eq_true rfl⟩ rfl (Nat.le_of_ble_eq_true rfl) dL_isSound_109 ?_
      refine g_lstore (lv2 := [(4, .long x1), (0, .ref (hY X.2.1.2 + 0)), (1, .int v1), (2, .int v2), (3, .int v3)]) S.1 dL_isSound_112 (by decide) rfl ?_
      refine g_iconst S.1 (0 : Int32) dL_isSound_114 rfl ?_
      refine g_istore (lv2 := [(6, .int (0 : Int32)), (4, .long x1), (0, .ref (hY X.2.1.2 + 0)), (1, .int v1), (2, .int v2), (3, .int v3)]) S.1 dL_isSound_115 (by decide) rfl ?_
      refine g_iconst S.1 (0 : Int32) dL_isSound_117 rfl ?_
      refine g_istore (lv2 := [(7, .int (0 : Int32)), (6, .int (0 : Int32)), (4, .long x1), (0, .ref (hY X.2.1.2 + 0)), (1, .int v1), (2, .int v2), (3, .int v3)]) S.1 dL_isSound_118 (by decide) rfl ?_
      refine g_iconst S.1 (0 : Int32) dL_isSound_120 rfl ?_
      refine g_istore (lv2 := [(8, .int (0 : Int32)), (7, .int (0 : Int32)), (6, .int (0 : Int32)), (4, .long x1), (0, .ref (hY X.2.1.2 + 0)), (1, .int v1), (2, .int v2), (3, .int v3)]) S.1 dL_isSound_121 (by decide) rfl ?_
      obtain ⟨e3, M4, h9, hE⟩ := bq_some hE
      refine g_sub [4, 5, 6, 7, 3, 2, 1, 0] rfl (L123 v1 v3 x1  e3 M4 ?_ _ _ (M2, M.2) h9)
      refine g_iload_n S.1 dL_isSound_257 2 rfl ?_
      refine g_if_eq S.1 320 dL_isSound_258 (by decide) (fun c => ?_) (fun c => ?_)
      · rw [if_pos c] at hE
        refine g_iconst S.1 (0 : Int32) dL_isSound_320 rfl ?_
        refine g_istore_n (lv2 := [(2, .int (0 : Int32)), (0, .ref (hY X.2.1.2 + 0)), (1, .int v1), (3, .int v3), (4, .long x1), (6, .int e3.2.1), (7, .int e3.2.2)]) S.1 dL_isSound_321 (by decide) rfl ?_
        refine g_iinc (lv2 := [(3, .int (v3 + (1 : Int32))), (2, .int (0 : Int32)), (0, .ref (hY X.2.1.2 + 0)), (1, .int v1), (4, .long x1), (6, .int e3.2.1), (7, .int e3.2.2)]) S.1 dL_isSound_322 (j := 3) rfl (by decide) rfl ?_
        refine g_goto S.1 102 dL_isSound_325 (by decide) ?_
        obtain ⟨rfl, rfl⟩ := sq2 hE
        exact g_sub (lv2 := [(0, .ref (hY X.2.1.2 + 0)), (1, .int v1), (2, .int (0 : Int32)), (3, .int (v3 + (1 : Int32)))]) [2, 3, 1, 0] rfl (hC ((0 : Int32), (v3 + (1 : Int32))) rfl)
      · rw [if_neg c] at hE
        refine g_lload S.1 dL_isSound_261 4 rfl ?_
        refine g_iload_n S.1 dL_isSound_263 3 rfl ?_
        refine g_lshr S.1 dL_isSound_264 ?_
        refine g_lconst S.1 (1 : Int64) dL_isSound_265 rfl ?_
        refine g_land S.1 dL_isSound_266 ?_
        refine g_lconst S.1 (1 : Int64) dL_isSound_267 rfl ?_
        refine g_lcmp_ne S.1 320 dL_isSound_268 dL_isSound_269 (by decide) (fun c => ?_) (fun c => ?_)
        · rw [if_pos c] at hE
          refine g_iconst S.1 (0 : Int32) dL_isSound_320 rfl ?_
          refine g_istore_n (lv2 := [(2, .int (0 : Int32)), (0, .ref (hY X.2.1.2 + 0)), (1, .int v1), (3, .int v3), (4, .long x1), (6, .int e3.2.1), (7, .int e3.2.2)]) S.1 dL_isSound_321 (by decide) rfl ?_
          refine g_iinc (lv2 := [(3, .int (v3 + (1 : Int32))), (2, .int (0 : Int32)), (0, .ref (hY X.2.1.2 + 0)), (1, .int v1), (4, .long x1), (6, .int e3.2.1), (7, .int e3.2.2)]) S.1 dL_isSound_322 (j := 3) rfl (by decide) rfl ?_
          refine g_goto S.1 102 dL_isSound_325 (by decide) ?_
          obtain ⟨rfl, rfl⟩ := sq2 hE
          exact g_sub (lv2 := [(0, .ref (hY X.2.1.2 + 0)), (1, .int v1), (2, .int (0 : Int32)), (3, .int (v3 + (1 : Int32)))]) [2, 3, 1, 0] rfl (hC ((0 : Int32), (v3 + (1 : Int32))) rfl)
        · rw [if_neg (not_not_intro c)] at hE
          refine g_iload S.1 dL_isSound_272 5 rfl ?_
          refine g_iload S.1 dL_isSound_274 6 rfl ?_
          refine g_icmp_eq S.1 320 dL_isSound_276 (by decide) (fun c => ?_) (fun c => ?_)
          · rw [if_pos c] at hE
            refine g_iconst S.1 (0 : Int32) dL_isSound_320 rfl ?_
            refine g_istore_n (lv2 := [(2, .int (0 : Int32)), (0, .ref (hY X.2.1.2 + 0)), (1, .int v1), (3, .int v3), (4, .long x1), (6, .int e3.2.1), (7, .int e3.2.2)]) S.1 dL_isSound_321 (by decide) rfl ?_
            refine g_iinc (lv2 := [(3, .int (v3 + (1 : Int32))), (2, .int (0 : Int32)), (0, .ref (hY X.2.1.2 + 0)), (1, .int v1), (4, .long x1), (6, .int e3.2.1), (7, .int e3.2.2)]) S.1 dL_isSound_322 (j := 3) rfl (by decide) rfl ?_
            refine g_goto S.1 102 dL_isSound_325 (by decide) ?_
            obtain ⟨rfl, rfl⟩ := sq2 hE
            exact g_sub (lv2 := [(0, .ref (hY X.2.1.2 + 0)), (1, .int v1), (2, .int (0 : Int32)), (3, .int (v3 + (1 : Int32)))]) [2, 3, 1, 0] rfl (hC ((0 : Int32), (v3 + (1 : Int32))) rfl)
          · rw [if_neg c] at hE
            refine g_iload S.1 dL_isSound_279 6 rfl ?_
            refine g_aload_n S.1 dL_isSound_281 0 rfl ?_
            refine g_iload_n S.1 dL_isSound_282 3 rfl ?_
            refine g_iconst S.1 (3 : Int32) dL_isSound_283 rfl ?_
            obtain ⟨x5, M6, h9, hE⟩ := bo_some hE
            refine qo_I S (n_LL_cell _ _ S.G v3 (3 : Int32) M4.1 _ _ h9) fc7 wdX7_cell q_665 ⟨Nat.le_of_ble_eq_true rfl, Nat.le_of_ble_eq_true rfl⟩ rfl (Nat.le_of_ble_eq_true rfl) dL_isSound_284 ?_
            refine g_if_ge S.1 294 dL_isSound_287 (by decide) (fun c => ?_) (fun c => ?_)
            · try simp only [if_pos c] at hE
              refine g_iconst S.1 (0 : Int32) dL_isSound_294 rfl ?_
              exact g_sub [0, 1, 3] rfl (J295 v3 (0 : Int32) e3.2.2 (M6, M4.2) hE)
            · try simp only [if_neg c] at hE
              refine g_iconst S.1 (1 : Int32) dL_isSound_290 rfl ?_
              refine g_goto S.1 295 dL_isSound_291 (by decide) ?_
              exact g_sub [0, 1, 3] rfl (J295 v3 (1 : Int32) e3.2.2 (M6, M4.2) hE)
  have J99 : ∀ (v1 : Int32) (t0 : Int32) (M : Mem2), LW_isSound_J99 v1 t0 M = some (r, M1) → AQ X 99 [(0, .ref (hY X.2.1.2 + 0)), (1, .int v1)] [.int t0] M := by
    intro v1 t0 M hE
    unfold LW_isSound_J99 at hE
    refine g_istore_n (lv2 := [(2, .int t0), (0, .ref (hY X.2.1.2 + 0)), (1, .int v1)]) S.1 dL_isSound_99 (by decide) rfl ?_
    refine g_iconst S.1 (0 : Int32) dL_isSound_100 rfl ?_
    refine g_istore_n (lv2 := [(3, .int (0 : Int32)), (2, .int t0), (0, .ref (hY X.2.1.2 + 0)), (1, .int v1)]) S.1 dL_isSound_101 (by decide) rfl ?_
    obtain ⟨e1, M2, h9, hE⟩ := bq_some hE
    refine g_sub [2, 3, 1, 0] rfl (L102 v1  e1 M2 ?_ _ _ M h9)
    refine g_iload_n S.1 dL_isSound_328 0 rfl ?_
    obtain ⟨rfl, rfl⟩ := sq2 hE
    exact hret _ _ _ dL_isSound_329 rfl
  have J98 : ∀ (v1 : Int32) (M : Mem2), LW_isSound_J98 v1 M = some (r, M1) → AQ X 98 [(0, .ref (hY X.2.1.2 + 0)), (1, .int v1)] [] M := by
    intro v1 M hE
    unfold LW_isSound_J98 at hE
    refine g_iconst S.1 (0 : Int32) dL_isSound_98 rfl ?_
    exact g_sub [0, 1] rfl (J99 v1 (0 : Int32) M hE)
  have J91 : ∀ (v1 : Int32) (t0 : Int32) (t1 : Int32) (M : Mem2), LW_isSound_J91 v1 t0 t1 M = some (r, M1) → AQ X 91 [(0, .ref (hY X.2.1.2 + 0)), (1, .int v1)] [.int t0, .int t1] M := by
    intro v1 t0 t1 M hE
    unfold LW_isSound_J91 at hE
    refine g_icmp_ne S.1 98 dL_isSound_91 (by decide) (fun c => ?_) (fun c => ?_)
    · try simp only [if_pos c] at hE
      refine g_iconst S.1 (0 : Int32) dL_isSound_98 rfl ?_
      exact g_sub [0, 1] rfl (J99 v1 (0 : Int32) M hE)
    · try simp only [if_neg (not_not_intro c)] at hE
      refine g_iconst S.1 (1 : Int32) dL_isSound_94 rfl ?_
      refine g_goto S.1 99 dL_isSound_95 (by decide) ?_
      exact g_sub [0, 1] rfl (J99 v1 (1 : Int32) M hE)
  have J78 : ∀ (v1 : Int32) (t0 : Int32) (M : Mem2), LW_isSound_J78 v1 t0 M = some (r, M1) → AQ X 78 [(0, .ref (hY X.2.1.2 + 0)), (1, .int v1)] [.int t0] M := by
    intro v1 t0 M hE
    unfold LW_isSound_J78 at hE
    refine g_aload_n S.1 dL_isSound_78 0 rfl ?_
    refine g_iconst S.1 (4 : Int32) dL_isSound_79 rfl ?_
    obtain ⟨x1, M2, h9, hE⟩ := bo_some hE
    refine qo_I S (n_LL_count _ _ S.G (4 : Int32) M.1 _ _ h9) fc7 wdX7_count q_655 ⟨Nat.le_of_ble_eq_true rfl, Nat.le_of_ble_eq_true rfl⟩ rfl (Nat.le_of_ble_eq_true rfl) dL_isSound_80 ?_
    refine g_if_ne S.1 90 dL_isSound_83 (by decide) (fun c => ?_) (fun c => ?_)
    · try simp only [if_pos c] at hE
      refine g_iconst S.1 (0 : Int32) dL_isSound_90 rfl ?_
      exact g_sub [0, 1] rfl (J91 v1 (0 : Int32) t0 (M2, M.2) hE)
    · try simp only [if_neg (not_not_intro c)] at hE
      refine g_iconst S.1 (1 : Int32) dL_isSound_86 rfl ?_
      refine g_goto S.1 91 dL_isSound_87 (by decide) ?_
      exact g_sub [0, 1] rfl (J91 v1 (1 : Int32) t0 (M2, M.2) hE)
  unfold LW_isSound at hE
  refine g_aload_n S.1 dL_isSound_0 0 rfl ?_
  refine g_iconst S.1 (0 : Int32) dL_isSound_1 rfl ?_
  obtain ⟨x1, M2, h9, hE⟩ := bo_some hE
  refine qo_I S (n_LL_count _ _ S.G (0 : Int32) M.1 _ _ h9) fc7 wdX7_count q_655 ⟨Nat.le_of_ble_eq_true rfl, Nat.le_of_ble_eq_true rfl⟩ rfl (Nat.le_of_ble_eq_true rfl) dL_isSound_2 ?_
  refine g_aload_n S.1 dL_isSound_5 0 rfl ?_
  refine g_iconst S.1 (1 : Int32) dL_isSound_6 rfl ?_
  obtain ⟨x3, M4, h9, hE⟩ := bo_some hE
  refine qo_I S (n_LL_count _ _ S.G (1 : Int32) M2 _ _ h9) fc7 wdX7_count q_655 ⟨Nat.le_of_ble_eq_true rfl, Nat.le_of_ble_eq_true rfl⟩ rfl (Nat.le_of_ble_eq_true rfl) dL_isSound_7 ?_
  refine g_imul S.1 dL_isSound_10 ?_
  refine g_istore_n (lv2 := [(1, .int (x1 * x3)), (0, .ref (hY X.2.1.2 + 0))]) S.1 dL_isSound_11 (by decide) rfl ?_
  refine g_aload_n S.1 dL_isSound_12 1 rfl ?_
  refine g_iconst S.1 (0 : Int32) dL_isSound_13 rfl ?_
  obtain ⟨x5, M6, h9, hE⟩ := bo_some hE
  refine qo_L S (n_LL_balance _ _ S.G (0 : Int32) M4 _ _ h9) fc7 wdX7_balance q_679 ⟨Nat.le_of_ble_eq_true rfl, Nat.le_of_ble_eq_true rfl⟩ rfl (Nat.le_of_ble_eq_true rfl) dL_isSound_14 ?_
  refine g_aload_n S.1 dL_isSound_17 1 rfl ?_
  refine g_iconst S.1 (1 : Int32) dL_isSound_18 rfl ?_
  obtain ⟨x7, M8, h9, hE⟩ := bo_some hE
  refine qo_L S (n_LL_balance _ _ S.G (1 : Int32) M6 _ _ h9) fc7 wdX7_balance q_679 ⟨Nat.le_of_ble_eq_true rfl, Nat.le_of_ble_eq_true rfl⟩ rfl (Nat.le_of_ble_eq_true rfl) dL_isSound_19 ?_
  refine g_aload_n S.1 dL_isSound_22 1 rfl ?_
  refine g_iconst S.1 (2 : Int32) dL_isSound_23 rfl ?_
  obtain ⟨x9, M10, h9, hE⟩ := bo_some hE
  refine qo_L S (n_LL_balance _ _ S.G (2 : Int32) M8 _ _ h9) fc7 wdX7_balance q_679 ⟨Nat.le_of_ble_eq_true rfl, Nat.le_of_ble_eq_true rfl⟩ rfl (Nat.le_of_ble_eq_true rfl) dL_isSound_24 ?_
  refine g_ladd S.1 dL_isSound_27 ?_
  refine g_aload_n S.1 dL_isSound_28 1 rfl ?_
  refine g_iconst S.1 (3 : Int32) dL_isSound_29 rfl ?_
  obtain ⟨x11, M12, h9, hE⟩ := bo_some hE
  refine qo_L S (n_LL_balance _ _ S.G (3 : Int32) M10 _ _ h9) fc7 wdX7_balance q_679 ⟨Nat.le_of_ble_eq_true rfl, Nat.le_of_ble_eq_true rfl⟩ rfl (Nat.le_of_ble_eq_true rfl) dL_isSound_30 ?_
  refine g_ladd S.1 dL_isSound_33 ?_
  refine g_lcmp_ne S.1 98 dL_isSound_34 dL_isSound_35 (by decide) (fun c => ?_) (fun c => ?_)
  · rw [if_pos c] at hE
    exact g_sub [1, 0] rfl (J98 (x1 * x3) (M12, M.2) hE)
  · rw [if_neg (not_not_intro c)] at hE
    refine g_aload_n S.1 dL_isSound_38 1 rfl ?_
    refine g_iconst S.1 (3 : Int32) dL_isSound_39 rfl ?_
    obtain ⟨x13, M14, h9, hE⟩ := bo_some hE
    refine qo_I S (n_LL_count _ _ S.G (3 : Int32) M12 _ _ h9) fc7 wdX7_count q_655 ⟨Nat.le_of_ble_eq_true rfl, Nat.le_of_ble_eq_true rfl⟩ rfl (Nat.le_of_ble_eq_true rfl) dL_isSound_40 ?_
    refine g_aload_n S.1 dL_isSound_43 1 rfl ?_
    refine g_iconst S.1 (2 : Int32) dL_isSound_44 rfl ?_
    obtain ⟨x15, M16, h9, hE⟩ := bo_some hE
    refine qo_I S (n_LL_count _ _ S.G (2 : Int32) M14 _ _ h9) fc7 wdX7_count q_655 ⟨Nat.le_of_ble_eq_true rfl, Nat.le_of_ble_eq_true rfl⟩ rfl (Nat.le_of_ble_eq_true rfl) dL_isSound_45 ?_
    refine g_icmp_gt S.1 98 dL_isSound_48 (by decide) (fun c => ?_) (fun c => ?_)
    · rw [if_pos c] at hE
      exact g_sub [1, 0] rfl (J98 (x1 * x3) (M16, M.2) hE)
    · rw [if_neg c] at hE
      refine g_aload_n S.1 dL_isSound_51 1 rfl ?_
      refine g_iconst S.1 (4 : Int32) dL_isSound_52 rfl ?_
      obtain ⟨x17, M18, h9, hE⟩ := bo_some hE
      refine qo_I S (n_LL_count _ _ S.G (4 : Int32) M16 _ _ h9) fc7 wdX7_count q_655 ⟨Nat.le_of_ble_eq_true rfl, Nat.le_of_ble_eq_true rfl⟩ rfl (Nat.le_of_ble_eq_true rfl) dL_isSound_53 ?_
      refine g_aload_n S.1 dL_isSound_56 1 rfl ?_
      refine g_iconst S.1 (5 : Int32) dL_isSound_57 rfl ?_
      obtain ⟨x19, M20, h9, hE⟩ := bo_some hE
      refine qo_I S (n_LL_count _ _ S.G (5 : Int32) M18 _ _ h9) fc7 wdX7_count q_655 ⟨Nat.le_of_ble_eq_true rfl, Nat.le_of_ble_eq_true rfl⟩ rfl (Nat.le_of_ble_eq_true rfl) dL_isSound_58 ?_
      refine g_iadd S.1 dL_isSound_61 ?_
      refine g_iload_n S.1 dL_isSound_62 0 rfl ?_
      refine g_icmp_gt S.1 98 dL_isSound_63 (by decide) (fun c => ?_) (fun c => ?_)
      · rw [if_pos c] at hE
        exact g_sub [1, 0] rfl (J98 (x1 * x3) (M20, M.2) hE)
      · rw [if_neg c] at hE
        refine g_aload_n S.1 dL_isSound_66 1 rfl ?_
        obtain ⟨x21, h9, hE⟩ := b1_some hE
        refine qo_I S (M1 := M20) (c_LL_deepest _ _ S.G M20 _ h9) fc7 wdX7_deepest q_684 ⟨Nat.le_of_ble_eq_true rfl, Nat.le_of_ble_eq_true rfl⟩ rfl (Nat.le_of_ble_eq_true rfl) dL_isSound_67 ?_
        refine g_if_ge S.1 77 dL_isSound_70 (by decide) (fun c => ?_) (fun c => ?_)
        · try simp only [if_pos c] at hE
          refine g_iconst S.1 (0 : Int32) dL_isSound_77 rfl ?_
          exact g_sub [1, 0] rfl (J78 (x1 * x3) (0 : Int32) (M20, M.2) hE)
        · try simp only [if_neg c] at hE
          refine g_iconst S.1 (1 : Int32) dL_isSound_73 rfl ?_
          refine g_goto S.1 78 dL_isSound_74 (by decide) ?_
          exact g_sub [1, 0] rfl (J78 (x1 * x3) (1 : Int32) (M20, M.2) hE)
set_option maxRecDepth 100000 in
set_option maxHeartbeats 16000000 in
theorem c_LW_lays (l : Launch) (Y : Env1) (hG : gY Y = gC) (b L : Nat) (xs : Nat → Int32) (M : Mem2) (r : Int32) (M1 : Mem2) (hE : LW_lays L xs M = some (r, M1)) : CqI l Y b L xs yL_lays cL_lays 8 .boolean 7 [.ref (hY Y + 0), .ref b] M r M1 := by
  refine mq_Z (by decide +kernel) rfl hG (Nat.le_of_ble_eq_true rfl) (fun X S hY1 hl1 hret => ?_)
  subst hY1
  subst hl1
  show AQ X 0 [(0, .ref (hY X.2.1.2 + 0)), (1, .ref b)] [] M
  have L88 : ∀ (v2 : Int32) (v3 : Int32) (e : (Int32)) (M2 : Mem2), AQ X 167 [(4, .int e)] [] M2 → ∀ (n : Nat) (s : Int32 × Int32) (M : Mem2), lpQ (fun s M => LW_lays_L88 L xs v2 v3 s.1 s.2 M) n s M = some (e, M2) → AQ X 88 [(0, .ref (hY X.2.1.2 + 0)), (1, .ref b), (2, .int v2), (3, .int v3), (4, .int s.1), (5, .int s.2)] [] M := by
    intro v2 v3 e M2 hX
    refine lpQ_ind (P := fun (s : Int32 × Int32) (M : Mem2) => AQ X 88 [(0, .ref (hY X.2.1.2 + 0)), (1, .ref b), (2, .int v2), (3, .int v3), (4, .int s.1), (5, .int s.2)] [] M) ?_
    rintro ⟨v4, v5⟩ M d M3 hE hC hD
    replace hE : LW_lays_L88 L xs v2 v3 v4 v5 M = some (d, M3) := hE
    show AQ X 88 [(0, .ref (hY X.2.1.2 + 0)), (1, .ref b), (2, .int v2), (3, .int v3), (4, .int v4), (5, .int v5)] [] M
    have J134 : ∀ (v4 : Int32) (v5 : Int32) (t0 : Int32) (M : Mem2), LW_lays_L88_J134 L xs v2 v3 v4 v5 t0 M = some (d, M3) → AQ X 134 [(0, .ref (hY X.2.1.2 + 0)), (1, .ref b), (2, .int v2), (3, .int v3), (4, .int v4), (5, .int v5)] [.int t0] M := by
      intro v4 v5 t0 M hE
      unfold LW_lays_L88_J134 at hE
      refine g_istore (lv2 := [(7, .int t0), (0, .ref (hY X.2.1.2 + 0)), (1, .ref b), (2, .int v2), (3, .int v3), (4, .int v4), (5, .int v5)]) S.1 dL_lays_134 (by decide) rfl ?_
      refine g_iload S.1 dL_lays_136 5 rfl ?_
      refine g_if_eq S.1 158 dL_lays_138 (by decide) (fun c => ?_) (fun c => ?_)
      · rw [if_pos c] at hE
        refine g_iconst S.1 (0 : Int32) dL_lays_158 rfl ?_
        refine g_istore (lv2 := [(4, .int (0 : Int32)), (7, .int t0), (0, .ref (hY X.2.1.2 + 0)), (1, .ref b), (2, .int v2), (3, .int v3), (5, .int v5)]) S.1 dL_lays_159 (by decide) rfl ?_
        refine g_iinc (lv2 := [(5, .int (v5 + (1 : Int32))), (4, .int (0 : Int32)), (7, .int t0), (0, .ref (hY X.2.1.2 + 0)), (1, .ref b), (2, .int v2), (3, .int v3)]) S.1 dL_lays_161 (j := 6) rfl (by decide) rfl ?_
        refine g_goto S.1 88 dL_lays_164 (by decide) ?_
        obtain ⟨rfl, rfl⟩ := sq2 hE
        exact g_sub (lv2 := [(0, .ref (hY X.2.1.2 + 0)), (1, .ref b), (2, .int v2), (3, .int v3), (4, .int (0 : Int32)), (5, .int (v5 + (1 : Int32)))]) [3, 4, 5, 6, 1, 0] rfl (hC ((0 : Int32), (v5 + (1 : Int32))) rfl)
      · rw [if_neg c] at hE
        refine g_iload S.1 dL_lays_141 0 rfl ?_
        refine g_if_eq S.1 154 dL_lays_143 (by decide) (fun c => ?_) (fun c => ?_)
        · rw [if_pos c] at hE
          refine g_iconst S.1 (1 : Int32) dL_lays_154 rfl ?_
          refine g_goto S.1 159 dL_lays_155 (by decide) ?_
          refine g_istore (lv2 := [(4, .int (1 : Int32)), (7, .int t0), (0, .ref (hY X.2.1.2 + 0)), (1, .ref b), (2, .int v2), (3, .int v3), (5, .int v5)]) S.1 dL_lays_159 (by decide) rfl ?_
          refine g_iinc (lv2 := [(5, .int (v5 + (1 : Int32))), (4, .int (1 : Int32)), (7, .int t0), (0, .ref (hY X.2.1.2 + 0)), (1, .ref b), (2, .int v2), (3, .int v3)]) S.1 dL_lays_161 (j := 6) rfl (by decide) rfl ?_
          refine g_goto S.1 88 dL_lays_164 (by decide) ?_
          obtain ⟨rfl, rfl⟩ := sq2 hE
          exact g_sub (lv2 := [(0, .ref (hY X.2.1.2 + 0)), (1, .ref b), (2, .int v2), (3, .int v3), (4, .int (1 : Int32)), (5, .int (v5 + (1 : Int32)))]) [3, 4, 5, 6, 1, 0] rfl (hC ((1 : Int32), (v5 + (1 : Int32))) rfl)
        · rw [if_neg c] at hE
          refine g_aload_n S.1 dL_lays_146 1 rfl ?_
          refine g_iconst S.1 (5 : Int32) dL_lays_147 rfl ?_
          obtain ⟨x1, M2, h9, hE⟩ := bo_some hE
          refine qo_I S (n_LL_count _ _ S.G (5 : Int32) M.1 _ _ h9) fc7 wdX7_count q_655 ⟨Nat.le_of_ble_eq_true rfl, Nat.le_of_ble_eq_true rfl⟩ rfl (Nat.le_of_ble_eq_true rfl) dL_lays_148 ?_
          refine g_if_le S.1 158 dL_lays_151 (by decide) (fun c => ?_) (fun c => ?_)
          · try simp only [if_pos c] at hE
            refine g_iconst S.1 (0 : Int32) dL_lays_158 rfl ?_
            refine g_istore (lv2 := [(4, .int (0 : Int32)), (7, .int t0), (0, .ref (hY X.2.1.2 + 0)), (1, .ref b), (2, .int v2), (3, .int v3), (5, .int v5)]) S.1 dL_lays_159 (by decide) rfl ?_
            refine g_iinc (lv2 := [(5, .int (v5 + (1 : Int32))), (4, .int (0 : Int32)), (7, .int t0), (0, .ref (hY X.2.1.2 + 0)), (1, .ref b), (2, .int v2), (3, .int v3)]) S.1 dL_lays_161 (j := 6) rfl (by decide) rfl ?_
            refine g_goto S.1 88 dL_lays_164 (by decide) ?_
            obtain ⟨rfl, rfl⟩ := sq2 hE
            exact g_sub (lv2 := [(0, .ref (hY X.2.1.2 + 0)), (1, .ref b), (2, .int v2), (3, .int v3), (4, .int (0 : Int32)), (5, .int (v5 + (1 : Int32)))]) [3, 4, 5, 6, 1, 0] rfl (hC ((0 : Int32), (v5 + (1 : Int32))) rfl)
          · try simp only [if_neg c] at hE
            refine g_iconst S.1 (1 : Int32) dL_lays_154 rfl ?_
            refine g_goto S.1 159 dL_lays_155 (by decide) ?_
            refine g_istore (lv2 := [(4, .int (1 : Int32)), (7, .int t0), (0, .ref (hY X.2.1.2 + 0)), (1, .ref b), (2, .int v2), (3, .int v3), (5, .int v5)]) S.1 dL_lays_159 (by decide) rfl ?_
            refine g_iinc (lv2 := [(5, .int (v5 + (1 : Int32))), (4, .int (1 : Int32)), (7, .int t0), (0, .ref (hY X.2.1.2 + 0)), (1, .ref b), (2, .int v2), (3, .int v3)]) S.1 dL_lays_161 (j := 6) rfl (by decide) rfl ?_
            refine g_goto S.1 88 dL_lays_164 (by decide) ?_
            obtain ⟨rfl, rfl⟩ := sq2 hE
            exact g_sub (lv2 := [(0, .ref (hY X.2.1.2 + 0)), (1, .ref b), (2, .int v2), (3, .int v3), (4, .int (1 : Int32)), (5, .int (v5 + (1 : Int32)))]) [3, 4, 5, 6, 1, 0] rfl (hC ((1 : Int32), (v5 + (1 : Int32))) rfl)
    have J133 : ∀ (v4 : Int32) (v5 : Int32) (M : Mem2), LW_lays_L88_J133 L xs v2 v3 v4 v5 M = some (d, M3) → AQ X 133 [(0, .ref (hY X.2.1.2 + 0)), (1, .ref b), (2, .int v2), (3, .int v3), (4, .int v4), (5, .int v5)] [] M := by
      intro v4 v5 M hE
      unfold LW_lays_L88_J133 at hE
      refine g_iconst S.1 (0 : Int32) dL_lays_133 rfl ?_
      exact g_sub [0, 1, 2, 3, 4, 5] rfl (J134 v4 v5 (0 : Int32) M hE)
    unfold LW_lays_L88 at hE
    refine g_iload S.1 dL_lays_88 5 rfl ?_
    refine g_iconst S.1 (3 : Int32) dL_lays_90 rfl ?_
    refine g_icmp_ge S.1 167 dL_lays_91 (by decide) (fun c => ?_) (fun c => ?_)
    · rw [if_pos c] at hE
      obtain ⟨rfl, rfl⟩ := sq2 hE
      rcases hD with ⟨h1, h2⟩ | ⟨_, h1⟩
      · obtain rfl := sir h1
        subst h2
        exact g_sub [4] rfl hX
      · exact (sil h1).elim
    · rw [if_neg c] at hE
      refine g_aload_n S.1 dL_lays_94 1 rfl ?_
      refine g_iconst S.1 (4 : Int32) dL_lays_95 rfl ?_
      refine g_iload S.1 dL_lays_96 5 rfl ?_
      refine g_iadd S.1 dL_lays_98 ?_
      obtain ⟨x1, h9, hE⟩ := b1_some hE
      refine qs_I S (c_LW_cell _ _ S.G b L xs ((4 : Int32) + v5) M _ h9) wdL_cell q_689 ⟨Nat.le_of_ble_eq_true rfl, Nat.le_of_ble_eq_true rfl⟩ rfl (Nat.le_of_ble_eq_true rfl) dL_lays_99 ?_
      refine g_istore (lv2 := [(6, .int x1), (0, .ref (hY X.2.1.2 + 0)), (1, .ref b), (2, .int v2), (3, .int v3), (4, .int v4), (5, .int v5)]) S.1 dL_lays_102 (by decide) rfl ?_
      refine g_iload S.1 dL_lays_104 0 rfl ?_
      refine g_iconst S.1 (3 : Int32) dL_lays_106 rfl ?_
      refine g_iand S.1 dL_lays_107 ?_
      refine g_if_ne S.1 133 dL_lays_108 (by decide) (fun c => ?_) (fun c => ?_)
      · rw [if_pos c] at hE
        exact g_sub [1, 2, 3, 4, 5, 6] rfl (J133 v4 v5 M hE)
      · rw [if_neg (not_not_intro c)] at hE
        refine g_aload_n S.1 dL_lays_111 1 rfl ?_
        refine g_iload S.1 dL_lays_112 0 rfl ?_
        refine g_iconst S.1 (2 : Int32) dL_lays_114 rfl ?_
        refine g_ishr S.1 dL_lays_115 ?_
        refine g_iload_n S.1 dL_lays_116 3 rfl ?_
        refine g_iload_n S.1 dL_lays_117 4 rfl ?_
        refine g_imul S.1 dL_lays_118 ?_
        obtain ⟨x3, h9, hE⟩ := b1_some hE
        refine qs_I S (c_LW_up _ _ S.G b L xs (isr x1 (2 : Int32)) (v2 * v3) M _ h9) wdL_up q_693 ⟨Nat.le_of_ble_eq_true rfl, Nat.le_of_ble_eq_true rfl⟩ rfl (Nat.le_of_ble_eq_true rfl) dL_lays_119 ?_
        refine g_iconst S.1 (1 : Int32) dL_lays_122 rfl ?_
        obtain ⟨x5, M6, h9, hE⟩ := bo_some hE
        refine qo_I S (n_LL_setDrain _ _ S.G x3 (1 : Int32) M.1 _ _ h9) fc7 wdX7_setDrain q_708 ⟨Nat.le_of_ble_eq_true rfl, Nat.le_of_ble_eq_true rfl⟩ rfl (Nat.le_of_ble_eq_true rfl) dL_lays_123 ?_
        refine g_if_eq S.1 133 dL_lays_126 (by decide) (fun c => ?_) (fun c => ?_)
        · try simp only [if_pos c] at hE
          refine g_iconst S.1 (0 : Int32) dL_lays_133 rfl ?_
          exact g_sub [1, 2, 3, 4, 5, 6] rfl (J134 v4 v5 (0 : Int32) (M6, M.2) hE)
        · try simp only [if_neg c] at hE
          refine g_iconst S.1 (1 : Int32) dL_lays_129 rfl ?_
          refine g_goto S.1 134 dL_lays_130 (by decide) ?_
          exact g_sub [1, 2, 3, 4, 5, 6] rfl (J134 v4 v5 (1 : Int32) (M6, M.2) hE)
  have J83 : ∀ (v2 : Int32) (v3 : Int32) (t0 : Int32) (M : Mem2), LW_lays_J83 L xs v2 v3 t0 M = some (r, M1) → AQ X 83 [(0, .ref (hY X.2.1.2 + 0)), (1, .ref b), (2, .int v2), (3, .int v3)] [.int t0] M := by
    intro v2 v3 t0 M hE
    unfold LW_lays_J83 at hE
    refine g_istore (lv2 := [(4, .int t0), (0, .ref (hY X.2.1.2 + 0)), (1, .ref b), (2, .int v2), (3, .int v3)]) S.1 dL_lays_83 (by decide) rfl ?_
    refine g_iconst S.1 (0 : Int32) dL_lays_85 rfl ?_
    refine g_istore (lv2 := [(5, .int (0 : Int32)), (4, .int t0), (0, .ref (hY X.2.1.2 + 0)), (1, .ref b), (2, .int v2), (3, .int v3)]) S.1 dL_lays_86 (by decide) rfl ?_
    obtain ⟨e1, M2, h9, hE⟩ := bq_some hE
    refine g_sub [2, 3, 4, 5, 1, 0] rfl (L88 v2 v3  e1 M2 ?_ _ _ M h9)
    refine g_iload S.1 dL_lays_167 0 rfl ?_
    obtain ⟨rfl, rfl⟩ := sq2 hE
    exact hret _ _ _ dL_lays_169 rfl
  have J82 : ∀ (v2 : Int32) (v3 : Int32) (M : Mem2), LW_lays_J82 L xs v2 v3 M = some (r, M1) → AQ X 82 [(0, .ref (hY X.2.1.2 + 0)), (1, .ref b), (2, .int v2), (3, .int v3)] [] M := by
    intro v2 v3 M hE
    unfold LW_lays_J82 at hE
    refine g_iconst S.1 (0 : Int32) dL_lays_82 rfl ?_
    exact g_sub [0, 1, 2, 3] rfl (J83 v2 v3 (0 : Int32) M hE)
  have J69 : ∀ (v2 : Int32) (v3 : Int32) (t0 : Int32) (t1 : Int32) (t2 : Int32) (M : Mem2), LW_lays_J69 L xs v2 v3 t0 t1 t2 M = some (r, M1) → AQ X 69 [(0, .ref (hY X.2.1.2 + 0)), (1, .ref b), (2, .int v2), (3, .int v3)] [.int t0, .int t1, .int t2, .ref (hY X.2.1.2 + 0)] M := by
    intro v2 v3 t0 t1 t2 M hE
    unfold LW_lays_J69 at hE
    obtain ⟨x1, h9, hE⟩ := b1_some hE
    refine qs_I S (c_LW_up _ _ S.G b L xs t1 t0 M _ h9) wdL_up q_693 ⟨Nat.le_of_ble_eq_true rfl, Nat.le_of_ble_eq_true rfl⟩ rfl (Nat.le_of_ble_eq_true rfl) dL_lays_69 ?_
    obtain ⟨x3, M4, h9, hE⟩ := bo_some hE
    refine qo_I S (n_LL_random _ _ S.G t2 x1 M.1 _ _ h9) fc7 wdX7_random q_703 ⟨Nat.le_of_ble_eq_true rfl, Nat.le_of_ble_eq_true rfl⟩ rfl (Nat.le_of_ble_eq_true rfl) dL_lays_72 ?_
    refine g_if_lt S.1 82 dL_lays_75 (by decide) (fun c => ?_) (fun c => ?_)
    · try simp only [if_pos c] at hE
      refine g_iconst S.1 (0 : Int32) dL_lays_82 rfl ?_
      exact g_sub [0, 1, 2, 3] rfl (J83 v2 v3 (0 : Int32) (M4, M.2) hE)
    · try simp only [if_neg c] at hE
      refine g_iconst S.1 (1 : Int32) dL_lays_78 rfl ?_
      refine g_goto S.1 83 dL_lays_79 (by decide) ?_
      exact g_sub [0, 1, 2, 3] rfl (J83 v2 v3 (1 : Int32) (M4, M.2) hE)
  unfold LW_lays at hE
  refine g_iconst S.1 (1 : Int32) dL_lays_0 rfl ?_
  refine g_aload_n S.1 dL_lays_1 1 rfl ?_
  refine g_iconst S.1 (0 : Int32) dL_lays_2 rfl ?_
  obtain ⟨x1, h9, hE⟩ := b1_some hE
  refine qs_I S (c_LW_cell _ _ S.G b L xs (0 : Int32) M _ h9) wdL_cell q_689 ⟨Nat.le_of_ble_eq_true rfl, Nat.le_of_ble_eq_true rfl⟩ rfl (Nat.le_of_ble_eq_true rfl) dL_lays_3 ?_
  refine g_iconst S.1 (5 : Int32) dL_lays_6 rfl ?_
  obtain ⟨x3, h9, hE⟩ := b1_some hE
  refine qs_I S (c_LW_up _ _ S.G b L xs x1 (5 : Int32) M _ h9) wdL_up q_693 ⟨Nat.le_of_ble_eq_true rfl, Nat.le_of_ble_eq_true rfl⟩ rfl (Nat.le_of_ble_eq_true rfl) dL_lays_7 ?_
  refine g_iadd S.1 dL_lays_10 ?_
  refine g_istore_n (lv2 := [(2, .int ((1 : Int32) + x3)), (0, .ref (hY X.2.1.2 + 0)), (1, .ref b)]) S.1 dL_lays_11 (by decide) rfl ?_
  refine g_iconst S.1 (1 : Int32) dL_lays_12 rfl ?_
  refine g_aload_n S.1 dL_lays_13 2 rfl ?_
  refine g_iconst S.1 (1 : Int32) dL_lays_14 rfl ?_
  obtain ⟨x5, h9, hE⟩ := b1_some hE
  refine qs_I S (c_LW_cell _ _ S.G b L xs (1 : Int32) M _ h9) wdL_cell q_689 ⟨Nat.le_of_ble_eq_true rfl, Nat.le_of_ble_eq_true rfl⟩ rfl (Nat.le_of_ble_eq_true rfl) dL_lays_15 ?_
  refine g_iconst S.1 (5 : Int32) dL_lays_18 rfl ?_
  obtain ⟨x7, h9, hE⟩ := b1_some hE
  refine qs_I S (c_LW_up _ _ S.G b L xs x5 (5 : Int32) M _ h9) wdL_up q_693 ⟨Nat.le_of_ble_eq_true rfl, Nat.le_of_ble_eq_true rfl⟩ rfl (Nat.le_of_ble_eq_true rfl) dL_lays_19 ?_
  refine g_iadd S.1 dL_lays_22 ?_
  refine g_istore_n (lv2 := [(3, .int ((1 : Int32) + x7)), (2, .int ((1 : Int32) + x3)), (0, .ref (hY X.2.1.2 + 0)), (1, .ref b)]) S.1 dL_lays_23 (by decide) rfl ?_
  refine g_aload_n S.1 dL_lays_24 2 rfl ?_
  refine g_iload_n S.1 dL_lays_25 1 rfl ?_
  refine g_iload_n S.1 dL_lays_26 0 rfl ?_
  obtain ⟨x9, M10, h9, hE⟩ := bo_some hE
  refine qo_I S (n_LL_begin _ _ S.G ((1 : Int32) + x3) ((1 : Int32) + x7) M.1 _ _ h9) fc7 wdX7_begin q_697 ⟨Nat.le_of_ble_eq_true rfl, Nat.le_of_ble_eq_true rfl⟩ rfl (Nat.le_of_ble_eq_true rfl) dL_lays_27 ?_
  refine g_iload_n S.1 dL_lays_30 1 rfl ?_
  refine g_iload_n S.1 dL_lays_31 0 rfl ?_
  refine g_imul S.1 dL_lays_32 ?_
  refine g_icmp_ne S.1 82 dL_lays_33 (by decide) (fun c => ?_) (fun c => ?_)
  · rw [if_pos c] at hE
    exact g_sub [2, 3, 1, 0] rfl (J82 ((1 : Int32) + x3) ((1 : Int32) + x7) (M10, M.2) hE)
  · rw [if_neg (not_not_intro c)] at hE
    refine g_aload_n S.1 dL_lays_36 2 rfl ?_
    refine g_aload_n S.1 dL_lays_37 3 rfl ?_
    refine g_iconst S.1 (2 : Int32) dL_lays_38 rfl ?_
    obtain ⟨x11, h9, hE⟩ := b1_some hE
    refine qs_I S (c_LW_cell _ _ S.G b L xs (2 : Int32) (M10, M.2) _ h9) wdL_cell q_689 ⟨Nat.le_of_ble_eq_true rfl, Nat.le_of_ble_eq_true rfl⟩ rfl (Nat.le_of_ble_eq_true rfl) dL_lays_39 ?_
    refine g_ldc S.1 (v := 1000000) q_702 dL_lays_42 ?_
    obtain ⟨x13, h9, hE⟩ := b1_some hE
    refine qs_I S (c_LW_up _ _ S.G b L xs x11 (1000000 : Int32) (M10, M.2) _ h9) wdL_up q_693 ⟨Nat.le_of_ble_eq_true rfl, Nat.le_of_ble_eq_true rfl⟩ rfl (Nat.le_of_ble_eq_true rfl) dL_lays_44 ?_
    refine g_aload_n S.1 dL_lays_47 3 rfl ?_
    refine g_iconst S.1 (3 : Int32) dL_lays_48 rfl ?_
    obtain ⟨x15, h9, hE⟩ := b1_some hE
    refine qs_I S (c_LW_cell _ _ S.G b L xs (3 : Int32) (M10, M.2) _ h9) wdL_cell q_689 ⟨Nat.le_of_ble_eq_true rfl, Nat.le_of_ble_eq_true rfl⟩ rfl (Nat.le_of_ble_eq_true rfl) dL_lays_49 ?_
    refine g_aload_n S.1 dL_lays_52 3 rfl ?_
    refine g_iconst S.1 (3 : Int32) dL_lays_53 rfl ?_
    obtain ⟨x17, h9, hE⟩ := b1_some hE
    refine qs_I S (c_LW_cell _ _ S.G b L xs (3 : Int32) (M10, M.2) _ h9) wdL_cell q_689 ⟨Nat.le_of_ble_eq_true rfl, Nat.le_of_ble_eq_true rfl⟩ rfl (Nat.le_of_ble_eq_true rfl) dL_lays_54 ?_
    refine g_iconst S.1 (1 : Int32) dL_lays_57 rfl ?_
    refine g_iand S.1 dL_lays_58 ?_
    refine g_if_ne S.1 67 dL_lays_59 (by decide) (fun c => ?_) (fun c => ?_)
    · try simp only [if_pos c] at hE
      refine g_bipush S.1 (100 : Int32) dL_lays_67 rfl ?_
      exact g_sub [2, 3, 1, 0] rfl (J69 ((1 : Int32) + x3) ((1 : Int32) + x7) (100 : Int32) x15 x13 (M10, M.2) hE)
    · try simp only [if_neg (not_not_intro c)] at hE
      refine g_bipush S.1 (8 : Int32) dL_lays_62 rfl ?_
      refine g_goto S.1 69 dL_lays_64 (by decide) ?_
      exact g_sub [2, 3, 1, 0] rfl (J69 ((1 : Int32) + x3) ((1 : Int32) + x7) (8 : Int32) x15 x13 (M10, M.2) hE)
set_option maxRecDepth 100000 in
set_option maxHeartbeats 16000000 in
theorem c_LW_isRaised (l : Launch) (Y : Env1) (hG : gY Y = gC) (b L : Nat) (xs : Nat → Int32) (a1 : Int32) (a2 : Int32) (M : Mem2) (r : Int32) (M1 : Mem2) (hE : LW_isRaised a1 a2 M = some (r, M1)) : CqI l Y b L xs yL_isRaised cL_isRaised 14 .boolean 7 [.ref (hY Y + 0), .int a1, .int a2] M r M1 := by
  refine mq_Z (by decide +kernel) rfl hG (Nat.le_of_ble_eq_true rfl) (fun X S hY1 hl1 hret => ?_)
  subst hY1
  subst hl1
  show AQ X 0 [(0, .ref (hY X.2.1.2 + 0)), (1, .int a1), (2, .int a2)] [] M
  have L120 : ∀ (v3 : Int32) (v4 : Int64) (e : (Int32)) (M2 : Mem2), AQ X 167 [(12, .int e)] [] M2 → ∀ (n : Nat) (s : Int32 × Int32) (M : Mem2), lpQ (fun s M => LW_isRaised_L120 v3 v4 s.1 s.2 M) n s M = some (e, M2) → AQ X 120 [(0, .ref (hY X.2.1.2 + 0)), (3, .int v3), (4, .long v4), (12, .int s.1), (13, .int s.2)] [] M := by
    intro v3 v4 e M2 hX
    refine lpQ_ind (P := fun (s : Int32 × Int32) (M : Mem2) => AQ X 120 [(0, .ref (hY X.2.1.2 + 0)), (3, .int v3), (4, .long v4), (12, .int s.1), (13, .int s.2)] [] M) ?_
    rintro ⟨v12, v13⟩ M d M3 hE hC hD
    replace hE : LW_isRaised_L120 v3 v4 v12 v13 M = some (d, M3) := hE
    show AQ X 120 [(0, .ref (hY X.2.1.2 + 0)), (3, .int v3), (4, .long v4), (12, .int v12), (13, .int v13)] [] M
    unfold LW_isRaised_L120 at hE
    refine g_iload S.1 dL_isRaised_120 4 rfl ?_
    refine g_iload_n S.1 dL_isRaised_122 1 rfl ?_
    refine g_icmp_ge S.1 167 dL_isRaised_123 (by decide) (fun c => ?_) (fun c => ?_)
    · rw [if_pos c] at hE
      obtain ⟨rfl, rfl⟩ := sq2 hE
      rcases hD with ⟨h1, h2⟩ | ⟨_, h1⟩
      · obtain rfl := sir h1
        subst h2
        exact g_sub [3] rfl hX
      · exact (sil h1).elim
    · rw [if_neg c] at hE
      refine g_iload S.1 dL_isRaised_126 3 rfl ?_
      refine g_if_eq S.1 158 dL_isRaised_128 (by decide) (fun c => ?_) (fun c => ?_)
      · rw [if_pos c] at hE
        refine g_iconst S.1 (0 : Int32) dL_isRaised_158 rfl ?_
        refine g_istore (lv2 := [(12, .int (0 : Int32)), (0, .ref (hY X.2.1.2 + 0)), (3, .int v3), (4, .long v4), (13, .int v13)]) S.1 dL_isRaised_159 (by decide) rfl ?_
        refine g_iinc (lv2 := [(13, .int (v13 + (1 : Int32))), (12, .int (0 : Int32)), (0, .ref (hY X.2.1.2 + 0)), (3, .int v3), (4, .long v4)]) S.1 dL_isRaised_161 (j := 4) rfl (by decide) rfl ?_
        refine g_goto S.1 120 dL_isRaised_164 (by decide) ?_
        obtain ⟨rfl, rfl⟩ := sq2 hE
        exact g_sub (lv2 := [(0, .ref (hY X.2.1.2 + 0)), (3, .int v3), (4, .long v4), (12, .int (0 : Int32)), (13, .int (v13 + (1 : Int32)))]) [2, 3, 4, 1, 0] rfl (hC ((0 : Int32), (v13 + (1 : Int32))) rfl)
      · rw [if_neg c] at hE
        refine g_lload S.1 dL_isRaised_131 2 rfl ?_
        refine g_iload S.1 dL_isRaised_133 4 rfl ?_
        refine g_lshr S.1 dL_isRaised_135 ?_
        refine g_lconst S.1 (1 : Int64) dL_isRaised_136 rfl ?_
        refine g_land S.1 dL_isRaised_137 ?_
        refine g_lconst S.1 (0 : Int64) dL_isRaised_138 rfl ?_
        refine g_lcmp_eq S.1 154 dL_isRaised_139 dL_isRaised_140 (by decide) (fun c => ?_) (fun c => ?_)
        · rw [if_pos c] at hE
          refine g_iconst S.1 (1 : Int32) dL_isRaised_154 rfl ?_
          refine g_goto S.1 159 dL_isRaised_155 (by decide) ?_
          refine g_istore (lv2 := [(12, .int (1 : Int32)), (0, .ref (hY X.2.1.2 + 0)), (3, .int v3), (4, .long v4), (13, .int v13)]) S.1 dL_isRaised_159 (by decide) rfl ?_
          refine g_iinc (lv2 := [(13, .int (v13 + (1 : Int32))), (12, .int (1 : Int32)), (0, .ref (hY X.2.1.2 + 0)), (3, .int v3), (4, .long v4)]) S.1 dL_isRaised_161 (j := 4) rfl (by decide) rfl ?_
          refine g_goto S.1 120 dL_isRaised_164 (by decide) ?_
          obtain ⟨rfl, rfl⟩ := sq2 hE
          exact g_sub (lv2 := [(0, .ref (hY X.2.1.2 + 0)), (3, .int v3), (4, .long v4), (12, .int (1 : Int32)), (13, .int (v13 + (1 : Int32)))]) [2, 3, 4, 1, 0] rfl (hC ((1 : Int32), (v13 + (1 : Int32))) rfl)
        · rw [if_neg c] at hE
          refine g_aload_n S.1 dL_isRaised_143 0 rfl ?_
          refine g_iload S.1 dL_isRaised_144 4 rfl ?_
          refine g_iconst S.1 (4 : Int32) dL_isRaised_146 rfl ?_
          obtain ⟨x1, M2, h9, hE⟩ := bo_some hE
          refine qo_I S (n_LL_cell _ _ S.G v13 (4 : Int32) M.1 _ _ h9) fc7 wdX7_cell q_665 ⟨Nat.le_of_ble_eq_true rfl, Nat.le_of_ble_eq_true rfl⟩ rfl (Nat.le_of_ble_eq_true rfl) dL_isRaised_147 ?_
          refine g_iconst S.1 (1 : Int32) dL_isRaised_150 rfl ?_
          refine g_icmp_ne S.1 158 dL_isRaised_151 (by decide) (fun c => ?_) (fun c => ?_)
          · try simp only [if_pos c] at hE
            refine g_iconst S.1 (0 : Int32) dL_isRaised_158 rfl ?_
            refine g_istore (lv2 := [(12, .int (0 : Int32)), (0, .ref (hY X.2.1.2 + 0)), (3, .int v3), (4, .long v4), (13, .int v13)]) S.1 dL_isRaised_159 (by decide) rfl ?_
            refine g_iinc (lv2 := [(13, .int (v13 + (1 : Int32))), (12, .int (0 : Int32)), (0, .ref (hY X.2.1.2 + 0)), (3, .int v3), (4, .long v4)]) S.1 dL_isRaised_161 (j := 4) rfl (by decide) rfl ?_
            refine g_goto S.1 120 dL_isRaised_164 (by decide) ?_
            obtain ⟨rfl, rfl⟩ := sq2 hE
            exact g_sub (lv2 := [(0, .ref (hY X.2.1.2 + 0)), (3, .int v3), (4, .long v4), (12, .int (0 : Int32)), (13, .int (v13 + (1 : Int32)))]) [2, 3, 4, 1, 0] rfl (hC ((0 : Int32), (v13 + (1 : Int32))) rfl)
          · try simp only [if_neg (not_not_intro c)] at hE
            refine g_iconst S.1 (1 : Int32) dL_isRaised_154 rfl ?_
            refine g_goto S.1 159 dL_isRaised_155 (by decide) ?_
            refine g_istore (lv2 := [(12, .int (1 : Int32)), (0, .ref (hY X.2.1.2 + 0)), (3, .int v3), (4, .long v4), (13, .int v13)]) S.1 dL_isRaised_159 (by decide) rfl ?_
            refine g_iinc (lv2 := [(13, .int (v13 + (1 : Int32))), (12, .int (1 : Int32)), (0, .ref (hY X.2.1.2 + 0)), (3, .int v3), (4, .long v4)]) S.1 dL_isRaised_161 (j := 4) rfl (by decide) rfl ?_
            refine g_goto S.1 120 dL_isRaised_164 (by decide) ?_
            obtain ⟨rfl, rfl⟩ := sq2 hE
            exact g_sub (lv2 := [(0, .ref (hY X.2.1.2 + 0)), (3, .int v3), (4, .long v4), (12, .int (1 : Int32)), (13, .int (v13 + (1 : Int32)))]) [2, 3, 4, 1, 0] rfl (hC ((1 : Int32), (v13 + (1 : Int32))) rfl)
  have L18 : ∀ (v1 : Int32) (v2 : Int32) (v3 : Int32) (e : (Int64)) (M2 : Mem2), AQ X 46 [(0, .ref (hY X.2.1.2 + 0)), (1, .int v1), (2, .int v2), (3, .int v3), (4, .long e)] [] M2 → ∀ (n : Nat) (s : Int64 × Int32) (M : Mem2), lpQ (fun s M => LW_isRaised_L18 v1 v2 v3 s.1 s.2 M) n s M = some (e, M2) → AQ X 18 [(0, .ref (hY X.2.1.2 + 0)), (1, .int v1), (2, .int v2), (3, .int v3), (4, .long s.1), (6, .int s.2)] [] M := by
    intro v1 v2 v3 e M2 hX
    refine lpQ_ind (P := fun (s : Int64 × Int32) (M : Mem2) => AQ X 18 [(0, .ref (hY X.2.1.2 + 0)), (1, .int v1), (2, .int v2), (3, .int v3), (4, .long s.1), (6, .int s.2)] [] M) ?_
    rintro ⟨v4, v6⟩ M d M3 hE hC hD
    replace hE : LW_isRaised_L18 v1 v2 v3 v4 v6 M = some (d, M3) := hE
    show AQ X 18 [(0, .ref (hY X.2.1.2 + 0)), (1, .int v1), (2, .int v2), (3, .int v3), (4, .long v4), (6, .int v6)] [] M
    unfold LW_isRaised_L18 at hE
    refine g_iload S.1 dL_isRaised_18 5 rfl ?_
    refine g_iload_n S.1 dL_isRaised_20 3 rfl ?_
    refine g_icmp_ge S.1 46 dL_isRaised_21 (by decide) (fun c => ?_) (fun c => ?_)
    · rw [if_pos c] at hE
      obtain ⟨rfl, rfl⟩ := sq2 hE
      rcases hD with ⟨h1, h2⟩ | ⟨_, h1⟩
      · obtain rfl := sir h1
        subst h2
        exact g_sub [0, 1, 2, 3, 4] rfl hX
      · exact (sil h1).elim
    · rw [if_neg c] at hE
      refine g_lload S.1 dL_isRaised_24 4 rfl ?_
      refine g_aload_n S.1 dL_isRaised_26 0 rfl ?_
      refine g_iload S.1 dL_isRaised_27 5 rfl ?_
      refine g_iconst S.1 (4 : Int32) dL_isRaised_29 rfl ?_
      obtain ⟨x1, M2, h9, hE⟩ := bo_some hE
      refine qo_I S (n_LL_cell _ _ S.G v6 (4 : Int32) M.1 _ _ h9) fc7 wdX7_cell q_665 ⟨Nat.le_of_ble_eq_true rfl, Nat.le_of_ble_eq_true rfl⟩ rfl (Nat.le_of_ble_eq_true rfl) dL_isRaised_30 ?_
      refine g_i2l S.1 dL_isRaised_33 ?_
      refine g_iload S.1 dL_isRaised_34 5 rfl ?_
      refine g_lshl S.1 dL_isRaised_36 ?_
      refine g_lor S.1 dL_isRaised_37 ?_
      refine g_lstore (lv2 := [(4, .long (v4 ||| (lsh x1.toInt64 v6))), (0, .ref (hY X.2.1.2 + 0)), (1, .int v1), (2, .int v2), (3, .int v3), (6, .int v6)]) S.1 dL_isRaised_38 (by decide) rfl ?_
      refine g_iinc (lv2 := [(6, .int (v6 + (1 : Int32))), (4, .long (v4 ||| (lsh x1.toInt64 v6))), (0, .ref (hY X.2.1.2 + 0)), (1, .int v1), (2, .int v2), (3, .int v3)]) S.1 dL_isRaised_40 (j := 5) rfl (by decide) rfl ?_
      refine g_goto S.1 18 dL_isRaised_43 (by decide) ?_
      obtain ⟨rfl, rfl⟩ := sq2 hE
      exact g_sub (lv2 := [(0, .ref (hY X.2.1.2 + 0)), (1, .int v1), (2, .int v2), (3, .int v3), (4, .long (v4 ||| (lsh x1.toInt64 v6))), (6, .int (v6 + (1 : Int32)))]) [2, 3, 4, 5, 1, 0] rfl (hC ((v4 ||| (lsh x1.toInt64 v6)), (v6 + (1 : Int32))) rfl)
  have J115 : ∀ (v3 : Int32) (v4 : Int64) (t0 : Int32) (M : Mem2), LW_isRaised_J115 v3 v4 t0 M = some (r, M1) → AQ X 115 [(0, .ref (hY X.2.1.2 + 0)), (3, .int v3), (4, .long v4)] [.int t0] M := by
    intro v3 v4 t0 M hE
    unfold LW_isRaised_J115 at hE
    refine g_istore (lv2 := [(12, .int t0), (0, .ref (hY X.2.1.2 + 0)), (3, .int v3), (4, .long v4)]) S.1 dL_isRaised_115 (by decide) rfl ?_
    refine g_iconst S.1 (0 : Int32) dL_isRaised_117 rfl ?_
    refine g_istore (lv2 := [(13, .int (0 : Int32)), (12, .int t0), (0, .ref (hY X.2.1.2 + 0)), (3, .int v3), (4, .long v4)]) S.1 dL_isRaised_118 (by decide) rfl ?_
    obtain ⟨e1, M2, h9, hE⟩ := bq_some hE
    refine g_sub [2, 3, 4, 1, 0] rfl (L120 v3 v4  e1 M2 ?_ _ _ M h9)
    refine g_iload S.1 dL_isRaised_167 0 rfl ?_
    obtain ⟨rfl, rfl⟩ := sq2 hE
    exact hret _ _ _ dL_isRaised_169 rfl
  have J114 : ∀ (v3 : Int32) (v4 : Int64) (M : Mem2), LW_isRaised_J114 v3 v4 M = some (r, M1) → AQ X 114 [(0, .ref (hY X.2.1.2 + 0)), (3, .int v3), (4, .long v4)] [] M := by
    intro v3 v4 M hE
    unfold LW_isRaised_J114 at hE
    refine g_iconst S.1 (0 : Int32) dL_isRaised_114 rfl ?_
    exact g_sub [0, 1, 2] rfl (J115 v3 v4 (0 : Int32) M hE)
  unfold LW_isRaised at hE
  refine g_aload_n S.1 dL_isRaised_0 0 rfl ?_
  refine g_iconst S.1 (0 : Int32) dL_isRaised_1 rfl ?_
  obtain ⟨x1, M2, h9, hE⟩ := bo_some hE
  refine qo_I S (n_LL_count _ _ S.G (0 : Int32) M.1 _ _ h9) fc7 wdX7_count q_655 ⟨Nat.le_of_ble_eq_true rfl, Nat.le_of_ble_eq_true rfl⟩ rfl (Nat.le_of_ble_eq_true rfl) dL_isRaised_2 ?_
  refine g_aload_n S.1 dL_isRaised_5 0 rfl ?_
  refine g_iconst S.1 (1 : Int32) dL_isRaised_6 rfl ?_
  obtain ⟨x3, M4, h9, hE⟩ := bo_some hE
  refine qo_I S (n_LL_count _ _ S.G (1 : Int32) M2 _ _ h9) fc7 wdX7_count q_655 ⟨Nat.le_of_ble_eq_true rfl, Nat.le_of_ble_eq_true rfl⟩ rfl (Nat.le_of_ble_eq_true rfl) dL_isRaised_7 ?_
  refine g_imul S.1 dL_isRaised_10 ?_
  refine g_istore_n (lv2 := [(3, .int (x1 * x3)), (0, .ref (hY X.2.1.2 + 0)), (1, .int a1), (2, .int a2)]) S.1 dL_isRaised_11 (by decide) rfl ?_
  refine g_lconst S.1 (0 : Int64) dL_isRaised_12 rfl ?_
  refine g_lstore (lv2 := [(4, .long (0 : Int64)), (3, .int (x1 * x3)), (0, .ref (hY X.2.1.2 + 0)), (1, .int a1), (2, .int a2)]) S.1 dL_isRaised_13 (by decide) rfl ?_
  refine g_iconst S.1 (0 : Int32) dL_isRaised_15 rfl ?_
  refine g_istore (lv2 := [(6, .int (0 : Int32)), (4, .long (0 : Int64)), (3, .int (x1 * x3)), (0, .ref (hY X.2.1.2 + 0)), (1, .int a1), (2, .int a2)]) S.1 dL_isRaised_16 (by decide) rfl ?_
  obtain ⟨e5, M6, h9, hE⟩ := bq_some hE
  refine g_sub [3, 4, 5, 2, 1, 0] rfl (L18 a1 a2 (x1 * x3)  e5 M6 ?_ _ _ (M4, M.2) h9)
  refine g_aload_n S.1 dL_isRaised_46 0 rfl ?_
  refine g_iload_n S.1 dL_isRaised_47 1 rfl ?_
  obtain ⟨x7, M8, h9, hE⟩ := bo_some hE
  refine qo_D S (n_LL_depth _ _ S.G a1 M6.1 _ _ h9) fc7 wdX7_depth q_713 ⟨Nat.le_of_ble_eq_true rfl, Nat.le_of_ble_eq_true rfl⟩ rfl (Nat.le_of_ble_eq_true rfl) dL_isRaised_48 ?_
  refine g_dstore (lv2 := [(6, .double x7), (0, .ref (hY X.2.1.2 + 0)), (1, .int a1), (2, .int a2), (3, .int (x1 * x3)), (4, .long e5)]) S.1 dL_isRaised_51 (by decide) rfl ?_
  refine g_aload_n S.1 dL_isRaised_53 1 rfl ?_
  refine g_iconst S.1 (1 : Int32) dL_isRaised_54 rfl ?_
  obtain ⟨x9, M10, h9, hE⟩ := bo_some hE
  refine qo_L S (n_LL_balance _ _ S.G (1 : Int32) M8 _ _ h9) fc7 wdX7_balance q_679 ⟨Nat.le_of_ble_eq_true rfl, Nat.le_of_ble_eq_true rfl⟩ rfl (Nat.le_of_ble_eq_true rfl) dL_isRaised_55 ?_
  refine g_lstore (lv2 := [(8, .long x9), (6, .double x7), (0, .ref (hY X.2.1.2 + 0)), (1, .int a1), (2, .int a2), (3, .int (x1 * x3)), (4, .long e5)]) S.1 dL_isRaised_58 (by decide) rfl ?_
  refine g_aload_n S.1 dL_isRaised_60 2 rfl ?_
  refine g_iconst S.1 (2 : Int32) dL_isRaised_61 rfl ?_
  obtain ⟨x11, M12, h9, hE⟩ := bo_some hE
  refine qo_L S (n_LL_balance _ _ S.G (2 : Int32) M10 _ _ h9) fc7 wdX7_balance q_679 ⟨Nat.le_of_ble_eq_true rfl, Nat.le_of_ble_eq_true rfl⟩ rfl (Nat.le_of_ble_eq_true rfl) dL_isRaised_62 ?_
  refine g_lstore (lv2 := [(10, .long x11), (8, .long x9), (6, .double x7), (0, .ref (hY X.2.1.2 + 0)), (1, .int a1), (2, .int a2), (3, .int (x1 * x3)), (4, .long e5)]) S.1 dL_isRaised_65 (by decide) rfl ?_
  refine g_aload_n S.1 dL_isRaised_67 3 rfl ?_
  refine g_iload_n S.1 dL_isRaised_68 4 rfl ?_
  refine g_iload_n S.1 dL_isRaised_69 5 rfl ?_
  obtain ⟨x13, M14, h9, hE⟩ := bo_some hE
  refine qo_I S (n_LL_pour _ _ S.G a1 a2 M12 _ _ h9) fc7 wdX7_pour q_718 ⟨Nat.le_of_ble_eq_true rfl, Nat.le_of_ble_eq_true rfl⟩ rfl (Nat.le_of_ble_eq_true rfl) dL_isRaised_70 ?_
  refine g_if_lt S.1 114 dL_isRaised_73 (by decide) (fun c => ?_) (fun c => ?_)
  · rw [if_pos c] at hE
    exact g_sub [3, 6, 7] rfl (J114 (x1 * x3) e5 (M14, M6.2) hE)
  · rw [if_neg c] at hE
    refine g_aload_n S.1 dL_isRaised_76 3 rfl ?_
    refine g_iconst S.1 (1 : Int32) dL_isRaised_77 rfl ?_
    obtain ⟨x15, M16, h9, hE⟩ := bo_some hE
    refine qo_L S (n_LL_balance _ _ S.G (1 : Int32) M14 _ _ h9) fc7 wdX7_balance q_679 ⟨Nat.le_of_ble_eq_true rfl, Nat.le_of_ble_eq_true rfl⟩ rfl (Nat.le_of_ble_eq_true rfl) dL_isRaised_78 ?_
    refine g_aload_n S.1 dL_isRaised_81 3 rfl ?_
    refine g_iconst S.1 (2 : Int32) dL_isRaised_82 rfl ?_
    obtain ⟨x17, M18, h9, hE⟩ := bo_some hE
    refine qo_L S (n_LL_balance _ _ S.G (2 : Int32) M16 _ _ h9) fc7 wdX7_balance q_679 ⟨Nat.le_of_ble_eq_true rfl, Nat.le_of_ble_eq_true rfl⟩ rfl (Nat.le_of_ble_eq_true rfl) dL_isRaised_83 ?_
    refine g_ladd S.1 dL_isRaised_86 ?_
    refine g_lload S.1 dL_isRaised_87 1 rfl ?_
    refine g_lload S.1 dL_isRaised_89 0 rfl ?_
    refine g_ladd S.1 dL_isRaised_91 ?_
    refine g_iload_n S.1 dL_isRaised_92 5 rfl ?_
    refine g_i2l S.1 dL_isRaised_93 ?_
    refine g_ladd S.1 dL_isRaised_94 ?_
    refine g_lcmp_ne S.1 114 dL_isRaised_95 dL_isRaised_96 (by decide) (fun c => ?_) (fun c => ?_)
    · rw [if_pos c] at hE
      exact g_sub [3, 6, 7] rfl (J114 (x1 * x3) e5 (M18, M6.2) hE)
    · rw [if_neg (not_not_intro c)] at hE
      refine g_aload_n S.1 dL_isRaised_99 3 rfl ?_
      refine g_iload_n S.1 dL_isRaised_100 4 rfl ?_
      obtain ⟨x19, M20, h9, hE⟩ := bo_some hE
      refine qo_D S (n_LL_depth _ _ S.G a1 M18 _ _ h9) fc7 wdX7_depth q_713 ⟨Nat.le_of_ble_eq_true rfl, Nat.le_of_ble_eq_true rfl⟩ rfl (Nat.le_of_ble_eq_true rfl) dL_isRaised_101 ?_
      refine g_dload S.1 dL_isRaised_104 2 rfl ?_
      refine g_dcmpl S.1 dL_isRaised_106 ?_
      refine g_if_lt S.1 114 dL_isRaised_107 (by decide) (fun c => ?_) (fun c => ?_)
      · try simp only [if_pos c] at hE
        refine g_iconst S.1 (0 : Int32) dL_isRaised_114 rfl ?_
        exact g_sub [3, 6, 7] rfl (J115 (x1 * x3) e5 (0 : Int32) (M20, M6.2) hE)
      · try simp only [if_neg c] at hE
        refine g_iconst S.1 (1 : Int32) dL_isRaised_110 rfl ?_
        refine g_goto S.1 115 dL_isRaised_111 (by decide) ?_
        exact g_sub [3, 6, 7] rfl (J115 (x1 * x3) e5 (1 : Int32) (M20, M6.2) hE)
