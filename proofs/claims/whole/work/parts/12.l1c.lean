set_option maxRecDepth 100000 in
set_option maxHeartbeats 4000000 in
theorem c_LK_fill (l : Launch) (Y : Env1) (hG : gY Y = gC) (o : Nat) (ho : kC o = 1) (a1 : Int32) (a2 : Int32) (M : Mem) (r : Int32) (M1 : Mem) (hE : LK_fill o a1 a2 M = some (r, M1)) : CnI l Y yX1_fill cX1_fill 5 .int 1 [.ref (hY Y + o), .int a1, .int a2] M r M1 := by
  refine met_I (own := RX1) (by decide +kernel) rfl hG (Nat.le_of_ble_eq_true rfl) (fun X S hY1 hl1 hret => ?_)
  subst hY1
  subst hl1
  show AW X 0 [(0, .ref (hY X.2.1.2 + o)), (1, .int a1), (2, .int a2)] [] M
  have J39 : ∀ (v0 : Nat) (k0 : kC v0 = 1) (v1 : Int32) (v3 : Int32) (t0 : Int32) (M : Mem), LK_fill_J39 v0 v1 v3 t0 M = some (r, M1) → AW X 39 [(0, .ref (hY X.2.1.2 + v0)), (1, .int v1), (3, .int v3)] [.int t0] M := by
    intro v0 k0 v1 v3 t0 M hE
    unfold LK_fill_J39 at hE
    refine r_istore (lv2 := [(4, .int t0), (0, .ref (hY X.2.1.2 + v0)), (1, .int v1), (3, .int v3)]) S dX1_fill_39 (by decide) rfl ?_
    refine r_aload_n S dX1_fill_41 1 rfl ?_
    refine r_getRK S fc1 k0 1 (v0 + 3) rfl rfl q_41 dX1_fill_42 ?_
    refine r_iload_n S dX1_fill_45 2 rfl ?_
    refine r_iload_n S dX1_fill_46 3 rfl ?_
    refine r_iload S dX1_fill_47 0 rfl ?_
    refine r_iadd S dX1_fill_49 ?_
    refine rc_V S (rn_V S fc3 (kk1_3 k0) (c_NR_put _ _ (gYX S) (v0 + 3) (kk1_3 k0) v1 (v3 + t0) M _ rfl) wdX3_put q_147 ⟨Nat.le_of_ble_eq_true rfl, Nat.le_of_ble_eq_true rfl⟩ rfl (Nat.le_of_ble_eq_true rfl) dX1_fill_50) ?_
    refine r_iload S dX1_fill_53 0 rfl ?_
    obtain ⟨rfl, rfl⟩ := si2 hE
    exact hret _ _ dX1_fill_55
  unfold LK_fill at hE
  refine r_aload_n S dX1_fill_0 0 rfl ?_
  refine r_getRK S fc1 ho 1 (o + 3) rfl rfl q_41 dX1_fill_1 ?_
  refine r_iload_n S dX1_fill_4 1 rfl ?_
  refine rc_I S (rn_V S fc3 (kk1_3 ho) (c_NR_at _ _ (gYX S) (o + 3) (kk1_3 ho) a1 M _ rfl) wdX3_at q_31 ⟨Nat.le_of_ble_eq_true rfl, Nat.le_of_ble_eq_true rfl⟩ rfl (Nat.le_of_ble_eq_true rfl) dX1_fill_5) ?_
  refine r_istore_n (lv2 := [(3, .int (fAtI (o + 3) a1 M)), (0, .ref (hY X.2.1.2 + o)), (1, .int a1), (2, .int a2)]) S dX1_fill_8 (by decide) rfl ?_
  refine r_aload_n S dX1_fill_9 1 rfl ?_
  refine r_getRK S fc1 ho 3 (o + 7) rfl rfl q_121 dX1_fill_10 ?_
  refine r_iload_n S dX1_fill_13 2 rfl ?_
  refine rc_I S (rn_V S fc3 (kk1_7 ho) (c_NR_at _ _ (gYX S) (o + 7) (kk1_7 ho) a1 M _ rfl) wdX3_at q_31 ⟨Nat.le_of_ble_eq_true rfl, Nat.le_of_ble_eq_true rfl⟩ rfl (Nat.le_of_ble_eq_true rfl) dX1_fill_14) ?_
  refine r_iconst S (-1 : Int32) dX1_fill_17 rfl ?_
  refine r_icmp_ne S 25 dX1_fill_18 (by decide) (fun c => ?_) (fun c => ?_)
  · try simp only [if_pos c] at hE
    refine r_iload_n S dX1_fill_25 3 rfl ?_
    refine r_aload_n S dX1_fill_26 1 rfl ?_
    refine r_getRK S fc1 ho 2 (o + 5) rfl rfl q_120 dX1_fill_27 ?_
    refine r_iload_n S dX1_fill_30 2 rfl ?_
    refine rc_I S (rn_V S fc3 (kk1_5 ho) (c_NR_at _ _ (gYX S) (o + 5) (kk1_5 ho) a1 M _ rfl) wdX3_at q_31 ⟨Nat.le_of_ble_eq_true rfl, Nat.le_of_ble_eq_true rfl⟩ rfl (Nat.le_of_ble_eq_true rfl) dX1_fill_31) ?_
    refine r_iload_n S dX1_fill_34 0 rfl ?_
    refine r_isub S dX1_fill_35 ?_
    refine r_mmin S q_152 q_11 q_12 q_13 (by decide) (Nat.le_of_ble_eq_true rfl) dX1_fill_36 ?_
    exact r_sub [1, 2, 0] rfl (J39 o ho a1 (fAtI (o + 3) a1 M) (JM_min a2 ((fAtI (o + 5) a1 M) - (fAtI (o + 3) a1 M))) M hE)
  · try simp only [if_neg (not_not_intro c)] at hE
    refine r_iload_n S dX1_fill_21 3 rfl ?_
    refine r_goto S 39 dX1_fill_22 (by decide) ?_
    exact r_sub [1, 2, 0] rfl (J39 o ho a1 (fAtI (o + 3) a1 M) a2 M hE)
set_option maxRecDepth 100000 in
set_option maxHeartbeats 4000000 in
theorem c_LK_isFull (l : Launch) (Y : Env1) (hG : gY Y = gC) (o : Nat) (ho : kC o = 1) (a1 : Int32) (M : Mem) (r : Int32) (hE : LK_isFull o a1 M = r) : CnI l Y yX1_isFull cX1_isFull 2 .boolean 1 [.ref (hY Y + o), .int a1] M r M := by
  refine met_Z (own := RX1) (by decide +kernel) rfl hG (Nat.le_of_ble_eq_true rfl) (fun X S hY1 hl1 hret => ?_)
  subst hY1
  subst hl1
  show AW X 0 [(0, .ref (hY X.2.1.2 + o)), (1, .int a1)] [] M
  unfold LK_isFull at hE
  refine r_aload_n S dX1_isFull_0 0 rfl ?_
  refine r_getRK S fc1 ho 3 (o + 7) rfl rfl q_121 dX1_isFull_1 ?_
  refine r_iload_n S dX1_isFull_4 1 rfl ?_
  refine rc_I S (rn_V S fc3 (kk1_7 ho) (c_NR_at _ _ (gYX S) (o + 7) (kk1_7 ho) a1 M _ rfl) wdX3_at q_31 ⟨Nat.le_of_ble_eq_true rfl, Nat.le_of_ble_eq_true rfl⟩ rfl (Nat.le_of_ble_eq_true rfl) dX1_isFull_5) ?_
  refine r_iconst S (-1 : Int32) dX1_isFull_8 rfl ?_
  refine r_icmp_eq S 35 dX1_isFull_9 (by decide) (fun c => ?_) (fun c => ?_)
  · try simp only [if_pos c] at hE
    refine r_iconst S (0 : Int32) dX1_isFull_35 rfl ?_
    subst hE
    exact hret _ _ _ dX1_isFull_36 (by decide)
  · try simp only [if_neg c] at hE
    refine r_aload_n S dX1_isFull_12 0 rfl ?_
    refine r_getRK S fc1 ho 1 (o + 3) rfl rfl q_41 dX1_isFull_13 ?_
    refine r_iload_n S dX1_isFull_16 1 rfl ?_
    refine rc_I S (rn_V S fc3 (kk1_3 ho) (c_NR_at _ _ (gYX S) (o + 3) (kk1_3 ho) a1 M _ rfl) wdX3_at q_31 ⟨Nat.le_of_ble_eq_true rfl, Nat.le_of_ble_eq_true rfl⟩ rfl (Nat.le_of_ble_eq_true rfl) dX1_isFull_17) ?_
    refine r_aload_n S dX1_isFull_20 0 rfl ?_
    refine r_getRK S fc1 ho 2 (o + 5) rfl rfl q_120 dX1_isFull_21 ?_
    refine r_iload_n S dX1_isFull_24 1 rfl ?_
    refine rc_I S (rn_V S fc3 (kk1_5 ho) (c_NR_at _ _ (gYX S) (o + 5) (kk1_5 ho) a1 M _ rfl) wdX3_at q_31 ⟨Nat.le_of_ble_eq_true rfl, Nat.le_of_ble_eq_true rfl⟩ rfl (Nat.le_of_ble_eq_true rfl) dX1_isFull_25) ?_
    refine r_icmp_ne S 35 dX1_isFull_28 (by decide) (fun c => ?_) (fun c => ?_)
    · try simp only [if_pos c] at hE
      refine r_iconst S (0 : Int32) dX1_isFull_35 rfl ?_
      subst hE
      exact hret _ _ _ dX1_isFull_36 (by decide)
    · try simp only [if_neg (not_not_intro c)] at hE
      refine r_iconst S (1 : Int32) dX1_isFull_31 rfl ?_
      refine r_goto S 36 dX1_isFull_32 (by decide) ?_
      subst hE
      exact hret _ _ _ dX1_isFull_36 (by decide)
set_option maxRecDepth 100000 in
set_option maxHeartbeats 4000000 in
theorem c_LK_freePlace (l : Launch) (Y : Env1) (hG : gY Y = gC) (o : Nat) (ho : kC o = 1) (M : Mem) (r : Int32) (hE : LK_freePlace o M = some r) : CnI l Y yX1_freePlace cX1_freePlace 2 .int 1 [.ref (hY Y + o)] M r M := by
  refine met_I (own := RX1) (by decide +kernel) rfl hG (Nat.le_of_ble_eq_true rfl) (fun X S hY1 hl1 hret => ?_)
  subst hY1
  subst hl1
  show AW X 0 [(0, .ref (hY X.2.1.2 + o))] [] M
  have L2 : ∀ (v0 : Nat) (k0 : kC v0 = 1) (q : ((Unit) ⊕ Int32)), (∀ e, q = .inl e → AW X 29 [] [] M) → (∀ r8, q = .inr r8 → r8 = r) → ∀ (n : Nat) (s : Int32), lpR (fun s => LK_freePlace_L2 v0 s M) n s = some q → AW X 2 [(0, .ref (hY X.2.1.2 + v0)), (1, .int s)] [] M := by
    intro v0 k0 q hX hR
    refine lpR_ind (P := fun (s : Int32) => AW X 2 [(0, .ref (hY X.2.1.2 + v0)), (1, .int s)] [] M) ?_
    rintro v1 d hE hC hD
    replace hE : LK_freePlace_L2 v0 v1 M = some d := hE
    show AW X 2 [(0, .ref (hY X.2.1.2 + v0)), (1, .int v1)] [] M
    unfold LK_freePlace_L2 at hE
    refine r_iload_n S dX1_freePlace_2 1 rfl ?_
    refine r_bipush S (71 : Int32) dX1_freePlace_3 rfl ?_
    refine r_icmp_ge S 29 dX1_freePlace_5 (by decide) (fun c => ?_) (fun c => ?_)
    · rw [if_pos c] at hE
      obtain rfl := si1 hE
      rcases hD with h1 | ⟨_, h1⟩
      · obtain rfl := sir h1
        exact r_sub [] rfl (hX _ rfl)
      · exact (sil h1).elim
    · rw [if_neg c] at hE
      refine r_aload_n S dX1_freePlace_8 0 rfl ?_
      refine r_getRK S fc1 k0 0 (v0 + 1) rfl rfl q_23 dX1_freePlace_9 ?_
      refine r_iload_n S dX1_freePlace_12 1 rfl ?_
      refine rc_L S (rn_V S fc4 (kk1_1 k0) (c_SR_at _ _ (gYX S) (v0 + 1) (kk1_1 k0) v1 M _ rfl) wdX4_at q_24 ⟨Nat.le_of_ble_eq_true rfl, Nat.le_of_ble_eq_true rfl⟩ rfl (Nat.le_of_ble_eq_true rfl) dX1_freePlace_13) ?_
      refine r_lconst S (0 : Int64) dX1_freePlace_16 rfl ?_
      refine r_lcmp_ne S 23 dX1_freePlace_17 dX1_freePlace_18 (by decide) (fun c => ?_) (fun c => ?_)
      · rw [if_pos c] at hE
        refine r_iinc (lv2 := [(1, .int (v1 + (1 : Int32))), (0, .ref (hY X.2.1.2 + v0))]) S dX1_freePlace_23 (j := 1) rfl (by decide) rfl ?_
        refine r_goto S 2 dX1_freePlace_26 (by decide) ?_
        obtain rfl := si1 hE
        exact r_sub (lv2 := [(0, .ref (hY X.2.1.2 + v0)), (1, .int (v1 + (1 : Int32)))]) [1, 0] rfl (hC (v1 + (1 : Int32)) rfl)
      · rw [if_neg (not_not_intro c)] at hE
        refine r_iload_n S dX1_freePlace_21 1 rfl ?_
        obtain rfl := si1 hE
        rcases hD with h1 | ⟨_, h1⟩
        · obtain rfl := sir h1
          obtain rfl := hR _ rfl
          exact hret _ _ dX1_freePlace_22
        · exact (sil h1).elim
  unfold LK_freePlace at hE
  refine r_iconst S (0 : Int32) dX1_freePlace_0 rfl ?_
  refine r_istore_n (lv2 := [(1, .int (0 : Int32)), (0, .ref (hY X.2.1.2 + o))]) S dX1_freePlace_1 (by decide) rfl ?_
  obtain ⟨e1, h9, hE⟩ := b1_some hE
  refine r_sub [1, 0] rfl (L2 o ho  e1 (fun e2 h8 => ?_) (fun r8 h8 => ?_) _ _  h9)
  · subst h8
    refine r_iconst S (-1 : Int32) dX1_freePlace_29 rfl ?_
    obtain rfl := si1 hE
    exact hret _ _ dX1_freePlace_30
  · subst h8
    exact si1 hE
set_option maxRecDepth 100000 in
set_option maxHeartbeats 4000000 in
theorem c_LK_findPass (l : Launch) (Y : Env1) (hG : gY Y = gC) (o : Nat) (ho : kC o = 1) (a1 : Nat) (k1 : kC a1 = 0) (a2 : Int32) (M : Mem) (r : Unit) (M1 : Mem) (hE : LK_findPass o a1 a2 M = some (r, M1)) : CnV l Y yX1_findPass cX1_findPass 8 1 [.ref (hY Y + o), .ref (hY Y + a1), .int a2] M M1 := by
  refine met_V (own := RX1) (by decide +kernel) rfl hG (Nat.le_of_ble_eq_true rfl) (fun X S hY1 hl1 hret => ?_)
  subst hY1
  subst hl1
  show AW X 0 [(0, .ref (hY X.2.1.2 + o)), (1, .ref (hY X.2.1.2 + a1)), (2, .int a2)] [] M
  have L15 : ∀ (v0 : Nat) (k0 : kC v0 = 1) (v1 : Nat) (k1 : kC v1 = 0) (v2 : Int32) (v3 : Int64) (M : Mem) (e : (Int32)), AW X 100 [(0, .ref (hY X.2.1.2 + v0)), (2, .int v2), (5, .int e)] [] M → ∀ (n : Nat) (s : Int32 × Int32), lpR (fun s => LK_findPass_L15 v0 v1 v2 v3 s.1 s.2 M) n s = some e → AW X 15 [(0, .ref (hY X.2.1.2 + v0)), (1, .ref (hY X.2.1.2 + v1)), (2, .int v2), (3, .long v3), (5, .int s.1), (6, .int s.2)] [] M := by
    intro v0 k0 v1 k1 v2 v3 M e hX
    refine lpR_ind (P := fun (s : Int32 × Int32) => AW X 15 [(0, .ref (hY X.2.1.2 + v0)), (1, .ref (hY X.2.1.2 + v1)), (2, .int v2), (3, .long v3), (5, .int s.1), (6, .int s.2)] [] M) ?_
    rintro ⟨v5, v6⟩ d hE hC hD
    replace hE : LK_findPass_L15 v0 v1 v2 v3 v5 v6 M = some d := hE
    show AW X 15 [(0, .ref (hY X.2.1.2 + v0)), (1, .ref (hY X.2.1.2 + v1)), (2, .int v2), (3, .long v3), (5, .int v5), (6, .int v6)] [] M
    unfold LK_findPass_L15 at hE
    refine r_iload S dX1_findPass_15 5 rfl ?_
    refine r_iconst S (4 : Int32) dX1_findPass_17 rfl ?_
    refine r_aload_n S dX1_findPass_18 1 rfl ?_
    refine r_getIN S fc0 k1 2 rfl q_29 dX1_findPass_19 ?_
    refine r_imul S dX1_findPass_22 ?_
    refine r_icmp_ge S 100 dX1_findPass_23 (by decide) (fun c => ?_) (fun c => ?_)
    · rw [if_pos c] at hE
      obtain rfl := si1 hE
      rcases hD with h1 | ⟨_, h1⟩
      · obtain rfl := sir h1
        exact r_sub [0, 2, 4] rfl hX
      · exact (sil h1).elim
    · rw [if_neg c] at hE
      refine r_aload_n S dX1_findPass_26 1 rfl ?_
      refine r_getRKN S fc0 k1 5 (v1 + 3) rfl rfl q_153 dX1_findPass_27 ?_
      refine r_iload S dX1_findPass_30 5 rfl ?_
      refine rc_I S (rn_V S fc3 (kk0_3 k1) (c_NR_at _ _ (gYX S) (v1 + 3) (kk0_3 k1) v6 M _ rfl) wdX3_at q_31 ⟨Nat.le_of_ble_eq_true rfl, Nat.le_of_ble_eq_true rfl⟩ rfl (Nat.le_of_ble_eq_true rfl) dX1_findPass_32) ?_
      refine r_istore (lv2 := [(7, .int (fAtI (v1 + 3) v6 M)), (0, .ref (hY X.2.1.2 + v0)), (1, .ref (hY X.2.1.2 + v1)), (2, .int v2), (3, .long v3), (5, .int v5), (6, .int v6)]) S dX1_findPass_35 (by decide) rfl ?_
      refine r_lload_n S dX1_findPass_37 4 rfl ?_
      refine r_iload S dX1_findPass_38 6 rfl ?_
      refine r_iconst S (4 : Int32) dX1_findPass_40 rfl ?_
      refine r_idiv S dX1_findPass_41 (by decide) ?_
      refine rc_I S (rn_SN S (c_LL_has _ _ (gYX S) v3 (v6 / (4 : Int32)) M _ rfl) wdX7_has q_37 ⟨Nat.le_of_ble_eq_true rfl, Nat.le_of_ble_eq_true rfl⟩ rfl (Nat.le_of_ble_eq_true rfl) dX1_findPass_42) ?_
      refine r_if_eq S 94 dX1_findPass_45 (by decide) (fun c => ?_) (fun c => ?_)
      · try simp only [if_pos c] at hE
        refine r_iinc (lv2 := [(6, .int (v6 + (1 : Int32))), (7, .int (fAtI (v1 + 3) v6 M)), (0, .ref (hY X.2.1.2 + v0)), (1, .ref (hY X.2.1.2 + v1)), (2, .int v2), (3, .long v3), (5, .int v5)]) S dX1_findPass_94 (j := 6) rfl (by decide) rfl ?_
        refine r_goto S 15 dX1_findPass_97 (by decide) ?_
        obtain rfl := si1 hE
        exact r_sub (lv2 := [(0, .ref (hY X.2.1.2 + v0)), (1, .ref (hY X.2.1.2 + v1)), (2, .int v2), (3, .long v3), (5, .int v5), (6, .int (v6 + (1 : Int32)))]) [2, 3, 4, 5, 6, 0] rfl (hC (v5, (v6 + (1 : Int32))) rfl)
      · try simp only [if_neg c] at hE
        refine r_iload S dX1_findPass_48 0 rfl ?_
        refine r_iconst S (-1 : Int32) dX1_findPass_50 rfl ?_
        refine r_icmp_eq S 94 dX1_findPass_51 (by decide) (fun c => ?_) (fun c => ?_)
        · try simp only [if_pos c] at hE
          refine r_iinc (lv2 := [(6, .int (v6 + (1 : Int32))), (7, .int (fAtI (v1 + 3) v6 M)), (0, .ref (hY X.2.1.2 + v0)), (1, .ref (hY X.2.1.2 + v1)), (2, .int v2), (3, .long v3), (5, .int v5)]) S dX1_findPass_94 (j := 6) rfl (by decide) rfl ?_
          refine r_goto S 15 dX1_findPass_97 (by decide) ?_
          obtain rfl := si1 hE
          exact r_sub (lv2 := [(0, .ref (hY X.2.1.2 + v0)), (1, .ref (hY X.2.1.2 + v1)), (2, .int v2), (3, .long v3), (5, .int v5), (6, .int (v6 + (1 : Int32)))]) [2, 3, 4, 5, 6, 0] rfl (hC (v5, (v6 + (1 : Int32))) rfl)
        · try simp only [if_neg c] at hE
          refine r_lload_n S dX1_findPass_54 4 rfl ?_
          refine r_iload S dX1_findPass_55 0 rfl ?_
          refine rc_I S (rn_SN S (c_LL_has _ _ (gYX S) v3 (fAtI (v1 + 3) v6 M) M _ rfl) wdX7_has q_37 ⟨Nat.le_of_ble_eq_true rfl, Nat.le_of_ble_eq_true rfl⟩ rfl (Nat.le_of_ble_eq_true rfl) dX1_findPass_57) ?_
          refine r_if_ne S 94 dX1_findPass_60 (by decide) (fun c => ?_) (fun c => ?_)
          · try simp only [if_pos c] at hE
            refine r_iinc (lv2 := [(6, .int (v6 + (1 : Int32))), (7, .int (fAtI (v1 + 3) v6 M)), (0, .ref (hY X.2.1.2 + v0)), (1, .ref (hY X.2.1.2 + v1)), (2, .int v2), (3, .long v3), (5, .int v5)]) S dX1_findPass_94 (j := 6) rfl (by decide) rfl ?_
            refine r_goto S 15 dX1_findPass_97 (by decide) ?_
            obtain rfl := si1 hE
            exact r_sub (lv2 := [(0, .ref (hY X.2.1.2 + v0)), (1, .ref (hY X.2.1.2 + v1)), (2, .int v2), (3, .long v3), (5, .int v5), (6, .int (v6 + (1 : Int32)))]) [2, 3, 4, 5, 6, 0] rfl (hC (v5, (v6 + (1 : Int32))) rfl)
          · try simp only [if_neg (not_not_intro c)] at hE
            refine r_iload S dX1_findPass_63 5 rfl ?_
            refine r_iconst S (-1 : Int32) dX1_findPass_65 rfl ?_
            refine r_icmp_eq S 90 dX1_findPass_66 (by decide) (fun c => ?_) (fun c => ?_)
            · try simp only [if_pos c] at hE
              refine r_iload S dX1_findPass_90 6 rfl ?_
              refine r_istore (lv2 := [(5, .int v6), (7, .int (fAtI (v1 + 3) v6 M)), (0, .ref (hY X.2.1.2 + v0)), (1, .ref (hY X.2.1.2 + v1)), (2, .int v2), (3, .long v3), (6, .int v6)]) S dX1_findPass_92 (by decide) rfl ?_
              refine r_iinc (lv2 := [(6, .int (v6 + (1 : Int32))), (5, .int v6), (7, .int (fAtI (v1 + 3) v6 M)), (0, .ref (hY X.2.1.2 + v0)), (1, .ref (hY X.2.1.2 + v1)), (2, .int v2), (3, .long v3)]) S dX1_findPass_94 (j := 6) rfl (by decide) rfl ?_
              refine r_goto S 15 dX1_findPass_97 (by decide) ?_
              obtain rfl := si1 hE
              exact r_sub (lv2 := [(0, .ref (hY X.2.1.2 + v0)), (1, .ref (hY X.2.1.2 + v1)), (2, .int v2), (3, .long v3), (5, .int v6), (6, .int (v6 + (1 : Int32)))]) [3, 4, 5, 6, 1, 0] rfl (hC (v6, (v6 + (1 : Int32))) rfl)
            · try simp only [if_neg c] at hE
              refine r_aload_n S dX1_findPass_69 2 rfl ?_
              refine r_getRKN S fc0 k1 7 (v1 + 7) rfl rfl q_154 dX1_findPass_70 ?_
              refine r_iload S dX1_findPass_73 6 rfl ?_
              refine rc_I S (rn_V S fc3 (kk0_7 k1) (c_NR_at _ _ (gYX S) (v1 + 7) (kk0_7 k1) v6 M _ rfl) wdX3_at q_31 ⟨Nat.le_of_ble_eq_true rfl, Nat.le_of_ble_eq_true rfl⟩ rfl (Nat.le_of_ble_eq_true rfl) dX1_findPass_75) ?_
              refine r_aload_n S dX1_findPass_78 2 rfl ?_
              refine r_getRKN S fc0 k1 7 (v1 + 7) rfl rfl q_154 dX1_findPass_79 ?_
              refine r_iload S dX1_findPass_82 5 rfl ?_
              refine rc_I S (rn_V S fc3 (kk0_7 k1) (c_NR_at _ _ (gYX S) (v1 + 7) (kk0_7 k1) v5 M _ rfl) wdX3_at q_31 ⟨Nat.le_of_ble_eq_true rfl, Nat.le_of_ble_eq_true rfl⟩ rfl (Nat.le_of_ble_eq_true rfl) dX1_findPass_84) ?_
              refine r_icmp_ge S 94 dX1_findPass_87 (by decide) (fun c => ?_) (fun c => ?_)
              · try simp only [if_pos c] at hE
                refine r_iinc (lv2 := [(6, .int (v6 + (1 : Int32))), (7, .int (fAtI (v1 + 3) v6 M)), (0, .ref (hY X.2.1.2 + v0)), (1, .ref (hY X.2.1.2 + v1)), (2, .int v2), (3, .long v3), (5, .int v5)]) S dX1_findPass_94 (j := 6) rfl (by decide) rfl ?_
                refine r_goto S 15 dX1_findPass_97 (by decide) ?_
                obtain rfl := si1 hE
                exact r_sub (lv2 := [(0, .ref (hY X.2.1.2 + v0)), (1, .ref (hY X.2.1.2 + v1)), (2, .int v2), (3, .long v3), (5, .int v5), (6, .int (v6 + (1 : Int32)))]) [2, 3, 4, 5, 6, 0] rfl (hC (v5, (v6 + (1 : Int32))) rfl)
              · try simp only [if_neg c] at hE
                refine r_iload S dX1_findPass_90 6 rfl ?_
                refine r_istore (lv2 := [(5, .int v6), (7, .int (fAtI (v1 + 3) v6 M)), (0, .ref (hY X.2.1.2 + v0)), (1, .ref (hY X.2.1.2 + v1)), (2, .int v2), (3, .long v3), (6, .int v6)]) S dX1_findPass_92 (by decide) rfl ?_
                refine r_iinc (lv2 := [(6, .int (v6 + (1 : Int32))), (5, .int v6), (7, .int (fAtI (v1 + 3) v6 M)), (0, .ref (hY X.2.1.2 + v0)), (1, .ref (hY X.2.1.2 + v1)), (2, .int v2), (3, .long v3)]) S dX1_findPass_94 (j := 6) rfl (by decide) rfl ?_
                refine r_goto S 15 dX1_findPass_97 (by decide) ?_
                obtain rfl := si1 hE
                exact r_sub (lv2 := [(0, .ref (hY X.2.1.2 + v0)), (1, .ref (hY X.2.1.2 + v1)), (2, .int v2), (3, .long v3), (5, .int v6), (6, .int (v6 + (1 : Int32)))]) [3, 4, 5, 6, 1, 0] rfl (hC (v6, (v6 + (1 : Int32))) rfl)
  unfold LK_findPass at hE
  refine r_aload_n S dX1_findPass_0 0 rfl ?_
  refine r_getRK S fc1 ho 0 (o + 1) rfl rfl q_23 dX1_findPass_1 ?_
  refine r_iload_n S dX1_findPass_4 2 rfl ?_
  refine rc_L S (rn_V S fc4 (kk1_1 ho) (c_SR_at _ _ (gYX S) (o + 1) (kk1_1 ho) a2 M _ rfl) wdX4_at q_24 ⟨Nat.le_of_ble_eq_true rfl, Nat.le_of_ble_eq_true rfl⟩ rfl (Nat.le_of_ble_eq_true rfl) dX1_findPass_5) ?_
  refine r_lstore_n (lv2 := [(3, .long (fAtL (o + 1) a2 M)), (0, .ref (hY X.2.1.2 + o)), (1, .ref (hY X.2.1.2 + a1)), (2, .int a2)]) S dX1_findPass_8 (by decide) rfl ?_
  refine r_iconst S (-1 : Int32) dX1_findPass_9 rfl ?_
  refine r_istore (lv2 := [(5, .int (-1 : Int32)), (3, .long (fAtL (o + 1) a2 M)), (0, .ref (hY X.2.1.2 + o)), (1, .ref (hY X.2.1.2 + a1)), (2, .int a2)]) S dX1_findPass_10 (by decide) rfl ?_
  refine r_iconst S (0 : Int32) dX1_findPass_12 rfl ?_
  refine r_istore (lv2 := [(6, .int (0 : Int32)), (5, .int (-1 : Int32)), (3, .long (fAtL (o + 1) a2 M)), (0, .ref (hY X.2.1.2 + o)), (1, .ref (hY X.2.1.2 + a1)), (2, .int a2)]) S dX1_findPass_13 (by decide) rfl ?_
  obtain ⟨e1, h9, hE⟩ := b1_some hE
  refine r_sub [3, 4, 5, 2, 1, 0] rfl (L15 o ho a1 k1 a2 (fAtL (o + 1) a2 M) M e1 ?_ _ _  h9)
  refine r_aload_n S dX1_findPass_100 0 rfl ?_
  refine r_getRK S fc1 ho 3 (o + 7) rfl rfl q_121 dX1_findPass_101 ?_
  refine r_iload_n S dX1_findPass_104 1 rfl ?_
  refine r_iload S dX1_findPass_105 2 rfl ?_
  refine rc_V S (rn_V S fc3 (kk1_7 ho) (c_NR_put _ _ (gYX S) (o + 7) (kk1_7 ho) a2 e1 M _ rfl) wdX3_put q_147 ⟨Nat.le_of_ble_eq_true rfl, Nat.le_of_ble_eq_true rfl⟩ rfl (Nat.le_of_ble_eq_true rfl) dX1_findPass_107) ?_
  obtain ⟨rfl, rfl⟩ := si2 hE
  exact hret _ _ dX1_findPass_110
set_option maxRecDepth 100000 in
set_option maxHeartbeats 4000000 in
theorem c_LK_findCapacity (l : Launch) (Y : Env1) (hG : gY Y = gC) (o : Nat) (ho : kC o = 1) (a1 : Nat) (k1 : kC a1 = 0) (a2 : Int32) (M : Mem) (r : Unit) (M1 : Mem) (hE : LK_findCapacity o a1 a2 M = some (r, M1)) : CnV l Y yX1_findCapacity cX1_findCapacity 7 1 [.ref (hY Y + o), .ref (hY Y + a1), .int a2] M M1 := by
  refine met_V (own := RX1) (by decide +kernel) rfl hG (Nat.le_of_ble_eq_true rfl) (fun X S hY1 hl1 hret => ?_)
  subst hY1
  subst hl1
  show AW X 0 [(0, .ref (hY X.2.1.2 + o)), (1, .ref (hY X.2.1.2 + a1)), (2, .int a2)] [] M
  have L15 : ∀ (v0 : Nat) (k0 : kC v0 = 1) (v1 : Nat) (k1 : kC v1 = 0) (v2 : Int32) (v3 : Int32) (M : Mem) (e : (Int32)), AW X 82 [(0, .ref (hY X.2.1.2 + v0)), (2, .int v2), (3, .int v3), (4, .int e)] [] M → ∀ (n : Nat) (s : Int32 × Int32), lpR (fun s => LK_findCapacity_L15 v0 v1 v2 v3 s.1 s.2 M) n s = some e → AW X 15 [(0, .ref (hY X.2.1.2 + v0)), (1, .ref (hY X.2.1.2 + v1)), (2, .int v2), (3, .int v3), (4, .int s.1), (5, .int s.2)] [] M := by
    intro v0 k0 v1 k1 v2 v3 M e hX
    refine lpR_ind (P := fun (s : Int32 × Int32) => AW X 15 [(0, .ref (hY X.2.1.2 + v0)), (1, .ref (hY X.2.1.2 + v1)), (2, .int v2), (3, .int v3), (4, .int s.1), (5, .int s.2)] [] M) ?_
    rintro ⟨v4, v5⟩ d hE hC hD
    replace hE : LK_findCapacity_L15 v0 v1 v2 v3 v4 v5 M = some d := hE
    show AW X 15 [(0, .ref (hY X.2.1.2 + v0)), (1, .ref (hY X.2.1.2 + v1)), (2, .int v2), (3, .int v3), (4, .int v4), (5, .int v5)] [] M
    unfold LK_findCapacity_L15 at hE
    refine r_iload S dX1_findCapacity_15 5 rfl ?_
    refine r_aload_n S dX1_findCapacity_17 1 rfl ?_
    refine r_getIN S fc0 k1 2 rfl q_29 dX1_findCapacity_18 ?_
    refine r_icmp_ge S 82 dX1_findCapacity_21 (by decide) (fun c => ?_) (fun c => ?_)
    · rw [if_pos c] at hE
      obtain rfl := si1 hE
      rcases hD with h1 | ⟨_, h1⟩
      · obtain rfl := sir h1
        exact r_sub [0, 2, 3, 4] rfl hX
      · exact (sil h1).elim
    · rw [if_neg c] at hE
      refine r_aload_n S dX1_findCapacity_24 1 rfl ?_
      refine r_getRKN S fc0 k1 7 (v1 + 7) rfl rfl q_154 dX1_findCapacity_25 ?_
      refine r_iload_n S dX1_findCapacity_28 3 rfl ?_
      refine rc_I S (rn_V S fc3 (kk0_7 k1) (c_NR_at _ _ (gYX S) (v1 + 7) (kk0_7 k1) v3 M _ rfl) wdX3_at q_31 ⟨Nat.le_of_ble_eq_true rfl, Nat.le_of_ble_eq_true rfl⟩ rfl (Nat.le_of_ble_eq_true rfl) dX1_findCapacity_29) ?_
      refine r_aload_n S dX1_findCapacity_32 1 rfl ?_
      refine r_getRKN S fc0 k1 4 (v1 + 1) rfl rfl q_36 dX1_findCapacity_33 ?_
      refine r_iload S dX1_findCapacity_36 5 rfl ?_
      refine rc_I S (rn_V S fc3 (kk0_1 k1) (c_NR_at _ _ (gYX S) (v1 + 1) (kk0_1 k1) v5 M _ rfl) wdX3_at q_31 ⟨Nat.le_of_ble_eq_true rfl, Nat.le_of_ble_eq_true rfl⟩ rfl (Nat.le_of_ble_eq_true rfl) dX1_findCapacity_38) ?_
      refine r_isub S dX1_findCapacity_41 ?_
      refine r_istore (lv2 := [(6, .int ((fAtI (v1 + 7) v3 M) - (fAtI (v1 + 1) v5 M))), (0, .ref (hY X.2.1.2 + v0)), (1, .ref (hY X.2.1.2 + v1)), (2, .int v2), (3, .int v3), (4, .int v4), (5, .int v5)]) S dX1_findCapacity_42 (by decide) rfl ?_
      refine r_iload S dX1_findCapacity_44 5 rfl ?_
      refine r_aload_n S dX1_findCapacity_46 1 rfl ?_
      refine r_getRK S fc1 k0 0 (v0 + 1) rfl rfl q_23 dX1_findCapacity_47 ?_
      refine r_iload_n S dX1_findCapacity_50 3 rfl ?_
      refine rc_L S (rn_V S fc4 (kk1_1 k0) (c_SR_at _ _ (gYX S) (v0 + 1) (kk1_1 k0) v2 M _ rfl) wdX4_at q_24 ⟨Nat.le_of_ble_eq_true rfl, Nat.le_of_ble_eq_true rfl⟩ rfl (Nat.le_of_ble_eq_true rfl) dX1_findCapacity_51) ?_
      refine r_iload S dX1_findCapacity_54 6 rfl ?_
      refine rc_I S (rn_SN S (c_LL_has _ _ (gYX S) (fAtL (v0 + 1) v2 M) v5 M _ rfl) wdX7_has q_37 ⟨Nat.le_of_ble_eq_true rfl, Nat.le_of_ble_eq_true rfl⟩ rfl (Nat.le_of_ble_eq_true rfl) dX1_findCapacity_56) ?_
      refine r_if_eq S 72 dX1_findCapacity_59 (by decide) (fun c => ?_) (fun c => ?_)
      · try simp only [if_pos c] at hE
        refine r_iconst S (0 : Int32) dX1_findCapacity_72 rfl ?_
        refine r_iadd S dX1_findCapacity_73 ?_
        refine r_istore (lv2 := [(4, .int (v4 + (0 : Int32))), (6, .int ((fAtI (v1 + 7) v3 M) - (fAtI (v1 + 1) v5 M))), (0, .ref (hY X.2.1.2 + v0)), (1, .ref (hY X.2.1.2 + v1)), (2, .int v2), (3, .int v3), (5, .int v5)]) S dX1_findCapacity_74 (by decide) rfl ?_
        refine r_iinc (lv2 := [(5, .int (v5 + (1 : Int32))), (4, .int (v4 + (0 : Int32))), (6, .int ((fAtI (v1 + 7) v3 M) - (fAtI (v1 + 1) v5 M))), (0, .ref (hY X.2.1.2 + v0)), (1, .ref (hY X.2.1.2 + v1)), (2, .int v2), (3, .int v3)]) S dX1_findCapacity_76 (j := 6) rfl (by decide) rfl ?_
        refine r_goto S 15 dX1_findCapacity_79 (by decide) ?_
        obtain rfl := si1 hE
        exact r_sub (lv2 := [(0, .ref (hY X.2.1.2 + v0)), (1, .ref (hY X.2.1.2 + v1)), (2, .int v2), (3, .int v3), (4, .int (v4 + (0 : Int32))), (5, .int (v5 + (1 : Int32)))]) [3, 4, 5, 6, 1, 0] rfl (hC ((v4 + (0 : Int32)), (v5 + (1 : Int32))) rfl)
      · try simp only [if_neg c] at hE
        refine r_iload S dX1_findCapacity_62 0 rfl ?_
        refine r_if_le S 72 dX1_findCapacity_64 (by decide) (fun c => ?_) (fun c => ?_)
        · try simp only [if_pos c] at hE
          refine r_iconst S (0 : Int32) dX1_findCapacity_72 rfl ?_
          refine r_iadd S dX1_findCapacity_73 ?_
          refine r_istore (lv2 := [(4, .int (v4 + (0 : Int32))), (6, .int ((fAtI (v1 + 7) v3 M) - (fAtI (v1 + 1) v5 M))), (0, .ref (hY X.2.1.2 + v0)), (1, .ref (hY X.2.1.2 + v1)), (2, .int v2), (3, .int v3), (5, .int v5)]) S dX1_findCapacity_74 (by decide) rfl ?_
          refine r_iinc (lv2 := [(5, .int (v5 + (1 : Int32))), (4, .int (v4 + (0 : Int32))), (6, .int ((fAtI (v1 + 7) v3 M) - (fAtI (v1 + 1) v5 M))), (0, .ref (hY X.2.1.2 + v0)), (1, .ref (hY X.2.1.2 + v1)), (2, .int v2), (3, .int v3)]) S dX1_findCapacity_76 (j := 6) rfl (by decide) rfl ?_
          refine r_goto S 15 dX1_findCapacity_79 (by decide) ?_
          obtain rfl := si1 hE
          exact r_sub (lv2 := [(0, .ref (hY X.2.1.2 + v0)), (1, .ref (hY X.2.1.2 + v1)), (2, .int v2), (3, .int v3), (4, .int (v4 + (0 : Int32))), (5, .int (v5 + (1 : Int32)))]) [3, 4, 5, 6, 1, 0] rfl (hC ((v4 + (0 : Int32)), (v5 + (1 : Int32))) rfl)
        · try simp only [if_neg c] at hE
          refine r_iload S dX1_findCapacity_67 0 rfl ?_
          refine r_goto S 73 dX1_findCapacity_69 (by decide) ?_
          refine r_iadd S dX1_findCapacity_73 ?_
          refine r_istore (lv2 := [(4, .int (v4 + ((fAtI (v1 + 7) v3 M) - (fAtI (v1 + 1) v5 M)))), (6, .int ((fAtI (v1 + 7) v3 M) - (fAtI (v1 + 1) v5 M))), (0, .ref (hY X.2.1.2 + v0)), (1, .ref (hY X.2.1.2 + v1)), (2, .int v2), (3, .int v3), (5, .int v5)]) S dX1_findCapacity_74 (by decide) rfl ?_
          refine r_iinc (lv2 := [(5, .int (v5 + (1 : Int32))), (4, .int (v4 + ((fAtI (v1 + 7) v3 M) - (fAtI (v1 + 1) v5 M)))), (6, .int ((fAtI (v1 + 7) v3 M) - (fAtI (v1 + 1) v5 M))), (0, .ref (hY X.2.1.2 + v0)), (1, .ref (hY X.2.1.2 + v1)), (2, .int v2), (3, .int v3)]) S dX1_findCapacity_76 (j := 6) rfl (by decide) rfl ?_
          refine r_goto S 15 dX1_findCapacity_79 (by decide) ?_
          obtain rfl := si1 hE
          exact r_sub (lv2 := [(0, .ref (hY X.2.1.2 + v0)), (1, .ref (hY X.2.1.2 + v1)), (2, .int v2), (3, .int v3), (4, .int (v4 + ((fAtI (v1 + 7) v3 M) - (fAtI (v1 + 1) v5 M)))), (5, .int (v5 + (1 : Int32)))]) [3, 4, 5, 6, 1, 0] rfl (hC ((v4 + ((fAtI (v1 + 7) v3 M) - (fAtI (v1 + 1) v5 M))), (v5 + (1 : Int32))) rfl)
  have J98 : ∀ (t0 : Int32) (t1 : Int32) (t2 : Nat) (kt2 : kC t2 = 3) (M : Mem), LK_findCapacity_J98 t0 t1 t2 M = some (r, M1) → AW X 98 [] [.int t0, .int t1, .ref (hY X.2.1.2 + t2)] M := by
    intro t0 t1 t2 kt2 M hE
    unfold LK_findCapacity_J98 at hE
    refine rc_V S (rn_V S fc3 kt2 (c_NR_put _ _ (gYX S) t2 kt2 t1 t0 M _ rfl) wdX3_put q_147 ⟨Nat.le_of_ble_eq_true rfl, Nat.le_of_ble_eq_true rfl⟩ rfl (Nat.le_of_ble_eq_true rfl) dX1_findCapacity_98) ?_
    obtain ⟨rfl, rfl⟩ := si2 hE
    exact hret _ _ dX1_findCapacity_101
  unfold LK_findCapacity at hE
  refine r_aload_n S dX1_findCapacity_0 0 rfl ?_
  refine r_getRK S fc1 ho 3 (o + 7) rfl rfl q_121 dX1_findCapacity_1 ?_
  refine r_iload_n S dX1_findCapacity_4 2 rfl ?_
  refine rc_I S (rn_V S fc3 (kk1_7 ho) (c_NR_at _ _ (gYX S) (o + 7) (kk1_7 ho) a2 M _ rfl) wdX3_at q_31 ⟨Nat.le_of_ble_eq_true rfl, Nat.le_of_ble_eq_true rfl⟩ rfl (Nat.le_of_ble_eq_true rfl) dX1_findCapacity_5) ?_
  refine r_istore_n (lv2 := [(3, .int (fAtI (o + 7) a2 M)), (0, .ref (hY X.2.1.2 + o)), (1, .ref (hY X.2.1.2 + a1)), (2, .int a2)]) S dX1_findCapacity_8 (by decide) rfl ?_
  refine r_iconst S (0 : Int32) dX1_findCapacity_9 rfl ?_
  refine r_istore (lv2 := [(4, .int (0 : Int32)), (3, .int (fAtI (o + 7) a2 M)), (0, .ref (hY X.2.1.2 + o)), (1, .ref (hY X.2.1.2 + a1)), (2, .int a2)]) S dX1_findCapacity_10 (by decide) rfl ?_
  refine r_iconst S (0 : Int32) dX1_findCapacity_12 rfl ?_
  refine r_istore (lv2 := [(5, .int (0 : Int32)), (4, .int (0 : Int32)), (3, .int (fAtI (o + 7) a2 M)), (0, .ref (hY X.2.1.2 + o)), (1, .ref (hY X.2.1.2 + a1)), (2, .int a2)]) S dX1_findCapacity_13 (by decide) rfl ?_
  obtain ⟨e1, h9, hE⟩ := b1_some hE
  refine r_sub [3, 4, 5, 2, 1, 0] rfl (L15 o ho a1 k1 a2 (fAtI (o + 7) a2 M) M e1 ?_ _ _  h9)
  refine r_aload_n S dX1_findCapacity_82 0 rfl ?_
  refine r_getRK S fc1 ho 2 (o + 5) rfl rfl q_120 dX1_findCapacity_83 ?_
  refine r_iload_n S dX1_findCapacity_86 1 rfl ?_
  refine r_iload_n S dX1_findCapacity_87 2 rfl ?_
  refine r_iconst S (-1 : Int32) dX1_findCapacity_88 rfl ?_
  refine r_icmp_ne S 96 dX1_findCapacity_89 (by decide) (fun c => ?_) (fun c => ?_)
  · try simp only [if_pos c] at hE
    refine r_iload S dX1_findCapacity_96 3 rfl ?_
    exact r_sub [] rfl (J98 e1 a2 (o + 5) (kk1_5 ho) M hE)
  · try simp only [if_neg (not_not_intro c)] at hE
    refine r_iconst S (-1 : Int32) dX1_findCapacity_92 rfl ?_
    refine r_goto S 98 dX1_findCapacity_93 (by decide) ?_
    exact r_sub [] rfl (J98 (-1 : Int32) a2 (o + 5) (kk1_5 ho) M hE)
set_option maxRecDepth 100000 in
set_option maxHeartbeats 4000000 in
theorem c_LK_claimCells (l : Launch) (Y : Env1) (hG : gY Y = gC) (o : Nat) (ho : kC o = 1) (a1 : Int32) (M : Mem) (r : Unit) (M1 : Mem) (hE : LK_claimCells o a1 M = some (r, M1)) : CnV l Y yX1_claimCells cX1_claimCells 3 1 [.ref (hY Y + o), .int a1] M M1 := by
  refine met_V (own := RX1) (by decide +kernel) rfl hG (Nat.le_of_ble_eq_true rfl) (fun X S hY1 hl1 hret => ?_)
  subst hY1
  subst hl1
  show AW X 0 [(0, .ref (hY X.2.1.2 + o)), (1, .int a1)] [] M
  have L2 : ∀ (v0 : Nat) (k0 : kC v0 = 1) (v1 : Int32) (e : (Unit)) (M2 : Mem), AW X 38 [] [] M2 → ∀ (n : Nat) (s : Int32) (M : Mem), lpM (fun s M => LK_claimCells_L2 v0 v1 s M) n s M = some (e, M2) → AW X 2 [(0, .ref (hY X.2.1.2 + v0)), (1, .int v1), (2, .int s)] [] M := by
    intro v0 k0 v1 e M2 hX
    refine lpM_ind (P := fun (s : Int32) (M : Mem) => AW X 2 [(0, .ref (hY X.2.1.2 + v0)), (1, .int v1), (2, .int s)] [] M) ?_
    rintro v2 M d M3 hE hC hD
    replace hE : LK_claimCells_L2 v0 v1 v2 M = some (d, M3) := hE
    show AW X 2 [(0, .ref (hY X.2.1.2 + v0)), (1, .int v1), (2, .int v2)] [] M
    unfold LK_claimCells_L2 at hE
    refine r_iload_n S dX1_claimCells_2 2 rfl ?_
    refine r_bipush S (36 : Int32) dX1_claimCells_3 rfl ?_
    refine r_icmp_ge S 38 dX1_claimCells_5 (by decide) (fun c => ?_) (fun c => ?_)
    · rw [if_pos c] at hE
      obtain ⟨rfl, rfl⟩ := si2 hE
      rcases hD with ⟨h1, h2⟩ | ⟨_, h1⟩
      · obtain rfl := sir h1
        subst h2
        exact r_sub [] rfl hX
      · exact (sil h1).elim
    · rw [if_neg c] at hE
      refine r_aload_n S dX1_claimCells_8 0 rfl ?_
      refine r_getRK S fc1 k0 0 (v0 + 1) rfl rfl q_23 dX1_claimCells_9 ?_
      refine r_iload_n S dX1_claimCells_12 1 rfl ?_
      refine rc_L S (rn_V S fc4 (kk1_1 k0) (c_SR_at _ _ (gYX S) (v0 + 1) (kk1_1 k0) v1 M _ rfl) wdX4_at q_24 ⟨Nat.le_of_ble_eq_true rfl, Nat.le_of_ble_eq_true rfl⟩ rfl (Nat.le_of_ble_eq_true rfl) dX1_claimCells_13) ?_
      refine r_iload_n S dX1_claimCells_16 2 rfl ?_
      refine rc_I S (rn_SN S (c_LL_has _ _ (gYX S) (fAtL (v0 + 1) v1 M) v2 M _ rfl) wdX7_has q_37 ⟨Nat.le_of_ble_eq_true rfl, Nat.le_of_ble_eq_true rfl⟩ rfl (Nat.le_of_ble_eq_true rfl) dX1_claimCells_17) ?_
      refine r_if_eq S 32 dX1_claimCells_20 (by decide) (fun c => ?_) (fun c => ?_)
      · rw [if_pos c] at hE
        refine r_iinc (lv2 := [(2, .int (v2 + (1 : Int32))), (0, .ref (hY X.2.1.2 + v0)), (1, .int v1)]) S dX1_claimCells_32 (j := 2) rfl (by decide) rfl ?_
        refine r_goto S 2 dX1_claimCells_35 (by decide) ?_
        obtain ⟨rfl, rfl⟩ := si2 hE
        exact r_sub (lv2 := [(0, .ref (hY X.2.1.2 + v0)), (1, .int v1), (2, .int (v2 + (1 : Int32)))]) [1, 2, 0] rfl (hC (v2 + (1 : Int32)) rfl)
      · rw [if_neg c] at hE
        refine r_aload_n S dX1_claimCells_23 0 rfl ?_
        refine r_getRK S fc1 k0 8 (v0 + 17) rfl rfl q_86 dX1_claimCells_24 ?_
        refine r_iload_n S dX1_claimCells_27 2 rfl ?_
        refine r_iload_n S dX1_claimCells_28 1 rfl ?_
        refine rc_V S (rn_V S fc3 (kk1_17 k0) (c_NR_put _ _ (gYX S) (v0 + 17) (kk1_17 k0) v2 v1 M _ rfl) wdX3_put q_147 ⟨Nat.le_of_ble_eq_true rfl, Nat.le_of_ble_eq_true rfl⟩ rfl (Nat.le_of_ble_eq_true rfl) dX1_claimCells_29) ?_
        refine r_iinc (lv2 := [(2, .int (v2 + (1 : Int32))), (0, .ref (hY X.2.1.2 + v0)), (1, .int v1)]) S dX1_claimCells_32 (j := 2) rfl (by decide) rfl ?_
        refine r_goto S 2 dX1_claimCells_35 (by decide) ?_
        obtain ⟨rfl, rfl⟩ := si2 hE
        exact r_sub (lv2 := [(0, .ref (hY X.2.1.2 + v0)), (1, .int v1), (2, .int (v2 + (1 : Int32)))]) [1, 2, 0] rfl (hC (v2 + (1 : Int32)) rfl)
  unfold LK_claimCells at hE
  refine r_iconst S (0 : Int32) dX1_claimCells_0 rfl ?_
  refine r_istore_n (lv2 := [(2, .int (0 : Int32)), (0, .ref (hY X.2.1.2 + o)), (1, .int a1)]) S dX1_claimCells_1 (by decide) rfl ?_
  obtain ⟨e1, M2, h9, hE⟩ := b2_some hE
  refine r_sub [1, 2, 0] rfl (L2 o ho a1  e1 M2 ?_ _ _ M h9)
  obtain ⟨rfl, rfl⟩ := si2 hE
  exact hret _ _ dX1_claimCells_38
set_option maxRecDepth 100000 in
set_option maxHeartbeats 4000000 in
theorem c_LK_join (l : Launch) (Y : Env1) (hG : gY Y = gC) (o : Nat) (ho : kC o = 1) (a1 : Nat) (k1 : kC a1 = 0) (a2 : Int32) (a3 : Int32) (M : Mem) (r : Int32) (M1 : Mem) (hE : LK_join o a1 a2 a3 M = some (r, M1)) : CnI l Y yX1_join cX1_join 6 .int 2 [.ref (hY Y + o), .ref (hY Y + a1), .int a2, .int a3] M r M1 := by
  refine met_I (own := RX1) (by decide +kernel) rfl hG (Nat.le_of_ble_eq_true rfl) (fun X S hY1 hl1 hret => ?_)
  subst hY1
  subst hl1
  show AW X 0 [(0, .ref (hY X.2.1.2 + o)), (1, .ref (hY X.2.1.2 + a1)), (2, .int a2), (3, .int a3)] [] M
  have J73 : ∀ (v0 : Nat) (k0 : kC v0 = 1) (v1 : Nat) (k1 : kC v1 = 0) (v2 : Int32) (v3 : Int32) (v4 : Int32) (t0 : Int32) (t1 : Int32) (t2 : Nat) (kt2 : kC t2 = 3) (M : Mem), LK_join_J73 v0 v1 v2 v3 v4 t0 t1 t2 M = some (r, M1) → AW X 73 [(0, .ref (hY X.2.1.2 + v0)), (1, .ref (hY X.2.1.2 + v1)), (2, .int v2), (3, .int v3), (4, .int v4)] [.int t0, .int t1, .ref (hY X.2.1.2 + t2)] M := by
    intro v0 k0 v1 k1 v2 v3 v4 t0 t1 t2 kt2 M hE
    unfold LK_join_J73 at hE
    refine rc_V S (rn_V S fc3 kt2 (c_NR_put _ _ (gYX S) t2 kt2 t1 t0 M _ rfl) wdX3_put q_147 ⟨Nat.le_of_ble_eq_true rfl, Nat.le_of_ble_eq_true rfl⟩ rfl (Nat.le_of_ble_eq_true rfl) dX1_join_73) ?_
    refine r_aload_n S dX1_join_76 0 rfl ?_
    refine r_getRK S fc1 k0 0 (v0 + 1) rfl rfl q_23 dX1_join_77 ?_
    refine r_iload S dX1_join_80 4 rfl ?_
    refine r_aload_n S dX1_join_82 0 rfl ?_
    refine r_getRK S fc1 k0 0 (v0 + 1) rfl rfl q_23 dX1_join_83 ?_
    refine r_iload_n S dX1_join_86 2 rfl ?_
    refine rc_L S (rn_V S fc4 (kk1_1 k0) (c_SR_at _ _ (gYX S) (v0 + 1) (kk1_1 k0) v2 (fPutI t2 t1 t0 M) _ rfl) wdX4_at q_24 ⟨Nat.le_of_ble_eq_true rfl, Nat.le_of_ble_eq_true rfl⟩ rfl (Nat.le_of_ble_eq_true rfl) dX1_join_87) ?_
    refine r_aload_n S dX1_join_90 0 rfl ?_
    refine r_getRK S fc1 k0 0 (v0 + 1) rfl rfl q_23 dX1_join_91 ?_
    refine r_iload_n S dX1_join_94 3 rfl ?_
    refine rc_L S (rn_V S fc4 (kk1_1 k0) (c_SR_at _ _ (gYX S) (v0 + 1) (kk1_1 k0) v3 (fPutI t2 t1 t0 M) _ rfl) wdX4_at q_24 ⟨Nat.le_of_ble_eq_true rfl, Nat.le_of_ble_eq_true rfl⟩ rfl (Nat.le_of_ble_eq_true rfl) dX1_join_95) ?_
    refine r_lor S dX1_join_98 ?_
    refine rc_V S (rn_V S fc4 (kk1_1 k0) (c_SR_put _ _ (gYX S) (v0 + 1) (kk1_1 k0) v4 ((fAtL (v0 + 1) v2 (fPutI t2 t1 t0 M)) ||| (fAtL (v0 + 1) v3 (fPutI t2 t1 t0 M))) (fPutI t2 t1 t0 M) _ rfl) wdX4_put q_160 ⟨Nat.le_of_ble_eq_true rfl, Nat.le_of_ble_eq_true rfl⟩ rfl (Nat.le_of_ble_eq_true rfl) dX1_join_99) ?_
    refine r_aload_n S dX1_join_102 0 rfl ?_
    refine r_getRK S fc1 k0 1 (v0 + 3) rfl rfl q_41 dX1_join_103 ?_
    refine r_iload S dX1_join_106 4 rfl ?_
    refine r_aload_n S dX1_join_108 0 rfl ?_
    refine r_getRK S fc1 k0 1 (v0 + 3) rfl rfl q_41 dX1_join_109 ?_
    refine r_iload_n S dX1_join_112 2 rfl ?_
    refine rc_I S (rn_V S fc3 (kk1_3 k0) (c_NR_at _ _ (gYX S) (v0 + 3) (kk1_3 k0) v2 (fPutL (v0 + 1) v4 ((fAtL (v0 + 1) v2 (fPutI t2 t1 t0 M)) ||| (fAtL (v0 + 1) v3 (fPutI t2 t1 t0 M))) (fPutI t2 t1 t0 M)) _ rfl) wdX3_at q_31 ⟨Nat.le_of_ble_eq_true rfl, Nat.le_of_ble_eq_true rfl⟩ rfl (Nat.le_of_ble_eq_true rfl) dX1_join_113) ?_
    refine r_aload_n S dX1_join_116 0 rfl ?_
    refine r_getRK S fc1 k0 1 (v0 + 3) rfl rfl q_41 dX1_join_117 ?_
    refine r_iload_n S dX1_join_120 3 rfl ?_
    refine rc_I S (rn_V S fc3 (kk1_3 k0) (c_NR_at _ _ (gYX S) (v0 + 3) (kk1_3 k0) v3 (fPutL (v0 + 1) v4 ((fAtL (v0 + 1) v2 (fPutI t2 t1 t0 M)) ||| (fAtL (v0 + 1) v3 (fPutI t2 t1 t0 M))) (fPutI t2 t1 t0 M)) _ rfl) wdX3_at q_31 ⟨Nat.le_of_ble_eq_true rfl, Nat.le_of_ble_eq_true rfl⟩ rfl (Nat.le_of_ble_eq_true rfl) dX1_join_121) ?_
    refine r_iadd S dX1_join_124 ?_
    refine rc_V S (rn_V S fc3 (kk1_3 k0) (c_NR_put _ _ (gYX S) (v0 + 3) (kk1_3 k0) v4 ((fAtI (v0 + 3) v2 (fPutL (v0 + 1) v4 ((fAtL (v0 + 1) v2 (fPutI t2 t1 t0 M)) ||| (fAtL (v0 + 1) v3 (fPutI t2 t1 t0 M))) (fPutI t2 t1 t0 M))) + (fAtI (v0 + 3) v3 (fPutL (v0 + 1) v4 ((fAtL (v0 + 1) v2 (fPutI t2 t1 t0 M)) ||| (fAtL (v0 + 1) v3 (fPutI t2 t1 t0 M))) (fPutI t2 t1 t0 M)))) (fPutL (v0 + 1) v4 ((fAtL (v0 + 1) v2 (fPutI t2 t1 t0 M)) ||| (fAtL (v0 + 1) v3 (fPutI t2 t1 t0 M))) (fPutI t2 t1 t0 M)) _ rfl) wdX3_put q_147 ⟨Nat.le_of_ble_eq_true rfl, Nat.le_of_ble_eq_true rfl⟩ rfl (Nat.le_of_ble_eq_true rfl) dX1_join_125) ?_
    refine r_aload_n S dX1_join_128 0 rfl ?_
    refine r_getRK S fc1 k0 4 (v0 + 9) rfl rfl q_122 dX1_join_129 ?_
    refine r_iload S dX1_join_132 4 rfl ?_
    refine r_aload_n S dX1_join_134 0 rfl ?_
    refine r_getRK S fc1 k0 2 (v0 + 5) rfl rfl q_120 dX1_join_135 ?_
    refine r_iload_n S dX1_join_138 2 rfl ?_
    refine rc_I S (rn_V S fc3 (kk1_5 k0) (c_NR_at _ _ (gYX S) (v0 + 5) (kk1_5 k0) v2 (fPutI (v0 + 3) v4 ((fAtI (v0 + 3) v2 (fPutL (v0 + 1) v4 ((fAtL (v0 + 1) v2 (fPutI t2 t1 t0 M)) ||| (fAtL (v0 + 1) v3 (fPutI t2 t1 t0 M))) (fPutI t2 t1 t0 M))) + (fAtI (v0 + 3) v3 (fPutL (v0 + 1) v4 ((fAtL (v0 + 1) v2 (fPutI t2 t1 t0 M)) ||| (fAtL (v0 + 1) v3 (fPutI t2 t1 t0 M))) (fPutI t2 t1 t0 M)))) (fPutL (v0 + 1) v4 ((fAtL (v0 + 1) v2 (fPutI t2 t1 t0 M)) ||| (fAtL (v0 + 1) v3 (fPutI t2 t1 t0 M))) (fPutI t2 t1 t0 M))) _ rfl) wdX3_at q_31 ⟨Nat.le_of_ble_eq_true rfl, Nat.le_of_ble_eq_true rfl⟩ rfl (Nat.le_of_ble_eq_true rfl) dX1_join_139) ?_
    refine r_aload_n S dX1_join_142 0 rfl ?_
    refine r_getRK S fc1 k0 2 (v0 + 5) rfl rfl q_120 dX1_join_143 ?_
    refine r_iload_n S dX1_join_146 3 rfl ?_
    refine rc_I S (rn_V S fc3 (kk1_5 k0) (c_NR_at _ _ (gYX S) (v0 + 5) (kk1_5 k0) v3 (fPutI (v0 + 3) v4 ((fAtI (v0 + 3) v2 (fPutL (v0 + 1) v4 ((fAtL (v0 + 1) v2 (fPutI t2 t1 t0 M)) ||| (fAtL (v0 + 1) v3 (fPutI t2 t1 t0 M))) (fPutI t2 t1 t0 M))) + (fAtI (v0 + 3) v3 (fPutL (v0 + 1) v4 ((fAtL (v0 + 1) v2 (fPutI t2 t1 t0 M)) ||| (fAtL (v0 + 1) v3 (fPutI t2 t1 t0 M))) (fPutI t2 t1 t0 M)))) (fPutL (v0 + 1) v4 ((fAtL (v0 + 1) v2 (fPutI t2 t1 t0 M)) ||| (fAtL (v0 + 1) v3 (fPutI t2 t1 t0 M))) (fPutI t2 t1 t0 M))) _ rfl) wdX3_at q_31 ⟨Nat.le_of_ble_eq_true rfl, Nat.le_of_ble_eq_true rfl⟩ rfl (Nat.le_of_ble_eq_true rfl) dX1_join_147) ?_
    refine r_iadd S dX1_join_150 ?_
    refine rc_V S (rn_V S fc3 (kk1_9 k0) (c_NR_put _ _ (gYX S) (v0 + 9) (kk1_9 k0) v4 ((fAtI (v0 + 5) v2 (fPutI (v0 + 3) v4 ((fAtI (v0 + 3) v2 (fPutL (v0 + 1) v4 ((fAtL (v0 + 1) v2 (fPutI t2 t1 t0 M)) ||| (fAtL (v0 + 1) v3 (fPutI t2 t1 t0 M))) (fPutI t2 t1 t0 M))) + (fAtI (v0 + 3) v3 (fPutL (v0 + 1) v4 ((fAtL (v0 + 1) v2 (fPutI t2 t1 t0 M)) ||| (fAtL (v0 + 1) v3 (fPutI t2 t1 t0 M))) (fPutI t2 t1 t0 M)))) (fPutL (v0 + 1) v4 ((fAtL (v0 + 1) v2 (fPutI t2 t1 t0 M)) ||| (fAtL (v0 + 1) v3 (fPutI t2 t1 t0 M))) (fPutI t2 t1 t0 M)))) + (fAtI (v0 + 5) v3 (fPutI (v0 + 3) v4 ((fAtI (v0 + 3) v2 (fPutL (v0 + 1) v4 ((fAtL (v0 + 1) v2 (fPutI t2 t1 t0 M)) ||| (fAtL (v0 + 1) v3 (fPutI t2 t1 t0 M))) (fPutI t2 t1 t0 M))) + (fAtI (v0 + 3) v3 (fPutL (v0 + 1) v4 ((fAtL (v0 + 1) v2 (fPutI t2 t1 t0 M)) ||| (fAtL (v0 + 1) v3 (fPutI t2 t1 t0 M))) (fPutI t2 t1 t0 M)))) (fPutL (v0 + 1) v4 ((fAtL (v0 + 1) v2 (fPutI t2 t1 t0 M)) ||| (fAtL (v0 + 1) v3 (fPutI t2 t1 t0 M))) (fPutI t2 t1 t0 M))))) (fPutI (v0 + 3) v4 ((fAtI (v0 + 3) v2 (fPutL (v0 + 1) v4 ((fAtL (v0 + 1) v2 (fPutI t2 t1 t0 M)) ||| (fAtL (v0 + 1) v3 (fPutI t2 t1 t0 M))) (fPutI t2 t1 t0 M))) + (fAtI (v0 + 3) v3 (fPutL (v0 + 1) v4 ((fAtL (v0 + 1) v2 (fPutI t2 t1 t0 M)) ||| (fAtL (v0 + 1) v3 (fPutI t2 t1 t0 M))) (fPutI t2 t1 t0 M)))) (fPutL (v0 + 1) v4 ((fAtL (v0 + 1) v2 (fPutI t2 t1 t0 M)) ||| (fAtL (v0 + 1) v3 (fPutI t2 t1 t0 M))) (fPutI t2 t1 t0 M))) _ rfl) wdX3_put q_147 ⟨Nat.le_of_ble_eq_true rfl, Nat.le_of_ble_eq_true rfl⟩ rfl (Nat.le_of_ble_eq_true rfl) dX1_join_151) ?_
    refine r_aload_n S dX1_join_154 0 rfl ?_
    refine r_getRK S fc1 k0 5 (v0 + 11) rfl rfl q_123 dX1_join_155 ?_
    refine r_iload S dX1_join_158 4 rfl ?_
    refine r_aload_n S dX1_join_160 0 rfl ?_
    refine r_getRK S fc1 k0 5 (v0 + 11) rfl rfl q_123 dX1_join_161 ?_
    refine r_iload_n S dX1_join_164 2 rfl ?_
    refine rc_I S (rn_V S fc3 (kk1_11 k0) (c_NR_at _ _ (gYX S) (v0 + 11) (kk1_11 k0) v2 (fPutI (v0 + 9) v4 ((fAtI (v0 + 5) v2 (fPutI (v0 + 3) v4 ((fAtI (v0 + 3) v2 (fPutL (v0 + 1) v4 ((fAtL (v0 + 1) v2 (fPutI t2 t1 t0 M)) ||| (fAtL (v0 + 1) v3 (fPutI t2 t1 t0 M))) (fPutI t2 t1 t0 M))) + (fAtI (v0 + 3) v3 (fPutL (v0 + 1) v4 ((fAtL (v0 + 1) v2 (fPutI t2 t1 t0 M)) ||| (fAtL (v0 + 1) v3 (fPutI t2 t1 t0 M))) (fPutI t2 t1 t0 M)))) (fPutL (v0 + 1) v4 ((fAtL (v0 + 1) v2 (fPutI t2 t1 t0 M)) ||| (fAtL (v0 + 1) v3 (fPutI t2 t1 t0 M))) (fPutI t2 t1 t0 M)))) + (fAtI (v0 + 5) v3 (fPutI (v0 + 3) v4 ((fAtI (v0 + 3) v2 (fPutL (v0 + 1) v4 ((fAtL (v0 + 1) v2 (fPutI t2 t1 t0 M)) ||| (fAtL (v0 + 1) v3 (fPutI t2 t1 t0 M))) (fPutI t2 t1 t0 M))) + (fAtI (v0 + 3) v3 (fPutL (v0 + 1) v4 ((fAtL (v0 + 1) v2 (fPutI t2 t1 t0 M)) ||| (fAtL (v0 + 1) v3 (fPutI t2 t1 t0 M))) (fPutI t2 t1 t0 M)))) (fPutL (v0 + 1) v4 ((fAtL (v0 + 1) v2 (fPutI t2 t1 t0 M)) ||| (fAtL (v0 + 1) v3 (fPutI t2 t1 t0 M))) (fPutI t2 t1 t0 M))))) (fPutI (v0 + 3) v4 ((fAtI (v0 + 3) v2 (fPutL (v0 + 1) v4 ((fAtL (v0 + 1) v2 (fPutI t2 t1 t0 M)) ||| (fAtL (v0 + 1) v3 (fPutI t2 t1 t0 M))) (fPutI t2 t1 t0 M))) + (fAtI (v0 + 3) v3 (fPutL (v0 + 1) v4 ((fAtL (v0 + 1) v2 (fPutI t2 t1 t0 M)) ||| (fAtL (v0 + 1) v3 (fPutI t2 t1 t0 M))) (fPutI t2 t1 t0 M)))) (fPutL (v0 + 1) v4 ((fAtL (v0 + 1) v2 (fPutI t2 t1 t0 M)) ||| (fAtL (v0 + 1) v3 (fPutI t2 t1 t0 M))) (fPutI t2 t1 t0 M)))) _ rfl) wdX3_at q_31 ⟨Nat.le_of_ble_eq_true rfl, Nat.le_of_ble_eq_true rfl⟩ rfl (Nat.le_of_ble_eq_true rfl) dX1_join_165) ?_
    refine r_aload_n S dX1_join_168 0 rfl ?_
    refine r_getRK S fc1 k0 5 (v0 + 11) rfl rfl q_123 dX1_join_169 ?_
    refine r_iload_n S dX1_join_172 3 rfl ?_
    refine rc_I S (rn_V S fc3 (kk1_11 k0) (c_NR_at _ _ (gYX S) (v0 + 11) (kk1_11 k0) v3 (fPutI (v0 + 9) v4 ((fAtI (v0 + 5) v2 (fPutI (v0 + 3) v4 ((fAtI (v0 + 3) v2 (fPutL (v0 + 1) v4 ((fAtL (v0 + 1) v2 (fPutI t2 t1 t0 M)) ||| (fAtL (v0 + 1) v3 (fPutI t2 t1 t0 M))) (fPutI t2 t1 t0 M))) + (fAtI (v0 + 3) v3 (fPutL (v0 + 1) v4 ((fAtL (v0 + 1) v2 (fPutI t2 t1 t0 M)) ||| (fAtL (v0 + 1) v3 (fPutI t2 t1 t0 M))) (fPutI t2 t1 t0 M)))) (fPutL (v0 + 1) v4 ((fAtL (v0 + 1) v2 (fPutI t2 t1 t0 M)) ||| (fAtL (v0 + 1) v3 (fPutI t2 t1 t0 M))) (fPutI t2 t1 t0 M)))) + (fAtI (v0 + 5) v3 (fPutI (v0 + 3) v4 ((fAtI (v0 + 3) v2 (fPutL (v0 + 1) v4 ((fAtL (v0 + 1) v2 (fPutI t2 t1 t0 M)) ||| (fAtL (v0 + 1) v3 (fPutI t2 t1 t0 M))) (fPutI t2 t1 t0 M))) + (fAtI (v0 + 3) v3 (fPutL (v0 + 1) v4 ((fAtL (v0 + 1) v2 (fPutI t2 t1 t0 M)) ||| (fAtL (v0 + 1) v3 (fPutI t2 t1 t0 M))) (fPutI t2 t1 t0 M)))) (fPutL (v0 + 1) v4 ((fAtL (v0 + 1) v2 (fPutI t2 t1 t0 M)) ||| (fAtL (v0 + 1) v3 (fPutI t2 t1 t0 M))) (fPutI t2 t1 t0 M))))) (fPutI (v0 + 3) v4 ((fAtI (v0 + 3) v2 (fPutL (v0 + 1) v4 ((fAtL (v0 + 1) v2 (fPutI t2 t1 t0 M)) ||| (fAtL (v0 + 1) v3 (fPutI t2 t1 t0 M))) (fPutI t2 t1 t0 M))) + (fAtI (v0 + 3) v3 (fPutL (v0 + 1) v4 ((fAtL (v0 + 1) v2 (fPutI t2 t1 t0 M)) ||| (fAtL (v0 + 1) v3 (fPutI t2 t1 t0 M))) (fPutI t2 t1 t0 M)))) (fPutL (v0 + 1) v4 ((fAtL (v0 + 1) v2 (fPutI t2 t1 t0 M)) ||| (fAtL (v0 + 1) v3 (fPutI t2 t1 t0 M))) (fPutI t2 t1 t0 M)))) _ rfl) wdX3_at q_31 ⟨Nat.le_of_ble_eq_true rfl, Nat.le_of_ble_eq_true rfl⟩ rfl (Nat.le_of_ble_eq_true rfl) dX1_join_173) ?_
    refine r_iadd S dX1_join_176 ?_
    refine rc_V S (rn_V S fc3 (kk1_11 k0) (c_NR_put _ _ (gYX S) (v0 + 11) (kk1_11 k0) v4 ((fAtI (v0 + 11) v2 (fPutI (v0 + 9) v4 ((fAtI (v0 + 5) v2 (fPutI (v0 + 3) v4 ((fAtI (v0 + 3) v2 (fPutL (v0 + 1) v4 ((fAtL (v0 + 1) v2 (fPutI t2 t1 t0 M)) ||| (fAtL (v0 + 1) v3 (fPutI t2 t1 t0 M))) (fPutI t2 t1 t0 M))) + (fAtI (v0 + 3) v3 (fPutL (v0 + 1) v4 ((fAtL (v0 + 1) v2 (fPutI t2 t1 t0 M)) ||| (fAtL (v0 + 1) v3 (fPutI t2 t1 t0 M))) (fPutI t2 t1 t0 M)))) (fPutL (v0 + 1) v4 ((fAtL (v0 + 1) v2 (fPutI t2 t1 t0 M)) ||| (fAtL (v0 + 1) v3 (fPutI t2 t1 t0 M))) (fPutI t2 t1 t0 M)))) + (fAtI (v0 + 5) v3 (fPutI (v0 + 3) v4 ((fAtI (v0 + 3) v2 (fPutL (v0 + 1) v4 ((fAtL (v0 + 1) v2 (fPutI t2 t1 t0 M)) ||| (fAtL (v0 + 1) v3 (fPutI t2 t1 t0 M))) (fPutI t2 t1 t0 M))) + (fAtI (v0 + 3) v3 (fPutL (v0 + 1) v4 ((fAtL (v0 + 1) v2 (fPutI t2 t1 t0 M)) ||| (fAtL (v0 + 1) v3 (fPutI t2 t1 t0 M))) (fPutI t2 t1 t0 M)))) (fPutL (v0 + 1) v4 ((fAtL (v0 + 1) v2 (fPutI t2 t1 t0 M)) ||| (fAtL (v0 + 1) v3 (fPutI t2 t1 t0 M))) (fPutI t2 t1 t0 M))))) (fPutI (v0 + 3) v4 ((fAtI (v0 + 3) v2 (fPutL (v0 + 1) v4 ((fAtL (v0 + 1) v2 (fPutI t2 t1 t0 M)) ||| (fAtL (v0 + 1) v3 (fPutI t2 t1 t0 M))) (fPutI t2 t1 t0 M))) + (fAtI (v0 + 3) v3 (fPutL (v0 + 1) v4 ((fAtL (v0 + 1) v2 (fPutI t2 t1 t0 M)) ||| (fAtL (v0 + 1) v3 (fPutI t2 t1 t0 M))) (fPutI t2 t1 t0 M)))) (fPutL (v0 + 1) v4 ((fAtL (v0 + 1) v2 (fPutI t2 t1 t0 M)) ||| (fAtL (v0 + 1) v3 (fPutI t2 t1 t0 M))) (fPutI t2 t1 t0 M))))) + (fAtI (v0 + 11) v3 (fPutI (v0 + 9) v4 ((fAtI (v0 + 5) v2 (fPutI (v0 + 3) v4 ((fAtI (v0 + 3) v2 (fPutL (v0 + 1) v4 ((fAtL (v0 + 1) v2 (fPutI t2 t1 t0 M)) ||| (fAtL (v0 + 1) v3 (fPutI t2 t1 t0 M))) (fPutI t2 t1 t0 M))) + (fAtI (v0 + 3) v3 (fPutL (v0 + 1) v4 ((fAtL (v0 + 1) v2 (fPutI t2 t1 t0 M)) ||| (fAtL (v0 + 1) v3 (fPutI t2 t1 t0 M))) (fPutI t2 t1 t0 M)))) (fPutL (v0 + 1) v4 ((fAtL (v0 + 1) v2 (fPutI t2 t1 t0 M)) ||| (fAtL (v0 + 1) v3 (fPutI t2 t1 t0 M))) (fPutI t2 t1 t0 M)))) + (fAtI (v0 + 5) v3 (fPutI (v0 + 3) v4 ((fAtI (v0 + 3) v2 (fPutL (v0 + 1) v4 ((fAtL (v0 + 1) v2 (fPutI t2 t1 t0 M)) ||| (fAtL (v0 + 1) v3 (fPutI t2 t1 t0 M))) (fPutI t2 t1 t0 M))) + (fAtI (v0 + 3) v3 (fPutL (v0 + 1) v4 ((fAtL (v0 + 1) v2 (fPutI t2 t1 t0 M)) ||| (fAtL (v0 + 1) v3 (fPutI t2 t1 t0 M))) (fPutI t2 t1 t0 M)))) (fPutL (v0 + 1) v4 ((fAtL (v0 + 1) v2 (fPutI t2 t1 t0 M)) ||| (fAtL (v0 + 1) v3 (fPutI t2 t1 t0 M))) (fPutI t2 t1 t0 M))))) (fPutI (v0 + 3) v4 ((fAtI (v0 + 3) v2 (fPutL (v0 + 1) v4 ((fAtL (v0 + 1) v2 (fPutI t2 t1 t0 M)) ||| (fAtL (v0 + 1) v3 (fPutI t2 t1 t0 M))) (fPutI t2 t1 t0 M))) + (fAtI (v0 + 3) v3 (fPutL (v0 + 1) v4 ((fAtL (v0 + 1) v2 (fPutI t2 t1 t0 M)) ||| (fAtL (v0 + 1) v3 (fPutI t2 t1 t0 M))) (fPutI t2 t1 t0 M)))) (fPutL (v0 + 1) v4 ((fAtL (v0 + 1) v2 (fPutI t2 t1 t0 M)) ||| (fAtL (v0 + 1) v3 (fPutI t2 t1 t0 M))) (fPutI t2 t1 t0 M)))))) (fPutI (v0 + 9) v4 ((fAtI (v0 + 5) v2 (fPutI (v0 + 3) v4 ((fAtI (v0 + 3) v2 (fPutL (v0 + 1) v4 ((fAtL (v0 + 1) v2 (fPutI t2 t1 t0 M)) ||| (fAtL (v0 + 1) v3 (fPutI t2 t1 t0 M))) (fPutI t2 t1 t0 M))) + (fAtI (v0 + 3) v3 (fPutL (v0 + 1) v4 ((fAtL (v0 + 1) v2 (fPutI t2 t1 t0 M)) ||| (fAtL (v0 + 1) v3 (fPutI t2 t1 t0 M))) (fPutI t2 t1 t0 M)))) (fPutL (v0 + 1) v4 ((fAtL (v0 + 1) v2 (fPutI t2 t1 t0 M)) ||| (fAtL (v0 + 1) v3 (fPutI t2 t1 t0 M))) (fPutI t2 t1 t0 M)))) + (fAtI (v0 + 5) v3 (fPutI (v0 + 3) v4 ((fAtI (v0 + 3) v2 (fPutL (v0 + 1) v4 ((fAtL (v0 + 1) v2 (fPutI t2 t1 t0 M)) ||| (fAtL (v0 + 1) v3 (fPutI t2 t1 t0 M))) (fPutI t2 t1 t0 M))) + (fAtI (v0 + 3) v3 (fPutL (v0 + 1) v4 ((fAtL (v0 + 1) v2 (fPutI t2 t1 t0 M)) ||| (fAtL (v0 + 1) v3 (fPutI t2 t1 t0 M))) (fPutI t2 t1 t0 M)))) (fPutL (v0 + 1) v4 ((fAtL (v0 + 1) v2 (fPutI t2 t1 t0 M)) ||| (fAtL (v0 + 1) v3 (fPutI t2 t1 t0 M))) (fPutI t2 t1 t0 M))))) (fPutI (v0 + 3) v4 ((fAtI (v0 + 3) v2 (fPutL (v0 + 1) v4 ((fAtL (v0 + 1) v2 (fPutI t2 t1 t0 M)) ||| (fAtL (v0 + 1) v3 (fPutI t2 t1 t0 M))) (fPutI t2 t1 t0 M))) + (fAtI (v0 + 3) v3 (fPutL (v0 + 1) v4 ((fAtL (v0 + 1) v2 (fPutI t2 t1 t0 M)) ||| (fAtL (v0 + 1) v3 (fPutI t2 t1 t0 M))) (fPutI t2 t1 t0 M)))) (fPutL (v0 + 1) v4 ((fAtL (v0 + 1) v2 (fPutI t2 t1 t0 M)) ||| (fAtL (v0 + 1) v3 (fPutI t2 t1 t0 M))) (fPutI t2 t1 t0 M)))) _ rfl) wdX3_put q_147 ⟨Nat.le_of_ble_eq_true rfl, Nat.le_of_ble_eq_true rfl⟩ rfl (Nat.le_of_ble_eq_true rfl) dX1_join_177) ?_
    refine r_aload_n S dX1_join_180 0 rfl ?_
    refine r_aload_n S dX1_join_181 1 rfl ?_
    refine r_iload S dX1_join_182 4 rfl ?_
    obtain ⟨x1, M2, h9, hE⟩ := b2_some hE
    refine rc_V S (rn_V S fc1 k0 (c_LK_findPass _ _ (gYX S) v0 k0 v1 k1 v4 (fPutI (v0 + 11) v4 ((fAtI (v0 + 11) v2 (fPutI (v0 + 9) v4 ((fAtI (v0 + 5) v2 (fPutI (v0 + 3) v4 ((fAtI (v0 + 3) v2 (fPutL (v0 + 1) v4 ((fAtL (v0 + 1) v2 (fPutI t2 t1 t0 M)) ||| (fAtL (v0 + 1) v3 (fPutI t2 t1 t0 M))) (fPutI t2 t1 t0 M))) + (fAtI (v0 + 3) v3 (fPutL (v0 + 1) v4 ((fAtL (v0 + 1) v2 (fPutI t2 t1 t0 M)) ||| (fAtL (v0 + 1) v3 (fPutI t2 t1 t0 M))) (fPutI t2 t1 t0 M)))) (fPutL (v0 + 1) v4 ((fAtL (v0 + 1) v2 (fPutI t2 t1 t0 M)) ||| (fAtL (v0 + 1) v3 (fPutI t2 t1 t0 M))) (fPutI t2 t1 t0 M)))) + (fAtI (v0 + 5) v3 (fPutI (v0 + 3) v4 ((fAtI (v0 + 3) v2 (fPutL (v0 + 1) v4 ((fAtL (v0 + 1) v2 (fPutI t2 t1 t0 M)) ||| (fAtL (v0 + 1) v3 (fPutI t2 t1 t0 M))) (fPutI t2 t1 t0 M))) + (fAtI (v0 + 3) v3 (fPutL (v0 + 1) v4 ((fAtL (v0 + 1) v2 (fPutI t2 t1 t0 M)) ||| (fAtL (v0 + 1) v3 (fPutI t2 t1 t0 M))) (fPutI t2 t1 t0 M)))) (fPutL (v0 + 1) v4 ((fAtL (v0 + 1) v2 (fPutI t2 t1 t0 M)) ||| (fAtL (v0 + 1) v3 (fPutI t2 t1 t0 M))) (fPutI t2 t1 t0 M))))) (fPutI (v0 + 3) v4 ((fAtI (v0 + 3) v2 (fPutL (v0 + 1) v4 ((fAtL (v0 + 1) v2 (fPutI t2 t1 t0 M)) ||| (fAtL (v0 + 1) v3 (fPutI t2 t1 t0 M))) (fPutI t2 t1 t0 M))) + (fAtI (v0 + 3) v3 (fPutL (v0 + 1) v4 ((fAtL (v0 + 1) v2 (fPutI t2 t1 t0 M)) ||| (fAtL (v0 + 1) v3 (fPutI t2 t1 t0 M))) (fPutI t2 t1 t0 M)))) (fPutL (v0 + 1) v4 ((fAtL (v0 + 1) v2 (fPutI t2 t1 t0 M)) ||| (fAtL (v0 + 1) v3 (fPutI t2 t1 t0 M))) (fPutI t2 t1 t0 M))))) + (fAtI (v0 + 11) v3 (fPutI (v0 + 9) v4 ((fAtI (v0 + 5) v2 (fPutI (v0 + 3) v4 ((fAtI (v0 + 3) v2 (fPutL (v0 + 1) v4 ((fAtL (v0 + 1) v2 (fPutI t2 t1 t0 M)) ||| (fAtL (v0 + 1) v3 (fPutI t2 t1 t0 M))) (fPutI t2 t1 t0 M))) + (fAtI (v0 + 3) v3 (fPutL (v0 + 1) v4 ((fAtL (v0 + 1) v2 (fPutI t2 t1 t0 M)) ||| (fAtL (v0 + 1) v3 (fPutI t2 t1 t0 M))) (fPutI t2 t1 t0 M)))) (fPutL (v0 + 1) v4 ((fAtL (v0 + 1) v2 (fPutI t2 t1 t0 M)) ||| (fAtL (v0 + 1) v3 (fPutI t2 t1 t0 M))) (fPutI t2 t1 t0 M)))) + (fAtI (v0 + 5) v3 (fPutI (v0 + 3) v4 ((fAtI (v0 + 3) v2 (fPutL (v0 + 1) v4 ((fAtL (v0 + 1) v2 (fPutI t2 t1 t0 M)) ||| (fAtL (v0 + 1) v3 (fPutI t2 t1 t0 M))) (fPutI t2 t1 t0 M))) + (fAtI (v0 + 3) v3 (fPutL (v0 + 1) v4 ((fAtL (v0 + 1) v2 (fPutI t2 t1 t0 M)) ||| (fAtL (v0 + 1) v3 (fPutI t2 t1 t0 M))) (fPutI t2 t1 t0 M)))) (fPutL (v0 + 1) v4 ((fAtL (v0 + 1) v2 (fPutI t2 t1 t0 M)) ||| (fAtL (v0 + 1) v3 (fPutI t2 t1 t0 M))) (fPutI t2 t1 t0 M))))) (fPutI (v0 + 3) v4 ((fAtI (v0 + 3) v2 (fPutL (v0 + 1) v4 ((fAtL (v0 + 1) v2 (fPutI t2 t1 t0 M)) ||| (fAtL (v0 + 1) v3 (fPutI t2 t1 t0 M))) (fPutI t2 t1 t0 M))) + (fAtI (v0 + 3) v3 (fPutL (v0 + 1) v4 ((fAtL (v0 + 1) v2 (fPutI t2 t1 t0 M)) ||| (fAtL (v0 + 1) v3 (fPutI t2 t1 t0 M))) (fPutI t2 t1 t0 M)))) (fPutL (v0 + 1) v4 ((fAtL (v0 + 1) v2 (fPutI t2 t1 t0 M)) ||| (fAtL (v0 + 1) v3 (fPutI t2 t1 t0 M))) (fPutI t2 t1 t0 M)))))) (fPutI (v0 + 9) v4 ((fAtI (v0 + 5) v2 (fPutI (v0 + 3) v4 ((fAtI (v0 + 3) v2 (fPutL (v0 + 1) v4 ((fAtL (v0 + 1) v2 (fPutI t2 t1 t0 M)) ||| (fAtL (v0 + 1) v3 (fPutI t2 t1 t0 M))) (fPutI t2 t1 t0 M))) + (fAtI (v0 + 3) v3 (fPutL (v0 + 1) v4 ((fAtL (v0 + 1) v2 (fPutI t2 t1 t0 M)) ||| (fAtL (v0 + 1) v3 (fPutI t2 t1 t0 M))) (fPutI t2 t1 t0 M)))) (fPutL (v0 + 1) v4 ((fAtL (v0 + 1) v2 (fPutI t2 t1 t0 M)) ||| (fAtL (v0 + 1) v3 (fPutI t2 t1 t0 M))) (fPutI t2 t1 t0 M)))) + (fAtI (v0 + 5) v3 (fPutI (v0 + 3) v4 ((fAtI (v0 + 3) v2 (fPutL (v0 + 1) v4 ((fAtL (v0 + 1) v2 (fPutI t2 t1 t0 M)) ||| (fAtL (v0 + 1) v3 (fPutI t2 t1 t0 M))) (fPutI t2 t1 t0 M))) + (fAtI (v0 + 3) v3 (fPutL (v0 + 1) v4 ((fAtL (v0 + 1) v2 (fPutI t2 t1 t0 M)) ||| (fAtL (v0 + 1) v3 (fPutI t2 t1 t0 M))) (fPutI t2 t1 t0 M)))) (fPutL (v0 + 1) v4 ((fAtL (v0 + 1) v2 (fPutI t2 t1 t0 M)) ||| (fAtL (v0 + 1) v3 (fPutI t2 t1 t0 M))) (fPutI t2 t1 t0 M))))) (fPutI (v0 + 3) v4 ((fAtI (v0 + 3) v2 (fPutL (v0 + 1) v4 ((fAtL (v0 + 1) v2 (fPutI t2 t1 t0 M)) ||| (fAtL (v0 + 1) v3 (fPutI t2 t1 t0 M))) (fPutI t2 t1 t0 M))) + (fAtI (v0 + 3) v3 (fPutL (v0 + 1) v4 ((fAtL (v0 + 1) v2 (fPutI t2 t1 t0 M)) ||| (fAtL (v0 + 1) v3 (fPutI t2 t1 t0 M))) (fPutI t2 t1 t0 M)))) (fPutL (v0 + 1) v4 ((fAtL (v0 + 1) v2 (fPutI t2 t1 t0 M)) ||| (fAtL (v0 + 1) v3 (fPutI t2 t1 t0 M))) (fPutI t2 t1 t0 M))))) _ _ h9) wdX1_findPass q_165 ⟨Nat.le_of_ble_eq_true rfl, Nat.le_of_ble_eq_true rfl⟩ rfl (Nat.le_of_ble_eq_true rfl) dX1_join_184) ?_
    refine r_aload_n S dX1_join_187 0 rfl ?_
    refine r_aload_n S dX1_join_188 1 rfl ?_
    refine r_iload S dX1_join_189 4 rfl ?_
    obtain ⟨x3, M4, h9, hE⟩ := b2_some hE
    refine rc_V S (rn_V S fc1 k0 (c_LK_findCapacity _ _ (gYX S) v0 k0 v1 k1 v4 M2 _ _ h9) wdX1_findCapacity q_170 ⟨Nat.le_of_ble_eq_true rfl, Nat.le_of_ble_eq_true rfl⟩ rfl (Nat.le_of_ble_eq_true rfl) dX1_join_191) ?_
    refine r_aload_n S dX1_join_194 0 rfl ?_
    refine r_iload S dX1_join_195 4 rfl ?_
    obtain ⟨x5, M6, h9, hE⟩ := b2_some hE
    refine rc_V S (rn_V S fc1 k0 (c_LK_claimCells _ _ (gYX S) v0 k0 v4 M4 _ _ h9) wdX1_claimCells q_175 ⟨Nat.le_of_ble_eq_true rfl, Nat.le_of_ble_eq_true rfl⟩ rfl (Nat.le_of_ble_eq_true rfl) dX1_join_197) ?_
    refine r_iload S dX1_join_200 4 rfl ?_
    obtain ⟨rfl, rfl⟩ := si2 hE
    exact hret _ _ dX1_join_202
  have J54 : ∀ (v0 : Nat) (k0 : kC v0 = 1) (v1 : Nat) (k1 : kC v1 = 0) (v2 : Int32) (v3 : Int32) (v4 : Int32) (v5 : Int32) (t0 : Int32) (t1 : Int32) (t2 : Nat) (kt2 : kC t2 = 3) (M : Mem), LK_join_J54 v0 v1 v2 v3 v4 v5 t0 t1 t2 M = some (r, M1) → AW X 54 [(0, .ref (hY X.2.1.2 + v0)), (1, .ref (hY X.2.1.2 + v1)), (2, .int v2), (3, .int v3), (4, .int v4), (5, .int v5)] [.int t0, .int t1, .ref (hY X.2.1.2 + t2)] M := by
    intro v0 k0 v1 k1 v2 v3 v4 v5 t0 t1 t2 kt2 M hE
    unfold LK_join_J54 at hE
    refine rc_V S (rn_V S fc3 kt2 (c_NR_put _ _ (gYX S) t2 kt2 t1 t0 M _ rfl) wdX3_put q_147 ⟨Nat.le_of_ble_eq_true rfl, Nat.le_of_ble_eq_true rfl⟩ rfl (Nat.le_of_ble_eq_true rfl) dX1_join_54) ?_
    refine r_aload_n S dX1_join_57 0 rfl ?_
    refine r_getRK S fc1 k0 7 (v0 + 15) rfl rfl q_125 dX1_join_58 ?_
    refine r_iload S dX1_join_61 4 rfl ?_
    refine r_iload S dX1_join_63 5 rfl ?_
    refine r_if_eq S 72 dX1_join_65 (by decide) (fun c => ?_) (fun c => ?_)
    · try simp only [if_pos c] at hE
      refine r_iload_n S dX1_join_72 2 rfl ?_
      exact r_sub [0, 1, 2, 3, 4] rfl (J73 v0 k0 v1 k1 v2 v3 v4 v2 v4 (v0 + 15) (kk1_15 k0) (fPutI t2 t1 t0 M) hE)
    · try simp only [if_neg c] at hE
      refine r_iload_n S dX1_join_68 3 rfl ?_
      refine r_goto S 73 dX1_join_69 (by decide) ?_
      exact r_sub [0, 1, 2, 3, 4] rfl (J73 v0 k0 v1 k1 v2 v3 v4 v3 v4 (v0 + 15) (kk1_15 k0) (fPutI t2 t1 t0 M) hE)
  have J36 : ∀ (v0 : Nat) (k0 : kC v0 = 1) (v1 : Nat) (k1 : kC v1 = 0) (v2 : Int32) (v3 : Int32) (v4 : Int32) (t0 : Int32) (M : Mem), LK_join_J36 v0 v1 v2 v3 v4 t0 M = some (r, M1) → AW X 36 [(0, .ref (hY X.2.1.2 + v0)), (1, .ref (hY X.2.1.2 + v1)), (2, .int v2), (3, .int v3), (4, .int v4)] [.int t0] M := by
    intro v0 k0 v1 k1 v2 v3 v4 t0 M hE
    unfold LK_join_J36 at hE
    refine r_istore (lv2 := [(5, .int t0), (0, .ref (hY X.2.1.2 + v0)), (1, .ref (hY X.2.1.2 + v1)), (2, .int v2), (3, .int v3), (4, .int v4)]) S dX1_join_36 (by decide) rfl ?_
    refine r_aload_n S dX1_join_38 1 rfl ?_
    refine r_getRK S fc1 k0 6 (v0 + 13) rfl rfl q_124 dX1_join_39 ?_
    refine r_iload S dX1_join_42 5 rfl ?_
    refine r_iload S dX1_join_44 0 rfl ?_
    refine r_if_eq S 53 dX1_join_46 (by decide) (fun c => ?_) (fun c => ?_)
    · try simp only [if_pos c] at hE
      refine r_iload_n S dX1_join_53 4 rfl ?_
      exact r_sub [1, 2, 3, 4, 5, 0] rfl (J54 v0 k0 v1 k1 v2 v3 v4 t0 v3 v4 (v0 + 13) (kk1_13 k0) M hE)
    · try simp only [if_neg c] at hE
      refine r_iload_n S dX1_join_49 3 rfl ?_
      refine r_goto S 54 dX1_join_50 (by decide) ?_
      exact r_sub [1, 2, 3, 4, 5, 0] rfl (J54 v0 k0 v1 k1 v2 v3 v4 t0 v2 v4 (v0 + 13) (kk1_13 k0) M hE)
  unfold LK_join at hE
  refine r_aload_n S dX1_join_0 0 rfl ?_
  obtain ⟨x1, h9, hE⟩ := b1_some hE
  refine rc_I S (rn_V S fc1 ho (c_LK_freePlace _ _ (gYX S) o ho M _ h9) wdX1_freePlace q_155 ⟨Nat.le_of_ble_eq_true rfl, Nat.le_of_ble_eq_true rfl⟩ rfl (Nat.le_of_ble_eq_true rfl) dX1_join_1) ?_
  refine r_istore (lv2 := [(4, .int x1), (0, .ref (hY X.2.1.2 + o)), (1, .ref (hY X.2.1.2 + a1)), (2, .int a2), (3, .int a3)]) S dX1_join_4 (by decide) rfl ?_
  refine r_aload_n S dX1_join_6 1 rfl ?_
  refine r_getRK S fc1 ho 0 (o + 1) rfl rfl q_23 dX1_join_7 ?_
  refine r_iload_n S dX1_join_10 3 rfl ?_
  refine rc_L S (rn_V S fc4 (kk1_1 ho) (c_SR_at _ _ (gYX S) (o + 1) (kk1_1 ho) a2 M _ rfl) wdX4_at q_24 ⟨Nat.le_of_ble_eq_true rfl, Nat.le_of_ble_eq_true rfl⟩ rfl (Nat.le_of_ble_eq_true rfl) dX1_join_11) ?_
  refine rc_I S (rn_SN S (c_LL_lowestIn _ _ (gYX S) (fAtL (o + 1) a2 M) M _ rfl) wdX7_lowestIn q_87 ⟨Nat.le_of_ble_eq_true rfl, Nat.le_of_ble_eq_true rfl⟩ rfl (Nat.le_of_ble_eq_true rfl) dX1_join_14) ?_
  refine r_aload_n S dX1_join_17 1 rfl ?_
  refine r_getRK S fc1 ho 0 (o + 1) rfl rfl q_23 dX1_join_18 ?_
  refine r_iload_n S dX1_join_21 4 rfl ?_
  refine rc_L S (rn_V S fc4 (kk1_1 ho) (c_SR_at _ _ (gYX S) (o + 1) (kk1_1 ho) a3 M _ rfl) wdX4_at q_24 ⟨Nat.le_of_ble_eq_true rfl, Nat.le_of_ble_eq_true rfl⟩ rfl (Nat.le_of_ble_eq_true rfl) dX1_join_22) ?_
  refine rc_I S (rn_SN S (c_LL_lowestIn _ _ (gYX S) (fAtL (o + 1) a3 M) M _ rfl) wdX7_lowestIn q_87 ⟨Nat.le_of_ble_eq_true rfl, Nat.le_of_ble_eq_true rfl⟩ rfl (Nat.le_of_ble_eq_true rfl) dX1_join_25) ?_
  refine r_icmp_ge S 35 dX1_join_28 (by decide) (fun c => ?_) (fun c => ?_)
  · try simp only [if_pos c] at hE
    refine r_iconst S (0 : Int32) dX1_join_35 rfl ?_
    exact r_sub [1, 2, 3, 4, 0] rfl (J36 o ho a1 k1 a2 a3 x1 (0 : Int32) M hE)
  · try simp only [if_neg c] at hE
    refine r_iconst S (1 : Int32) dX1_join_31 rfl ?_
    refine r_goto S 36 dX1_join_32 (by decide) ?_
    exact r_sub [1, 2, 3, 4, 0] rfl (J36 o ho a1 k1 a2 a3 x1 (1 : Int32) M hE)
