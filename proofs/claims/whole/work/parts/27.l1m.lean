set_option maxRecDepth 100000 in
set_option maxHeartbeats 4000000 in
theorem c_MD_lakesAfter (l : Launch) (Y : Env1) (hG : gY Y = gM) (a1 : Int32) (M : Mem) (r : Int32) (M1 : Mem) (hE : MD_lakesAfter a1 M = some (r, M1)) : CnI l Y yX8_lakesAfter cX8_lakesAfter 3 .int 8 [.ref (hY Y + 0), .int a1] M r M1 := by
  refine met_I (own := RX8) (by decide +kernel) rfl hG (Nat.le_of_ble_eq_true rfl) (fun X S hY1 hl1 hret => ?_)
  subst hY1
  subst hl1
  show AW X 0 [(0, .ref (hY X.2.1.2 + 0)), (1, .int a1)] [] M
  have L6 : ∀ (v1 : Int32) (e : (Unit)) (M2 : Mem), AW X 27 [(0, .ref (hY X.2.1.2 + 0))] [] M2 → ∀ (n : Nat) (s : Int32) (M : Mem), lpM (fun s M => MD_lakesAfter_L6 v1 s M) n s M = some (e, M2) → AW X 6 [(0, .ref (hY X.2.1.2 + 0)), (1, .int v1), (2, .int s)] [] M := by
    intro v1 e M2 hX
    refine lpM_ind (P := fun (s : Int32) (M : Mem) => AW X 6 [(0, .ref (hY X.2.1.2 + 0)), (1, .int v1), (2, .int s)] [] M) ?_
    rintro v2 M d M3 hE hC hD
    replace hE : MD_lakesAfter_L6 v1 v2 M = some (d, M3) := hE
    show AW X 6 [(0, .ref (hY X.2.1.2 + 0)), (1, .int v1), (2, .int v2)] [] M
    unfold MD_lakesAfter_L6 at hE
    refine r_iload_n S dX8_lakesAfter_6 2 rfl ?_
    refine r_aload_n S dX8_lakesAfter_7 0 rfl ?_
    refine rc_I S (rn_V S fc8 (by decide) (c_MD_many _ _ (gYX S)  M _ rfl) wdX8_many q_525 ⟨Nat.le_of_ble_eq_true rfl, Nat.le_of_ble_eq_true rfl⟩ rfl (Nat.le_of_ble_eq_true rfl) dX8_lakesAfter_8) ?_
    refine r_icmp_ge S 27 dX8_lakesAfter_11 (by decide) (fun c => ?_) (fun c => ?_)
    · rw [if_pos c] at hE
      obtain ⟨rfl, rfl⟩ := si2 hE
      rcases hD with ⟨h1, h2⟩ | ⟨_, h1⟩
      · obtain rfl := sir h1
        subst h2
        exact r_sub [0] rfl hX
      · exact (sil h1).elim
    · rw [if_neg c] at hE
      refine r_aload_n S dX8_lakesAfter_14 0 rfl ?_
      refine r_iload_n S dX8_lakesAfter_15 2 rfl ?_
      refine r_iload_n S dX8_lakesAfter_16 1 rfl ?_
      refine r_i2l S dX8_lakesAfter_17 ?_
      obtain ⟨x1, M2, h9, hE⟩ := b2_some hE
      refine rc_V S (rn_V S fc8 (by decide) (c_MD_pours _ _ (gYX S) v2 v1.toInt64 M _ _ h9) wdX8_pours q_671 ⟨Nat.le_of_ble_eq_true rfl, Nat.le_of_ble_eq_true rfl⟩ rfl (Nat.le_of_ble_eq_true rfl) dX8_lakesAfter_18) ?_
      refine r_iinc (lv2 := [(2, .int (v2 + (1 : Int32))), (0, .ref (hY X.2.1.2 + 0)), (1, .int v1)]) S dX8_lakesAfter_21 (j := 2) rfl (by decide) rfl ?_
      refine r_goto S 6 dX8_lakesAfter_24 (by decide) ?_
      obtain ⟨rfl, rfl⟩ := si2 hE
      exact r_sub (lv2 := [(0, .ref (hY X.2.1.2 + 0)), (1, .int v1), (2, .int (v2 + (1 : Int32)))]) [1, 2, 0] rfl (hC (v2 + (1 : Int32)) rfl)
  unfold MD_lakesAfter at hE
  refine r_aload_n S dX8_lakesAfter_0 0 rfl ?_
  obtain ⟨x1, M2, h9, hE⟩ := b2_some hE
  refine rc_V S (rn_V S fc8 (by decide) (c_MD_lays _ _ (gYX S)  M _ _ h9) wdX8_lays q_795 ⟨Nat.le_of_ble_eq_true rfl, Nat.le_of_ble_eq_true rfl⟩ rfl (Nat.le_of_ble_eq_true rfl) dX8_lakesAfter_1) ?_
  refine r_iconst S (0 : Int32) dX8_lakesAfter_4 rfl ?_
  refine r_istore_n (lv2 := [(2, .int (0 : Int32)), (0, .ref (hY X.2.1.2 + 0)), (1, .int a1)]) S dX8_lakesAfter_5 (by decide) rfl ?_
  obtain ⟨e3, M4, h9, hE⟩ := b2_some hE
  refine r_sub [1, 2, 0] rfl (L6 a1  e3 M4 ?_ _ _ M2 h9)
  refine r_aload_n S dX8_lakesAfter_27 0 rfl ?_
  obtain ⟨x5, M6, h9, hE⟩ := b2_some hE
  refine rc_V S (rn_V S fc8 (by decide) (c_MD_orders _ _ (gYX S)  M4 _ _ h9) wdX8_orders q_641 ⟨Nat.le_of_ble_eq_true rfl, Nat.le_of_ble_eq_true rfl⟩ rfl (Nat.le_of_ble_eq_true rfl) dX8_lakesAfter_28) ?_
  refine r_aload_n S dX8_lakesAfter_31 0 rfl ?_
  refine r_getI S fc8 (by decide) 12 rfl q_639 dX8_lakesAfter_32 ?_
  refine r_istore_n (lv2 := [(2, .int (gI M6 0 12)), (0, .ref (hY X.2.1.2 + 0))]) S dX8_lakesAfter_35 (by decide) rfl ?_
  refine r_aload_n S dX8_lakesAfter_36 1 rfl ?_
  obtain ⟨x7, M8, h9, hE⟩ := b2_some hE
  refine rc_V S (rn_V S fc8 (by decide) (c_MD_takesBack _ _ (gYX S)  M6 _ _ h9) wdX8_takesBack q_800 ⟨Nat.le_of_ble_eq_true rfl, Nat.le_of_ble_eq_true rfl⟩ rfl (Nat.le_of_ble_eq_true rfl) dX8_lakesAfter_37) ?_
  refine r_iload_n S dX8_lakesAfter_40 0 rfl ?_
  obtain ⟨rfl, rfl⟩ := si2 hE
  exact hret _ _ dX8_lakesAfter_41
set_option maxRecDepth 100000 in
set_option maxHeartbeats 4000000 in
theorem c_MD_rainToJoin (l : Launch) (Y : Env1) (hG : gY Y = gM) (M : Mem) (r : Int32) (M1 : Mem) (hE : MD_rainToJoin M = some (r, M1)) : CnI l Y yX8_rainToJoin cX8_rainToJoin 3 .int 9 [.ref (hY Y + 0)] M r M1 := by
  refine met_I (own := RX8) (by decide +kernel) rfl hG (Nat.le_of_ble_eq_true rfl) (fun X S hY1 hl1 hret => ?_)
  subst hY1
  subst hl1
  show AW X 0 [(0, .ref (hY X.2.1.2 + 0))] [] M
  have L16 : ∀ (v1 : Int32) (q : ((Unit) ⊕ Int32)) (M2 : Mem), (∀ e, q = .inl e → AW X 39 [] [] M2) → (∀ r8, q = .inr r8 → (r8 = r ∧ M2 = M1)) → ∀ (n : Nat) (s : Int32) (M : Mem), lpM (fun s M => MD_rainToJoin_L16 v1 s M) n s M = some (q, M2) → AW X 16 [(0, .ref (hY X.2.1.2 + 0)), (1, .int v1), (2, .int s)] [] M := by
    intro v1 q M2 hX hR
    refine lpM_ind (P := fun (s : Int32) (M : Mem) => AW X 16 [(0, .ref (hY X.2.1.2 + 0)), (1, .int v1), (2, .int s)] [] M) ?_
    rintro v2 M d M3 hE hC hD
    replace hE : MD_rainToJoin_L16 v1 v2 M = some (d, M3) := hE
    show AW X 16 [(0, .ref (hY X.2.1.2 + 0)), (1, .int v1), (2, .int v2)] [] M
    unfold MD_rainToJoin_L16 at hE
    refine r_iload_n S dX8_rainToJoin_16 2 rfl ?_
    refine r_bipush S (40 : Int32) dX8_rainToJoin_17 rfl ?_
    refine r_icmp_gt S 39 dX8_rainToJoin_19 (by decide) (fun c => ?_) (fun c => ?_)
    · rw [if_pos c] at hE
      obtain ⟨rfl, rfl⟩ := si2 hE
      rcases hD with ⟨h1, h2⟩ | ⟨_, h1⟩
      · obtain rfl := sir h1
        subst h2
        exact r_sub [] rfl (hX _ rfl)
      · exact (sil h1).elim
    · rw [if_neg c] at hE
      refine r_aload_n S dX8_rainToJoin_22 0 rfl ?_
      refine r_iload_n S dX8_rainToJoin_23 2 rfl ?_
      obtain ⟨x1, M2, h9, hE⟩ := b2_some hE
      refine rc_I S (rn_V S fc8 (by decide) (c_MD_lakesAfter _ _ (gYX S) v2 M _ _ h9) wdX8_lakesAfter q_811 ⟨Nat.le_of_ble_eq_true rfl, Nat.le_of_ble_eq_true rfl⟩ rfl (Nat.le_of_ble_eq_true rfl) dX8_rainToJoin_24) ?_
      refine r_iload_n S dX8_rainToJoin_27 1 rfl ?_
      refine r_icmp_ge S 33 dX8_rainToJoin_28 (by decide) (fun c => ?_) (fun c => ?_)
      · rw [if_pos c] at hE
        refine r_iinc (lv2 := [(2, .int (v2 + (1 : Int32))), (0, .ref (hY X.2.1.2 + 0)), (1, .int v1)]) S dX8_rainToJoin_33 (j := 2) rfl (by decide) rfl ?_
        refine r_goto S 16 dX8_rainToJoin_36 (by decide) ?_
        obtain ⟨rfl, rfl⟩ := si2 hE
        exact r_sub (lv2 := [(0, .ref (hY X.2.1.2 + 0)), (1, .int v1), (2, .int (v2 + (1 : Int32)))]) [1, 2, 0] rfl (hC (v2 + (1 : Int32)) rfl)
      · rw [if_neg c] at hE
        refine r_iload_n S dX8_rainToJoin_31 2 rfl ?_
        obtain ⟨rfl, rfl⟩ := si2 hE
        rcases hD with ⟨h1, h2⟩ | ⟨_, h1⟩
        · obtain rfl := sir h1
          subst h2
          obtain ⟨rfl, rfl⟩ := hR _ rfl
          exact hret _ _ dX8_rainToJoin_32
        · exact (sil h1).elim
  unfold MD_rainToJoin at hE
  refine r_aload_n S dX8_rainToJoin_0 0 rfl ?_
  refine r_iconst S (0 : Int32) dX8_rainToJoin_1 rfl ?_
  refine r_putI S fc8 (by decide) 4 rfl rfl (by decide +kernel) q_520 dX8_rainToJoin_2 ?_
  refine r_aload_n S dX8_rainToJoin_5 0 rfl ?_
  obtain ⟨x1, M2, h9, hE⟩ := b2_some hE
  refine rc_V S (rn_V S fc8 (by decide) (c_MD_orders _ _ (gYX S)  (sI M 0 4 (0 : Int32)) _ _ h9) wdX8_orders q_641 ⟨Nat.le_of_ble_eq_true rfl, Nat.le_of_ble_eq_true rfl⟩ rfl (Nat.le_of_ble_eq_true rfl) dX8_rainToJoin_6) ?_
  refine r_aload_n S dX8_rainToJoin_9 0 rfl ?_
  refine r_getI S fc8 (by decide) 12 rfl q_639 dX8_rainToJoin_10 ?_
  refine r_istore_n (lv2 := [(1, .int (gI M2 0 12)), (0, .ref (hY X.2.1.2 + 0))]) S dX8_rainToJoin_13 (by decide) rfl ?_
  refine r_iconst S (1 : Int32) dX8_rainToJoin_14 rfl ?_
  refine r_istore_n (lv2 := [(2, .int (1 : Int32)), (1, .int (gI M2 0 12)), (0, .ref (hY X.2.1.2 + 0))]) S dX8_rainToJoin_15 (by decide) rfl ?_
  obtain ⟨e3, M4, h9, hE⟩ := b2_some hE
  refine r_sub [2, 1, 0] rfl (L16 (gI M2 0 12)  e3 M4 (fun e5 h8 => ?_) (fun r8 h8 => ?_) _ _ M2 h9)
  · subst h8
    refine r_iconst S (-1 : Int32) dX8_rainToJoin_39 rfl ?_
    obtain ⟨rfl, rfl⟩ := si2 hE
    exact hret _ _ dX8_rainToJoin_40
  · subst h8
    exact si2 hE
set_option maxRecDepth 100000 in
set_option maxHeartbeats 4000000 in
theorem c_MD_withoutGate (l : Launch) (Y : Env1) (hG : gY Y = gM) (a1 : Int32) (a2 : Int32) (M : Mem) (r : Int32) (M1 : Mem) (hE : MD_withoutGate a1 a2 M = some (r, M1)) : CnI l Y yX8_withoutGate cX8_withoutGate 5 .int 9 [.ref (hY Y + 0), .int a1, .int a2] M r M1 := by
  refine met_I (own := RX8) (by decide +kernel) rfl hG (Nat.le_of_ble_eq_true rfl) (fun X S hY1 hl1 hret => ?_)
  subst hY1
  subst hl1
  show AW X 0 [(0, .ref (hY X.2.1.2 + 0)), (1, .int a1), (2, .int a2)] [] M
  unfold MD_withoutGate at hE
  refine r_aload_n S dX8_withoutGate_0 0 rfl ?_
  refine r_aload_n S dX8_withoutGate_1 0 rfl ?_
  refine r_iload_n S dX8_withoutGate_2 1 rfl ?_
  refine r_iload_n S dX8_withoutGate_3 2 rfl ?_
  obtain ⟨x1, h9, hE⟩ := b1_some hE
  refine rc_I S (rn_V S fc8 (by decide) (c_MD_isPair _ _ (gYX S) a1 a2 M _ h9) wdX8_isPair q_703 ⟨Nat.le_of_ble_eq_true rfl, Nat.le_of_ble_eq_true rfl⟩ rfl (Nat.le_of_ble_eq_true rfl) dX8_withoutGate_4) ?_
  refine r_iconst S (1 : Int32) dX8_withoutGate_7 rfl ?_
  refine r_iconst S (1 : Int32) dX8_withoutGate_8 rfl ?_
  obtain ⟨x2, M3, h9, hE⟩ := b2_some hE
  refine rc_I S (rn_V S fc8 (by decide) (c_MD_goes _ _ (gYX S) x1 (1 : Int32) (1 : Int32) M _ _ h9) wdX8_goes q_677 ⟨Nat.le_of_ble_eq_true rfl, Nat.le_of_ble_eq_true rfl⟩ rfl (Nat.le_of_ble_eq_true rfl) dX8_withoutGate_9) ?_
  refine r_if_ne S 17 dX8_withoutGate_12 (by decide) (fun c => ?_) (fun c => ?_)
  · rw [if_pos c] at hE
    refine r_aload_n S dX8_withoutGate_17 0 rfl ?_
    obtain ⟨x4, M5, h9, hE⟩ := b2_some hE
    refine rc_I S (rn_V S fc8 (by decide) (c_MD_wet _ _ (gYX S)  M3 _ _ h9) wdX8_wet q_729 ⟨Nat.le_of_ble_eq_true rfl, Nat.le_of_ble_eq_true rfl⟩ rfl (Nat.le_of_ble_eq_true rfl) dX8_withoutGate_18) ?_
    refine r_istore_n (lv2 := [(3, .int x4), (0, .ref (hY X.2.1.2 + 0)), (1, .int a1), (2, .int a2)]) S dX8_withoutGate_21 (by decide) rfl ?_
    refine r_aload_n S dX8_withoutGate_22 1 rfl ?_
    obtain ⟨x6, M7, h9, hE⟩ := b2_some hE
    refine rc_V S (rn_V S fc8 (by decide) (c_MD_lays _ _ (gYX S)  M5 _ _ h9) wdX8_lays q_795 ⟨Nat.le_of_ble_eq_true rfl, Nat.le_of_ble_eq_true rfl⟩ rfl (Nat.le_of_ble_eq_true rfl) dX8_withoutGate_23) ?_
    refine r_aload_n S dX8_withoutGate_26 1 rfl ?_
    obtain ⟨x8, M9, h9, hE⟩ := b2_some hE
    refine rc_V S (rn_V S fc8 (by decide) (c_MD_remembers _ _ (gYX S)  M7 _ _ h9) wdX8_remembers q_693 ⟨Nat.le_of_ble_eq_true rfl, Nat.le_of_ble_eq_true rfl⟩ rfl (Nat.le_of_ble_eq_true rfl) dX8_withoutGate_27) ?_
    refine r_aload_n S dX8_withoutGate_30 1 rfl ?_
    refine r_getRK S fc8 (by decide) 0 1 rfl rfl q_523 dX8_withoutGate_31 ?_
    refine r_aload_n S dX8_withoutGate_34 1 rfl ?_
    refine r_iload_n S dX8_withoutGate_35 2 rfl ?_
    refine r_iload_n S dX8_withoutGate_36 3 rfl ?_
    obtain ⟨x10, h9, hE⟩ := b1_some hE
    refine rc_I S (rn_V S fc8 (by decide) (c_MD_gateAt _ _ (gYX S) a1 a2 M9 _ h9) wdX8_gateAt q_549 ⟨Nat.le_of_ble_eq_true rfl, Nat.le_of_ble_eq_true rfl⟩ rfl (Nat.le_of_ble_eq_true rfl) dX8_withoutGate_37) ?_
    refine r_ldc2 S (v := -1) q_589 dX8_withoutGate_40 ?_
    obtain ⟨hi, hE⟩ := ck_some hE
    refine r_last S (by decide) hi dX8_withoutGate_43 ?_
    refine r_aload_n S dX8_withoutGate_44 1 rfl ?_
    obtain ⟨x11, M12, h9, hE⟩ := b2_some hE
    refine rc_V S (rn_V S fc8 (by decide) (c_MD_changes _ _ (gYX S)  (sL M9 1 x10.toNatClampNeg (-1 : Int64)) _ _ h9) wdX8_changes q_698 ⟨Nat.le_of_ble_eq_true rfl, Nat.le_of_ble_eq_true rfl⟩ rfl (Nat.le_of_ble_eq_true rfl) dX8_withoutGate_45) ?_
    refine r_aload_n S dX8_withoutGate_48 1 rfl ?_
    obtain ⟨x13, M14, h9, hE⟩ := b2_some hE
    refine rc_I S (rn_V S fc8 (by decide) (c_MD_wet _ _ (gYX S)  M12 _ _ h9) wdX8_wet q_729 ⟨Nat.le_of_ble_eq_true rfl, Nat.le_of_ble_eq_true rfl⟩ rfl (Nat.le_of_ble_eq_true rfl) dX8_withoutGate_49) ?_
    refine r_istore (lv2 := [(4, .int x13), (3, .int x4), (0, .ref (hY X.2.1.2 + 0)), (1, .int a1), (2, .int a2)]) S dX8_withoutGate_52 (by decide) rfl ?_
    refine r_aload_n S dX8_withoutGate_54 2 rfl ?_
    obtain ⟨x15, M16, h9, hE⟩ := b2_some hE
    refine rc_V S (rn_V S fc8 (by decide) (c_MD_takesBack _ _ (gYX S)  M14 _ _ h9) wdX8_takesBack q_800 ⟨Nat.le_of_ble_eq_true rfl, Nat.le_of_ble_eq_true rfl⟩ rfl (Nat.le_of_ble_eq_true rfl) dX8_withoutGate_55) ?_
    refine r_iload S dX8_withoutGate_58 0 rfl ?_
    refine r_iload_n S dX8_withoutGate_60 1 rfl ?_
    refine r_isub S dX8_withoutGate_61 ?_
    obtain ⟨rfl, rfl⟩ := si2 hE
    exact hret _ _ dX8_withoutGate_62
  · rw [if_neg (not_not_intro c)] at hE
    refine r_iconst S (0 : Int32) dX8_withoutGate_15 rfl ?_
    obtain ⟨rfl, rfl⟩ := si2 hE
    exact hret _ _ dX8_withoutGate_16
set_option maxRecDepth 100000 in
set_option maxHeartbeats 4000000 in
theorem c_MD_append (l : Launch) (Y : Env1) (hG : gY Y = gM) (a1 : Int32) (M : Mem) (r : Int32) (M1 : Mem) (hE : MD_append a1 M = some (r, M1)) : CnI l Y yX8_append cX8_append 2 .int 1 [.ref (hY Y + 0), .int a1] M r M1 := by
  refine met_I (own := RX8) (by decide +kernel) rfl hG (Nat.le_of_ble_eq_true rfl) (fun X S hY1 hl1 hret => ?_)
  subst hY1
  subst hl1
  show AW X 0 [(0, .ref (hY X.2.1.2 + 0)), (1, .int a1)] [] M
  have J25 : ∀ (v1 : Int32) (t0 : Int32) (t1 : Int32) (M : Mem), MD_append_J25 v1 t0 t1 M = some (r, M1) → AW X 25 [(0, .ref (hY X.2.1.2 + 0)), (1, .int v1)] [.int t0, .int t1, .ref (hY X.2.1.2 + 0)] M := by
    intro v1 t0 t1 M hE
    unfold MD_append_J25 at hE
    refine r_iconst S (1 : Int32) dX8_append_25 rfl ?_
    obtain ⟨x1, M2, h9, hE⟩ := b2_some hE
    refine rc_I S (rn_V S fc8 (by decide) (c_MD_goes _ _ (gYX S) t1 t0 (1 : Int32) M _ _ h9) wdX8_goes q_677 ⟨Nat.le_of_ble_eq_true rfl, Nat.le_of_ble_eq_true rfl⟩ rfl (Nat.le_of_ble_eq_true rfl) dX8_append_26) ?_
    refine r_if_ne S 34 dX8_append_29 (by decide) (fun c => ?_) (fun c => ?_)
    · rw [if_pos c] at hE
      refine r_aload_n S dX8_append_34 0 rfl ?_
      refine r_getRK S fc8 (by decide) 20 12 rfl rfl q_818 dX8_append_35 ?_
      refine r_aload_n S dX8_append_38 0 rfl ?_
      refine r_getI S fc8 (by decide) 21 rfl q_817 dX8_append_39 ?_
      refine r_iload_n S dX8_append_42 1 rfl ?_
      obtain ⟨hi, hE⟩ := ck_some hE
      refine r_iast S (by decide) hi dX8_append_43 ?_
      refine r_aload_n S dX8_append_44 0 rfl ?_
      refine r_dup S dX8_append_45 rfl ?_
      refine r_getI S fc8 (by decide) 21 rfl q_817 dX8_append_46 ?_
      refine r_iconst S (1 : Int32) dX8_append_49 rfl ?_
      refine r_iadd S dX8_append_50 ?_
      refine r_putI S fc8 (by decide) 21 rfl rfl (by decide +kernel) q_817 dX8_append_51 ?_
      refine r_aload_n S dX8_append_54 0 rfl ?_
      refine r_getI S fc8 (by decide) 21 rfl q_817 dX8_append_55 ?_
      obtain ⟨rfl, rfl⟩ := si2 hE
      exact hret _ _ dX8_append_58
    · rw [if_neg (not_not_intro c)] at hE
      refine r_iconst S (0 : Int32) dX8_append_32 rfl ?_
      obtain ⟨rfl, rfl⟩ := si2 hE
      exact hret _ _ dX8_append_33
  unfold MD_append at hE
  refine r_aload_n S dX8_append_0 0 rfl ?_
  refine r_iload_n S dX8_append_1 1 rfl ?_
  refine r_i2l S dX8_append_2 ?_
  refine r_lconst S (0 : Int64) dX8_append_3 rfl ?_
  refine r_ldc2 S (v := 127) q_816 dX8_append_4 ?_
  refine rc_I S (rn_S S (c_MD_in _ _ (gYX S) a1.toInt64 (0 : Int64) (127 : Int64) M _ rfl) wdX8_in q_530 ⟨Nat.le_of_ble_eq_true rfl, Nat.le_of_ble_eq_true rfl⟩ rfl (Nat.le_of_ble_eq_true rfl) dX8_append_7) ?_
  refine r_aload_n S dX8_append_10 0 rfl ?_
  refine r_getI S fc8 (by decide) 21 rfl q_817 dX8_append_11 ?_
  refine r_sipush S (150 : Int32) dX8_append_14 rfl ?_
  refine r_icmp_ge S 24 dX8_append_17 (by decide) (fun c => ?_) (fun c => ?_)
  · try simp only [if_pos c] at hE
    refine r_iconst S (0 : Int32) dX8_append_24 rfl ?_
    exact r_sub [0, 1] rfl (J25 a1 (0 : Int32) (MD_in a1.toInt64 (0 : Int64) (127 : Int64)) M hE)
  · try simp only [if_neg c] at hE
    refine r_iconst S (1 : Int32) dX8_append_20 rfl ?_
    refine r_goto S 25 dX8_append_21 (by decide) ?_
    exact r_sub [0, 1] rfl (J25 a1 (1 : Int32) (MD_in a1.toInt64 (0 : Int64) (127 : Int64)) M hE)
set_option maxRecDepth 100000 in
set_option maxHeartbeats 4000000 in
theorem c_MD_clearText (l : Launch) (Y : Env1) (hG : gY Y = gM) (M : Mem) (r : Int32) (M1 : Mem) (hE : MD_clearText M = some (r, M1)) : CnI l Y yX8_clearText cX8_clearText 2 .int 0 [.ref (hY Y + 0)] M r M1 := by
  refine met_I (own := RX8) (by decide +kernel) rfl hG (Nat.le_of_ble_eq_true rfl) (fun X S hY1 hl1 hret => ?_)
  subst hY1
  subst hl1
  show AW X 0 [(0, .ref (hY X.2.1.2 + 0))] [] M
  unfold MD_clearText at hE
  refine r_aload_n S dX8_clearText_0 0 rfl ?_
  refine r_iconst S (0 : Int32) dX8_clearText_1 rfl ?_
  refine r_putI S fc8 (by decide) 4 rfl rfl (by decide +kernel) q_520 dX8_clearText_2 ?_
  refine r_aload_n S dX8_clearText_5 0 rfl ?_
  refine r_getI S fc8 (by decide) 21 rfl q_817 dX8_clearText_6 ?_
  refine r_istore_n (lv2 := [(1, .int (gI (sI M 0 4 (0 : Int32)) 0 21)), (0, .ref (hY X.2.1.2 + 0))]) S dX8_clearText_9 (by decide) rfl ?_
  refine r_aload_n S dX8_clearText_10 1 rfl ?_
  refine r_iconst S (0 : Int32) dX8_clearText_11 rfl ?_
  refine r_putI S fc8 (by decide) 21 rfl rfl (by decide +kernel) q_817 dX8_clearText_12 ?_
  refine r_iload_n S dX8_clearText_15 0 rfl ?_
  obtain ⟨rfl, rfl⟩ := si2 hE
  exact hret _ _ dX8_clearText_16
set_option maxRecDepth 100000 in
set_option maxHeartbeats 4000000 in
theorem c_MD_isFigure (l : Launch) (Y : Env1) (hG : gY Y = gM) (M : Mem) (r : Int32) (hE : MD_isFigure M = some r) : CnI l Y yX8_isFigure cX8_isFigure 1 .boolean 1 [.ref (hY Y + 0)] M r M := by
  refine met_Z (own := RX8) (by decide +kernel) rfl hG (Nat.le_of_ble_eq_true rfl) (fun X S hY1 hl1 hret => ?_)
  subst hY1
  subst hl1
  show AW X 0 [(0, .ref (hY X.2.1.2 + 0))] [] M
  unfold MD_isFigure at hE
  refine r_aload_n S dX8_isFigure_0 0 rfl ?_
  refine r_getI S fc8 (by decide) 22 rfl q_819 dX8_isFigure_1 ?_
  refine r_aload_n S dX8_isFigure_4 0 rfl ?_
  refine r_getI S fc8 (by decide) 21 rfl q_817 dX8_isFigure_5 ?_
  refine r_icmp_ge S 37 dX8_isFigure_8 (by decide) (fun c => ?_) (fun c => ?_)
  · rw [if_pos c] at hE
    refine r_iconst S (0 : Int32) dX8_isFigure_37 rfl ?_
    obtain rfl := si1 hE
    exact hret _ _ _ dX8_isFigure_38 (by decide)
  · rw [if_neg c] at hE
    refine r_aload_n S dX8_isFigure_11 0 rfl ?_
    refine r_getRK S fc8 (by decide) 20 12 rfl rfl q_818 dX8_isFigure_12 ?_
    refine r_aload_n S dX8_isFigure_15 0 rfl ?_
    refine r_getI S fc8 (by decide) 22 rfl q_819 dX8_isFigure_16 ?_
    obtain ⟨hi, hE⟩ := ck_some hE
    refine r_iald S (by decide) hi dX8_isFigure_19 ?_
    refine r_i2l S dX8_isFigure_20 ?_
    refine r_ldc2 S (v := 48) q_820 dX8_isFigure_21 ?_
    refine r_ldc2 S (v := 57) q_821 dX8_isFigure_24 ?_
    refine rc_I S (rn_S S (c_MD_in _ _ (gYX S) ((gI M 12 (gI M 0 22).toNatClampNeg).toInt64) (48 : Int64) (57 : Int64) M _ rfl) wdX8_in q_530 ⟨Nat.le_of_ble_eq_true rfl, Nat.le_of_ble_eq_true rfl⟩ rfl (Nat.le_of_ble_eq_true rfl) dX8_isFigure_27) ?_
    refine r_if_eq S 37 dX8_isFigure_30 (by decide) (fun c => ?_) (fun c => ?_)
    · try simp only [if_pos c] at hE
      refine r_iconst S (0 : Int32) dX8_isFigure_37 rfl ?_
      obtain rfl := si1 hE
      exact hret _ _ _ dX8_isFigure_38 (by decide)
    · try simp only [if_neg c] at hE
      refine r_iconst S (1 : Int32) dX8_isFigure_33 rfl ?_
      refine r_goto S 38 dX8_isFigure_34 (by decide) ?_
      obtain rfl := si1 hE
      exact hret _ _ _ dX8_isFigure_38 (by decide)
set_option maxRecDepth 100000 in
set_option maxHeartbeats 4000000 in
theorem c_MD_passes (l : Launch) (Y : Env1) (hG : gY Y = gM) (a1 : Int32) (M : Mem) (r : Int32) (M1 : Mem) (hE : MD_passes a1 M = some (r, M1)) : CnI l Y yX8_passes cX8_passes 3 .boolean 0 [.ref (hY Y + 0), .int a1] M r M1 := by
  refine met_Z (own := RX8) (by decide +kernel) rfl hG (Nat.le_of_ble_eq_true rfl) (fun X S hY1 hl1 hret => ?_)
  subst hY1
  subst hl1
  show AW X 0 [(0, .ref (hY X.2.1.2 + 0)), (1, .int a1)] [] M
  have J29 : ∀ (t0 : Int32) (M : Mem), MD_passes_J29 t0 M = some (r, M1) → AW X 29 [(0, .ref (hY X.2.1.2 + 0))] [.int t0] M := by
    intro t0 M hE
    unfold MD_passes_J29 at hE
    refine r_istore_n (lv2 := [(2, .int t0), (0, .ref (hY X.2.1.2 + 0))]) S dX8_passes_29 (by decide) rfl ?_
    refine r_aload_n S dX8_passes_30 1 rfl ?_
    refine r_dup S dX8_passes_31 rfl ?_
    refine r_getI S fc8 (by decide) 22 rfl q_819 dX8_passes_32 ?_
    refine r_iload_n S dX8_passes_35 0 rfl ?_
    refine r_if_eq S 43 dX8_passes_36 (by decide) (fun c => ?_) (fun c => ?_)
    · try simp only [if_pos c] at hE
      refine r_iconst S (0 : Int32) dX8_passes_43 rfl ?_
      refine r_iadd S dX8_passes_44 ?_
      refine r_putI S fc8 (by decide) 22 rfl rfl (by decide +kernel) q_819 dX8_passes_45 ?_
      refine r_iload_n S dX8_passes_48 0 rfl ?_
      obtain ⟨rfl, rfl⟩ := si2 hE
      exact hret _ _ _ dX8_passes_49 rfl
    · try simp only [if_neg c] at hE
      refine r_iconst S (1 : Int32) dX8_passes_39 rfl ?_
      refine r_goto S 44 dX8_passes_40 (by decide) ?_
      refine r_iadd S dX8_passes_44 ?_
      refine r_putI S fc8 (by decide) 22 rfl rfl (by decide +kernel) q_819 dX8_passes_45 ?_
      refine r_iload_n S dX8_passes_48 0 rfl ?_
      obtain ⟨rfl, rfl⟩ := si2 hE
      exact hret _ _ _ dX8_passes_49 rfl
  have J28 : ∀ (M : Mem), MD_passes_J28 M = some (r, M1) → AW X 28 [(0, .ref (hY X.2.1.2 + 0))] [] M := by
    intro M hE
    unfold MD_passes_J28 at hE
    refine r_iconst S (0 : Int32) dX8_passes_28 rfl ?_
    exact r_sub [0] rfl (J29 (0 : Int32) M hE)
  unfold MD_passes at hE
  refine r_aload_n S dX8_passes_0 0 rfl ?_
  refine r_getI S fc8 (by decide) 22 rfl q_819 dX8_passes_1 ?_
  refine r_aload_n S dX8_passes_4 0 rfl ?_
  refine r_getI S fc8 (by decide) 21 rfl q_817 dX8_passes_5 ?_
  refine r_icmp_ge S 28 dX8_passes_8 (by decide) (fun c => ?_) (fun c => ?_)
  · rw [if_pos c] at hE
    exact r_sub [0] rfl (J28  M hE)
  · rw [if_neg c] at hE
    refine r_aload_n S dX8_passes_11 0 rfl ?_
    refine r_getRK S fc8 (by decide) 20 12 rfl rfl q_818 dX8_passes_12 ?_
    refine r_aload_n S dX8_passes_15 0 rfl ?_
    refine r_getI S fc8 (by decide) 22 rfl q_819 dX8_passes_16 ?_
    obtain ⟨hi, hE⟩ := ck_some hE
    refine r_iald S (by decide) hi dX8_passes_19 ?_
    refine r_iload_n S dX8_passes_20 1 rfl ?_
    refine r_icmp_ne S 28 dX8_passes_21 (by decide) (fun c => ?_) (fun c => ?_)
    · try simp only [if_pos c] at hE
      refine r_iconst S (0 : Int32) dX8_passes_28 rfl ?_
      exact r_sub [0] rfl (J29 (0 : Int32) M hE)
    · try simp only [if_neg (not_not_intro c)] at hE
      refine r_iconst S (1 : Int32) dX8_passes_24 rfl ?_
      refine r_goto S 29 dX8_passes_25 (by decide) ?_
      exact r_sub [0] rfl (J29 (1 : Int32) M hE)
set_option maxRecDepth 100000 in
set_option maxHeartbeats 4000000 in
theorem c_MD_readsSize (l : Launch) (Y : Env1) (hG : gY Y = gM) (M : Mem) (r : Int32) (M1 : Mem) (hE : MD_readsSize M = some (r, M1)) : CnI l Y yX8_readsSize cX8_readsSize 2 .boolean 1 [.ref (hY Y + 0)] M r M1 := by
  refine met_Z (own := RX8) (by decide +kernel) rfl hG (Nat.le_of_ble_eq_true rfl) (fun X S hY1 hl1 hret => ?_)
  subst hY1
  subst hl1
  show AW X 0 [(0, .ref (hY X.2.1.2 + 0))] [] M
  have J60 : ∀ (v1 : Int32) (t0 : Int32) (M : Mem), MD_readsSize_J60 v1 t0 M = some (r, M1) → AW X 60 [(0, .ref (hY X.2.1.2 + 0)), (1, .int v1)] [.int t0, .ref (hY X.2.1.2 + 0)] M := by
    intro v1 t0 M hE
    unfold MD_readsSize_J60 at hE
    refine r_putI S fc8 (by decide) 23 rfl rfl (by decide +kernel) q_824 dX8_readsSize_60 ?_
    refine r_aload_n S dX8_readsSize_63 0 rfl ?_
    refine r_dup S dX8_readsSize_64 rfl ?_
    refine r_getI S fc8 (by decide) 22 rfl q_819 dX8_readsSize_65 ?_
    refine r_iload_n S dX8_readsSize_68 1 rfl ?_
    refine r_if_eq S 76 dX8_readsSize_69 (by decide) (fun c => ?_) (fun c => ?_)
    · try simp only [if_pos c] at hE
      refine r_iconst S (0 : Int32) dX8_readsSize_76 rfl ?_
      refine r_iadd S dX8_readsSize_77 ?_
      refine r_putI S fc8 (by decide) 22 rfl rfl (by decide +kernel) q_819 dX8_readsSize_78 ?_
      refine r_iload_n S dX8_readsSize_81 1 rfl ?_
      obtain ⟨rfl, rfl⟩ := si2 hE
      exact hret _ _ _ dX8_readsSize_82 rfl
    · try simp only [if_neg c] at hE
      refine r_iconst S (1 : Int32) dX8_readsSize_72 rfl ?_
      refine r_goto S 77 dX8_readsSize_73 (by decide) ?_
      refine r_iadd S dX8_readsSize_77 ?_
      refine r_putI S fc8 (by decide) 22 rfl rfl (by decide +kernel) q_819 dX8_readsSize_78 ?_
      refine r_iload_n S dX8_readsSize_81 1 rfl ?_
      obtain ⟨rfl, rfl⟩ := si2 hE
      exact hret _ _ _ dX8_readsSize_82 rfl
  have J38 : ∀ (t0 : Int32) (M : Mem), MD_readsSize_J38 t0 M = some (r, M1) → AW X 38 [(0, .ref (hY X.2.1.2 + 0))] [.int t0] M := by
    intro t0 M hE
    unfold MD_readsSize_J38 at hE
    refine r_istore_n (lv2 := [(1, .int t0), (0, .ref (hY X.2.1.2 + 0))]) S dX8_readsSize_38 (by decide) rfl ?_
    refine r_aload_n S dX8_readsSize_39 1 rfl ?_
    refine r_iload_n S dX8_readsSize_40 0 rfl ?_
    refine r_if_eq S 59 dX8_readsSize_41 (by decide) (fun c => ?_) (fun c => ?_)
    · rw [if_pos c] at hE
      refine r_iconst S (0 : Int32) dX8_readsSize_59 rfl ?_
      exact r_sub [1, 0] rfl (J60 t0 (0 : Int32) M hE)
    · rw [if_neg c] at hE
      refine r_aload_n S dX8_readsSize_44 1 rfl ?_
      refine r_getRK S fc8 (by decide) 20 12 rfl rfl q_818 dX8_readsSize_45 ?_
      refine r_aload_n S dX8_readsSize_48 1 rfl ?_
      refine r_getI S fc8 (by decide) 22 rfl q_819 dX8_readsSize_49 ?_
      obtain ⟨hi, hE⟩ := ck_some hE
      refine r_iald S (by decide) hi dX8_readsSize_52 ?_
      refine r_bipush S (48 : Int32) dX8_readsSize_53 rfl ?_
      refine r_isub S dX8_readsSize_55 ?_
      refine r_goto S 60 dX8_readsSize_56 (by decide) ?_
      exact r_sub [1, 0] rfl (J60 t0 ((gI M 12 (gI M 0 22).toNatClampNeg) - (48 : Int32)) M hE)
  have J37 : ∀ (M : Mem), MD_readsSize_J37 M = some (r, M1) → AW X 37 [(0, .ref (hY X.2.1.2 + 0))] [] M := by
    intro M hE
    unfold MD_readsSize_J37 at hE
    refine r_iconst S (0 : Int32) dX8_readsSize_37 rfl ?_
    exact r_sub [0] rfl (J38 (0 : Int32) M hE)
  unfold MD_readsSize at hE
  refine r_aload_n S dX8_readsSize_0 0 rfl ?_
  refine r_getI S fc8 (by decide) 22 rfl q_819 dX8_readsSize_1 ?_
  refine r_aload_n S dX8_readsSize_4 0 rfl ?_
  refine r_getI S fc8 (by decide) 21 rfl q_817 dX8_readsSize_5 ?_
  refine r_icmp_ge S 37 dX8_readsSize_8 (by decide) (fun c => ?_) (fun c => ?_)
  · rw [if_pos c] at hE
    exact r_sub [0] rfl (J37  M hE)
  · rw [if_neg c] at hE
    refine r_aload_n S dX8_readsSize_11 0 rfl ?_
    refine r_getRK S fc8 (by decide) 20 12 rfl rfl q_818 dX8_readsSize_12 ?_
    refine r_aload_n S dX8_readsSize_15 0 rfl ?_
    refine r_getI S fc8 (by decide) 22 rfl q_819 dX8_readsSize_16 ?_
    obtain ⟨hi, hE⟩ := ck_some hE
    refine r_iald S (by decide) hi dX8_readsSize_19 ?_
    refine r_i2l S dX8_readsSize_20 ?_
    refine r_ldc2 S (v := 49) q_822 dX8_readsSize_21 ?_
    refine r_ldc2 S (v := 54) q_823 dX8_readsSize_24 ?_
    refine rc_I S (rn_S S (c_MD_in _ _ (gYX S) ((gI M 12 (gI M 0 22).toNatClampNeg).toInt64) (49 : Int64) (54 : Int64) M _ rfl) wdX8_in q_530 ⟨Nat.le_of_ble_eq_true rfl, Nat.le_of_ble_eq_true rfl⟩ rfl (Nat.le_of_ble_eq_true rfl) dX8_readsSize_27) ?_
    refine r_if_eq S 37 dX8_readsSize_30 (by decide) (fun c => ?_) (fun c => ?_)
    · try simp only [if_pos c] at hE
      refine r_iconst S (0 : Int32) dX8_readsSize_37 rfl ?_
      exact r_sub [0] rfl (J38 (0 : Int32) M hE)
    · try simp only [if_neg c] at hE
      refine r_iconst S (1 : Int32) dX8_readsSize_33 rfl ?_
      refine r_goto S 38 dX8_readsSize_34 (by decide) ?_
      exact r_sub [0] rfl (J38 (1 : Int32) M hE)
set_option maxRecDepth 100000 in
set_option maxHeartbeats 4000000 in
theorem c_MD_readsNumber (l : Launch) (Y : Env1) (hG : gY Y = gM) (M : Mem) (r : Int32) (M1 : Mem) (hE : MD_readsNumber M = some (r, M1)) : CnI l Y yX8_readsNumber cX8_readsNumber 2 .boolean 2 [.ref (hY Y + 0)] M r M1 := by
  refine met_Z (own := RX8) (by decide +kernel) rfl hG (Nat.le_of_ble_eq_true rfl) (fun X S hY1 hl1 hret => ?_)
  subst hY1
  subst hl1
  show AW X 0 [(0, .ref (hY X.2.1.2 + 0))] [] M
  have L10 : ∀ (v1 : Int32) (e : (Unit)) (M2 : Mem), AW X 64 [(0, .ref (hY X.2.1.2 + 0)), (1, .int v1)] [] M2 → ∀ (n : Nat) (s : Unit) (M : Mem), lpM (fun s M => MD_readsNumber_L10 v1 M) n s M = some (e, M2) → AW X 10 [(0, .ref (hY X.2.1.2 + 0)), (1, .int v1)] [] M := by
    intro v1 e M2 hX
    refine lpM_ind (P := fun (s : Unit) (M : Mem) => AW X 10 [(0, .ref (hY X.2.1.2 + 0)), (1, .int v1)] [] M) ?_
    rintro s M d M3 hE hC hD
    replace hE : MD_readsNumber_L10 v1 M = some (d, M3) := hE
    show AW X 10 [(0, .ref (hY X.2.1.2 + 0)), (1, .int v1)] [] M
    unfold MD_readsNumber_L10 at hE
    refine r_aload_n S dX8_readsNumber_10 0 rfl ?_
    obtain ⟨x1, h9, hE⟩ := b1_some hE
    refine rc_I S (rn_V S fc8 (by decide) (c_MD_isFigure _ _ (gYX S)  M _ h9) wdX8_isFigure q_825 ⟨Nat.le_of_ble_eq_true rfl, Nat.le_of_ble_eq_true rfl⟩ rfl (Nat.le_of_ble_eq_true rfl) dX8_readsNumber_11) ?_
    refine r_if_eq S 64 dX8_readsNumber_14 (by decide) (fun c => ?_) (fun c => ?_)
    · rw [if_pos c] at hE
      obtain ⟨rfl, rfl⟩ := si2 hE
      rcases hD with ⟨h1, h2⟩ | ⟨_, h1⟩
      · obtain rfl := sir h1
        subst h2
        exact r_sub [0, 1] rfl hX
      · exact (sil h1).elim
    · rw [if_neg c] at hE
      refine r_aload_n S dX8_readsNumber_17 0 rfl ?_
      refine r_getI S fc8 (by decide) 22 rfl q_819 dX8_readsNumber_18 ?_
      refine r_iload_n S dX8_readsNumber_21 1 rfl ?_
      refine r_iconst S (2 : Int32) dX8_readsNumber_22 rfl ?_
      refine r_iadd S dX8_readsNumber_23 ?_
      refine r_icmp_ge S 64 dX8_readsNumber_24 (by decide) (fun c => ?_) (fun c => ?_)
      · rw [if_pos c] at hE
        obtain ⟨rfl, rfl⟩ := si2 hE
        rcases hD with ⟨h1, h2⟩ | ⟨_, h1⟩
        · obtain rfl := sir h1
          subst h2
          exact r_sub [0, 1] rfl hX
        · exact (sil h1).elim
      · rw [if_neg c] at hE
        refine r_aload_n S dX8_readsNumber_27 0 rfl ?_
        refine r_bipush S (10 : Int32) dX8_readsNumber_28 rfl ?_
        refine r_aload_n S dX8_readsNumber_30 0 rfl ?_
        refine r_getI S fc8 (by decide) 23 rfl q_824 dX8_readsNumber_31 ?_
        refine r_imul S dX8_readsNumber_34 ?_
        refine r_aload_n S dX8_readsNumber_35 0 rfl ?_
        refine r_getRK S fc8 (by decide) 20 12 rfl rfl q_818 dX8_readsNumber_36 ?_
        refine r_aload_n S dX8_readsNumber_39 0 rfl ?_
        refine r_getI S fc8 (by decide) 22 rfl q_819 dX8_readsNumber_40 ?_
        obtain ⟨hi, hE⟩ := ck_some hE
        refine r_iald S (by decide) hi dX8_readsNumber_43 ?_
        refine r_iadd S dX8_readsNumber_44 ?_
        refine r_bipush S (48 : Int32) dX8_readsNumber_45 rfl ?_
        refine r_isub S dX8_readsNumber_47 ?_
        refine r_putI S fc8 (by decide) 23 rfl rfl (by decide +kernel) q_824 dX8_readsNumber_48 ?_
        refine r_aload_n S dX8_readsNumber_51 0 rfl ?_
        refine r_dup S dX8_readsNumber_52 rfl ?_
        refine r_getI S fc8 (by decide) 22 rfl q_819 dX8_readsNumber_53 ?_
        refine r_iconst S (1 : Int32) dX8_readsNumber_56 rfl ?_
        refine r_iadd S dX8_readsNumber_57 ?_
        refine r_putI S fc8 (by decide) 22 rfl rfl (by decide +kernel) q_819 dX8_readsNumber_58 ?_
        refine r_goto S 10 dX8_readsNumber_61 (by decide) ?_
        obtain ⟨rfl, rfl⟩ := si2 hE
        exact r_sub (lv2 := [(0, .ref (hY X.2.1.2 + 0)), (1, .int v1)]) [0, 1] rfl (hC () rfl)
  unfold MD_readsNumber at hE
  refine r_aload_n S dX8_readsNumber_0 0 rfl ?_
  refine r_getI S fc8 (by decide) 22 rfl q_819 dX8_readsNumber_1 ?_
  refine r_istore_n (lv2 := [(1, .int (gI M 0 22)), (0, .ref (hY X.2.1.2 + 0))]) S dX8_readsNumber_4 (by decide) rfl ?_
  refine r_aload_n S dX8_readsNumber_5 1 rfl ?_
  refine r_iconst S (0 : Int32) dX8_readsNumber_6 rfl ?_
  refine r_putI S fc8 (by decide) 23 rfl rfl (by decide +kernel) q_824 dX8_readsNumber_7 ?_
  obtain ⟨e1, M2, h9, hE⟩ := b2_some hE
  refine r_sub [1, 0] rfl (L10 (gI M 0 22)  e1 M2 ?_ _ _ (sI M 0 23 (0 : Int32)) h9)
  refine r_aload_n S dX8_readsNumber_64 0 rfl ?_
  refine r_getI S fc8 (by decide) 22 rfl q_819 dX8_readsNumber_65 ?_
  refine r_iload_n S dX8_readsNumber_68 1 rfl ?_
  refine r_icmp_le S 83 dX8_readsNumber_69 (by decide) (fun c => ?_) (fun c => ?_)
  · rw [if_pos c] at hE
    refine r_iconst S (0 : Int32) dX8_readsNumber_83 rfl ?_
    obtain ⟨rfl, rfl⟩ := si2 hE
    exact hret _ _ _ dX8_readsNumber_84 (by decide)
  · rw [if_neg c] at hE
    refine r_aload_n S dX8_readsNumber_72 0 rfl ?_
    obtain ⟨x3, h9, hE⟩ := b1_some hE
    refine rc_I S (rn_V S fc8 (by decide) (c_MD_isFigure _ _ (gYX S)  M2 _ h9) wdX8_isFigure q_825 ⟨Nat.le_of_ble_eq_true rfl, Nat.le_of_ble_eq_true rfl⟩ rfl (Nat.le_of_ble_eq_true rfl) dX8_readsNumber_73) ?_
    refine r_if_ne S 83 dX8_readsNumber_76 (by decide) (fun c => ?_) (fun c => ?_)
    · try simp only [if_pos c] at hE
      refine r_iconst S (0 : Int32) dX8_readsNumber_83 rfl ?_
      obtain ⟨rfl, rfl⟩ := si2 hE
      exact hret _ _ _ dX8_readsNumber_84 (by decide)
    · try simp only [if_neg (not_not_intro c)] at hE
      refine r_iconst S (1 : Int32) dX8_readsNumber_79 rfl ?_
      refine r_goto S 84 dX8_readsNumber_80 (by decide) ?_
      obtain ⟨rfl, rfl⟩ := si2 hE
      exact hret _ _ _ dX8_readsNumber_84 (by decide)
set_option maxRecDepth 100000 in
set_option maxHeartbeats 4000000 in
theorem c_MD_readsCell (l : Launch) (Y : Env1) (hG : gY Y = gM) (a1 : Int32) (M : Mem) (r : Int32) (M1 : Mem) (hE : MD_readsCell a1 M = some (r, M1)) : CnI l Y yX8_readsCell cX8_readsCell 4 .boolean 3 [.ref (hY Y + 0), .int a1] M r M1 := by
  refine met_Z (own := RX8) (by decide +kernel) rfl hG (Nat.le_of_ble_eq_true rfl) (fun X S hY1 hl1 hret => ?_)
  subst hY1
  subst hl1
  show AW X 0 [(0, .ref (hY X.2.1.2 + 0)), (1, .int a1)] [] M
  have J47 : ∀ (v2 : Int32) (t0 : Int32) (M : Mem), MD_readsCell_J47 v2 t0 M = some (r, M1) → AW X 47 [(0, .ref (hY X.2.1.2 + 0)), (2, .int v2)] [.int t0] M := by
    intro v2 t0 M hE
    unfold MD_readsCell_J47 at hE
    refine r_istore_n (lv2 := [(3, .int t0), (0, .ref (hY X.2.1.2 + 0)), (2, .int v2)]) S dX8_readsCell_47 (by decide) rfl ?_
    refine r_aload_n S dX8_readsCell_48 1 rfl ?_
    refine r_iload_n S dX8_readsCell_49 0 rfl ?_
    refine r_if_eq S 60 dX8_readsCell_50 (by decide) (fun c => ?_) (fun c => ?_)
    · try simp only [if_pos c] at hE
      refine r_iload_n S dX8_readsCell_60 2 rfl ?_
      refine r_putI S fc8 (by decide) 22 rfl rfl (by decide +kernel) q_819 dX8_readsCell_61 ?_
      refine r_iload_n S dX8_readsCell_64 0 rfl ?_
      obtain ⟨rfl, rfl⟩ := si2 hE
      exact hret _ _ _ dX8_readsCell_65 rfl
    · try simp only [if_neg c] at hE
      refine r_aload_n S dX8_readsCell_53 1 rfl ?_
      refine r_getI S fc8 (by decide) 22 rfl q_819 dX8_readsCell_54 ?_
      refine r_goto S 61 dX8_readsCell_57 (by decide) ?_
      refine r_putI S fc8 (by decide) 22 rfl rfl (by decide +kernel) q_819 dX8_readsCell_61 ?_
      refine r_iload_n S dX8_readsCell_64 0 rfl ?_
      obtain ⟨rfl, rfl⟩ := si2 hE
      exact hret _ _ _ dX8_readsCell_65 rfl
  have J46 : ∀ (v2 : Int32) (M : Mem), MD_readsCell_J46 v2 M = some (r, M1) → AW X 46 [(0, .ref (hY X.2.1.2 + 0)), (2, .int v2)] [] M := by
    intro v2 M hE
    unfold MD_readsCell_J46 at hE
    refine r_iconst S (0 : Int32) dX8_readsCell_46 rfl ?_
    exact r_sub [0, 1] rfl (J47 v2 (0 : Int32) M hE)
  have J42 : ∀ (v2 : Int32) (M : Mem), MD_readsCell_J42 v2 M = some (r, M1) → AW X 42 [(0, .ref (hY X.2.1.2 + 0)), (2, .int v2)] [] M := by
    intro v2 M hE
    unfold MD_readsCell_J42 at hE
    refine r_iconst S (1 : Int32) dX8_readsCell_42 rfl ?_
    refine r_goto S 47 dX8_readsCell_43 (by decide) ?_
    exact r_sub [0, 1] rfl (J47 v2 (1 : Int32) M hE)
  unfold MD_readsCell at hE
  refine r_aload_n S dX8_readsCell_0 0 rfl ?_
  refine r_getI S fc8 (by decide) 22 rfl q_819 dX8_readsCell_1 ?_
  refine r_istore_n (lv2 := [(2, .int (gI M 0 22)), (0, .ref (hY X.2.1.2 + 0)), (1, .int a1)]) S dX8_readsCell_4 (by decide) rfl ?_
  refine r_aload_n S dX8_readsCell_5 1 rfl ?_
  obtain ⟨x1, M2, h9, hE⟩ := b2_some hE
  refine rc_I S (rn_V S fc8 (by decide) (c_MD_readsNumber _ _ (gYX S)  M _ _ h9) wdX8_readsNumber q_830 ⟨Nat.le_of_ble_eq_true rfl, Nat.le_of_ble_eq_true rfl⟩ rfl (Nat.le_of_ble_eq_true rfl) dX8_readsCell_6) ?_
  refine r_if_ne S 14 dX8_readsCell_9 (by decide) (fun c => ?_) (fun c => ?_)
  · rw [if_pos c] at hE
    refine r_aload_n S dX8_readsCell_14 1 rfl ?_
    refine r_aload_n S dX8_readsCell_15 1 rfl ?_
    refine r_getI S fc8 (by decide) 23 rfl q_824 dX8_readsCell_16 ?_
    refine rc_I S (rn_V S fc8 (by decide) (c_MD_isCell _ _ (gYX S) (gI M2 0 23) M2 _ rfl) wdX8_isCell q_539 ⟨Nat.le_of_ble_eq_true rfl, Nat.le_of_ble_eq_true rfl⟩ rfl (Nat.le_of_ble_eq_true rfl) dX8_readsCell_19) ?_
    refine r_if_eq S 46 dX8_readsCell_22 (by decide) (fun c => ?_) (fun c => ?_)
    · rw [if_pos c] at hE
      exact r_sub [1, 0] rfl (J46 (gI M 0 22) M2 hE)
    · rw [if_neg c] at hE
      refine r_iload_n S dX8_readsCell_25 2 rfl ?_
      refine r_iconst S (-1 : Int32) dX8_readsCell_26 rfl ?_
      refine r_icmp_eq S 42 dX8_readsCell_27 (by decide) (fun c => ?_) (fun c => ?_)
      · rw [if_pos c] at hE
        exact r_sub [1, 0] rfl (J42 (gI M 0 22) M2 hE)
      · rw [if_neg c] at hE
        refine r_aload_n S dX8_readsCell_30 1 rfl ?_
        refine r_iload_n S dX8_readsCell_31 2 rfl ?_
        refine r_aload_n S dX8_readsCell_32 1 rfl ?_
        refine r_getI S fc8 (by decide) 23 rfl q_824 dX8_readsCell_33 ?_
        obtain ⟨x3, h9, hE⟩ := b1_some hE
        refine rc_I S (rn_V S fc8 (by decide) (c_MD_areNeighbors _ _ (gYX S) a1 (gI M2 0 23) M2 _ h9) wdX8_areNeighbors q_544 ⟨Nat.le_of_ble_eq_true rfl, Nat.le_of_ble_eq_true rfl⟩ rfl (Nat.le_of_ble_eq_true rfl) dX8_readsCell_36) ?_
        refine r_if_eq S 46 dX8_readsCell_39 (by decide) (fun c => ?_) (fun c => ?_)
        · try simp only [if_pos c] at hE
          refine r_iconst S (0 : Int32) dX8_readsCell_46 rfl ?_
          exact r_sub [1, 0] rfl (J47 (gI M 0 22) (0 : Int32) M2 hE)
        · try simp only [if_neg c] at hE
          refine r_iconst S (1 : Int32) dX8_readsCell_42 rfl ?_
          refine r_goto S 47 dX8_readsCell_43 (by decide) ?_
          exact r_sub [1, 0] rfl (J47 (gI M 0 22) (1 : Int32) M2 hE)
  · rw [if_neg (not_not_intro c)] at hE
    refine r_iconst S (0 : Int32) dX8_readsCell_12 rfl ?_
    obtain ⟨rfl, rfl⟩ := si2 hE
    exact hret _ _ _ dX8_readsCell_13 (by decide)
set_option maxRecDepth 100000 in
set_option maxHeartbeats 4000000 in
theorem c_MD_readsGate (l : Launch) (Y : Env1) (hG : gY Y = gM) (M : Mem) (r : Int32) (M1 : Mem) (hE : MD_readsGate M = some (r, M1)) : CnI l Y yX8_readsGate cX8_readsGate 3 .boolean 4 [.ref (hY Y + 0)] M r M1 := by
  refine met_Z (own := RX8) (by decide +kernel) rfl hG (Nat.le_of_ble_eq_true rfl) (fun X S hY1 hl1 hret => ?_)
  subst hY1
  subst hl1
  show AW X 0 [(0, .ref (hY X.2.1.2 + 0))] [] M
  unfold MD_readsGate at hE
  refine r_aload_n S dX8_readsGate_0 0 rfl ?_
  refine r_iconst S (-1 : Int32) dX8_readsGate_1 rfl ?_
  obtain ⟨x1, M2, h9, hE⟩ := b2_some hE
  refine rc_I S (rn_V S fc8 (by decide) (c_MD_readsCell _ _ (gYX S) (-1 : Int32) M _ _ h9) wdX8_readsCell q_835 ⟨Nat.le_of_ble_eq_true rfl, Nat.le_of_ble_eq_true rfl⟩ rfl (Nat.le_of_ble_eq_true rfl) dX8_readsGate_2) ?_
  refine r_if_ne S 10 dX8_readsGate_5 (by decide) (fun c => ?_) (fun c => ?_)
  · rw [if_pos c] at hE
    refine r_aload_n S dX8_readsGate_10 0 rfl ?_
    refine r_getI S fc8 (by decide) 23 rfl q_824 dX8_readsGate_11 ?_
    refine r_istore_n (lv2 := [(1, .int (gI M2 0 23)), (0, .ref (hY X.2.1.2 + 0))]) S dX8_readsGate_14 (by decide) rfl ?_
    refine r_aload_n S dX8_readsGate_15 1 rfl ?_
    refine r_bipush S (44 : Int32) dX8_readsGate_16 rfl ?_
    obtain ⟨x3, M4, h9, hE⟩ := b2_some hE
    refine rc_I S (rn_V S fc8 (by decide) (c_MD_passes _ _ (gYX S) (44 : Int32) M2 _ _ h9) wdX8_passes q_840 ⟨Nat.le_of_ble_eq_true rfl, Nat.le_of_ble_eq_true rfl⟩ rfl (Nat.le_of_ble_eq_true rfl) dX8_readsGate_18) ?_
    refine r_if_eq S 32 dX8_readsGate_21 (by decide) (fun c => ?_) (fun c => ?_)
    · rw [if_pos c] at hE
      refine r_iconst S (0 : Int32) dX8_readsGate_32 rfl ?_
      obtain ⟨rfl, rfl⟩ := si2 hE
      exact hret _ _ _ dX8_readsGate_33 (by decide)
    · rw [if_neg c] at hE
      refine r_aload_n S dX8_readsGate_24 1 rfl ?_
      refine r_iload_n S dX8_readsGate_25 0 rfl ?_
      obtain ⟨x5, M6, h9, hE⟩ := b2_some hE
      refine rc_I S (rn_V S fc8 (by decide) (c_MD_readsCell _ _ (gYX S) (gI M2 0 23) M4 _ _ h9) wdX8_readsCell q_835 ⟨Nat.le_of_ble_eq_true rfl, Nat.le_of_ble_eq_true rfl⟩ rfl (Nat.le_of_ble_eq_true rfl) dX8_readsGate_26) ?_
      refine r_if_ne S 34 dX8_readsGate_29 (by decide) (fun c => ?_) (fun c => ?_)
      · rw [if_pos c] at hE
        refine r_aload_n S dX8_readsGate_34 1 rfl ?_
        refine r_getI S fc8 (by decide) 23 rfl q_824 dX8_readsGate_35 ?_
        refine r_istore_n (lv2 := [(2, .int (gI M6 0 23)), (1, .int (gI M2 0 23)), (0, .ref (hY X.2.1.2 + 0))]) S dX8_readsGate_38 (by decide) rfl ?_
        refine r_aload_n S dX8_readsGate_39 2 rfl ?_
        refine r_bipush S (44 : Int32) dX8_readsGate_40 rfl ?_
        obtain ⟨x7, M8, h9, hE⟩ := b2_some hE
        refine rc_I S (rn_V S fc8 (by decide) (c_MD_passes _ _ (gYX S) (44 : Int32) M6 _ _ h9) wdX8_passes q_840 ⟨Nat.le_of_ble_eq_true rfl, Nat.le_of_ble_eq_true rfl⟩ rfl (Nat.le_of_ble_eq_true rfl) dX8_readsGate_42) ?_
        refine r_if_eq S 55 dX8_readsGate_45 (by decide) (fun c => ?_) (fun c => ?_)
        · rw [if_pos c] at hE
          refine r_iconst S (0 : Int32) dX8_readsGate_55 rfl ?_
          obtain ⟨rfl, rfl⟩ := si2 hE
          exact hret _ _ _ dX8_readsGate_56 (by decide)
        · rw [if_neg c] at hE
          refine r_aload_n S dX8_readsGate_48 2 rfl ?_
          obtain ⟨x9, M10, h9, hE⟩ := b2_some hE
          refine rc_I S (rn_V S fc8 (by decide) (c_MD_readsNumber _ _ (gYX S)  M8 _ _ h9) wdX8_readsNumber q_830 ⟨Nat.le_of_ble_eq_true rfl, Nat.le_of_ble_eq_true rfl⟩ rfl (Nat.le_of_ble_eq_true rfl) dX8_readsGate_49) ?_
          refine r_if_ne S 57 dX8_readsGate_52 (by decide) (fun c => ?_) (fun c => ?_)
          · rw [if_pos c] at hE
            refine r_aload_n S dX8_readsGate_57 2 rfl ?_
            refine r_getRK S fc8 (by decide) 0 1 rfl rfl q_523 dX8_readsGate_58 ?_
            refine r_aload_n S dX8_readsGate_61 2 rfl ?_
            refine r_iload_n S dX8_readsGate_62 1 rfl ?_
            refine r_iload_n S dX8_readsGate_63 0 rfl ?_
            obtain ⟨x11, h9, hE⟩ := b1_some hE
            refine rc_I S (rn_V S fc8 (by decide) (c_MD_gateAt _ _ (gYX S) (gI M2 0 23) (gI M6 0 23) M10 _ h9) wdX8_gateAt q_549 ⟨Nat.le_of_ble_eq_true rfl, Nat.le_of_ble_eq_true rfl⟩ rfl (Nat.le_of_ble_eq_true rfl) dX8_readsGate_64) ?_
            refine r_aload_n S dX8_readsGate_67 2 rfl ?_
            refine r_getI S fc8 (by decide) 23 rfl q_824 dX8_readsGate_68 ?_
            refine r_i2l S dX8_readsGate_71 ?_
            obtain ⟨hi, hE⟩ := ck_some hE
            refine r_last S (by decide) hi dX8_readsGate_72 ?_
            refine r_iconst S (1 : Int32) dX8_readsGate_73 rfl ?_
            obtain ⟨rfl, rfl⟩ := si2 hE
            exact hret _ _ _ dX8_readsGate_74 (by decide)
          · rw [if_neg (not_not_intro c)] at hE
            refine r_iconst S (0 : Int32) dX8_readsGate_55 rfl ?_
            obtain ⟨rfl, rfl⟩ := si2 hE
            exact hret _ _ _ dX8_readsGate_56 (by decide)
      · rw [if_neg (not_not_intro c)] at hE
        refine r_iconst S (0 : Int32) dX8_readsGate_32 rfl ?_
        obtain ⟨rfl, rfl⟩ := si2 hE
        exact hret _ _ _ dX8_readsGate_33 (by decide)
  · rw [if_neg (not_not_intro c)] at hE
    refine r_iconst S (0 : Int32) dX8_readsGate_8 rfl ?_
    obtain ⟨rfl, rfl⟩ := si2 hE
    exact hret _ _ _ dX8_readsGate_9 (by decide)
set_option maxRecDepth 100000 in
set_option maxHeartbeats 4000000 in
theorem c_MD_readsDrain (l : Launch) (Y : Env1) (hG : gY Y = gM) (M : Mem) (r : Int32) (M1 : Mem) (hE : MD_readsDrain M = some (r, M1)) : CnI l Y yX8_readsDrain cX8_readsDrain 2 .boolean 4 [.ref (hY Y + 0)] M r M1 := by
  refine met_Z (own := RX8) (by decide +kernel) rfl hG (Nat.le_of_ble_eq_true rfl) (fun X S hY1 hl1 hret => ?_)
  subst hY1
  subst hl1
  show AW X 0 [(0, .ref (hY X.2.1.2 + 0))] [] M
  unfold MD_readsDrain at hE
  refine r_aload_n S dX8_readsDrain_0 0 rfl ?_
  refine r_iconst S (-1 : Int32) dX8_readsDrain_1 rfl ?_
  obtain ⟨x1, M2, h9, hE⟩ := b2_some hE
  refine rc_I S (rn_V S fc8 (by decide) (c_MD_readsCell _ _ (gYX S) (-1 : Int32) M _ _ h9) wdX8_readsCell q_835 ⟨Nat.le_of_ble_eq_true rfl, Nat.le_of_ble_eq_true rfl⟩ rfl (Nat.le_of_ble_eq_true rfl) dX8_readsDrain_2) ?_
  refine r_istore_n (lv2 := [(1, .int x1), (0, .ref (hY X.2.1.2 + 0))]) S dX8_readsDrain_5 (by decide) rfl ?_
  refine r_aload_n S dX8_readsDrain_6 1 rfl ?_
  refine r_getRK S fc8 (by decide) 0 1 rfl rfl q_523 dX8_readsDrain_7 ?_
  refine r_iconst S (2 : Int32) dX8_readsDrain_10 rfl ?_
  refine r_dup2 S dX8_readsDrain_11 rfl rfl ?_
  refine r_laldK S 2 rfl (by decide) (by decide) dX8_readsDrain_12 ?_
  refine r_iload_n S dX8_readsDrain_13 0 rfl ?_
  refine r_if_eq S 26 dX8_readsDrain_14 (by decide) (fun c => ?_) (fun c => ?_)
  · try simp only [if_pos c] at hE
    refine r_lconst S (0 : Int64) dX8_readsDrain_26 rfl ?_
    refine r_lor S dX8_readsDrain_27 ?_
    refine r_lastK S 2 rfl (by decide) (by decide) dX8_readsDrain_28 ?_
    refine r_iload_n S dX8_readsDrain_29 0 rfl ?_
    obtain ⟨rfl, rfl⟩ := si2 hE
    exact hret _ _ _ dX8_readsDrain_30 rfl
  · try simp only [if_neg c] at hE
    refine r_lconst S (1 : Int64) dX8_readsDrain_17 rfl ?_
    refine r_aload_n S dX8_readsDrain_18 1 rfl ?_
    refine r_getI S fc8 (by decide) 23 rfl q_824 dX8_readsDrain_19 ?_
    refine r_lshl S dX8_readsDrain_22 ?_
    refine r_goto S 27 dX8_readsDrain_23 (by decide) ?_
    refine r_lor S dX8_readsDrain_27 ?_
    refine r_lastK S 2 rfl (by decide) (by decide) dX8_readsDrain_28 ?_
    refine r_iload_n S dX8_readsDrain_29 0 rfl ?_
    obtain ⟨rfl, rfl⟩ := si2 hE
    exact hret _ _ _ dX8_readsDrain_30 rfl
set_option maxRecDepth 100000 in
set_option maxHeartbeats 4000000 in
theorem c_MD_readsHeights (l : Launch) (Y : Env1) (hG : gY Y = gM) (M : Mem) (r : Int32) (M1 : Mem) (hE : MD_readsHeights M = some (r, M1)) : CnI l Y yX8_readsHeights cX8_readsHeights 2 .boolean 3 [.ref (hY Y + 0)] M r M1 := by
  refine met_Z (own := RX8) (by decide +kernel) rfl hG (Nat.le_of_ble_eq_true rfl) (fun X S hY1 hl1 hret => ?_)
  subst hY1
  subst hl1
  show AW X 0 [(0, .ref (hY X.2.1.2 + 0))] [] M
  have L2 : ∀ (q : ((Unit) ⊕ Int32)) (M2 : Mem), (∀ e, q = .inl e → AW X 52 [] [] M2) → (∀ r8, q = .inr r8 → (r8 = r ∧ M2 = M1)) → ∀ (n : Nat) (s : Int32) (M : Mem), lpM (fun s M => MD_readsHeights_L2 s M) n s M = some (q, M2) → AW X 2 [(0, .ref (hY X.2.1.2 + 0)), (1, .int s)] [] M := by
    intro q M2 hX hR
    refine lpM_ind (P := fun (s : Int32) (M : Mem) => AW X 2 [(0, .ref (hY X.2.1.2 + 0)), (1, .int s)] [] M) ?_
    rintro v1 M d M3 hE hC hD
    replace hE : MD_readsHeights_L2 v1 M = some (d, M3) := hE
    show AW X 2 [(0, .ref (hY X.2.1.2 + 0)), (1, .int v1)] [] M
    have J23 : ∀ (v1 : Int32) (M : Mem), MD_readsHeights_L2_J23 v1 M = some (d, M3) → AW X 23 [(0, .ref (hY X.2.1.2 + 0)), (1, .int v1)] [] M := by
      intro v1 M hE
      unfold MD_readsHeights_L2_J23 at hE
      refine r_aload_n S dX8_readsHeights_23 0 rfl ?_
      obtain ⟨x1, M2, h9, hE⟩ := b2_some hE
      refine rc_I S (rn_V S fc8 (by decide) (c_MD_readsNumber _ _ (gYX S)  M _ _ h9) wdX8_readsNumber q_830 ⟨Nat.le_of_ble_eq_true rfl, Nat.le_of_ble_eq_true rfl⟩ rfl (Nat.le_of_ble_eq_true rfl) dX8_readsHeights_24) ?_
      refine r_if_ne S 32 dX8_readsHeights_27 (by decide) (fun c => ?_) (fun c => ?_)
      · rw [if_pos c] at hE
        refine r_aload_n S dX8_readsHeights_32 0 rfl ?_
        refine r_getRK S fc8 (by decide) 0 1 rfl rfl q_523 dX8_readsHeights_33 ?_
        refine r_bipush S (8 : Int32) dX8_readsHeights_36 rfl ?_
        refine r_iload_n S dX8_readsHeights_38 1 rfl ?_
        refine r_iadd S dX8_readsHeights_39 ?_
        refine r_aload_n S dX8_readsHeights_40 0 rfl ?_
        refine r_getI S fc8 (by decide) 23 rfl q_824 dX8_readsHeights_41 ?_
        refine r_i2l S dX8_readsHeights_44 ?_
        obtain ⟨hi, hE⟩ := ck_some hE
        refine r_last S (by decide) hi dX8_readsHeights_45 ?_
        refine r_iinc (lv2 := [(1, .int (v1 + (1 : Int32))), (0, .ref (hY X.2.1.2 + 0))]) S dX8_readsHeights_46 (j := 1) rfl (by decide) rfl ?_
        refine r_goto S 2 dX8_readsHeights_49 (by decide) ?_
        obtain ⟨rfl, rfl⟩ := si2 hE
        exact r_sub (lv2 := [(0, .ref (hY X.2.1.2 + 0)), (1, .int (v1 + (1 : Int32)))]) [1, 0] rfl (hC (v1 + (1 : Int32)) rfl)
      · rw [if_neg (not_not_intro c)] at hE
        refine r_iconst S (0 : Int32) dX8_readsHeights_30 rfl ?_
        obtain ⟨rfl, rfl⟩ := si2 hE
        rcases hD with ⟨h1, h2⟩ | ⟨_, h1⟩
        · obtain rfl := sir h1
          subst h2
          obtain ⟨rfl, rfl⟩ := hR _ rfl
          exact hret _ _ _ dX8_readsHeights_31 (by decide)
        · exact (sil h1).elim
    unfold MD_readsHeights_L2 at hE
    refine r_iload_n S dX8_readsHeights_2 1 rfl ?_
    refine r_aload_n S dX8_readsHeights_3 0 rfl ?_
    refine rc_I S (rn_V S fc8 (by decide) (c_MD_many _ _ (gYX S)  M _ rfl) wdX8_many q_525 ⟨Nat.le_of_ble_eq_true rfl, Nat.le_of_ble_eq_true rfl⟩ rfl (Nat.le_of_ble_eq_true rfl) dX8_readsHeights_4) ?_
    refine r_icmp_ge S 52 dX8_readsHeights_7 (by decide) (fun c => ?_) (fun c => ?_)
    · rw [if_pos c] at hE
      obtain ⟨rfl, rfl⟩ := si2 hE
      rcases hD with ⟨h1, h2⟩ | ⟨_, h1⟩
      · obtain rfl := sir h1
        subst h2
        exact r_sub [] rfl (hX _ rfl)
      · exact (sil h1).elim
    · rw [if_neg c] at hE
      refine r_iload_n S dX8_readsHeights_10 1 rfl ?_
      refine r_if_le S 23 dX8_readsHeights_11 (by decide) (fun c => ?_) (fun c => ?_)
      · rw [if_pos c] at hE
        exact r_sub [0, 1] rfl (J23 v1 M hE)
      · rw [if_neg c] at hE
        refine r_aload_n S dX8_readsHeights_14 0 rfl ?_
        refine r_bipush S (44 : Int32) dX8_readsHeights_15 rfl ?_
        obtain ⟨x1, M2, h9, hE⟩ := b2_some hE
        refine rc_I S (rn_V S fc8 (by decide) (c_MD_passes _ _ (gYX S) (44 : Int32) M _ _ h9) wdX8_passes q_840 ⟨Nat.le_of_ble_eq_true rfl, Nat.le_of_ble_eq_true rfl⟩ rfl (Nat.le_of_ble_eq_true rfl) dX8_readsHeights_17) ?_
        refine r_if_eq S 30 dX8_readsHeights_20 (by decide) (fun c => ?_) (fun c => ?_)
        · rw [if_pos c] at hE
          refine r_iconst S (0 : Int32) dX8_readsHeights_30 rfl ?_
          obtain ⟨rfl, rfl⟩ := si2 hE
          rcases hD with ⟨h1, h2⟩ | ⟨_, h1⟩
          · obtain rfl := sir h1
            subst h2
            obtain ⟨rfl, rfl⟩ := hR _ rfl
            exact hret _ _ _ dX8_readsHeights_31 (by decide)
          · exact (sil h1).elim
        · rw [if_neg c] at hE
          exact r_sub [0, 1] rfl (J23 v1 M2 hE)
  unfold MD_readsHeights at hE
  refine r_iconst S (0 : Int32) dX8_readsHeights_0 rfl ?_
  refine r_istore_n (lv2 := [(1, .int (0 : Int32)), (0, .ref (hY X.2.1.2 + 0))]) S dX8_readsHeights_1 (by decide) rfl ?_
  obtain ⟨e1, M2, h9, hE⟩ := b2_some hE
  refine r_sub [1, 0] rfl (L2   e1 M2 (fun e3 h8 => ?_) (fun r8 h8 => ?_) _ _ M h9)
  · subst h8
    refine r_iconst S (1 : Int32) dX8_readsHeights_52 rfl ?_
    obtain ⟨rfl, rfl⟩ := si2 hE
    exact hret _ _ _ dX8_readsHeights_53 (by decide)
  · subst h8
    exact si2 hE
