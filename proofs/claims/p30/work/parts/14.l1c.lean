set_option maxRecDepth 100000 in
set_option maxHeartbeats 4000000 in
theorem c_WY_numberPits (l : Launch) (Y : Env1) (hG : gY Y = gC) (o : Nat) (ho : kC o = 5) (a1 : Nat) (k1 : kC a1 = 0) (M : Mem) (r : Unit) (M1 : Mem) (hE : WY_numberPits o a1 M = some (r, M1)) : CnV l Y yX5_numberPits cX5_numberPits 6 2 [.ref (hY Y + o), .ref (hY Y + a1)] M M1 := by
  refine met_V (own := RX5) (by decide +kernel) rfl hG (Nat.le_of_ble_eq_true rfl) (fun X S hY1 hl1 hret => ?_)
  subst hY1
  subst hl1
  show AW X 0 [(0, .ref (hY X.2.1.2 + o)), (1, .ref (hY X.2.1.2 + a1))] [] M
  have L15 : ∀ (v0 : Nat) (k0 : kC v0 = 5) (v1 : Nat) (k1 : kC v1 = 0) (e : (Unit)) (M2 : Mem), AW X 117 [] [] M2 → ∀ (n : Nat) (s : Int32) (M : Mem), lpM (fun s M => WY_numberPits_L15 v0 v1 s M) n s M = some (e, M2) → AW X 15 [(0, .ref (hY X.2.1.2 + v0)), (1, .ref (hY X.2.1.2 + v1)), (2, .int s)] [] M := by
    intro v0 k0 v1 k1 e M2 hX
    refine lpM_ind (P := fun (s : Int32) (M : Mem) => AW X 15 [(0, .ref (hY X.2.1.2 + v0)), (1, .ref (hY X.2.1.2 + v1)), (2, .int s)] [] M) ?_
    rintro v2 M d M3 hE hC hD
    replace hE : WY_numberPits_L15 v0 v1 v2 M = some (d, M3) := hE
    show AW X 15 [(0, .ref (hY X.2.1.2 + v0)), (1, .ref (hY X.2.1.2 + v1)), (2, .int v2)] [] M
    have J88 : ∀ (v2 : Int32) (v5 : Int32) (t0 : Int32) (t1 : Int32) (t2 : Nat) (kt2 : kC t2 = 3) (M : Mem), WY_numberPits_L15_J88 v0 v1 v2 v5 t0 t1 t2 M = some (d, M3) → AW X 88 [(0, .ref (hY X.2.1.2 + v0)), (1, .ref (hY X.2.1.2 + v1)), (2, .int v2), (5, .int v5)] [.int t0, .int t1, .ref (hY X.2.1.2 + t2)] M := by
      intro v2 v5 t0 t1 t2 kt2 M hE
      unfold WY_numberPits_L15_J88 at hE
      refine rc_V S (rn_V S fc3 kt2 (c_NR_put _ _ (gYX S) t2 kt2 t1 t0 M _ rfl) wdX3_put q_275 ⟨Nat.le_of_ble_eq_true rfl, Nat.le_of_ble_eq_true rfl⟩ rfl (Nat.le_of_ble_eq_true rfl) dX5_numberPits_88) ?_
      refine r_aload_n S dX5_numberPits_91 0 rfl ?_
      refine r_dup S dX5_numberPits_92 rfl ?_
      refine r_getI S fc5 k0 0 rfl q_197 dX5_numberPits_93 ?_
      refine r_iload S dX5_numberPits_96 3 rfl ?_
      refine r_iload_n S dX5_numberPits_98 2 rfl ?_
      refine r_icmp_ne S 106 dX5_numberPits_99 (by decide) (fun c => ?_) (fun c => ?_)
      · try simp only [if_pos c] at hE
        refine r_iconst S (0 : Int32) dX5_numberPits_106 rfl ?_
        refine r_iadd S dX5_numberPits_107 ?_
        refine r_putI S fc5 k0 0 rfl rfl (by decide +kernel) q_197 dX5_numberPits_108 ?_
        refine r_iinc (lv2 := [(2, .int (v2 + (1 : Int32))), (0, .ref (hY X.2.1.2 + v0)), (1, .ref (hY X.2.1.2 + v1)), (5, .int v5)]) S dX5_numberPits_111 (j := 2) rfl (by decide) rfl ?_
        refine r_goto S 15 dX5_numberPits_114 (by decide) ?_
        obtain ⟨rfl, rfl⟩ := si2 hE
        exact r_sub (lv2 := [(0, .ref (hY X.2.1.2 + v0)), (1, .ref (hY X.2.1.2 + v1)), (2, .int (v2 + (1 : Int32)))]) [1, 2, 0] rfl (hC (v2 + (1 : Int32)) rfl)
      · try simp only [if_neg (not_not_intro c)] at hE
        refine r_iconst S (1 : Int32) dX5_numberPits_102 rfl ?_
        refine r_goto S 107 dX5_numberPits_103 (by decide) ?_
        refine r_iadd S dX5_numberPits_107 ?_
        refine r_putI S fc5 k0 0 rfl rfl (by decide +kernel) q_197 dX5_numberPits_108 ?_
        refine r_iinc (lv2 := [(2, .int (v2 + (1 : Int32))), (0, .ref (hY X.2.1.2 + v0)), (1, .ref (hY X.2.1.2 + v1)), (5, .int v5)]) S dX5_numberPits_111 (j := 2) rfl (by decide) rfl ?_
        refine r_goto S 15 dX5_numberPits_114 (by decide) ?_
        obtain ⟨rfl, rfl⟩ := si2 hE
        exact r_sub (lv2 := [(0, .ref (hY X.2.1.2 + v0)), (1, .ref (hY X.2.1.2 + v1)), (2, .int (v2 + (1 : Int32)))]) [1, 2, 0] rfl (hC (v2 + (1 : Int32)) rfl)
    unfold WY_numberPits_L15 at hE
    refine r_iload_n S dX5_numberPits_15 2 rfl ?_
    refine r_aload_n S dX5_numberPits_16 1 rfl ?_
    refine r_getIN S fc0 k1 2 rfl q_265 dX5_numberPits_17 ?_
    refine r_icmp_ge S 117 dX5_numberPits_20 (by decide) (fun c => ?_) (fun c => ?_)
    · rw [if_pos c] at hE
      obtain ⟨rfl, rfl⟩ := si2 hE
      rcases hD with ⟨h1, h2⟩ | ⟨_, h1⟩
      · obtain rfl := sir h1
        subst h2
        exact r_sub [] rfl hX
      · exact (sil h1).elim
    · rw [if_neg c] at hE
      refine r_aload_n S dX5_numberPits_23 0 rfl ?_
      refine r_getRK S fc5 k0 1 (v0 + 1) rfl rfl q_198 dX5_numberPits_24 ?_
      refine r_iload_n S dX5_numberPits_27 2 rfl ?_
      refine rc_L S (rn_V S fc4 (kk5_1 k0) (c_SR_at _ _ (gYX S) (v0 + 1) (kk5_1 k0) v2 M _ rfl) wdX4_at q_277 ⟨Nat.le_of_ble_eq_true rfl, Nat.le_of_ble_eq_true rfl⟩ rfl (Nat.le_of_ble_eq_true rfl) dX5_numberPits_28) ?_
      refine r_lstore_n (lv2 := [(3, .long (fAtL (v0 + 1) v2 M)), (0, .ref (hY X.2.1.2 + v0)), (1, .ref (hY X.2.1.2 + v1)), (2, .int v2)]) S dX5_numberPits_31 (by decide) rfl ?_
      refine r_aload_n S dX5_numberPits_32 1 rfl ?_
      refine r_getRK S fc5 k0 2 (v0 + 3) rfl rfl q_204 dX5_numberPits_33 ?_
      refine r_iload_n S dX5_numberPits_36 3 rfl ?_
      refine rc_I S (rn_V S fc3 (kk5_3 k0) (c_NR_at _ _ (gYX S) (v0 + 3) (kk5_3 k0) v2 M _ rfl) wdX3_at q_259 ⟨Nat.le_of_ble_eq_true rfl, Nat.le_of_ble_eq_true rfl⟩ rfl (Nat.le_of_ble_eq_true rfl) dX5_numberPits_37) ?_
      refine r_iconst S (-1 : Int32) dX5_numberPits_40 rfl ?_
      refine r_icmp_ne S 111 dX5_numberPits_41 (by decide) (fun c => ?_) (fun c => ?_)
      · rw [if_pos c] at hE
        refine r_iinc (lv2 := [(2, .int (v2 + (1 : Int32))), (3, .long (fAtL (v0 + 1) v2 M)), (0, .ref (hY X.2.1.2 + v0)), (1, .ref (hY X.2.1.2 + v1))]) S dX5_numberPits_111 (j := 3) rfl (by decide) rfl ?_
        refine r_goto S 15 dX5_numberPits_114 (by decide) ?_
        obtain ⟨rfl, rfl⟩ := si2 hE
        exact r_sub (lv2 := [(0, .ref (hY X.2.1.2 + v0)), (1, .ref (hY X.2.1.2 + v1)), (2, .int (v2 + (1 : Int32)))]) [2, 3, 0] rfl (hC (v2 + (1 : Int32)) rfl)
      · rw [if_neg (not_not_intro c)] at hE
        refine r_lload_n S dX5_numberPits_44 0 rfl ?_
        refine r_aload_n S dX5_numberPits_45 2 rfl ?_
        refine r_getLN S fc0 k1 3 rfl q_264 dX5_numberPits_46 ?_
        refine r_land S dX5_numberPits_49 ?_
        refine r_lconst S (0 : Int64) dX5_numberPits_50 rfl ?_
        refine r_lcmp_ne S 111 dX5_numberPits_51 dX5_numberPits_52 (by decide) (fun c => ?_) (fun c => ?_)
        · rw [if_pos c] at hE
          refine r_iinc (lv2 := [(2, .int (v2 + (1 : Int32))), (3, .long (fAtL (v0 + 1) v2 M)), (0, .ref (hY X.2.1.2 + v0)), (1, .ref (hY X.2.1.2 + v1))]) S dX5_numberPits_111 (j := 3) rfl (by decide) rfl ?_
          refine r_goto S 15 dX5_numberPits_114 (by decide) ?_
          obtain ⟨rfl, rfl⟩ := si2 hE
          exact r_sub (lv2 := [(0, .ref (hY X.2.1.2 + v0)), (1, .ref (hY X.2.1.2 + v1)), (2, .int (v2 + (1 : Int32)))]) [2, 3, 0] rfl (hC (v2 + (1 : Int32)) rfl)
        · rw [if_neg (not_not_intro c)] at hE
          refine r_lload_n S dX5_numberPits_55 0 rfl ?_
          refine rc_I S (rn_SN S (c_LL_lowestIn _ _ (gYX S) (fAtL (v0 + 1) v2 M) M _ rfl) wdX7_lowestIn q_254 ⟨Nat.le_of_ble_eq_true rfl, Nat.le_of_ble_eq_true rfl⟩ rfl (Nat.le_of_ble_eq_true rfl) dX5_numberPits_56) ?_
          refine r_istore (lv2 := [(5, .int (LL_lowestIn (fAtL (v0 + 1) v2 M))), (3, .long (fAtL (v0 + 1) v2 M)), (0, .ref (hY X.2.1.2 + v0)), (1, .ref (hY X.2.1.2 + v1)), (2, .int v2)]) S dX5_numberPits_59 (by decide) rfl ?_
          refine r_aload_n S dX5_numberPits_61 2 rfl ?_
          refine r_getRK S fc5 k0 3 (v0 + 5) rfl rfl q_206 dX5_numberPits_62 ?_
          refine r_iload_n S dX5_numberPits_65 4 rfl ?_
          refine r_iload S dX5_numberPits_66 0 rfl ?_
          refine r_iload_n S dX5_numberPits_68 4 rfl ?_
          refine r_icmp_ne S 79 dX5_numberPits_69 (by decide) (fun c => ?_) (fun c => ?_)
          · try simp only [if_pos c] at hE
            refine r_aload_n S dX5_numberPits_79 2 rfl ?_
            refine r_getRK S fc5 k0 3 (v0 + 5) rfl rfl q_206 dX5_numberPits_80 ?_
            refine r_iload S dX5_numberPits_83 0 rfl ?_
            refine rc_I S (rn_V S fc3 (kk5_5 k0) (c_NR_at _ _ (gYX S) (v0 + 5) (kk5_5 k0) (LL_lowestIn (fAtL (v0 + 1) v2 M)) M _ rfl) wdX3_at q_259 ⟨Nat.le_of_ble_eq_true rfl, Nat.le_of_ble_eq_true rfl⟩ rfl (Nat.le_of_ble_eq_true rfl) dX5_numberPits_85) ?_
            exact r_sub [2, 3, 4, 0] rfl (J88 v2 (LL_lowestIn (fAtL (v0 + 1) v2 M)) (fAtI (v0 + 5) (LL_lowestIn (fAtL (v0 + 1) v2 M)) M) v2 (v0 + 5) (kk5_5 k0) M hE)
          · try simp only [if_neg (not_not_intro c)] at hE
            refine r_aload_n S dX5_numberPits_72 2 rfl ?_
            refine r_getI S fc5 k0 0 rfl q_197 dX5_numberPits_73 ?_
            refine r_goto S 88 dX5_numberPits_76 (by decide) ?_
            exact r_sub [2, 3, 4, 0] rfl (J88 v2 (LL_lowestIn (fAtL (v0 + 1) v2 M)) (gI M v0 0) v2 (v0 + 5) (kk5_5 k0) M hE)
  unfold WY_numberPits at hE
  refine r_aload_n S dX5_numberPits_0 0 rfl ?_
  refine r_iconst S (0 : Int32) dX5_numberPits_1 rfl ?_
  refine r_putI S fc5 ho 0 rfl rfl (by decide +kernel) q_197 dX5_numberPits_2 ?_
  refine r_aload_n S dX5_numberPits_5 0 rfl ?_
  refine r_getRK S fc5 ho 3 (o + 5) rfl rfl q_206 dX5_numberPits_6 ?_
  refine r_iconst S (-1 : Int32) dX5_numberPits_9 rfl ?_
  refine rc_V S (rn_V S fc3 (kk5_5 ho) (c_NR_fill _ _ (gYX S) (o + 5) (kk5_5 ho) (-1 : Int32) (sI M o 0 (0 : Int32)) _ rfl) wdX3_fill q_276 ⟨Nat.le_of_ble_eq_true rfl, Nat.le_of_ble_eq_true rfl⟩ rfl (Nat.le_of_ble_eq_true rfl) dX5_numberPits_10) ?_
  refine r_iconst S (0 : Int32) dX5_numberPits_13 rfl ?_
  refine r_istore_n (lv2 := [(2, .int (0 : Int32)), (0, .ref (hY X.2.1.2 + o)), (1, .ref (hY X.2.1.2 + a1))]) S dX5_numberPits_14 (by decide) rfl ?_
  obtain ⟨e1, M2, h9, hE⟩ := b2_some hE
  refine r_sub [1, 2, 0] rfl (L15 o ho a1 k1  e1 M2 ?_ _ _ (fFillI (o + 5) (-1 : Int32) (sI M o 0 (0 : Int32))) h9)
  obtain ⟨rfl, rfl⟩ := si2 hE
  exact hret _ _ dX5_numberPits_117
set_option maxRecDepth 100000 in
set_option maxHeartbeats 4000000 in
theorem c_WY_endOf (l : Launch) (Y : Env1) (hG : gY Y = gC) (o : Nat) (ho : kC o = 5) (a1 : Int32) (M : Mem) (r : Int32) (hE : WY_endOf o a1 M = some r) : CnI l Y yX5_endOf cX5_endOf 4 .int 1 [.ref (hY Y + o), .int a1] M r M := by
  refine met_I (own := RX5) (by decide +kernel) rfl hG (Nat.le_of_ble_eq_true rfl) (fun X S hY1 hl1 hret => ?_)
  subst hY1
  subst hl1
  show AW X 0 [(0, .ref (hY X.2.1.2 + o)), (1, .int a1)] [] M
  have L4 : ∀ (v0 : Nat) (k0 : kC v0 = 5) (e : (Int32)), AW X 37 [(2, .int e)] [] M → ∀ (n : Nat) (s : Int32 × Int32), lpR (fun s => WY_endOf_L4 v0 s.1 s.2 M) n s = some e → AW X 4 [(0, .ref (hY X.2.1.2 + v0)), (2, .int s.1), (3, .int s.2)] [] M := by
    intro v0 k0 e hX
    refine lpR_ind (P := fun (s : Int32 × Int32) => AW X 4 [(0, .ref (hY X.2.1.2 + v0)), (2, .int s.1), (3, .int s.2)] [] M) ?_
    rintro ⟨v2, v3⟩ d hE hC hD
    replace hE : WY_endOf_L4 v0 v2 v3 M = some d := hE
    show AW X 4 [(0, .ref (hY X.2.1.2 + v0)), (2, .int v2), (3, .int v3)] [] M
    unfold WY_endOf_L4 at hE
    refine r_iload_n S dX5_endOf_4 2 rfl ?_
    refine r_bipush S (36 : Int32) dX5_endOf_5 rfl ?_
    refine r_icmp_ge S 37 dX5_endOf_7 (by decide) (fun c => ?_) (fun c => ?_)
    · rw [if_pos c] at hE
      obtain rfl := si1 hE
      rcases hD with h1 | ⟨_, h1⟩
      · obtain rfl := sir h1
        exact r_sub [1] rfl hX
      · exact (sil h1).elim
    · rw [if_neg c] at hE
      refine r_aload_n S dX5_endOf_10 0 rfl ?_
      refine r_getRK S fc5 k0 2 (v0 + 3) rfl rfl q_204 dX5_endOf_11 ?_
      refine r_iload_n S dX5_endOf_14 1 rfl ?_
      refine rc_I S (rn_V S fc3 (kk5_3 k0) (c_NR_at _ _ (gYX S) (v0 + 3) (kk5_3 k0) v2 M _ rfl) wdX3_at q_259 ⟨Nat.le_of_ble_eq_true rfl, Nat.le_of_ble_eq_true rfl⟩ rfl (Nat.le_of_ble_eq_true rfl) dX5_endOf_15) ?_
      refine r_iconst S (-1 : Int32) dX5_endOf_18 rfl ?_
      refine r_icmp_eq S 37 dX5_endOf_19 (by decide) (fun c => ?_) (fun c => ?_)
      · rw [if_pos c] at hE
        obtain rfl := si1 hE
        rcases hD with h1 | ⟨_, h1⟩
        · obtain rfl := sir h1
          exact r_sub [1] rfl hX
        · exact (sil h1).elim
      · rw [if_neg c] at hE
        refine r_aload_n S dX5_endOf_22 0 rfl ?_
        refine r_getRK S fc5 k0 2 (v0 + 3) rfl rfl q_204 dX5_endOf_23 ?_
        refine r_iload_n S dX5_endOf_26 1 rfl ?_
        refine rc_I S (rn_V S fc3 (kk5_3 k0) (c_NR_at _ _ (gYX S) (v0 + 3) (kk5_3 k0) v2 M _ rfl) wdX3_at q_259 ⟨Nat.le_of_ble_eq_true rfl, Nat.le_of_ble_eq_true rfl⟩ rfl (Nat.le_of_ble_eq_true rfl) dX5_endOf_27) ?_
        refine r_istore_n (lv2 := [(2, .int (fAtI (v0 + 3) v2 M)), (0, .ref (hY X.2.1.2 + v0)), (3, .int v3)]) S dX5_endOf_30 (by decide) rfl ?_
        refine r_iinc (lv2 := [(3, .int (v3 + (1 : Int32))), (2, .int (fAtI (v0 + 3) v2 M)), (0, .ref (hY X.2.1.2 + v0))]) S dX5_endOf_31 (j := 2) rfl (by decide) rfl ?_
        refine r_goto S 4 dX5_endOf_34 (by decide) ?_
        obtain rfl := si1 hE
        exact r_sub (lv2 := [(0, .ref (hY X.2.1.2 + v0)), (2, .int (fAtI (v0 + 3) v2 M)), (3, .int (v3 + (1 : Int32)))]) [2, 1, 0] rfl (hC ((fAtI (v0 + 3) v2 M), (v3 + (1 : Int32))) rfl)
  unfold WY_endOf at hE
  refine r_iload_n S dX5_endOf_0 1 rfl ?_
  refine r_istore_n (lv2 := [(2, .int a1), (0, .ref (hY X.2.1.2 + o)), (1, .int a1)]) S dX5_endOf_1 (by decide) rfl ?_
  refine r_iconst S (0 : Int32) dX5_endOf_2 rfl ?_
  refine r_istore_n (lv2 := [(3, .int (0 : Int32)), (2, .int a1), (0, .ref (hY X.2.1.2 + o)), (1, .int a1)]) S dX5_endOf_3 (by decide) rfl ?_
  obtain ⟨e1, h9, hE⟩ := b1_some hE
  refine r_sub [2, 1, 0] rfl (L4 o ho  e1 ?_ _ _  h9)
  refine r_iload_n S dX5_endOf_37 0 rfl ?_
  obtain rfl := si1 hE
  exact hret _ _ dX5_endOf_38
set_option maxRecDepth 100000 in
set_option maxHeartbeats 4000000 in
theorem c_WY_find (l : Launch) (Y : Env1) (hG : gY Y = gC) (o : Nat) (ho : kC o = 5) (a1 : Nat) (k1 : kC a1 = 0) (M : Mem) (r : Unit) (M1 : Mem) (hE : WY_find o a1 M = some (r, M1)) : CnV l Y yX5_find cX5_find 5 3 [.ref (hY Y + o), .ref (hY Y + a1)] M M1 := by
  refine met_V (own := RX5) (by decide +kernel) rfl hG (Nat.le_of_ble_eq_true rfl) (fun X S hY1 hl1 hret => ?_)
  subst hY1
  subst hl1
  show AW X 0 [(0, .ref (hY X.2.1.2 + o)), (1, .ref (hY X.2.1.2 + a1))] [] M
  have L60 : ∀ (v0 : Nat) (k0 : kC v0 = 5) (v1 : Nat) (k1 : kC v1 = 0) (e : (Unit)) (M2 : Mem), AW X 94 [] [] M2 → ∀ (n : Nat) (s : Int32) (M : Mem), lpM (fun s M => WY_find_L60 v0 v1 s M) n s M = some (e, M2) → AW X 60 [(0, .ref (hY X.2.1.2 + v0)), (1, .ref (hY X.2.1.2 + v1)), (2, .int s)] [] M := by
    intro v0 k0 v1 k1 e M2 hX
    refine lpM_ind (P := fun (s : Int32) (M : Mem) => AW X 60 [(0, .ref (hY X.2.1.2 + v0)), (1, .ref (hY X.2.1.2 + v1)), (2, .int s)] [] M) ?_
    rintro v2 M d M3 hE hC hD
    replace hE : WY_find_L60 v0 v1 v2 M = some (d, M3) := hE
    show AW X 60 [(0, .ref (hY X.2.1.2 + v0)), (1, .ref (hY X.2.1.2 + v1)), (2, .int v2)] [] M
    unfold WY_find_L60 at hE
    refine r_iload_n S dX5_find_60 2 rfl ?_
    refine r_aload_n S dX5_find_61 1 rfl ?_
    refine r_getIN S fc0 k1 2 rfl q_265 dX5_find_62 ?_
    refine r_icmp_ge S 94 dX5_find_65 (by decide) (fun c => ?_) (fun c => ?_)
    · rw [if_pos c] at hE
      obtain ⟨rfl, rfl⟩ := si2 hE
      rcases hD with ⟨h1, h2⟩ | ⟨_, h1⟩
      · obtain rfl := sir h1
        subst h2
        exact r_sub [] rfl hX
      · exact (sil h1).elim
    · rw [if_neg c] at hE
      refine r_aload_n S dX5_find_68 0 rfl ?_
      refine r_getRK S fc5 k0 3 (v0 + 5) rfl rfl q_206 dX5_find_69 ?_
      refine r_iload_n S dX5_find_72 2 rfl ?_
      refine r_aload_n S dX5_find_73 0 rfl ?_
      refine r_getRK S fc5 k0 3 (v0 + 5) rfl rfl q_206 dX5_find_74 ?_
      refine r_aload_n S dX5_find_77 0 rfl ?_
      refine r_iload_n S dX5_find_78 2 rfl ?_
      obtain ⟨x1, h9, hE⟩ := b1_some hE
      refine rc_I S (rn_V S fc5 k0 (c_WY_endOf _ _ (gYX S) v0 k0 v2 M _ h9) wdX5_endOf q_301 ⟨Nat.le_of_ble_eq_true rfl, Nat.le_of_ble_eq_true rfl⟩ rfl (Nat.le_of_ble_eq_true rfl) dX5_find_79) ?_
      refine rc_I S (rn_V S fc3 (kk5_5 k0) (c_NR_at _ _ (gYX S) (v0 + 5) (kk5_5 k0) x1 M _ rfl) wdX3_at q_259 ⟨Nat.le_of_ble_eq_true rfl, Nat.le_of_ble_eq_true rfl⟩ rfl (Nat.le_of_ble_eq_true rfl) dX5_find_82) ?_
      refine rc_V S (rn_V S fc3 (kk5_5 k0) (c_NR_put _ _ (gYX S) (v0 + 5) (kk5_5 k0) v2 (fAtI (v0 + 5) x1 M) M _ rfl) wdX3_put q_275 ⟨Nat.le_of_ble_eq_true rfl, Nat.le_of_ble_eq_true rfl⟩ rfl (Nat.le_of_ble_eq_true rfl) dX5_find_85) ?_
      refine r_iinc (lv2 := [(2, .int (v2 + (1 : Int32))), (0, .ref (hY X.2.1.2 + v0)), (1, .ref (hY X.2.1.2 + v1))]) S dX5_find_88 (j := 2) rfl (by decide) rfl ?_
      refine r_goto S 60 dX5_find_91 (by decide) ?_
      obtain ⟨rfl, rfl⟩ := si2 hE
      exact r_sub (lv2 := [(0, .ref (hY X.2.1.2 + v0)), (1, .ref (hY X.2.1.2 + v1)), (2, .int (v2 + (1 : Int32)))]) [1, 2, 0] rfl (hC (v2 + (1 : Int32)) rfl)
  have L10 : ∀ (v0 : Nat) (k0 : kC v0 = 5) (v1 : Nat) (k1 : kC v1 = 0) (e : (Unit)) (M2 : Mem), AW X 53 [(0, .ref (hY X.2.1.2 + v0)), (1, .ref (hY X.2.1.2 + v1))] [] M2 → ∀ (n : Nat) (s : Int32) (M : Mem), lpM (fun s M => WY_find_L10 v0 v1 s M) n s M = some (e, M2) → AW X 10 [(0, .ref (hY X.2.1.2 + v0)), (1, .ref (hY X.2.1.2 + v1)), (2, .int s)] [] M := by
    intro v0 k0 v1 k1 e M2 hX
    refine lpM_ind (P := fun (s : Int32) (M : Mem) => AW X 10 [(0, .ref (hY X.2.1.2 + v0)), (1, .ref (hY X.2.1.2 + v1)), (2, .int s)] [] M) ?_
    rintro v2 M d M3 hE hC hD
    replace hE : WY_find_L10 v0 v1 v2 M = some (d, M3) := hE
    show AW X 10 [(0, .ref (hY X.2.1.2 + v0)), (1, .ref (hY X.2.1.2 + v1)), (2, .int v2)] [] M
    unfold WY_find_L10 at hE
    refine r_iload_n S dX5_find_10 2 rfl ?_
    refine r_aload_n S dX5_find_11 1 rfl ?_
    refine r_getIN S fc0 k1 2 rfl q_265 dX5_find_12 ?_
    refine r_icmp_ge S 53 dX5_find_15 (by decide) (fun c => ?_) (fun c => ?_)
    · rw [if_pos c] at hE
      obtain ⟨rfl, rfl⟩ := si2 hE
      rcases hD with ⟨h1, h2⟩ | ⟨_, h1⟩
      · obtain rfl := sir h1
        subst h2
        exact r_sub [0, 1] rfl hX
      · exact (sil h1).elim
    · rw [if_neg c] at hE
      refine r_aload_n S dX5_find_18 0 rfl ?_
      refine r_getRK S fc5 k0 1 (v0 + 1) rfl rfl q_198 dX5_find_19 ?_
      refine r_iload_n S dX5_find_22 2 rfl ?_
      refine rc_L S (rn_V S fc4 (kk5_1 k0) (c_SR_at _ _ (gYX S) (v0 + 1) (kk5_1 k0) v2 M _ rfl) wdX4_at q_277 ⟨Nat.le_of_ble_eq_true rfl, Nat.le_of_ble_eq_true rfl⟩ rfl (Nat.le_of_ble_eq_true rfl) dX5_find_23) ?_
      refine r_lconst S (0 : Int64) dX5_find_26 rfl ?_
      refine r_lcmp_ne S 47 dX5_find_27 dX5_find_28 (by decide) (fun c => ?_) (fun c => ?_)
      · rw [if_pos c] at hE
        refine r_iinc (lv2 := [(2, .int (v2 + (1 : Int32))), (0, .ref (hY X.2.1.2 + v0)), (1, .ref (hY X.2.1.2 + v1))]) S dX5_find_47 (j := 2) rfl (by decide) rfl ?_
        refine r_goto S 10 dX5_find_50 (by decide) ?_
        obtain ⟨rfl, rfl⟩ := si2 hE
        exact r_sub (lv2 := [(0, .ref (hY X.2.1.2 + v0)), (1, .ref (hY X.2.1.2 + v1)), (2, .int (v2 + (1 : Int32)))]) [1, 2, 0] rfl (hC (v2 + (1 : Int32)) rfl)
      · rw [if_neg (not_not_intro c)] at hE
        refine r_aload_n S dX5_find_31 1 rfl ?_
        refine r_iload_n S dX5_find_32 2 rfl ?_
        obtain ⟨x1, h9, hE⟩ := b1_some hE
        refine rc_L S (rn_S S (c_WY_plainAround _ _ (gYX S) v1 k1 v2 M _ h9) wdX5_plainAround q_283 ⟨Nat.le_of_ble_eq_true rfl, Nat.le_of_ble_eq_true rfl⟩ rfl (Nat.le_of_ble_eq_true rfl) dX5_find_33) ?_
        refine r_lstore_n (lv2 := [(3, .long x1), (0, .ref (hY X.2.1.2 + v0)), (1, .ref (hY X.2.1.2 + v1)), (2, .int v2)]) S dX5_find_36 (by decide) rfl ?_
        refine r_aload_n S dX5_find_37 1 rfl ?_
        refine r_lload_n S dX5_find_38 0 rfl ?_
        refine r_aload_n S dX5_find_39 2 rfl ?_
        refine r_lload_n S dX5_find_40 0 rfl ?_
        obtain ⟨x2, h9, hE⟩ := b1_some hE
        refine rc_I S (rn_S S (c_WY_targetOf _ _ (gYX S) v1 k1 x1 M _ h9) wdX5_targetOf q_287 ⟨Nat.le_of_ble_eq_true rfl, Nat.le_of_ble_eq_true rfl⟩ rfl (Nat.le_of_ble_eq_true rfl) dX5_find_41) ?_
        obtain ⟨x3, M4, h9, hE⟩ := b2_some hE
        refine rc_V S (rn_V S fc5 k0 (c_WY_markPlain _ _ (gYX S) v0 k0 x1 x2 M _ _ h9) wdX5_markPlain q_291 ⟨Nat.le_of_ble_eq_true rfl, Nat.le_of_ble_eq_true rfl⟩ rfl (Nat.le_of_ble_eq_true rfl) dX5_find_44) ?_
        refine r_iinc (lv2 := [(2, .int (v2 + (1 : Int32))), (3, .long x1), (0, .ref (hY X.2.1.2 + v0)), (1, .ref (hY X.2.1.2 + v1))]) S dX5_find_47 (j := 3) rfl (by decide) rfl ?_
        refine r_goto S 10 dX5_find_50 (by decide) ?_
        obtain ⟨rfl, rfl⟩ := si2 hE
        exact r_sub (lv2 := [(0, .ref (hY X.2.1.2 + v0)), (1, .ref (hY X.2.1.2 + v1)), (2, .int (v2 + (1 : Int32)))]) [2, 3, 0] rfl (hC (v2 + (1 : Int32)) rfl)
  unfold WY_find at hE
  refine r_aload_n S dX5_find_0 0 rfl ?_
  refine r_getRK S fc5 ho 1 (o + 1) rfl rfl q_198 dX5_find_1 ?_
  refine r_lconst S (0 : Int64) dX5_find_4 rfl ?_
  refine rc_V S (rn_V S fc4 (kk5_1 ho) (c_SR_fill _ _ (gYX S) (o + 1) (kk5_1 ho) (0 : Int64) M _ rfl) wdX4_fill q_278 ⟨Nat.le_of_ble_eq_true rfl, Nat.le_of_ble_eq_true rfl⟩ rfl (Nat.le_of_ble_eq_true rfl) dX5_find_5) ?_
  refine r_iconst S (0 : Int32) dX5_find_8 rfl ?_
  refine r_istore_n (lv2 := [(2, .int (0 : Int32)), (0, .ref (hY X.2.1.2 + o)), (1, .ref (hY X.2.1.2 + a1))]) S dX5_find_9 (by decide) rfl ?_
  obtain ⟨e1, M2, h9, hE⟩ := b2_some hE
  refine r_sub [1, 2, 0] rfl (L10 o ho a1 k1  e1 M2 ?_ _ _ (fFillL (o + 1) (0 : Int64) M) h9)
  refine r_aload_n S dX5_find_53 0 rfl ?_
  refine r_aload_n S dX5_find_54 1 rfl ?_
  obtain ⟨x3, M4, h9, hE⟩ := b2_some hE
  refine rc_V S (rn_V S fc5 ho (c_WY_numberPits _ _ (gYX S) o ho a1 k1 M2 _ _ h9) wdX5_numberPits q_296 ⟨Nat.le_of_ble_eq_true rfl, Nat.le_of_ble_eq_true rfl⟩ rfl (Nat.le_of_ble_eq_true rfl) dX5_find_55) ?_
  refine r_iconst S (0 : Int32) dX5_find_58 rfl ?_
  refine r_istore_n (lv2 := [(2, .int (0 : Int32)), (0, .ref (hY X.2.1.2 + o)), (1, .ref (hY X.2.1.2 + a1))]) S dX5_find_59 (by decide) rfl ?_
  obtain ⟨e5, M6, h9, hE⟩ := b2_some hE
  refine r_sub [1, 2, 0] rfl (L60 o ho a1 k1  e5 M6 ?_ _ _ M4 h9)
  obtain ⟨rfl, rfl⟩ := si2 hE
  exact hret _ _ dX5_find_94
set_option maxRecDepth 100000 in
set_option maxHeartbeats 4000000 in
theorem c_LK_findPass (l : Launch) (Y : Env1) (hG : gY Y = gC) (o : Nat) (ho : kC o = 1) (a1 : Nat) (k1 : kC a1 = 0) (a2 : Int32) (M : Mem) (r : Unit) (M1 : Mem) (hE : LK_findPass o a1 a2 M = some (r, M1)) : CnV l Y yX1_findPass cX1_findPass 8 1 [.ref (hY Y + o), .ref (hY Y + a1), .int a2] M M1 := by
  refine met_V (own := RX1) (by decide +kernel) rfl hG (Nat.le_of_ble_eq_true rfl) (fun X S hY1 hl1 hret => ?_)
  subst hY1
  subst hl1
  show AW X 0 [(0, .ref (hY X.2.1.2 + o)), (1, .ref (hY X.2.1.2 + a1)), (2, .int a2)] [] M
  have L15 : ∀ (v0 : Nat) (k0 : kC v0 = 1) (v1 : Nat) (k1 : kC v1 = 0) (v2 : Int32) (v3 : Int64) (M : Mem) (e : (Int32)), AW X 100 [(0, .ref (hY X.2.1.2 + v0)), (2, .int v2), (5, .int e)] [] M → ∀ (n : Nat) (s : Int32 × Int32), lpR (fun s => LK_findPass_L15 v0 v1 v2 v3 s.1 s.2 M) n s = some e → AW X 15 [(0, .ref (hY X.2.1.2 + v0)), (1, .ref (hY X.2.1.2 + v1)), (2, .int v2), (3, .long v3), (5, .int s.1), (6, .int s.2)] [] M := by
    intro v0 k0 v1 k1 v2 v3 M e hX
    refine lpR_ind (P := fun (s : Int32 × Int32) => AW X 15 [(0, .ref (hY X.2.1.2 + v0)), (1, .ref (hY X.2.1.2 + v1)), (2, .int v2), (3, .long v3), (5, .int s.1), (6, .int s.2)] [] M) ?_
    rintro ⟨v5, v6⟩ d hE hC hD
    replace hE : LK_findPass_L15 v0 v1 v2 v3 v5 v6 M = some d := hE
    show AW X 15 [(0, .ref (hY X.2.1.2 + v0)), (1, .ref (hY X.2.1.2 + v1)), (2, .int v2), (3, .long v3), (5, .int v5), (6, .int v6)] [] M
    unfold LK_findPass_L15 at hE
    refine r_iload S dX1_findPass_15 5 rfl ?_
    refine r_iconst S (4 : Int32) dX1_findPass_17 rfl ?_
    refine r_aload_n S dX1_findPass_18 1 rfl ?_
    refine r_getIN S fc0 k1 2 rfl q_29 dX1_findPass_19 ?_
    refine r_imul S dX1_findPass_22 ?_
    refine r_icmp_ge S 100 dX1_findPass_23 (by decide) (fun c => ?_) (fun c => ?_)
    · rw [if_pos c] at hE
      obtain rfl := si1 hE
      rcases hD with h1 | ⟨_, h1⟩
      · obtain rfl := sir h1
        exact r_sub [0, 2, 4] rfl hX
      · exact (sil h1).elim
    · rw [if_neg c] at hE
      refine r_aload_n S dX1_findPass_26 1 rfl ?_
      refine r_getRKN S fc0 k1 5 (v1 + 3) rfl rfl q_306 dX1_findPass_27 ?_
      refine r_iload S dX1_findPass_30 5 rfl ?_
      refine rc_I S (rn_V S fc3 (kk0_3 k1) (c_NR_at _ _ (gYX S) (v1 + 3) (kk0_3 k1) v6 M _ rfl) wdX3_at q_31 ⟨Nat.le_of_ble_eq_true rfl, Nat.le_of_ble_eq_true rfl⟩ rfl (Nat.le_of_ble_eq_true rfl) dX1_findPass_32) ?_
      refine r_istore (lv2 := [(7, .int (fAtI (v1 + 3) v6 M)), (0, .ref (hY X.2.1.2 + v0)), (1, .ref (hY X.2.1.2 + v1)), (2, .int v2), (3, .long v3), (5, .int v5), (6, .int v6)]) S dX1_findPass_35 (by decide) rfl ?_
      refine r_lload_n S dX1_findPass_37 4 rfl ?_
      refine r_iload S dX1_findPass_38 6 rfl ?_
      refine r_iconst S (4 : Int32) dX1_findPass_40 rfl ?_
      refine r_idiv S dX1_findPass_41 (by decide) ?_
      refine rc_I S (rn_SN S (c_LL_has _ _ (gYX S) v3 (v6 / (4 : Int32)) M _ rfl) wdX7_has q_37 ⟨Nat.le_of_ble_eq_true rfl, Nat.le_of_ble_eq_true rfl⟩ rfl (Nat.le_of_ble_eq_true rfl) dX1_findPass_42) ?_
      refine r_if_eq S 94 dX1_findPass_45 (by decide) (fun c => ?_) (fun c => ?_)
      · try simp only [if_pos c] at hE
        refine r_iinc (lv2 := [(6, .int (v6 + (1 : Int32))), (7, .int (fAtI (v1 + 3) v6 M)), (0, .ref (hY X.2.1.2 + v0)), (1, .ref (hY X.2.1.2 + v1)), (2, .int v2), (3, .long v3), (5, .int v5)]) S dX1_findPass_94 (j := 6) rfl (by decide) rfl ?_
        refine r_goto S 15 dX1_findPass_97 (by decide) ?_
        obtain rfl := si1 hE
        exact r_sub (lv2 := [(0, .ref (hY X.2.1.2 + v0)), (1, .ref (hY X.2.1.2 + v1)), (2, .int v2), (3, .long v3), (5, .int v5), (6, .int (v6 + (1 : Int32)))]) [2, 3, 4, 5, 6, 0] rfl (hC (v5, (v6 + (1 : Int32))) rfl)
      · try simp only [if_neg c] at hE
        refine r_iload S dX1_findPass_48 0 rfl ?_
        refine r_iconst S (-1 : Int32) dX1_findPass_50 rfl ?_
        refine r_icmp_eq S 94 dX1_findPass_51 (by decide) (fun c => ?_) (fun c => ?_)
        · try simp only [if_pos c] at hE
          refine r_iinc (lv2 := [(6, .int (v6 + (1 : Int32))), (7, .int (fAtI (v1 + 3) v6 M)), (0, .ref (hY X.2.1.2 + v0)), (1, .ref (hY X.2.1.2 + v1)), (2, .int v2), (3, .long v3), (5, .int v5)]) S dX1_findPass_94 (j := 6) rfl (by decide) rfl ?_
          refine r_goto S 15 dX1_findPass_97 (by decide) ?_
          obtain rfl := si1 hE
          exact r_sub (lv2 := [(0, .ref (hY X.2.1.2 + v0)), (1, .ref (hY X.2.1.2 + v1)), (2, .int v2), (3, .long v3), (5, .int v5), (6, .int (v6 + (1 : Int32)))]) [2, 3, 4, 5, 6, 0] rfl (hC (v5, (v6 + (1 : Int32))) rfl)
        · try simp only [if_neg c] at hE
          refine r_lload_n S dX1_findPass_54 4 rfl ?_
          refine r_iload S dX1_findPass_55 0 rfl ?_
          refine rc_I S (rn_SN S (c_LL_has _ _ (gYX S) v3 (fAtI (v1 + 3) v6 M) M _ rfl) wdX7_has q_37 ⟨Nat.le_of_ble_eq_true rfl, Nat.le_of_ble_eq_true rfl⟩ rfl (Nat.le_of_ble_eq_true rfl) dX1_findPass_57) ?_
          refine r_if_ne S 94 dX1_findPass_60 (by decide) (fun c => ?_) (fun c => ?_)
          · try simp only [if_pos c] at hE
            refine r_iinc (lv2 := [(6, .int (v6 + (1 : Int32))), (7, .int (fAtI (v1 + 3) v6 M)), (0, .ref (hY X.2.1.2 + v0)), (1, .ref (hY X.2.1.2 + v1)), (2, .int v2), (3, .long v3), (5, .int v5)]) S dX1_findPass_94 (j := 6) rfl (by decide) rfl ?_
            refine r_goto S 15 dX1_findPass_97 (by decide) ?_
            obtain rfl := si1 hE
            exact r_sub (lv2 := [(0, .ref (hY X.2.1.2 + v0)), (1, .ref (hY X.2.1.2 + v1)), (2, .int v2), (3, .long v3), (5, .int v5), (6, .int (v6 + (1 : Int32)))]) [2, 3, 4, 5, 6, 0] rfl (hC (v5, (v6 + (1 : Int32))) rfl)
          · try simp only [if_neg (not_not_intro c)] at hE
            refine r_iload S dX1_findPass_63 5 rfl ?_
            refine r_iconst S (-1 : Int32) dX1_findPass_65 rfl ?_
            refine r_icmp_eq S 90 dX1_findPass_66 (by decide) (fun c => ?_) (fun c => ?_)
            · try simp only [if_pos c] at hE
              refine r_iload S dX1_findPass_90 6 rfl ?_
              refine r_istore (lv2 := [(5, .int v6), (7, .int (fAtI (v1 + 3) v6 M)), (0, .ref (hY X.2.1.2 + v0)), (1, .ref (hY X.2.1.2 + v1)), (2, .int v2), (3, .long v3), (6, .int v6)]) S dX1_findPass_92 (by decide) rfl ?_
              refine r_iinc (lv2 := [(6, .int (v6 + (1 : Int32))), (5, .int v6), (7, .int (fAtI (v1 + 3) v6 M)), (0, .ref (hY X.2.1.2 + v0)), (1, .ref (hY X.2.1.2 + v1)), (2, .int v2), (3, .long v3)]) S dX1_findPass_94 (j := 6) rfl (by decide) rfl ?_
              refine r_goto S 15 dX1_findPass_97 (by decide) ?_
              obtain rfl := si1 hE
              exact r_sub (lv2 := [(0, .ref (hY X.2.1.2 + v0)), (1, .ref (hY X.2.1.2 + v1)), (2, .int v2), (3, .long v3), (5, .int v6), (6, .int (v6 + (1 : Int32)))]) [3, 4, 5, 6, 1, 0] rfl (hC (v6, (v6 + (1 : Int32))) rfl)
            · try simp only [if_neg c] at hE
              refine r_aload_n S dX1_findPass_69 2 rfl ?_
              refine r_getRKN S fc0 k1 7 (v1 + 7) rfl rfl q_307 dX1_findPass_70 ?_
              refine r_iload S dX1_findPass_73 6 rfl ?_
              refine rc_I S (rn_V S fc3 (kk0_7 k1) (c_NR_at _ _ (gYX S) (v1 + 7) (kk0_7 k1) v6 M _ rfl) wdX3_at q_31 ⟨Nat.le_of_ble_eq_true rfl, Nat.le_of_ble_eq_true rfl⟩ rfl (Nat.le_of_ble_eq_true rfl) dX1_findPass_75) ?_
              refine r_aload_n S dX1_findPass_78 2 rfl ?_
              refine r_getRKN S fc0 k1 7 (v1 + 7) rfl rfl q_307 dX1_findPass_79 ?_
              refine r_iload S dX1_findPass_82 5 rfl ?_
              refine rc_I S (rn_V S fc3 (kk0_7 k1) (c_NR_at _ _ (gYX S) (v1 + 7) (kk0_7 k1) v5 M _ rfl) wdX3_at q_31 ⟨Nat.le_of_ble_eq_true rfl, Nat.le_of_ble_eq_true rfl⟩ rfl (Nat.le_of_ble_eq_true rfl) dX1_findPass_84) ?_
              refine r_icmp_ge S 94 dX1_findPass_87 (by decide) (fun c => ?_) (fun c => ?_)
              · try simp only [if_pos c] at hE
                refine r_iinc (lv2 := [(6, .int (v6 + (1 : Int32))), (7, .int (fAtI (v1 + 3) v6 M)), (0, .ref (hY X.2.1.2 + v0)), (1, .ref (hY X.2.1.2 + v1)), (2, .int v2), (3, .long v3), (5, .int v5)]) S dX1_findPass_94 (j := 6) rfl (by decide) rfl ?_
                refine r_goto S 15 dX1_findPass_97 (by decide) ?_
                obtain rfl := si1 hE
                exact r_sub (lv2 := [(0, .ref (hY X.2.1.2 + v0)), (1, .ref (hY X.2.1.2 + v1)), (2, .int v2), (3, .long v3), (5, .int v5), (6, .int (v6 + (1 : Int32)))]) [2, 3, 4, 5, 6, 0] rfl (hC (v5, (v6 + (1 : Int32))) rfl)
              · try simp only [if_neg c] at hE
                refine r_iload S dX1_findPass_90 6 rfl ?_
                refine r_istore (lv2 := [(5, .int v6), (7, .int (fAtI (v1 + 3) v6 M)), (0, .ref (hY X.2.1.2 + v0)), (1, .ref (hY X.2.1.2 + v1)), (2, .int v2), (3, .long v3), (6, .int v6)]) S dX1_findPass_92 (by decide) rfl ?_
                refine r_iinc (lv2 := [(6, .int (v6 + (1 : Int32))), (5, .int v6), (7, .int (fAtI (v1 + 3) v6 M)), (0, .ref (hY X.2.1.2 + v0)), (1, .ref (hY X.2.1.2 + v1)), (2, .int v2), (3, .long v3)]) S dX1_findPass_94 (j := 6) rfl (by decide) rfl ?_
                refine r_goto S 15 dX1_findPass_97 (by decide) ?_
                obtain rfl := si1 hE
                exact r_sub (lv2 := [(0, .ref (hY X.2.1.2 + v0)), (1, .ref (hY X.2.1.2 + v1)), (2, .int v2), (3, .long v3), (5, .int v6), (6, .int (v6 + (1 : Int32)))]) [3, 4, 5, 6, 1, 0] rfl (hC (v6, (v6 + (1 : Int32))) rfl)
  unfold LK_findPass at hE
  refine r_aload_n S dX1_findPass_0 0 rfl ?_
  refine r_getRK S fc1 ho 0 (o + 1) rfl rfl q_23 dX1_findPass_1 ?_
  refine r_iload_n S dX1_findPass_4 2 rfl ?_
  refine rc_L S (rn_V S fc4 (kk1_1 ho) (c_SR_at _ _ (gYX S) (o + 1) (kk1_1 ho) a2 M _ rfl) wdX4_at q_24 ⟨Nat.le_of_ble_eq_true rfl, Nat.le_of_ble_eq_true rfl⟩ rfl (Nat.le_of_ble_eq_true rfl) dX1_findPass_5) ?_
  refine r_lstore_n (lv2 := [(3, .long (fAtL (o + 1) a2 M)), (0, .ref (hY X.2.1.2 + o)), (1, .ref (hY X.2.1.2 + a1)), (2, .int a2)]) S dX1_findPass_8 (by decide) rfl ?_
  refine r_iconst S (-1 : Int32) dX1_findPass_9 rfl ?_
  refine r_istore (lv2 := [(5, .int (-1 : Int32)), (3, .long (fAtL (o + 1) a2 M)), (0, .ref (hY X.2.1.2 + o)), (1, .ref (hY X.2.1.2 + a1)), (2, .int a2)]) S dX1_findPass_10 (by decide) rfl ?_
  refine r_iconst S (0 : Int32) dX1_findPass_12 rfl ?_
  refine r_istore (lv2 := [(6, .int (0 : Int32)), (5, .int (-1 : Int32)), (3, .long (fAtL (o + 1) a2 M)), (0, .ref (hY X.2.1.2 + o)), (1, .ref (hY X.2.1.2 + a1)), (2, .int a2)]) S dX1_findPass_13 (by decide) rfl ?_
  obtain ⟨e1, h9, hE⟩ := b1_some hE
  refine r_sub [3, 4, 5, 2, 1, 0] rfl (L15 o ho a1 k1 a2 (fAtL (o + 1) a2 M) M e1 ?_ _ _  h9)
  refine r_aload_n S dX1_findPass_100 0 rfl ?_
  refine r_getRK S fc1 ho 3 (o + 7) rfl rfl q_210 dX1_findPass_101 ?_
  refine r_iload_n S dX1_findPass_104 1 rfl ?_
  refine r_iload S dX1_findPass_105 2 rfl ?_
  refine rc_V S (rn_V S fc3 (kk1_7 ho) (c_NR_put _ _ (gYX S) (o + 7) (kk1_7 ho) a2 e1 M _ rfl) wdX3_put q_308 ⟨Nat.le_of_ble_eq_true rfl, Nat.le_of_ble_eq_true rfl⟩ rfl (Nat.le_of_ble_eq_true rfl) dX1_findPass_107) ?_
  obtain ⟨rfl, rfl⟩ := si2 hE
  exact hret _ _ dX1_findPass_110
set_option maxRecDepth 100000 in
set_option maxHeartbeats 4000000 in
theorem c_LK_findCapacity (l : Launch) (Y : Env1) (hG : gY Y = gC) (o : Nat) (ho : kC o = 1) (a1 : Nat) (k1 : kC a1 = 0) (a2 : Int32) (M : Mem) (r : Unit) (M1 : Mem) (hE : LK_findCapacity o a1 a2 M = some (r, M1)) : CnV l Y yX1_findCapacity cX1_findCapacity 7 1 [.ref (hY Y + o), .ref (hY Y + a1), .int a2] M M1 := by
  refine met_V (own := RX1) (by decide +kernel) rfl hG (Nat.le_of_ble_eq_true rfl) (fun X S hY1 hl1 hret => ?_)
  subst hY1
  subst hl1
  show AW X 0 [(0, .ref (hY X.2.1.2 + o)), (1, .ref (hY X.2.1.2 + a1)), (2, .int a2)] [] M
  have L15 : ∀ (v0 : Nat) (k0 : kC v0 = 1) (v1 : Nat) (k1 : kC v1 = 0) (v2 : Int32) (v3 : Int32) (M : Mem) (e : (Int32)), AW X 82 [(0, .ref (hY X.2.1.2 + v0)), (2, .int v2), (3, .int v3), (4, .int e)] [] M → ∀ (n : Nat) (s : Int32 × Int32), lpR (fun s => LK_findCapacity_L15 v0 v1 v2 v3 s.1 s.2 M) n s = some e → AW X 15 [(0, .ref (hY X.2.1.2 + v0)), (1, .ref (hY X.2.1.2 + v1)), (2, .int v2), (3, .int v3), (4, .int s.1), (5, .int s.2)] [] M := by
    intro v0 k0 v1 k1 v2 v3 M e hX
    refine lpR_ind (P := fun (s : Int32 × Int32) => AW X 15 [(0, .ref (hY X.2.1.2 + v0)), (1, .ref (hY X.2.1.2 + v1)), (2, .int v2), (3, .int v3), (4, .int s.1), (5, .int s.2)] [] M) ?_
    rintro ⟨v4, v5⟩ d hE hC hD
    replace hE : LK_findCapacity_L15 v0 v1 v2 v3 v4 v5 M = some d := hE
    show AW X 15 [(0, .ref (hY X.2.1.2 + v0)), (1, .ref (hY X.2.1.2 + v1)), (2, .int v2), (3, .int v3), (4, .int v4), (5, .int v5)] [] M
    unfold LK_findCapacity_L15 at hE
    refine r_iload S dX1_findCapacity_15 5 rfl ?_
    refine r_aload_n S dX1_findCapacity_17 1 rfl ?_
    refine r_getIN S fc0 k1 2 rfl q_29 dX1_findCapacity_18 ?_
    refine r_icmp_ge S 82 dX1_findCapacity_21 (by decide) (fun c => ?_) (fun c => ?_)
    · rw [if_pos c] at hE
      obtain rfl := si1 hE
      rcases hD with h1 | ⟨_, h1⟩
      · obtain rfl := sir h1
        exact r_sub [0, 2, 3, 4] rfl hX
      · exact (sil h1).elim
    · rw [if_neg c] at hE
      refine r_aload_n S dX1_findCapacity_24 1 rfl ?_
      refine r_getRKN S fc0 k1 7 (v1 + 7) rfl rfl q_307 dX1_findCapacity_25 ?_
      refine r_iload_n S dX1_findCapacity_28 3 rfl ?_
      refine rc_I S (rn_V S fc3 (kk0_7 k1) (c_NR_at _ _ (gYX S) (v1 + 7) (kk0_7 k1) v3 M _ rfl) wdX3_at q_31 ⟨Nat.le_of_ble_eq_true rfl, Nat.le_of_ble_eq_true rfl⟩ rfl (Nat.le_of_ble_eq_true rfl) dX1_findCapacity_29) ?_
      refine r_aload_n S dX1_findCapacity_32 1 rfl ?_
      refine r_getRKN S fc0 k1 4 (v1 + 1) rfl rfl q_36 dX1_findCapacity_33 ?_
      refine r_iload S dX1_findCapacity_36 5 rfl ?_
      refine rc_I S (rn_V S fc3 (kk0_1 k1) (c_NR_at _ _ (gYX S) (v1 + 1) (kk0_1 k1) v5 M _ rfl) wdX3_at q_31 ⟨Nat.le_of_ble_eq_true rfl, Nat.le_of_ble_eq_true rfl⟩ rfl (Nat.le_of_ble_eq_true rfl) dX1_findCapacity_38) ?_
      refine r_isub S dX1_findCapacity_41 ?_
      refine r_istore (lv2 := [(6, .int ((fAtI (v1 + 7) v3 M) - (fAtI (v1 + 1) v5 M))), (0, .ref (hY X.2.1.2 + v0)), (1, .ref (hY X.2.1.2 + v1)), (2, .int v2), (3, .int v3), (4, .int v4), (5, .int v5)]) S dX1_findCapacity_42 (by decide) rfl ?_
      refine r_iload S dX1_findCapacity_44 5 rfl ?_
      refine r_aload_n S dX1_findCapacity_46 1 rfl ?_
      refine r_getRK S fc1 k0 0 (v0 + 1) rfl rfl q_23 dX1_findCapacity_47 ?_
      refine r_iload_n S dX1_findCapacity_50 3 rfl ?_
      refine rc_L S (rn_V S fc4 (kk1_1 k0) (c_SR_at _ _ (gYX S) (v0 + 1) (kk1_1 k0) v2 M _ rfl) wdX4_at q_24 ⟨Nat.le_of_ble_eq_true rfl, Nat.le_of_ble_eq_true rfl⟩ rfl (Nat.le_of_ble_eq_true rfl) dX1_findCapacity_51) ?_
      refine r_iload S dX1_findCapacity_54 6 rfl ?_
      refine rc_I S (rn_SN S (c_LL_has _ _ (gYX S) (fAtL (v0 + 1) v2 M) v5 M _ rfl) wdX7_has q_37 ⟨Nat.le_of_ble_eq_true rfl, Nat.le_of_ble_eq_true rfl⟩ rfl (Nat.le_of_ble_eq_true rfl) dX1_findCapacity_56) ?_
      refine r_if_eq S 72 dX1_findCapacity_59 (by decide) (fun c => ?_) (fun c => ?_)
      · try simp only [if_pos c] at hE
        refine r_iconst S (0 : Int32) dX1_findCapacity_72 rfl ?_
        refine r_iadd S dX1_findCapacity_73 ?_
        refine r_istore (lv2 := [(4, .int (v4 + (0 : Int32))), (6, .int ((fAtI (v1 + 7) v3 M) - (fAtI (v1 + 1) v5 M))), (0, .ref (hY X.2.1.2 + v0)), (1, .ref (hY X.2.1.2 + v1)), (2, .int v2), (3, .int v3), (5, .int v5)]) S dX1_findCapacity_74 (by decide) rfl ?_
        refine r_iinc (lv2 := [(5, .int (v5 + (1 : Int32))), (4, .int (v4 + (0 : Int32))), (6, .int ((fAtI (v1 + 7) v3 M) - (fAtI (v1 + 1) v5 M))), (0, .ref (hY X.2.1.2 + v0)), (1, .ref (hY X.2.1.2 + v1)), (2, .int v2), (3, .int v3)]) S dX1_findCapacity_76 (j := 6) rfl (by decide) rfl ?_
        refine r_goto S 15 dX1_findCapacity_79 (by decide) ?_
        obtain rfl := si1 hE
        exact r_sub (lv2 := [(0, .ref (hY X.2.1.2 + v0)), (1, .ref (hY X.2.1.2 + v1)), (2, .int v2), (3, .int v3), (4, .int (v4 + (0 : Int32))), (5, .int (v5 + (1 : Int32)))]) [3, 4, 5, 6, 1, 0] rfl (hC ((v4 + (0 : Int32)), (v5 + (1 : Int32))) rfl)
      · try simp only [if_neg c] at hE
        refine r_iload S dX1_findCapacity_62 0 rfl ?_
        refine r_if_le S 72 dX1_findCapacity_64 (by decide) (fun c => ?_) (fun c => ?_)
        · try simp only [if_pos c] at hE
          refine r_iconst S (0 : Int32) dX1_findCapacity_72 rfl ?_
          refine r_iadd S dX1_findCapacity_73 ?_
          refine r_istore (lv2 := [(4, .int (v4 + (0 : Int32))), (6, .int ((fAtI (v1 + 7) v3 M) - (fAtI (v1 + 1) v5 M))), (0, .ref (hY X.2.1.2 + v0)), (1, .ref (hY X.2.1.2 + v1)), (2, .int v2), (3, .int v3), (5, .int v5)]) S dX1_findCapacity_74 (by decide) rfl ?_
          refine r_iinc (lv2 := [(5, .int (v5 + (1 : Int32))), (4, .int (v4 + (0 : Int32))), (6, .int ((fAtI (v1 + 7) v3 M) - (fAtI (v1 + 1) v5 M))), (0, .ref (hY X.2.1.2 + v0)), (1, .ref (hY X.2.1.2 + v1)), (2, .int v2), (3, .int v3)]) S dX1_findCapacity_76 (j := 6) rfl (by decide) rfl ?_
          refine r_goto S 15 dX1_findCapacity_79 (by decide) ?_
          obtain rfl := si1 hE
          exact r_sub (lv2 := [(0, .ref (hY X.2.1.2 + v0)), (1, .ref (hY X.2.1.2 + v1)), (2, .int v2), (3, .int v3), (4, .int (v4 + (0 : Int32))), (5, .int (v5 + (1 : Int32)))]) [3, 4, 5, 6, 1, 0] rfl (hC ((v4 + (0 : Int32)), (v5 + (1 : Int32))) rfl)
        · try simp only [if_neg c] at hE
          refine r_iload S dX1_findCapacity_67 0 rfl ?_
          refine r_goto S 73 dX1_findCapacity_69 (by decide) ?_
          refine r_iadd S dX1_findCapacity_73 ?_
          refine r_istore (lv2 := [(4, .int (v4 + ((fAtI (v1 + 7) v3 M) - (fAtI (v1 + 1) v5 M)))), (6, .int ((fAtI (v1 + 7) v3 M) - (fAtI (v1 + 1) v5 M))), (0, .ref (hY X.2.1.2 + v0)), (1, .ref (hY X.2.1.2 + v1)), (2, .int v2), (3, .int v3), (5, .int v5)]) S dX1_findCapacity_74 (by decide) rfl ?_
          refine r_iinc (lv2 := [(5, .int (v5 + (1 : Int32))), (4, .int (v4 + ((fAtI (v1 + 7) v3 M) - (fAtI (v1 + 1) v5 M)))), (6, .int ((fAtI (v1 + 7) v3 M) - (fAtI (v1 + 1) v5 M))), (0, .ref (hY X.2.1.2 + v0)), (1, .ref (hY X.2.1.2 + v1)), (2, .int v2), (3, .int v3)]) S dX1_findCapacity_76 (j := 6) rfl (by decide) rfl ?_
          refine r_goto S 15 dX1_findCapacity_79 (by decide) ?_
          obtain rfl := si1 hE
          exact r_sub (lv2 := [(0, .ref (hY X.2.1.2 + v0)), (1, .ref (hY X.2.1.2 + v1)), (2, .int v2), (3, .int v3), (4, .int (v4 + ((fAtI (v1 + 7) v3 M) - (fAtI (v1 + 1) v5 M)))), (5, .int (v5 + (1 : Int32)))]) [3, 4, 5, 6, 1, 0] rfl (hC ((v4 + ((fAtI (v1 + 7) v3 M) - (fAtI (v1 + 1) v5 M))), (v5 + (1 : Int32))) rfl)
  have J98 : ∀ (t0 : Int32) (t1 : Int32) (t2 : Nat) (kt2 : kC t2 = 3) (M : Mem), LK_findCapacity_J98 t0 t1 t2 M = some (r, M1) → AW X 98 [] [.int t0, .int t1, .ref (hY X.2.1.2 + t2)] M := by
    intro t0 t1 t2 kt2 M hE
    unfold LK_findCapacity_J98 at hE
    refine rc_V S (rn_V S fc3 kt2 (c_NR_put _ _ (gYX S) t2 kt2 t1 t0 M _ rfl) wdX3_put q_308 ⟨Nat.le_of_ble_eq_true rfl, Nat.le_of_ble_eq_true rfl⟩ rfl (Nat.le_of_ble_eq_true rfl) dX1_findCapacity_98) ?_
    obtain ⟨rfl, rfl⟩ := si2 hE
    exact hret _ _ dX1_findCapacity_101
  unfold LK_findCapacity at hE
  refine r_aload_n S dX1_findCapacity_0 0 rfl ?_
  refine r_getRK S fc1 ho 3 (o + 7) rfl rfl q_210 dX1_findCapacity_1 ?_
  refine r_iload_n S dX1_findCapacity_4 2 rfl ?_
  refine rc_I S (rn_V S fc3 (kk1_7 ho) (c_NR_at _ _ (gYX S) (o + 7) (kk1_7 ho) a2 M _ rfl) wdX3_at q_31 ⟨Nat.le_of_ble_eq_true rfl, Nat.le_of_ble_eq_true rfl⟩ rfl (Nat.le_of_ble_eq_true rfl) dX1_findCapacity_5) ?_
  refine r_istore_n (lv2 := [(3, .int (fAtI (o + 7) a2 M)), (0, .ref (hY X.2.1.2 + o)), (1, .ref (hY X.2.1.2 + a1)), (2, .int a2)]) S dX1_findCapacity_8 (by decide) rfl ?_
  refine r_iconst S (0 : Int32) dX1_findCapacity_9 rfl ?_
  refine r_istore (lv2 := [(4, .int (0 : Int32)), (3, .int (fAtI (o + 7) a2 M)), (0, .ref (hY X.2.1.2 + o)), (1, .ref (hY X.2.1.2 + a1)), (2, .int a2)]) S dX1_findCapacity_10 (by decide) rfl ?_
  refine r_iconst S (0 : Int32) dX1_findCapacity_12 rfl ?_
  refine r_istore (lv2 := [(5, .int (0 : Int32)), (4, .int (0 : Int32)), (3, .int (fAtI (o + 7) a2 M)), (0, .ref (hY X.2.1.2 + o)), (1, .ref (hY X.2.1.2 + a1)), (2, .int a2)]) S dX1_findCapacity_13 (by decide) rfl ?_
  obtain ⟨e1, h9, hE⟩ := b1_some hE
  refine r_sub [3, 4, 5, 2, 1, 0] rfl (L15 o ho a1 k1 a2 (fAtI (o + 7) a2 M) M e1 ?_ _ _  h9)
  refine r_aload_n S dX1_findCapacity_82 0 rfl ?_
  refine r_getRK S fc1 ho 2 (o + 5) rfl rfl q_209 dX1_findCapacity_83 ?_
  refine r_iload_n S dX1_findCapacity_86 1 rfl ?_
  refine r_iload_n S dX1_findCapacity_87 2 rfl ?_
  refine r_iconst S (-1 : Int32) dX1_findCapacity_88 rfl ?_
  refine r_icmp_ne S 96 dX1_findCapacity_89 (by decide) (fun c => ?_) (fun c => ?_)
  · try simp only [if_pos c] at hE
    refine r_iload S dX1_findCapacity_96 3 rfl ?_
    exact r_sub [] rfl (J98 e1 a2 (o + 5) (kk1_5 ho) M hE)
  · try simp only [if_neg (not_not_intro c)] at hE
    refine r_iconst S (-1 : Int32) dX1_findCapacity_92 rfl ?_
    refine r_goto S 98 dX1_findCapacity_93 (by decide) ?_
    exact r_sub [] rfl (J98 (-1 : Int32) a2 (o + 5) (kk1_5 ho) M hE)
set_option maxRecDepth 100000 in
set_option maxHeartbeats 4000000 in
theorem c_LK_restart (l : Launch) (Y : Env1) (hG : gY Y = gC) (o : Nat) (ho : kC o = 1) (a1 : Nat) (k1 : kC a1 = 0) (a2 : Nat) (k2 : kC a2 = 5) (M : Mem) (r : Unit) (M1 : Mem) (hE : LK_restart o a1 a2 M = some (r, M1)) : CnV l Y yX1_restart cX1_restart 5 3 [.ref (hY Y + o), .ref (hY Y + a1), .ref (hY Y + a2)] M M1 := by
  refine met_V (own := RX1) (by decide +kernel) rfl hG (Nat.le_of_ble_eq_true rfl) (fun X S hY1 hl1 hret => ?_)
  subst hY1
  subst hl1
  show AW X 0 [(0, .ref (hY X.2.1.2 + o)), (1, .ref (hY X.2.1.2 + a1)), (2, .ref (hY X.2.1.2 + a2))] [] M
  have L70 : ∀ (v0 : Nat) (k0 : kC v0 = 1) (v1 : Nat) (k1 : kC v1 = 0) (v2 : Nat) (k2 : kC v2 = 5) (e : (Unit)) (M2 : Mem), AW X 141 [] [] M2 → ∀ (n : Nat) (s : Int32) (M : Mem), lpM (fun s M => LK_restart_L70 v0 v1 v2 s M) n s M = some (e, M2) → AW X 70 [(0, .ref (hY X.2.1.2 + v0)), (1, .ref (hY X.2.1.2 + v1)), (2, .ref (hY X.2.1.2 + v2)), (3, .int s)] [] M := by
    intro v0 k0 v1 k1 v2 k2 e M2 hX
    refine lpM_ind (P := fun (s : Int32) (M : Mem) => AW X 70 [(0, .ref (hY X.2.1.2 + v0)), (1, .ref (hY X.2.1.2 + v1)), (2, .ref (hY X.2.1.2 + v2)), (3, .int s)] [] M) ?_
    rintro v3 M d M3 hE hC hD
    replace hE : LK_restart_L70 v0 v1 v2 v3 M = some (d, M3) := hE
    show AW X 70 [(0, .ref (hY X.2.1.2 + v0)), (1, .ref (hY X.2.1.2 + v1)), (2, .ref (hY X.2.1.2 + v2)), (3, .int v3)] [] M
    unfold LK_restart_L70 at hE
    refine r_iload_n S dX1_restart_70 3 rfl ?_
    refine r_aload_n S dX1_restart_71 2 rfl ?_
    refine r_getIN S fc5 k2 0 rfl q_312 dX1_restart_72 ?_
    refine r_icmp_ge S 141 dX1_restart_75 (by decide) (fun c => ?_) (fun c => ?_)
    · rw [if_pos c] at hE
      obtain ⟨rfl, rfl⟩ := si2 hE
      rcases hD with ⟨h1, h2⟩ | ⟨_, h1⟩
      · obtain rfl := sir h1
        subst h2
        exact r_sub [] rfl hX
      · exact (sil h1).elim
    · rw [if_neg c] at hE
      refine r_aload_n S dX1_restart_78 0 rfl ?_
      refine r_getRK S fc1 k0 1 (v0 + 3) rfl rfl q_41 dX1_restart_79 ?_
      refine r_iload_n S dX1_restart_82 3 rfl ?_
      refine r_iconst S (0 : Int32) dX1_restart_83 rfl ?_
      refine rc_V S (rn_V S fc3 (kk1_3 k0) (c_NR_put _ _ (gYX S) (v0 + 3) (kk1_3 k0) v3 (0 : Int32) M _ rfl) wdX3_put q_308 ⟨Nat.le_of_ble_eq_true rfl, Nat.le_of_ble_eq_true rfl⟩ rfl (Nat.le_of_ble_eq_true rfl) dX1_restart_84) ?_
      refine r_aload_n S dX1_restart_87 0 rfl ?_
      refine r_getRK S fc1 k0 4 (v0 + 9) rfl rfl q_211 dX1_restart_88 ?_
      refine r_iload_n S dX1_restart_91 3 rfl ?_
      refine r_iconst S (0 : Int32) dX1_restart_92 rfl ?_
      refine rc_V S (rn_V S fc3 (kk1_9 k0) (c_NR_put _ _ (gYX S) (v0 + 9) (kk1_9 k0) v3 (0 : Int32) (fPutI (v0 + 3) v3 (0 : Int32) M) _ rfl) wdX3_put q_308 ⟨Nat.le_of_ble_eq_true rfl, Nat.le_of_ble_eq_true rfl⟩ rfl (Nat.le_of_ble_eq_true rfl) dX1_restart_93) ?_
      refine r_aload_n S dX1_restart_96 0 rfl ?_
      refine r_getRK S fc1 k0 5 (v0 + 11) rfl rfl q_212 dX1_restart_97 ?_
      refine r_iload_n S dX1_restart_100 3 rfl ?_
      refine r_iconst S (1 : Int32) dX1_restart_101 rfl ?_
      refine rc_V S (rn_V S fc3 (kk1_11 k0) (c_NR_put _ _ (gYX S) (v0 + 11) (kk1_11 k0) v3 (1 : Int32) (fPutI (v0 + 9) v3 (0 : Int32) (fPutI (v0 + 3) v3 (0 : Int32) M)) _ rfl) wdX3_put q_308 ⟨Nat.le_of_ble_eq_true rfl, Nat.le_of_ble_eq_true rfl⟩ rfl (Nat.le_of_ble_eq_true rfl) dX1_restart_102) ?_
      refine r_aload_n S dX1_restart_105 0 rfl ?_
      refine r_getRK S fc1 k0 6 (v0 + 13) rfl rfl q_213 dX1_restart_106 ?_
      refine r_iload_n S dX1_restart_109 3 rfl ?_
      refine r_iconst S (-1 : Int32) dX1_restart_110 rfl ?_
      refine rc_V S (rn_V S fc3 (kk1_13 k0) (c_NR_put _ _ (gYX S) (v0 + 13) (kk1_13 k0) v3 (-1 : Int32) (fPutI (v0 + 11) v3 (1 : Int32) (fPutI (v0 + 9) v3 (0 : Int32) (fPutI (v0 + 3) v3 (0 : Int32) M))) _ rfl) wdX3_put q_308 ⟨Nat.le_of_ble_eq_true rfl, Nat.le_of_ble_eq_true rfl⟩ rfl (Nat.le_of_ble_eq_true rfl) dX1_restart_111) ?_
      refine r_aload_n S dX1_restart_114 0 rfl ?_
      refine r_getRK S fc1 k0 7 (v0 + 15) rfl rfl q_214 dX1_restart_115 ?_
      refine r_iload_n S dX1_restart_118 3 rfl ?_
      refine r_iconst S (-1 : Int32) dX1_restart_119 rfl ?_
      refine rc_V S (rn_V S fc3 (kk1_15 k0) (c_NR_put _ _ (gYX S) (v0 + 15) (kk1_15 k0) v3 (-1 : Int32) (fPutI (v0 + 13) v3 (-1 : Int32) (fPutI (v0 + 11) v3 (1 : Int32) (fPutI (v0 + 9) v3 (0 : Int32) (fPutI (v0 + 3) v3 (0 : Int32) M)))) _ rfl) wdX3_put q_308 ⟨Nat.le_of_ble_eq_true rfl, Nat.le_of_ble_eq_true rfl⟩ rfl (Nat.le_of_ble_eq_true rfl) dX1_restart_120) ?_
      refine r_aload_n S dX1_restart_123 0 rfl ?_
      refine r_aload_n S dX1_restart_124 1 rfl ?_
      refine r_iload_n S dX1_restart_125 3 rfl ?_
      obtain ⟨x1, M2, h9, hE⟩ := b2_some hE
      refine rc_V S (rn_V S fc1 k0 (c_LK_findPass _ _ (gYX S) v0 k0 v1 k1 v3 (fPutI (v0 + 15) v3 (-1 : Int32) (fPutI (v0 + 13) v3 (-1 : Int32) (fPutI (v0 + 11) v3 (1 : Int32) (fPutI (v0 + 9) v3 (0 : Int32) (fPutI (v0 + 3) v3 (0 : Int32) M))))) _ _ h9) wdX1_findPass q_313 ⟨Nat.le_of_ble_eq_true rfl, Nat.le_of_ble_eq_true rfl⟩ rfl (Nat.le_of_ble_eq_true rfl) dX1_restart_126) ?_
      refine r_aload_n S dX1_restart_129 0 rfl ?_
      refine r_aload_n S dX1_restart_130 1 rfl ?_
      refine r_iload_n S dX1_restart_131 3 rfl ?_
      obtain ⟨x3, M4, h9, hE⟩ := b2_some hE
      refine rc_V S (rn_V S fc1 k0 (c_LK_findCapacity _ _ (gYX S) v0 k0 v1 k1 v3 M2 _ _ h9) wdX1_findCapacity q_318 ⟨Nat.le_of_ble_eq_true rfl, Nat.le_of_ble_eq_true rfl⟩ rfl (Nat.le_of_ble_eq_true rfl) dX1_restart_132) ?_
      refine r_iinc (lv2 := [(3, .int (v3 + (1 : Int32))), (0, .ref (hY X.2.1.2 + v0)), (1, .ref (hY X.2.1.2 + v1)), (2, .ref (hY X.2.1.2 + v2))]) S dX1_restart_135 (j := 3) rfl (by decide) rfl ?_
      refine r_goto S 70 dX1_restart_138 (by decide) ?_
      obtain ⟨rfl, rfl⟩ := si2 hE
      exact r_sub (lv2 := [(0, .ref (hY X.2.1.2 + v0)), (1, .ref (hY X.2.1.2 + v1)), (2, .ref (hY X.2.1.2 + v2)), (3, .int (v3 + (1 : Int32)))]) [1, 2, 3, 0] rfl (hC (v3 + (1 : Int32)) rfl)
  have L21 : ∀ (v0 : Nat) (k0 : kC v0 = 1) (v1 : Nat) (k1 : kC v1 = 0) (v2 : Nat) (k2 : kC v2 = 5) (e : (Unit)) (M2 : Mem), AW X 68 [(0, .ref (hY X.2.1.2 + v0)), (1, .ref (hY X.2.1.2 + v1)), (2, .ref (hY X.2.1.2 + v2))] [] M2 → ∀ (n : Nat) (s : Int32) (M : Mem), lpM (fun s M => LK_restart_L21 v0 v1 v2 s M) n s M = some (e, M2) → AW X 21 [(0, .ref (hY X.2.1.2 + v0)), (1, .ref (hY X.2.1.2 + v1)), (2, .ref (hY X.2.1.2 + v2)), (3, .int s)] [] M := by
    intro v0 k0 v1 k1 v2 k2 e M2 hX
    refine lpM_ind (P := fun (s : Int32) (M : Mem) => AW X 21 [(0, .ref (hY X.2.1.2 + v0)), (1, .ref (hY X.2.1.2 + v1)), (2, .ref (hY X.2.1.2 + v2)), (3, .int s)] [] M) ?_
    rintro v3 M d M3 hE hC hD
    replace hE : LK_restart_L21 v0 v1 v2 v3 M = some (d, M3) := hE
    show AW X 21 [(0, .ref (hY X.2.1.2 + v0)), (1, .ref (hY X.2.1.2 + v1)), (2, .ref (hY X.2.1.2 + v2)), (3, .int v3)] [] M
    unfold LK_restart_L21 at hE
    refine r_iload_n S dX1_restart_21 3 rfl ?_
    refine r_aload_n S dX1_restart_22 1 rfl ?_
    refine r_getIN S fc0 k1 2 rfl q_29 dX1_restart_23 ?_
    refine r_icmp_ge S 68 dX1_restart_26 (by decide) (fun c => ?_) (fun c => ?_)
    · rw [if_pos c] at hE
      obtain ⟨rfl, rfl⟩ := si2 hE
      rcases hD with ⟨h1, h2⟩ | ⟨_, h1⟩
      · obtain rfl := sir h1
        subst h2
        exact r_sub [0, 1, 2] rfl hX
      · exact (sil h1).elim
    · rw [if_neg c] at hE
      refine r_aload_n S dX1_restart_29 0 rfl ?_
      refine r_getRK S fc1 k0 8 (v0 + 17) rfl rfl q_215 dX1_restart_30 ?_
      refine r_iload_n S dX1_restart_33 3 rfl ?_
      refine rc_I S (rn_V S fc3 (kk1_17 k0) (c_NR_at _ _ (gYX S) (v0 + 17) (kk1_17 k0) v3 M _ rfl) wdX3_at q_31 ⟨Nat.le_of_ble_eq_true rfl, Nat.le_of_ble_eq_true rfl⟩ rfl (Nat.le_of_ble_eq_true rfl) dX1_restart_34) ?_
      refine r_istore (lv2 := [(4, .int (fAtI (v0 + 17) v3 M)), (0, .ref (hY X.2.1.2 + v0)), (1, .ref (hY X.2.1.2 + v1)), (2, .ref (hY X.2.1.2 + v2)), (3, .int v3)]) S dX1_restart_37 (by decide) rfl ?_
      refine r_aload_n S dX1_restart_39 1 rfl ?_
      refine r_getRK S fc1 k0 0 (v0 + 1) rfl rfl q_23 dX1_restart_40 ?_
      refine r_iload S dX1_restart_43 0 rfl ?_
      refine r_aload_n S dX1_restart_45 1 rfl ?_
      refine r_getRK S fc1 k0 0 (v0 + 1) rfl rfl q_23 dX1_restart_46 ?_
      refine r_iload S dX1_restart_49 0 rfl ?_
      refine rc_L S (rn_V S fc4 (kk1_1 k0) (c_SR_at _ _ (gYX S) (v0 + 1) (kk1_1 k0) (fAtI (v0 + 17) v3 M) M _ rfl) wdX4_at q_24 ⟨Nat.le_of_ble_eq_true rfl, Nat.le_of_ble_eq_true rfl⟩ rfl (Nat.le_of_ble_eq_true rfl) dX1_restart_51) ?_
      refine r_iload_n S dX1_restart_54 4 rfl ?_
      refine rc_L S (rn_SN S (c_LL_bit _ _ (gYX S) v3 M _ rfl) wdX7_bit q_42 ⟨Nat.le_of_ble_eq_true rfl, Nat.le_of_ble_eq_true rfl⟩ rfl (Nat.le_of_ble_eq_true rfl) dX1_restart_55) ?_
      refine r_lor S dX1_restart_58 ?_
      refine rc_V S (rn_V S fc4 (kk1_1 k0) (c_SR_put _ _ (gYX S) (v0 + 1) (kk1_1 k0) (fAtI (v0 + 17) v3 M) ((fAtL (v0 + 1) (fAtI (v0 + 17) v3 M) M) ||| (LL_bit v3)) M _ rfl) wdX4_put q_311 ⟨Nat.le_of_ble_eq_true rfl, Nat.le_of_ble_eq_true rfl⟩ rfl (Nat.le_of_ble_eq_true rfl) dX1_restart_59) ?_
      refine r_iinc (lv2 := [(3, .int (v3 + (1 : Int32))), (4, .int (fAtI (v0 + 17) v3 M)), (0, .ref (hY X.2.1.2 + v0)), (1, .ref (hY X.2.1.2 + v1)), (2, .ref (hY X.2.1.2 + v2))]) S dX1_restart_62 (j := 4) rfl (by decide) rfl ?_
      refine r_goto S 21 dX1_restart_65 (by decide) ?_
      obtain ⟨rfl, rfl⟩ := si2 hE
      exact r_sub (lv2 := [(0, .ref (hY X.2.1.2 + v0)), (1, .ref (hY X.2.1.2 + v1)), (2, .ref (hY X.2.1.2 + v2)), (3, .int (v3 + (1 : Int32)))]) [2, 3, 4, 0] rfl (hC (v3 + (1 : Int32)) rfl)
  unfold LK_restart at hE
  refine r_aload_n S dX1_restart_0 0 rfl ?_
  refine r_getRK S fc1 ho 0 (o + 1) rfl rfl q_23 dX1_restart_1 ?_
  refine r_lconst S (0 : Int64) dX1_restart_4 rfl ?_
  refine rc_V S (rn_V S fc4 (kk1_1 ho) (c_SR_fill _ _ (gYX S) (o + 1) (kk1_1 ho) (0 : Int64) M _ rfl) wdX4_fill q_309 ⟨Nat.le_of_ble_eq_true rfl, Nat.le_of_ble_eq_true rfl⟩ rfl (Nat.le_of_ble_eq_true rfl) dX1_restart_5) ?_
  refine r_aload_n S dX1_restart_8 0 rfl ?_
  refine r_getRK S fc1 ho 8 (o + 17) rfl rfl q_215 dX1_restart_9 ?_
  refine r_aload_n S dX1_restart_12 2 rfl ?_
  refine r_getRKN S fc5 k2 3 (a2 + 5) rfl rfl q_310 dX1_restart_13 ?_
  refine rc_V S (rn_V S fc3 (kk1_17 ho) (c_NR_copyFrom _ _ (gYX S) (o + 17) (kk1_17 ho) (a2 + 5) (kk5_5 k2) (fFillL (o + 1) (0 : Int64) M) _ rfl) wdX3_copyFrom q_208 ⟨Nat.le_of_ble_eq_true rfl, Nat.le_of_ble_eq_true rfl⟩ rfl (Nat.le_of_ble_eq_true rfl) dX1_restart_16) ?_
  refine r_iconst S (0 : Int32) dX1_restart_19 rfl ?_
  refine r_istore_n (lv2 := [(3, .int (0 : Int32)), (0, .ref (hY X.2.1.2 + o)), (1, .ref (hY X.2.1.2 + a1)), (2, .ref (hY X.2.1.2 + a2))]) S dX1_restart_20 (by decide) rfl ?_
  obtain ⟨e1, M2, h9, hE⟩ := b2_some hE
  refine r_sub [1, 2, 3, 0] rfl (L21 o ho a1 k1 a2 k2  e1 M2 ?_ _ _ (fCpyI (o + 17) (a2 + 5) (fFillL (o + 1) (0 : Int64) M)) h9)
  refine r_iconst S (0 : Int32) dX1_restart_68 rfl ?_
  refine r_istore_n (lv2 := [(3, .int (0 : Int32)), (0, .ref (hY X.2.1.2 + o)), (1, .ref (hY X.2.1.2 + a1)), (2, .ref (hY X.2.1.2 + a2))]) S dX1_restart_69 (by decide) rfl ?_
  obtain ⟨e3, M4, h9, hE⟩ := b2_some hE
  refine r_sub [1, 2, 3, 0] rfl (L70 o ho a1 k1 a2 k2  e3 M4 ?_ _ _ M2 h9)
  obtain ⟨rfl, rfl⟩ := si2 hE
  exact hret _ _ dX1_restart_141
set_option maxRecDepth 100000 in
set_option maxHeartbeats 4000000 in
theorem c_WD_findAnew (l : Launch) (Y : Env1) (hG : gY Y = gC) (o : Nat) (ho : kC o = 6) (M : Mem) (r : Unit) (M1 : Mem) (hE : WD_findAnew o M = some (r, M1)) : CnV l Y yX6_findAnew cX6_findAnew 1 4 [.ref (hY Y + o)] M M1 := by
  refine met_V (own := RX6) (by decide +kernel) rfl hG (Nat.le_of_ble_eq_true rfl) (fun X S hY1 hl1 hret => ?_)
  subst hY1
  subst hl1
  show AW X 0 [(0, .ref (hY X.2.1.2 + o))] [] M
  unfold WD_findAnew at hE
  refine r_aload_n S dX6_findAnew_0 0 rfl ?_
  refine r_getRK S fc6 ho 0 (o + 1) rfl rfl q_216 dX6_findAnew_1 ?_
  obtain ⟨x1, M2, h9, hE⟩ := b2_some hE
  refine rc_V S (rn_V S fc0 (kk6_1 ho) (c_GR_measure _ _ (gYX S) (o + 1) (kk6_1 ho) M _ _ h9) wdX0_measure q_323 ⟨Nat.le_of_ble_eq_true rfl, Nat.le_of_ble_eq_true rfl⟩ rfl (Nat.le_of_ble_eq_true rfl) dX6_findAnew_4) ?_
  refine r_aload_n S dX6_findAnew_7 0 rfl ?_
  refine r_getRK S fc6 ho 1 (o + 12) rfl rfl q_222 dX6_findAnew_8 ?_
  refine r_aload_n S dX6_findAnew_11 0 rfl ?_
  refine r_getRK S fc6 ho 0 (o + 1) rfl rfl q_216 dX6_findAnew_12 ?_
  obtain ⟨x3, M4, h9, hE⟩ := b2_some hE
  refine rc_V S (rn_V S fc5 (kk6_12 ho) (c_WY_find _ _ (gYX S) (o + 12) (kk6_12 ho) (o + 1) (kk6_1 ho) M2 _ _ h9) wdX5_find q_328 ⟨Nat.le_of_ble_eq_true rfl, Nat.le_of_ble_eq_true rfl⟩ rfl (Nat.le_of_ble_eq_true rfl) dX6_findAnew_15) ?_
  refine r_aload_n S dX6_findAnew_18 0 rfl ?_
  refine r_getRK S fc6 ho 2 (o + 19) rfl rfl q_228 dX6_findAnew_19 ?_
  refine r_aload_n S dX6_findAnew_22 0 rfl ?_
  refine r_getRK S fc6 ho 0 (o + 1) rfl rfl q_216 dX6_findAnew_23 ?_
  refine r_aload_n S dX6_findAnew_26 0 rfl ?_
  refine r_getRK S fc6 ho 1 (o + 12) rfl rfl q_222 dX6_findAnew_27 ?_
  obtain ⟨x5, M6, h9, hE⟩ := b2_some hE
  refine rc_V S (rn_V S fc1 (kk6_19 ho) (c_LK_restart _ _ (gYX S) (o + 19) (kk6_19 ho) (o + 1) (kk6_1 ho) (o + 12) (kk6_12 ho) M4 _ _ h9) wdX1_restart q_333 ⟨Nat.le_of_ble_eq_true rfl, Nat.le_of_ble_eq_true rfl⟩ rfl (Nat.le_of_ble_eq_true rfl) dX6_findAnew_30) ?_
  obtain ⟨rfl, rfl⟩ := si2 hE
  exact hret _ _ dX6_findAnew_33
set_option maxRecDepth 100000 in
set_option maxHeartbeats 4000000 in
theorem c_WD_restart (l : Launch) (Y : Env1) (hG : gY Y = gC) (o : Nat) (ho : kC o = 6) (M : Mem) (r : Unit) (M1 : Mem) (hE : WD_restart o M = some (r, M1)) : CnV l Y yX6_restart cX6_restart 1 5 [.ref (hY Y + o)] M M1 := by
  refine met_V (own := RX6) (by decide +kernel) rfl hG (Nat.le_of_ble_eq_true rfl) (fun X S hY1 hl1 hret => ?_)
  subst hY1
  subst hl1
  show AW X 0 [(0, .ref (hY X.2.1.2 + o))] [] M
  unfold WD_restart at hE
  refine r_aload_n S dX6_restart_0 0 rfl ?_
  refine r_lconst S (0 : Int64) dX6_restart_1 rfl ?_
  refine r_putL S fc6 ho 3 rfl rfl (by decide +kernel) q_234 dX6_restart_2 ?_
  refine r_aload_n S dX6_restart_5 0 rfl ?_
  refine r_lconst S (0 : Int64) dX6_restart_6 rfl ?_
  refine r_putL S fc6 ho 4 rfl rfl (by decide +kernel) q_235 dX6_restart_7 ?_
  refine r_aload_n S dX6_restart_10 0 rfl ?_
  refine r_lconst S (0 : Int64) dX6_restart_11 rfl ?_
  refine r_putL S fc6 ho 5 rfl rfl (by decide +kernel) q_236 dX6_restart_12 ?_
  refine r_aload_n S dX6_restart_15 0 rfl ?_
  obtain ⟨x1, M2, h9, hE⟩ := b2_some hE
  refine rc_V S (rn_V S fc6 ho (c_WD_findAnew _ _ (gYX S) o ho (sL (sL (sL M o 3 (0 : Int64)) o 4 (0 : Int64)) o 5 (0 : Int64)) _ _ h9) wdX6_findAnew q_338 ⟨Nat.le_of_ble_eq_true rfl, Nat.le_of_ble_eq_true rfl⟩ rfl (Nat.le_of_ble_eq_true rfl) dX6_restart_16) ?_
  obtain ⟨rfl, rfl⟩ := si2 hE
  exact hret _ _ dX6_restart_19
