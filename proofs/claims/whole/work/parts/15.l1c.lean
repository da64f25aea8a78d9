set_option maxRecDepth 100000 in
set_option maxHeartbeats 4000000 in
theorem c_WY_plainAround (l : Launch) (Y : Env1) (hG : gY Y = gC) (a0 : Nat) (k0 : kC a0 = 0) (a1 : Int32) (M : Mem) (r : Int64) (hE : WY_plainAround a0 a1 M = some r) : CnL l Y yX5_plainAround cX5_plainAround 11 2 [.ref (hY Y + a0), .int a1] M r M := by
  refine met_L (own := RX5) (by decide +kernel) rfl hG (Nat.le_of_ble_eq_true rfl) (fun X S hY1 hl1 hret => ?_)
  subst hY1
  subst hl1
  show AW X 0 [(0, .ref (hY X.2.1.2 + a0)), (1, .int a1)] [] M
  have L63 : ∀ (v0 : Nat) (k0 : kC v0 = 0) (v6 : Int32) (v7 : Int32) (v8 : Int32) (e : (Int64 × Int64)), AW X 146 [(0, .ref (hY X.2.1.2 + v0)), (2, .long e.1), (4, .long e.2), (6, .int v6)] [] M → ∀ (n : Nat) (s : Int64 × Int64 × Int32), lpR (fun s => WY_plainAround_L63 v0 v6 v7 v8 s.1 s.2.1 s.2.2 M) n s = some e → AW X 63 [(0, .ref (hY X.2.1.2 + v0)), (2, .long s.1), (4, .long s.2.1), (6, .int v6), (7, .int v7), (8, .int v8), (9, .int s.2.2)] [] M := by
    intro v0 k0 v6 v7 v8 e hX
    refine lpR_ind (P := fun (s : Int64 × Int64 × Int32) => AW X 63 [(0, .ref (hY X.2.1.2 + v0)), (2, .long s.1), (4, .long s.2.1), (6, .int v6), (7, .int v7), (8, .int v8), (9, .int s.2.2)] [] M) ?_
    rintro ⟨v2, v4, v9⟩ d hE hC hD
    replace hE : WY_plainAround_L63 v0 v6 v7 v8 v2 v4 v9 M = some d := hE
    show AW X 63 [(0, .ref (hY X.2.1.2 + v0)), (2, .long v2), (4, .long v4), (6, .int v6), (7, .int v7), (8, .int v8), (9, .int v9)] [] M
    unfold WY_plainAround_L63 at hE
    refine r_iload S dX5_plainAround_63 6 rfl ?_
    refine r_iconst S (4 : Int32) dX5_plainAround_65 rfl ?_
    refine r_iload S dX5_plainAround_66 4 rfl ?_
    refine r_imul S dX5_plainAround_68 ?_
    refine r_iconst S (4 : Int32) dX5_plainAround_69 rfl ?_
    refine r_iadd S dX5_plainAround_70 ?_
    refine r_icmp_ge S 146 dX5_plainAround_71 (by decide) (fun c => ?_) (fun c => ?_)
    · rw [if_pos c] at hE
      obtain rfl := si1 hE
      rcases hD with h1 | ⟨_, h1⟩
      · obtain rfl := sir h1
        exact r_sub [0, 1, 2, 3] rfl hX
      · exact (sil h1).elim
    · rw [if_neg c] at hE
      refine r_aload_n S dX5_plainAround_74 0 rfl ?_
      refine r_getRKN S fc0 k0 5 (v0 + 3) rfl rfl q_336 dX5_plainAround_75 ?_
      refine r_iload S dX5_plainAround_78 6 rfl ?_
      refine rc_I S (rn_V S fc3 (kk0_3 k0) (c_NR_at _ _ (gYX S) (v0 + 3) (kk0_3 k0) v9 M _ rfl) wdX3_at q_334 ⟨Nat.le_of_ble_eq_true rfl, Nat.le_of_ble_eq_true rfl⟩ rfl (Nat.le_of_ble_eq_true rfl) dX5_plainAround_80) ?_
      refine r_istore (lv2 := [(10, .int (fAtI (v0 + 3) v9 M)), (0, .ref (hY X.2.1.2 + v0)), (2, .long v2), (4, .long v4), (6, .int v6), (7, .int v7), (8, .int v8), (9, .int v9)]) S dX5_plainAround_83 (by decide) rfl ?_
      refine r_aload_n S dX5_plainAround_85 1 rfl ?_
      refine r_getRKN S fc0 k0 7 (v0 + 7) rfl rfl q_337 dX5_plainAround_86 ?_
      refine r_iload S dX5_plainAround_89 7 rfl ?_
      refine rc_I S (rn_V S fc3 (kk0_7 k0) (c_NR_at _ _ (gYX S) (v0 + 7) (kk0_7 k0) v9 M _ rfl) wdX3_at q_334 ⟨Nat.le_of_ble_eq_true rfl, Nat.le_of_ble_eq_true rfl⟩ rfl (Nat.le_of_ble_eq_true rfl) dX5_plainAround_91) ?_
      refine r_iload S dX5_plainAround_94 6 rfl ?_
      refine r_icmp_ne S 140 dX5_plainAround_96 (by decide) (fun c => ?_) (fun c => ?_)
      · try simp only [if_pos c] at hE
        refine r_iinc (lv2 := [(9, .int (v9 + (1 : Int32))), (10, .int (fAtI (v0 + 3) v9 M)), (0, .ref (hY X.2.1.2 + v0)), (2, .long v2), (4, .long v4), (6, .int v6), (7, .int v7), (8, .int v8)]) S dX5_plainAround_140 (j := 7) rfl (by decide) rfl ?_
        refine r_goto S 63 dX5_plainAround_143 (by decide) ?_
        obtain rfl := si1 hE
        exact r_sub (lv2 := [(0, .ref (hY X.2.1.2 + v0)), (2, .long v2), (4, .long v4), (6, .int v6), (7, .int v7), (8, .int v8), (9, .int (v9 + (1 : Int32)))]) [2, 3, 4, 5, 6, 7, 0] rfl (hC (v2, v4, (v9 + (1 : Int32))) rfl)
      · try simp only [if_neg (not_not_intro c)] at hE
        refine r_aload_n S dX5_plainAround_99 1 rfl ?_
        refine r_getRKN S fc0 k0 4 (v0 + 1) rfl rfl q_333 dX5_plainAround_100 ?_
        refine r_iload S dX5_plainAround_103 0 rfl ?_
        refine rc_I S (rn_V S fc3 (kk0_1 k0) (c_NR_at _ _ (gYX S) (v0 + 1) (kk0_1 k0) (fAtI (v0 + 3) v9 M) M _ rfl) wdX3_at q_334 ⟨Nat.le_of_ble_eq_true rfl, Nat.le_of_ble_eq_true rfl⟩ rfl (Nat.le_of_ble_eq_true rfl) dX5_plainAround_105) ?_
        refine r_iload S dX5_plainAround_108 6 rfl ?_
        refine r_icmp_ne S 140 dX5_plainAround_110 (by decide) (fun c => ?_) (fun c => ?_)
        · try simp only [if_pos c] at hE
          refine r_iinc (lv2 := [(9, .int (v9 + (1 : Int32))), (10, .int (fAtI (v0 + 3) v9 M)), (0, .ref (hY X.2.1.2 + v0)), (2, .long v2), (4, .long v4), (6, .int v6), (7, .int v7), (8, .int v8)]) S dX5_plainAround_140 (j := 7) rfl (by decide) rfl ?_
          refine r_goto S 63 dX5_plainAround_143 (by decide) ?_
          obtain rfl := si1 hE
          exact r_sub (lv2 := [(0, .ref (hY X.2.1.2 + v0)), (2, .long v2), (4, .long v4), (6, .int v6), (7, .int v7), (8, .int v8), (9, .int (v9 + (1 : Int32)))]) [2, 3, 4, 5, 6, 7, 0] rfl (hC (v2, v4, (v9 + (1 : Int32))) rfl)
        · try simp only [if_neg (not_not_intro c)] at hE
          refine r_lload_n S dX5_plainAround_113 2 rfl ?_
          refine r_iload S dX5_plainAround_114 0 rfl ?_
          refine rc_I S (rn_SN S (c_LL_has _ _ (gYX S) v2 (fAtI (v0 + 3) v9 M) M _ rfl) wdX7_has q_338 ⟨Nat.le_of_ble_eq_true rfl, Nat.le_of_ble_eq_true rfl⟩ rfl (Nat.le_of_ble_eq_true rfl) dX5_plainAround_116) ?_
          refine r_if_ne S 140 dX5_plainAround_119 (by decide) (fun c => ?_) (fun c => ?_)
          · try simp only [if_pos c] at hE
            refine r_iinc (lv2 := [(9, .int (v9 + (1 : Int32))), (10, .int (fAtI (v0 + 3) v9 M)), (0, .ref (hY X.2.1.2 + v0)), (2, .long v2), (4, .long v4), (6, .int v6), (7, .int v7), (8, .int v8)]) S dX5_plainAround_140 (j := 7) rfl (by decide) rfl ?_
            refine r_goto S 63 dX5_plainAround_143 (by decide) ?_
            obtain rfl := si1 hE
            exact r_sub (lv2 := [(0, .ref (hY X.2.1.2 + v0)), (2, .long v2), (4, .long v4), (6, .int v6), (7, .int v7), (8, .int v8), (9, .int (v9 + (1 : Int32)))]) [2, 3, 4, 5, 6, 7, 0] rfl (hC (v2, v4, (v9 + (1 : Int32))) rfl)
          · try simp only [if_neg (not_not_intro c)] at hE
            refine r_lload_n S dX5_plainAround_122 2 rfl ?_
            refine r_iload S dX5_plainAround_123 0 rfl ?_
            refine rc_L S (rn_SN S (c_LL_bit _ _ (gYX S) (fAtI (v0 + 3) v9 M) M _ rfl) wdX7_bit q_331 ⟨Nat.le_of_ble_eq_true rfl, Nat.le_of_ble_eq_true rfl⟩ rfl (Nat.le_of_ble_eq_true rfl) dX5_plainAround_125) ?_
            refine r_lor S dX5_plainAround_128 ?_
            refine r_lstore_n (lv2 := [(2, .long (v2 ||| (LL_bit (fAtI (v0 + 3) v9 M)))), (10, .int (fAtI (v0 + 3) v9 M)), (0, .ref (hY X.2.1.2 + v0)), (4, .long v4), (6, .int v6), (7, .int v7), (8, .int v8), (9, .int v9)]) S dX5_plainAround_129 (by decide) rfl ?_
            refine r_lload S dX5_plainAround_130 3 rfl ?_
            refine r_iload S dX5_plainAround_132 1 rfl ?_
            refine rc_L S (rn_SN S (c_LL_bit _ _ (gYX S) (fAtI (v0 + 3) v9 M) M _ rfl) wdX7_bit q_331 ⟨Nat.le_of_ble_eq_true rfl, Nat.le_of_ble_eq_true rfl⟩ rfl (Nat.le_of_ble_eq_true rfl) dX5_plainAround_134) ?_
            refine r_lor S dX5_plainAround_137 ?_
            refine r_lstore (lv2 := [(4, .long (v4 ||| (LL_bit (fAtI (v0 + 3) v9 M)))), (2, .long (v2 ||| (LL_bit (fAtI (v0 + 3) v9 M)))), (10, .int (fAtI (v0 + 3) v9 M)), (0, .ref (hY X.2.1.2 + v0)), (6, .int v6), (7, .int v7), (8, .int v8), (9, .int v9)]) S dX5_plainAround_138 (by decide) rfl ?_
            refine r_iinc (lv2 := [(9, .int (v9 + (1 : Int32))), (4, .long (v4 ||| (LL_bit (fAtI (v0 + 3) v9 M)))), (2, .long (v2 ||| (LL_bit (fAtI (v0 + 3) v9 M)))), (10, .int (fAtI (v0 + 3) v9 M)), (0, .ref (hY X.2.1.2 + v0)), (6, .int v6), (7, .int v7), (8, .int v8)]) S dX5_plainAround_140 (j := 7) rfl (by decide) rfl ?_
            refine r_goto S 63 dX5_plainAround_143 (by decide) ?_
            obtain rfl := si1 hE
            exact r_sub (lv2 := [(0, .ref (hY X.2.1.2 + v0)), (2, .long (v2 ||| (LL_bit (fAtI (v0 + 3) v9 M)))), (4, .long (v4 ||| (LL_bit (fAtI (v0 + 3) v9 M)))), (6, .int v6), (7, .int v7), (8, .int v8), (9, .int (v9 + (1 : Int32)))]) [4, 2, 1, 5, 6, 7, 0] rfl (hC ((v2 ||| (LL_bit (fAtI (v0 + 3) v9 M))), (v4 ||| (LL_bit (fAtI (v0 + 3) v9 M))), (v9 + (1 : Int32))) rfl)
  have L11 : ∀ (v0 : Nat) (k0 : kC v0 = 0) (e : (Int64)), AW X 152 [(2, .long e)] [] M → ∀ (n : Nat) (s : Int64 × Int64 × Int32), lpR (fun s => WY_plainAround_L11 v0 s.1 s.2.1 s.2.2 M) n s = some e → AW X 11 [(0, .ref (hY X.2.1.2 + v0)), (2, .long s.1), (4, .long s.2.1), (6, .int s.2.2)] [] M := by
    intro v0 k0 e hX
    refine lpR_ind (P := fun (s : Int64 × Int64 × Int32) => AW X 11 [(0, .ref (hY X.2.1.2 + v0)), (2, .long s.1), (4, .long s.2.1), (6, .int s.2.2)] [] M) ?_
    rintro ⟨v2, v4, v6⟩ d hE hC hD
    replace hE : WY_plainAround_L11 v0 v2 v4 v6 M = some d := hE
    show AW X 11 [(0, .ref (hY X.2.1.2 + v0)), (2, .long v2), (4, .long v4), (6, .int v6)] [] M
    unfold WY_plainAround_L11 at hE
    refine r_iload S dX5_plainAround_11 3 rfl ?_
    refine r_bipush S (36 : Int32) dX5_plainAround_13 rfl ?_
    refine r_icmp_ge S 152 dX5_plainAround_15 (by decide) (fun c => ?_) (fun c => ?_)
    · rw [if_pos c] at hE
      obtain rfl := si1 hE
      rcases hD with h1 | ⟨_, h1⟩
      · obtain rfl := sir h1
        exact r_sub [1] rfl hX
      · exact (sil h1).elim
    · rw [if_neg c] at hE
      refine r_lload S dX5_plainAround_18 2 rfl ?_
      refine r_lconst S (0 : Int64) dX5_plainAround_20 rfl ?_
      refine r_lcmp_eq S 152 dX5_plainAround_21 dX5_plainAround_22 (by decide) (fun c => ?_) (fun c => ?_)
      · rw [if_pos c] at hE
        obtain rfl := si1 hE
        rcases hD with h1 | ⟨_, h1⟩
        · obtain rfl := sir h1
          exact r_sub [1] rfl hX
        · exact (sil h1).elim
      · rw [if_neg c] at hE
        refine r_lload S dX5_plainAround_25 2 rfl ?_
        refine rc_I S (rn_SN S (c_LL_lowestIn _ _ (gYX S) v4 M _ rfl) wdX7_lowestIn q_332 ⟨Nat.le_of_ble_eq_true rfl, Nat.le_of_ble_eq_true rfl⟩ rfl (Nat.le_of_ble_eq_true rfl) dX5_plainAround_27) ?_
        refine r_istore (lv2 := [(7, .int (LL_lowestIn v4)), (0, .ref (hY X.2.1.2 + v0)), (2, .long v2), (4, .long v4), (6, .int v6)]) S dX5_plainAround_30 (by decide) rfl ?_
        refine r_aload_n S dX5_plainAround_32 1 rfl ?_
        refine r_getRKN S fc0 k0 4 (v0 + 1) rfl rfl q_333 dX5_plainAround_33 ?_
        refine r_iload S dX5_plainAround_36 0 rfl ?_
        refine rc_I S (rn_V S fc3 (kk0_1 k0) (c_NR_at _ _ (gYX S) (v0 + 1) (kk0_1 k0) (LL_lowestIn v4) M _ rfl) wdX3_at q_334 ⟨Nat.le_of_ble_eq_true rfl, Nat.le_of_ble_eq_true rfl⟩ rfl (Nat.le_of_ble_eq_true rfl) dX5_plainAround_38) ?_
        refine r_istore (lv2 := [(8, .int (fAtI (v0 + 1) (LL_lowestIn v4) M)), (7, .int (LL_lowestIn v4)), (0, .ref (hY X.2.1.2 + v0)), (2, .long v2), (4, .long v4), (6, .int v6)]) S dX5_plainAround_41 (by decide) rfl ?_
        refine r_lload S dX5_plainAround_43 4 rfl ?_
        refine r_iload S dX5_plainAround_45 1 rfl ?_
        refine rc_L S (rn_SN S (c_LL_bit _ _ (gYX S) (LL_lowestIn v4) M _ rfl) wdX7_bit q_331 ⟨Nat.le_of_ble_eq_true rfl, Nat.le_of_ble_eq_true rfl⟩ rfl (Nat.le_of_ble_eq_true rfl) dX5_plainAround_47) ?_
        refine r_ldc2 S (v := -1) q_335 dX5_plainAround_50 ?_
        refine r_lxor S dX5_plainAround_53 ?_
        refine r_land S dX5_plainAround_54 ?_
        refine r_lstore (lv2 := [(4, .long (v4 &&& ((LL_bit (LL_lowestIn v4)) ^^^ (-1 : Int64)))), (8, .int (fAtI (v0 + 1) (LL_lowestIn v4) M)), (7, .int (LL_lowestIn v4)), (0, .ref (hY X.2.1.2 + v0)), (2, .long v2), (6, .int v6)]) S dX5_plainAround_55 (by decide) rfl ?_
        refine r_iconst S (4 : Int32) dX5_plainAround_57 rfl ?_
        refine r_iload S dX5_plainAround_58 2 rfl ?_
        refine r_imul S dX5_plainAround_60 ?_
        refine r_istore (lv2 := [(9, .int ((4 : Int32) * (LL_lowestIn v4))), (4, .long (v4 &&& ((LL_bit (LL_lowestIn v4)) ^^^ (-1 : Int64)))), (8, .int (fAtI (v0 + 1) (LL_lowestIn v4) M)), (7, .int (LL_lowestIn v4)), (0, .ref (hY X.2.1.2 + v0)), (2, .long v2), (6, .int v6)]) S dX5_plainAround_61 (by decide) rfl ?_
        obtain ⟨e1, h9, hE⟩ := b1_some hE
        refine r_sub [4, 5, 1, 6, 3, 2, 0] rfl (L63 v0 k0 v6 (LL_lowestIn v4) (fAtI (v0 + 1) (LL_lowestIn v4) M)  e1 ?_ _ _  h9)
        refine r_iinc (lv2 := [(6, .int (v6 + (1 : Int32))), (0, .ref (hY X.2.1.2 + v0)), (2, .long e1.1), (4, .long e1.2)]) S dX5_plainAround_146 (j := 3) rfl (by decide) rfl ?_
        refine r_goto S 11 dX5_plainAround_149 (by decide) ?_
        obtain rfl := si1 hE
        exact r_sub (lv2 := [(0, .ref (hY X.2.1.2 + v0)), (2, .long e1.1), (4, .long e1.2), (6, .int (v6 + (1 : Int32)))]) [1, 2, 3, 0] rfl (hC (e1.1, e1.2, (v6 + (1 : Int32))) rfl)
  unfold WY_plainAround at hE
  refine r_iload_n S dX5_plainAround_0 1 rfl ?_
  refine rc_L S (rn_SN S (c_LL_bit _ _ (gYX S) a1 M _ rfl) wdX7_bit q_331 ⟨Nat.le_of_ble_eq_true rfl, Nat.le_of_ble_eq_true rfl⟩ rfl (Nat.le_of_ble_eq_true rfl) dX5_plainAround_1) ?_
  refine r_lstore_n (lv2 := [(2, .long (LL_bit a1)), (0, .ref (hY X.2.1.2 + a0)), (1, .int a1)]) S dX5_plainAround_4 (by decide) rfl ?_
  refine r_lload_n S dX5_plainAround_5 0 rfl ?_
  refine r_lstore (lv2 := [(4, .long (LL_bit a1)), (2, .long (LL_bit a1)), (0, .ref (hY X.2.1.2 + a0)), (1, .int a1)]) S dX5_plainAround_6 (by decide) rfl ?_
  refine r_iconst S (0 : Int32) dX5_plainAround_8 rfl ?_
  refine r_istore (lv2 := [(6, .int (0 : Int32)), (4, .long (LL_bit a1)), (2, .long (LL_bit a1)), (0, .ref (hY X.2.1.2 + a0)), (1, .int a1)]) S dX5_plainAround_9 (by decide) rfl ?_
  obtain ⟨e1, h9, hE⟩ := b1_some hE
  refine r_sub [3, 2, 1, 0] rfl (L11 a0 k0  e1 ?_ _ _  h9)
  refine r_lload_n S dX5_plainAround_152 0 rfl ?_
  obtain rfl := si1 hE
  exact hret _ _ dX5_plainAround_153
set_option maxRecDepth 100000 in
set_option maxHeartbeats 4000000 in
theorem c_WY_lowerNeighbor (l : Launch) (Y : Env1) (hG : gY Y = gC) (a0 : Nat) (k0 : kC a0 = 0) (a1 : Int32) (M : Mem) (r : Int32) (hE : WY_lowerNeighbor a0 a1 M = some r) : CnI l Y yX5_lowerNeighbor cX5_lowerNeighbor 7 .int 1 [.ref (hY Y + a0), .int a1] M r M := by
  refine met_I (own := RX5) (by decide +kernel) rfl hG (Nat.le_of_ble_eq_true rfl) (fun X S hY1 hl1 hret => ?_)
  subst hY1
  subst hl1
  show AW X 0 [(0, .ref (hY X.2.1.2 + a0)), (1, .int a1)] [] M
  have L19 : ∀ (v0 : Nat) (k0 : kC v0 = 0) (v1 : Int32) (v3 : Int32) (e : (Int32)), AW X 87 [(2, .int e)] [] M → ∀ (n : Nat) (s : Int32 × Int32 × Int32), lpR (fun s => WY_lowerNeighbor_L19 v0 v1 v3 s.1 s.2.1 s.2.2 M) n s = some e → AW X 19 [(0, .ref (hY X.2.1.2 + v0)), (1, .int v1), (2, .int s.1), (3, .int v3), (4, .int s.2.1), (5, .int s.2.2)] [] M := by
    intro v0 k0 v1 v3 e hX
    refine lpR_ind (P := fun (s : Int32 × Int32 × Int32) => AW X 19 [(0, .ref (hY X.2.1.2 + v0)), (1, .int v1), (2, .int s.1), (3, .int v3), (4, .int s.2.1), (5, .int s.2.2)] [] M) ?_
    rintro ⟨v2, v4, v5⟩ d hE hC hD
    replace hE : WY_lowerNeighbor_L19 v0 v1 v3 v2 v4 v5 M = some d := hE
    show AW X 19 [(0, .ref (hY X.2.1.2 + v0)), (1, .int v1), (2, .int v2), (3, .int v3), (4, .int v4), (5, .int v5)] [] M
    unfold WY_lowerNeighbor_L19 at hE
    refine r_iload S dX5_lowerNeighbor_19 5 rfl ?_
    refine r_iconst S (4 : Int32) dX5_lowerNeighbor_21 rfl ?_
    refine r_iload_n S dX5_lowerNeighbor_22 1 rfl ?_
    refine r_imul S dX5_lowerNeighbor_23 ?_
    refine r_iconst S (4 : Int32) dX5_lowerNeighbor_24 rfl ?_
    refine r_iadd S dX5_lowerNeighbor_25 ?_
    refine r_icmp_ge S 87 dX5_lowerNeighbor_26 (by decide) (fun c => ?_) (fun c => ?_)
    · rw [if_pos c] at hE
      obtain rfl := si1 hE
      rcases hD with h1 | ⟨_, h1⟩
      · obtain rfl := sir h1
        exact r_sub [2] rfl hX
      · exact (sil h1).elim
    · rw [if_neg c] at hE
      refine r_aload_n S dX5_lowerNeighbor_29 0 rfl ?_
      refine r_getRKN S fc0 k0 5 (v0 + 3) rfl rfl q_336 dX5_lowerNeighbor_30 ?_
      refine r_iload S dX5_lowerNeighbor_33 5 rfl ?_
      refine rc_I S (rn_V S fc3 (kk0_3 k0) (c_NR_at _ _ (gYX S) (v0 + 3) (kk0_3 k0) v5 M _ rfl) wdX3_at q_334 ⟨Nat.le_of_ble_eq_true rfl, Nat.le_of_ble_eq_true rfl⟩ rfl (Nat.le_of_ble_eq_true rfl) dX5_lowerNeighbor_35) ?_
      refine r_istore (lv2 := [(6, .int (fAtI (v0 + 3) v5 M)), (0, .ref (hY X.2.1.2 + v0)), (1, .int v1), (2, .int v2), (3, .int v3), (4, .int v4), (5, .int v5)]) S dX5_lowerNeighbor_38 (by decide) rfl ?_
      refine r_aload_n S dX5_lowerNeighbor_40 1 rfl ?_
      refine r_getRKN S fc0 k0 7 (v0 + 7) rfl rfl q_337 dX5_lowerNeighbor_41 ?_
      refine r_iload S dX5_lowerNeighbor_44 6 rfl ?_
      refine rc_I S (rn_V S fc3 (kk0_7 k0) (c_NR_at _ _ (gYX S) (v0 + 7) (kk0_7 k0) v5 M _ rfl) wdX3_at q_334 ⟨Nat.le_of_ble_eq_true rfl, Nat.le_of_ble_eq_true rfl⟩ rfl (Nat.le_of_ble_eq_true rfl) dX5_lowerNeighbor_46) ?_
      refine r_iload_n S dX5_lowerNeighbor_49 4 rfl ?_
      refine r_icmp_ne S 81 dX5_lowerNeighbor_50 (by decide) (fun c => ?_) (fun c => ?_)
      · try simp only [if_pos c] at hE
        refine r_iinc (lv2 := [(5, .int (v5 + (1 : Int32))), (6, .int (fAtI (v0 + 3) v5 M)), (0, .ref (hY X.2.1.2 + v0)), (1, .int v1), (2, .int v2), (3, .int v3), (4, .int v4)]) S dX5_lowerNeighbor_81 (j := 6) rfl (by decide) rfl ?_
        refine r_goto S 19 dX5_lowerNeighbor_84 (by decide) ?_
        obtain rfl := si1 hE
        exact r_sub (lv2 := [(0, .ref (hY X.2.1.2 + v0)), (1, .int v1), (2, .int v2), (3, .int v3), (4, .int v4), (5, .int (v5 + (1 : Int32)))]) [2, 3, 4, 5, 6, 0] rfl (hC (v2, v4, (v5 + (1 : Int32))) rfl)
      · try simp only [if_neg (not_not_intro c)] at hE
        refine r_aload_n S dX5_lowerNeighbor_53 1 rfl ?_
        refine r_getRKN S fc0 k0 4 (v0 + 1) rfl rfl q_333 dX5_lowerNeighbor_54 ?_
        refine r_iload S dX5_lowerNeighbor_57 0 rfl ?_
        refine rc_I S (rn_V S fc3 (kk0_1 k0) (c_NR_at _ _ (gYX S) (v0 + 1) (kk0_1 k0) (fAtI (v0 + 3) v5 M) M _ rfl) wdX3_at q_334 ⟨Nat.le_of_ble_eq_true rfl, Nat.le_of_ble_eq_true rfl⟩ rfl (Nat.le_of_ble_eq_true rfl) dX5_lowerNeighbor_59) ?_
        refine r_iload S dX5_lowerNeighbor_62 5 rfl ?_
        refine r_icmp_ge S 81 dX5_lowerNeighbor_64 (by decide) (fun c => ?_) (fun c => ?_)
        · try simp only [if_pos c] at hE
          refine r_iinc (lv2 := [(5, .int (v5 + (1 : Int32))), (6, .int (fAtI (v0 + 3) v5 M)), (0, .ref (hY X.2.1.2 + v0)), (1, .int v1), (2, .int v2), (3, .int v3), (4, .int v4)]) S dX5_lowerNeighbor_81 (j := 6) rfl (by decide) rfl ?_
          refine r_goto S 19 dX5_lowerNeighbor_84 (by decide) ?_
          obtain rfl := si1 hE
          exact r_sub (lv2 := [(0, .ref (hY X.2.1.2 + v0)), (1, .int v1), (2, .int v2), (3, .int v3), (4, .int v4), (5, .int (v5 + (1 : Int32)))]) [2, 3, 4, 5, 6, 0] rfl (hC (v2, v4, (v5 + (1 : Int32))) rfl)
        · try simp only [if_neg c] at hE
          refine r_iload S dX5_lowerNeighbor_67 0 rfl ?_
          refine r_istore_n (lv2 := [(2, .int (fAtI (v0 + 3) v5 M)), (6, .int (fAtI (v0 + 3) v5 M)), (0, .ref (hY X.2.1.2 + v0)), (1, .int v1), (3, .int v3), (4, .int v4), (5, .int v5)]) S dX5_lowerNeighbor_69 (by decide) rfl ?_
          refine r_aload_n S dX5_lowerNeighbor_70 2 rfl ?_
          refine r_getRKN S fc0 k0 4 (v0 + 1) rfl rfl q_333 dX5_lowerNeighbor_71 ?_
          refine r_iload S dX5_lowerNeighbor_74 1 rfl ?_
          refine rc_I S (rn_V S fc3 (kk0_1 k0) (c_NR_at _ _ (gYX S) (v0 + 1) (kk0_1 k0) (fAtI (v0 + 3) v5 M) M _ rfl) wdX3_at q_334 ⟨Nat.le_of_ble_eq_true rfl, Nat.le_of_ble_eq_true rfl⟩ rfl (Nat.le_of_ble_eq_true rfl) dX5_lowerNeighbor_76) ?_
          refine r_istore (lv2 := [(4, .int (fAtI (v0 + 1) (fAtI (v0 + 3) v5 M) M)), (2, .int (fAtI (v0 + 3) v5 M)), (6, .int (fAtI (v0 + 3) v5 M)), (0, .ref (hY X.2.1.2 + v0)), (1, .int v1), (3, .int v3), (5, .int v5)]) S dX5_lowerNeighbor_79 (by decide) rfl ?_
          refine r_iinc (lv2 := [(5, .int (v5 + (1 : Int32))), (4, .int (fAtI (v0 + 1) (fAtI (v0 + 3) v5 M) M)), (2, .int (fAtI (v0 + 3) v5 M)), (6, .int (fAtI (v0 + 3) v5 M)), (0, .ref (hY X.2.1.2 + v0)), (1, .int v1), (3, .int v3)]) S dX5_lowerNeighbor_81 (j := 6) rfl (by decide) rfl ?_
          refine r_goto S 19 dX5_lowerNeighbor_84 (by decide) ?_
          obtain rfl := si1 hE
          exact r_sub (lv2 := [(0, .ref (hY X.2.1.2 + v0)), (1, .int v1), (2, .int (fAtI (v0 + 3) v5 M)), (3, .int v3), (4, .int (fAtI (v0 + 1) (fAtI (v0 + 3) v5 M) M)), (5, .int (v5 + (1 : Int32)))]) [4, 5, 2, 6, 1, 0] rfl (hC ((fAtI (v0 + 3) v5 M), (fAtI (v0 + 1) (fAtI (v0 + 3) v5 M) M), (v5 + (1 : Int32))) rfl)
  unfold WY_lowerNeighbor at hE
  refine r_iconst S (-1 : Int32) dX5_lowerNeighbor_0 rfl ?_
  refine r_istore_n (lv2 := [(2, .int (-1 : Int32)), (0, .ref (hY X.2.1.2 + a0)), (1, .int a1)]) S dX5_lowerNeighbor_1 (by decide) rfl ?_
  refine r_aload_n S dX5_lowerNeighbor_2 1 rfl ?_
  refine r_getRKN S fc0 k0 4 (a0 + 1) rfl rfl q_333 dX5_lowerNeighbor_3 ?_
  refine r_iload_n S dX5_lowerNeighbor_6 2 rfl ?_
  refine rc_I S (rn_V S fc3 (kk0_1 k0) (c_NR_at _ _ (gYX S) (a0 + 1) (kk0_1 k0) a1 M _ rfl) wdX3_at q_334 ⟨Nat.le_of_ble_eq_true rfl, Nat.le_of_ble_eq_true rfl⟩ rfl (Nat.le_of_ble_eq_true rfl) dX5_lowerNeighbor_7) ?_
  refine r_istore_n (lv2 := [(3, .int (fAtI (a0 + 1) a1 M)), (2, .int (-1 : Int32)), (0, .ref (hY X.2.1.2 + a0)), (1, .int a1)]) S dX5_lowerNeighbor_10 (by decide) rfl ?_
  refine r_iload_n S dX5_lowerNeighbor_11 0 rfl ?_
  refine r_istore (lv2 := [(4, .int (fAtI (a0 + 1) a1 M)), (3, .int (fAtI (a0 + 1) a1 M)), (2, .int (-1 : Int32)), (0, .ref (hY X.2.1.2 + a0)), (1, .int a1)]) S dX5_lowerNeighbor_12 (by decide) rfl ?_
  refine r_iconst S (4 : Int32) dX5_lowerNeighbor_14 rfl ?_
  refine r_iload_n S dX5_lowerNeighbor_15 4 rfl ?_
  refine r_imul S dX5_lowerNeighbor_16 ?_
  refine r_istore (lv2 := [(5, .int ((4 : Int32) * a1)), (4, .int (fAtI (a0 + 1) a1 M)), (3, .int (fAtI (a0 + 1) a1 M)), (2, .int (-1 : Int32)), (0, .ref (hY X.2.1.2 + a0)), (1, .int a1)]) S dX5_lowerNeighbor_17 (by decide) rfl ?_
  obtain ⟨e1, h9, hE⟩ := b1_some hE
  refine r_sub [4, 5, 3, 2, 1, 0] rfl (L19 a0 k0 a1 (fAtI (a0 + 1) a1 M)  e1 ?_ _ _  h9)
  refine r_iload_n S dX5_lowerNeighbor_87 0 rfl ?_
  obtain rfl := si1 hE
  exact hret _ _ dX5_lowerNeighbor_88
set_option maxRecDepth 100000 in
set_option maxHeartbeats 4000000 in
theorem c_WY_targetOf (l : Launch) (Y : Env1) (hG : gY Y = gC) (a0 : Nat) (k0 : kC a0 = 0) (a1 : Int64) (M : Mem) (r : Int32) (hE : WY_targetOf a0 a1 M = some r) : CnI l Y yX5_targetOf cX5_targetOf 5 .int 2 [.ref (hY Y + a0), .long a1] M r M := by
  refine met_I (own := RX5) (by decide +kernel) rfl hG (Nat.le_of_ble_eq_true rfl) (fun X S hY1 hl1 hret => ?_)
  subst hY1
  subst hl1
  show AW X 0 [(0, .ref (hY X.2.1.2 + a0)), (1, .long a1)] [] M
  have L18 : ∀ (v0 : Nat) (k0 : kC v0 = 0) (v1 : Int64) (e : (Int32)), AW X 54 [(3, .int e)] [] M → ∀ (n : Nat) (s : Int32 × Int32), lpR (fun s => WY_targetOf_L18 v0 v1 s.1 s.2 M) n s = some e → AW X 18 [(0, .ref (hY X.2.1.2 + v0)), (1, .long v1), (3, .int s.1), (4, .int s.2)] [] M := by
    intro v0 k0 v1 e hX
    refine lpR_ind (P := fun (s : Int32 × Int32) => AW X 18 [(0, .ref (hY X.2.1.2 + v0)), (1, .long v1), (3, .int s.1), (4, .int s.2)] [] M) ?_
    rintro ⟨v3, v4⟩ d hE hC hD
    replace hE : WY_targetOf_L18 v0 v1 v3 v4 M = some d := hE
    show AW X 18 [(0, .ref (hY X.2.1.2 + v0)), (1, .long v1), (3, .int v3), (4, .int v4)] [] M
    unfold WY_targetOf_L18 at hE
    refine r_iload S dX5_targetOf_18 3 rfl ?_
    refine r_aload_n S dX5_targetOf_20 0 rfl ?_
    refine r_getIN S fc0 k0 2 rfl q_340 dX5_targetOf_21 ?_
    refine r_icmp_ge S 54 dX5_targetOf_24 (by decide) (fun c => ?_) (fun c => ?_)
    · rw [if_pos c] at hE
      obtain rfl := si1 hE
      rcases hD with h1 | ⟨_, h1⟩
      · obtain rfl := sir h1
        exact r_sub [2] rfl hX
      · exact (sil h1).elim
    · rw [if_neg c] at hE
      refine r_iload_n S dX5_targetOf_27 2 rfl ?_
      refine r_iconst S (-1 : Int32) dX5_targetOf_28 rfl ?_
      refine r_icmp_ne S 54 dX5_targetOf_29 (by decide) (fun c => ?_) (fun c => ?_)
      · rw [if_pos c] at hE
        obtain rfl := si1 hE
        rcases hD with h1 | ⟨_, h1⟩
        · obtain rfl := sir h1
          exact r_sub [2] rfl hX
        · exact (sil h1).elim
      · rw [if_neg (not_not_intro c)] at hE
        refine r_lload_n S dX5_targetOf_32 1 rfl ?_
        refine r_iload S dX5_targetOf_33 3 rfl ?_
        refine rc_I S (rn_SN S (c_LL_has _ _ (gYX S) v1 v4 M _ rfl) wdX7_has q_338 ⟨Nat.le_of_ble_eq_true rfl, Nat.le_of_ble_eq_true rfl⟩ rfl (Nat.le_of_ble_eq_true rfl) dX5_targetOf_35) ?_
        refine r_if_eq S 48 dX5_targetOf_38 (by decide) (fun c => ?_) (fun c => ?_)
        · rw [if_pos c] at hE
          refine r_iinc (lv2 := [(4, .int (v4 + (1 : Int32))), (0, .ref (hY X.2.1.2 + v0)), (1, .long v1), (3, .int v3)]) S dX5_targetOf_48 (j := 3) rfl (by decide) rfl ?_
          refine r_goto S 18 dX5_targetOf_51 (by decide) ?_
          obtain rfl := si1 hE
          exact r_sub (lv2 := [(0, .ref (hY X.2.1.2 + v0)), (1, .long v1), (3, .int v3), (4, .int (v4 + (1 : Int32)))]) [1, 2, 3, 0] rfl (hC (v3, (v4 + (1 : Int32))) rfl)
        · rw [if_neg c] at hE
          refine r_aload_n S dX5_targetOf_41 0 rfl ?_
          refine r_iload S dX5_targetOf_42 3 rfl ?_
          obtain ⟨x1, h9, hE⟩ := b1_some hE
          refine rc_I S (rn_S S (c_WY_lowerNeighbor _ _ (gYX S) v0 k0 v4 M _ h9) wdX5_lowerNeighbor q_341 ⟨Nat.le_of_ble_eq_true rfl, Nat.le_of_ble_eq_true rfl⟩ rfl (Nat.le_of_ble_eq_true rfl) dX5_targetOf_44) ?_
          refine r_istore_n (lv2 := [(3, .int x1), (0, .ref (hY X.2.1.2 + v0)), (1, .long v1), (4, .int v4)]) S dX5_targetOf_47 (by decide) rfl ?_
          refine r_iinc (lv2 := [(4, .int (v4 + (1 : Int32))), (3, .int x1), (0, .ref (hY X.2.1.2 + v0)), (1, .long v1)]) S dX5_targetOf_48 (j := 3) rfl (by decide) rfl ?_
          refine r_goto S 18 dX5_targetOf_51 (by decide) ?_
          obtain rfl := si1 hE
          exact r_sub (lv2 := [(0, .ref (hY X.2.1.2 + v0)), (1, .long v1), (3, .int x1), (4, .int (v4 + (1 : Int32)))]) [2, 3, 1, 0] rfl (hC (x1, (v4 + (1 : Int32))) rfl)
  unfold WY_targetOf at hE
  refine r_lload_n S dX5_targetOf_0 1 rfl ?_
  refine r_aload_n S dX5_targetOf_1 0 rfl ?_
  refine r_getLN S fc0 k0 3 rfl q_339 dX5_targetOf_2 ?_
  refine r_land S dX5_targetOf_5 ?_
  refine r_lconst S (0 : Int64) dX5_targetOf_6 rfl ?_
  refine r_lcmp_eq S 13 dX5_targetOf_7 dX5_targetOf_8 (by decide) (fun c => ?_) (fun c => ?_)
  · rw [if_pos c] at hE
    refine r_iconst S (-1 : Int32) dX5_targetOf_13 rfl ?_
    refine r_istore_n (lv2 := [(3, .int (-1 : Int32)), (0, .ref (hY X.2.1.2 + a0)), (1, .long a1)]) S dX5_targetOf_14 (by decide) rfl ?_
    refine r_iconst S (0 : Int32) dX5_targetOf_15 rfl ?_
    refine r_istore (lv2 := [(4, .int (0 : Int32)), (3, .int (-1 : Int32)), (0, .ref (hY X.2.1.2 + a0)), (1, .long a1)]) S dX5_targetOf_16 (by decide) rfl ?_
    obtain ⟨e1, h9, hE⟩ := b1_some hE
    refine r_sub [2, 3, 1, 0] rfl (L18 a0 k0 a1  e1 ?_ _ _  h9)
    refine r_iload_n S dX5_targetOf_54 0 rfl ?_
    obtain rfl := si1 hE
    exact hret _ _ dX5_targetOf_55
  · rw [if_neg c] at hE
    refine r_iconst S (-1 : Int32) dX5_targetOf_11 rfl ?_
    obtain rfl := si1 hE
    exact hret _ _ dX5_targetOf_12
set_option maxRecDepth 100000 in
set_option maxHeartbeats 4000000 in
theorem c_WY_markPlain (l : Launch) (Y : Env1) (hG : gY Y = gC) (o : Nat) (ho : kC o = 5) (a1 : Int64) (a3 : Int32) (M : Mem) (r : Unit) (M1 : Mem) (hE : WY_markPlain o a1 a3 M = some (r, M1)) : CnV l Y yX5_markPlain cX5_markPlain 5 1 [.ref (hY Y + o), .long a1, .int a3] M M1 := by
  refine met_V (own := RX5) (by decide +kernel) rfl hG (Nat.le_of_ble_eq_true rfl) (fun X S hY1 hl1 hret => ?_)
  subst hY1
  subst hl1
  show AW X 0 [(0, .ref (hY X.2.1.2 + o)), (1, .long a1), (3, .int a3)] [] M
  have L3 : ∀ (v0 : Nat) (k0 : kC v0 = 5) (v1 : Int64) (v3 : Int32) (e : (Unit)) (M2 : Mem), AW X 45 [] [] M2 → ∀ (n : Nat) (s : Int32) (M : Mem), lpM (fun s M => WY_markPlain_L3 v0 v1 v3 s M) n s M = some (e, M2) → AW X 3 [(0, .ref (hY X.2.1.2 + v0)), (1, .long v1), (3, .int v3), (4, .int s)] [] M := by
    intro v0 k0 v1 v3 e M2 hX
    refine lpM_ind (P := fun (s : Int32) (M : Mem) => AW X 3 [(0, .ref (hY X.2.1.2 + v0)), (1, .long v1), (3, .int v3), (4, .int s)] [] M) ?_
    rintro v4 M d M3 hE hC hD
    replace hE : WY_markPlain_L3 v0 v1 v3 v4 M = some (d, M3) := hE
    show AW X 3 [(0, .ref (hY X.2.1.2 + v0)), (1, .long v1), (3, .int v3), (4, .int v4)] [] M
    unfold WY_markPlain_L3 at hE
    refine r_iload S dX5_markPlain_3 3 rfl ?_
    refine r_bipush S (36 : Int32) dX5_markPlain_5 rfl ?_
    refine r_icmp_ge S 45 dX5_markPlain_7 (by decide) (fun c => ?_) (fun c => ?_)
    · rw [if_pos c] at hE
      obtain ⟨rfl, rfl⟩ := si2 hE
      rcases hD with ⟨h1, h2⟩ | ⟨_, h1⟩
      · obtain rfl := sir h1
        subst h2
        exact r_sub [] rfl hX
      · exact (sil h1).elim
    · rw [if_neg c] at hE
      refine r_lload_n S dX5_markPlain_10 1 rfl ?_
      refine r_iload S dX5_markPlain_11 3 rfl ?_
      refine rc_I S (rn_SN S (c_LL_has _ _ (gYX S) v1 v4 M _ rfl) wdX7_has q_338 ⟨Nat.le_of_ble_eq_true rfl, Nat.le_of_ble_eq_true rfl⟩ rfl (Nat.le_of_ble_eq_true rfl) dX5_markPlain_13) ?_
      refine r_if_eq S 39 dX5_markPlain_16 (by decide) (fun c => ?_) (fun c => ?_)
      · rw [if_pos c] at hE
        refine r_iinc (lv2 := [(4, .int (v4 + (1 : Int32))), (0, .ref (hY X.2.1.2 + v0)), (1, .long v1), (3, .int v3)]) S dX5_markPlain_39 (j := 3) rfl (by decide) rfl ?_
        refine r_goto S 3 dX5_markPlain_42 (by decide) ?_
        obtain ⟨rfl, rfl⟩ := si2 hE
        exact r_sub (lv2 := [(0, .ref (hY X.2.1.2 + v0)), (1, .long v1), (3, .int v3), (4, .int (v4 + (1 : Int32)))]) [1, 2, 3, 0] rfl (hC (v4 + (1 : Int32)) rfl)
      · rw [if_neg c] at hE
        refine r_aload_n S dX5_markPlain_19 0 rfl ?_
        refine r_getRK S fc5 k0 1 (v0 + 1) rfl rfl q_109 dX5_markPlain_20 ?_
        refine r_iload S dX5_markPlain_23 3 rfl ?_
        refine r_lload_n S dX5_markPlain_25 1 rfl ?_
        refine rc_V S (rn_V S fc4 (kk5_1 k0) (c_SR_put _ _ (gYX S) (v0 + 1) (kk5_1 k0) v4 v1 M _ rfl) wdX4_put q_345 ⟨Nat.le_of_ble_eq_true rfl, Nat.le_of_ble_eq_true rfl⟩ rfl (Nat.le_of_ble_eq_true rfl) dX5_markPlain_26) ?_
        refine r_aload_n S dX5_markPlain_29 0 rfl ?_
        refine r_getRK S fc5 k0 2 (v0 + 3) rfl rfl q_115 dX5_markPlain_30 ?_
        refine r_iload S dX5_markPlain_33 3 rfl ?_
        refine r_iload_n S dX5_markPlain_35 2 rfl ?_
        refine rc_V S (rn_V S fc3 (kk5_3 k0) (c_NR_put _ _ (gYX S) (v0 + 3) (kk5_3 k0) v4 v3 (fPutL (v0 + 1) v4 v1 M) _ rfl) wdX3_put q_346 ⟨Nat.le_of_ble_eq_true rfl, Nat.le_of_ble_eq_true rfl⟩ rfl (Nat.le_of_ble_eq_true rfl) dX5_markPlain_36) ?_
        refine r_iinc (lv2 := [(4, .int (v4 + (1 : Int32))), (0, .ref (hY X.2.1.2 + v0)), (1, .long v1), (3, .int v3)]) S dX5_markPlain_39 (j := 3) rfl (by decide) rfl ?_
        refine r_goto S 3 dX5_markPlain_42 (by decide) ?_
        obtain ⟨rfl, rfl⟩ := si2 hE
        exact r_sub (lv2 := [(0, .ref (hY X.2.1.2 + v0)), (1, .long v1), (3, .int v3), (4, .int (v4 + (1 : Int32)))]) [1, 2, 3, 0] rfl (hC (v4 + (1 : Int32)) rfl)
  unfold WY_markPlain at hE
  refine r_iconst S (0 : Int32) dX5_markPlain_0 rfl ?_
  refine r_istore (lv2 := [(4, .int (0 : Int32)), (0, .ref (hY X.2.1.2 + o)), (1, .long a1), (3, .int a3)]) S dX5_markPlain_1 (by decide) rfl ?_
  obtain ⟨e1, M2, h9, hE⟩ := b2_some hE
  refine r_sub [1, 2, 3, 0] rfl (L3 o ho a1 a3  e1 M2 ?_ _ _ M h9)
  obtain ⟨rfl, rfl⟩ := si2 hE
  exact hret _ _ dX5_markPlain_45
set_option maxRecDepth 100000 in
set_option maxHeartbeats 4000000 in
theorem c_WY_numberPits (l : Launch) (Y : Env1) (hG : gY Y = gC) (o : Nat) (ho : kC o = 5) (a1 : Nat) (k1 : kC a1 = 0) (M : Mem) (r : Unit) (M1 : Mem) (hE : WY_numberPits o a1 M = some (r, M1)) : CnV l Y yX5_numberPits cX5_numberPits 6 2 [.ref (hY Y + o), .ref (hY Y + a1)] M M1 := by
  refine met_V (own := RX5) (by decide +kernel) rfl hG (Nat.le_of_ble_eq_true rfl) (fun X S hY1 hl1 hret => ?_)
  subst hY1
  subst hl1
  show AW X 0 [(0, .ref (hY X.2.1.2 + o)), (1, .ref (hY X.2.1.2 + a1))] [] M
  have L15 : ∀ (v0 : Nat) (k0 : kC v0 = 5) (v1 : Nat) (k1 : kC v1 = 0) (e : (Unit)) (M2 : Mem), AW X 117 [] [] M2 → ∀ (n : Nat) (s : Int32) (M : Mem), lpM (fun s M => WY_numberPits_L15 v0 v1 s M) n s M = some (e, M2) → AW X 15 [(0, .ref (hY X.2.1.2 + v0)), (1, .ref (hY X.2.1.2 + v1)), (2, .int s)] [] M := by
    intro v0 k0 v1 k1 e M2 hX
    refine lpM_ind (P := fun (s : Int32) (M : Mem) => AW X 15 [(0, .ref (hY X.2.1.2 + v0)), (1, .ref (hY X.2.1.2 + v1)), (2, .int s)] [] M) ?_
    rintro v2 M d M3 hE hC hD
    replace hE : WY_numberPits_L15 v0 v1 v2 M = some (d, M3) := hE
    show AW X 15 [(0, .ref (hY X.2.1.2 + v0)), (1, .ref (hY X.2.1.2 + v1)), (2, .int v2)] [] M
    have J88 : ∀ (v2 : Int32) (v5 : Int32) (t0 : Int32) (t1 : Int32) (t2 : Nat) (kt2 : kC t2 = 3) (M : Mem), WY_numberPits_L15_J88 v0 v1 v2 v5 t0 t1 t2 M = some (d, M3) → AW X 88 [(0, .ref (hY X.2.1.2 + v0)), (1, .ref (hY X.2.1.2 + v1)), (2, .int v2), (5, .int v5)] [.int t0, .int t1, .ref (hY X.2.1.2 + t2)] M := by
      intro v2 v5 t0 t1 t2 kt2 M hE
      unfold WY_numberPits_L15_J88 at hE
      refine rc_V S (rn_V S fc3 kt2 (c_NR_put _ _ (gYX S) t2 kt2 t1 t0 M _ rfl) wdX3_put q_346 ⟨Nat.le_of_ble_eq_true rfl, Nat.le_of_ble_eq_true rfl⟩ rfl (Nat.le_of_ble_eq_true rfl) dX5_numberPits_88) ?_
      refine r_aload_n S dX5_numberPits_91 0 rfl ?_
      refine r_dup S dX5_numberPits_92 rfl ?_
      refine r_getI S fc5 k0 0 rfl q_108 dX5_numberPits_93 ?_
      refine r_iload S dX5_numberPits_96 3 rfl ?_
      refine r_iload_n S dX5_numberPits_98 2 rfl ?_
      refine r_icmp_ne S 106 dX5_numberPits_99 (by decide) (fun c => ?_) (fun c => ?_)
      · try simp only [if_pos c] at hE
        refine r_iconst S (0 : Int32) dX5_numberPits_106 rfl ?_
        refine r_iadd S dX5_numberPits_107 ?_
        refine r_putI S fc5 k0 0 rfl rfl (by decide +kernel) q_108 dX5_numberPits_108 ?_
        refine r_iinc (lv2 := [(2, .int (v2 + (1 : Int32))), (0, .ref (hY X.2.1.2 + v0)), (1, .ref (hY X.2.1.2 + v1)), (5, .int v5)]) S dX5_numberPits_111 (j := 2) rfl (by decide) rfl ?_
        refine r_goto S 15 dX5_numberPits_114 (by decide) ?_
        obtain ⟨rfl, rfl⟩ := si2 hE
        exact r_sub (lv2 := [(0, .ref (hY X.2.1.2 + v0)), (1, .ref (hY X.2.1.2 + v1)), (2, .int (v2 + (1 : Int32)))]) [1, 2, 0] rfl (hC (v2 + (1 : Int32)) rfl)
      · try simp only [if_neg (not_not_intro c)] at hE
        refine r_iconst S (1 : Int32) dX5_numberPits_102 rfl ?_
        refine r_goto S 107 dX5_numberPits_103 (by decide) ?_
        refine r_iadd S dX5_numberPits_107 ?_
        refine r_putI S fc5 k0 0 rfl rfl (by decide +kernel) q_108 dX5_numberPits_108 ?_
        refine r_iinc (lv2 := [(2, .int (v2 + (1 : Int32))), (0, .ref (hY X.2.1.2 + v0)), (1, .ref (hY X.2.1.2 + v1)), (5, .int v5)]) S dX5_numberPits_111 (j := 2) rfl (by decide) rfl ?_
        refine r_goto S 15 dX5_numberPits_114 (by decide) ?_
        obtain ⟨rfl, rfl⟩ := si2 hE
        exact r_sub (lv2 := [(0, .ref (hY X.2.1.2 + v0)), (1, .ref (hY X.2.1.2 + v1)), (2, .int (v2 + (1 : Int32)))]) [1, 2, 0] rfl (hC (v2 + (1 : Int32)) rfl)
    unfold WY_numberPits_L15 at hE
    refine r_iload_n S dX5_numberPits_15 2 rfl ?_
    refine r_aload_n S dX5_numberPits_16 1 rfl ?_
    refine r_getIN S fc0 k1 2 rfl q_340 dX5_numberPits_17 ?_
    refine r_icmp_ge S 117 dX5_numberPits_20 (by decide) (fun c => ?_) (fun c => ?_)
    · rw [if_pos c] at hE
      obtain ⟨rfl, rfl⟩ := si2 hE
      rcases hD with ⟨h1, h2⟩ | ⟨_, h1⟩
      · obtain rfl := sir h1
        subst h2
        exact r_sub [] rfl hX
      · exact (sil h1).elim
    · rw [if_neg c] at hE
      refine r_aload_n S dX5_numberPits_23 0 rfl ?_
      refine r_getRK S fc5 k0 1 (v0 + 1) rfl rfl q_109 dX5_numberPits_24 ?_
      refine r_iload_n S dX5_numberPits_27 2 rfl ?_
      refine rc_L S (rn_V S fc4 (kk5_1 k0) (c_SR_at _ _ (gYX S) (v0 + 1) (kk5_1 k0) v2 M _ rfl) wdX4_at q_348 ⟨Nat.le_of_ble_eq_true rfl, Nat.le_of_ble_eq_true rfl⟩ rfl (Nat.le_of_ble_eq_true rfl) dX5_numberPits_28) ?_
      refine r_lstore_n (lv2 := [(3, .long (fAtL (v0 + 1) v2 M)), (0, .ref (hY X.2.1.2 + v0)), (1, .ref (hY X.2.1.2 + v1)), (2, .int v2)]) S dX5_numberPits_31 (by decide) rfl ?_
      refine r_aload_n S dX5_numberPits_32 1 rfl ?_
      refine r_getRK S fc5 k0 2 (v0 + 3) rfl rfl q_115 dX5_numberPits_33 ?_
      refine r_iload_n S dX5_numberPits_36 3 rfl ?_
      refine rc_I S (rn_V S fc3 (kk5_3 k0) (c_NR_at _ _ (gYX S) (v0 + 3) (kk5_3 k0) v2 M _ rfl) wdX3_at q_334 ⟨Nat.le_of_ble_eq_true rfl, Nat.le_of_ble_eq_true rfl⟩ rfl (Nat.le_of_ble_eq_true rfl) dX5_numberPits_37) ?_
      refine r_iconst S (-1 : Int32) dX5_numberPits_40 rfl ?_
      refine r_icmp_ne S 111 dX5_numberPits_41 (by decide) (fun c => ?_) (fun c => ?_)
      · rw [if_pos c] at hE
        refine r_iinc (lv2 := [(2, .int (v2 + (1 : Int32))), (3, .long (fAtL (v0 + 1) v2 M)), (0, .ref (hY X.2.1.2 + v0)), (1, .ref (hY X.2.1.2 + v1))]) S dX5_numberPits_111 (j := 3) rfl (by decide) rfl ?_
        refine r_goto S 15 dX5_numberPits_114 (by decide) ?_
        obtain ⟨rfl, rfl⟩ := si2 hE
        exact r_sub (lv2 := [(0, .ref (hY X.2.1.2 + v0)), (1, .ref (hY X.2.1.2 + v1)), (2, .int (v2 + (1 : Int32)))]) [2, 3, 0] rfl (hC (v2 + (1 : Int32)) rfl)
      · rw [if_neg (not_not_intro c)] at hE
        refine r_lload_n S dX5_numberPits_44 0 rfl ?_
        refine r_aload_n S dX5_numberPits_45 2 rfl ?_
        refine r_getLN S fc0 k1 3 rfl q_339 dX5_numberPits_46 ?_
        refine r_land S dX5_numberPits_49 ?_
        refine r_lconst S (0 : Int64) dX5_numberPits_50 rfl ?_
        refine r_lcmp_ne S 111 dX5_numberPits_51 dX5_numberPits_52 (by decide) (fun c => ?_) (fun c => ?_)
        · rw [if_pos c] at hE
          refine r_iinc (lv2 := [(2, .int (v2 + (1 : Int32))), (3, .long (fAtL (v0 + 1) v2 M)), (0, .ref (hY X.2.1.2 + v0)), (1, .ref (hY X.2.1.2 + v1))]) S dX5_numberPits_111 (j := 3) rfl (by decide) rfl ?_
          refine r_goto S 15 dX5_numberPits_114 (by decide) ?_
          obtain ⟨rfl, rfl⟩ := si2 hE
          exact r_sub (lv2 := [(0, .ref (hY X.2.1.2 + v0)), (1, .ref (hY X.2.1.2 + v1)), (2, .int (v2 + (1 : Int32)))]) [2, 3, 0] rfl (hC (v2 + (1 : Int32)) rfl)
        · rw [if_neg (not_not_intro c)] at hE
          refine r_lload_n S dX5_numberPits_55 0 rfl ?_
          refine rc_I S (rn_SN S (c_LL_lowestIn _ _ (gYX S) (fAtL (v0 + 1) v2 M) M _ rfl) wdX7_lowestIn q_332 ⟨Nat.le_of_ble_eq_true rfl, Nat.le_of_ble_eq_true rfl⟩ rfl (Nat.le_of_ble_eq_true rfl) dX5_numberPits_56) ?_
          refine r_istore (lv2 := [(5, .int (LL_lowestIn (fAtL (v0 + 1) v2 M))), (3, .long (fAtL (v0 + 1) v2 M)), (0, .ref (hY X.2.1.2 + v0)), (1, .ref (hY X.2.1.2 + v1)), (2, .int v2)]) S dX5_numberPits_59 (by decide) rfl ?_
          refine r_aload_n S dX5_numberPits_61 2 rfl ?_
          refine r_getRK S fc5 k0 3 (v0 + 5) rfl rfl q_117 dX5_numberPits_62 ?_
          refine r_iload_n S dX5_numberPits_65 4 rfl ?_
          refine r_iload S dX5_numberPits_66 0 rfl ?_
          refine r_iload_n S dX5_numberPits_68 4 rfl ?_
          refine r_icmp_ne S 79 dX5_numberPits_69 (by decide) (fun c => ?_) (fun c => ?_)
          · try simp only [if_pos c] at hE
            refine r_aload_n S dX5_numberPits_79 2 rfl ?_
            refine r_getRK S fc5 k0 3 (v0 + 5) rfl rfl q_117 dX5_numberPits_80 ?_
            refine r_iload S dX5_numberPits_83 0 rfl ?_
            refine rc_I S (rn_V S fc3 (kk5_5 k0) (c_NR_at _ _ (gYX S) (v0 + 5) (kk5_5 k0) (LL_lowestIn (fAtL (v0 + 1) v2 M)) M _ rfl) wdX3_at q_334 ⟨Nat.le_of_ble_eq_true rfl, Nat.le_of_ble_eq_true rfl⟩ rfl (Nat.le_of_ble_eq_true rfl) dX5_numberPits_85) ?_
            exact r_sub [2, 3, 4, 0] rfl (J88 v2 (LL_lowestIn (fAtL (v0 + 1) v2 M)) (fAtI (v0 + 5) (LL_lowestIn (fAtL (v0 + 1) v2 M)) M) v2 (v0 + 5) (kk5_5 k0) M hE)
          · try simp only [if_neg (not_not_intro c)] at hE
            refine r_aload_n S dX5_numberPits_72 2 rfl ?_
            refine r_getI S fc5 k0 0 rfl q_108 dX5_numberPits_73 ?_
            refine r_goto S 88 dX5_numberPits_76 (by decide) ?_
            exact r_sub [2, 3, 4, 0] rfl (J88 v2 (LL_lowestIn (fAtL (v0 + 1) v2 M)) (gI M v0 0) v2 (v0 + 5) (kk5_5 k0) M hE)
  unfold WY_numberPits at hE
  refine r_aload_n S dX5_numberPits_0 0 rfl ?_
  refine r_iconst S (0 : Int32) dX5_numberPits_1 rfl ?_
  refine r_putI S fc5 ho 0 rfl rfl (by decide +kernel) q_108 dX5_numberPits_2 ?_
  refine r_aload_n S dX5_numberPits_5 0 rfl ?_
  refine r_getRK S fc5 ho 3 (o + 5) rfl rfl q_117 dX5_numberPits_6 ?_
  refine r_iconst S (-1 : Int32) dX5_numberPits_9 rfl ?_
  refine rc_V S (rn_V S fc3 (kk5_5 ho) (c_NR_fill _ _ (gYX S) (o + 5) (kk5_5 ho) (-1 : Int32) (sI M o 0 (0 : Int32)) _ rfl) wdX3_fill q_347 ⟨Nat.le_of_ble_eq_true rfl, Nat.le_of_ble_eq_true rfl⟩ rfl (Nat.le_of_ble_eq_true rfl) dX5_numberPits_10) ?_
  refine r_iconst S (0 : Int32) dX5_numberPits_13 rfl ?_
  refine r_istore_n (lv2 := [(2, .int (0 : Int32)), (0, .ref (hY X.2.1.2 + o)), (1, .ref (hY X.2.1.2 + a1))]) S dX5_numberPits_14 (by decide) rfl ?_
  obtain ⟨e1, M2, h9, hE⟩ := b2_some hE
  refine r_sub [1, 2, 0] rfl (L15 o ho a1 k1  e1 M2 ?_ _ _ (fFillI (o + 5) (-1 : Int32) (sI M o 0 (0 : Int32))) h9)
  obtain ⟨rfl, rfl⟩ := si2 hE
  exact hret _ _ dX5_numberPits_117
set_option maxRecDepth 100000 in
set_option maxHeartbeats 4000000 in
theorem c_WY_endOf (l : Launch) (Y : Env1) (hG : gY Y = gC) (o : Nat) (ho : kC o = 5) (a1 : Int32) (M : Mem) (r : Int32) (hE : WY_endOf o a1 M = some r) : CnI l Y yX5_endOf cX5_endOf 4 .int 1 [.ref (hY Y + o), .int a1] M r M := by
  refine met_I (own := RX5) (by decide +kernel) rfl hG (Nat.le_of_ble_eq_true rfl) (fun X S hY1 hl1 hret => ?_)
  subst hY1
  subst hl1
  show AW X 0 [(0, .ref (hY X.2.1.2 + o)), (1, .int a1)] [] M
  have L4 : ∀ (v0 : Nat) (k0 : kC v0 = 5) (e : (Int32)), AW X 37 [(2, .int e)] [] M → ∀ (n : Nat) (s : Int32 × Int32), lpR (fun s => WY_endOf_L4 v0 s.1 s.2 M) n s = some e → AW X 4 [(0, .ref (hY X.2.1.2 + v0)), (2, .int s.1), (3, .int s.2)] [] M := by
    intro v0 k0 e hX
    refine lpR_ind (P := fun (s : Int32 × Int32) => AW X 4 [(0, .ref (hY X.2.1.2 + v0)), (2, .int s.1), (3, .int s.2)] [] M) ?_
    rintro ⟨v2, v3⟩ d hE hC hD
    replace hE : WY_endOf_L4 v0 v2 v3 M = some d := hE
    show AW X 4 [(0, .ref (hY X.2.1.2 + v0)), (2, .int v2), (3, .int v3)] [] M
    unfold WY_endOf_L4 at hE
    refine r_iload_n S dX5_endOf_4 2 rfl ?_
    refine r_bipush S (36 : Int32) dX5_endOf_5 rfl ?_
    refine r_icmp_ge S 37 dX5_endOf_7 (by decide) (fun c => ?_) (fun c => ?_)
    · rw [if_pos c] at hE
      obtain rfl := si1 hE
      rcases hD with h1 | ⟨_, h1⟩
      · obtain rfl := sir h1
        exact r_sub [1] rfl hX
      · exact (sil h1).elim
    · rw [if_neg c] at hE
      refine r_aload_n S dX5_endOf_10 0 rfl ?_
      refine r_getRK S fc5 k0 2 (v0 + 3) rfl rfl q_115 dX5_endOf_11 ?_
      refine r_iload_n S dX5_endOf_14 1 rfl ?_
      refine rc_I S (rn_V S fc3 (kk5_3 k0) (c_NR_at _ _ (gYX S) (v0 + 3) (kk5_3 k0) v2 M _ rfl) wdX3_at q_334 ⟨Nat.le_of_ble_eq_true rfl, Nat.le_of_ble_eq_true rfl⟩ rfl (Nat.le_of_ble_eq_true rfl) dX5_endOf_15) ?_
      refine r_iconst S (-1 : Int32) dX5_endOf_18 rfl ?_
      refine r_icmp_eq S 37 dX5_endOf_19 (by decide) (fun c => ?_) (fun c => ?_)
      · rw [if_pos c] at hE
        obtain rfl := si1 hE
        rcases hD with h1 | ⟨_, h1⟩
        · obtain rfl := sir h1
          exact r_sub [1] rfl hX
        · exact (sil h1).elim
      · rw [if_neg c] at hE
        refine r_aload_n S dX5_endOf_22 0 rfl ?_
        refine r_getRK S fc5 k0 2 (v0 + 3) rfl rfl q_115 dX5_endOf_23 ?_
        refine r_iload_n S dX5_endOf_26 1 rfl ?_
        refine rc_I S (rn_V S fc3 (kk5_3 k0) (c_NR_at _ _ (gYX S) (v0 + 3) (kk5_3 k0) v2 M _ rfl) wdX3_at q_334 ⟨Nat.le_of_ble_eq_true rfl, Nat.le_of_ble_eq_true rfl⟩ rfl (Nat.le_of_ble_eq_true rfl) dX5_endOf_27) ?_
        refine r_istore_n (lv2 := [(2, .int (fAtI (v0 + 3) v2 M)), (0, .ref (hY X.2.1.2 + v0)), (3, .int v3)]) S dX5_endOf_30 (by decide) rfl ?_
        refine r_iinc (lv2 := [(3, .int (v3 + (1 : Int32))), (2, .int (fAtI (v0 + 3) v2 M)), (0, .ref (hY X.2.1.2 + v0))]) S dX5_endOf_31 (j := 2) rfl (by decide) rfl ?_
        refine r_goto S 4 dX5_endOf_34 (by decide) ?_
        obtain rfl := si1 hE
        exact r_sub (lv2 := [(0, .ref (hY X.2.1.2 + v0)), (2, .int (fAtI (v0 + 3) v2 M)), (3, .int (v3 + (1 : Int32)))]) [2, 1, 0] rfl (hC ((fAtI (v0 + 3) v2 M), (v3 + (1 : Int32))) rfl)
  unfold WY_endOf at hE
  refine r_iload_n S dX5_endOf_0 1 rfl ?_
  refine r_istore_n (lv2 := [(2, .int a1), (0, .ref (hY X.2.1.2 + o)), (1, .int a1)]) S dX5_endOf_1 (by decide) rfl ?_
  refine r_iconst S (0 : Int32) dX5_endOf_2 rfl ?_
  refine r_istore_n (lv2 := [(3, .int (0 : Int32)), (2, .int a1), (0, .ref (hY X.2.1.2 + o)), (1, .int a1)]) S dX5_endOf_3 (by decide) rfl ?_
  obtain ⟨e1, h9, hE⟩ := b1_some hE
  refine r_sub [2, 1, 0] rfl (L4 o ho  e1 ?_ _ _  h9)
  refine r_iload_n S dX5_endOf_37 0 rfl ?_
  obtain rfl := si1 hE
  exact hret _ _ dX5_endOf_38
set_option maxRecDepth 100000 in
set_option maxHeartbeats 4000000 in
theorem c_WY_find (l : Launch) (Y : Env1) (hG : gY Y = gC) (o : Nat) (ho : kC o = 5) (a1 : Nat) (k1 : kC a1 = 0) (M : Mem) (r : Unit) (M1 : Mem) (hE : WY_find o a1 M = some (r, M1)) : CnV l Y yX5_find cX5_find 5 3 [.ref (hY Y + o), .ref (hY Y + a1)] M M1 := by
  refine met_V (own := RX5) (by decide +kernel) rfl hG (Nat.le_of_ble_eq_true rfl) (fun X S hY1 hl1 hret => ?_)
  subst hY1
  subst hl1
  show AW X 0 [(0, .ref (hY X.2.1.2 + o)), (1, .ref (hY X.2.1.2 + a1))] [] M
  have L60 : ∀ (v0 : Nat) (k0 : kC v0 = 5) (v1 : Nat) (k1 : kC v1 = 0) (e : (Unit)) (M2 : Mem), AW X 94 [] [] M2 → ∀ (n : Nat) (s : Int32) (M : Mem), lpM (fun s M => WY_find_L60 v0 v1 s M) n s M = some (e, M2) → AW X 60 [(0, .ref (hY X.2.1.2 + v0)), (1, .ref (hY X.2.1.2 + v1)), (2, .int s)] [] M := by
    intro v0 k0 v1 k1 e M2 hX
    refine lpM_ind (P := fun (s : Int32) (M : Mem) => AW X 60 [(0, .ref (hY X.2.1.2 + v0)), (1, .ref (hY X.2.1.2 + v1)), (2, .int s)] [] M) ?_
    rintro v2 M d M3 hE hC hD
    replace hE : WY_find_L60 v0 v1 v2 M = some (d, M3) := hE
    show AW X 60 [(0, .ref (hY X.2.1.2 + v0)), (1, .ref (hY X.2.1.2 + v1)), (2, .int v2)] [] M
    unfold WY_find_L60 at hE
    refine r_iload_n S dX5_find_60 2 rfl ?_
    refine r_aload_n S dX5_find_61 1 rfl ?_
    refine r_getIN S fc0 k1 2 rfl q_340 dX5_find_62 ?_
    refine r_icmp_ge S 94 dX5_find_65 (by decide) (fun c => ?_) (fun c => ?_)
    · rw [if_pos c] at hE
      obtain ⟨rfl, rfl⟩ := si2 hE
      rcases hD with ⟨h1, h2⟩ | ⟨_, h1⟩
      · obtain rfl := sir h1
        subst h2
        exact r_sub [] rfl hX
      · exact (sil h1).elim
    · rw [if_neg c] at hE
      refine r_aload_n S dX5_find_68 0 rfl ?_
      refine r_getRK S fc5 k0 3 (v0 + 5) rfl rfl q_117 dX5_find_69 ?_
      refine r_iload_n S dX5_find_72 2 rfl ?_
      refine r_aload_n S dX5_find_73 0 rfl ?_
      refine r_getRK S fc5 k0 3 (v0 + 5) rfl rfl q_117 dX5_find_74 ?_
      refine r_aload_n S dX5_find_77 0 rfl ?_
      refine r_iload_n S dX5_find_78 2 rfl ?_
      obtain ⟨x1, h9, hE⟩ := b1_some hE
      refine rc_I S (rn_V S fc5 k0 (c_WY_endOf _ _ (gYX S) v0 k0 v2 M _ h9) wdX5_endOf q_372 ⟨Nat.le_of_ble_eq_true rfl, Nat.le_of_ble_eq_true rfl⟩ rfl (Nat.le_of_ble_eq_true rfl) dX5_find_79) ?_
      refine rc_I S (rn_V S fc3 (kk5_5 k0) (c_NR_at _ _ (gYX S) (v0 + 5) (kk5_5 k0) x1 M _ rfl) wdX3_at q_334 ⟨Nat.le_of_ble_eq_true rfl, Nat.le_of_ble_eq_true rfl⟩ rfl (Nat.le_of_ble_eq_true rfl) dX5_find_82) ?_
      refine rc_V S (rn_V S fc3 (kk5_5 k0) (c_NR_put _ _ (gYX S) (v0 + 5) (kk5_5 k0) v2 (fAtI (v0 + 5) x1 M) M _ rfl) wdX3_put q_346 ⟨Nat.le_of_ble_eq_true rfl, Nat.le_of_ble_eq_true rfl⟩ rfl (Nat.le_of_ble_eq_true rfl) dX5_find_85) ?_
      refine r_iinc (lv2 := [(2, .int (v2 + (1 : Int32))), (0, .ref (hY X.2.1.2 + v0)), (1, .ref (hY X.2.1.2 + v1))]) S dX5_find_88 (j := 2) rfl (by decide) rfl ?_
      refine r_goto S 60 dX5_find_91 (by decide) ?_
      obtain ⟨rfl, rfl⟩ := si2 hE
      exact r_sub (lv2 := [(0, .ref (hY X.2.1.2 + v0)), (1, .ref (hY X.2.1.2 + v1)), (2, .int (v2 + (1 : Int32)))]) [1, 2, 0] rfl (hC (v2 + (1 : Int32)) rfl)
  have L10 : ∀ (v0 : Nat) (k0 : kC v0 = 5) (v1 : Nat) (k1 : kC v1 = 0) (e : (Unit)) (M2 : Mem), AW X 53 [(0, .ref (hY X.2.1.2 + v0)), (1, .ref (hY X.2.1.2 + v1))] [] M2 → ∀ (n : Nat) (s : Int32) (M : Mem), lpM (fun s M => WY_find_L10 v0 v1 s M) n s M = some (e, M2) → AW X 10 [(0, .ref (hY X.2.1.2 + v0)), (1, .ref (hY X.2.1.2 + v1)), (2, .int s)] [] M := by
    intro v0 k0 v1 k1 e M2 hX
    refine lpM_ind (P := fun (s : Int32) (M : Mem) => AW X 10 [(0, .ref (hY X.2.1.2 + v0)), (1, .ref (hY X.2.1.2 + v1)), (2, .int s)] [] M) ?_
    rintro v2 M d M3 hE hC hD
    replace hE : WY_find_L10 v0 v1 v2 M = some (d, M3) := hE
    show AW X 10 [(0, .ref (hY X.2.1.2 + v0)), (1, .ref (hY X.2.1.2 + v1)), (2, .int v2)] [] M
    unfold WY_find_L10 at hE
    refine r_iload_n S dX5_find_10 2 rfl ?_
    refine r_aload_n S dX5_find_11 1 rfl ?_
    refine r_getIN S fc0 k1 2 rfl q_340 dX5_find_12 ?_
    refine r_icmp_ge S 53 dX5_find_15 (by decide) (fun c => ?_) (fun c => ?_)
    · rw [if_pos c] at hE
      obtain ⟨rfl, rfl⟩ := si2 hE
      rcases hD with ⟨h1, h2⟩ | ⟨_, h1⟩
      · obtain rfl := sir h1
        subst h2
        exact r_sub [0, 1] rfl hX
      · exact (sil h1).elim
    · rw [if_neg c] at hE
      refine r_aload_n S dX5_find_18 0 rfl ?_
      refine r_getRK S fc5 k0 1 (v0 + 1) rfl rfl q_109 dX5_find_19 ?_
      refine r_iload_n S dX5_find_22 2 rfl ?_
      refine rc_L S (rn_V S fc4 (kk5_1 k0) (c_SR_at _ _ (gYX S) (v0 + 1) (kk5_1 k0) v2 M _ rfl) wdX4_at q_348 ⟨Nat.le_of_ble_eq_true rfl, Nat.le_of_ble_eq_true rfl⟩ rfl (Nat.le_of_ble_eq_true rfl) dX5_find_23) ?_
      refine r_lconst S (0 : Int64) dX5_find_26 rfl ?_
      refine r_lcmp_ne S 47 dX5_find_27 dX5_find_28 (by decide) (fun c => ?_) (fun c => ?_)
      · rw [if_pos c] at hE
        refine r_iinc (lv2 := [(2, .int (v2 + (1 : Int32))), (0, .ref (hY X.2.1.2 + v0)), (1, .ref (hY X.2.1.2 + v1))]) S dX5_find_47 (j := 2) rfl (by decide) rfl ?_
        refine r_goto S 10 dX5_find_50 (by decide) ?_
        obtain ⟨rfl, rfl⟩ := si2 hE
        exact r_sub (lv2 := [(0, .ref (hY X.2.1.2 + v0)), (1, .ref (hY X.2.1.2 + v1)), (2, .int (v2 + (1 : Int32)))]) [1, 2, 0] rfl (hC (v2 + (1 : Int32)) rfl)
      · rw [if_neg (not_not_intro c)] at hE
        refine r_aload_n S dX5_find_31 1 rfl ?_
        refine r_iload_n S dX5_find_32 2 rfl ?_
        obtain ⟨x1, h9, hE⟩ := b1_some hE
        refine rc_L S (rn_S S (c_WY_plainAround _ _ (gYX S) v1 k1 v2 M _ h9) wdX5_plainAround q_354 ⟨Nat.le_of_ble_eq_true rfl, Nat.le_of_ble_eq_true rfl⟩ rfl (Nat.le_of_ble_eq_true rfl) dX5_find_33) ?_
        refine r_lstore_n (lv2 := [(3, .long x1), (0, .ref (hY X.2.1.2 + v0)), (1, .ref (hY X.2.1.2 + v1)), (2, .int v2)]) S dX5_find_36 (by decide) rfl ?_
        refine r_aload_n S dX5_find_37 1 rfl ?_
        refine r_lload_n S dX5_find_38 0 rfl ?_
        refine r_aload_n S dX5_find_39 2 rfl ?_
        refine r_lload_n S dX5_find_40 0 rfl ?_
        obtain ⟨x2, h9, hE⟩ := b1_some hE
        refine rc_I S (rn_S S (c_WY_targetOf _ _ (gYX S) v1 k1 x1 M _ h9) wdX5_targetOf q_358 ⟨Nat.le_of_ble_eq_true rfl, Nat.le_of_ble_eq_true rfl⟩ rfl (Nat.le_of_ble_eq_true rfl) dX5_find_41) ?_
        obtain ⟨x3, M4, h9, hE⟩ := b2_some hE
        refine rc_V S (rn_V S fc5 k0 (c_WY_markPlain _ _ (gYX S) v0 k0 x1 x2 M _ _ h9) wdX5_markPlain q_362 ⟨Nat.le_of_ble_eq_true rfl, Nat.le_of_ble_eq_true rfl⟩ rfl (Nat.le_of_ble_eq_true rfl) dX5_find_44) ?_
        refine r_iinc (lv2 := [(2, .int (v2 + (1 : Int32))), (3, .long x1), (0, .ref (hY X.2.1.2 + v0)), (1, .ref (hY X.2.1.2 + v1))]) S dX5_find_47 (j := 3) rfl (by decide) rfl ?_
        refine r_goto S 10 dX5_find_50 (by decide) ?_
        obtain ⟨rfl, rfl⟩ := si2 hE
        exact r_sub (lv2 := [(0, .ref (hY X.2.1.2 + v0)), (1, .ref (hY X.2.1.2 + v1)), (2, .int (v2 + (1 : Int32)))]) [2, 3, 0] rfl (hC (v2 + (1 : Int32)) rfl)
  unfold WY_find at hE
  refine r_aload_n S dX5_find_0 0 rfl ?_
  refine r_getRK S fc5 ho 1 (o + 1) rfl rfl q_109 dX5_find_1 ?_
  refine r_lconst S (0 : Int64) dX5_find_4 rfl ?_
  refine rc_V S (rn_V S fc4 (kk5_1 ho) (c_SR_fill _ _ (gYX S) (o + 1) (kk5_1 ho) (0 : Int64) M _ rfl) wdX4_fill q_349 ⟨Nat.le_of_ble_eq_true rfl, Nat.le_of_ble_eq_true rfl⟩ rfl (Nat.le_of_ble_eq_true rfl) dX5_find_5) ?_
  refine r_iconst S (0 : Int32) dX5_find_8 rfl ?_
  refine r_istore_n (lv2 := [(2, .int (0 : Int32)), (0, .ref (hY X.2.1.2 + o)), (1, .ref (hY X.2.1.2 + a1))]) S dX5_find_9 (by decide) rfl ?_
  obtain ⟨e1, M2, h9, hE⟩ := b2_some hE
  refine r_sub [1, 2, 0] rfl (L10 o ho a1 k1  e1 M2 ?_ _ _ (fFillL (o + 1) (0 : Int64) M) h9)
  refine r_aload_n S dX5_find_53 0 rfl ?_
  refine r_aload_n S dX5_find_54 1 rfl ?_
  obtain ⟨x3, M4, h9, hE⟩ := b2_some hE
  refine rc_V S (rn_V S fc5 ho (c_WY_numberPits _ _ (gYX S) o ho a1 k1 M2 _ _ h9) wdX5_numberPits q_367 ⟨Nat.le_of_ble_eq_true rfl, Nat.le_of_ble_eq_true rfl⟩ rfl (Nat.le_of_ble_eq_true rfl) dX5_find_55) ?_
  refine r_iconst S (0 : Int32) dX5_find_58 rfl ?_
  refine r_istore_n (lv2 := [(2, .int (0 : Int32)), (0, .ref (hY X.2.1.2 + o)), (1, .ref (hY X.2.1.2 + a1))]) S dX5_find_59 (by decide) rfl ?_
  obtain ⟨e5, M6, h9, hE⟩ := b2_some hE
  refine r_sub [1, 2, 0] rfl (L60 o ho a1 k1  e5 M6 ?_ _ _ M4 h9)
  obtain ⟨rfl, rfl⟩ := si2 hE
  exact hret _ _ dX5_find_94
