set_option maxRecDepth 100000 in
set_option maxHeartbeats 4000000 in
theorem c_LL_lakeValue (l : Launch) (Y : Env1) (hG : gY Y = gC) (a1 : Int32) (a2 : Int32) (M : Mem) (r : Int32) (hE : LL_lakeValue a1 a2 M = some r) : CnI l Y yX7_lakeValue cX7_lakeValue 5 .int 2 [.ref (hY Y + 0), .int a1, .int a2] M r M := by
  refine met_I (own := RX7) (by decide +kernel) rfl hG (Nat.le_of_ble_eq_true rfl) (fun X S hY1 hl1 hret => ?_)
  subst hY1
  subst hl1
  show AW X 0 [(0, .ref (hY X.2.1.2 + 0)), (1, .int a1), (2, .int a2)] [] M
  unfold LL_lakeValue at hE
  refine r_aload_n S dX7_lakeValue_0 0 rfl ?_
  refine r_getRK S fc7 (by decide) 0 1 rfl rfl q_50 dX7_lakeValue_1 ?_
  refine r_getRKN S fc6 (by decide) 2 20 rfl rfl q_51 dX7_lakeValue_4 ?_
  refine r_astore_n (lv2 := [(3, .ref (hY X.2.1.2 + 20)), (0, .ref (hY X.2.1.2 + 0)), (1, .int a1), (2, .int a2)]) S dX7_lakeValue_7 (by decide) rfl ?_
  refine r_aload_n S dX7_lakeValue_8 0 rfl ?_
  refine r_getRKN S fc1 (by decide) 3 27 rfl rfl q_420 dX7_lakeValue_9 ?_
  refine r_iload_n S dX7_lakeValue_12 2 rfl ?_
  refine rc_I S (rn_V S fc3 (by decide) (c_NR_at _ _ (gYX S) 27 (by decide) a1 M _ rfl) wdX3_at q_53 ⟨Nat.le_of_ble_eq_true rfl, Nat.le_of_ble_eq_true rfl⟩ rfl (Nat.le_of_ble_eq_true rfl) dX7_lakeValue_13) ?_
  refine r_istore (lv2 := [(4, .int (fAtI 27 a1 M)), (3, .ref (hY X.2.1.2 + 20)), (0, .ref (hY X.2.1.2 + 0)), (1, .int a1), (2, .int a2)]) S dX7_lakeValue_16 (by decide) rfl ?_
  refine r_iload_n S dX7_lakeValue_18 4 rfl ?_
  by_cases c0 : a2 = (0 : Int32)
  · rw [if_pos c0] at hE
    refine r_tin S 68 (0 : Int32) c0 dX7_lakeValue_19 (by decide) (by decide) rfl (by decide) ?_
    refine r_aload_n S dX7_lakeValue_68 1 rfl ?_
    refine r_getRKN S fc1 (by decide) 1 23 rfl rfl q_65 dX7_lakeValue_69 ?_
    refine r_iload_n S dX7_lakeValue_72 3 rfl ?_
    refine rc_I S (rn_V S fc3 (by decide) (c_NR_at _ _ (gYX S) 23 (by decide) a1 M _ rfl) wdX3_at q_53 ⟨Nat.le_of_ble_eq_true rfl, Nat.le_of_ble_eq_true rfl⟩ rfl (Nat.le_of_ble_eq_true rfl) dX7_lakeValue_73) ?_
    obtain rfl := si1 hE
    exact hret _ _ dX7_lakeValue_76
  · rw [if_neg c0] at hE
    by_cases c1 : a2 = (1 : Int32)
    · rw [if_pos c1] at hE
      refine r_tin S 77 (1 : Int32) c1 dX7_lakeValue_19 (by decide) (by decide) rfl (by decide) ?_
      refine r_aload_n S dX7_lakeValue_77 1 rfl ?_
      refine r_getRKN S fc1 (by decide) 2 25 rfl rfl q_428 dX7_lakeValue_78 ?_
      refine r_iload_n S dX7_lakeValue_81 3 rfl ?_
      refine rc_I S (rn_V S fc3 (by decide) (c_NR_at _ _ (gYX S) 25 (by decide) a1 M _ rfl) wdX3_at q_53 ⟨Nat.le_of_ble_eq_true rfl, Nat.le_of_ble_eq_true rfl⟩ rfl (Nat.le_of_ble_eq_true rfl) dX7_lakeValue_82) ?_
      obtain rfl := si1 hE
      exact hret _ _ dX7_lakeValue_85
    · rw [if_neg c1] at hE
      by_cases c2 : a2 = (2 : Int32)
      · rw [if_pos c2] at hE
        refine r_tin S 86 (2 : Int32) c2 dX7_lakeValue_19 (by decide) (by decide) rfl (by decide) ?_
        refine r_aload_n S dX7_lakeValue_86 1 rfl ?_
        refine r_getRKN S fc1 (by decide) 0 21 rfl rfl q_425 dX7_lakeValue_87 ?_
        refine r_iload_n S dX7_lakeValue_90 3 rfl ?_
        refine rc_L S (rn_V S fc4 (by decide) (c_SR_at _ _ (gYX S) 21 (by decide) a1 M _ rfl) wdX4_at q_426 ⟨Nat.le_of_ble_eq_true rfl, Nat.le_of_ble_eq_true rfl⟩ rfl (Nat.le_of_ble_eq_true rfl) dX7_lakeValue_91) ?_
        refine rc_I S (rn_S S (c_LL_lowestIn _ _ (gYX S) (fAtL 21 a1 M) M _ rfl) wdX7_lowestIn q_427 ⟨Nat.le_of_ble_eq_true rfl, Nat.le_of_ble_eq_true rfl⟩ rfl (Nat.le_of_ble_eq_true rfl) dX7_lakeValue_94) ?_
        obtain rfl := si1 hE
        exact hret _ _ dX7_lakeValue_97
      · rw [if_neg c2] at hE
        by_cases c3 : a2 = (3 : Int32)
        · rw [if_pos c3] at hE
          refine r_tin S 98 (3 : Int32) c3 dX7_lakeValue_19 (by decide) (by decide) rfl (by decide) ?_
          refine r_aload_n S dX7_lakeValue_98 1 rfl ?_
          refine r_getRKN S fc1 (by decide) 0 21 rfl rfl q_425 dX7_lakeValue_99 ?_
          refine r_iload_n S dX7_lakeValue_102 3 rfl ?_
          refine rc_L S (rn_V S fc4 (by decide) (c_SR_at _ _ (gYX S) 21 (by decide) a1 M _ rfl) wdX4_at q_426 ⟨Nat.le_of_ble_eq_true rfl, Nat.le_of_ble_eq_true rfl⟩ rfl (Nat.le_of_ble_eq_true rfl) dX7_lakeValue_103) ?_
          refine rc_I S (rn_S S (c_JL_bitCount _ _ (gYX S) (fAtL 21 a1 M) M _ rfl) wdJ13_bitCount_95d88 q_61 ⟨Nat.le_of_ble_eq_true rfl, Nat.le_of_ble_eq_true rfl⟩ rfl (Nat.le_of_ble_eq_true rfl) dX7_lakeValue_106) ?_
          obtain rfl := si1 hE
          exact hret _ _ dX7_lakeValue_109
        · rw [if_neg c3] at hE
          by_cases c4 : a2 = (4 : Int32)
          · rw [if_pos c4] at hE
            refine r_tin S 110 (4 : Int32) c4 dX7_lakeValue_19 (by decide) (by decide) rfl (by decide) ?_
            refine r_aload_n S dX7_lakeValue_110 1 rfl ?_
            refine r_aload_n S dX7_lakeValue_111 2 rfl ?_
            refine r_getRK S fc7 (by decide) 0 1 rfl rfl q_50 dX7_lakeValue_112 ?_
            refine r_getRKN S fc6 (by decide) 0 2 rfl rfl q_54 dX7_lakeValue_115 ?_
            refine r_iload_n S dX7_lakeValue_118 3 rfl ?_
            obtain ⟨x1, h9, hE⟩ := b1_some hE
            refine rc_L S (rn_V S fc1 (by decide) (c_LK_wetCells _ _ (gYX S) 20 (by decide) 2 (by decide) a1 M _ h9) wdX1_wetCells q_55 ⟨Nat.le_of_ble_eq_true rfl, Nat.le_of_ble_eq_true rfl⟩ rfl (Nat.le_of_ble_eq_true rfl) dX7_lakeValue_119) ?_
            refine rc_I S (rn_S S (c_JL_bitCount _ _ (gYX S) x1 M _ rfl) wdJ13_bitCount_95d88 q_61 ⟨Nat.le_of_ble_eq_true rfl, Nat.le_of_ble_eq_true rfl⟩ rfl (Nat.le_of_ble_eq_true rfl) dX7_lakeValue_122) ?_
            obtain rfl := si1 hE
            exact hret _ _ dX7_lakeValue_125
          · rw [if_neg c4] at hE
            by_cases c5 : a2 = (5 : Int32)
            · rw [if_pos c5] at hE
              refine r_tin S 126 (5 : Int32) c5 dX7_lakeValue_19 (by decide) (by decide) rfl (by decide) ?_
              refine r_aload_n S dX7_lakeValue_126 1 rfl ?_
              refine r_getRKN S fc1 (by decide) 5 31 rfl rfl q_424 dX7_lakeValue_127 ?_
              refine r_iload_n S dX7_lakeValue_130 3 rfl ?_
              refine rc_I S (rn_V S fc3 (by decide) (c_NR_at _ _ (gYX S) 31 (by decide) a1 M _ rfl) wdX3_at q_53 ⟨Nat.le_of_ble_eq_true rfl, Nat.le_of_ble_eq_true rfl⟩ rfl (Nat.le_of_ble_eq_true rfl) dX7_lakeValue_131) ?_
              obtain rfl := si1 hE
              exact hret _ _ dX7_lakeValue_134
            · rw [if_neg c5] at hE
              by_cases c6 : a2 = (6 : Int32)
              · rw [if_pos c6] at hE
                refine r_tin S 135 (6 : Int32) c6 dX7_lakeValue_19 (by decide) (by decide) rfl (by decide) ?_
                refine r_aload_n S dX7_lakeValue_135 2 rfl ?_
                refine r_getRK S fc7 (by decide) 0 1 rfl rfl q_50 dX7_lakeValue_136 ?_
                refine r_getRKN S fc6 (by decide) 0 2 rfl rfl q_54 dX7_lakeValue_139 ?_
                refine r_getRKN S fc0 (by decide) 7 9 rfl rfl q_423 dX7_lakeValue_142 ?_
                refine r_iload S dX7_lakeValue_145 0 rfl ?_
                refine rc_I S (rn_V S fc3 (by decide) (c_NR_at _ _ (gYX S) 9 (by decide) (fAtI 27 a1 M) M _ rfl) wdX3_at q_53 ⟨Nat.le_of_ble_eq_true rfl, Nat.le_of_ble_eq_true rfl⟩ rfl (Nat.le_of_ble_eq_true rfl) dX7_lakeValue_147) ?_
                obtain rfl := si1 hE
                exact hret _ _ dX7_lakeValue_150
              · rw [if_neg c6] at hE
                by_cases c7 : a2 = (7 : Int32)
                · rw [if_pos c7] at hE
                  refine r_tin S 151 (7 : Int32) c7 dX7_lakeValue_19 (by decide) (by decide) rfl (by decide) ?_
                  refine r_iload S dX7_lakeValue_151 0 rfl ?_
                  refine r_iconst S (-1 : Int32) dX7_lakeValue_153 rfl ?_
                  refine r_icmp_ne S 161 dX7_lakeValue_154 (by decide) (fun c => ?_) (fun c => ?_)
                  · try simp only [if_pos c] at hE
                    refine r_iload S dX7_lakeValue_161 0 rfl ?_
                    refine r_iconst S (4 : Int32) dX7_lakeValue_163 rfl ?_
                    refine r_idiv S dX7_lakeValue_164 (by decide) ?_
                    obtain rfl := si1 hE
                    exact hret _ _ dX7_lakeValue_165
                  · try simp only [if_neg (not_not_intro c)] at hE
                    refine r_iconst S (-1 : Int32) dX7_lakeValue_157 rfl ?_
                    refine r_goto S 165 dX7_lakeValue_158 (by decide) ?_
                    obtain rfl := si1 hE
                    exact hret _ _ dX7_lakeValue_165
                · rw [if_neg c7] at hE
                  by_cases c8 : a2 = (8 : Int32)
                  · rw [if_pos c8] at hE
                    refine r_tin S 166 (8 : Int32) c8 dX7_lakeValue_19 (by decide) (by decide) rfl (by decide) ?_
                    refine r_aload_n S dX7_lakeValue_166 2 rfl ?_
                    refine r_getRK S fc7 (by decide) 0 1 rfl rfl q_50 dX7_lakeValue_167 ?_
                    refine r_getRKN S fc6 (by decide) 0 2 rfl rfl q_54 dX7_lakeValue_170 ?_
                    refine r_getRKN S fc0 (by decide) 5 5 rfl rfl q_422 dX7_lakeValue_173 ?_
                    refine r_iload S dX7_lakeValue_176 0 rfl ?_
                    refine rc_I S (rn_V S fc3 (by decide) (c_NR_at _ _ (gYX S) 5 (by decide) (fAtI 27 a1 M) M _ rfl) wdX3_at q_53 ⟨Nat.le_of_ble_eq_true rfl, Nat.le_of_ble_eq_true rfl⟩ rfl (Nat.le_of_ble_eq_true rfl) dX7_lakeValue_178) ?_
                    obtain rfl := si1 hE
                    exact hret _ _ dX7_lakeValue_181
                  · rw [if_neg c8] at hE
                    have e0 : (a2).toInt ≠ 0 := fun h => c0 (Int32.toInt_inj.mp h)
                    have e1 : (a2).toInt ≠ 1 := fun h => c1 (Int32.toInt_inj.mp h)
                    have e2 : (a2).toInt ≠ 2 := fun h => c2 (Int32.toInt_inj.mp h)
                    have e3 : (a2).toInt ≠ 3 := fun h => c3 (Int32.toInt_inj.mp h)
                    have e4 : (a2).toInt ≠ 4 := fun h => c4 (Int32.toInt_inj.mp h)
                    have e5 : (a2).toInt ≠ 5 := fun h => c5 (Int32.toInt_inj.mp h)
                    have e6 : (a2).toInt ≠ 6 := fun h => c6 (Int32.toInt_inj.mp h)
                    have e7 : (a2).toInt ≠ 7 := fun h => c7 (Int32.toInt_inj.mp h)
                    have e8 : (a2).toInt ≠ 8 := fun h => c8 (Int32.toInt_inj.mp h)
                    refine r_tout S 182 dX7_lakeValue_19 (by omega) (by decide) ?_
                    refine r_aload_n S dX7_lakeValue_182 1 rfl ?_
                    refine r_getRKN S fc1 (by decide) 4 29 rfl rfl q_421 dX7_lakeValue_183 ?_
                    refine r_iload_n S dX7_lakeValue_186 3 rfl ?_
                    refine rc_I S (rn_V S fc3 (by decide) (c_NR_at _ _ (gYX S) 29 (by decide) a1 M _ rfl) wdX3_at q_53 ⟨Nat.le_of_ble_eq_true rfl, Nat.le_of_ble_eq_true rfl⟩ rfl (Nat.le_of_ble_eq_true rfl) dX7_lakeValue_187) ?_
                    obtain rfl := si1 hE
                    exact hret _ _ dX7_lakeValue_190
set_option maxRecDepth 100000 in
set_option maxHeartbeats 4000000 in
theorem c_LK_lowestPlace (l : Launch) (Y : Env1) (hG : gY Y = gC) (o : Nat) (ho : kC o = 1) (a1 : Nat) (k1 : kC a1 = 0) (a2 : Int32) (M : Mem) (r : Int32) (hE : LK_lowestPlace o a1 a2 M = some r) : CnI l Y yX1_lowestPlace cX1_lowestPlace 4 .int 1 [.ref (hY Y + o), .ref (hY Y + a1), .int a2] M r M := by
  refine met_I (own := RX1) (by decide +kernel) rfl hG (Nat.le_of_ble_eq_true rfl) (fun X S hY1 hl1 hret => ?_)
  subst hY1
  subst hl1
  show AW X 0 [(0, .ref (hY X.2.1.2 + o)), (1, .ref (hY X.2.1.2 + a1)), (2, .int a2)] [] M
  have L2 : ∀ (v0 : Nat) (k0 : kC v0 = 1) (v1 : Nat) (k1 : kC v1 = 0) (v2 : Int32) (q : ((Unit) ⊕ Int32)), (∀ e, q = .inl e → AW X 47 [] [] M) → (∀ r8, q = .inr r8 → r8 = r) → ∀ (n : Nat) (s : Int32), lpR (fun s => LK_lowestPlace_L2 v0 v1 v2 s M) n s = some q → AW X 2 [(0, .ref (hY X.2.1.2 + v0)), (1, .ref (hY X.2.1.2 + v1)), (2, .int v2), (3, .int s)] [] M := by
    intro v0 k0 v1 k1 v2 q hX hR
    refine lpR_ind (P := fun (s : Int32) => AW X 2 [(0, .ref (hY X.2.1.2 + v0)), (1, .ref (hY X.2.1.2 + v1)), (2, .int v2), (3, .int s)] [] M) ?_
    rintro v3 d hE hC hD
    replace hE : LK_lowestPlace_L2 v0 v1 v2 v3 M = some d := hE
    show AW X 2 [(0, .ref (hY X.2.1.2 + v0)), (1, .ref (hY X.2.1.2 + v1)), (2, .int v2), (3, .int v3)] [] M
    unfold LK_lowestPlace_L2 at hE
    refine r_iload_n S dX1_lowestPlace_2 3 rfl ?_
    refine r_aload_n S dX1_lowestPlace_3 1 rfl ?_
    refine r_getIN S fc0 k1 2 rfl q_29 dX1_lowestPlace_4 ?_
    refine r_icmp_ge S 47 dX1_lowestPlace_7 (by decide) (fun c => ?_) (fun c => ?_)
    · rw [if_pos c] at hE
      obtain rfl := si1 hE
      rcases hD with h1 | ⟨_, h1⟩
      · obtain rfl := sir h1
        exact r_sub [] rfl (hX _ rfl)
      · exact (sil h1).elim
    · rw [if_neg c] at hE
      refine r_aload_n S dX1_lowestPlace_10 0 rfl ?_
      refine r_getRK S fc1 k0 0 (v0 + 1) rfl rfl q_23 dX1_lowestPlace_11 ?_
      refine r_iload_n S dX1_lowestPlace_14 2 rfl ?_
      refine rc_L S (rn_V S fc4 (kk1_1 k0) (c_SR_at _ _ (gYX S) (v0 + 1) (kk1_1 k0) v2 M _ rfl) wdX4_at q_24 ⟨Nat.le_of_ble_eq_true rfl, Nat.le_of_ble_eq_true rfl⟩ rfl (Nat.le_of_ble_eq_true rfl) dX1_lowestPlace_15) ?_
      refine r_aload_n S dX1_lowestPlace_18 1 rfl ?_
      refine r_getRKN S fc0 k1 8 (v1 + 9) rfl rfl q_30 dX1_lowestPlace_19 ?_
      refine r_iload_n S dX1_lowestPlace_22 3 rfl ?_
      refine rc_I S (rn_V S fc3 (kk0_9 k1) (c_NR_at _ _ (gYX S) (v1 + 9) (kk0_9 k1) v3 M _ rfl) wdX3_at q_31 ⟨Nat.le_of_ble_eq_true rfl, Nat.le_of_ble_eq_true rfl⟩ rfl (Nat.le_of_ble_eq_true rfl) dX1_lowestPlace_23) ?_
      refine rc_I S (rn_SN S (c_LL_has _ _ (gYX S) (fAtL (v0 + 1) v2 M) (fAtI (v1 + 9) v3 M) M _ rfl) wdX7_has q_37 ⟨Nat.le_of_ble_eq_true rfl, Nat.le_of_ble_eq_true rfl⟩ rfl (Nat.le_of_ble_eq_true rfl) dX1_lowestPlace_26) ?_
      refine r_if_eq S 41 dX1_lowestPlace_29 (by decide) (fun c => ?_) (fun c => ?_)
      · rw [if_pos c] at hE
        refine r_iinc (lv2 := [(3, .int (v3 + (1 : Int32))), (0, .ref (hY X.2.1.2 + v0)), (1, .ref (hY X.2.1.2 + v1)), (2, .int v2)]) S dX1_lowestPlace_41 (j := 3) rfl (by decide) rfl ?_
        refine r_goto S 2 dX1_lowestPlace_44 (by decide) ?_
        obtain rfl := si1 hE
        exact r_sub (lv2 := [(0, .ref (hY X.2.1.2 + v0)), (1, .ref (hY X.2.1.2 + v1)), (2, .int v2), (3, .int (v3 + (1 : Int32)))]) [1, 2, 3, 0] rfl (hC (v3 + (1 : Int32)) rfl)
      · rw [if_neg c] at hE
        refine r_aload_n S dX1_lowestPlace_32 1 rfl ?_
        refine r_getRKN S fc0 k1 8 (v1 + 9) rfl rfl q_30 dX1_lowestPlace_33 ?_
        refine r_iload_n S dX1_lowestPlace_36 3 rfl ?_
        refine rc_I S (rn_V S fc3 (kk0_9 k1) (c_NR_at _ _ (gYX S) (v1 + 9) (kk0_9 k1) v3 M _ rfl) wdX3_at q_31 ⟨Nat.le_of_ble_eq_true rfl, Nat.le_of_ble_eq_true rfl⟩ rfl (Nat.le_of_ble_eq_true rfl) dX1_lowestPlace_37) ?_
        obtain rfl := si1 hE
        rcases hD with h1 | ⟨_, h1⟩
        · obtain rfl := sir h1
          obtain rfl := hR _ rfl
          exact hret _ _ dX1_lowestPlace_40
        · exact (sil h1).elim
  unfold LK_lowestPlace at hE
  refine r_iconst S (0 : Int32) dX1_lowestPlace_0 rfl ?_
  refine r_istore_n (lv2 := [(3, .int (0 : Int32)), (0, .ref (hY X.2.1.2 + o)), (1, .ref (hY X.2.1.2 + a1)), (2, .int a2)]) S dX1_lowestPlace_1 (by decide) rfl ?_
  obtain ⟨e1, h9, hE⟩ := b1_some hE
  refine r_sub [1, 2, 3, 0] rfl (L2 o ho a1 k1 a2  e1 (fun e2 h8 => ?_) (fun r8 h8 => ?_) _ _  h9)
  · subst h8
    refine r_iconst S (-1 : Int32) dX1_lowestPlace_47 rfl ?_
    obtain rfl := si1 hE
    exact hret _ _ dX1_lowestPlace_48
  · subst h8
    exact si1 hE
set_option maxRecDepth 100000 in
set_option maxHeartbeats 4000000 in
theorem c_LL_levelPart (l : Launch) (Y : Env1) (hG : gY Y = gC) (a1 : Int32) (a2 : Int32) (M : Mem) (r : Int32) (hE : LL_levelPart a1 a2 M = some r) : CnI l Y yX7_levelPart cX7_levelPart 8 .int 2 [.ref (hY Y + 0), .int a1, .int a2] M r M := by
  refine met_I (own := RX7) (by decide +kernel) rfl hG (Nat.le_of_ble_eq_true rfl) (fun X S hY1 hl1 hret => ?_)
  subst hY1
  subst hl1
  show AW X 0 [(0, .ref (hY X.2.1.2 + 0)), (1, .int a1), (2, .int a2)] [] M
  have J104 : ∀ (v6 : Int32) (v7 : Int32) (t0 : Int32), LL_levelPart_J104 v6 v7 t0 M = some r → AW X 104 [(6, .int v6), (7, .int v7)] [.int t0] M := by
    intro v6 v7 t0 hE
    unfold LL_levelPart_J104 at hE
    refine r_iload S dX7_levelPart_104 0 rfl ?_
    refine r_iload S dX7_levelPart_106 1 rfl ?_
    obtain ⟨x1, h9, hE⟩ := b1_some hE
    refine rc_I S (rn_S S (c_LL_commonDivisor _ _ (gYX S) v6 v7 M _ h9) wdX7_commonDivisor q_72 ⟨Nat.le_of_ble_eq_true rfl, Nat.le_of_ble_eq_true rfl⟩ rfl (Nat.le_of_ble_eq_true rfl) dX7_levelPart_108) ?_
    obtain ⟨x2, h9, hE⟩ := b1_some hE
    refine rc_I S (rn_S S (c_LL_reduced _ _ (gYX S) t0 x1 M _ h9) wdX7_reduced q_76 ⟨Nat.le_of_ble_eq_true rfl, Nat.le_of_ble_eq_true rfl⟩ rfl (Nat.le_of_ble_eq_true rfl) dX7_levelPart_111) ?_
    obtain rfl := si1 hE
    exact hret _ _ dX7_levelPart_114
  unfold LL_levelPart at hE
  refine r_aload_n S dX7_levelPart_0 0 rfl ?_
  refine r_getRK S fc7 (by decide) 0 1 rfl rfl q_50 dX7_levelPart_1 ?_
  refine r_getRKN S fc6 (by decide) 2 20 rfl rfl q_51 dX7_levelPart_4 ?_
  refine r_astore_n (lv2 := [(3, .ref (hY X.2.1.2 + 20)), (0, .ref (hY X.2.1.2 + 0)), (1, .int a1), (2, .int a2)]) S dX7_levelPart_7 (by decide) rfl ?_
  refine r_aload_n S dX7_levelPart_8 0 rfl ?_
  refine r_aload_n S dX7_levelPart_9 1 rfl ?_
  refine r_getRK S fc7 (by decide) 0 1 rfl rfl q_50 dX7_levelPart_10 ?_
  refine r_getRKN S fc6 (by decide) 0 2 rfl rfl q_54 dX7_levelPart_13 ?_
  refine r_iload_n S dX7_levelPart_16 2 rfl ?_
  obtain ⟨x1, h9, hE⟩ := b1_some hE
  refine rc_L S (rn_V S fc1 (by decide) (c_LK_wetCells _ _ (gYX S) 20 (by decide) 2 (by decide) a1 M _ h9) wdX1_wetCells q_55 ⟨Nat.le_of_ble_eq_true rfl, Nat.le_of_ble_eq_true rfl⟩ rfl (Nat.le_of_ble_eq_true rfl) dX7_levelPart_17) ?_
  refine r_lstore (lv2 := [(4, .long x1), (3, .ref (hY X.2.1.2 + 20)), (0, .ref (hY X.2.1.2 + 0)), (1, .int a1), (2, .int a2)]) S dX7_levelPart_20 (by decide) rfl ?_
  refine r_lload S dX7_levelPart_22 0 rfl ?_
  refine r_lconst S (0 : Int64) dX7_levelPart_24 rfl ?_
  refine r_lcmp_ne S 63 dX7_levelPart_25 dX7_levelPart_26 (by decide) (fun c => ?_) (fun c => ?_)
  · rw [if_pos c] at hE
    refine r_aload_n S dX7_levelPart_63 1 rfl ?_
    refine r_getRKN S fc1 (by decide) 1 23 rfl rfl q_65 dX7_levelPart_64 ?_
    refine r_iload_n S dX7_levelPart_67 3 rfl ?_
    refine rc_I S (rn_V S fc3 (by decide) (c_NR_at _ _ (gYX S) 23 (by decide) a1 M _ rfl) wdX3_at q_53 ⟨Nat.le_of_ble_eq_true rfl, Nat.le_of_ble_eq_true rfl⟩ rfl (Nat.le_of_ble_eq_true rfl) dX7_levelPart_68) ?_
    refine r_aload_n S dX7_levelPart_71 2 rfl ?_
    refine r_getRK S fc7 (by decide) 0 1 rfl rfl q_50 dX7_levelPart_72 ?_
    refine r_getRKN S fc6 (by decide) 0 2 rfl rfl q_54 dX7_levelPart_75 ?_
    refine r_lload S dX7_levelPart_78 0 rfl ?_
    obtain ⟨x2, h9, hE⟩ := b1_some hE
    refine rc_I S (rn_V S fc0 (by decide) (c_GR_heightSum _ _ (gYX S) 2 (by decide) x1 M _ h9) wdX0_heightSum q_66 ⟨Nat.le_of_ble_eq_true rfl, Nat.le_of_ble_eq_true rfl⟩ rfl (Nat.le_of_ble_eq_true rfl) dX7_levelPart_80) ?_
    refine r_iadd S dX7_levelPart_83 ?_
    refine r_istore (lv2 := [(6, .int ((fAtI 23 a1 M) + x2)), (4, .long x1), (3, .ref (hY X.2.1.2 + 20)), (0, .ref (hY X.2.1.2 + 0)), (1, .int a1), (2, .int a2)]) S dX7_levelPart_84 (by decide) rfl ?_
    refine r_lload S dX7_levelPart_86 1 rfl ?_
    refine rc_I S (rn_S S (c_JL_bitCount _ _ (gYX S) x1 M _ rfl) wdJ13_bitCount_95d88 q_61 ⟨Nat.le_of_ble_eq_true rfl, Nat.le_of_ble_eq_true rfl⟩ rfl (Nat.le_of_ble_eq_true rfl) dX7_levelPart_88) ?_
    refine r_istore (lv2 := [(7, .int (JL_bitCount x1)), (6, .int ((fAtI 23 a1 M) + x2)), (4, .long x1), (3, .ref (hY X.2.1.2 + 20)), (0, .ref (hY X.2.1.2 + 0)), (1, .int a1), (2, .int a2)]) S dX7_levelPart_91 (by decide) rfl ?_
    refine r_iload_n S dX7_levelPart_93 6 rfl ?_
    refine r_if_ne S 102 dX7_levelPart_94 (by decide) (fun c => ?_) (fun c => ?_)
    · try simp only [if_pos c] at hE
      refine r_iload S dX7_levelPart_102 0 rfl ?_
      exact r_sub [1, 0] rfl (J104 ((fAtI 23 a1 M) + x2) (JL_bitCount x1) (JL_bitCount x1) hE)
    · try simp only [if_neg (not_not_intro c)] at hE
      refine r_iload S dX7_levelPart_97 1 rfl ?_
      refine r_goto S 104 dX7_levelPart_99 (by decide) ?_
      exact r_sub [1, 0] rfl (J104 ((fAtI 23 a1 M) + x2) (JL_bitCount x1) ((fAtI 23 a1 M) + x2) hE)
  · rw [if_neg (not_not_intro c)] at hE
    refine r_iload_n S dX7_levelPart_29 4 rfl ?_
    refine r_if_ne S 61 dX7_levelPart_30 (by decide) (fun c => ?_) (fun c => ?_)
    · rw [if_pos c] at hE
      refine r_iconst S (1 : Int32) dX7_levelPart_61 rfl ?_
      obtain rfl := si1 hE
      exact hret _ _ dX7_levelPart_62
    · rw [if_neg (not_not_intro c)] at hE
      refine r_aload_n S dX7_levelPart_33 2 rfl ?_
      refine r_getRK S fc7 (by decide) 0 1 rfl rfl q_50 dX7_levelPart_34 ?_
      refine r_getRKN S fc6 (by decide) 0 2 rfl rfl q_54 dX7_levelPart_37 ?_
      refine r_getRKN S fc0 (by decide) 4 3 rfl rfl q_71 dX7_levelPart_40 ?_
      refine r_aload_n S dX7_levelPart_43 1 rfl ?_
      refine r_aload_n S dX7_levelPart_44 2 rfl ?_
      refine r_getRK S fc7 (by decide) 0 1 rfl rfl q_50 dX7_levelPart_45 ?_
      refine r_getRKN S fc6 (by decide) 0 2 rfl rfl q_54 dX7_levelPart_48 ?_
      refine r_iload_n S dX7_levelPart_51 3 rfl ?_
      obtain ⟨x3, h9, hE⟩ := b1_some hE
      refine rc_I S (rn_V S fc1 (by decide) (c_LK_lowestPlace _ _ (gYX S) 20 (by decide) 2 (by decide) a1 M _ h9) wdX1_lowestPlace q_429 ⟨Nat.le_of_ble_eq_true rfl, Nat.le_of_ble_eq_true rfl⟩ rfl (Nat.le_of_ble_eq_true rfl) dX7_levelPart_52) ?_
      refine rc_I S (rn_V S fc3 (by decide) (c_NR_at _ _ (gYX S) 3 (by decide) x3 M _ rfl) wdX3_at q_53 ⟨Nat.le_of_ble_eq_true rfl, Nat.le_of_ble_eq_true rfl⟩ rfl (Nat.le_of_ble_eq_true rfl) dX7_levelPart_55) ?_
      refine r_goto S 62 dX7_levelPart_58 (by decide) ?_
      obtain rfl := si1 hE
      exact hret _ _ dX7_levelPart_62
set_option maxRecDepth 100000 in
set_option maxHeartbeats 4000000 in
theorem c_LL_mixLake (l : Launch) (Y : Env1) (hG : gY Y = gC) (a1 : Int64) (a3 : Int32) (M : Mem) (r : Int64) (hE : LL_mixLake a1 a3 M = some r) : CnL l Y yX7_mixLake cX7_mixLake 7 3 [.ref (hY Y + 0), .long a1, .int a3] M r M := by
  refine met_L (own := RX7) (by decide +kernel) rfl hG (Nat.le_of_ble_eq_true rfl) (fun X S hY1 hl1 hret => ?_)
  subst hY1
  subst hl1
  show AW X 0 [(0, .ref (hY X.2.1.2 + 0)), (1, .long a1), (3, .int a3)] [] M
  have L6 : ∀ (v3 : Int32) (e : (Int64)), AW X 34 [(0, .ref (hY X.2.1.2 + 0)), (3, .int v3), (4, .long e)] [] M → ∀ (n : Nat) (s : Int64 × Int32), lpR (fun s => LL_mixLake_L6 v3 s.1 s.2 M) n s = some e → AW X 6 [(0, .ref (hY X.2.1.2 + 0)), (3, .int v3), (4, .long s.1), (6, .int s.2)] [] M := by
    intro v3 e hX
    refine lpR_ind (P := fun (s : Int64 × Int32) => AW X 6 [(0, .ref (hY X.2.1.2 + 0)), (3, .int v3), (4, .long s.1), (6, .int s.2)] [] M) ?_
    rintro ⟨v4, v6⟩ d hE hC hD
    replace hE : LL_mixLake_L6 v3 v4 v6 M = some d := hE
    show AW X 6 [(0, .ref (hY X.2.1.2 + 0)), (3, .int v3), (4, .long v4), (6, .int v6)] [] M
    unfold LL_mixLake_L6 at hE
    refine r_iload S dX7_mixLake_6 3 rfl ?_
    refine r_bipush S (9 : Int32) dX7_mixLake_8 rfl ?_
    refine r_icmp_gt S 34 dX7_mixLake_10 (by decide) (fun c => ?_) (fun c => ?_)
    · rw [if_pos c] at hE
      obtain rfl := si1 hE
      rcases hD with h1 | ⟨_, h1⟩
      · obtain rfl := sir h1
        exact r_sub [0, 1, 2] rfl hX
      · exact (sil h1).elim
    · rw [if_neg c] at hE
      refine r_lload S dX7_mixLake_13 2 rfl ?_
      refine r_aload_n S dX7_mixLake_15 0 rfl ?_
      refine r_iload_n S dX7_mixLake_16 1 rfl ?_
      refine r_iload S dX7_mixLake_17 3 rfl ?_
      obtain ⟨x1, h9, hE⟩ := b1_some hE
      refine rc_I S (rn_V S fc7 (by decide) (c_LL_lakeValue _ _ (gYX S) v3 v6 M _ h9) wdX7_lakeValue q_434 ⟨Nat.le_of_ble_eq_true rfl, Nat.le_of_ble_eq_true rfl⟩ rfl (Nat.le_of_ble_eq_true rfl) dX7_mixLake_19) ?_
      refine r_i2l S dX7_mixLake_22 ?_
      refine rc_L S (rn_S S (c_LL_mix _ _ (gYX S) v4 x1.toInt64 M _ rfl) wdX7_mix q_439 ⟨Nat.le_of_ble_eq_true rfl, Nat.le_of_ble_eq_true rfl⟩ rfl (Nat.le_of_ble_eq_true rfl) dX7_mixLake_23) ?_
      refine r_lstore (lv2 := [(4, .long (LL_mix v4 x1.toInt64)), (0, .ref (hY X.2.1.2 + 0)), (3, .int v3), (6, .int v6)]) S dX7_mixLake_26 (by decide) rfl ?_
      refine r_iinc (lv2 := [(6, .int (v6 + (1 : Int32))), (4, .long (LL_mix v4 x1.toInt64)), (0, .ref (hY X.2.1.2 + 0)), (3, .int v3)]) S dX7_mixLake_28 (j := 3) rfl (by decide) rfl ?_
      refine r_goto S 6 dX7_mixLake_31 (by decide) ?_
      obtain rfl := si1 hE
      exact r_sub (lv2 := [(0, .ref (hY X.2.1.2 + 0)), (3, .int v3), (4, .long (LL_mix v4 x1.toInt64)), (6, .int (v6 + (1 : Int32)))]) [2, 3, 1, 0] rfl (hC ((LL_mix v4 x1.toInt64), (v6 + (1 : Int32))) rfl)
  unfold LL_mixLake at hE
  refine r_lload_n S dX7_mixLake_0 1 rfl ?_
  refine r_lstore (lv2 := [(4, .long a1), (0, .ref (hY X.2.1.2 + 0)), (1, .long a1), (3, .int a3)]) S dX7_mixLake_1 (by decide) rfl ?_
  refine r_iconst S (0 : Int32) dX7_mixLake_3 rfl ?_
  refine r_istore (lv2 := [(6, .int (0 : Int32)), (4, .long a1), (0, .ref (hY X.2.1.2 + 0)), (1, .long a1), (3, .int a3)]) S dX7_mixLake_4 (by decide) rfl ?_
  obtain ⟨e1, h9, hE⟩ := b1_some hE
  refine r_sub [2, 4, 1, 0] rfl (L6 a3  e1 ?_ _ _  h9)
  refine r_lload S dX7_mixLake_34 2 rfl ?_
  refine r_aload_n S dX7_mixLake_36 0 rfl ?_
  refine r_getRK S fc7 (by decide) 0 1 rfl rfl q_50 dX7_mixLake_37 ?_
  refine r_getRKN S fc6 (by decide) 2 20 rfl rfl q_51 dX7_mixLake_40 ?_
  refine r_getRKN S fc1 (by decide) 0 21 rfl rfl q_425 dX7_mixLake_43 ?_
  refine r_iload_n S dX7_mixLake_46 1 rfl ?_
  refine rc_L S (rn_V S fc4 (by decide) (c_SR_at _ _ (gYX S) 21 (by decide) a3 M _ rfl) wdX4_at q_426 ⟨Nat.le_of_ble_eq_true rfl, Nat.le_of_ble_eq_true rfl⟩ rfl (Nat.le_of_ble_eq_true rfl) dX7_mixLake_47) ?_
  refine rc_L S (rn_S S (c_LL_mix _ _ (gYX S) e1 (fAtL 21 a3 M) M _ rfl) wdX7_mix q_439 ⟨Nat.le_of_ble_eq_true rfl, Nat.le_of_ble_eq_true rfl⟩ rfl (Nat.le_of_ble_eq_true rfl) dX7_mixLake_50) ?_
  refine r_lstore (lv2 := [(4, .long (LL_mix e1 (fAtL 21 a3 M))), (0, .ref (hY X.2.1.2 + 0)), (3, .int a3)]) S dX7_mixLake_53 (by decide) rfl ?_
  refine r_lload S dX7_mixLake_55 0 rfl ?_
  refine r_aload_n S dX7_mixLake_57 1 rfl ?_
  refine r_iload_n S dX7_mixLake_58 2 rfl ?_
  refine r_iconst S (0 : Int32) dX7_mixLake_59 rfl ?_
  obtain ⟨x2, h9, hE⟩ := b1_some hE
  refine rc_I S (rn_V S fc7 (by decide) (c_LL_levelPart _ _ (gYX S) a3 (0 : Int32) M _ h9) wdX7_levelPart q_443 ⟨Nat.le_of_ble_eq_true rfl, Nat.le_of_ble_eq_true rfl⟩ rfl (Nat.le_of_ble_eq_true rfl) dX7_mixLake_60) ?_
  refine r_i2l S dX7_mixLake_63 ?_
  refine rc_L S (rn_S S (c_LL_mix _ _ (gYX S) (LL_mix e1 (fAtL 21 a3 M)) x2.toInt64 M _ rfl) wdX7_mix q_439 ⟨Nat.le_of_ble_eq_true rfl, Nat.le_of_ble_eq_true rfl⟩ rfl (Nat.le_of_ble_eq_true rfl) dX7_mixLake_64) ?_
  refine r_lstore (lv2 := [(4, .long (LL_mix (LL_mix e1 (fAtL 21 a3 M)) x2.toInt64)), (0, .ref (hY X.2.1.2 + 0)), (3, .int a3)]) S dX7_mixLake_67 (by decide) rfl ?_
  refine r_lload S dX7_mixLake_69 0 rfl ?_
  refine r_aload_n S dX7_mixLake_71 1 rfl ?_
  refine r_iload_n S dX7_mixLake_72 2 rfl ?_
  refine r_iconst S (1 : Int32) dX7_mixLake_73 rfl ?_
  obtain ⟨x3, h9, hE⟩ := b1_some hE
  refine rc_I S (rn_V S fc7 (by decide) (c_LL_levelPart _ _ (gYX S) a3 (1 : Int32) M _ h9) wdX7_levelPart q_443 ⟨Nat.le_of_ble_eq_true rfl, Nat.le_of_ble_eq_true rfl⟩ rfl (Nat.le_of_ble_eq_true rfl) dX7_mixLake_74) ?_
  refine r_i2l S dX7_mixLake_77 ?_
  refine rc_L S (rn_S S (c_LL_mix _ _ (gYX S) (LL_mix (LL_mix e1 (fAtL 21 a3 M)) x2.toInt64) x3.toInt64 M _ rfl) wdX7_mix q_439 ⟨Nat.le_of_ble_eq_true rfl, Nat.le_of_ble_eq_true rfl⟩ rfl (Nat.le_of_ble_eq_true rfl) dX7_mixLake_78) ?_
  obtain rfl := si1 hE
  exact hret _ _ dX7_mixLake_81
set_option maxRecDepth 100000 in
set_option maxHeartbeats 4000000 in
theorem c_LK_water (l : Launch) (Y : Env1) (hG : gY Y = gC) (o : Nat) (ho : kC o = 1) (M : Mem) (r : Int32) (hE : LK_water o M = some r) : CnI l Y yX1_water cX1_water 3 .int 3 [.ref (hY Y + o)] M r M := by
  refine met_I (own := RX1) (by decide +kernel) rfl hG (Nat.le_of_ble_eq_true rfl) (fun X S hY1 hl1 hret => ?_)
  subst hY1
  subst hl1
  show AW X 0 [(0, .ref (hY X.2.1.2 + o))] [] M
  have L4 : ∀ (v0 : Nat) (k0 : kC v0 = 1) (e : (Int32)), AW X 46 [(1, .int e)] [] M → ∀ (n : Nat) (s : Int32 × Int32), lpR (fun s => LK_water_L4 v0 s.1 s.2 M) n s = some e → AW X 4 [(0, .ref (hY X.2.1.2 + v0)), (1, .int s.1), (2, .int s.2)] [] M := by
    intro v0 k0 e hX
    refine lpR_ind (P := fun (s : Int32 × Int32) => AW X 4 [(0, .ref (hY X.2.1.2 + v0)), (1, .int s.1), (2, .int s.2)] [] M) ?_
    rintro ⟨v1, v2⟩ d hE hC hD
    replace hE : LK_water_L4 v0 v1 v2 M = some d := hE
    show AW X 4 [(0, .ref (hY X.2.1.2 + v0)), (1, .int v1), (2, .int v2)] [] M
    unfold LK_water_L4 at hE
    refine r_iload_n S dX1_water_4 2 rfl ?_
    refine r_bipush S (36 : Int32) dX1_water_5 rfl ?_
    refine r_icmp_ge S 46 dX1_water_7 (by decide) (fun c => ?_) (fun c => ?_)
    · rw [if_pos c] at hE
      obtain rfl := si1 hE
      rcases hD with h1 | ⟨_, h1⟩
      · obtain rfl := sir h1
        exact r_sub [1] rfl hX
      · exact (sil h1).elim
    · rw [if_neg c] at hE
      refine r_iload_n S dX1_water_10 1 rfl ?_
      refine r_aload_n S dX1_water_11 0 rfl ?_
      refine r_iload_n S dX1_water_12 2 rfl ?_
      refine rc_I S (rn_V S fc1 k0 (c_LK_isLowestOfLake _ _ (gYX S) v0 k0 v2 M _ rfl) wdX1_isLowestOfLake q_364 ⟨Nat.le_of_ble_eq_true rfl, Nat.le_of_ble_eq_true rfl⟩ rfl (Nat.le_of_ble_eq_true rfl) dX1_water_13) ?_
      refine r_if_eq S 37 dX1_water_16 (by decide) (fun c => ?_) (fun c => ?_)
      · try simp only [if_pos c] at hE
        refine r_iconst S (0 : Int32) dX1_water_37 rfl ?_
        refine r_iadd S dX1_water_38 ?_
        refine r_istore_n (lv2 := [(1, .int (v1 + (0 : Int32))), (0, .ref (hY X.2.1.2 + v0)), (2, .int v2)]) S dX1_water_39 (by decide) rfl ?_
        refine r_iinc (lv2 := [(2, .int (v2 + (1 : Int32))), (1, .int (v1 + (0 : Int32))), (0, .ref (hY X.2.1.2 + v0))]) S dX1_water_40 (j := 2) rfl (by decide) rfl ?_
        refine r_goto S 4 dX1_water_43 (by decide) ?_
        obtain rfl := si1 hE
        exact r_sub (lv2 := [(0, .ref (hY X.2.1.2 + v0)), (1, .int (v1 + (0 : Int32))), (2, .int (v2 + (1 : Int32)))]) [2, 1, 0] rfl (hC ((v1 + (0 : Int32)), (v2 + (1 : Int32))) rfl)
      · try simp only [if_neg c] at hE
        refine r_aload_n S dX1_water_19 0 rfl ?_
        refine r_getRK S fc1 k0 1 (v0 + 3) rfl rfl q_41 dX1_water_20 ?_
        refine r_aload_n S dX1_water_23 0 rfl ?_
        refine r_getRK S fc1 k0 8 (v0 + 17) rfl rfl q_215 dX1_water_24 ?_
        refine r_iload_n S dX1_water_27 2 rfl ?_
        refine rc_I S (rn_V S fc3 (kk1_17 k0) (c_NR_at _ _ (gYX S) (v0 + 17) (kk1_17 k0) v2 M _ rfl) wdX3_at q_31 ⟨Nat.le_of_ble_eq_true rfl, Nat.le_of_ble_eq_true rfl⟩ rfl (Nat.le_of_ble_eq_true rfl) dX1_water_28) ?_
        refine rc_I S (rn_V S fc3 (kk1_3 k0) (c_NR_at _ _ (gYX S) (v0 + 3) (kk1_3 k0) (fAtI (v0 + 17) v2 M) M _ rfl) wdX3_at q_31 ⟨Nat.le_of_ble_eq_true rfl, Nat.le_of_ble_eq_true rfl⟩ rfl (Nat.le_of_ble_eq_true rfl) dX1_water_31) ?_
        refine r_goto S 38 dX1_water_34 (by decide) ?_
        refine r_iadd S dX1_water_38 ?_
        refine r_istore_n (lv2 := [(1, .int (v1 + (fAtI (v0 + 3) (fAtI (v0 + 17) v2 M) M))), (0, .ref (hY X.2.1.2 + v0)), (2, .int v2)]) S dX1_water_39 (by decide) rfl ?_
        refine r_iinc (lv2 := [(2, .int (v2 + (1 : Int32))), (1, .int (v1 + (fAtI (v0 + 3) (fAtI (v0 + 17) v2 M) M))), (0, .ref (hY X.2.1.2 + v0))]) S dX1_water_40 (j := 2) rfl (by decide) rfl ?_
        refine r_goto S 4 dX1_water_43 (by decide) ?_
        obtain rfl := si1 hE
        exact r_sub (lv2 := [(0, .ref (hY X.2.1.2 + v0)), (1, .int (v1 + (fAtI (v0 + 3) (fAtI (v0 + 17) v2 M) M))), (2, .int (v2 + (1 : Int32)))]) [2, 1, 0] rfl (hC ((v1 + (fAtI (v0 + 3) (fAtI (v0 + 17) v2 M) M)), (v2 + (1 : Int32))) rfl)
  unfold LK_water at hE
  refine r_iconst S (0 : Int32) dX1_water_0 rfl ?_
  refine r_istore_n (lv2 := [(1, .int (0 : Int32)), (0, .ref (hY X.2.1.2 + o))]) S dX1_water_1 (by decide) rfl ?_
  refine r_iconst S (0 : Int32) dX1_water_2 rfl ?_
  refine r_istore_n (lv2 := [(2, .int (0 : Int32)), (1, .int (0 : Int32)), (0, .ref (hY X.2.1.2 + o))]) S dX1_water_3 (by decide) rfl ?_
  obtain ⟨e1, h9, hE⟩ := b1_some hE
  refine r_sub [2, 1, 0] rfl (L4 o ho  e1 ?_ _ _  h9)
  refine r_iload_n S dX1_water_46 0 rfl ?_
  obtain rfl := si1 hE
  exact hret _ _ dX1_water_47
set_option maxRecDepth 100000 in
set_option maxHeartbeats 4000000 in
theorem c_LL_balanceValue (l : Launch) (Y : Env1) (hG : gY Y = gC) (a1 : Int32) (M : Mem) (r : Int64) (hE : LL_balanceValue a1 M = some r) : CnL l Y yX7_balanceValue cX7_balanceValue 2 4 [.ref (hY Y + 0), .int a1] M r M := by
  refine met_L (own := RX7) (by decide +kernel) rfl hG (Nat.le_of_ble_eq_true rfl) (fun X S hY1 hl1 hret => ?_)
  subst hY1
  subst hl1
  show AW X 0 [(0, .ref (hY X.2.1.2 + 0)), (1, .int a1)] [] M
  unfold LL_balanceValue at hE
  refine r_iload_n S dX7_balanceValue_0 1 rfl ?_
  by_cases c0 : a1 = (0 : Int32)
  · rw [if_pos c0] at hE
    refine r_tin S 28 (0 : Int32) c0 dX7_balanceValue_1 (by decide) (by decide) rfl (by decide) ?_
    refine r_aload_n S dX7_balanceValue_28 0 rfl ?_
    refine r_getRK S fc7 (by decide) 0 1 rfl rfl q_50 dX7_balanceValue_29 ?_
    refine r_getLN S fc6 (by decide) 3 rfl q_455 dX7_balanceValue_32 ?_
    obtain rfl := si1 hE
    exact hret _ _ dX7_balanceValue_35
  · rw [if_neg c0] at hE
    by_cases c1 : a1 = (1 : Int32)
    · rw [if_pos c1] at hE
      refine r_tin S 36 (1 : Int32) c1 dX7_balanceValue_1 (by decide) (by decide) rfl (by decide) ?_
      refine r_aload_n S dX7_balanceValue_36 0 rfl ?_
      refine r_getRK S fc7 (by decide) 0 1 rfl rfl q_50 dX7_balanceValue_37 ?_
      refine r_getRKN S fc6 (by decide) 2 20 rfl rfl q_51 dX7_balanceValue_40 ?_
      obtain ⟨x1, h9, hE⟩ := b1_some hE
      refine rc_I S (rn_V S fc1 (by decide) (c_LK_water _ _ (gYX S) 20 (by decide) M _ h9) wdX1_water q_450 ⟨Nat.le_of_ble_eq_true rfl, Nat.le_of_ble_eq_true rfl⟩ rfl (Nat.le_of_ble_eq_true rfl) dX7_balanceValue_43) ?_
      refine r_i2l S dX7_balanceValue_46 ?_
      obtain rfl := si1 hE
      exact hret _ _ dX7_balanceValue_47
    · rw [if_neg c1] at hE
      by_cases c2 : a1 = (2 : Int32)
      · rw [if_pos c2] at hE
        refine r_tin S 48 (2 : Int32) c2 dX7_balanceValue_1 (by decide) (by decide) rfl (by decide) ?_
        refine r_aload_n S dX7_balanceValue_48 0 rfl ?_
        refine r_getRK S fc7 (by decide) 0 1 rfl rfl q_50 dX7_balanceValue_49 ?_
        refine r_getLN S fc6 (by decide) 4 rfl q_449 dX7_balanceValue_52 ?_
        obtain rfl := si1 hE
        exact hret _ _ dX7_balanceValue_55
      · rw [if_neg c2] at hE
        have e0 : (a1).toInt ≠ 0 := fun h => c0 (Int32.toInt_inj.mp h)
        have e1 : (a1).toInt ≠ 1 := fun h => c1 (Int32.toInt_inj.mp h)
        have e2 : (a1).toInt ≠ 2 := fun h => c2 (Int32.toInt_inj.mp h)
        refine r_tout S 56 dX7_balanceValue_1 (by omega) (by decide) ?_
        refine r_aload_n S dX7_balanceValue_56 0 rfl ?_
        refine r_getRK S fc7 (by decide) 0 1 rfl rfl q_50 dX7_balanceValue_57 ?_
        refine r_getLN S fc6 (by decide) 5 rfl q_448 dX7_balanceValue_60 ?_
        obtain rfl := si1 hE
        exact hret _ _ dX7_balanceValue_63
set_option maxRecDepth 100000 in
set_option maxHeartbeats 4000000 in
theorem c_LL_digest (l : Launch) (Y : Env1) (hG : gY Y = gC) (M : Mem) (r : Int64) (hE : LL_digest M = some r) : CnL l Y yX7_digest cX7_digest 5 5 [.ref (hY Y + 0)] M r M := by
  refine met_L (own := RX7) (by decide +kernel) rfl hG (Nat.le_of_ble_eq_true rfl) (fun X S hY1 hl1 hret => ?_)
  subst hY1
  subst hl1
  show AW X 0 [(0, .ref (hY X.2.1.2 + 0))] [] M
  have L137 : ∀ (e : (Int64)), AW X 160 [(0, .ref (hY X.2.1.2 + 0)), (1, .long e)] [] M → ∀ (n : Nat) (s : Int64 × Int32), lpR (fun s => LL_digest_L137 s.1 s.2 M) n s = some e → AW X 137 [(0, .ref (hY X.2.1.2 + 0)), (1, .long s.1), (4, .int s.2)] [] M := by
    intro e hX
    refine lpR_ind (P := fun (s : Int64 × Int32) => AW X 137 [(0, .ref (hY X.2.1.2 + 0)), (1, .long s.1), (4, .int s.2)] [] M) ?_
    rintro ⟨v1, v4⟩ d hE hC hD
    replace hE : LL_digest_L137 v1 v4 M = some d := hE
    show AW X 137 [(0, .ref (hY X.2.1.2 + 0)), (1, .long v1), (4, .int v4)] [] M
    unfold LL_digest_L137 at hE
    refine r_iload S dX7_digest_137 2 rfl ?_
    refine r_iconst S (3 : Int32) dX7_digest_139 rfl ?_
    refine r_icmp_gt S 160 dX7_digest_140 (by decide) (fun c => ?_) (fun c => ?_)
    · rw [if_pos c] at hE
      obtain rfl := si1 hE
      rcases hD with h1 | ⟨_, h1⟩
      · obtain rfl := sir h1
        exact r_sub [0, 1] rfl hX
      · exact (sil h1).elim
    · rw [if_neg c] at hE
      refine r_lload_n S dX7_digest_143 1 rfl ?_
      refine r_aload_n S dX7_digest_144 0 rfl ?_
      refine r_iload S dX7_digest_145 2 rfl ?_
      obtain ⟨x1, h9, hE⟩ := b1_some hE
      refine rc_L S (rn_V S fc7 (by decide) (c_LL_balanceValue _ _ (gYX S) v4 M _ h9) wdX7_balanceValue q_477 ⟨Nat.le_of_ble_eq_true rfl, Nat.le_of_ble_eq_true rfl⟩ rfl (Nat.le_of_ble_eq_true rfl) dX7_digest_147) ?_
      refine rc_L S (rn_S S (c_LL_mix _ _ (gYX S) v1 x1 M _ rfl) wdX7_mix q_439 ⟨Nat.le_of_ble_eq_true rfl, Nat.le_of_ble_eq_true rfl⟩ rfl (Nat.le_of_ble_eq_true rfl) dX7_digest_150) ?_
      refine r_lstore_n (lv2 := [(1, .long (LL_mix v1 x1)), (0, .ref (hY X.2.1.2 + 0)), (4, .int v4)]) S dX7_digest_153 (by decide) rfl ?_
      refine r_iinc (lv2 := [(4, .int (v4 + (1 : Int32))), (1, .long (LL_mix v1 x1)), (0, .ref (hY X.2.1.2 + 0))]) S dX7_digest_154 (j := 2) rfl (by decide) rfl ?_
      refine r_goto S 137 dX7_digest_157 (by decide) ?_
      obtain rfl := si1 hE
      exact r_sub (lv2 := [(0, .ref (hY X.2.1.2 + 0)), (1, .long (LL_mix v1 x1)), (4, .int (v4 + (1 : Int32)))]) [2, 1, 0] rfl (hC ((LL_mix v1 x1), (v4 + (1 : Int32))) rfl)
  have L104 : ∀ (v3 : Int32) (e : (Int64)), AW X 134 [(0, .ref (hY X.2.1.2 + 0)), (1, .long e)] [] M → ∀ (n : Nat) (s : Int64 × Int32), lpR (fun s => LL_digest_L104 v3 s.1 s.2 M) n s = some e → AW X 104 [(0, .ref (hY X.2.1.2 + 0)), (1, .long s.1), (3, .int v3), (4, .int s.2)] [] M := by
    intro v3 e hX
    refine lpR_ind (P := fun (s : Int64 × Int32) => AW X 104 [(0, .ref (hY X.2.1.2 + 0)), (1, .long s.1), (3, .int v3), (4, .int s.2)] [] M) ?_
    rintro ⟨v1, v4⟩ d hE hC hD
    replace hE : LL_digest_L104 v3 v1 v4 M = some d := hE
    show AW X 104 [(0, .ref (hY X.2.1.2 + 0)), (1, .long v1), (3, .int v3), (4, .int v4)] [] M
    unfold LL_digest_L104 at hE
    refine r_iload S dX7_digest_104 3 rfl ?_
    refine r_iload_n S dX7_digest_106 2 rfl ?_
    refine r_icmp_ge S 134 dX7_digest_107 (by decide) (fun c => ?_) (fun c => ?_)
    · rw [if_pos c] at hE
      obtain rfl := si1 hE
      rcases hD with h1 | ⟨_, h1⟩
      · obtain rfl := sir h1
        exact r_sub [0, 1] rfl hX
      · exact (sil h1).elim
    · rw [if_neg c] at hE
      refine r_aload_n S dX7_digest_110 0 rfl ?_
      refine r_lload_n S dX7_digest_111 1 rfl ?_
      refine r_aload_n S dX7_digest_112 0 rfl ?_
      refine r_getRK S fc7 (by decide) 0 1 rfl rfl q_50 dX7_digest_113 ?_
      refine r_getRKN S fc6 (by decide) 2 20 rfl rfl q_51 dX7_digest_116 ?_
      refine r_iload S dX7_digest_119 3 rfl ?_
      obtain ⟨x1, h9, hE⟩ := b1_some hE
      refine rc_I S (rn_V S fc1 (by decide) (c_LK_placeOf _ _ (gYX S) 20 (by decide) v4 M _ h9) wdX1_placeOf q_467 ⟨Nat.le_of_ble_eq_true rfl, Nat.le_of_ble_eq_true rfl⟩ rfl (Nat.le_of_ble_eq_true rfl) dX7_digest_121) ?_
      obtain ⟨x2, h9, hE⟩ := b1_some hE
      refine rc_L S (rn_V S fc7 (by decide) (c_LL_mixLake _ _ (gYX S) v1 x1 M _ h9) wdX7_mixLake q_472 ⟨Nat.le_of_ble_eq_true rfl, Nat.le_of_ble_eq_true rfl⟩ rfl (Nat.le_of_ble_eq_true rfl) dX7_digest_124) ?_
      refine r_lstore_n (lv2 := [(1, .long x2), (0, .ref (hY X.2.1.2 + 0)), (3, .int v3), (4, .int v4)]) S dX7_digest_127 (by decide) rfl ?_
      refine r_iinc (lv2 := [(4, .int (v4 + (1 : Int32))), (1, .long x2), (0, .ref (hY X.2.1.2 + 0)), (3, .int v3)]) S dX7_digest_128 (j := 3) rfl (by decide) rfl ?_
      refine r_goto S 104 dX7_digest_131 (by decide) ?_
      obtain rfl := si1 hE
      exact r_sub (lv2 := [(0, .ref (hY X.2.1.2 + 0)), (1, .long x2), (3, .int v3), (4, .int (v4 + (1 : Int32)))]) [2, 1, 3, 0] rfl (hC (x2, (v4 + (1 : Int32))) rfl)
  have L59 : ∀ (v3 : Int32) (e : (Int64)), AW X 84 [(0, .ref (hY X.2.1.2 + 0)), (1, .long e), (3, .int v3)] [] M → ∀ (n : Nat) (s : Int64 × Int32), lpR (fun s => LL_digest_L59 v3 s.1 s.2 M) n s = some e → AW X 59 [(0, .ref (hY X.2.1.2 + 0)), (1, .long s.1), (3, .int v3), (4, .int s.2)] [] M := by
    intro v3 e hX
    refine lpR_ind (P := fun (s : Int64 × Int32) => AW X 59 [(0, .ref (hY X.2.1.2 + 0)), (1, .long s.1), (3, .int v3), (4, .int s.2)] [] M) ?_
    rintro ⟨v1, v4⟩ d hE hC hD
    replace hE : LL_digest_L59 v3 v1 v4 M = some d := hE
    show AW X 59 [(0, .ref (hY X.2.1.2 + 0)), (1, .long v1), (3, .int v3), (4, .int v4)] [] M
    unfold LL_digest_L59 at hE
    refine r_iload S dX7_digest_59 3 rfl ?_
    refine r_iconst S (5 : Int32) dX7_digest_61 rfl ?_
    refine r_icmp_gt S 84 dX7_digest_62 (by decide) (fun c => ?_) (fun c => ?_)
    · rw [if_pos c] at hE
      obtain rfl := si1 hE
      rcases hD with h1 | ⟨_, h1⟩
      · obtain rfl := sir h1
        exact r_sub [0, 1, 2] rfl hX
      · exact (sil h1).elim
    · rw [if_neg c] at hE
      refine r_lload_n S dX7_digest_65 1 rfl ?_
      refine r_aload_n S dX7_digest_66 0 rfl ?_
      refine r_iload_n S dX7_digest_67 2 rfl ?_
      refine r_iload S dX7_digest_68 3 rfl ?_
      obtain ⟨x1, h9, hE⟩ := b1_some hE
      refine rc_I S (rn_V S fc7 (by decide) (c_LL_cellValue _ _ (gYX S) v3 v4 M _ h9) wdX7_cellValue q_462 ⟨Nat.le_of_ble_eq_true rfl, Nat.le_of_ble_eq_true rfl⟩ rfl (Nat.le_of_ble_eq_true rfl) dX7_digest_70) ?_
      refine r_i2l S dX7_digest_73 ?_
      refine rc_L S (rn_S S (c_LL_mix _ _ (gYX S) v1 x1.toInt64 M _ rfl) wdX7_mix q_439 ⟨Nat.le_of_ble_eq_true rfl, Nat.le_of_ble_eq_true rfl⟩ rfl (Nat.le_of_ble_eq_true rfl) dX7_digest_74) ?_
      refine r_lstore_n (lv2 := [(1, .long (LL_mix v1 x1.toInt64)), (0, .ref (hY X.2.1.2 + 0)), (3, .int v3), (4, .int v4)]) S dX7_digest_77 (by decide) rfl ?_
      refine r_iinc (lv2 := [(4, .int (v4 + (1 : Int32))), (1, .long (LL_mix v1 x1.toInt64)), (0, .ref (hY X.2.1.2 + 0)), (3, .int v3)]) S dX7_digest_78 (j := 3) rfl (by decide) rfl ?_
      refine r_goto S 59 dX7_digest_81 (by decide) ?_
      obtain rfl := si1 hE
      exact r_sub (lv2 := [(0, .ref (hY X.2.1.2 + 0)), (1, .long (LL_mix v1 x1.toInt64)), (3, .int v3), (4, .int (v4 + (1 : Int32)))]) [2, 1, 3, 0] rfl (hC ((LL_mix v1 x1.toInt64), (v4 + (1 : Int32))) rfl)
  have L42 : ∀ (e : (Int64)), AW X 90 [(0, .ref (hY X.2.1.2 + 0)), (1, .long e)] [] M → ∀ (n : Nat) (s : Int64 × Int32), lpR (fun s => LL_digest_L42 s.1 s.2 M) n s = some e → AW X 42 [(0, .ref (hY X.2.1.2 + 0)), (1, .long s.1), (3, .int s.2)] [] M := by
    intro e hX
    refine lpR_ind (P := fun (s : Int64 × Int32) => AW X 42 [(0, .ref (hY X.2.1.2 + 0)), (1, .long s.1), (3, .int s.2)] [] M) ?_
    rintro ⟨v1, v3⟩ d hE hC hD
    replace hE : LL_digest_L42 v1 v3 M = some d := hE
    show AW X 42 [(0, .ref (hY X.2.1.2 + 0)), (1, .long v1), (3, .int v3)] [] M
    unfold LL_digest_L42 at hE
    refine r_iload_n S dX7_digest_42 2 rfl ?_
    refine r_aload_n S dX7_digest_43 0 rfl ?_
    refine r_getRK S fc7 (by decide) 0 1 rfl rfl q_50 dX7_digest_44 ?_
    refine r_getRKN S fc6 (by decide) 0 2 rfl rfl q_54 dX7_digest_47 ?_
    refine r_getIN S fc0 (by decide) 2 rfl q_80 dX7_digest_50 ?_
    refine r_icmp_ge S 90 dX7_digest_53 (by decide) (fun c => ?_) (fun c => ?_)
    · rw [if_pos c] at hE
      obtain rfl := si1 hE
      rcases hD with h1 | ⟨_, h1⟩
      · obtain rfl := sir h1
        exact r_sub [0, 1] rfl hX
      · exact (sil h1).elim
    · rw [if_neg c] at hE
      refine r_iconst S (0 : Int32) dX7_digest_56 rfl ?_
      refine r_istore (lv2 := [(4, .int (0 : Int32)), (0, .ref (hY X.2.1.2 + 0)), (1, .long v1), (3, .int v3)]) S dX7_digest_57 (by decide) rfl ?_
      obtain ⟨e1, h9, hE⟩ := b1_some hE
      refine r_sub [1, 2, 3, 0] rfl (L59 v3  e1 ?_ _ _  h9)
      refine r_iinc (lv2 := [(3, .int (v3 + (1 : Int32))), (0, .ref (hY X.2.1.2 + 0)), (1, .long e1)]) S dX7_digest_84 (j := 2) rfl (by decide) rfl ?_
      refine r_goto S 42 dX7_digest_87 (by decide) ?_
      obtain rfl := si1 hE
      exact r_sub (lv2 := [(0, .ref (hY X.2.1.2 + 0)), (1, .long e1), (3, .int (v3 + (1 : Int32)))]) [1, 2, 0] rfl (hC (e1, (v3 + (1 : Int32))) rfl)
  have L17 : ∀ (e : (Int64)), AW X 40 [(0, .ref (hY X.2.1.2 + 0)), (1, .long e)] [] M → ∀ (n : Nat) (s : Int64 × Int32), lpR (fun s => LL_digest_L17 s.1 s.2 M) n s = some e → AW X 17 [(0, .ref (hY X.2.1.2 + 0)), (1, .long s.1), (3, .int s.2)] [] M := by
    intro e hX
    refine lpR_ind (P := fun (s : Int64 × Int32) => AW X 17 [(0, .ref (hY X.2.1.2 + 0)), (1, .long s.1), (3, .int s.2)] [] M) ?_
    rintro ⟨v1, v3⟩ d hE hC hD
    replace hE : LL_digest_L17 v1 v3 M = some d := hE
    show AW X 17 [(0, .ref (hY X.2.1.2 + 0)), (1, .long v1), (3, .int v3)] [] M
    unfold LL_digest_L17 at hE
    refine r_iload_n S dX7_digest_17 2 rfl ?_
    refine r_bipush S (6 : Int32) dX7_digest_18 rfl ?_
    refine r_icmp_gt S 40 dX7_digest_20 (by decide) (fun c => ?_) (fun c => ?_)
    · rw [if_pos c] at hE
      obtain rfl := si1 hE
      rcases hD with h1 | ⟨_, h1⟩
      · obtain rfl := sir h1
        exact r_sub [0, 1] rfl hX
      · exact (sil h1).elim
    · rw [if_neg c] at hE
      refine r_lload_n S dX7_digest_23 1 rfl ?_
      refine r_aload_n S dX7_digest_24 0 rfl ?_
      refine r_iload_n S dX7_digest_25 2 rfl ?_
      obtain ⟨x1, h9, hE⟩ := b1_some hE
      refine rc_I S (rn_V S fc7 (by decide) (c_LL_countValue _ _ (gYX S) v3 M _ h9) wdX7_countValue q_457 ⟨Nat.le_of_ble_eq_true rfl, Nat.le_of_ble_eq_true rfl⟩ rfl (Nat.le_of_ble_eq_true rfl) dX7_digest_26) ?_
      refine r_i2l S dX7_digest_29 ?_
      refine rc_L S (rn_S S (c_LL_mix _ _ (gYX S) v1 x1.toInt64 M _ rfl) wdX7_mix q_439 ⟨Nat.le_of_ble_eq_true rfl, Nat.le_of_ble_eq_true rfl⟩ rfl (Nat.le_of_ble_eq_true rfl) dX7_digest_30) ?_
      refine r_lstore_n (lv2 := [(1, .long (LL_mix v1 x1.toInt64)), (0, .ref (hY X.2.1.2 + 0)), (3, .int v3)]) S dX7_digest_33 (by decide) rfl ?_
      refine r_iinc (lv2 := [(3, .int (v3 + (1 : Int32))), (1, .long (LL_mix v1 x1.toInt64)), (0, .ref (hY X.2.1.2 + 0))]) S dX7_digest_34 (j := 2) rfl (by decide) rfl ?_
      refine r_goto S 17 dX7_digest_37 (by decide) ?_
      obtain rfl := si1 hE
      exact r_sub (lv2 := [(0, .ref (hY X.2.1.2 + 0)), (1, .long (LL_mix v1 x1.toInt64)), (3, .int (v3 + (1 : Int32)))]) [2, 1, 0] rfl (hC ((LL_mix v1 x1.toInt64), (v3 + (1 : Int32))) rfl)
  unfold LL_digest at hE
  refine r_ldc2 S (v := 3049) q_456 dX7_digest_0 ?_
  refine r_aload_n S dX7_digest_3 0 rfl ?_
  refine r_getRK S fc7 (by decide) 3 94 rfl rfl q_86 dX7_digest_4 ?_
  refine r_getIN S fc2 (by decide) 1 rfl q_87 dX7_digest_7 ?_
  refine r_i2l S dX7_digest_10 ?_
  refine rc_L S (rn_S S (c_LL_mix _ _ (gYX S) (3049 : Int64) ((gI M 94 1).toInt64) M _ rfl) wdX7_mix q_439 ⟨Nat.le_of_ble_eq_true rfl, Nat.le_of_ble_eq_true rfl⟩ rfl (Nat.le_of_ble_eq_true rfl) dX7_digest_11) ?_
  refine r_lstore_n (lv2 := [(1, .long (LL_mix (3049 : Int64) ((gI M 94 1).toInt64))), (0, .ref (hY X.2.1.2 + 0))]) S dX7_digest_14 (by decide) rfl ?_
  refine r_iconst S (0 : Int32) dX7_digest_15 rfl ?_
  refine r_istore_n (lv2 := [(3, .int (0 : Int32)), (1, .long (LL_mix (3049 : Int64) ((gI M 94 1).toInt64))), (0, .ref (hY X.2.1.2 + 0))]) S dX7_digest_16 (by decide) rfl ?_
  obtain ⟨e1, h9, hE⟩ := b1_some hE
  refine r_sub [2, 1, 0] rfl (L17   e1 ?_ _ _  h9)
  refine r_iconst S (0 : Int32) dX7_digest_40 rfl ?_
  refine r_istore_n (lv2 := [(3, .int (0 : Int32)), (0, .ref (hY X.2.1.2 + 0)), (1, .long e1)]) S dX7_digest_41 (by decide) rfl ?_
  obtain ⟨e2, h9, hE⟩ := b1_some hE
  refine r_sub [1, 2, 0] rfl (L42   e2 ?_ _ _  h9)
  refine r_aload_n S dX7_digest_90 0 rfl ?_
  refine r_getRK S fc7 (by decide) 0 1 rfl rfl q_50 dX7_digest_91 ?_
  refine r_getRKN S fc6 (by decide) 2 20 rfl rfl q_51 dX7_digest_94 ?_
  obtain ⟨x3, h9, hE⟩ := b1_some hE
  refine rc_I S (rn_V S fc1 (by decide) (c_LK_total _ _ (gYX S) 20 (by decide) M _ h9) wdX1_total q_400 ⟨Nat.le_of_ble_eq_true rfl, Nat.le_of_ble_eq_true rfl⟩ rfl (Nat.le_of_ble_eq_true rfl) dX7_digest_97) ?_
  refine r_istore_n (lv2 := [(3, .int x3), (0, .ref (hY X.2.1.2 + 0)), (1, .long e2)]) S dX7_digest_100 (by decide) rfl ?_
  refine r_iconst S (0 : Int32) dX7_digest_101 rfl ?_
  refine r_istore (lv2 := [(4, .int (0 : Int32)), (3, .int x3), (0, .ref (hY X.2.1.2 + 0)), (1, .long e2)]) S dX7_digest_102 (by decide) rfl ?_
  obtain ⟨e4, h9, hE⟩ := b1_some hE
  refine r_sub [2, 3, 1, 0] rfl (L104 x3  e4 ?_ _ _  h9)
  refine r_iconst S (0 : Int32) dX7_digest_134 rfl ?_
  refine r_istore (lv2 := [(4, .int (0 : Int32)), (0, .ref (hY X.2.1.2 + 0)), (1, .long e4)]) S dX7_digest_135 (by decide) rfl ?_
  obtain ⟨e5, h9, hE⟩ := b1_some hE
  refine r_sub [1, 2, 0] rfl (L137   e5 ?_ _ _  h9)
  refine r_lload_n S dX7_digest_160 1 rfl ?_
  refine r_aload_n S dX7_digest_161 0 rfl ?_
  refine r_getI S fc7 (by decide) 4 rfl q_248 dX7_digest_162 ?_
  refine r_i2l S dX7_digest_165 ?_
  refine rc_L S (rn_S S (c_LL_mix _ _ (gYX S) e5 ((gI M 0 4).toInt64) M _ rfl) wdX7_mix q_439 ⟨Nat.le_of_ble_eq_true rfl, Nat.le_of_ble_eq_true rfl⟩ rfl (Nat.le_of_ble_eq_true rfl) dX7_digest_166) ?_
  obtain rfl := si1 hE
  exact hret _ _ dX7_digest_169
set_option maxRecDepth 100000 in
set_option maxHeartbeats 4000000 in
theorem c_LK_fill (l : Launch) (Y : Env1) (hG : gY Y = gC) (o : Nat) (ho : kC o = 1) (a1 : Int32) (a2 : Int32) (M : Mem) (r : Int32) (M1 : Mem) (hE : LK_fill o a1 a2 M = some (r, M1)) : CnI l Y yX1_fill cX1_fill 5 .int 1 [.ref (hY Y + o), .int a1, .int a2] M r M1 := by
  refine met_I (own := RX1) (by decide +kernel) rfl hG (Nat.le_of_ble_eq_true rfl) (fun X S hY1 hl1 hret => ?_)
  subst hY1
  subst hl1
  show AW X 0 [(0, .ref (hY X.2.1.2 + o)), (1, .int a1), (2, .int a2)] [] M
  have J39 : ∀ (v0 : Nat) (k0 : kC v0 = 1) (v1 : Int32) (v3 : Int32) (t0 : Int32) (M : Mem), LK_fill_J39 v0 v1 v3 t0 M = some (r, M1) → AW X 39 [(0, .ref (hY X.2.1.2 + v0)), (1, .int v1), (3, .int v3)] [.int t0] M := by
    intro v0 k0 v1 v3 t0 M hE
    unfold LK_fill_J39 at hE
    refine r_istore (lv2 := [(4, .int t0), (0, .ref (hY X.2.1.2 + v0)), (1, .int v1), (3, .int v3)]) S dX1_fill_39 (by decide) rfl ?_
    refine r_aload_n S dX1_fill_41 1 rfl ?_
    refine r_getRK S fc1 k0 1 (v0 + 3) rfl rfl q_41 dX1_fill_42 ?_
    refine r_iload_n S dX1_fill_45 2 rfl ?_
    refine r_iload_n S dX1_fill_46 3 rfl ?_
    refine r_iload S dX1_fill_47 0 rfl ?_
    refine r_iadd S dX1_fill_49 ?_
    refine rc_V S (rn_V S fc3 (kk1_3 k0) (c_NR_put _ _ (gYX S) (v0 + 3) (kk1_3 k0) v1 (v3 + t0) M _ rfl) wdX3_put q_308 ⟨Nat.le_of_ble_eq_true rfl, Nat.le_of_ble_eq_true rfl⟩ rfl (Nat.le_of_ble_eq_true rfl) dX1_fill_50) ?_
    refine r_iload S dX1_fill_53 0 rfl ?_
    obtain ⟨rfl, rfl⟩ := si2 hE
    exact hret _ _ dX1_fill_55
  unfold LK_fill at hE
  refine r_aload_n S dX1_fill_0 0 rfl ?_
  refine r_getRK S fc1 ho 1 (o + 3) rfl rfl q_41 dX1_fill_1 ?_
  refine r_iload_n S dX1_fill_4 1 rfl ?_
  refine rc_I S (rn_V S fc3 (kk1_3 ho) (c_NR_at _ _ (gYX S) (o + 3) (kk1_3 ho) a1 M _ rfl) wdX3_at q_31 ⟨Nat.le_of_ble_eq_true rfl, Nat.le_of_ble_eq_true rfl⟩ rfl (Nat.le_of_ble_eq_true rfl) dX1_fill_5) ?_
  refine r_istore_n (lv2 := [(3, .int (fAtI (o + 3) a1 M)), (0, .ref (hY X.2.1.2 + o)), (1, .int a1), (2, .int a2)]) S dX1_fill_8 (by decide) rfl ?_
  refine r_aload_n S dX1_fill_9 1 rfl ?_
  refine r_getRK S fc1 ho 3 (o + 7) rfl rfl q_210 dX1_fill_10 ?_
  refine r_iload_n S dX1_fill_13 2 rfl ?_
  refine rc_I S (rn_V S fc3 (kk1_7 ho) (c_NR_at _ _ (gYX S) (o + 7) (kk1_7 ho) a1 M _ rfl) wdX3_at q_31 ⟨Nat.le_of_ble_eq_true rfl, Nat.le_of_ble_eq_true rfl⟩ rfl (Nat.le_of_ble_eq_true rfl) dX1_fill_14) ?_
  refine r_iconst S (-1 : Int32) dX1_fill_17 rfl ?_
  refine r_icmp_ne S 25 dX1_fill_18 (by decide) (fun c => ?_) (fun c => ?_)
  · try simp only [if_pos c] at hE
    refine r_iload_n S dX1_fill_25 3 rfl ?_
    refine r_aload_n S dX1_fill_26 1 rfl ?_
    refine r_getRK S fc1 ho 2 (o + 5) rfl rfl q_209 dX1_fill_27 ?_
    refine r_iload_n S dX1_fill_30 2 rfl ?_
    refine rc_I S (rn_V S fc3 (kk1_5 ho) (c_NR_at _ _ (gYX S) (o + 5) (kk1_5 ho) a1 M _ rfl) wdX3_at q_31 ⟨Nat.le_of_ble_eq_true rfl, Nat.le_of_ble_eq_true rfl⟩ rfl (Nat.le_of_ble_eq_true rfl) dX1_fill_31) ?_
    refine r_iload_n S dX1_fill_34 0 rfl ?_
    refine r_isub S dX1_fill_35 ?_
    refine r_mmin S q_482 q_11 q_12 q_13 (by decide) (Nat.le_of_ble_eq_true rfl) dX1_fill_36 ?_
    exact r_sub [1, 2, 0] rfl (J39 o ho a1 (fAtI (o + 3) a1 M) (JM_min a2 ((fAtI (o + 5) a1 M) - (fAtI (o + 3) a1 M))) M hE)
  · try simp only [if_neg (not_not_intro c)] at hE
    refine r_iload_n S dX1_fill_21 3 rfl ?_
    refine r_goto S 39 dX1_fill_22 (by decide) ?_
    exact r_sub [1, 2, 0] rfl (J39 o ho a1 (fAtI (o + 3) a1 M) a2 M hE)
set_option maxRecDepth 100000 in
set_option maxHeartbeats 4000000 in
theorem c_LK_freePlace (l : Launch) (Y : Env1) (hG : gY Y = gC) (o : Nat) (ho : kC o = 1) (M : Mem) (r : Int32) (hE : LK_freePlace o M = some r) : CnI l Y yX1_freePlace cX1_freePlace 2 .int 1 [.ref (hY Y + o)] M r M := by
  refine met_I (own := RX1) (by decide +kernel) rfl hG (Nat.le_of_ble_eq_true rfl) (fun X S hY1 hl1 hret => ?_)
  subst hY1
  subst hl1
  show AW X 0 [(0, .ref (hY X.2.1.2 + o))] [] M
  have L2 : ∀ (v0 : Nat) (k0 : kC v0 = 1) (q : ((Unit) ⊕ Int32)), (∀ e, q = .inl e → AW X 29 [] [] M) → (∀ r8, q = .inr r8 → r8 = r) → ∀ (n : Nat) (s : Int32), lpR (fun s => LK_freePlace_L2 v0 s M) n s = some q → AW X 2 [(0, .ref (hY X.2.1.2 + v0)), (1, .int s)] [] M := by
    intro v0 k0 q hX hR
    refine lpR_ind (P := fun (s : Int32) => AW X 2 [(0, .ref (hY X.2.1.2 + v0)), (1, .int s)] [] M) ?_
    rintro v1 d hE hC hD
    replace hE : LK_freePlace_L2 v0 v1 M = some d := hE
    show AW X 2 [(0, .ref (hY X.2.1.2 + v0)), (1, .int v1)] [] M
    unfold LK_freePlace_L2 at hE
    refine r_iload_n S dX1_freePlace_2 1 rfl ?_
    refine r_bipush S (71 : Int32) dX1_freePlace_3 rfl ?_
    refine r_icmp_ge S 29 dX1_freePlace_5 (by decide) (fun c => ?_) (fun c => ?_)
    · rw [if_pos c] at hE
      obtain rfl := si1 hE
      rcases hD with h1 | ⟨_, h1⟩
      · obtain rfl := sir h1
        exact r_sub [] rfl (hX _ rfl)
      · exact (sil h1).elim
    · rw [if_neg c] at hE
      refine r_aload_n S dX1_freePlace_8 0 rfl ?_
      refine r_getRK S fc1 k0 0 (v0 + 1) rfl rfl q_23 dX1_freePlace_9 ?_
      refine r_iload_n S dX1_freePlace_12 1 rfl ?_
      refine rc_L S (rn_V S fc4 (kk1_1 k0) (c_SR_at _ _ (gYX S) (v0 + 1) (kk1_1 k0) v1 M _ rfl) wdX4_at q_24 ⟨Nat.le_of_ble_eq_true rfl, Nat.le_of_ble_eq_true rfl⟩ rfl (Nat.le_of_ble_eq_true rfl) dX1_freePlace_13) ?_
      refine r_lconst S (0 : Int64) dX1_freePlace_16 rfl ?_
      refine r_lcmp_ne S 23 dX1_freePlace_17 dX1_freePlace_18 (by decide) (fun c => ?_) (fun c => ?_)
      · rw [if_pos c] at hE
        refine r_iinc (lv2 := [(1, .int (v1 + (1 : Int32))), (0, .ref (hY X.2.1.2 + v0))]) S dX1_freePlace_23 (j := 1) rfl (by decide) rfl ?_
        refine r_goto S 2 dX1_freePlace_26 (by decide) ?_
        obtain rfl := si1 hE
        exact r_sub (lv2 := [(0, .ref (hY X.2.1.2 + v0)), (1, .int (v1 + (1 : Int32)))]) [1, 0] rfl (hC (v1 + (1 : Int32)) rfl)
      · rw [if_neg (not_not_intro c)] at hE
        refine r_iload_n S dX1_freePlace_21 1 rfl ?_
        obtain rfl := si1 hE
        rcases hD with h1 | ⟨_, h1⟩
        · obtain rfl := sir h1
          obtain rfl := hR _ rfl
          exact hret _ _ dX1_freePlace_22
        · exact (sil h1).elim
  unfold LK_freePlace at hE
  refine r_iconst S (0 : Int32) dX1_freePlace_0 rfl ?_
  refine r_istore_n (lv2 := [(1, .int (0 : Int32)), (0, .ref (hY X.2.1.2 + o))]) S dX1_freePlace_1 (by decide) rfl ?_
  obtain ⟨e1, h9, hE⟩ := b1_some hE
  refine r_sub [1, 0] rfl (L2 o ho  e1 (fun e2 h8 => ?_) (fun r8 h8 => ?_) _ _  h9)
  · subst h8
    refine r_iconst S (-1 : Int32) dX1_freePlace_29 rfl ?_
    obtain rfl := si1 hE
    exact hret _ _ dX1_freePlace_30
  · subst h8
    exact si1 hE
