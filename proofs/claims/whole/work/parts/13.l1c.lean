set_option maxRecDepth 100000 in
set_option maxHeartbeats 4000000 in
theorem c_LK_pourInto (l : Launch) (Y : Env1) (hG : gY Y = gC) (o : Nat) (ho : kC o = 1) (a1 : Nat) (k1 : kC a1 = 0) (a2 : Int32) (a3 : Int32) (M : Mem) (r : Int32) (M1 : Mem) (hE : LK_pourInto o a1 a2 a3 M = some (r, M1)) : CnI l Y yX1_pourInto cX1_pourInto 10 .int 3 [.ref (hY Y + o), .ref (hY Y + a1), .int a2, .int a3] M r M1 := by
  refine met_I (own := RX1) (by decide +kernel) rfl hG (Nat.le_of_ble_eq_true rfl) (fun X S hY1 hl1 hret => ?_)
  subst hY1
  subst hl1
  show AW X 0 [(0, .ref (hY X.2.1.2 + o)), (1, .ref (hY X.2.1.2 + a1)), (2, .int a2), (3, .int a3)] [] M
  have L9 : ∀ (v0 : Nat) (k0 : kC v0 = 1) (v1 : Nat) (k1 : kC v1 = 0) (q : ((Unit) ⊕ Int32)) (M2 : Mem), (∀ e, q = .inl e → AW X 148 [] [] M2) → (∀ r8, q = .inr r8 → (r8 = r ∧ M2 = M1)) → ∀ (n : Nat) (s : Int32 × Int32 × Int32) (M : Mem), lpM (fun s M => LK_pourInto_L9 v0 v1 s.1 s.2.1 s.2.2 M) n s M = some (q, M2) → AW X 9 [(0, .ref (hY X.2.1.2 + v0)), (1, .ref (hY X.2.1.2 + v1)), (4, .int s.1), (5, .int s.2.1), (6, .int s.2.2)] [] M := by
    intro v0 k0 v1 k1 q M2 hX hR
    refine lpM_ind (P := fun (s : Int32 × Int32 × Int32) (M : Mem) => AW X 9 [(0, .ref (hY X.2.1.2 + v0)), (1, .ref (hY X.2.1.2 + v1)), (4, .int s.1), (5, .int s.2.1), (6, .int s.2.2)] [] M) ?_
    rintro ⟨v4, v5, v6⟩ M d M3 hE hC hD
    replace hE : LK_pourInto_L9 v0 v1 v4 v5 v6 M = some (d, M3) := hE
    show AW X 9 [(0, .ref (hY X.2.1.2 + v0)), (1, .ref (hY X.2.1.2 + v1)), (4, .int v4), (5, .int v5), (6, .int v6)] [] M
    have J119 : ∀ (v4 : Int32) (v5 : Int32) (v6 : Int32) (v8 : Int32) (t0 : Int32) (M : Mem), LK_pourInto_L9_J119 v0 v1 v4 v5 v6 v8 t0 M = some (d, M3) → AW X 119 [(0, .ref (hY X.2.1.2 + v0)), (1, .ref (hY X.2.1.2 + v1)), (4, .int v4), (5, .int v5), (6, .int v6), (8, .int v8)] [.int t0] M := by
      intro v4 v5 v6 v8 t0 M hE
      unfold LK_pourInto_L9_J119 at hE
      refine r_istore (lv2 := [(9, .int t0), (0, .ref (hY X.2.1.2 + v0)), (1, .ref (hY X.2.1.2 + v1)), (4, .int v4), (5, .int v5), (6, .int v6), (8, .int v8)]) S dX1_pourInto_119 (by decide) rfl ?_
      refine r_iload S dX1_pourInto_121 0 rfl ?_
      refine r_if_eq S 138 dX1_pourInto_123 (by decide) (fun c => ?_) (fun c => ?_)
      · rw [if_pos c] at hE
        refine r_iload S dX1_pourInto_138 6 rfl ?_
        refine r_istore (lv2 := [(4, .int v8), (9, .int t0), (0, .ref (hY X.2.1.2 + v0)), (1, .ref (hY X.2.1.2 + v1)), (5, .int v5), (6, .int v6), (8, .int v8)]) S dX1_pourInto_140 (by decide) rfl ?_
        refine r_iinc (lv2 := [(6, .int (v6 + (1 : Int32))), (4, .int v8), (9, .int t0), (0, .ref (hY X.2.1.2 + v0)), (1, .ref (hY X.2.1.2 + v1)), (5, .int v5), (8, .int v8)]) S dX1_pourInto_142 (j := 5) rfl (by decide) rfl ?_
        refine r_goto S 9 dX1_pourInto_145 (by decide) ?_
        obtain ⟨rfl, rfl⟩ := si2 hE
        exact r_sub (lv2 := [(0, .ref (hY X.2.1.2 + v0)), (1, .ref (hY X.2.1.2 + v1)), (4, .int v8), (5, .int v5), (6, .int (v6 + (1 : Int32)))]) [3, 4, 1, 5, 0] rfl (hC (v8, v5, (v6 + (1 : Int32))) rfl)
      · rw [if_neg c] at hE
        refine r_aload_n S dX1_pourInto_126 1 rfl ?_
        refine r_aload_n S dX1_pourInto_127 2 rfl ?_
        refine r_iload S dX1_pourInto_128 3 rfl ?_
        refine r_iload S dX1_pourInto_130 6 rfl ?_
        obtain ⟨x1, M2, h9, hE⟩ := b2_some hE
        refine rc_I S (rn_V S fc1 k0 (c_LK_join _ _ (gYX S) v0 k0 v1 k1 v4 v8 M _ _ h9) wdX1_join q_191 ⟨Nat.le_of_ble_eq_true rfl, Nat.le_of_ble_eq_true rfl⟩ rfl (Nat.le_of_ble_eq_true rfl) dX1_pourInto_132) ?_
        refine r_goto S 140 dX1_pourInto_135 (by decide) ?_
        refine r_istore (lv2 := [(4, .int x1), (9, .int t0), (0, .ref (hY X.2.1.2 + v0)), (1, .ref (hY X.2.1.2 + v1)), (5, .int v5), (6, .int v6), (8, .int v8)]) S dX1_pourInto_140 (by decide) rfl ?_
        refine r_iinc (lv2 := [(6, .int (v6 + (1 : Int32))), (4, .int x1), (9, .int t0), (0, .ref (hY X.2.1.2 + v0)), (1, .ref (hY X.2.1.2 + v1)), (5, .int v5), (8, .int v8)]) S dX1_pourInto_142 (j := 5) rfl (by decide) rfl ?_
        refine r_goto S 9 dX1_pourInto_145 (by decide) ?_
        obtain ⟨rfl, rfl⟩ := si2 hE
        exact r_sub (lv2 := [(0, .ref (hY X.2.1.2 + v0)), (1, .ref (hY X.2.1.2 + v1)), (4, .int x1), (5, .int v5), (6, .int (v6 + (1 : Int32)))]) [3, 4, 1, 5, 0] rfl (hC (x1, v5, (v6 + (1 : Int32))) rfl)
    have J118 : ∀ (v4 : Int32) (v5 : Int32) (v6 : Int32) (v8 : Int32) (M : Mem), LK_pourInto_L9_J118 v0 v1 v4 v5 v6 v8 M = some (d, M3) → AW X 118 [(0, .ref (hY X.2.1.2 + v0)), (1, .ref (hY X.2.1.2 + v1)), (4, .int v4), (5, .int v5), (6, .int v6), (8, .int v8)] [] M := by
      intro v4 v5 v6 v8 M hE
      unfold LK_pourInto_L9_J118 at hE
      refine r_iconst S (0 : Int32) dX1_pourInto_118 rfl ?_
      exact r_sub [0, 1, 2, 3, 4, 5] rfl (J119 v4 v5 v6 v8 (0 : Int32) M hE)
    unfold LK_pourInto_L9 at hE
    refine r_iload S dX1_pourInto_9 4 rfl ?_
    refine r_ldc S (v := 1000000) q_180 dX1_pourInto_11 ?_
    refine r_icmp_ge S 148 dX1_pourInto_13 (by decide) (fun c => ?_) (fun c => ?_)
    · rw [if_pos c] at hE
      obtain ⟨rfl, rfl⟩ := si2 hE
      rcases hD with ⟨h1, h2⟩ | ⟨_, h1⟩
      · obtain rfl := sir h1
        subst h2
        exact r_sub [] rfl (hX _ rfl)
      · exact (sil h1).elim
    · rw [if_neg c] at hE
      refine r_iload S dX1_pourInto_16 3 rfl ?_
      refine r_if_le S 148 dX1_pourInto_18 (by decide) (fun c => ?_) (fun c => ?_)
      · rw [if_pos c] at hE
        obtain ⟨rfl, rfl⟩ := si2 hE
        rcases hD with ⟨h1, h2⟩ | ⟨_, h1⟩
        · obtain rfl := sir h1
          subst h2
          exact r_sub [] rfl (hX _ rfl)
        · exact (sil h1).elim
      · rw [if_neg c] at hE
        refine r_iload S dX1_pourInto_21 3 rfl ?_
        refine r_aload_n S dX1_pourInto_23 0 rfl ?_
        refine r_iload S dX1_pourInto_24 2 rfl ?_
        refine r_iload S dX1_pourInto_26 3 rfl ?_
        obtain ⟨x1, M2, h9, hE⟩ := b2_some hE
        refine rc_I S (rn_V S fc1 k0 (c_LK_fill _ _ (gYX S) v0 k0 v4 v5 M _ _ h9) wdX1_fill q_181 ⟨Nat.le_of_ble_eq_true rfl, Nat.le_of_ble_eq_true rfl⟩ rfl (Nat.le_of_ble_eq_true rfl) dX1_pourInto_28) ?_
        refine r_isub S dX1_pourInto_31 ?_
        refine r_istore (lv2 := [(5, .int (v5 - x1)), (0, .ref (hY X.2.1.2 + v0)), (1, .ref (hY X.2.1.2 + v1)), (4, .int v4), (6, .int v6)]) S dX1_pourInto_32 (by decide) rfl ?_
        refine r_iload S dX1_pourInto_34 0 rfl ?_
        refine r_if_le S 142 dX1_pourInto_36 (by decide) (fun c => ?_) (fun c => ?_)
        · rw [if_pos c] at hE
          refine r_iinc (lv2 := [(6, .int (v6 + (1 : Int32))), (5, .int (v5 - x1)), (0, .ref (hY X.2.1.2 + v0)), (1, .ref (hY X.2.1.2 + v1)), (4, .int v4)]) S dX1_pourInto_142 (j := 4) rfl (by decide) rfl ?_
          refine r_goto S 9 dX1_pourInto_145 (by decide) ?_
          obtain ⟨rfl, rfl⟩ := si2 hE
          exact r_sub (lv2 := [(0, .ref (hY X.2.1.2 + v0)), (1, .ref (hY X.2.1.2 + v1)), (4, .int v4), (5, .int (v5 - x1)), (6, .int (v6 + (1 : Int32)))]) [2, 3, 4, 1, 0] rfl (hC (v4, (v5 - x1), (v6 + (1 : Int32))) rfl)
        · rw [if_neg c] at hE
          refine r_aload_n S dX1_pourInto_39 1 rfl ?_
          refine r_getRK S fc1 k0 3 (v0 + 7) rfl rfl q_121 dX1_pourInto_40 ?_
          refine r_iload S dX1_pourInto_43 3 rfl ?_
          refine rc_I S (rn_V S fc3 (kk1_7 k0) (c_NR_at _ _ (gYX S) (v0 + 7) (kk1_7 k0) v4 M2 _ rfl) wdX3_at q_31 ⟨Nat.le_of_ble_eq_true rfl, Nat.le_of_ble_eq_true rfl⟩ rfl (Nat.le_of_ble_eq_true rfl) dX1_pourInto_45) ?_
          refine r_istore (lv2 := [(7, .int (fAtI (v0 + 7) v4 M2)), (5, .int (v5 - x1)), (0, .ref (hY X.2.1.2 + v0)), (1, .ref (hY X.2.1.2 + v1)), (4, .int v4), (6, .int v6)]) S dX1_pourInto_48 (by decide) rfl ?_
          refine r_aload_n S dX1_pourInto_50 2 rfl ?_
          refine r_getRK S fc1 k0 8 (v0 + 17) rfl rfl q_86 dX1_pourInto_51 ?_
          refine r_aload_n S dX1_pourInto_54 3 rfl ?_
          refine r_getRKN S fc0 k1 5 (v1 + 3) rfl rfl q_153 dX1_pourInto_55 ?_
          refine r_iload S dX1_pourInto_58 0 rfl ?_
          refine rc_I S (rn_V S fc3 (kk0_3 k1) (c_NR_at _ _ (gYX S) (v1 + 3) (kk0_3 k1) (fAtI (v0 + 7) v4 M2) M2 _ rfl) wdX3_at q_31 ⟨Nat.le_of_ble_eq_true rfl, Nat.le_of_ble_eq_true rfl⟩ rfl (Nat.le_of_ble_eq_true rfl) dX1_pourInto_60) ?_
          refine rc_I S (rn_V S fc3 (kk1_17 k0) (c_NR_at _ _ (gYX S) (v0 + 17) (kk1_17 k0) (fAtI (v1 + 3) (fAtI (v0 + 7) v4 M2) M2) M2 _ rfl) wdX3_at q_31 ⟨Nat.le_of_ble_eq_true rfl, Nat.le_of_ble_eq_true rfl⟩ rfl (Nat.le_of_ble_eq_true rfl) dX1_pourInto_63) ?_
          refine r_istore (lv2 := [(8, .int (fAtI (v0 + 17) (fAtI (v1 + 3) (fAtI (v0 + 7) v4 M2) M2) M2)), (7, .int (fAtI (v0 + 7) v4 M2)), (5, .int (v5 - x1)), (0, .ref (hY X.2.1.2 + v0)), (1, .ref (hY X.2.1.2 + v1)), (4, .int v4), (6, .int v6)]) S dX1_pourInto_66 (by decide) rfl ?_
          refine r_iload S dX1_pourInto_68 0 rfl ?_
          refine r_iconst S (-1 : Int32) dX1_pourInto_70 rfl ?_
          refine r_icmp_ne S 77 dX1_pourInto_71 (by decide) (fun c => ?_) (fun c => ?_)
          · rw [if_pos c] at hE
            refine r_aload_n S dX1_pourInto_77 3 rfl ?_
            refine r_iload S dX1_pourInto_78 0 rfl ?_
            refine rc_I S (rn_V S fc1 k0 (c_LK_isFull _ _ (gYX S) v0 k0 (fAtI (v0 + 17) (fAtI (v1 + 3) (fAtI (v0 + 7) v4 M2) M2) M2) M2 _ rfl) wdX1_isFull q_186 ⟨Nat.le_of_ble_eq_true rfl, Nat.le_of_ble_eq_true rfl⟩ rfl (Nat.le_of_ble_eq_true rfl) dX1_pourInto_80) ?_
            refine r_if_eq S 118 dX1_pourInto_83 (by decide) (fun c => ?_) (fun c => ?_)
            · try simp only [if_pos c] at hE
              refine r_iconst S (0 : Int32) dX1_pourInto_118 rfl ?_
              exact r_sub [3, 4, 5, 2, 6, 0] rfl (J119 v4 (v5 - x1) v6 (fAtI (v0 + 17) (fAtI (v1 + 3) (fAtI (v0 + 7) v4 M2) M2) M2) (0 : Int32) M2 hE)
            · try simp only [if_neg c] at hE
              refine r_aload_n S dX1_pourInto_86 4 rfl ?_
              refine r_getRKN S fc0 k1 7 (v1 + 7) rfl rfl q_154 dX1_pourInto_87 ?_
              refine r_aload_n S dX1_pourInto_90 3 rfl ?_
              refine r_getRK S fc1 k0 3 (v0 + 7) rfl rfl q_121 dX1_pourInto_91 ?_
              refine r_iload S dX1_pourInto_94 0 rfl ?_
              refine rc_I S (rn_V S fc3 (kk1_7 k0) (c_NR_at _ _ (gYX S) (v0 + 7) (kk1_7 k0) (fAtI (v0 + 17) (fAtI (v1 + 3) (fAtI (v0 + 7) v4 M2) M2) M2) M2 _ rfl) wdX3_at q_31 ⟨Nat.le_of_ble_eq_true rfl, Nat.le_of_ble_eq_true rfl⟩ rfl (Nat.le_of_ble_eq_true rfl) dX1_pourInto_96) ?_
              refine rc_I S (rn_V S fc3 (kk0_7 k1) (c_NR_at _ _ (gYX S) (v1 + 7) (kk0_7 k1) (fAtI (v0 + 7) (fAtI (v0 + 17) (fAtI (v1 + 3) (fAtI (v0 + 7) v4 M2) M2) M2) M2) M2 _ rfl) wdX3_at q_31 ⟨Nat.le_of_ble_eq_true rfl, Nat.le_of_ble_eq_true rfl⟩ rfl (Nat.le_of_ble_eq_true rfl) dX1_pourInto_99) ?_
              refine r_aload_n S dX1_pourInto_102 4 rfl ?_
              refine r_getRKN S fc0 k1 7 (v1 + 7) rfl rfl q_154 dX1_pourInto_103 ?_
              refine r_iload S dX1_pourInto_106 1 rfl ?_
              refine rc_I S (rn_V S fc3 (kk0_7 k1) (c_NR_at _ _ (gYX S) (v1 + 7) (kk0_7 k1) (fAtI (v0 + 7) v4 M2) M2 _ rfl) wdX3_at q_31 ⟨Nat.le_of_ble_eq_true rfl, Nat.le_of_ble_eq_true rfl⟩ rfl (Nat.le_of_ble_eq_true rfl) dX1_pourInto_108) ?_
              refine r_icmp_ne S 118 dX1_pourInto_111 (by decide) (fun c => ?_) (fun c => ?_)
              · try simp only [if_pos c] at hE
                refine r_iconst S (0 : Int32) dX1_pourInto_118 rfl ?_
                exact r_sub [3, 4, 5, 2, 6, 0] rfl (J119 v4 (v5 - x1) v6 (fAtI (v0 + 17) (fAtI (v1 + 3) (fAtI (v0 + 7) v4 M2) M2) M2) (0 : Int32) M2 hE)
              · try simp only [if_neg (not_not_intro c)] at hE
                refine r_iconst S (1 : Int32) dX1_pourInto_114 rfl ?_
                refine r_goto S 119 dX1_pourInto_115 (by decide) ?_
                exact r_sub [3, 4, 5, 2, 6, 0] rfl (J119 v4 (v5 - x1) v6 (fAtI (v0 + 17) (fAtI (v1 + 3) (fAtI (v0 + 7) v4 M2) M2) M2) (1 : Int32) M2 hE)
          · rw [if_neg (not_not_intro c)] at hE
            refine r_iload S dX1_pourInto_74 2 rfl ?_
            obtain ⟨rfl, rfl⟩ := si2 hE
            rcases hD with ⟨h1, h2⟩ | ⟨_, h1⟩
            · obtain rfl := sir h1
              subst h2
              obtain ⟨rfl, rfl⟩ := hR _ rfl
              exact hret _ _ dX1_pourInto_76
            · exact (sil h1).elim
  unfold LK_pourInto at hE
  refine r_iload_n S dX1_pourInto_0 2 rfl ?_
  refine r_istore (lv2 := [(4, .int a2), (0, .ref (hY X.2.1.2 + o)), (1, .ref (hY X.2.1.2 + a1)), (2, .int a2), (3, .int a3)]) S dX1_pourInto_1 (by decide) rfl ?_
  refine r_iload_n S dX1_pourInto_3 4 rfl ?_
  refine r_istore (lv2 := [(5, .int a3), (4, .int a2), (0, .ref (hY X.2.1.2 + o)), (1, .ref (hY X.2.1.2 + a1)), (2, .int a2), (3, .int a3)]) S dX1_pourInto_4 (by decide) rfl ?_
  refine r_iconst S (0 : Int32) dX1_pourInto_6 rfl ?_
  refine r_istore (lv2 := [(6, .int (0 : Int32)), (5, .int a3), (4, .int a2), (0, .ref (hY X.2.1.2 + o)), (1, .ref (hY X.2.1.2 + a1)), (2, .int a2), (3, .int a3)]) S dX1_pourInto_7 (by decide) rfl ?_
  obtain ⟨e1, M2, h9, hE⟩ := b2_some hE
  refine r_sub [3, 4, 2, 1, 0] rfl (L9 o ho a1 k1  e1 M2 (fun e3 h8 => ?_) (fun r8 h8 => ?_) _ _ M h9)
  · subst h8
    refine r_iconst S (0 : Int32) dX1_pourInto_148 rfl ?_
    obtain ⟨rfl, rfl⟩ := si2 hE
    exact hret _ _ dX1_pourInto_149
  · subst h8
    exact si2 hE
set_option maxRecDepth 100000 in
set_option maxHeartbeats 4000000 in
theorem c_WD_pourAt (l : Launch) (Y : Env1) (hG : gY Y = gC) (o : Nat) (ho : kC o = 6) (a1 : Int32) (a2 : Int32) (M : Mem) (r : Int32) (M1 : Mem) (hE : WD_pourAt o a1 a2 M = some (r, M1)) : CnI l Y yX6_pourAt cX6_pourAt 5 .int 4 [.ref (hY Y + o), .int a1, .int a2] M r M1 := by
  refine met_I (own := RX6) (by decide +kernel) rfl hG (Nat.le_of_ble_eq_true rfl) (fun X S hY1 hl1 hret => ?_)
  subst hY1
  subst hl1
  show AW X 0 [(0, .ref (hY X.2.1.2 + o)), (1, .int a1), (2, .int a2)] [] M
  have J34 : ∀ (v0 : Nat) (k0 : kC v0 = 6) (t0 : Int32) (M : Mem), WD_pourAt_J34 v0 t0 M = some (r, M1) → AW X 34 [(0, .ref (hY X.2.1.2 + v0))] [.int t0] M := by
    intro v0 k0 t0 M hE
    unfold WD_pourAt_J34 at hE
    refine r_istore (lv2 := [(4, .int t0), (0, .ref (hY X.2.1.2 + v0))]) S dX6_pourAt_34 (by decide) rfl ?_
    refine r_aload_n S dX6_pourAt_36 1 rfl ?_
    refine r_dup S dX6_pourAt_37 rfl ?_
    refine r_getL S fc6 k0 4 rfl q_145 dX6_pourAt_38 ?_
    refine r_iload S dX6_pourAt_41 0 rfl ?_
    refine r_i2l S dX6_pourAt_43 ?_
    refine r_ladd S dX6_pourAt_44 ?_
    refine r_putL S fc6 k0 4 rfl rfl (by decide +kernel) q_145 dX6_pourAt_45 ?_
    refine r_iload S dX6_pourAt_48 0 rfl ?_
    obtain ⟨rfl, rfl⟩ := si2 hE
    exact hret _ _ dX6_pourAt_50
  unfold WD_pourAt at hE
  refine r_aload_n S dX6_pourAt_0 0 rfl ?_
  refine r_getRK S fc6 ho 2 (o + 19) rfl rfl q_138 dX6_pourAt_1 ?_
  refine r_getRKN S fc1 (kk6_19 ho) 8 (o + 36) rfl rfl q_196 dX6_pourAt_4 ?_
  refine r_iload_n S dX6_pourAt_7 1 rfl ?_
  refine rc_I S (rn_V S fc3 (kk1_17 (kk6_19 ho)) (c_NR_at _ _ (gYX S) (o + 36) (kk1_17 (kk6_19 ho)) a1 M _ rfl) wdX3_at q_197 ⟨Nat.le_of_ble_eq_true rfl, Nat.le_of_ble_eq_true rfl⟩ rfl (Nat.le_of_ble_eq_true rfl) dX6_pourAt_8) ?_
  refine r_istore_n (lv2 := [(3, .int (fAtI (o + 36) a1 M)), (0, .ref (hY X.2.1.2 + o)), (1, .int a1), (2, .int a2)]) S dX6_pourAt_11 (by decide) rfl ?_
  refine r_iload_n S dX6_pourAt_12 0 rfl ?_
  refine r_iconst S (-1 : Int32) dX6_pourAt_13 rfl ?_
  refine r_icmp_ne S 21 dX6_pourAt_14 (by decide) (fun c => ?_) (fun c => ?_)
  · rw [if_pos c] at hE
    refine r_aload_n S dX6_pourAt_21 1 rfl ?_
    refine r_getRK S fc6 ho 2 (o + 19) rfl rfl q_138 dX6_pourAt_22 ?_
    refine r_aload_n S dX6_pourAt_25 1 rfl ?_
    refine r_getRK S fc6 ho 0 (o + 1) rfl rfl q_126 dX6_pourAt_26 ?_
    refine r_iload_n S dX6_pourAt_29 0 rfl ?_
    refine r_iload_n S dX6_pourAt_30 3 rfl ?_
    obtain ⟨x1, M2, h9, hE⟩ := b2_some hE
    refine rc_I S (rn_V S fc1 (kk6_19 ho) (c_LK_pourInto _ _ (gYX S) (o + 19) (kk6_19 ho) (o + 1) (kk6_1 ho) (fAtI (o + 36) a1 M) a2 M _ _ h9) wdX1_pourInto q_198 ⟨Nat.le_of_ble_eq_true rfl, Nat.le_of_ble_eq_true rfl⟩ rfl (Nat.le_of_ble_eq_true rfl) dX6_pourAt_31) ?_
    exact r_sub [1] rfl (J34 o ho x1 M2 hE)
  · rw [if_neg (not_not_intro c)] at hE
    refine r_iload_n S dX6_pourAt_17 3 rfl ?_
    refine r_goto S 34 dX6_pourAt_18 (by decide) ?_
    exact r_sub [1] rfl (J34 o ho a2 M hE)
set_option maxRecDepth 100000 in
set_option maxHeartbeats 4000000 in
theorem c_WD_pourAtAll (l : Launch) (Y : Env1) (hG : gY Y = gC) (o : Nat) (ho : kC o = 6) (a1 : Int32) (M : Mem) (r : Int32) (M1 : Mem) (hE : WD_pourAtAll o a1 M = some (r, M1)) : CnI l Y yX6_pourAtAll cX6_pourAtAll 4 .int 5 [.ref (hY Y + o), .int a1] M r M1 := by
  refine met_I (own := RX6) (by decide +kernel) rfl hG (Nat.le_of_ble_eq_true rfl) (fun X S hY1 hl1 hret => ?_)
  subst hY1
  subst hl1
  show AW X 0 [(0, .ref (hY X.2.1.2 + o)), (1, .int a1)] [] M
  have L4 : ∀ (v0 : Nat) (k0 : kC v0 = 6) (v1 : Int32) (e : (Int32)) (M2 : Mem), AW X 30 [(2, .int e)] [] M2 → ∀ (n : Nat) (s : Int32 × Int32) (M : Mem), lpM (fun s M => WD_pourAtAll_L4 v0 v1 s.1 s.2 M) n s M = some (e, M2) → AW X 4 [(0, .ref (hY X.2.1.2 + v0)), (1, .int v1), (2, .int s.1), (3, .int s.2)] [] M := by
    intro v0 k0 v1 e M2 hX
    refine lpM_ind (P := fun (s : Int32 × Int32) (M : Mem) => AW X 4 [(0, .ref (hY X.2.1.2 + v0)), (1, .int v1), (2, .int s.1), (3, .int s.2)] [] M) ?_
    rintro ⟨v2, v3⟩ M d M3 hE hC hD
    replace hE : WD_pourAtAll_L4 v0 v1 v2 v3 M = some (d, M3) := hE
    show AW X 4 [(0, .ref (hY X.2.1.2 + v0)), (1, .int v1), (2, .int v2), (3, .int v3)] [] M
    unfold WD_pourAtAll_L4 at hE
    refine r_iload_n S dX6_pourAtAll_4 3 rfl ?_
    refine r_aload_n S dX6_pourAtAll_5 0 rfl ?_
    refine r_getRK S fc6 k0 0 (v0 + 1) rfl rfl q_126 dX6_pourAtAll_6 ?_
    refine r_getIN S fc0 (kk6_1 k0) 2 rfl q_203 dX6_pourAtAll_9 ?_
    refine r_icmp_ge S 30 dX6_pourAtAll_12 (by decide) (fun c => ?_) (fun c => ?_)
    · rw [if_pos c] at hE
      obtain ⟨rfl, rfl⟩ := si2 hE
      rcases hD with ⟨h1, h2⟩ | ⟨_, h1⟩
      · obtain rfl := sir h1
        subst h2
        exact r_sub [2] rfl hX
      · exact (sil h1).elim
    · rw [if_neg c] at hE
      refine r_iload_n S dX6_pourAtAll_15 2 rfl ?_
      refine r_aload_n S dX6_pourAtAll_16 0 rfl ?_
      refine r_iload_n S dX6_pourAtAll_17 3 rfl ?_
      refine r_iload_n S dX6_pourAtAll_18 1 rfl ?_
      obtain ⟨x1, M2, h9, hE⟩ := b2_some hE
      refine rc_I S (rn_V S fc6 k0 (c_WD_pourAt _ _ (gYX S) v0 k0 v3 v1 M _ _ h9) wdX6_pourAt q_204 ⟨Nat.le_of_ble_eq_true rfl, Nat.le_of_ble_eq_true rfl⟩ rfl (Nat.le_of_ble_eq_true rfl) dX6_pourAtAll_19) ?_
      refine r_iadd S dX6_pourAtAll_22 ?_
      refine r_istore_n (lv2 := [(2, .int (v2 + x1)), (0, .ref (hY X.2.1.2 + v0)), (1, .int v1), (3, .int v3)]) S dX6_pourAtAll_23 (by decide) rfl ?_
      refine r_iinc (lv2 := [(3, .int (v3 + (1 : Int32))), (2, .int (v2 + x1)), (0, .ref (hY X.2.1.2 + v0)), (1, .int v1)]) S dX6_pourAtAll_24 (j := 3) rfl (by decide) rfl ?_
      refine r_goto S 4 dX6_pourAtAll_27 (by decide) ?_
      obtain ⟨rfl, rfl⟩ := si2 hE
      exact r_sub (lv2 := [(0, .ref (hY X.2.1.2 + v0)), (1, .int v1), (2, .int (v2 + x1)), (3, .int (v3 + (1 : Int32)))]) [2, 3, 1, 0] rfl (hC ((v2 + x1), (v3 + (1 : Int32))) rfl)
  unfold WD_pourAtAll at hE
  refine r_iconst S (0 : Int32) dX6_pourAtAll_0 rfl ?_
  refine r_istore_n (lv2 := [(2, .int (0 : Int32)), (0, .ref (hY X.2.1.2 + o)), (1, .int a1)]) S dX6_pourAtAll_1 (by decide) rfl ?_
  refine r_iconst S (0 : Int32) dX6_pourAtAll_2 rfl ?_
  refine r_istore_n (lv2 := [(3, .int (0 : Int32)), (2, .int (0 : Int32)), (0, .ref (hY X.2.1.2 + o)), (1, .int a1)]) S dX6_pourAtAll_3 (by decide) rfl ?_
  obtain ⟨e1, M2, h9, hE⟩ := b2_some hE
  refine r_sub [2, 3, 1, 0] rfl (L4 o ho a1  e1 M2 ?_ _ _ M h9)
  refine r_iload_n S dX6_pourAtAll_30 0 rfl ?_
  obtain ⟨rfl, rfl⟩ := si2 hE
  exact hret _ _ dX6_pourAtAll_31
set_option maxRecDepth 100000 in
set_option maxHeartbeats 4000000 in
theorem c_LL_rainToJoin (l : Launch) (Y : Env1) (hG : gY Y = gC) (M : Mem) (r : Int32) (M1 : Mem) (hE : LL_rainToJoin M = some (r, M1)) : CnI l Y yX7_rainToJoin cX7_rainToJoin 3 .int 6 [.ref (hY Y + 0)] M r M1 := by
  refine met_I (own := RX7) (by decide +kernel) rfl hG (Nat.le_of_ble_eq_true rfl) (fun X S hY1 hl1 hret => ?_)
  subst hY1
  subst hl1
  show AW X 0 [(0, .ref (hY X.2.1.2 + 0))] [] M
  have L13 : ∀ (v1 : Int32) (q : ((Unit) ⊕ Int32)) (M2 : Mem), (∀ e, q = .inl e → AW X 66 [] [] M2) → (∀ r8, q = .inr r8 → (r8 = r ∧ M2 = M1)) → ∀ (n : Nat) (s : Int32) (M : Mem), lpM (fun s M => LL_rainToJoin_L13 v1 s M) n s M = some (q, M2) → AW X 13 [(0, .ref (hY X.2.1.2 + 0)), (1, .int v1), (2, .int s)] [] M := by
    intro v1 q M2 hX hR
    refine lpM_ind (P := fun (s : Int32) (M : Mem) => AW X 13 [(0, .ref (hY X.2.1.2 + 0)), (1, .int v1), (2, .int s)] [] M) ?_
    rintro v2 M d M3 hE hC hD
    replace hE : LL_rainToJoin_L13 v1 v2 M = some (d, M3) := hE
    show AW X 13 [(0, .ref (hY X.2.1.2 + 0)), (1, .int v1), (2, .int v2)] [] M
    unfold LL_rainToJoin_L13 at hE
    refine r_iload_n S dX7_rainToJoin_13 1 rfl ?_
    refine r_iconst S (1 : Int32) dX7_rainToJoin_14 rfl ?_
    refine r_icmp_le S 66 dX7_rainToJoin_15 (by decide) (fun c => ?_) (fun c => ?_)
    · rw [if_pos c] at hE
      obtain ⟨rfl, rfl⟩ := si2 hE
      rcases hD with ⟨h1, h2⟩ | ⟨_, h1⟩
      · obtain rfl := sir h1
        subst h2
        exact r_sub [] rfl (hX _ rfl)
      · exact (sil h1).elim
    · rw [if_neg c] at hE
      refine r_iload_n S dX7_rainToJoin_18 2 rfl ?_
      refine r_bipush S (40 : Int32) dX7_rainToJoin_19 rfl ?_
      refine r_icmp_gt S 66 dX7_rainToJoin_21 (by decide) (fun c => ?_) (fun c => ?_)
      · rw [if_pos c] at hE
        obtain ⟨rfl, rfl⟩ := si2 hE
        rcases hD with ⟨h1, h2⟩ | ⟨_, h1⟩
        · obtain rfl := sir h1
          subst h2
          exact r_sub [] rfl (hX _ rfl)
        · exact (sil h1).elim
      · rw [if_neg c] at hE
        refine r_aload_n S dX7_rainToJoin_24 0 rfl ?_
        refine r_getRK S fc7 (by decide) 1 47 rfl rfl q_214 dX7_rainToJoin_25 ?_
        refine r_aload_n S dX7_rainToJoin_28 0 rfl ?_
        refine r_getRK S fc7 (by decide) 0 1 rfl rfl q_50 dX7_rainToJoin_29 ?_
        obtain ⟨x1, M2, h9, hE⟩ := b2_some hE
        refine rc_V S (rn_V S fc6 (by decide) (c_WD_copyFrom _ _ (gYX S) 47 (by decide) 1 (by decide) M _ _ h9) wdX6_copyFrom q_215 ⟨Nat.le_of_ble_eq_true rfl, Nat.le_of_ble_eq_true rfl⟩ rfl (Nat.le_of_ble_eq_true rfl) dX7_rainToJoin_32) ?_
        refine r_aload_n S dX7_rainToJoin_35 0 rfl ?_
        refine r_getRK S fc7 (by decide) 1 47 rfl rfl q_214 dX7_rainToJoin_36 ?_
        refine r_iload_n S dX7_rainToJoin_39 2 rfl ?_
        obtain ⟨x3, M4, h9, hE⟩ := b2_some hE
        refine rc_I S (rn_V S fc6 (by decide) (c_WD_pourAtAll _ _ (gYX S) 47 (by decide) v2 M2 _ _ h9) wdX6_pourAtAll q_220 ⟨Nat.le_of_ble_eq_true rfl, Nat.le_of_ble_eq_true rfl⟩ rfl (Nat.le_of_ble_eq_true rfl) dX7_rainToJoin_40) ?_
        refine r_pop S dX7_rainToJoin_43 rfl ?_
        refine r_aload_n S dX7_rainToJoin_44 0 rfl ?_
        refine r_getRK S fc7 (by decide) 1 47 rfl rfl q_214 dX7_rainToJoin_45 ?_
        refine r_getRKN S fc6 (by decide) 2 66 rfl rfl q_51 dX7_rainToJoin_48 ?_
        obtain ⟨x5, h9, hE⟩ := b1_some hE
        refine rc_I S (rn_V S fc1 (by decide) (c_LK_total _ _ (gYX S) 66 (by decide) M4 _ h9) wdX1_total q_209 ⟨Nat.le_of_ble_eq_true rfl, Nat.le_of_ble_eq_true rfl⟩ rfl (Nat.le_of_ble_eq_true rfl) dX7_rainToJoin_51) ?_
        refine r_iload_n S dX7_rainToJoin_54 1 rfl ?_
        refine r_icmp_ge S 60 dX7_rainToJoin_55 (by decide) (fun c => ?_) (fun c => ?_)
        · rw [if_pos c] at hE
          refine r_iinc (lv2 := [(2, .int (v2 + (1 : Int32))), (0, .ref (hY X.2.1.2 + 0)), (1, .int v1)]) S dX7_rainToJoin_60 (j := 2) rfl (by decide) rfl ?_
          refine r_goto S 13 dX7_rainToJoin_63 (by decide) ?_
          obtain ⟨rfl, rfl⟩ := si2 hE
          exact r_sub (lv2 := [(0, .ref (hY X.2.1.2 + 0)), (1, .int v1), (2, .int (v2 + (1 : Int32)))]) [1, 2, 0] rfl (hC (v2 + (1 : Int32)) rfl)
        · rw [if_neg c] at hE
          refine r_iload_n S dX7_rainToJoin_58 2 rfl ?_
          obtain ⟨rfl, rfl⟩ := si2 hE
          rcases hD with ⟨h1, h2⟩ | ⟨_, h1⟩
          · obtain rfl := sir h1
            subst h2
            obtain ⟨rfl, rfl⟩ := hR _ rfl
            exact hret _ _ dX7_rainToJoin_59
          · exact (sil h1).elim
  unfold LL_rainToJoin at hE
  refine r_aload_n S dX7_rainToJoin_0 0 rfl ?_
  refine r_getRK S fc7 (by decide) 0 1 rfl rfl q_50 dX7_rainToJoin_1 ?_
  refine r_getRKN S fc6 (by decide) 2 20 rfl rfl q_51 dX7_rainToJoin_4 ?_
  obtain ⟨x1, h9, hE⟩ := b1_some hE
  refine rc_I S (rn_V S fc1 (by decide) (c_LK_total _ _ (gYX S) 20 (by decide) M _ h9) wdX1_total q_209 ⟨Nat.le_of_ble_eq_true rfl, Nat.le_of_ble_eq_true rfl⟩ rfl (Nat.le_of_ble_eq_true rfl) dX7_rainToJoin_7) ?_
  refine r_istore_n (lv2 := [(1, .int x1), (0, .ref (hY X.2.1.2 + 0))]) S dX7_rainToJoin_10 (by decide) rfl ?_
  refine r_iconst S (1 : Int32) dX7_rainToJoin_11 rfl ?_
  refine r_istore_n (lv2 := [(2, .int (1 : Int32)), (1, .int x1), (0, .ref (hY X.2.1.2 + 0))]) S dX7_rainToJoin_12 (by decide) rfl ?_
  obtain ⟨e2, M3, h9, hE⟩ := b2_some hE
  refine r_sub [2, 1, 0] rfl (L13 x1  e2 M3 (fun e4 h8 => ?_) (fun r8 h8 => ?_) _ _ M h9)
  · subst h8
    refine r_iconst S (-1 : Int32) dX7_rainToJoin_66 rfl ?_
    obtain ⟨rfl, rfl⟩ := si2 hE
    exact hret _ _ dX7_rainToJoin_67
  · subst h8
    exact si2 hE
set_option maxRecDepth 100000 in
set_option maxHeartbeats 4000000 in
theorem c_LL_clearText (l : Launch) (Y : Env1) (hG : gY Y = gC) (M : Mem) (r : Int32) (M1 : Mem) (hE : LL_clearText M = some (r, M1)) : CnI l Y yX7_clearText cX7_clearText 2 .int 0 [.ref (hY Y + 0)] M r M1 := by
  refine met_I (own := RX7) (by decide +kernel) rfl hG (Nat.le_of_ble_eq_true rfl) (fun X S hY1 hl1 hret => ?_)
  subst hY1
  subst hl1
  show AW X 0 [(0, .ref (hY X.2.1.2 + 0))] [] M
  unfold LL_clearText at hE
  refine r_aload_n S dX7_clearText_0 0 rfl ?_
  refine r_getRK S fc7 (by decide) 3 94 rfl rfl q_225 dX7_clearText_1 ?_
  refine r_getIN S fc2 (by decide) 1 rfl q_226 dX7_clearText_4 ?_
  refine r_istore_n (lv2 := [(1, .int (gI M 94 1)), (0, .ref (hY X.2.1.2 + 0))]) S dX7_clearText_7 (by decide) rfl ?_
  refine r_aload_n S dX7_clearText_8 1 rfl ?_
  refine r_getRK S fc7 (by decide) 3 94 rfl rfl q_225 dX7_clearText_9 ?_
  refine r_iconst S (0 : Int32) dX7_clearText_12 rfl ?_
  refine r_putIN S fc2 (by decide) 1 rfl rfl (by decide +kernel) q_226 dX7_clearText_13 ?_
  refine r_iload_n S dX7_clearText_16 0 rfl ?_
  obtain ⟨rfl, rfl⟩ := si2 hE
  exact hret _ _ dX7_clearText_17
set_option maxRecDepth 100000 in
set_option maxHeartbeats 4000000 in
theorem c_LT_next (l : Launch) (Y : Env1) (hG : gY Y = gC) (M : Mem) (r : Int32) (hE : LT_next M = r) : CnI l Y yX2_next cX2_next 1 .int 1 [.ref (hY Y + 94)] M r M := by
  refine met_I (own := RX2) (by decide +kernel) rfl hG (Nat.le_of_ble_eq_true rfl) (fun X S hY1 hl1 hret => ?_)
  subst hY1
  subst hl1
  show AW X 0 [(0, .ref (hY X.2.1.2 + 94))] [] M
  unfold LT_next at hE
  refine r_aload_n S dX2_next_0 0 rfl ?_
  refine r_getI S fc2 (by decide) 2 rfl q_227 dX2_next_1 ?_
  refine r_aload_n S dX2_next_4 0 rfl ?_
  refine r_getI S fc2 (by decide) 1 rfl q_228 dX2_next_5 ?_
  refine r_icmp_ge S 25 dX2_next_8 (by decide) (fun c => ?_) (fun c => ?_)
  · try simp only [if_pos c] at hE
    refine r_iconst S (-1 : Int32) dX2_next_25 rfl ?_
    subst hE
    exact hret _ _ dX2_next_26
  · try simp only [if_neg c] at hE
    refine r_aload_n S dX2_next_11 0 rfl ?_
    refine r_getRK S fc2 (by decide) 0 95 rfl rfl q_229 dX2_next_12 ?_
    refine r_aload_n S dX2_next_15 0 rfl ?_
    refine r_getI S fc2 (by decide) 2 rfl q_227 dX2_next_16 ?_
    refine rc_I S (rn_V S fc3 (by decide) (c_NR_at _ _ (gYX S) 95 (by decide) (gI M 94 2) M _ rfl) wdX3_at q_230 ⟨Nat.le_of_ble_eq_true rfl, Nat.le_of_ble_eq_true rfl⟩ rfl (Nat.le_of_ble_eq_true rfl) dX2_next_19) ?_
    refine r_goto S 26 dX2_next_22 (by decide) ?_
    subst hE
    exact hret _ _ dX2_next_26
set_option maxRecDepth 100000 in
set_option maxHeartbeats 4000000 in
theorem c_LT_fail (l : Launch) (Y : Env1) (hG : gY Y = gC) (a1 : Int32) (M : Mem) (r : Unit) (M1 : Mem) (hE : LT_fail a1 M = some (r, M1)) : CnV l Y yX2_fail cX2_fail 2 0 [.ref (hY Y + 94), .int a1] M M1 := by
  refine met_V (own := RX2) (by decide +kernel) rfl hG (Nat.le_of_ble_eq_true rfl) (fun X S hY1 hl1 hret => ?_)
  subst hY1
  subst hl1
  show AW X 0 [(0, .ref (hY X.2.1.2 + 94)), (1, .int a1)] [] M
  unfold LT_fail at hE
  refine r_aload_n S dX2_fail_0 0 rfl ?_
  refine r_aload_n S dX2_fail_1 0 rfl ?_
  refine r_getI S fc2 (by decide) 3 rfl q_231 dX2_fail_2 ?_
  refine r_iconst S (-1 : Int32) dX2_fail_5 rfl ?_
  refine r_icmp_ne S 13 dX2_fail_6 (by decide) (fun c => ?_) (fun c => ?_)
  · try simp only [if_pos c] at hE
    refine r_aload_n S dX2_fail_13 0 rfl ?_
    refine r_getI S fc2 (by decide) 3 rfl q_231 dX2_fail_14 ?_
    refine r_putI S fc2 (by decide) 3 rfl rfl (by decide +kernel) q_231 dX2_fail_17 ?_
    obtain ⟨rfl, rfl⟩ := si2 hE
    exact hret _ _ dX2_fail_20
  · try simp only [if_neg (not_not_intro c)] at hE
    refine r_iload_n S dX2_fail_9 1 rfl ?_
    refine r_goto S 17 dX2_fail_10 (by decide) ?_
    refine r_putI S fc2 (by decide) 3 rfl rfl (by decide +kernel) q_231 dX2_fail_17 ?_
    obtain ⟨rfl, rfl⟩ := si2 hE
    exact hret _ _ dX2_fail_20
set_option maxRecDepth 100000 in
set_option maxHeartbeats 4000000 in
theorem c_LT_readSize (l : Launch) (Y : Env1) (hG : gY Y = gC) (a1 : Int32) (M : Mem) (r : Int32) (M1 : Mem) (hE : LT_readSize a1 M = some (r, M1)) : CnI l Y yX2_readSize cX2_readSize 3 .int 2 [.ref (hY Y + 94), .int a1] M r M1 := by
  refine met_I (own := RX2) (by decide +kernel) rfl hG (Nat.le_of_ble_eq_true rfl) (fun X S hY1 hl1 hret => ?_)
  subst hY1
  subst hl1
  show AW X 0 [(0, .ref (hY X.2.1.2 + 94)), (1, .int a1)] [] M
  have J39 : ∀ (v2 : Int32) (M : Mem), LT_readSize_J39 v2 M = some (r, M1) → AW X 39 [(0, .ref (hY X.2.1.2 + 94)), (2, .int v2)] [] M := by
    intro v2 M hE
    unfold LT_readSize_J39 at hE
    refine r_aload_n S dX2_readSize_39 0 rfl ?_
    refine r_aload_n S dX2_readSize_40 0 rfl ?_
    refine r_getI S fc2 (by decide) 2 rfl q_227 dX2_readSize_41 ?_
    obtain ⟨x1, M2, h9, hE⟩ := b2_some hE
    refine rc_V S (rn_V S fc2 (by decide) (c_LT_fail _ _ (gYX S) (gI M 94 2) M _ _ h9) wdX2_fail q_237 ⟨Nat.le_of_ble_eq_true rfl, Nat.le_of_ble_eq_true rfl⟩ rfl (Nat.le_of_ble_eq_true rfl) dX2_readSize_44) ?_
    refine r_iload_n S dX2_readSize_47 1 rfl ?_
    obtain ⟨rfl, rfl⟩ := si2 hE
    exact hret _ _ dX2_readSize_48
  unfold LT_readSize at hE
  refine r_aload_n S dX2_readSize_0 0 rfl ?_
  refine rc_I S (rn_V S fc2 (by decide) (c_LT_next _ _ (gYX S)  M _ rfl) wdX2_next q_232 ⟨Nat.le_of_ble_eq_true rfl, Nat.le_of_ble_eq_true rfl⟩ rfl (Nat.le_of_ble_eq_true rfl) dX2_readSize_1) ?_
  refine r_bipush S (48 : Int32) dX2_readSize_4 rfl ?_
  refine r_isub S dX2_readSize_6 ?_
  refine r_istore_n (lv2 := [(2, .int ((LT_next M) - (48 : Int32))), (0, .ref (hY X.2.1.2 + 94)), (1, .int a1)]) S dX2_readSize_7 (by decide) rfl ?_
  refine r_aload_n S dX2_readSize_8 1 rfl ?_
  refine r_getI S fc2 (by decide) 3 rfl q_231 dX2_readSize_9 ?_
  refine r_iconst S (-1 : Int32) dX2_readSize_12 rfl ?_
  refine r_icmp_ne S 39 dX2_readSize_13 (by decide) (fun c => ?_) (fun c => ?_)
  · rw [if_pos c] at hE
    exact r_sub [1, 0] rfl (J39 ((LT_next M) - (48 : Int32)) M hE)
  · rw [if_neg (not_not_intro c)] at hE
    refine r_iload_n S dX2_readSize_16 0 rfl ?_
    refine r_iconst S (1 : Int32) dX2_readSize_17 rfl ?_
    refine r_icmp_lt S 39 dX2_readSize_18 (by decide) (fun c => ?_) (fun c => ?_)
    · rw [if_pos c] at hE
      exact r_sub [1, 0] rfl (J39 ((LT_next M) - (48 : Int32)) M hE)
    · rw [if_neg c] at hE
      refine r_iload_n S dX2_readSize_21 0 rfl ?_
      refine r_iload_n S dX2_readSize_22 2 rfl ?_
      refine r_icmp_gt S 39 dX2_readSize_23 (by decide) (fun c => ?_) (fun c => ?_)
      · rw [if_pos c] at hE
        exact r_sub [1, 0] rfl (J39 ((LT_next M) - (48 : Int32)) M hE)
      · rw [if_neg c] at hE
        refine r_aload_n S dX2_readSize_26 1 rfl ?_
        refine r_dup S dX2_readSize_27 rfl ?_
        refine r_getI S fc2 (by decide) 2 rfl q_227 dX2_readSize_28 ?_
        refine r_iconst S (1 : Int32) dX2_readSize_31 rfl ?_
        refine r_iadd S dX2_readSize_32 ?_
        refine r_putI S fc2 (by decide) 2 rfl rfl (by decide +kernel) q_227 dX2_readSize_33 ?_
        refine r_goto S 47 dX2_readSize_36 (by decide) ?_
        refine r_iload_n S dX2_readSize_47 0 rfl ?_
        obtain ⟨rfl, rfl⟩ := si2 hE
        exact hret _ _ dX2_readSize_48
set_option maxRecDepth 100000 in
set_option maxHeartbeats 4000000 in
theorem c_LT_readSign (l : Launch) (Y : Env1) (hG : gY Y = gC) (a1 : Int32) (M : Mem) (r : Unit) (M1 : Mem) (hE : LT_readSign a1 M = some (r, M1)) : CnV l Y yX2_readSign cX2_readSign 2 2 [.ref (hY Y + 94), .int a1] M M1 := by
  refine met_V (own := RX2) (by decide +kernel) rfl hG (Nat.le_of_ble_eq_true rfl) (fun X S hY1 hl1 hret => ?_)
  subst hY1
  subst hl1
  show AW X 0 [(0, .ref (hY X.2.1.2 + 94)), (1, .int a1)] [] M
  have J29 : ∀ (M : Mem), LT_readSign_J29 M = some (r, M1) → AW X 29 [(0, .ref (hY X.2.1.2 + 94))] [] M := by
    intro M hE
    unfold LT_readSign_J29 at hE
    refine r_aload_n S dX2_readSign_29 0 rfl ?_
    refine r_aload_n S dX2_readSign_30 0 rfl ?_
    refine r_getI S fc2 (by decide) 2 rfl q_227 dX2_readSign_31 ?_
    obtain ⟨x1, M2, h9, hE⟩ := b2_some hE
    refine rc_V S (rn_V S fc2 (by decide) (c_LT_fail _ _ (gYX S) (gI M 94 2) M _ _ h9) wdX2_fail q_237 ⟨Nat.le_of_ble_eq_true rfl, Nat.le_of_ble_eq_true rfl⟩ rfl (Nat.le_of_ble_eq_true rfl) dX2_readSign_34) ?_
    obtain ⟨rfl, rfl⟩ := si2 hE
    exact hret _ _ dX2_readSign_37
  unfold LT_readSign at hE
  refine r_aload_n S dX2_readSign_0 0 rfl ?_
  refine r_getI S fc2 (by decide) 3 rfl q_231 dX2_readSign_1 ?_
  refine r_iconst S (-1 : Int32) dX2_readSign_4 rfl ?_
  refine r_icmp_ne S 29 dX2_readSign_5 (by decide) (fun c => ?_) (fun c => ?_)
  · rw [if_pos c] at hE
    exact r_sub [0] rfl (J29  M hE)
  · rw [if_neg (not_not_intro c)] at hE
    refine r_aload_n S dX2_readSign_8 0 rfl ?_
    refine rc_I S (rn_V S fc2 (by decide) (c_LT_next _ _ (gYX S)  M _ rfl) wdX2_next q_232 ⟨Nat.le_of_ble_eq_true rfl, Nat.le_of_ble_eq_true rfl⟩ rfl (Nat.le_of_ble_eq_true rfl) dX2_readSign_9) ?_
    refine r_iload_n S dX2_readSign_12 1 rfl ?_
    refine r_icmp_ne S 29 dX2_readSign_13 (by decide) (fun c => ?_) (fun c => ?_)
    · rw [if_pos c] at hE
      exact r_sub [0] rfl (J29  M hE)
    · rw [if_neg (not_not_intro c)] at hE
      refine r_aload_n S dX2_readSign_16 0 rfl ?_
      refine r_dup S dX2_readSign_17 rfl ?_
      refine r_getI S fc2 (by decide) 2 rfl q_227 dX2_readSign_18 ?_
      refine r_iconst S (1 : Int32) dX2_readSign_21 rfl ?_
      refine r_iadd S dX2_readSign_22 ?_
      refine r_putI S fc2 (by decide) 2 rfl rfl (by decide +kernel) q_227 dX2_readSign_23 ?_
      refine r_goto S 37 dX2_readSign_26 (by decide) ?_
      obtain ⟨rfl, rfl⟩ := si2 hE
      exact hret _ _ dX2_readSign_37
set_option maxRecDepth 100000 in
set_option maxHeartbeats 4000000 in
theorem c_GR_laySides (l : Launch) (Y : Env1) (hG : gY Y = gC) (o : Nat) (ho : kC o = 0) (a1 : Int32) (a2 : Int32) (M : Mem) (r : Unit) (M1 : Mem) (hE : GR_laySides o a1 a2 M = some (r, M1)) : CnV l Y yX0_laySides cX0_laySides 5 1 [.ref (hY Y + o), .int a1, .int a2] M M1 := by
  refine met_V (own := RX0) (by decide +kernel) rfl hG (Nat.le_of_ble_eq_true rfl) (fun X S hY1 hl1 hret => ?_)
  subst hY1
  subst hl1
  show AW X 0 [(0, .ref (hY X.2.1.2 + o)), (1, .int a1), (2, .int a2)] [] M
  have J115 : ∀ (t0 : Int32) (t1 : Int32) (t2 : Nat) (kt2 : kC t2 = 3) (M : Mem), GR_laySides_J115 t0 t1 t2 M = some (r, M1) → AW X 115 [] [.int t0, .int t1, .ref (hY X.2.1.2 + t2)] M := by
    intro t0 t1 t2 kt2 M hE
    unfold GR_laySides_J115 at hE
    refine rc_V S (rn_V S fc3 kt2 (c_NR_put _ _ (gYX S) t2 kt2 t1 t0 M _ rfl) wdX3_put q_242 ⟨Nat.le_of_ble_eq_true rfl, Nat.le_of_ble_eq_true rfl⟩ rfl (Nat.le_of_ble_eq_true rfl) dX0_laySides_115) ?_
    obtain ⟨rfl, rfl⟩ := si2 hE
    exact hret _ _ dX0_laySides_118
  have J84 : ∀ (v0 : Nat) (k0 : kC v0 = 0) (v1 : Int32) (v3 : Int32) (v4 : Int32) (t0 : Int32) (t1 : Int32) (t2 : Nat) (kt2 : kC t2 = 3) (M : Mem), GR_laySides_J84 v0 v1 v3 v4 t0 t1 t2 M = some (r, M1) → AW X 84 [(0, .ref (hY X.2.1.2 + v0)), (1, .int v1), (3, .int v3), (4, .int v4)] [.int t0, .int t1, .ref (hY X.2.1.2 + t2)] M := by
    intro v0 k0 v1 v3 v4 t0 t1 t2 kt2 M hE
    unfold GR_laySides_J84 at hE
    refine rc_V S (rn_V S fc3 kt2 (c_NR_put _ _ (gYX S) t2 kt2 t1 t0 M _ rfl) wdX3_put q_242 ⟨Nat.le_of_ble_eq_true rfl, Nat.le_of_ble_eq_true rfl⟩ rfl (Nat.le_of_ble_eq_true rfl) dX0_laySides_84) ?_
    refine r_aload_n S dX0_laySides_87 0 rfl ?_
    refine r_getRK S fc0 k0 5 (v0 + 3) rfl rfl q_104 dX0_laySides_88 ?_
    refine r_iload S dX0_laySides_91 3 rfl ?_
    refine r_iconst S (3 : Int32) dX0_laySides_93 rfl ?_
    refine r_iadd S dX0_laySides_94 ?_
    refine r_iload_n S dX0_laySides_95 1 rfl ?_
    refine r_aload_n S dX0_laySides_96 0 rfl ?_
    refine r_getI S fc0 k0 1 rfl q_97 dX0_laySides_97 ?_
    refine r_iconst S (1 : Int32) dX0_laySides_100 rfl ?_
    refine r_isub S dX0_laySides_101 ?_
    refine r_icmp_ge S 114 dX0_laySides_102 (by decide) (fun c => ?_) (fun c => ?_)
    · try simp only [if_pos c] at hE
      refine r_iconst S (-1 : Int32) dX0_laySides_114 rfl ?_
      exact r_sub [] rfl (J115 (-1 : Int32) (v4 + (3 : Int32)) (v0 + 3) (kk0_3 k0) (fPutI t2 t1 t0 M) hE)
    · try simp only [if_neg c] at hE
      refine r_iload_n S dX0_laySides_105 2 rfl ?_
      refine r_aload_n S dX0_laySides_106 0 rfl ?_
      refine r_getI S fc0 k0 0 rfl q_96 dX0_laySides_107 ?_
      refine r_iadd S dX0_laySides_110 ?_
      refine r_goto S 115 dX0_laySides_111 (by decide) ?_
      exact r_sub [] rfl (J115 (v3 + (gI (fPutI t2 t1 t0 M) v0 0)) (v4 + (3 : Int32)) (v0 + 3) (kk0_3 k0) (fPutI t2 t1 t0 M) hE)
  have J56 : ∀ (v0 : Nat) (k0 : kC v0 = 0) (v1 : Int32) (v2 : Int32) (v3 : Int32) (v4 : Int32) (t0 : Int32) (t1 : Int32) (t2 : Nat) (kt2 : kC t2 = 3) (M : Mem), GR_laySides_J56 v0 v1 v2 v3 v4 t0 t1 t2 M = some (r, M1) → AW X 56 [(0, .ref (hY X.2.1.2 + v0)), (1, .int v1), (2, .int v2), (3, .int v3), (4, .int v4)] [.int t0, .int t1, .ref (hY X.2.1.2 + t2)] M := by
    intro v0 k0 v1 v2 v3 v4 t0 t1 t2 kt2 M hE
    unfold GR_laySides_J56 at hE
    refine rc_V S (rn_V S fc3 kt2 (c_NR_put _ _ (gYX S) t2 kt2 t1 t0 M _ rfl) wdX3_put q_242 ⟨Nat.le_of_ble_eq_true rfl, Nat.le_of_ble_eq_true rfl⟩ rfl (Nat.le_of_ble_eq_true rfl) dX0_laySides_56) ?_
    refine r_aload_n S dX0_laySides_59 0 rfl ?_
    refine r_getRK S fc0 k0 5 (v0 + 3) rfl rfl q_104 dX0_laySides_60 ?_
    refine r_iload S dX0_laySides_63 4 rfl ?_
    refine r_iconst S (2 : Int32) dX0_laySides_65 rfl ?_
    refine r_iadd S dX0_laySides_66 ?_
    refine r_iload_n S dX0_laySides_67 2 rfl ?_
    refine r_aload_n S dX0_laySides_68 0 rfl ?_
    refine r_getI S fc0 k0 0 rfl q_96 dX0_laySides_69 ?_
    refine r_iconst S (1 : Int32) dX0_laySides_72 rfl ?_
    refine r_isub S dX0_laySides_73 ?_
    refine r_icmp_ge S 83 dX0_laySides_74 (by decide) (fun c => ?_) (fun c => ?_)
    · try simp only [if_pos c] at hE
      refine r_iconst S (-1 : Int32) dX0_laySides_83 rfl ?_
      exact r_sub [0, 1, 3, 4] rfl (J84 v0 k0 v1 v3 v4 (-1 : Int32) (v4 + (2 : Int32)) (v0 + 3) (kk0_3 k0) (fPutI t2 t1 t0 M) hE)
    · try simp only [if_neg c] at hE
      refine r_iload_n S dX0_laySides_77 3 rfl ?_
      refine r_iconst S (1 : Int32) dX0_laySides_78 rfl ?_
      refine r_iadd S dX0_laySides_79 ?_
      refine r_goto S 84 dX0_laySides_80 (by decide) ?_
      exact r_sub [0, 1, 3, 4] rfl (J84 v0 k0 v1 v3 v4 (v3 + (1 : Int32)) (v4 + (2 : Int32)) (v0 + 3) (kk0_3 k0) (fPutI t2 t1 t0 M) hE)
  have J34 : ∀ (v0 : Nat) (k0 : kC v0 = 0) (v1 : Int32) (v2 : Int32) (v3 : Int32) (v4 : Int32) (t0 : Int32) (t1 : Int32) (t2 : Nat) (kt2 : kC t2 = 3) (M : Mem), GR_laySides_J34 v0 v1 v2 v3 v4 t0 t1 t2 M = some (r, M1) → AW X 34 [(0, .ref (hY X.2.1.2 + v0)), (1, .int v1), (2, .int v2), (3, .int v3), (4, .int v4)] [.int t0, .int t1, .ref (hY X.2.1.2 + t2)] M := by
    intro v0 k0 v1 v2 v3 v4 t0 t1 t2 kt2 M hE
    unfold GR_laySides_J34 at hE
    refine rc_V S (rn_V S fc3 kt2 (c_NR_put _ _ (gYX S) t2 kt2 t1 t0 M _ rfl) wdX3_put q_242 ⟨Nat.le_of_ble_eq_true rfl, Nat.le_of_ble_eq_true rfl⟩ rfl (Nat.le_of_ble_eq_true rfl) dX0_laySides_34) ?_
    refine r_aload_n S dX0_laySides_37 0 rfl ?_
    refine r_getRK S fc0 k0 5 (v0 + 3) rfl rfl q_104 dX0_laySides_38 ?_
    refine r_iload S dX0_laySides_41 4 rfl ?_
    refine r_iconst S (1 : Int32) dX0_laySides_43 rfl ?_
    refine r_iadd S dX0_laySides_44 ?_
    refine r_iload_n S dX0_laySides_45 2 rfl ?_
    refine r_if_le S 55 dX0_laySides_46 (by decide) (fun c => ?_) (fun c => ?_)
    · try simp only [if_pos c] at hE
      refine r_iconst S (-1 : Int32) dX0_laySides_55 rfl ?_
      exact r_sub [0, 1, 2, 3, 4] rfl (J56 v0 k0 v1 v2 v3 v4 (-1 : Int32) (v4 + (1 : Int32)) (v0 + 3) (kk0_3 k0) (fPutI t2 t1 t0 M) hE)
    · try simp only [if_neg c] at hE
      refine r_iload_n S dX0_laySides_49 3 rfl ?_
      refine r_iconst S (1 : Int32) dX0_laySides_50 rfl ?_
      refine r_isub S dX0_laySides_51 ?_
      refine r_goto S 56 dX0_laySides_52 (by decide) ?_
      exact r_sub [0, 1, 2, 3, 4] rfl (J56 v0 k0 v1 v2 v3 v4 (v3 - (1 : Int32)) (v4 + (1 : Int32)) (v0 + 3) (kk0_3 k0) (fPutI t2 t1 t0 M) hE)
  unfold GR_laySides at hE
  refine r_aload_n S dX0_laySides_0 0 rfl ?_
  refine r_getI S fc0 ho 0 rfl q_96 dX0_laySides_1 ?_
  refine r_iload_n S dX0_laySides_4 1 rfl ?_
  refine r_imul S dX0_laySides_5 ?_
  refine r_iload_n S dX0_laySides_6 2 rfl ?_
  refine r_iadd S dX0_laySides_7 ?_
  refine r_istore_n (lv2 := [(3, .int (((gI M o 0) * a1) + a2)), (0, .ref (hY X.2.1.2 + o)), (1, .int a1), (2, .int a2)]) S dX0_laySides_8 (by decide) rfl ?_
  refine r_iconst S (4 : Int32) dX0_laySides_9 rfl ?_
  refine r_iload_n S dX0_laySides_10 0 rfl ?_
  refine r_imul S dX0_laySides_11 ?_
  refine r_istore (lv2 := [(4, .int ((4 : Int32) * (((gI M o 0) * a1) + a2))), (3, .int (((gI M o 0) * a1) + a2)), (0, .ref (hY X.2.1.2 + o)), (1, .int a1), (2, .int a2)]) S dX0_laySides_12 (by decide) rfl ?_
  refine r_aload_n S dX0_laySides_14 2 rfl ?_
  refine r_getRK S fc0 ho 5 (o + 3) rfl rfl q_104 dX0_laySides_15 ?_
  refine r_iload S dX0_laySides_18 0 rfl ?_
  refine r_iload_n S dX0_laySides_20 3 rfl ?_
  refine r_if_le S 33 dX0_laySides_21 (by decide) (fun c => ?_) (fun c => ?_)
  · try simp only [if_pos c] at hE
    refine r_iconst S (-1 : Int32) dX0_laySides_33 rfl ?_
    exact r_sub [2, 3, 4, 1, 0] rfl (J34 o ho a1 a2 (((gI M o 0) * a1) + a2) ((4 : Int32) * (((gI M o 0) * a1) + a2)) (-1 : Int32) ((4 : Int32) * (((gI M o 0) * a1) + a2)) (o + 3) (kk0_3 ho) M hE)
  · try simp only [if_neg c] at hE
    refine r_iload_n S dX0_laySides_24 1 rfl ?_
    refine r_aload_n S dX0_laySides_25 2 rfl ?_
    refine r_getI S fc0 ho 0 rfl q_96 dX0_laySides_26 ?_
    refine r_isub S dX0_laySides_29 ?_
    refine r_goto S 34 dX0_laySides_30 (by decide) ?_
    exact r_sub [2, 3, 4, 1, 0] rfl (J34 o ho a1 a2 (((gI M o 0) * a1) + a2) ((4 : Int32) * (((gI M o 0) * a1) + a2)) ((((gI M o 0) * a1) + a2) - (gI M o 0)) ((4 : Int32) * (((gI M o 0) * a1) + a2)) (o + 3) (kk0_3 ho) M hE)
set_option maxRecDepth 100000 in
set_option maxHeartbeats 4000000 in
theorem c_GR_lay (l : Launch) (Y : Env1) (hG : gY Y = gC) (o : Nat) (ho : kC o = 0) (a1 : Int32) (a2 : Int32) (M : Mem) (r : Unit) (M1 : Mem) (hE : GR_lay o a1 a2 M = some (r, M1)) : CnV l Y yX0_lay cX0_lay 5 2 [.ref (hY Y + o), .int a1, .int a2] M M1 := by
  refine met_V (own := RX0) (by decide +kernel) rfl hG (Nat.le_of_ble_eq_true rfl) (fun X S hY1 hl1 hret => ?_)
  subst hY1
  subst hl1
  show AW X 0 [(0, .ref (hY X.2.1.2 + o)), (1, .int a1), (2, .int a2)] [] M
  have L59 : ∀ (v0 : Nat) (k0 : kC v0 = 0) (v3 : Int32) (e : (Unit)) (M2 : Mem), AW X 81 [(0, .ref (hY X.2.1.2 + v0)), (3, .int v3)] [] M2 → ∀ (n : Nat) (s : Int32) (M : Mem), lpM (fun s M => GR_lay_L59 v0 v3 s M) n s M = some (e, M2) → AW X 59 [(0, .ref (hY X.2.1.2 + v0)), (3, .int v3), (4, .int s)] [] M := by
    intro v0 k0 v3 e M2 hX
    refine lpM_ind (P := fun (s : Int32) (M : Mem) => AW X 59 [(0, .ref (hY X.2.1.2 + v0)), (3, .int v3), (4, .int s)] [] M) ?_
    rintro v4 M d M3 hE hC hD
    replace hE : GR_lay_L59 v0 v3 v4 M = some (d, M3) := hE
    show AW X 59 [(0, .ref (hY X.2.1.2 + v0)), (3, .int v3), (4, .int v4)] [] M
    unfold GR_lay_L59 at hE
    refine r_iload S dX0_lay_59 2 rfl ?_
    refine r_aload_n S dX0_lay_61 0 rfl ?_
    refine r_getI S fc0 k0 0 rfl q_96 dX0_lay_62 ?_
    refine r_icmp_ge S 81 dX0_lay_65 (by decide) (fun c => ?_) (fun c => ?_)
    · rw [if_pos c] at hE
      obtain ⟨rfl, rfl⟩ := si2 hE
      rcases hD with ⟨h1, h2⟩ | ⟨_, h1⟩
      · obtain rfl := sir h1
        subst h2
        exact r_sub [0, 1] rfl hX
      · exact (sil h1).elim
    · rw [if_neg c] at hE
      refine r_aload_n S dX0_lay_68 0 rfl ?_
      refine r_iload_n S dX0_lay_69 1 rfl ?_
      refine r_iload S dX0_lay_70 2 rfl ?_
      obtain ⟨x1, M2, h9, hE⟩ := b2_some hE
      refine rc_V S (rn_V S fc0 k0 (c_GR_laySides _ _ (gYX S) v0 k0 v3 v4 M _ _ h9) wdX0_laySides q_248 ⟨Nat.le_of_ble_eq_true rfl, Nat.le_of_ble_eq_true rfl⟩ rfl (Nat.le_of_ble_eq_true rfl) dX0_lay_72) ?_
      refine r_iinc (lv2 := [(4, .int (v4 + (1 : Int32))), (0, .ref (hY X.2.1.2 + v0)), (3, .int v3)]) S dX0_lay_75 (j := 2) rfl (by decide) rfl ?_
      refine r_goto S 59 dX0_lay_78 (by decide) ?_
      obtain ⟨rfl, rfl⟩ := si2 hE
      exact r_sub (lv2 := [(0, .ref (hY X.2.1.2 + v0)), (3, .int v3), (4, .int (v4 + (1 : Int32)))]) [1, 2, 0] rfl (hC (v4 + (1 : Int32)) rfl)
  have L48 : ∀ (v0 : Nat) (k0 : kC v0 = 0) (e : (Unit)) (M2 : Mem), AW X 87 [] [] M2 → ∀ (n : Nat) (s : Int32) (M : Mem), lpM (fun s M => GR_lay_L48 v0 s M) n s M = some (e, M2) → AW X 48 [(0, .ref (hY X.2.1.2 + v0)), (3, .int s)] [] M := by
    intro v0 k0 e M2 hX
    refine lpM_ind (P := fun (s : Int32) (M : Mem) => AW X 48 [(0, .ref (hY X.2.1.2 + v0)), (3, .int s)] [] M) ?_
    rintro v3 M d M3 hE hC hD
    replace hE : GR_lay_L48 v0 v3 M = some (d, M3) := hE
    show AW X 48 [(0, .ref (hY X.2.1.2 + v0)), (3, .int v3)] [] M
    unfold GR_lay_L48 at hE
    refine r_iload_n S dX0_lay_48 1 rfl ?_
    refine r_aload_n S dX0_lay_49 0 rfl ?_
    refine r_getI S fc0 k0 1 rfl q_97 dX0_lay_50 ?_
    refine r_icmp_ge S 87 dX0_lay_53 (by decide) (fun c => ?_) (fun c => ?_)
    · rw [if_pos c] at hE
      obtain ⟨rfl, rfl⟩ := si2 hE
      rcases hD with ⟨h1, h2⟩ | ⟨_, h1⟩
      · obtain rfl := sir h1
        subst h2
        exact r_sub [] rfl hX
      · exact (sil h1).elim
    · rw [if_neg c] at hE
      refine r_iconst S (0 : Int32) dX0_lay_56 rfl ?_
      refine r_istore (lv2 := [(4, .int (0 : Int32)), (0, .ref (hY X.2.1.2 + v0)), (3, .int v3)]) S dX0_lay_57 (by decide) rfl ?_
      obtain ⟨e1, M2, h9, hE⟩ := b2_some hE
      refine r_sub [1, 2, 0] rfl (L59 v0 k0 v3  e1 M2 ?_ _ _ M h9)
      refine r_iinc (lv2 := [(3, .int (v3 + (1 : Int32))), (0, .ref (hY X.2.1.2 + v0))]) S dX0_lay_81 (j := 1) rfl (by decide) rfl ?_
      refine r_goto S 48 dX0_lay_84 (by decide) ?_
      obtain ⟨rfl, rfl⟩ := si2 hE
      exact r_sub (lv2 := [(0, .ref (hY X.2.1.2 + v0)), (3, .int (v3 + (1 : Int32)))]) [1, 0] rfl (hC (v3 + (1 : Int32)) rfl)
  unfold GR_lay at hE
  refine r_aload_n S dX0_lay_0 0 rfl ?_
  refine r_iload_n S dX0_lay_1 1 rfl ?_
  refine r_putI S fc0 ho 0 rfl rfl (by decide +kernel) q_96 dX0_lay_2 ?_
  refine r_aload_n S dX0_lay_5 0 rfl ?_
  refine r_iload_n S dX0_lay_6 2 rfl ?_
  refine r_putI S fc0 ho 1 rfl rfl (by decide +kernel) q_97 dX0_lay_7 ?_
  refine r_aload_n S dX0_lay_10 0 rfl ?_
  refine r_iload_n S dX0_lay_11 1 rfl ?_
  refine r_iload_n S dX0_lay_12 2 rfl ?_
  refine r_imul S dX0_lay_13 ?_
  refine r_putI S fc0 ho 2 rfl rfl (by decide +kernel) q_46 dX0_lay_14 ?_
  refine r_aload_n S dX0_lay_17 0 rfl ?_
  refine r_lconst S (0 : Int64) dX0_lay_18 rfl ?_
  refine r_putL S fc0 ho 3 rfl rfl (by decide +kernel) q_98 dX0_lay_19 ?_
  refine r_aload_n S dX0_lay_22 0 rfl ?_
  refine r_getRK S fc0 ho 4 (o + 1) rfl rfl q_48 dX0_lay_23 ?_
  refine r_iconst S (0 : Int32) dX0_lay_26 rfl ?_
  refine rc_V S (rn_V S fc3 (kk0_1 ho) (c_NR_fill _ _ (gYX S) (o + 1) (kk0_1 ho) (0 : Int32) (sL (sI (sI (sI M o 0 a1) o 1 a2) o 2 (a1 * a2)) o 3 (0 : Int64)) _ rfl) wdX3_fill q_243 ⟨Nat.le_of_ble_eq_true rfl, Nat.le_of_ble_eq_true rfl⟩ rfl (Nat.le_of_ble_eq_true rfl) dX0_lay_27) ?_
  refine r_aload_n S dX0_lay_30 0 rfl ?_
  refine r_getRK S fc0 ho 5 (o + 3) rfl rfl q_104 dX0_lay_31 ?_
  refine r_iconst S (-1 : Int32) dX0_lay_34 rfl ?_
  refine rc_V S (rn_V S fc3 (kk0_3 ho) (c_NR_fill _ _ (gYX S) (o + 3) (kk0_3 ho) (-1 : Int32) (fFillI (o + 1) (0 : Int32) (sL (sI (sI (sI M o 0 a1) o 1 a2) o 2 (a1 * a2)) o 3 (0 : Int64))) _ rfl) wdX3_fill q_243 ⟨Nat.le_of_ble_eq_true rfl, Nat.le_of_ble_eq_true rfl⟩ rfl (Nat.le_of_ble_eq_true rfl) dX0_lay_35) ?_
  refine r_aload_n S dX0_lay_38 0 rfl ?_
  refine r_getRK S fc0 ho 6 (o + 5) rfl rfl q_105 dX0_lay_39 ?_
  refine r_iconst S (-1 : Int32) dX0_lay_42 rfl ?_
  refine rc_V S (rn_V S fc3 (kk0_5 ho) (c_NR_fill _ _ (gYX S) (o + 5) (kk0_5 ho) (-1 : Int32) (fFillI (o + 3) (-1 : Int32) (fFillI (o + 1) (0 : Int32) (sL (sI (sI (sI M o 0 a1) o 1 a2) o 2 (a1 * a2)) o 3 (0 : Int64)))) _ rfl) wdX3_fill q_243 ⟨Nat.le_of_ble_eq_true rfl, Nat.le_of_ble_eq_true rfl⟩ rfl (Nat.le_of_ble_eq_true rfl) dX0_lay_43) ?_
  refine r_iconst S (0 : Int32) dX0_lay_46 rfl ?_
  refine r_istore_n (lv2 := [(3, .int (0 : Int32)), (0, .ref (hY X.2.1.2 + o)), (1, .int a1), (2, .int a2)]) S dX0_lay_47 (by decide) rfl ?_
  obtain ⟨e1, M2, h9, hE⟩ := b2_some hE
  refine r_sub [1, 0] rfl (L48 o ho  e1 M2 ?_ _ _ (fFillI (o + 5) (-1 : Int32) (fFillI (o + 3) (-1 : Int32) (fFillI (o + 1) (0 : Int32) (sL (sI (sI (sI M o 0 a1) o 1 a2) o 2 (a1 * a2)) o 3 (0 : Int64))))) h9)
  obtain ⟨rfl, rfl⟩ := si2 hE
  exact hret _ _ dX0_lay_87
set_option maxRecDepth 100000 in
set_option maxHeartbeats 4000000 in
theorem c_LT_isAtDigit (l : Launch) (Y : Env1) (hG : gY Y = gC) (M : Mem) (r : Int32) (hE : LT_isAtDigit M = r) : CnI l Y yX2_isAtDigit cX2_isAtDigit 1 .boolean 2 [.ref (hY Y + 94)] M r M := by
  refine met_Z (own := RX2) (by decide +kernel) rfl hG (Nat.le_of_ble_eq_true rfl) (fun X S hY1 hl1 hret => ?_)
  subst hY1
  subst hl1
  show AW X 0 [(0, .ref (hY X.2.1.2 + 94))] [] M
  unfold LT_isAtDigit at hE
  refine r_aload_n S dX2_isAtDigit_0 0 rfl ?_
  refine rc_I S (rn_V S fc2 (by decide) (c_LT_next _ _ (gYX S)  M _ rfl) wdX2_next q_232 ⟨Nat.le_of_ble_eq_true rfl, Nat.le_of_ble_eq_true rfl⟩ rfl (Nat.le_of_ble_eq_true rfl) dX2_isAtDigit_1) ?_
  refine r_bipush S (48 : Int32) dX2_isAtDigit_4 rfl ?_
  refine r_icmp_lt S 22 dX2_isAtDigit_6 (by decide) (fun c => ?_) (fun c => ?_)
  · try simp only [if_pos c] at hE
    refine r_iconst S (0 : Int32) dX2_isAtDigit_22 rfl ?_
    subst hE
    exact hret _ _ _ dX2_isAtDigit_23 (by decide)
  · try simp only [if_neg c] at hE
    refine r_aload_n S dX2_isAtDigit_9 0 rfl ?_
    refine rc_I S (rn_V S fc2 (by decide) (c_LT_next _ _ (gYX S)  M _ rfl) wdX2_next q_232 ⟨Nat.le_of_ble_eq_true rfl, Nat.le_of_ble_eq_true rfl⟩ rfl (Nat.le_of_ble_eq_true rfl) dX2_isAtDigit_10) ?_
    refine r_bipush S (57 : Int32) dX2_isAtDigit_13 rfl ?_
    refine r_icmp_gt S 22 dX2_isAtDigit_15 (by decide) (fun c => ?_) (fun c => ?_)
    · try simp only [if_pos c] at hE
      refine r_iconst S (0 : Int32) dX2_isAtDigit_22 rfl ?_
      subst hE
      exact hret _ _ _ dX2_isAtDigit_23 (by decide)
    · try simp only [if_neg c] at hE
      refine r_iconst S (1 : Int32) dX2_isAtDigit_18 rfl ?_
      refine r_goto S 23 dX2_isAtDigit_19 (by decide) ?_
      subst hE
      exact hret _ _ _ dX2_isAtDigit_23 (by decide)
set_option maxRecDepth 100000 in
set_option maxHeartbeats 4000000 in
theorem c_LT_readNumber (l : Launch) (Y : Env1) (hG : gY Y = gC) (M : Mem) (r : Int32) (M1 : Mem) (hE : LT_readNumber M = some (r, M1)) : CnI l Y yX2_readNumber cX2_readNumber 3 .int 3 [.ref (hY Y + 94)] M r M1 := by
  refine met_I (own := RX2) (by decide +kernel) rfl hG (Nat.le_of_ble_eq_true rfl) (fun X S hY1 hl1 hret => ?_)
  subst hY1
  subst hl1
  show AW X 0 [(0, .ref (hY X.2.1.2 + 94))] [] M
  have L19 : ∀ (e : (Int32)) (M2 : Mem), AW X 68 [(0, .ref (hY X.2.1.2 + 94)), (1, .int e)] [] M2 → ∀ (n : Nat) (s : Int32 × Int32) (M : Mem), lpM (fun s M => LT_readNumber_L19 s.1 s.2 M) n s M = some (e, M2) → AW X 19 [(0, .ref (hY X.2.1.2 + 94)), (1, .int s.1), (2, .int s.2)] [] M := by
    intro e M2 hX
    refine lpM_ind (P := fun (s : Int32 × Int32) (M : Mem) => AW X 19 [(0, .ref (hY X.2.1.2 + 94)), (1, .int s.1), (2, .int s.2)] [] M) ?_
    rintro ⟨v1, v2⟩ M d M3 hE hC hD
    replace hE : LT_readNumber_L19 v1 v2 M = some (d, M3) := hE
    show AW X 19 [(0, .ref (hY X.2.1.2 + 94)), (1, .int v1), (2, .int v2)] [] M
    unfold LT_readNumber_L19 at hE
    refine r_iload_n S dX2_readNumber_19 2 rfl ?_
    refine r_iconst S (2 : Int32) dX2_readNumber_20 rfl ?_
    refine r_icmp_ge S 68 dX2_readNumber_21 (by decide) (fun c => ?_) (fun c => ?_)
    · rw [if_pos c] at hE
      obtain ⟨rfl, rfl⟩ := si2 hE
      rcases hD with ⟨h1, h2⟩ | ⟨_, h1⟩
      · obtain rfl := sir h1
        subst h2
        exact r_sub [0, 1] rfl hX
      · exact (sil h1).elim
    · rw [if_neg c] at hE
      refine r_aload_n S dX2_readNumber_24 0 rfl ?_
      refine r_getI S fc2 (by decide) 3 rfl q_231 dX2_readNumber_25 ?_
      refine r_iconst S (-1 : Int32) dX2_readNumber_28 rfl ?_
      refine r_icmp_ne S 68 dX2_readNumber_29 (by decide) (fun c => ?_) (fun c => ?_)
      · rw [if_pos c] at hE
        obtain ⟨rfl, rfl⟩ := si2 hE
        rcases hD with ⟨h1, h2⟩ | ⟨_, h1⟩
        · obtain rfl := sir h1
          subst h2
          exact r_sub [0, 1] rfl hX
        · exact (sil h1).elim
      · rw [if_neg (not_not_intro c)] at hE
        refine r_aload_n S dX2_readNumber_32 0 rfl ?_
        refine rc_I S (rn_V S fc2 (by decide) (c_LT_isAtDigit _ _ (gYX S)  M _ rfl) wdX2_isAtDigit q_253 ⟨Nat.le_of_ble_eq_true rfl, Nat.le_of_ble_eq_true rfl⟩ rfl (Nat.le_of_ble_eq_true rfl) dX2_readNumber_33) ?_
        refine r_if_eq S 68 dX2_readNumber_36 (by decide) (fun c => ?_) (fun c => ?_)
        · rw [if_pos c] at hE
          obtain ⟨rfl, rfl⟩ := si2 hE
          rcases hD with ⟨h1, h2⟩ | ⟨_, h1⟩
          · obtain rfl := sir h1
            subst h2
            exact r_sub [0, 1] rfl hX
          · exact (sil h1).elim
        · rw [if_neg c] at hE
          refine r_bipush S (10 : Int32) dX2_readNumber_39 rfl ?_
          refine r_iload_n S dX2_readNumber_41 1 rfl ?_
          refine r_imul S dX2_readNumber_42 ?_
          refine r_aload_n S dX2_readNumber_43 0 rfl ?_
          refine rc_I S (rn_V S fc2 (by decide) (c_LT_next _ _ (gYX S)  M _ rfl) wdX2_next q_232 ⟨Nat.le_of_ble_eq_true rfl, Nat.le_of_ble_eq_true rfl⟩ rfl (Nat.le_of_ble_eq_true rfl) dX2_readNumber_44) ?_
          refine r_iadd S dX2_readNumber_47 ?_
          refine r_bipush S (48 : Int32) dX2_readNumber_48 rfl ?_
          refine r_isub S dX2_readNumber_50 ?_
          refine r_istore_n (lv2 := [(1, .int ((((10 : Int32) * v1) + (LT_next M)) - (48 : Int32))), (0, .ref (hY X.2.1.2 + 94)), (2, .int v2)]) S dX2_readNumber_51 (by decide) rfl ?_
          refine r_aload_n S dX2_readNumber_52 1 rfl ?_
          refine r_dup S dX2_readNumber_53 rfl ?_
          refine r_getI S fc2 (by decide) 2 rfl q_227 dX2_readNumber_54 ?_
          refine r_iconst S (1 : Int32) dX2_readNumber_57 rfl ?_
          refine r_iadd S dX2_readNumber_58 ?_
          refine r_putI S fc2 (by decide) 2 rfl rfl (by decide +kernel) q_227 dX2_readNumber_59 ?_
          refine r_iinc (lv2 := [(2, .int (v2 + (1 : Int32))), (1, .int ((((10 : Int32) * v1) + (LT_next M)) - (48 : Int32))), (0, .ref (hY X.2.1.2 + 94))]) S dX2_readNumber_62 (j := 2) rfl (by decide) rfl ?_
          refine r_goto S 19 dX2_readNumber_65 (by decide) ?_
          obtain ⟨rfl, rfl⟩ := si2 hE
          exact r_sub (lv2 := [(0, .ref (hY X.2.1.2 + 94)), (1, .int ((((10 : Int32) * v1) + (LT_next M)) - (48 : Int32))), (2, .int (v2 + (1 : Int32)))]) [2, 1, 0] rfl (hC (((((10 : Int32) * v1) + (LT_next M)) - (48 : Int32)), (v2 + (1 : Int32))) rfl)
  have J17 : ∀ (v1 : Int32) (M : Mem), LT_readNumber_J17 v1 M = some (r, M1) → AW X 17 [(0, .ref (hY X.2.1.2 + 94)), (1, .int v1)] [] M := by
    intro v1 M hE
    unfold LT_readNumber_J17 at hE
    refine r_iconst S (0 : Int32) dX2_readNumber_17 rfl ?_
    refine r_istore_n (lv2 := [(2, .int (0 : Int32)), (0, .ref (hY X.2.1.2 + 94)), (1, .int v1)]) S dX2_readNumber_18 (by decide) rfl ?_
    obtain ⟨e1, M2, h9, hE⟩ := b2_some hE
    refine r_sub [1, 2, 0] rfl (L19   e1 M2 ?_ _ _ M h9)
    refine r_aload_n S dX2_readNumber_68 0 rfl ?_
    refine rc_I S (rn_V S fc2 (by decide) (c_LT_isAtDigit _ _ (gYX S)  M2 _ rfl) wdX2_isAtDigit q_253 ⟨Nat.le_of_ble_eq_true rfl, Nat.le_of_ble_eq_true rfl⟩ rfl (Nat.le_of_ble_eq_true rfl) dX2_readNumber_69) ?_
    refine r_if_eq S 83 dX2_readNumber_72 (by decide) (fun c => ?_) (fun c => ?_)
    · rw [if_pos c] at hE
      refine r_iload_n S dX2_readNumber_83 1 rfl ?_
      obtain ⟨rfl, rfl⟩ := si2 hE
      exact hret _ _ dX2_readNumber_84
    · rw [if_neg c] at hE
      refine r_aload_n S dX2_readNumber_75 0 rfl ?_
      refine r_aload_n S dX2_readNumber_76 0 rfl ?_
      refine r_getI S fc2 (by decide) 2 rfl q_227 dX2_readNumber_77 ?_
      obtain ⟨x3, M4, h9, hE⟩ := b2_some hE
      refine rc_V S (rn_V S fc2 (by decide) (c_LT_fail _ _ (gYX S) (gI M2 94 2) M2 _ _ h9) wdX2_fail q_237 ⟨Nat.le_of_ble_eq_true rfl, Nat.le_of_ble_eq_true rfl⟩ rfl (Nat.le_of_ble_eq_true rfl) dX2_readNumber_80) ?_
      refine r_iload_n S dX2_readNumber_83 1 rfl ?_
      obtain ⟨rfl, rfl⟩ := si2 hE
      exact hret _ _ dX2_readNumber_84
  unfold LT_readNumber at hE
  refine r_iconst S (0 : Int32) dX2_readNumber_0 rfl ?_
  refine r_istore_n (lv2 := [(1, .int (0 : Int32)), (0, .ref (hY X.2.1.2 + 94))]) S dX2_readNumber_1 (by decide) rfl ?_
  refine r_aload_n S dX2_readNumber_2 1 rfl ?_
  refine rc_I S (rn_V S fc2 (by decide) (c_LT_isAtDigit _ _ (gYX S)  M _ rfl) wdX2_isAtDigit q_253 ⟨Nat.le_of_ble_eq_true rfl, Nat.le_of_ble_eq_true rfl⟩ rfl (Nat.le_of_ble_eq_true rfl) dX2_readNumber_3) ?_
  refine r_if_ne S 17 dX2_readNumber_6 (by decide) (fun c => ?_) (fun c => ?_)
  · rw [if_pos c] at hE
    exact r_sub [1, 0] rfl (J17 (0 : Int32) M hE)
  · rw [if_neg (not_not_intro c)] at hE
    refine r_aload_n S dX2_readNumber_9 1 rfl ?_
    refine r_aload_n S dX2_readNumber_10 1 rfl ?_
    refine r_getI S fc2 (by decide) 2 rfl q_227 dX2_readNumber_11 ?_
    obtain ⟨x1, M2, h9, hE⟩ := b2_some hE
    refine rc_V S (rn_V S fc2 (by decide) (c_LT_fail _ _ (gYX S) (gI M 94 2) M _ _ h9) wdX2_fail q_237 ⟨Nat.le_of_ble_eq_true rfl, Nat.le_of_ble_eq_true rfl⟩ rfl (Nat.le_of_ble_eq_true rfl) dX2_readNumber_14) ?_
    exact r_sub [1, 0] rfl (J17 (0 : Int32) M2 hE)
