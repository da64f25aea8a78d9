set_option maxRecDepth 100000 in
set_option maxHeartbeats 4000000 in
theorem c_MD_reads (l : Launch) (Y : Env1) (hG : gY Y = gM) (M : Mem) (r : Int32) (M1 : Mem) (hE : MD_reads M = some (r, M1)) : CnI l Y yX8_reads cX8_reads 3 .boolean 9 [.ref (hY Y + 0)] M r M1 := by
  refine met_Z (own := RX8) (by decide +kernel) rfl hG (Nat.le_of_ble_eq_true rfl) (fun X S hY1 hl1 hret => ?_)
  subst hY1
  subst hl1
  show AW X 0 [(0, .ref (hY X.2.1.2 + 0))] [] M
  have L55 : ∀ (q : ((Unit) ⊕ Int32)) (M2 : Mem), (∀ e, q = .inl e → AW X 124 [] [] M2) → (∀ r8, q = .inr r8 → (r8 = r ∧ M2 = M1)) → ∀ (n : Nat) (s : Unit) (M : Mem), lpM (fun s M => MD_reads_L55 M) n s M = some (q, M2) → AW X 55 [(0, .ref (hY X.2.1.2 + 0))] [] M := by
    intro q M2 hX hR
    refine lpM_ind (P := fun (s : Unit) (M : Mem) => AW X 55 [(0, .ref (hY X.2.1.2 + 0))] [] M) ?_
    rintro s M d M3 hE hC hD
    replace hE : MD_reads_L55 M = some (d, M3) := hE
    show AW X 55 [(0, .ref (hY X.2.1.2 + 0))] [] M
    have J114 : ∀ (t0 : Int32) (M : Mem), MD_reads_L55_J114 t0 M = some (d, M3) → AW X 114 [(0, .ref (hY X.2.1.2 + 0))] [.int t0] M := by
      intro t0 M hE
      unfold MD_reads_L55_J114 at hE
      refine r_istore_n (lv2 := [(2, .int t0), (0, .ref (hY X.2.1.2 + 0))]) S dX8_reads_114 (by decide) rfl ?_
      refine r_iload_n S dX8_reads_115 0 rfl ?_
      refine r_if_ne S 121 dX8_reads_116 (by decide) (fun c => ?_) (fun c => ?_)
      · rw [if_pos c] at hE
        refine r_goto S 55 dX8_reads_121 (by decide) ?_
        obtain ⟨rfl, rfl⟩ := si2 hE
        exact r_sub (lv2 := [(0, .ref (hY X.2.1.2 + 0))]) [1] rfl (hC () rfl)
      · rw [if_neg (not_not_intro c)] at hE
        refine r_iconst S (0 : Int32) dX8_reads_119 rfl ?_
        obtain ⟨rfl, rfl⟩ := si2 hE
        rcases hD with ⟨h1, h2⟩ | ⟨_, h1⟩
        · obtain rfl := sir h1
          subst h2
          obtain ⟨rfl, rfl⟩ := hR _ rfl
          exact hret _ _ _ dX8_reads_120 (by decide)
        · exact (sil h1).elim
    have J113 : ∀ (M : Mem), MD_reads_L55_J113 M = some (d, M3) → AW X 113 [(0, .ref (hY X.2.1.2 + 0))] [] M := by
      intro M hE
      unfold MD_reads_L55_J113 at hE
      refine r_iconst S (0 : Int32) dX8_reads_113 rfl ?_
      exact r_sub [0] rfl (J114 (0 : Int32) M hE)
    unfold MD_reads_L55 at hE
    refine r_aload_n S dX8_reads_55 0 rfl ?_
    refine r_getI S fc8 (by decide) 22 rfl q_819 dX8_reads_56 ?_
    refine r_aload_n S dX8_reads_59 0 rfl ?_
    refine r_getI S fc8 (by decide) 21 rfl q_817 dX8_reads_60 ?_
    refine r_icmp_ge S 124 dX8_reads_63 (by decide) (fun c => ?_) (fun c => ?_)
    · rw [if_pos c] at hE
      obtain ⟨rfl, rfl⟩ := si2 hE
      rcases hD with ⟨h1, h2⟩ | ⟨_, h1⟩
      · obtain rfl := sir h1
        subst h2
        exact r_sub [] rfl (hX _ rfl)
      · exact (sil h1).elim
    · rw [if_neg c] at hE
      refine r_aload_n S dX8_reads_66 0 rfl ?_
      refine r_bipush S (59 : Int32) dX8_reads_67 rfl ?_
      obtain ⟨x1, M2, h9, hE⟩ := b2_some hE
      refine rc_I S (rn_V S fc8 (by decide) (c_MD_passes _ _ (gYX S) (59 : Int32) M _ _ h9) wdX8_passes q_840 ⟨Nat.le_of_ble_eq_true rfl, Nat.le_of_ble_eq_true rfl⟩ rfl (Nat.le_of_ble_eq_true rfl) dX8_reads_69) ?_
      refine r_if_ne S 77 dX8_reads_72 (by decide) (fun c => ?_) (fun c => ?_)
      · rw [if_pos c] at hE
        refine r_aload_n S dX8_reads_77 0 rfl ?_
        refine r_bipush S (100 : Int32) dX8_reads_78 rfl ?_
        obtain ⟨x3, M4, h9, hE⟩ := b2_some hE
        refine rc_I S (rn_V S fc8 (by decide) (c_MD_passes _ _ (gYX S) (100 : Int32) M2 _ _ h9) wdX8_passes q_840 ⟨Nat.le_of_ble_eq_true rfl, Nat.le_of_ble_eq_true rfl⟩ rfl (Nat.le_of_ble_eq_true rfl) dX8_reads_80) ?_
        refine r_if_eq S 93 dX8_reads_83 (by decide) (fun c => ?_) (fun c => ?_)
        · rw [if_pos c] at hE
          refine r_aload_n S dX8_reads_93 0 rfl ?_
          refine r_bipush S (103 : Int32) dX8_reads_94 rfl ?_
          obtain ⟨x5, M6, h9, hE⟩ := b2_some hE
          refine rc_I S (rn_V S fc8 (by decide) (c_MD_passes _ _ (gYX S) (103 : Int32) M4 _ _ h9) wdX8_passes q_840 ⟨Nat.le_of_ble_eq_true rfl, Nat.le_of_ble_eq_true rfl⟩ rfl (Nat.le_of_ble_eq_true rfl) dX8_reads_96) ?_
          refine r_if_eq S 113 dX8_reads_99 (by decide) (fun c => ?_) (fun c => ?_)
          · rw [if_pos c] at hE
            exact r_sub [0] rfl (J113  M6 hE)
          · rw [if_neg c] at hE
            refine r_aload_n S dX8_reads_102 0 rfl ?_
            obtain ⟨x7, M8, h9, hE⟩ := b2_some hE
            refine rc_I S (rn_V S fc8 (by decide) (c_MD_readsGate _ _ (gYX S)  M6 _ _ h9) wdX8_readsGate q_860 ⟨Nat.le_of_ble_eq_true rfl, Nat.le_of_ble_eq_true rfl⟩ rfl (Nat.le_of_ble_eq_true rfl) dX8_reads_103) ?_
            refine r_if_eq S 113 dX8_reads_106 (by decide) (fun c => ?_) (fun c => ?_)
            · try simp only [if_pos c] at hE
              refine r_iconst S (0 : Int32) dX8_reads_113 rfl ?_
              exact r_sub [0] rfl (J114 (0 : Int32) M8 hE)
            · try simp only [if_neg c] at hE
              refine r_iconst S (1 : Int32) dX8_reads_109 rfl ?_
              refine r_goto S 114 dX8_reads_110 (by decide) ?_
              exact r_sub [0] rfl (J114 (1 : Int32) M8 hE)
        · rw [if_neg c] at hE
          refine r_aload_n S dX8_reads_86 0 rfl ?_
          obtain ⟨x9, M10, h9, hE⟩ := b2_some hE
          refine rc_I S (rn_V S fc8 (by decide) (c_MD_readsDrain _ _ (gYX S)  M4 _ _ h9) wdX8_readsDrain q_855 ⟨Nat.le_of_ble_eq_true rfl, Nat.le_of_ble_eq_true rfl⟩ rfl (Nat.le_of_ble_eq_true rfl) dX8_reads_87) ?_
          refine r_goto S 114 dX8_reads_90 (by decide) ?_
          exact r_sub [0] rfl (J114 x9 M10 hE)
      · rw [if_neg (not_not_intro c)] at hE
        refine r_iconst S (0 : Int32) dX8_reads_75 rfl ?_
        obtain ⟨rfl, rfl⟩ := si2 hE
        rcases hD with ⟨h1, h2⟩ | ⟨_, h1⟩
        · obtain rfl := sir h1
          subst h2
          obtain ⟨rfl, rfl⟩ := hR _ rfl
          exact hret _ _ _ dX8_reads_76 (by decide)
        · exact (sil h1).elim
  unfold MD_reads at hE
  refine r_aload_n S dX8_reads_0 0 rfl ?_
  refine r_iconst S (0 : Int32) dX8_reads_1 rfl ?_
  refine r_putI S fc8 (by decide) 22 rfl rfl (by decide +kernel) q_819 dX8_reads_2 ?_
  refine r_aload_n S dX8_reads_5 0 rfl ?_
  obtain ⟨x1, M2, h9, hE⟩ := b2_some hE
  refine rc_I S (rn_V S fc8 (by decide) (c_MD_readsSize _ _ (gYX S)  (sI M 0 22 (0 : Int32)) _ _ h9) wdX8_readsSize q_845 ⟨Nat.le_of_ble_eq_true rfl, Nat.le_of_ble_eq_true rfl⟩ rfl (Nat.le_of_ble_eq_true rfl) dX8_reads_6) ?_
  refine r_if_ne S 14 dX8_reads_9 (by decide) (fun c => ?_) (fun c => ?_)
  · rw [if_pos c] at hE
    refine r_aload_n S dX8_reads_14 0 rfl ?_
    refine r_getI S fc8 (by decide) 23 rfl q_824 dX8_reads_15 ?_
    refine r_istore_n (lv2 := [(1, .int (gI M2 0 23)), (0, .ref (hY X.2.1.2 + 0))]) S dX8_reads_18 (by decide) rfl ?_
    refine r_aload_n S dX8_reads_19 1 rfl ?_
    obtain ⟨x3, M4, h9, hE⟩ := b2_some hE
    refine rc_I S (rn_V S fc8 (by decide) (c_MD_readsSize _ _ (gYX S)  M2 _ _ h9) wdX8_readsSize q_845 ⟨Nat.le_of_ble_eq_true rfl, Nat.le_of_ble_eq_true rfl⟩ rfl (Nat.le_of_ble_eq_true rfl) dX8_reads_20) ?_
    refine r_if_ne S 28 dX8_reads_23 (by decide) (fun c => ?_) (fun c => ?_)
    · rw [if_pos c] at hE
      refine r_aload_n S dX8_reads_28 1 rfl ?_
      refine r_iload_n S dX8_reads_29 0 rfl ?_
      refine r_aload_n S dX8_reads_30 1 rfl ?_
      refine r_getI S fc8 (by decide) 23 rfl q_824 dX8_reads_31 ?_
      obtain ⟨x5, M6, h9, hE⟩ := b2_some hE
      refine rc_V S (rn_V S fc8 (by decide) (c_MD_begins _ _ (gYX S) (gI M2 0 23) (gI M4 0 23) M4 _ _ h9) wdX8_begins q_687 ⟨Nat.le_of_ble_eq_true rfl, Nat.le_of_ble_eq_true rfl⟩ rfl (Nat.le_of_ble_eq_true rfl) dX8_reads_34) ?_
      refine r_aload_n S dX8_reads_37 1 rfl ?_
      refine r_bipush S (58 : Int32) dX8_reads_38 rfl ?_
      obtain ⟨x7, M8, h9, hE⟩ := b2_some hE
      refine rc_I S (rn_V S fc8 (by decide) (c_MD_passes _ _ (gYX S) (58 : Int32) M6 _ _ h9) wdX8_passes q_840 ⟨Nat.le_of_ble_eq_true rfl, Nat.le_of_ble_eq_true rfl⟩ rfl (Nat.le_of_ble_eq_true rfl) dX8_reads_40) ?_
      refine r_if_eq S 53 dX8_reads_43 (by decide) (fun c => ?_) (fun c => ?_)
      · rw [if_pos c] at hE
        refine r_iconst S (0 : Int32) dX8_reads_53 rfl ?_
        obtain ⟨rfl, rfl⟩ := si2 hE
        exact hret _ _ _ dX8_reads_54 (by decide)
      · rw [if_neg c] at hE
        refine r_aload_n S dX8_reads_46 1 rfl ?_
        obtain ⟨x9, M10, h9, hE⟩ := b2_some hE
        refine rc_I S (rn_V S fc8 (by decide) (c_MD_readsHeights _ _ (gYX S)  M8 _ _ h9) wdX8_readsHeights q_850 ⟨Nat.le_of_ble_eq_true rfl, Nat.le_of_ble_eq_true rfl⟩ rfl (Nat.le_of_ble_eq_true rfl) dX8_reads_47) ?_
        refine r_if_ne S 55 dX8_reads_50 (by decide) (fun c => ?_) (fun c => ?_)
        · rw [if_pos c] at hE
          obtain ⟨e11, M12, h9, hE⟩ := b2_some hE
          refine r_sub [1] rfl (L55   e11 M12 (fun e13 h8 => ?_) (fun r8 h8 => ?_) _ _ M10 h9)
          · subst h8
            refine r_iconst S (1 : Int32) dX8_reads_124 rfl ?_
            obtain ⟨rfl, rfl⟩ := si2 hE
            exact hret _ _ _ dX8_reads_125 (by decide)
          · subst h8
            exact si2 hE
        · rw [if_neg (not_not_intro c)] at hE
          refine r_iconst S (0 : Int32) dX8_reads_53 rfl ?_
          obtain ⟨rfl, rfl⟩ := si2 hE
          exact hret _ _ _ dX8_reads_54 (by decide)
    · rw [if_neg (not_not_intro c)] at hE
      refine r_iconst S (0 : Int32) dX8_reads_26 rfl ?_
      obtain ⟨rfl, rfl⟩ := si2 hE
      exact hret _ _ _ dX8_reads_27 (by decide)
  · rw [if_neg (not_not_intro c)] at hE
    refine r_iconst S (0 : Int32) dX8_reads_12 rfl ?_
    obtain ⟨rfl, rfl⟩ := si2 hE
    exact hret _ _ _ dX8_reads_13 (by decide)
set_option maxRecDepth 100000 in
set_option maxHeartbeats 4000000 in
theorem c_MD_parse (l : Launch) (Y : Env1) (hG : gY Y = gM) (M : Mem) (r : Int32) (M1 : Mem) (hE : MD_parse M = some (r, M1)) : CnI l Y yX8_parse cX8_parse 5 .int 10 [.ref (hY Y + 0)] M r M1 := by
  refine met_I (own := RX8) (by decide +kernel) rfl hG (Nat.le_of_ble_eq_true rfl) (fun X S hY1 hl1 hret => ?_)
  subst hY1
  subst hl1
  show AW X 0 [(0, .ref (hY X.2.1.2 + 0))] [] M
  have L36 : ∀ (e : (Unit)) (M2 : Mem), AW X 75 [(0, .ref (hY X.2.1.2 + 0))] [] M2 → ∀ (n : Nat) (s : Int32) (M : Mem), lpM (fun s M => MD_parse_L36 s M) n s M = some (e, M2) → AW X 36 [(0, .ref (hY X.2.1.2 + 0)), (2, .int s)] [] M := by
    intro e M2 hX
    refine lpM_ind (P := fun (s : Int32) (M : Mem) => AW X 36 [(0, .ref (hY X.2.1.2 + 0)), (2, .int s)] [] M) ?_
    rintro v2 M d M3 hE hC hD
    replace hE : MD_parse_L36 v2 M = some (d, M3) := hE
    show AW X 36 [(0, .ref (hY X.2.1.2 + 0)), (2, .int v2)] [] M
    unfold MD_parse_L36 at hE
    refine r_iload_n S dX8_parse_36 1 rfl ?_
    refine r_sipush S (513 : Int32) dX8_parse_37 rfl ?_
    refine r_icmp_ge S 75 dX8_parse_40 (by decide) (fun c => ?_) (fun c => ?_)
    · rw [if_pos c] at hE
      obtain ⟨rfl, rfl⟩ := si2 hE
      rcases hD with ⟨h1, h2⟩ | ⟨_, h1⟩
      · obtain rfl := sir h1
        subst h2
        exact r_sub [0] rfl hX
      · exact (sil h1).elim
    · rw [if_neg c] at hE
      refine r_aload_n S dX8_parse_43 0 rfl ?_
      refine r_getRK S fc8 (by decide) 0 1 rfl rfl q_523 dX8_parse_44 ?_
      refine r_iload_n S dX8_parse_47 1 rfl ?_
      obtain ⟨hi, hE⟩ := ck_some hE
      refine r_lald S (by decide) hi dX8_parse_48 ?_
      refine r_lstore_n (lv2 := [(3, .long (gL M 1 v2.toNatClampNeg)), (0, .ref (hY X.2.1.2 + 0)), (2, .int v2)]) S dX8_parse_49 (by decide) rfl ?_
      refine r_aload_n S dX8_parse_50 1 rfl ?_
      refine r_getRK S fc8 (by decide) 0 1 rfl rfl q_523 dX8_parse_51 ?_
      refine r_iload_n S dX8_parse_54 2 rfl ?_
      refine r_aload_n S dX8_parse_55 1 rfl ?_
      refine r_getRK S fc8 (by decide) 2 3 rfl rfl q_524 dX8_parse_56 ?_
      refine r_iload_n S dX8_parse_59 2 rfl ?_
      obtain ⟨hi, hE⟩ := ck_some hE
      refine r_lald S (by decide) hi dX8_parse_60 ?_
      obtain ⟨hi, hE⟩ := ck_some hE
      refine r_last S (by decide) hi dX8_parse_61 ?_
      refine r_aload_n S dX8_parse_62 1 rfl ?_
      refine r_getRK S fc8 (by decide) 2 3 rfl rfl q_524 dX8_parse_63 ?_
      refine r_iload_n S dX8_parse_66 2 rfl ?_
      refine r_lload_n S dX8_parse_67 0 rfl ?_
      obtain ⟨hi, hE⟩ := ck_some hE
      refine r_last S (by decide) hi dX8_parse_68 ?_
      refine r_iinc (lv2 := [(2, .int (v2 + (1 : Int32))), (3, .long (gL M 1 v2.toNatClampNeg)), (0, .ref (hY X.2.1.2 + 0))]) S dX8_parse_69 (j := 2) rfl (by decide) rfl ?_
      refine r_goto S 36 dX8_parse_72 (by decide) ?_
      obtain ⟨rfl, rfl⟩ := si2 hE
      exact r_sub (lv2 := [(0, .ref (hY X.2.1.2 + 0)), (2, .int (v2 + (1 : Int32)))]) [2, 0] rfl (hC (v2 + (1 : Int32)) rfl)
  unfold MD_parse at hE
  refine r_aload_n S dX8_parse_0 0 rfl ?_
  refine r_iconst S (0 : Int32) dX8_parse_1 rfl ?_
  refine r_putI S fc8 (by decide) 4 rfl rfl (by decide +kernel) q_520 dX8_parse_2 ?_
  refine r_aload_n S dX8_parse_5 0 rfl ?_
  obtain ⟨x1, M2, h9, hE⟩ := b2_some hE
  refine rc_V S (rn_V S fc8 (by decide) (c_MD_lays _ _ (gYX S)  (sI M 0 4 (0 : Int32)) _ _ h9) wdX8_lays q_795 ⟨Nat.le_of_ble_eq_true rfl, Nat.le_of_ble_eq_true rfl⟩ rfl (Nat.le_of_ble_eq_true rfl) dX8_parse_6) ?_
  refine r_aload_n S dX8_parse_9 0 rfl ?_
  obtain ⟨x3, M4, h9, hE⟩ := b2_some hE
  refine rc_I S (rn_V S fc8 (by decide) (c_MD_reads _ _ (gYX S)  M2 _ _ h9) wdX8_reads q_865 ⟨Nat.le_of_ble_eq_true rfl, Nat.le_of_ble_eq_true rfl⟩ rfl (Nat.le_of_ble_eq_true rfl) dX8_parse_10) ?_
  refine r_istore_n (lv2 := [(1, .int x3), (0, .ref (hY X.2.1.2 + 0))]) S dX8_parse_13 (by decide) rfl ?_
  refine r_iload_n S dX8_parse_14 0 rfl ?_
  refine r_if_ne S 30 dX8_parse_15 (by decide) (fun c => ?_) (fun c => ?_)
  · rw [if_pos c] at hE
    refine r_aload_n S dX8_parse_30 1 rfl ?_
    obtain ⟨x5, M6, h9, hE⟩ := b2_some hE
    refine rc_V S (rn_V S fc8 (by decide) (c_MD_finds _ _ (gYX S)  M4 _ _ h9) wdX8_finds q_666 ⟨Nat.le_of_ble_eq_true rfl, Nat.le_of_ble_eq_true rfl⟩ rfl (Nat.le_of_ble_eq_true rfl) dX8_parse_31) ?_
    refine r_iconst S (0 : Int32) dX8_parse_34 rfl ?_
    refine r_istore_n (lv2 := [(2, .int (0 : Int32)), (1, .int x3), (0, .ref (hY X.2.1.2 + 0))]) S dX8_parse_35 (by decide) rfl ?_
    obtain ⟨e7, M8, h9, hE⟩ := b2_some hE
    refine r_sub [2, 0] rfl (L36   e7 M8 ?_ _ _ M6 h9)
    refine r_aload_n S dX8_parse_75 0 rfl ?_
    obtain ⟨x9, M10, h9, hE⟩ := b2_some hE
    refine rc_V S (rn_V S fc8 (by decide) (c_MD_save _ _ (gYX S)  M8 _ _ h9) wdX8_save q_682 ⟨Nat.le_of_ble_eq_true rfl, Nat.le_of_ble_eq_true rfl⟩ rfl (Nat.le_of_ble_eq_true rfl) dX8_parse_76) ?_
    refine r_aload_n S dX8_parse_79 0 rfl ?_
    obtain ⟨x11, M12, h9, hE⟩ := b2_some hE
    refine rc_V S (rn_V S fc8 (by decide) (c_MD_takesBack _ _ (gYX S)  M10 _ _ h9) wdX8_takesBack q_800 ⟨Nat.le_of_ble_eq_true rfl, Nat.le_of_ble_eq_true rfl⟩ rfl (Nat.le_of_ble_eq_true rfl) dX8_parse_80) ?_
    refine r_aload_n S dX8_parse_83 0 rfl ?_
    refine r_getRK S fc8 (by decide) 0 1 rfl rfl q_523 dX8_parse_84 ?_
    refine r_bipush S (6 : Int32) dX8_parse_87 rfl ?_
    refine r_laldK S 6 rfl (by decide) (by decide) dX8_parse_89 ?_
    refine r_l2i S dX8_parse_90 ?_
    obtain ⟨rfl, rfl⟩ := si2 hE
    exact hret _ _ dX8_parse_91
  · rw [if_neg (not_not_intro c)] at hE
    refine r_aload_n S dX8_parse_18 1 rfl ?_
    obtain ⟨x13, M14, h9, hE⟩ := b2_some hE
    refine rc_V S (rn_V S fc8 (by decide) (c_MD_takesBack _ _ (gYX S)  M4 _ _ h9) wdX8_takesBack q_800 ⟨Nat.le_of_ble_eq_true rfl, Nat.le_of_ble_eq_true rfl⟩ rfl (Nat.le_of_ble_eq_true rfl) dX8_parse_19) ?_
    refine r_bipush S (-10 : Int32) dX8_parse_22 rfl ?_
    refine r_aload_n S dX8_parse_24 1 rfl ?_
    refine r_getI S fc8 (by decide) 22 rfl q_819 dX8_parse_25 ?_
    refine r_isub S dX8_parse_28 ?_
    obtain ⟨rfl, rfl⟩ := si2 hE
    exact hret _ _ dX8_parse_29
set_option maxRecDepth 100000 in
set_option maxHeartbeats 4000000 in
theorem c_MD_undo (l : Launch) (Y : Env1) (hG : gY Y = gM) (M : Mem) (r : Int32) (M1 : Mem) (hE : MD_undo M = some (r, M1)) : CnI l Y yX8_undo cX8_undo 2 .int 1 [.ref (hY Y + 0)] M r M1 := by
  refine met_I (own := RX8) (by decide +kernel) rfl hG (Nat.le_of_ble_eq_true rfl) (fun X S hY1 hl1 hret => ?_)
  subst hY1
  subst hl1
  show AW X 0 [(0, .ref (hY X.2.1.2 + 0))] [] M
  have L35 : ∀ (e : (Unit)) (M2 : Mem), AW X 69 [(0, .ref (hY X.2.1.2 + 0))] [] M2 → ∀ (n : Nat) (s : Int32) (M : Mem), lpM (fun s M => MD_undo_L35 s M) n s M = some (e, M2) → AW X 35 [(0, .ref (hY X.2.1.2 + 0)), (1, .int s)] [] M := by
    intro e M2 hX
    refine lpM_ind (P := fun (s : Int32) (M : Mem) => AW X 35 [(0, .ref (hY X.2.1.2 + 0)), (1, .int s)] [] M) ?_
    rintro v1 M d M3 hE hC hD
    replace hE : MD_undo_L35 v1 M = some (d, M3) := hE
    show AW X 35 [(0, .ref (hY X.2.1.2 + 0)), (1, .int v1)] [] M
    unfold MD_undo_L35 at hE
    refine r_iload_n S dX8_undo_35 1 rfl ?_
    refine r_sipush S (513 : Int32) dX8_undo_36 rfl ?_
    refine r_icmp_ge S 69 dX8_undo_39 (by decide) (fun c => ?_) (fun c => ?_)
    · rw [if_pos c] at hE
      obtain ⟨rfl, rfl⟩ := si2 hE
      rcases hD with ⟨h1, h2⟩ | ⟨_, h1⟩
      · obtain rfl := sir h1
        subst h2
        exact r_sub [0] rfl hX
      · exact (sil h1).elim
    · rw [if_neg c] at hE
      refine r_aload_n S dX8_undo_42 0 rfl ?_
      refine r_getRK S fc8 (by decide) 0 1 rfl rfl q_523 dX8_undo_43 ?_
      refine r_iload_n S dX8_undo_46 1 rfl ?_
      refine r_aload_n S dX8_undo_47 0 rfl ?_
      refine r_getRK S fc8 (by decide) 1 2 rfl rfl q_522 dX8_undo_48 ?_
      refine r_sipush S (513 : Int32) dX8_undo_51 rfl ?_
      refine r_aload_n S dX8_undo_54 0 rfl ?_
      refine r_getI S fc8 (by decide) 3 rfl q_521 dX8_undo_55 ?_
      refine r_imul S dX8_undo_58 ?_
      refine r_iload_n S dX8_undo_59 1 rfl ?_
      refine r_iadd S dX8_undo_60 ?_
      obtain ⟨hi, hE⟩ := ck_some hE
      refine r_lald S (by decide) hi dX8_undo_61 ?_
      obtain ⟨hi, hE⟩ := ck_some hE
      refine r_last S (by decide) hi dX8_undo_62 ?_
      refine r_iinc (lv2 := [(1, .int (v1 + (1 : Int32))), (0, .ref (hY X.2.1.2 + 0))]) S dX8_undo_63 (j := 1) rfl (by decide) rfl ?_
      refine r_goto S 35 dX8_undo_66 (by decide) ?_
      obtain ⟨rfl, rfl⟩ := si2 hE
      exact r_sub (lv2 := [(0, .ref (hY X.2.1.2 + 0)), (1, .int (v1 + (1 : Int32)))]) [1, 0] rfl (hC (v1 + (1 : Int32)) rfl)
  have J13 : ∀ (t0 : Int32) (M : Mem), MD_undo_J13 t0 M = some (r, M1) → AW X 13 [(0, .ref (hY X.2.1.2 + 0))] [.int t0, .ref (hY X.2.1.2 + 0)] M := by
    intro t0 M hE
    unfold MD_undo_J13 at hE
    refine r_iconst S (1 : Int32) dX8_undo_13 rfl ?_
    refine r_iconst S (1 : Int32) dX8_undo_14 rfl ?_
    obtain ⟨x1, M2, h9, hE⟩ := b2_some hE
    refine rc_I S (rn_V S fc8 (by decide) (c_MD_goes _ _ (gYX S) t0 (1 : Int32) (1 : Int32) M _ _ h9) wdX8_goes q_677 ⟨Nat.le_of_ble_eq_true rfl, Nat.le_of_ble_eq_true rfl⟩ rfl (Nat.le_of_ble_eq_true rfl) dX8_undo_15) ?_
    refine r_if_ne S 23 dX8_undo_18 (by decide) (fun c => ?_) (fun c => ?_)
    · rw [if_pos c] at hE
      refine r_aload_n S dX8_undo_23 0 rfl ?_
      refine r_dup S dX8_undo_24 rfl ?_
      refine r_getI S fc8 (by decide) 3 rfl q_521 dX8_undo_25 ?_
      refine r_iconst S (1 : Int32) dX8_undo_28 rfl ?_
      refine r_isub S dX8_undo_29 ?_
      refine r_putI S fc8 (by decide) 3 rfl rfl (by decide +kernel) q_521 dX8_undo_30 ?_
      refine r_iconst S (0 : Int32) dX8_undo_33 rfl ?_
      refine r_istore_n (lv2 := [(1, .int (0 : Int32)), (0, .ref (hY X.2.1.2 + 0))]) S dX8_undo_34 (by decide) rfl ?_
      obtain ⟨e3, M4, h9, hE⟩ := b2_some hE
      refine r_sub [1, 0] rfl (L35   e3 M4 ?_ _ _ (sI M2 0 3 ((gI M2 0 3) - (1 : Int32))) h9)
      refine r_aload_n S dX8_undo_69 0 rfl ?_
      refine r_getI S fc8 (by decide) 3 rfl q_521 dX8_undo_70 ?_
      obtain ⟨rfl, rfl⟩ := si2 hE
      exact hret _ _ dX8_undo_73
    · rw [if_neg (not_not_intro c)] at hE
      refine r_iconst S (0 : Int32) dX8_undo_21 rfl ?_
      obtain ⟨rfl, rfl⟩ := si2 hE
      exact hret _ _ dX8_undo_22
  unfold MD_undo at hE
  refine r_aload_n S dX8_undo_0 0 rfl ?_
  refine r_aload_n S dX8_undo_1 0 rfl ?_
  refine r_getI S fc8 (by decide) 3 rfl q_521 dX8_undo_2 ?_
  refine r_if_le S 12 dX8_undo_5 (by decide) (fun c => ?_) (fun c => ?_)
  · try simp only [if_pos c] at hE
    refine r_iconst S (0 : Int32) dX8_undo_12 rfl ?_
    exact r_sub [0] rfl (J13 (0 : Int32) M hE)
  · try simp only [if_neg c] at hE
    refine r_iconst S (1 : Int32) dX8_undo_8 rfl ?_
    refine r_goto S 13 dX8_undo_9 (by decide) ?_
    exact r_sub [0] rfl (J13 (1 : Int32) M hE)
set_option maxRecDepth 100000 in
set_option maxHeartbeats 4000000 in
theorem c_MD_sums (l : Launch) (Y : Env1) (hG : gY Y = gM) (a0 : Int64) (a2 : Int64) (M : Mem) (r : Int64) (hE : MD_sums a0 a2 = r) : CnL l Y yX8_sums cX8_sums 4 0 [.long a0, .long a2] M r M := by
  refine met_L (own := RX8) (by decide +kernel) rfl hG (Nat.le_of_ble_eq_true rfl) (fun X S hY1 hl1 hret => ?_)
  subst hY1
  subst hl1
  show AW X 0 [(0, .long a0), (2, .long a2)] [] M
  unfold MD_sums at hE
  refine r_ldc2 S (v := 31) q_870 dX8_sums_0 ?_
  refine r_lload_n S dX8_sums_3 0 rfl ?_
  refine r_lmul S dX8_sums_4 ?_
  refine r_lload_n S dX8_sums_5 1 rfl ?_
  refine r_ladd S dX8_sums_6 ?_
  subst hE
  exact hret _ _ dX8_sums_7
set_option maxRecDepth 100000 in
set_option maxHeartbeats 4000000 in
theorem c_MD_digest (l : Launch) (Y : Env1) (hG : gY Y = gM) (M : Mem) (r : Int64) (M1 : Mem) (hE : MD_digest M = some (r, M1)) : CnL l Y yX8_digest cX8_digest 6 8 [.ref (hY Y + 0)] M r M1 := by
  refine met_L (own := RX8) (by decide +kernel) rfl hG (Nat.le_of_ble_eq_true rfl) (fun X S hY1 hl1 hret => ?_)
  subst hY1
  subst hl1
  show AW X 0 [(0, .ref (hY X.2.1.2 + 0))] [] M
  have L189 : ∀ (M : Mem) (e : (Int64)), AW X 212 [(0, .ref (hY X.2.1.2 + 0)), (1, .long e)] [] M → ∀ (n : Nat) (s : Int64 × Int32), lpR (fun s => MD_digest_L189 s.1 s.2 M) n s = some e → AW X 189 [(0, .ref (hY X.2.1.2 + 0)), (1, .long s.1), (4, .int s.2)] [] M := by
    intro M e hX
    refine lpR_ind (P := fun (s : Int64 × Int32) => AW X 189 [(0, .ref (hY X.2.1.2 + 0)), (1, .long s.1), (4, .int s.2)] [] M) ?_
    rintro ⟨v1, v4⟩ d hE hC hD
    replace hE : MD_digest_L189 v1 v4 M = some d := hE
    show AW X 189 [(0, .ref (hY X.2.1.2 + 0)), (1, .long v1), (4, .int v4)] [] M
    unfold MD_digest_L189 at hE
    refine r_iload S dX8_digest_189 2 rfl ?_
    refine r_iconst S (4 : Int32) dX8_digest_191 rfl ?_
    refine r_icmp_ge S 212 dX8_digest_192 (by decide) (fun c => ?_) (fun c => ?_)
    · rw [if_pos c] at hE
      obtain rfl := si1 hE
      rcases hD with h1 | ⟨_, h1⟩
      · obtain rfl := sir h1
        exact r_sub [0, 1] rfl hX
      · exact (sil h1).elim
    · rw [if_neg c] at hE
      refine r_lload_n S dX8_digest_195 1 rfl ?_
      refine r_aload_n S dX8_digest_196 0 rfl ?_
      refine r_iload S dX8_digest_197 2 rfl ?_
      obtain ⟨x1, h9, hE⟩ := b1_some hE
      refine rc_L S (rn_V S fc8 (by decide) (c_MD_balanceOf _ _ (gYX S) v4 M _ h9) wdX8_balanceOf q_766 ⟨Nat.le_of_ble_eq_true rfl, Nat.le_of_ble_eq_true rfl⟩ rfl (Nat.le_of_ble_eq_true rfl) dX8_digest_199) ?_
      refine rc_L S (rn_S S (c_MD_sums _ _ (gYX S) v1 x1 M _ rfl) wdX8_sums q_872 ⟨Nat.le_of_ble_eq_true rfl, Nat.le_of_ble_eq_true rfl⟩ rfl (Nat.le_of_ble_eq_true rfl) dX8_digest_202) ?_
      refine r_lstore_n (lv2 := [(1, .long (MD_sums v1 x1)), (0, .ref (hY X.2.1.2 + 0)), (4, .int v4)]) S dX8_digest_205 (by decide) rfl ?_
      refine r_iinc (lv2 := [(4, .int (v4 + (1 : Int32))), (1, .long (MD_sums v1 x1)), (0, .ref (hY X.2.1.2 + 0))]) S dX8_digest_206 (j := 2) rfl (by decide) rfl ?_
      refine r_goto S 189 dX8_digest_209 (by decide) ?_
      obtain rfl := si1 hE
      exact r_sub (lv2 := [(0, .ref (hY X.2.1.2 + 0)), (1, .long (MD_sums v1 x1)), (4, .int (v4 + (1 : Int32)))]) [2, 1, 0] rfl (hC ((MD_sums v1 x1), (v4 + (1 : Int32))) rfl)
  have L108 : ∀ (v3 : Int32) (v4 : Int32) (e : (Int64)) (M2 : Mem), AW X 135 [(0, .ref (hY X.2.1.2 + 0)), (1, .long e), (3, .int v3), (4, .int v4)] [] M2 → ∀ (n : Nat) (s : Int64 × Int32) (M : Mem), lpM (fun s M => MD_digest_L108 v3 v4 s.1 s.2 M) n s M = some (e, M2) → AW X 108 [(0, .ref (hY X.2.1.2 + 0)), (1, .long s.1), (3, .int v3), (4, .int v4), (5, .int s.2)] [] M := by
    intro v3 v4 e M2 hX
    refine lpM_ind (P := fun (s : Int64 × Int32) (M : Mem) => AW X 108 [(0, .ref (hY X.2.1.2 + 0)), (1, .long s.1), (3, .int v3), (4, .int v4), (5, .int s.2)] [] M) ?_
    rintro ⟨v1, v5⟩ M d M3 hE hC hD
    replace hE : MD_digest_L108 v3 v4 v1 v5 M = some (d, M3) := hE
    show AW X 108 [(0, .ref (hY X.2.1.2 + 0)), (1, .long v1), (3, .int v3), (4, .int v4), (5, .int v5)] [] M
    unfold MD_digest_L108 at hE
    refine r_iload S dX8_digest_108 4 rfl ?_
    refine r_bipush S (10 : Int32) dX8_digest_110 rfl ?_
    refine r_icmp_ge S 135 dX8_digest_112 (by decide) (fun c => ?_) (fun c => ?_)
    · rw [if_pos c] at hE
      obtain ⟨rfl, rfl⟩ := si2 hE
      rcases hD with ⟨h1, h2⟩ | ⟨_, h1⟩
      · obtain rfl := sir h1
        subst h2
        exact r_sub [0, 1, 2, 3] rfl hX
      · exact (sil h1).elim
    · rw [if_neg c] at hE
      refine r_lload_n S dX8_digest_115 1 rfl ?_
      refine r_aload_n S dX8_digest_116 0 rfl ?_
      refine r_iload S dX8_digest_117 3 rfl ?_
      refine r_iload S dX8_digest_119 4 rfl ?_
      obtain ⟨x1, M2, h9, hE⟩ := b2_some hE
      refine rc_I S (rn_V S fc8 (by decide) (c_MD_lakeValue _ _ (gYX S) v4 v5 M _ _ h9) wdX8_lakeValue q_781 ⟨Nat.le_of_ble_eq_true rfl, Nat.le_of_ble_eq_true rfl⟩ rfl (Nat.le_of_ble_eq_true rfl) dX8_digest_121) ?_
      refine r_i2l S dX8_digest_124 ?_
      refine rc_L S (rn_S S (c_MD_sums _ _ (gYX S) v1 x1.toInt64 M2 _ rfl) wdX8_sums q_872 ⟨Nat.le_of_ble_eq_true rfl, Nat.le_of_ble_eq_true rfl⟩ rfl (Nat.le_of_ble_eq_true rfl) dX8_digest_125) ?_
      refine r_lstore_n (lv2 := [(1, .long (MD_sums v1 x1.toInt64)), (0, .ref (hY X.2.1.2 + 0)), (3, .int v3), (4, .int v4), (5, .int v5)]) S dX8_digest_128 (by decide) rfl ?_
      refine r_iinc (lv2 := [(5, .int (v5 + (1 : Int32))), (1, .long (MD_sums v1 x1.toInt64)), (0, .ref (hY X.2.1.2 + 0)), (3, .int v3), (4, .int v4)]) S dX8_digest_129 (j := 4) rfl (by decide) rfl ?_
      refine r_goto S 108 dX8_digest_132 (by decide) ?_
      obtain ⟨rfl, rfl⟩ := si2 hE
      exact r_sub (lv2 := [(0, .ref (hY X.2.1.2 + 0)), (1, .long (MD_sums v1 x1.toInt64)), (3, .int v3), (4, .int v4), (5, .int (v5 + (1 : Int32)))]) [2, 1, 3, 4, 0] rfl (hC ((MD_sums v1 x1.toInt64), (v5 + (1 : Int32))) rfl)
  have L99 : ∀ (v3 : Int32) (e : (Int64)) (M2 : Mem), AW X 186 [(0, .ref (hY X.2.1.2 + 0)), (1, .long e)] [] M2 → ∀ (n : Nat) (s : Int64 × Int32) (M : Mem), lpM (fun s M => MD_digest_L99 v3 s.1 s.2 M) n s M = some (e, M2) → AW X 99 [(0, .ref (hY X.2.1.2 + 0)), (1, .long s.1), (3, .int v3), (4, .int s.2)] [] M := by
    intro v3 e M2 hX
    refine lpM_ind (P := fun (s : Int64 × Int32) (M : Mem) => AW X 99 [(0, .ref (hY X.2.1.2 + 0)), (1, .long s.1), (3, .int v3), (4, .int s.2)] [] M) ?_
    rintro ⟨v1, v4⟩ M d M3 hE hC hD
    replace hE : MD_digest_L99 v3 v1 v4 M = some (d, M3) := hE
    show AW X 99 [(0, .ref (hY X.2.1.2 + 0)), (1, .long v1), (3, .int v3), (4, .int v4)] [] M
    unfold MD_digest_L99 at hE
    refine r_iload S dX8_digest_99 3 rfl ?_
    refine r_iload_n S dX8_digest_101 2 rfl ?_
    refine r_icmp_ge S 186 dX8_digest_102 (by decide) (fun c => ?_) (fun c => ?_)
    · rw [if_pos c] at hE
      obtain ⟨rfl, rfl⟩ := si2 hE
      rcases hD with ⟨h1, h2⟩ | ⟨_, h1⟩
      · obtain rfl := sir h1
        subst h2
        exact r_sub [0, 1] rfl hX
      · exact (sil h1).elim
    · rw [if_neg c] at hE
      refine r_iconst S (0 : Int32) dX8_digest_105 rfl ?_
      refine r_istore (lv2 := [(5, .int (0 : Int32)), (0, .ref (hY X.2.1.2 + 0)), (1, .long v1), (3, .int v3), (4, .int v4)]) S dX8_digest_106 (by decide) rfl ?_
      obtain ⟨e1, M2, h9, hE⟩ := b2_some hE
      refine r_sub [1, 2, 3, 4, 0] rfl (L108 v3 v4  e1 M2 ?_ _ _ M h9)
      refine r_lload_n S dX8_digest_135 1 rfl ?_
      refine r_aload_n S dX8_digest_136 0 rfl ?_
      refine r_getRK S fc8 (by decide) 0 1 rfl rfl q_523 dX8_digest_137 ?_
      refine r_sipush S (152 : Int32) dX8_digest_140 rfl ?_
      refine r_aload_n S dX8_digest_143 0 rfl ?_
      refine r_getRK S fc8 (by decide) 11 7 rfl rfl q_640 dX8_digest_144 ?_
      refine r_iload S dX8_digest_147 3 rfl ?_
      obtain ⟨hi, hE⟩ := ck_some hE
      refine r_iald S (by decide) hi dX8_digest_149 ?_
      refine r_iadd S dX8_digest_150 ?_
      obtain ⟨hi, hE⟩ := ck_some hE
      refine r_lald S (by decide) hi dX8_digest_151 ?_
      refine rc_L S (rn_S S (c_MD_sums _ _ (gYX S) e1 (gL M2 1 ((152 : Int32) + (gI M2 7 v4.toNatClampNeg)).toNatClampNeg) M2 _ rfl) wdX8_sums q_872 ⟨Nat.le_of_ble_eq_true rfl, Nat.le_of_ble_eq_true rfl⟩ rfl (Nat.le_of_ble_eq_true rfl) dX8_digest_152) ?_
      refine r_lstore_n (lv2 := [(1, .long (MD_sums e1 (gL M2 1 ((152 : Int32) + (gI M2 7 v4.toNatClampNeg)).toNatClampNeg))), (0, .ref (hY X.2.1.2 + 0)), (3, .int v3), (4, .int v4)]) S dX8_digest_155 (by decide) rfl ?_
      refine r_lload_n S dX8_digest_156 0 rfl ?_
      refine r_aload_n S dX8_digest_157 1 rfl ?_
      refine r_iload S dX8_digest_158 3 rfl ?_
      refine r_iconst S (0 : Int32) dX8_digest_160 rfl ?_
      obtain ⟨x3, M4, h9, hE⟩ := b2_some hE
      refine rc_I S (rn_V S fc8 (by decide) (c_MD_levelPart _ _ (gYX S) v4 (0 : Int32) M2 _ _ h9) wdX8_levelPart q_790 ⟨Nat.le_of_ble_eq_true rfl, Nat.le_of_ble_eq_true rfl⟩ rfl (Nat.le_of_ble_eq_true rfl) dX8_digest_161) ?_
      refine r_i2l S dX8_digest_164 ?_
      refine rc_L S (rn_S S (c_MD_sums _ _ (gYX S) (MD_sums e1 (gL M2 1 ((152 : Int32) + (gI M2 7 v4.toNatClampNeg)).toNatClampNeg)) x3.toInt64 M4 _ rfl) wdX8_sums q_872 ⟨Nat.le_of_ble_eq_true rfl, Nat.le_of_ble_eq_true rfl⟩ rfl (Nat.le_of_ble_eq_true rfl) dX8_digest_165) ?_
      refine r_aload_n S dX8_digest_168 1 rfl ?_
      refine r_iload S dX8_digest_169 3 rfl ?_
      refine r_iconst S (1 : Int32) dX8_digest_171 rfl ?_
      obtain ⟨x5, M6, h9, hE⟩ := b2_some hE
      refine rc_I S (rn_V S fc8 (by decide) (c_MD_levelPart _ _ (gYX S) v4 (1 : Int32) M4 _ _ h9) wdX8_levelPart q_790 ⟨Nat.le_of_ble_eq_true rfl, Nat.le_of_ble_eq_true rfl⟩ rfl (Nat.le_of_ble_eq_true rfl) dX8_digest_172) ?_
      refine r_i2l S dX8_digest_175 ?_
      refine rc_L S (rn_S S (c_MD_sums _ _ (gYX S) (MD_sums (MD_sums e1 (gL M2 1 ((152 : Int32) + (gI M2 7 v4.toNatClampNeg)).toNatClampNeg)) x3.toInt64) x5.toInt64 M6 _ rfl) wdX8_sums q_872 ⟨Nat.le_of_ble_eq_true rfl, Nat.le_of_ble_eq_true rfl⟩ rfl (Nat.le_of_ble_eq_true rfl) dX8_digest_176) ?_
      refine r_lstore_n (lv2 := [(1, .long (MD_sums (MD_sums (MD_sums e1 (gL M2 1 ((152 : Int32) + (gI M2 7 v4.toNatClampNeg)).toNatClampNeg)) x3.toInt64) x5.toInt64)), (0, .ref (hY X.2.1.2 + 0)), (3, .int v3), (4, .int v4)]) S dX8_digest_179 (by decide) rfl ?_
      refine r_iinc (lv2 := [(4, .int (v4 + (1 : Int32))), (1, .long (MD_sums (MD_sums (MD_sums e1 (gL M2 1 ((152 : Int32) + (gI M2 7 v4.toNatClampNeg)).toNatClampNeg)) x3.toInt64) x5.toInt64)), (0, .ref (hY X.2.1.2 + 0)), (3, .int v3)]) S dX8_digest_180 (j := 3) rfl (by decide) rfl ?_
      refine r_goto S 99 dX8_digest_183 (by decide) ?_
      obtain ⟨rfl, rfl⟩ := si2 hE
      exact r_sub (lv2 := [(0, .ref (hY X.2.1.2 + 0)), (1, .long (MD_sums (MD_sums (MD_sums e1 (gL M2 1 ((152 : Int32) + (gI M2 7 v4.toNatClampNeg)).toNatClampNeg)) x3.toInt64) x5.toInt64)), (3, .int v3), (4, .int (v4 + (1 : Int32)))]) [2, 1, 3, 0] rfl (hC ((MD_sums (MD_sums (MD_sums e1 (gL M2 1 ((152 : Int32) + (gI M2 7 v4.toNatClampNeg)).toNatClampNeg)) x3.toInt64) x5.toInt64), (v4 + (1 : Int32))) rfl)
  have L55 : ∀ (v3 : Int32) (e : (Int64)) (M2 : Mem), AW X 81 [(0, .ref (hY X.2.1.2 + 0)), (1, .long e), (3, .int v3)] [] M2 → ∀ (n : Nat) (s : Int64 × Int32) (M : Mem), lpM (fun s M => MD_digest_L55 v3 s.1 s.2 M) n s M = some (e, M2) → AW X 55 [(0, .ref (hY X.2.1.2 + 0)), (1, .long s.1), (3, .int v3), (4, .int s.2)] [] M := by
    intro v3 e M2 hX
    refine lpM_ind (P := fun (s : Int64 × Int32) (M : Mem) => AW X 55 [(0, .ref (hY X.2.1.2 + 0)), (1, .long s.1), (3, .int v3), (4, .int s.2)] [] M) ?_
    rintro ⟨v1, v4⟩ M d M3 hE hC hD
    replace hE : MD_digest_L55 v3 v1 v4 M = some (d, M3) := hE
    show AW X 55 [(0, .ref (hY X.2.1.2 + 0)), (1, .long v1), (3, .int v3), (4, .int v4)] [] M
    unfold MD_digest_L55 at hE
    refine r_iload S dX8_digest_55 3 rfl ?_
    refine r_bipush S (6 : Int32) dX8_digest_57 rfl ?_
    refine r_icmp_ge S 81 dX8_digest_59 (by decide) (fun c => ?_) (fun c => ?_)
    · rw [if_pos c] at hE
      obtain ⟨rfl, rfl⟩ := si2 hE
      rcases hD with ⟨h1, h2⟩ | ⟨_, h1⟩
      · obtain rfl := sir h1
        subst h2
        exact r_sub [0, 1, 2] rfl hX
      · exact (sil h1).elim
    · rw [if_neg c] at hE
      refine r_lload_n S dX8_digest_62 1 rfl ?_
      refine r_aload_n S dX8_digest_63 0 rfl ?_
      refine r_iload_n S dX8_digest_64 2 rfl ?_
      refine r_iload S dX8_digest_65 3 rfl ?_
      obtain ⟨x1, M2, h9, hE⟩ := b2_some hE
      refine rc_I S (rn_V S fc8 (by decide) (c_MD_cellValue _ _ (gYX S) v3 v4 M _ _ h9) wdX8_cellValue q_719 ⟨Nat.le_of_ble_eq_true rfl, Nat.le_of_ble_eq_true rfl⟩ rfl (Nat.le_of_ble_eq_true rfl) dX8_digest_67) ?_
      refine r_i2l S dX8_digest_70 ?_
      refine rc_L S (rn_S S (c_MD_sums _ _ (gYX S) v1 x1.toInt64 M2 _ rfl) wdX8_sums q_872 ⟨Nat.le_of_ble_eq_true rfl, Nat.le_of_ble_eq_true rfl⟩ rfl (Nat.le_of_ble_eq_true rfl) dX8_digest_71) ?_
      refine r_lstore_n (lv2 := [(1, .long (MD_sums v1 x1.toInt64)), (0, .ref (hY X.2.1.2 + 0)), (3, .int v3), (4, .int v4)]) S dX8_digest_74 (by decide) rfl ?_
      refine r_iinc (lv2 := [(4, .int (v4 + (1 : Int32))), (1, .long (MD_sums v1 x1.toInt64)), (0, .ref (hY X.2.1.2 + 0)), (3, .int v3)]) S dX8_digest_75 (j := 3) rfl (by decide) rfl ?_
      refine r_goto S 55 dX8_digest_78 (by decide) ?_
      obtain ⟨rfl, rfl⟩ := si2 hE
      exact r_sub (lv2 := [(0, .ref (hY X.2.1.2 + 0)), (1, .long (MD_sums v1 x1.toInt64)), (3, .int v3), (4, .int (v4 + (1 : Int32)))]) [2, 1, 3, 0] rfl (hC ((MD_sums v1 x1.toInt64), (v4 + (1 : Int32))) rfl)
  have L44 : ∀ (e : (Int64)) (M2 : Mem), AW X 87 [(0, .ref (hY X.2.1.2 + 0)), (1, .long e)] [] M2 → ∀ (n : Nat) (s : Int64 × Int32) (M : Mem), lpM (fun s M => MD_digest_L44 s.1 s.2 M) n s M = some (e, M2) → AW X 44 [(0, .ref (hY X.2.1.2 + 0)), (1, .long s.1), (3, .int s.2)] [] M := by
    intro e M2 hX
    refine lpM_ind (P := fun (s : Int64 × Int32) (M : Mem) => AW X 44 [(0, .ref (hY X.2.1.2 + 0)), (1, .long s.1), (3, .int s.2)] [] M) ?_
    rintro ⟨v1, v3⟩ M d M3 hE hC hD
    replace hE : MD_digest_L44 v1 v3 M = some (d, M3) := hE
    show AW X 44 [(0, .ref (hY X.2.1.2 + 0)), (1, .long v1), (3, .int v3)] [] M
    unfold MD_digest_L44 at hE
    refine r_iload_n S dX8_digest_44 2 rfl ?_
    refine r_aload_n S dX8_digest_45 0 rfl ?_
    refine rc_I S (rn_V S fc8 (by decide) (c_MD_many _ _ (gYX S)  M _ rfl) wdX8_many q_525 ⟨Nat.le_of_ble_eq_true rfl, Nat.le_of_ble_eq_true rfl⟩ rfl (Nat.le_of_ble_eq_true rfl) dX8_digest_46) ?_
    refine r_icmp_ge S 87 dX8_digest_49 (by decide) (fun c => ?_) (fun c => ?_)
    · rw [if_pos c] at hE
      obtain ⟨rfl, rfl⟩ := si2 hE
      rcases hD with ⟨h1, h2⟩ | ⟨_, h1⟩
      · obtain rfl := sir h1
        subst h2
        exact r_sub [0, 1] rfl hX
      · exact (sil h1).elim
    · rw [if_neg c] at hE
      refine r_iconst S (0 : Int32) dX8_digest_52 rfl ?_
      refine r_istore (lv2 := [(4, .int (0 : Int32)), (0, .ref (hY X.2.1.2 + 0)), (1, .long v1), (3, .int v3)]) S dX8_digest_53 (by decide) rfl ?_
      obtain ⟨e1, M2, h9, hE⟩ := b2_some hE
      refine r_sub [1, 2, 3, 0] rfl (L55 v3  e1 M2 ?_ _ _ M h9)
      refine r_iinc (lv2 := [(3, .int (v3 + (1 : Int32))), (0, .ref (hY X.2.1.2 + 0)), (1, .long e1)]) S dX8_digest_81 (j := 2) rfl (by decide) rfl ?_
      refine r_goto S 44 dX8_digest_84 (by decide) ?_
      obtain ⟨rfl, rfl⟩ := si2 hE
      exact r_sub (lv2 := [(0, .ref (hY X.2.1.2 + 0)), (1, .long e1), (3, .int (v3 + (1 : Int32)))]) [1, 2, 0] rfl (hC (e1, (v3 + (1 : Int32))) rfl)
  have L19 : ∀ (e : (Int64)) (M2 : Mem), AW X 42 [(0, .ref (hY X.2.1.2 + 0)), (1, .long e)] [] M2 → ∀ (n : Nat) (s : Int64 × Int32) (M : Mem), lpM (fun s M => MD_digest_L19 s.1 s.2 M) n s M = some (e, M2) → AW X 19 [(0, .ref (hY X.2.1.2 + 0)), (1, .long s.1), (3, .int s.2)] [] M := by
    intro e M2 hX
    refine lpM_ind (P := fun (s : Int64 × Int32) (M : Mem) => AW X 19 [(0, .ref (hY X.2.1.2 + 0)), (1, .long s.1), (3, .int s.2)] [] M) ?_
    rintro ⟨v1, v3⟩ M d M3 hE hC hD
    replace hE : MD_digest_L19 v1 v3 M = some (d, M3) := hE
    show AW X 19 [(0, .ref (hY X.2.1.2 + 0)), (1, .long v1), (3, .int v3)] [] M
    unfold MD_digest_L19 at hE
    refine r_iload_n S dX8_digest_19 2 rfl ?_
    refine r_bipush S (7 : Int32) dX8_digest_20 rfl ?_
    refine r_icmp_ge S 42 dX8_digest_22 (by decide) (fun c => ?_) (fun c => ?_)
    · rw [if_pos c] at hE
      obtain ⟨rfl, rfl⟩ := si2 hE
      rcases hD with ⟨h1, h2⟩ | ⟨_, h1⟩
      · obtain rfl := sir h1
        subst h2
        exact r_sub [0, 1] rfl hX
      · exact (sil h1).elim
    · rw [if_neg c] at hE
      refine r_lload_n S dX8_digest_25 1 rfl ?_
      refine r_aload_n S dX8_digest_26 0 rfl ?_
      refine r_iload_n S dX8_digest_27 2 rfl ?_
      obtain ⟨x1, M2, h9, hE⟩ := b2_some hE
      refine rc_I S (rn_V S fc8 (by decide) (c_MD_countOf _ _ (gYX S) v3 M _ _ h9) wdX8_countOf q_734 ⟨Nat.le_of_ble_eq_true rfl, Nat.le_of_ble_eq_true rfl⟩ rfl (Nat.le_of_ble_eq_true rfl) dX8_digest_28) ?_
      refine r_i2l S dX8_digest_31 ?_
      refine rc_L S (rn_S S (c_MD_sums _ _ (gYX S) v1 x1.toInt64 M2 _ rfl) wdX8_sums q_872 ⟨Nat.le_of_ble_eq_true rfl, Nat.le_of_ble_eq_true rfl⟩ rfl (Nat.le_of_ble_eq_true rfl) dX8_digest_32) ?_
      refine r_lstore_n (lv2 := [(1, .long (MD_sums v1 x1.toInt64)), (0, .ref (hY X.2.1.2 + 0)), (3, .int v3)]) S dX8_digest_35 (by decide) rfl ?_
      refine r_iinc (lv2 := [(3, .int (v3 + (1 : Int32))), (1, .long (MD_sums v1 x1.toInt64)), (0, .ref (hY X.2.1.2 + 0))]) S dX8_digest_36 (j := 2) rfl (by decide) rfl ?_
      refine r_goto S 19 dX8_digest_39 (by decide) ?_
      obtain ⟨rfl, rfl⟩ := si2 hE
      exact r_sub (lv2 := [(0, .ref (hY X.2.1.2 + 0)), (1, .long (MD_sums v1 x1.toInt64)), (3, .int (v3 + (1 : Int32)))]) [2, 1, 0] rfl (hC ((MD_sums v1 x1.toInt64), (v3 + (1 : Int32))) rfl)
  unfold MD_digest at hE
  refine r_aload_n S dX8_digest_0 0 rfl ?_
  refine r_iconst S (0 : Int32) dX8_digest_1 rfl ?_
  refine r_putI S fc8 (by decide) 4 rfl rfl (by decide +kernel) q_520 dX8_digest_2 ?_
  refine r_ldc2 S (v := 3049) q_871 dX8_digest_5 ?_
  refine r_aload_n S dX8_digest_8 0 rfl ?_
  refine r_getI S fc8 (by decide) 21 rfl q_817 dX8_digest_9 ?_
  refine r_i2l S dX8_digest_12 ?_
  refine rc_L S (rn_S S (c_MD_sums _ _ (gYX S) (3049 : Int64) ((gI (sI M 0 4 (0 : Int32)) 0 21).toInt64) (sI M 0 4 (0 : Int32)) _ rfl) wdX8_sums q_872 ⟨Nat.le_of_ble_eq_true rfl, Nat.le_of_ble_eq_true rfl⟩ rfl (Nat.le_of_ble_eq_true rfl) dX8_digest_13) ?_
  refine r_lstore_n (lv2 := [(1, .long (MD_sums (3049 : Int64) ((gI (sI M 0 4 (0 : Int32)) 0 21).toInt64))), (0, .ref (hY X.2.1.2 + 0))]) S dX8_digest_16 (by decide) rfl ?_
  refine r_iconst S (0 : Int32) dX8_digest_17 rfl ?_
  refine r_istore_n (lv2 := [(3, .int (0 : Int32)), (1, .long (MD_sums (3049 : Int64) ((gI (sI M 0 4 (0 : Int32)) 0 21).toInt64))), (0, .ref (hY X.2.1.2 + 0))]) S dX8_digest_18 (by decide) rfl ?_
  obtain ⟨e1, M2, h9, hE⟩ := b2_some hE
  refine r_sub [2, 1, 0] rfl (L19   e1 M2 ?_ _ _ (sI M 0 4 (0 : Int32)) h9)
  refine r_iconst S (0 : Int32) dX8_digest_42 rfl ?_
  refine r_istore_n (lv2 := [(3, .int (0 : Int32)), (0, .ref (hY X.2.1.2 + 0)), (1, .long e1)]) S dX8_digest_43 (by decide) rfl ?_
  obtain ⟨e3, M4, h9, hE⟩ := b2_some hE
  refine r_sub [1, 2, 0] rfl (L44   e3 M4 ?_ _ _ M2 h9)
  refine r_aload_n S dX8_digest_87 0 rfl ?_
  obtain ⟨x5, M6, h9, hE⟩ := b2_some hE
  refine rc_V S (rn_V S fc8 (by decide) (c_MD_orders _ _ (gYX S)  M4 _ _ h9) wdX8_orders q_641 ⟨Nat.le_of_ble_eq_true rfl, Nat.le_of_ble_eq_true rfl⟩ rfl (Nat.le_of_ble_eq_true rfl) dX8_digest_88) ?_
  refine r_aload_n S dX8_digest_91 0 rfl ?_
  refine r_getI S fc8 (by decide) 12 rfl q_639 dX8_digest_92 ?_
  refine r_istore_n (lv2 := [(3, .int (gI M6 0 12)), (0, .ref (hY X.2.1.2 + 0)), (1, .long e3)]) S dX8_digest_95 (by decide) rfl ?_
  refine r_iconst S (0 : Int32) dX8_digest_96 rfl ?_
  refine r_istore (lv2 := [(4, .int (0 : Int32)), (3, .int (gI M6 0 12)), (0, .ref (hY X.2.1.2 + 0)), (1, .long e3)]) S dX8_digest_97 (by decide) rfl ?_
  obtain ⟨e7, M8, h9, hE⟩ := b2_some hE
  refine r_sub [2, 3, 1, 0] rfl (L99 (gI M6 0 12)  e7 M8 ?_ _ _ M6 h9)
  refine r_iconst S (0 : Int32) dX8_digest_186 rfl ?_
  refine r_istore (lv2 := [(4, .int (0 : Int32)), (0, .ref (hY X.2.1.2 + 0)), (1, .long e7)]) S dX8_digest_187 (by decide) rfl ?_
  obtain ⟨e9, h9, hE⟩ := b1_some hE
  refine r_sub [1, 2, 0] rfl (L189  M8 e9 ?_ _ _  h9)
  refine r_lload_n S dX8_digest_212 1 rfl ?_
  refine r_aload_n S dX8_digest_213 0 rfl ?_
  refine r_getI S fc8 (by decide) 3 rfl q_521 dX8_digest_214 ?_
  refine r_i2l S dX8_digest_217 ?_
  refine rc_L S (rn_S S (c_MD_sums _ _ (gYX S) e9 ((gI M8 0 3).toInt64) M8 _ rfl) wdX8_sums q_872 ⟨Nat.le_of_ble_eq_true rfl, Nat.le_of_ble_eq_true rfl⟩ rfl (Nat.le_of_ble_eq_true rfl) dX8_digest_218) ?_
  obtain ⟨rfl, rfl⟩ := si2 hE
  exact hret _ _ dX8_digest_221
