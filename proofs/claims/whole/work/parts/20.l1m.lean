set_option maxRecDepth 100000 in
set_option maxHeartbeats 4000000 in
theorem c_MD_thrown (l : Launch) (Y : Env1) (hG : gY Y = gM) (M : Mem) (r : Int32) (hE : MD_thrown M = r) : CnI l Y yX8_thrown cX8_thrown 1 .int 0 [.ref (hY Y + 0)] M r M := by
  refine met_I (own := RX8) (by decide +kernel) rfl hG (Nat.le_of_ble_eq_true rfl) (fun X S hY1 hl1 hret => ?_)
  subst hY1
  subst hl1
  show AW X 0 [(0, .ref (hY X.2.1.2 + 0))] [] M
  unfold MD_thrown at hE
  refine r_aload_n S dX8_thrown_0 0 rfl ?_
  refine r_getI S fc8 (by decide) 4 rfl q_520 dX8_thrown_1 ?_
  subst hE
  exact hret _ _ dX8_thrown_4
set_option maxRecDepth 100000 in
set_option maxHeartbeats 4000000 in
theorem c_MD_in (l : Launch) (Y : Env1) (hG : gY Y = gM) (a0 : Int64) (a2 : Int64) (a4 : Int64) (M : Mem) (r : Int32) (hE : MD_in a0 a2 a4 = r) : CnI l Y yX8_in cX8_in 6 .boolean 0 [.long a0, .long a2, .long a4] M r M := by
  refine met_Z (own := RX8) (by decide +kernel) rfl hG (Nat.le_of_ble_eq_true rfl) (fun X S hY1 hl1 hret => ?_)
  subst hY1
  subst hl1
  show AW X 0 [(0, .long a0), (2, .long a2), (4, .long a4)] [] M
  unfold MD_in at hE
  refine r_lload_n S dX8_in_0 0 rfl ?_
  refine r_lload_n S dX8_in_1 1 rfl ?_
  refine r_lcmp_lt S 17 dX8_in_2 dX8_in_3 (by decide) (fun c => ?_) (fun c => ?_)
  · try simp only [if_pos c] at hE
    refine r_iconst S (0 : Int32) dX8_in_17 rfl ?_
    subst hE
    exact hret _ _ _ dX8_in_18 (by decide)
  · try simp only [if_neg c] at hE
    refine r_lload_n S dX8_in_6 0 rfl ?_
    refine r_lload S dX8_in_7 2 rfl ?_
    refine r_lcmp_gt S 17 dX8_in_9 dX8_in_10 (by decide) (fun c => ?_) (fun c => ?_)
    · try simp only [if_pos c] at hE
      refine r_iconst S (0 : Int32) dX8_in_17 rfl ?_
      subst hE
      exact hret _ _ _ dX8_in_18 (by decide)
    · try simp only [if_neg c] at hE
      refine r_iconst S (1 : Int32) dX8_in_13 rfl ?_
      refine r_goto S 18 dX8_in_14 (by decide) ?_
      subst hE
      exact hret _ _ _ dX8_in_18 (by decide)
set_option maxRecDepth 100000 in
set_option maxHeartbeats 4000000 in
theorem c_MD_goes (l : Launch) (Y : Env1) (hG : gY Y = gM) (a1 : Int32) (a2 : Int32) (a3 : Int32) (M : Mem) (r : Int32) (M1 : Mem) (hE : MD_goes a1 a2 a3 M = some (r, M1)) : CnI l Y yX8_goes cX8_goes 4 .boolean 0 [.ref (hY Y + 0), .int a1, .int a2, .int a3] M r M1 := by
  refine met_Z (own := RX8) (by decide +kernel) rfl hG (Nat.le_of_ble_eq_true rfl) (fun X S hY1 hl1 hret => ?_)
  subst hY1
  subst hl1
  show AW X 0 [(0, .ref (hY X.2.1.2 + 0)), (1, .int a1), (2, .int a2), (3, .int a3)] [] M
  have J26 : ∀ (t0 : Int32) (M : Mem), MD_goes_J26 t0 M = some (r, M1) → AW X 26 [(0, .ref (hY X.2.1.2 + 0))] [.int t0, .ref (hY X.2.1.2 + 0)] M := by
    intro t0 M hE
    unfold MD_goes_J26 at hE
    refine r_putI S fc8 (by decide) 4 rfl rfl (by decide +kernel) q_520 dX8_goes_26 ?_
    refine r_aload_n S dX8_goes_29 0 rfl ?_
    refine r_getI S fc8 (by decide) 4 rfl q_520 dX8_goes_30 ?_
    refine r_if_ne S 40 dX8_goes_33 (by decide) (fun c => ?_) (fun c => ?_)
    · try simp only [if_pos c] at hE
      refine r_iconst S (0 : Int32) dX8_goes_40 rfl ?_
      obtain ⟨rfl, rfl⟩ := si2 hE
      exact hret _ _ _ dX8_goes_41 (by decide)
    · try simp only [if_neg (not_not_intro c)] at hE
      refine r_iconst S (1 : Int32) dX8_goes_36 rfl ?_
      refine r_goto S 41 dX8_goes_37 (by decide) ?_
      obtain ⟨rfl, rfl⟩ := si2 hE
      exact hret _ _ _ dX8_goes_41 (by decide)
  unfold MD_goes at hE
  refine r_aload_n S dX8_goes_0 0 rfl ?_
  refine r_iload_n S dX8_goes_1 1 rfl ?_
  refine r_if_ne S 9 dX8_goes_2 (by decide) (fun c => ?_) (fun c => ?_)
  · try simp only [if_pos c] at hE
    refine r_iload_n S dX8_goes_9 2 rfl ?_
    refine r_if_ne S 17 dX8_goes_10 (by decide) (fun c => ?_) (fun c => ?_)
    · try simp only [if_pos c] at hE
      refine r_iload_n S dX8_goes_17 3 rfl ?_
      refine r_if_ne S 25 dX8_goes_18 (by decide) (fun c => ?_) (fun c => ?_)
      · try simp only [if_pos c] at hE
        refine r_iconst S (0 : Int32) dX8_goes_25 rfl ?_
        exact r_sub [0] rfl (J26 (0 : Int32) M hE)
      · try simp only [if_neg (not_not_intro c)] at hE
        refine r_iconst S (3 : Int32) dX8_goes_21 rfl ?_
        refine r_goto S 26 dX8_goes_22 (by decide) ?_
        exact r_sub [0] rfl (J26 (3 : Int32) M hE)
    · try simp only [if_neg (not_not_intro c)] at hE
      refine r_iconst S (2 : Int32) dX8_goes_13 rfl ?_
      refine r_goto S 26 dX8_goes_14 (by decide) ?_
      exact r_sub [0] rfl (J26 (2 : Int32) M hE)
  · try simp only [if_neg (not_not_intro c)] at hE
    refine r_iconst S (1 : Int32) dX8_goes_5 rfl ?_
    refine r_goto S 26 dX8_goes_6 (by decide) ?_
    exact r_sub [0] rfl (J26 (1 : Int32) M hE)
set_option maxRecDepth 100000 in
set_option maxHeartbeats 4000000 in
theorem c_MD_save (l : Launch) (Y : Env1) (hG : gY Y = gM) (M : Mem) (r : Unit) (M1 : Mem) (hE : MD_save M = some (r, M1)) : CnV l Y yX8_save cX8_save 2 0 [.ref (hY Y + 0)] M M1 := by
  refine met_V (own := RX8) (by decide +kernel) rfl hG (Nat.le_of_ble_eq_true rfl) (fun X S hY1 hl1 hret => ?_)
  subst hY1
  subst hl1
  show AW X 0 [(0, .ref (hY X.2.1.2 + 0))] [] M
  have L51 : ∀ (e : (Unit)) (M2 : Mem), AW X 85 [(0, .ref (hY X.2.1.2 + 0))] [] M2 → ∀ (n : Nat) (s : Int32) (M : Mem), lpM (fun s M => MD_save_L51 s M) n s M = some (e, M2) → AW X 51 [(0, .ref (hY X.2.1.2 + 0)), (1, .int s)] [] M := by
    intro e M2 hX
    refine lpM_ind (P := fun (s : Int32) (M : Mem) => AW X 51 [(0, .ref (hY X.2.1.2 + 0)), (1, .int s)] [] M) ?_
    rintro v1 M d M3 hE hC hD
    replace hE : MD_save_L51 v1 M = some (d, M3) := hE
    show AW X 51 [(0, .ref (hY X.2.1.2 + 0)), (1, .int v1)] [] M
    unfold MD_save_L51 at hE
    refine r_iload_n S dX8_save_51 1 rfl ?_
    refine r_sipush S (513 : Int32) dX8_save_52 rfl ?_
    refine r_icmp_ge S 85 dX8_save_55 (by decide) (fun c => ?_) (fun c => ?_)
    · rw [if_pos c] at hE
      obtain ⟨rfl, rfl⟩ := si2 hE
      rcases hD with ⟨h1, h2⟩ | ⟨_, h1⟩
      · obtain rfl := sir h1
        subst h2
        exact r_sub [0] rfl hX
      · exact (sil h1).elim
    · rw [if_neg c] at hE
      refine r_aload_n S dX8_save_58 0 rfl ?_
      refine r_getRK S fc8 (by decide) 1 2 rfl rfl q_522 dX8_save_59 ?_
      refine r_sipush S (513 : Int32) dX8_save_62 rfl ?_
      refine r_aload_n S dX8_save_65 0 rfl ?_
      refine r_getI S fc8 (by decide) 3 rfl q_521 dX8_save_66 ?_
      refine r_imul S dX8_save_69 ?_
      refine r_iload_n S dX8_save_70 1 rfl ?_
      refine r_iadd S dX8_save_71 ?_
      refine r_aload_n S dX8_save_72 0 rfl ?_
      refine r_getRK S fc8 (by decide) 0 1 rfl rfl q_523 dX8_save_73 ?_
      refine r_iload_n S dX8_save_76 1 rfl ?_
      obtain ⟨hi, hE⟩ := ck_some hE
      refine r_lald S (by decide) hi dX8_save_77 ?_
      obtain ⟨hi, hE⟩ := ck_some hE
      refine r_last S (by decide) hi dX8_save_78 ?_
      refine r_iinc (lv2 := [(1, .int (v1 + (1 : Int32))), (0, .ref (hY X.2.1.2 + 0))]) S dX8_save_79 (j := 1) rfl (by decide) rfl ?_
      refine r_goto S 51 dX8_save_82 (by decide) ?_
      obtain ⟨rfl, rfl⟩ := si2 hE
      exact r_sub (lv2 := [(0, .ref (hY X.2.1.2 + 0)), (1, .int (v1 + (1 : Int32)))]) [1, 0] rfl (hC (v1 + (1 : Int32)) rfl)
  have L10 : ∀ (e : (Unit)) (M2 : Mem), AW X 39 [(0, .ref (hY X.2.1.2 + 0))] [] M2 → ∀ (n : Nat) (s : Int32) (M : Mem), lpM (fun s M => MD_save_L10 s M) n s M = some (e, M2) → AW X 10 [(0, .ref (hY X.2.1.2 + 0)), (1, .int s)] [] M := by
    intro e M2 hX
    refine lpM_ind (P := fun (s : Int32) (M : Mem) => AW X 10 [(0, .ref (hY X.2.1.2 + 0)), (1, .int s)] [] M) ?_
    rintro v1 M d M3 hE hC hD
    replace hE : MD_save_L10 v1 M = some (d, M3) := hE
    show AW X 10 [(0, .ref (hY X.2.1.2 + 0)), (1, .int v1)] [] M
    unfold MD_save_L10 at hE
    refine r_iload_n S dX8_save_10 1 rfl ?_
    refine r_sipush S (1539 : Int32) dX8_save_11 rfl ?_
    refine r_icmp_ge S 39 dX8_save_14 (by decide) (fun c => ?_) (fun c => ?_)
    · rw [if_pos c] at hE
      obtain ⟨rfl, rfl⟩ := si2 hE
      rcases hD with ⟨h1, h2⟩ | ⟨_, h1⟩
      · obtain rfl := sir h1
        subst h2
        exact r_sub [0] rfl hX
      · exact (sil h1).elim
    · rw [if_neg c] at hE
      refine r_aload_n S dX8_save_17 0 rfl ?_
      refine r_getRK S fc8 (by decide) 1 2 rfl rfl q_522 dX8_save_18 ?_
      refine r_iload_n S dX8_save_21 1 rfl ?_
      refine r_aload_n S dX8_save_22 0 rfl ?_
      refine r_getRK S fc8 (by decide) 1 2 rfl rfl q_522 dX8_save_23 ?_
      refine r_iload_n S dX8_save_26 1 rfl ?_
      refine r_sipush S (513 : Int32) dX8_save_27 rfl ?_
      refine r_iadd S dX8_save_30 ?_
      obtain ⟨hi, hE⟩ := ck_some hE
      refine r_lald S (by decide) hi dX8_save_31 ?_
      obtain ⟨hi, hE⟩ := ck_some hE
      refine r_last S (by decide) hi dX8_save_32 ?_
      refine r_iinc (lv2 := [(1, .int (v1 + (1 : Int32))), (0, .ref (hY X.2.1.2 + 0))]) S dX8_save_33 (j := 1) rfl (by decide) rfl ?_
      refine r_goto S 10 dX8_save_36 (by decide) ?_
      obtain ⟨rfl, rfl⟩ := si2 hE
      exact r_sub (lv2 := [(0, .ref (hY X.2.1.2 + 0)), (1, .int (v1 + (1 : Int32)))]) [1, 0] rfl (hC (v1 + (1 : Int32)) rfl)
  have J49 : ∀ (M : Mem), MD_save_J49 M = some (r, M1) → AW X 49 [(0, .ref (hY X.2.1.2 + 0))] [] M := by
    intro M hE
    unfold MD_save_J49 at hE
    refine r_iconst S (0 : Int32) dX8_save_49 rfl ?_
    refine r_istore_n (lv2 := [(1, .int (0 : Int32)), (0, .ref (hY X.2.1.2 + 0))]) S dX8_save_50 (by decide) rfl ?_
    obtain ⟨e1, M2, h9, hE⟩ := b2_some hE
    refine r_sub [1, 0] rfl (L51   e1 M2 ?_ _ _ M h9)
    refine r_aload_n S dX8_save_85 0 rfl ?_
    refine r_dup S dX8_save_86 rfl ?_
    refine r_getI S fc8 (by decide) 3 rfl q_521 dX8_save_87 ?_
    refine r_iconst S (1 : Int32) dX8_save_90 rfl ?_
    refine r_iadd S dX8_save_91 ?_
    refine r_putI S fc8 (by decide) 3 rfl rfl (by decide +kernel) q_521 dX8_save_92 ?_
    obtain ⟨rfl, rfl⟩ := si2 hE
    exact hret _ _ dX8_save_95
  unfold MD_save at hE
  refine r_aload_n S dX8_save_0 0 rfl ?_
  refine r_getI S fc8 (by decide) 3 rfl q_521 dX8_save_1 ?_
  refine r_iconst S (4 : Int32) dX8_save_4 rfl ?_
  refine r_icmp_ne S 49 dX8_save_5 (by decide) (fun c => ?_) (fun c => ?_)
  · rw [if_pos c] at hE
    exact r_sub [0] rfl (J49  M hE)
  · rw [if_neg (not_not_intro c)] at hE
    refine r_iconst S (0 : Int32) dX8_save_8 rfl ?_
    refine r_istore_n (lv2 := [(1, .int (0 : Int32)), (0, .ref (hY X.2.1.2 + 0))]) S dX8_save_9 (by decide) rfl ?_
    obtain ⟨e1, M2, h9, hE⟩ := b2_some hE
    refine r_sub [1, 0] rfl (L10   e1 M2 ?_ _ _ M h9)
    refine r_aload_n S dX8_save_39 0 rfl ?_
    refine r_dup S dX8_save_40 rfl ?_
    refine r_getI S fc8 (by decide) 3 rfl q_521 dX8_save_41 ?_
    refine r_iconst S (1 : Int32) dX8_save_44 rfl ?_
    refine r_isub S dX8_save_45 ?_
    refine r_putI S fc8 (by decide) 3 rfl rfl (by decide +kernel) q_521 dX8_save_46 ?_
    exact r_sub [0] rfl (J49  (sI M2 0 3 ((gI M2 0 3) - (1 : Int32))) hE)
set_option maxRecDepth 100000 in
set_option maxHeartbeats 4000000 in
theorem c_MD_lays (l : Launch) (Y : Env1) (hG : gY Y = gM) (M : Mem) (r : Unit) (M1 : Mem) (hE : MD_lays M = some (r, M1)) : CnV l Y yX8_lays cX8_lays 2 0 [.ref (hY Y + 0)] M M1 := by
  refine met_V (own := RX8) (by decide +kernel) rfl hG (Nat.le_of_ble_eq_true rfl) (fun X S hY1 hl1 hret => ?_)
  subst hY1
  subst hl1
  show AW X 0 [(0, .ref (hY X.2.1.2 + 0))] [] M
  have L2 : ∀ (e : (Unit)) (M2 : Mem), AW X 27 [] [] M2 → ∀ (n : Nat) (s : Int32) (M : Mem), lpM (fun s M => MD_lays_L2 s M) n s M = some (e, M2) → AW X 2 [(0, .ref (hY X.2.1.2 + 0)), (1, .int s)] [] M := by
    intro e M2 hX
    refine lpM_ind (P := fun (s : Int32) (M : Mem) => AW X 2 [(0, .ref (hY X.2.1.2 + 0)), (1, .int s)] [] M) ?_
    rintro v1 M d M3 hE hC hD
    replace hE : MD_lays_L2 v1 M = some (d, M3) := hE
    show AW X 2 [(0, .ref (hY X.2.1.2 + 0)), (1, .int v1)] [] M
    unfold MD_lays_L2 at hE
    refine r_iload_n S dX8_lays_2 1 rfl ?_
    refine r_sipush S (513 : Int32) dX8_lays_3 rfl ?_
    refine r_icmp_ge S 27 dX8_lays_6 (by decide) (fun c => ?_) (fun c => ?_)
    · rw [if_pos c] at hE
      obtain ⟨rfl, rfl⟩ := si2 hE
      rcases hD with ⟨h1, h2⟩ | ⟨_, h1⟩
      · obtain rfl := sir h1
        subst h2
        exact r_sub [] rfl hX
      · exact (sil h1).elim
    · rw [if_neg c] at hE
      refine r_aload_n S dX8_lays_9 0 rfl ?_
      refine r_getRK S fc8 (by decide) 2 3 rfl rfl q_524 dX8_lays_10 ?_
      refine r_iload_n S dX8_lays_13 1 rfl ?_
      refine r_aload_n S dX8_lays_14 0 rfl ?_
      refine r_getRK S fc8 (by decide) 0 1 rfl rfl q_523 dX8_lays_15 ?_
      refine r_iload_n S dX8_lays_18 1 rfl ?_
      obtain ⟨hi, hE⟩ := ck_some hE
      refine r_lald S (by decide) hi dX8_lays_19 ?_
      obtain ⟨hi, hE⟩ := ck_some hE
      refine r_last S (by decide) hi dX8_lays_20 ?_
      refine r_iinc (lv2 := [(1, .int (v1 + (1 : Int32))), (0, .ref (hY X.2.1.2 + 0))]) S dX8_lays_21 (j := 1) rfl (by decide) rfl ?_
      refine r_goto S 2 dX8_lays_24 (by decide) ?_
      obtain ⟨rfl, rfl⟩ := si2 hE
      exact r_sub (lv2 := [(0, .ref (hY X.2.1.2 + 0)), (1, .int (v1 + (1 : Int32)))]) [1, 0] rfl (hC (v1 + (1 : Int32)) rfl)
  unfold MD_lays at hE
  refine r_iconst S (0 : Int32) dX8_lays_0 rfl ?_
  refine r_istore_n (lv2 := [(1, .int (0 : Int32)), (0, .ref (hY X.2.1.2 + 0))]) S dX8_lays_1 (by decide) rfl ?_
  obtain ⟨e1, M2, h9, hE⟩ := b2_some hE
  refine r_sub [1, 0] rfl (L2   e1 M2 ?_ _ _ M h9)
  obtain ⟨rfl, rfl⟩ := si2 hE
  exact hret _ _ dX8_lays_27
set_option maxRecDepth 100000 in
set_option maxHeartbeats 4000000 in
theorem c_MD_takesBack (l : Launch) (Y : Env1) (hG : gY Y = gM) (M : Mem) (r : Unit) (M1 : Mem) (hE : MD_takesBack M = some (r, M1)) : CnV l Y yX8_takesBack cX8_takesBack 2 0 [.ref (hY Y + 0)] M M1 := by
  refine met_V (own := RX8) (by decide +kernel) rfl hG (Nat.le_of_ble_eq_true rfl) (fun X S hY1 hl1 hret => ?_)
  subst hY1
  subst hl1
  show AW X 0 [(0, .ref (hY X.2.1.2 + 0))] [] M
  have L2 : ∀ (e : (Unit)) (M2 : Mem), AW X 27 [] [] M2 → ∀ (n : Nat) (s : Int32) (M : Mem), lpM (fun s M => MD_takesBack_L2 s M) n s M = some (e, M2) → AW X 2 [(0, .ref (hY X.2.1.2 + 0)), (1, .int s)] [] M := by
    intro e M2 hX
    refine lpM_ind (P := fun (s : Int32) (M : Mem) => AW X 2 [(0, .ref (hY X.2.1.2 + 0)), (1, .int s)] [] M) ?_
    rintro v1 M d M3 hE hC hD
    replace hE : MD_takesBack_L2 v1 M = some (d, M3) := hE
    show AW X 2 [(0, .ref (hY X.2.1.2 + 0)), (1, .int v1)] [] M
    unfold MD_takesBack_L2 at hE
    refine r_iload_n S dX8_takesBack_2 1 rfl ?_
    refine r_sipush S (513 : Int32) dX8_takesBack_3 rfl ?_
    refine r_icmp_ge S 27 dX8_takesBack_6 (by decide) (fun c => ?_) (fun c => ?_)
    · rw [if_pos c] at hE
      obtain ⟨rfl, rfl⟩ := si2 hE
      rcases hD with ⟨h1, h2⟩ | ⟨_, h1⟩
      · obtain rfl := sir h1
        subst h2
        exact r_sub [] rfl hX
      · exact (sil h1).elim
    · rw [if_neg c] at hE
      refine r_aload_n S dX8_takesBack_9 0 rfl ?_
      refine r_getRK S fc8 (by decide) 0 1 rfl rfl q_523 dX8_takesBack_10 ?_
      refine r_iload_n S dX8_takesBack_13 1 rfl ?_
      refine r_aload_n S dX8_takesBack_14 0 rfl ?_
      refine r_getRK S fc8 (by decide) 2 3 rfl rfl q_524 dX8_takesBack_15 ?_
      refine r_iload_n S dX8_takesBack_18 1 rfl ?_
      obtain ⟨hi, hE⟩ := ck_some hE
      refine r_lald S (by decide) hi dX8_takesBack_19 ?_
      obtain ⟨hi, hE⟩ := ck_some hE
      refine r_last S (by decide) hi dX8_takesBack_20 ?_
      refine r_iinc (lv2 := [(1, .int (v1 + (1 : Int32))), (0, .ref (hY X.2.1.2 + 0))]) S dX8_takesBack_21 (j := 1) rfl (by decide) rfl ?_
      refine r_goto S 2 dX8_takesBack_24 (by decide) ?_
      obtain ⟨rfl, rfl⟩ := si2 hE
      exact r_sub (lv2 := [(0, .ref (hY X.2.1.2 + 0)), (1, .int (v1 + (1 : Int32)))]) [1, 0] rfl (hC (v1 + (1 : Int32)) rfl)
  unfold MD_takesBack at hE
  refine r_iconst S (0 : Int32) dX8_takesBack_0 rfl ?_
  refine r_istore_n (lv2 := [(1, .int (0 : Int32)), (0, .ref (hY X.2.1.2 + 0))]) S dX8_takesBack_1 (by decide) rfl ?_
  obtain ⟨e1, M2, h9, hE⟩ := b2_some hE
  refine r_sub [1, 0] rfl (L2   e1 M2 ?_ _ _ M h9)
  obtain ⟨rfl, rfl⟩ := si2 hE
  exact hret _ _ dX8_takesBack_27
set_option maxRecDepth 100000 in
set_option maxHeartbeats 4000000 in
theorem c_MD_many (l : Launch) (Y : Env1) (hG : gY Y = gM) (M : Mem) (r : Int32) (hE : MD_many M = r) : CnI l Y yX8_many cX8_many 1 .int 0 [.ref (hY Y + 0)] M r M := by
  refine met_I (own := RX8) (by decide +kernel) rfl hG (Nat.le_of_ble_eq_true rfl) (fun X S hY1 hl1 hret => ?_)
  subst hY1
  subst hl1
  show AW X 0 [(0, .ref (hY X.2.1.2 + 0))] [] M
  unfold MD_many at hE
  refine r_aload_n S dX8_many_0 0 rfl ?_
  refine r_getRK S fc8 (by decide) 0 1 rfl rfl q_523 dX8_many_1 ?_
  refine r_iconst S (0 : Int32) dX8_many_4 rfl ?_
  refine r_laldK S 0 rfl (by decide) (by decide) dX8_many_5 ?_
  refine r_aload_n S dX8_many_6 0 rfl ?_
  refine r_getRK S fc8 (by decide) 0 1 rfl rfl q_523 dX8_many_7 ?_
  refine r_iconst S (1 : Int32) dX8_many_10 rfl ?_
  refine r_laldK S 1 rfl (by decide) (by decide) dX8_many_11 ?_
  refine r_lmul S dX8_many_12 ?_
  refine r_l2i S dX8_many_13 ?_
  subst hE
  exact hret _ _ dX8_many_14
set_option maxRecDepth 100000 in
set_option maxHeartbeats 4000000 in
theorem c_MD_isCell (l : Launch) (Y : Env1) (hG : gY Y = gM) (a1 : Int32) (M : Mem) (r : Int32) (hE : MD_isCell a1 M = r) : CnI l Y yX8_isCell cX8_isCell 2 .boolean 1 [.ref (hY Y + 0), .int a1] M r M := by
  refine met_Z (own := RX8) (by decide +kernel) rfl hG (Nat.le_of_ble_eq_true rfl) (fun X S hY1 hl1 hret => ?_)
  subst hY1
  subst hl1
  show AW X 0 [(0, .ref (hY X.2.1.2 + 0)), (1, .int a1)] [] M
  unfold MD_isCell at hE
  refine r_iload_n S dX8_isCell_0 1 rfl ?_
  refine r_i2l S dX8_isCell_1 ?_
  refine r_lconst S (0 : Int64) dX8_isCell_2 rfl ?_
  refine r_aload_n S dX8_isCell_3 0 rfl ?_
  refine rc_I S (rn_V S fc8 (by decide) (c_MD_many _ _ (gYX S)  M _ rfl) wdX8_many q_525 ⟨Nat.le_of_ble_eq_true rfl, Nat.le_of_ble_eq_true rfl⟩ rfl (Nat.le_of_ble_eq_true rfl) dX8_isCell_4) ?_
  refine r_i2l S dX8_isCell_7 ?_
  refine r_lconst S (1 : Int64) dX8_isCell_8 rfl ?_
  refine r_lsub S dX8_isCell_9 ?_
  refine rc_I S (rn_S S (c_MD_in _ _ (gYX S) a1.toInt64 (0 : Int64) (((MD_many M).toInt64) - (1 : Int64)) M _ rfl) wdX8_in q_530 ⟨Nat.le_of_ble_eq_true rfl, Nat.le_of_ble_eq_true rfl⟩ rfl (Nat.le_of_ble_eq_true rfl) dX8_isCell_10) ?_
  subst hE
  exact hret _ _ _ dX8_isCell_13 rfl
set_option maxRecDepth 100000 in
set_option maxHeartbeats 4000000 in
theorem c_MD_height (l : Launch) (Y : Env1) (hG : gY Y = gM) (a1 : Int32) (M : Mem) (r : Int32) (hE : MD_height a1 M = some r) : CnI l Y yX8_height cX8_height 2 .int 0 [.ref (hY Y + 0), .int a1] M r M := by
  refine met_I (own := RX8) (by decide +kernel) rfl hG (Nat.le_of_ble_eq_true rfl) (fun X S hY1 hl1 hret => ?_)
  subst hY1
  subst hl1
  show AW X 0 [(0, .ref (hY X.2.1.2 + 0)), (1, .int a1)] [] M
  unfold MD_height at hE
  refine r_aload_n S dX8_height_0 0 rfl ?_
  refine r_getRK S fc8 (by decide) 0 1 rfl rfl q_523 dX8_height_1 ?_
  refine r_bipush S (8 : Int32) dX8_height_4 rfl ?_
  refine r_iload_n S dX8_height_6 1 rfl ?_
  refine r_iadd S dX8_height_7 ?_
  obtain ⟨hi, hE⟩ := ck_some hE
  refine r_lald S (by decide) hi dX8_height_8 ?_
  refine r_l2i S dX8_height_9 ?_
  obtain rfl := si1 hE
  exact hret _ _ dX8_height_10
set_option maxRecDepth 100000 in
set_option maxHeartbeats 4000000 in
theorem c_MD_neighbor (l : Launch) (Y : Env1) (hG : gY Y = gM) (a1 : Int32) (a2 : Int32) (M : Mem) (r : Int32) (hE : MD_neighbor a1 a2 M = some r) : CnI l Y yX8_neighbor cX8_neighbor 4 .int 1 [.ref (hY Y + 0), .int a1, .int a2] M r M := by
  refine met_I (own := RX8) (by decide +kernel) rfl hG (Nat.le_of_ble_eq_true rfl) (fun X S hY1 hl1 hret => ?_)
  subst hY1
  subst hl1
  show AW X 0 [(0, .ref (hY X.2.1.2 + 0)), (1, .int a1), (2, .int a2)] [] M
  unfold MD_neighbor at hE
  refine r_aload_n S dX8_neighbor_0 0 rfl ?_
  refine r_getRK S fc8 (by decide) 0 1 rfl rfl q_523 dX8_neighbor_1 ?_
  refine r_iconst S (0 : Int32) dX8_neighbor_4 rfl ?_
  refine r_laldK S 0 rfl (by decide) (by decide) dX8_neighbor_5 ?_
  refine r_l2i S dX8_neighbor_6 ?_
  refine r_istore_n (lv2 := [(3, .int ((gL M 1 0).toInt32)), (0, .ref (hY X.2.1.2 + 0)), (1, .int a1), (2, .int a2)]) S dX8_neighbor_7 (by decide) rfl ?_
  refine r_iload_n S dX8_neighbor_8 3 rfl ?_
  by_cases c0 : a2 = (0 : Int32)
  · rw [if_pos c0] at hE
    refine r_tin S 36 (0 : Int32) c0 dX8_neighbor_9 (by decide) (by decide) rfl (by decide) ?_
    refine r_iload_n S dX8_neighbor_36 2 rfl ?_
    refine r_iload_n S dX8_neighbor_37 0 rfl ?_
    refine r_icmp_lt S 47 dX8_neighbor_38 (by decide) (fun c => ?_) (fun c => ?_)
    · try simp only [if_pos c] at hE
      refine r_iconst S (-1 : Int32) dX8_neighbor_47 rfl ?_
      obtain rfl := si1 hE
      exact hret _ _ dX8_neighbor_48
    · try simp only [if_neg c] at hE
      refine r_iload_n S dX8_neighbor_41 2 rfl ?_
      refine r_iload_n S dX8_neighbor_42 0 rfl ?_
      refine r_isub S dX8_neighbor_43 ?_
      refine r_goto S 48 dX8_neighbor_44 (by decide) ?_
      obtain rfl := si1 hE
      exact hret _ _ dX8_neighbor_48
  · rw [if_neg c0] at hE
    by_cases c1 : a2 = (1 : Int32)
    · rw [if_pos c1] at hE
      refine r_tin S 49 (1 : Int32) c1 dX8_neighbor_9 (by decide) (by decide) rfl (by decide) ?_
      refine r_iload_n S dX8_neighbor_49 2 rfl ?_
      refine r_iload_n S dX8_neighbor_50 0 rfl ?_
      obtain ⟨hy, hE⟩ := ck_some hE
      refine r_irem S dX8_neighbor_51 (of_decide_eq_true hy) ?_
      refine r_if_le S 61 dX8_neighbor_52 (by decide) (fun c => ?_) (fun c => ?_)
      · try simp only [if_pos c] at hE
        refine r_iconst S (-1 : Int32) dX8_neighbor_61 rfl ?_
        obtain rfl := si1 hE
        exact hret _ _ dX8_neighbor_62
      · try simp only [if_neg c] at hE
        refine r_iload_n S dX8_neighbor_55 2 rfl ?_
        refine r_iconst S (1 : Int32) dX8_neighbor_56 rfl ?_
        refine r_isub S dX8_neighbor_57 ?_
        refine r_goto S 62 dX8_neighbor_58 (by decide) ?_
        obtain rfl := si1 hE
        exact hret _ _ dX8_neighbor_62
    · rw [if_neg c1] at hE
      by_cases c2 : a2 = (2 : Int32)
      · rw [if_pos c2] at hE
        refine r_tin S 63 (2 : Int32) c2 dX8_neighbor_9 (by decide) (by decide) rfl (by decide) ?_
        refine r_iload_n S dX8_neighbor_63 2 rfl ?_
        refine r_iload_n S dX8_neighbor_64 0 rfl ?_
        obtain ⟨hy, hE⟩ := ck_some hE
        refine r_irem S dX8_neighbor_65 (of_decide_eq_true hy) ?_
        refine r_iload_n S dX8_neighbor_66 0 rfl ?_
        refine r_iconst S (1 : Int32) dX8_neighbor_67 rfl ?_
        refine r_isub S dX8_neighbor_68 ?_
        refine r_icmp_ge S 78 dX8_neighbor_69 (by decide) (fun c => ?_) (fun c => ?_)
        · try simp only [if_pos c] at hE
          refine r_iconst S (-1 : Int32) dX8_neighbor_78 rfl ?_
          obtain rfl := si1 hE
          exact hret _ _ dX8_neighbor_79
        · try simp only [if_neg c] at hE
          refine r_iload_n S dX8_neighbor_72 2 rfl ?_
          refine r_iconst S (1 : Int32) dX8_neighbor_73 rfl ?_
          refine r_iadd S dX8_neighbor_74 ?_
          refine r_goto S 79 dX8_neighbor_75 (by decide) ?_
          obtain rfl := si1 hE
          exact hret _ _ dX8_neighbor_79
      · rw [if_neg c2] at hE
        have e0 : (a2).toInt ≠ 0 := fun h => c0 (Int32.toInt_inj.mp h)
        have e1 : (a2).toInt ≠ 1 := fun h => c1 (Int32.toInt_inj.mp h)
        have e2 : (a2).toInt ≠ 2 := fun h => c2 (Int32.toInt_inj.mp h)
        refine r_tout S 80 dX8_neighbor_9 (by omega) (by decide) ?_
        refine r_iload_n S dX8_neighbor_80 2 rfl ?_
        refine r_iload_n S dX8_neighbor_81 0 rfl ?_
        refine r_iadd S dX8_neighbor_82 ?_
        refine r_aload_n S dX8_neighbor_83 1 rfl ?_
        refine rc_I S (rn_V S fc8 (by decide) (c_MD_many _ _ (gYX S)  M _ rfl) wdX8_many q_525 ⟨Nat.le_of_ble_eq_true rfl, Nat.le_of_ble_eq_true rfl⟩ rfl (Nat.le_of_ble_eq_true rfl) dX8_neighbor_84) ?_
        refine r_icmp_ge S 96 dX8_neighbor_87 (by decide) (fun c => ?_) (fun c => ?_)
        · try simp only [if_pos c] at hE
          refine r_iconst S (-1 : Int32) dX8_neighbor_96 rfl ?_
          obtain rfl := si1 hE
          exact hret _ _ dX8_neighbor_97
        · try simp only [if_neg c] at hE
          refine r_iload_n S dX8_neighbor_90 2 rfl ?_
          refine r_iload_n S dX8_neighbor_91 0 rfl ?_
          refine r_iadd S dX8_neighbor_92 ?_
          refine r_goto S 97 dX8_neighbor_93 (by decide) ?_
          obtain rfl := si1 hE
          exact hret _ _ dX8_neighbor_97
set_option maxRecDepth 100000 in
set_option maxHeartbeats 4000000 in
theorem c_MD_areNeighbors (l : Launch) (Y : Env1) (hG : gY Y = gM) (a1 : Int32) (a2 : Int32) (M : Mem) (r : Int32) (hE : MD_areNeighbors a1 a2 M = some r) : CnI l Y yX8_areNeighbors cX8_areNeighbors 5 .boolean 2 [.ref (hY Y + 0), .int a1, .int a2] M r M := by
  refine met_Z (own := RX8) (by decide +kernel) rfl hG (Nat.le_of_ble_eq_true rfl) (fun X S hY1 hl1 hret => ?_)
  subst hY1
  subst hl1
  show AW X 0 [(0, .ref (hY X.2.1.2 + 0)), (1, .int a1), (2, .int a2)] [] M
  have L5 : ∀ (v1 : Int32) (v2 : Int32) (e : (Int32)), AW X 38 [(3, .int e)] [] M → ∀ (n : Nat) (s : Int32 × Int32), lpR (fun s => MD_areNeighbors_L5 v1 v2 s.1 s.2 M) n s = some e → AW X 5 [(0, .ref (hY X.2.1.2 + 0)), (1, .int v1), (2, .int v2), (3, .int s.1), (4, .int s.2)] [] M := by
    intro v1 v2 e hX
    refine lpR_ind (P := fun (s : Int32 × Int32) => AW X 5 [(0, .ref (hY X.2.1.2 + 0)), (1, .int v1), (2, .int v2), (3, .int s.1), (4, .int s.2)] [] M) ?_
    rintro ⟨v3, v4⟩ d hE hC hD
    replace hE : MD_areNeighbors_L5 v1 v2 v3 v4 M = some d := hE
    show AW X 5 [(0, .ref (hY X.2.1.2 + 0)), (1, .int v1), (2, .int v2), (3, .int v3), (4, .int v4)] [] M
    unfold MD_areNeighbors_L5 at hE
    refine r_iload S dX8_areNeighbors_5 4 rfl ?_
    refine r_iconst S (4 : Int32) dX8_areNeighbors_7 rfl ?_
    refine r_icmp_ge S 38 dX8_areNeighbors_8 (by decide) (fun c => ?_) (fun c => ?_)
    · rw [if_pos c] at hE
      obtain rfl := si1 hE
      rcases hD with h1 | ⟨_, h1⟩
      · obtain rfl := sir h1
        exact r_sub [3] rfl hX
      · exact (sil h1).elim
    · rw [if_neg c] at hE
      refine r_iload_n S dX8_areNeighbors_11 3 rfl ?_
      refine r_if_ne S 26 dX8_areNeighbors_12 (by decide) (fun c => ?_) (fun c => ?_)
      · rw [if_pos c] at hE
        refine r_iconst S (1 : Int32) dX8_areNeighbors_26 rfl ?_
        refine r_goto S 31 dX8_areNeighbors_27 (by decide) ?_
        refine r_istore_n (lv2 := [(3, .int (1 : Int32)), (0, .ref (hY X.2.1.2 + 0)), (1, .int v1), (2, .int v2), (4, .int v4)]) S dX8_areNeighbors_31 (by decide) rfl ?_
        refine r_iinc (lv2 := [(4, .int (v4 + (1 : Int32))), (3, .int (1 : Int32)), (0, .ref (hY X.2.1.2 + 0)), (1, .int v1), (2, .int v2)]) S dX8_areNeighbors_32 (j := 4) rfl (by decide) rfl ?_
        refine r_goto S 5 dX8_areNeighbors_35 (by decide) ?_
        obtain rfl := si1 hE
        exact r_sub (lv2 := [(0, .ref (hY X.2.1.2 + 0)), (1, .int v1), (2, .int v2), (3, .int (1 : Int32)), (4, .int (v4 + (1 : Int32)))]) [2, 3, 4, 1, 0] rfl (hC ((1 : Int32), (v4 + (1 : Int32))) rfl)
      · rw [if_neg (not_not_intro c)] at hE
        refine r_aload_n S dX8_areNeighbors_15 0 rfl ?_
        refine r_iload_n S dX8_areNeighbors_16 1 rfl ?_
        refine r_iload S dX8_areNeighbors_17 4 rfl ?_
        obtain ⟨x1, h9, hE⟩ := b1_some hE
        refine rc_I S (rn_V S fc8 (by decide) (c_MD_neighbor _ _ (gYX S) v1 v4 M _ h9) wdX8_neighbor q_534 ⟨Nat.le_of_ble_eq_true rfl, Nat.le_of_ble_eq_true rfl⟩ rfl (Nat.le_of_ble_eq_true rfl) dX8_areNeighbors_19) ?_
        refine r_iload_n S dX8_areNeighbors_22 2 rfl ?_
        refine r_icmp_ne S 30 dX8_areNeighbors_23 (by decide) (fun c => ?_) (fun c => ?_)
        · try simp only [if_pos c] at hE
          refine r_iconst S (0 : Int32) dX8_areNeighbors_30 rfl ?_
          refine r_istore_n (lv2 := [(3, .int (0 : Int32)), (0, .ref (hY X.2.1.2 + 0)), (1, .int v1), (2, .int v2), (4, .int v4)]) S dX8_areNeighbors_31 (by decide) rfl ?_
          refine r_iinc (lv2 := [(4, .int (v4 + (1 : Int32))), (3, .int (0 : Int32)), (0, .ref (hY X.2.1.2 + 0)), (1, .int v1), (2, .int v2)]) S dX8_areNeighbors_32 (j := 4) rfl (by decide) rfl ?_
          refine r_goto S 5 dX8_areNeighbors_35 (by decide) ?_
          obtain rfl := si1 hE
          exact r_sub (lv2 := [(0, .ref (hY X.2.1.2 + 0)), (1, .int v1), (2, .int v2), (3, .int (0 : Int32)), (4, .int (v4 + (1 : Int32)))]) [2, 3, 4, 1, 0] rfl (hC ((0 : Int32), (v4 + (1 : Int32))) rfl)
        · try simp only [if_neg (not_not_intro c)] at hE
          refine r_iconst S (1 : Int32) dX8_areNeighbors_26 rfl ?_
          refine r_goto S 31 dX8_areNeighbors_27 (by decide) ?_
          refine r_istore_n (lv2 := [(3, .int (1 : Int32)), (0, .ref (hY X.2.1.2 + 0)), (1, .int v1), (2, .int v2), (4, .int v4)]) S dX8_areNeighbors_31 (by decide) rfl ?_
          refine r_iinc (lv2 := [(4, .int (v4 + (1 : Int32))), (3, .int (1 : Int32)), (0, .ref (hY X.2.1.2 + 0)), (1, .int v1), (2, .int v2)]) S dX8_areNeighbors_32 (j := 4) rfl (by decide) rfl ?_
          refine r_goto S 5 dX8_areNeighbors_35 (by decide) ?_
          obtain rfl := si1 hE
          exact r_sub (lv2 := [(0, .ref (hY X.2.1.2 + 0)), (1, .int v1), (2, .int v2), (3, .int (1 : Int32)), (4, .int (v4 + (1 : Int32)))]) [2, 3, 4, 1, 0] rfl (hC ((1 : Int32), (v4 + (1 : Int32))) rfl)
  unfold MD_areNeighbors at hE
  refine r_iconst S (0 : Int32) dX8_areNeighbors_0 rfl ?_
  refine r_istore_n (lv2 := [(3, .int (0 : Int32)), (0, .ref (hY X.2.1.2 + 0)), (1, .int a1), (2, .int a2)]) S dX8_areNeighbors_1 (by decide) rfl ?_
  refine r_iconst S (0 : Int32) dX8_areNeighbors_2 rfl ?_
  refine r_istore (lv2 := [(4, .int (0 : Int32)), (3, .int (0 : Int32)), (0, .ref (hY X.2.1.2 + 0)), (1, .int a1), (2, .int a2)]) S dX8_areNeighbors_3 (by decide) rfl ?_
  obtain ⟨e1, h9, hE⟩ := b1_some hE
  refine r_sub [2, 3, 4, 1, 0] rfl (L5 a1 a2  e1 ?_ _ _  h9)
  refine r_iload_n S dX8_areNeighbors_38 0 rfl ?_
  obtain rfl := si1 hE
  exact hret _ _ _ dX8_areNeighbors_39 rfl
set_option maxRecDepth 100000 in
set_option maxHeartbeats 4000000 in
theorem c_MD_isPair (l : Launch) (Y : Env1) (hG : gY Y = gM) (a1 : Int32) (a2 : Int32) (M : Mem) (r : Int32) (hE : MD_isPair a1 a2 M = some r) : CnI l Y yX8_isPair cX8_isPair 3 .boolean 3 [.ref (hY Y + 0), .int a1, .int a2] M r M := by
  refine met_Z (own := RX8) (by decide +kernel) rfl hG (Nat.le_of_ble_eq_true rfl) (fun X S hY1 hl1 hret => ?_)
  subst hY1
  subst hl1
  show AW X 0 [(0, .ref (hY X.2.1.2 + 0)), (1, .int a1), (2, .int a2)] [] M
  unfold MD_isPair at hE
  refine r_aload_n S dX8_isPair_0 0 rfl ?_
  refine r_iload_n S dX8_isPair_1 1 rfl ?_
  refine rc_I S (rn_V S fc8 (by decide) (c_MD_isCell _ _ (gYX S) a1 M _ rfl) wdX8_isCell q_539 ⟨Nat.le_of_ble_eq_true rfl, Nat.le_of_ble_eq_true rfl⟩ rfl (Nat.le_of_ble_eq_true rfl) dX8_isPair_2) ?_
  refine r_if_eq S 29 dX8_isPair_5 (by decide) (fun c => ?_) (fun c => ?_)
  · rw [if_pos c] at hE
    refine r_iconst S (0 : Int32) dX8_isPair_29 rfl ?_
    obtain rfl := si1 hE
    exact hret _ _ _ dX8_isPair_30 (by decide)
  · rw [if_neg c] at hE
    refine r_aload_n S dX8_isPair_8 0 rfl ?_
    refine r_iload_n S dX8_isPair_9 2 rfl ?_
    refine rc_I S (rn_V S fc8 (by decide) (c_MD_isCell _ _ (gYX S) a2 M _ rfl) wdX8_isCell q_539 ⟨Nat.le_of_ble_eq_true rfl, Nat.le_of_ble_eq_true rfl⟩ rfl (Nat.le_of_ble_eq_true rfl) dX8_isPair_10) ?_
    refine r_if_eq S 29 dX8_isPair_13 (by decide) (fun c => ?_) (fun c => ?_)
    · rw [if_pos c] at hE
      refine r_iconst S (0 : Int32) dX8_isPair_29 rfl ?_
      obtain rfl := si1 hE
      exact hret _ _ _ dX8_isPair_30 (by decide)
    · rw [if_neg c] at hE
      refine r_aload_n S dX8_isPair_16 0 rfl ?_
      refine r_iload_n S dX8_isPair_17 1 rfl ?_
      refine r_iload_n S dX8_isPair_18 2 rfl ?_
      obtain ⟨x1, h9, hE⟩ := b1_some hE
      refine rc_I S (rn_V S fc8 (by decide) (c_MD_areNeighbors _ _ (gYX S) a1 a2 M _ h9) wdX8_areNeighbors q_544 ⟨Nat.le_of_ble_eq_true rfl, Nat.le_of_ble_eq_true rfl⟩ rfl (Nat.le_of_ble_eq_true rfl) dX8_isPair_19) ?_
      refine r_if_eq S 29 dX8_isPair_22 (by decide) (fun c => ?_) (fun c => ?_)
      · try simp only [if_pos c] at hE
        refine r_iconst S (0 : Int32) dX8_isPair_29 rfl ?_
        obtain rfl := si1 hE
        exact hret _ _ _ dX8_isPair_30 (by decide)
      · try simp only [if_neg c] at hE
        refine r_iconst S (1 : Int32) dX8_isPair_25 rfl ?_
        refine r_goto S 30 dX8_isPair_26 (by decide) ?_
        obtain rfl := si1 hE
        exact hret _ _ _ dX8_isPair_30 (by decide)
set_option maxRecDepth 100000 in
set_option maxHeartbeats 4000000 in
theorem c_MD_gateAt (l : Launch) (Y : Env1) (hG : gY Y = gM) (a1 : Int32) (a2 : Int32) (M : Mem) (r : Int32) (hE : MD_gateAt a1 a2 M = some r) : CnI l Y yX8_gateAt cX8_gateAt 5 .int 2 [.ref (hY Y + 0), .int a1, .int a2] M r M := by
  refine met_I (own := RX8) (by decide +kernel) rfl hG (Nat.le_of_ble_eq_true rfl) (fun X S hY1 hl1 hret => ?_)
  subst hY1
  subst hl1
  show AW X 0 [(0, .ref (hY X.2.1.2 + 0)), (1, .int a1), (2, .int a2)] [] M
  have J21 : ∀ (v3 : Int32) (t0 : Int32), MD_gateAt_J21 v3 t0 M = some r → AW X 21 [(0, .ref (hY X.2.1.2 + 0)), (3, .int v3)] [.int t0] M := by
    intro v3 t0 hE
    unfold MD_gateAt_J21 at hE
    refine r_istore (lv2 := [(4, .int t0), (0, .ref (hY X.2.1.2 + 0)), (3, .int v3)]) S dX8_gateAt_21 (by decide) rfl ?_
    refine r_iload S dX8_gateAt_23 0 rfl ?_
    refine r_aload_n S dX8_gateAt_25 1 rfl ?_
    refine r_iload_n S dX8_gateAt_26 2 rfl ?_
    refine r_iconst S (2 : Int32) dX8_gateAt_27 rfl ?_
    obtain ⟨x1, h9, hE⟩ := b1_some hE
    refine rc_I S (rn_V S fc8 (by decide) (c_MD_neighbor _ _ (gYX S) v3 (2 : Int32) M _ h9) wdX8_neighbor q_534 ⟨Nat.le_of_ble_eq_true rfl, Nat.le_of_ble_eq_true rfl⟩ rfl (Nat.le_of_ble_eq_true rfl) dX8_gateAt_28) ?_
    refine r_icmp_ne S 41 dX8_gateAt_31 (by decide) (fun c => ?_) (fun c => ?_)
    · try simp only [if_pos c] at hE
      refine r_bipush S (80 : Int32) dX8_gateAt_41 rfl ?_
      refine r_iload_n S dX8_gateAt_43 2 rfl ?_
      refine r_iadd S dX8_gateAt_44 ?_
      obtain rfl := si1 hE
      exact hret _ _ dX8_gateAt_45
    · try simp only [if_neg (not_not_intro c)] at hE
      refine r_bipush S (44 : Int32) dX8_gateAt_34 rfl ?_
      refine r_iload_n S dX8_gateAt_36 2 rfl ?_
      refine r_iadd S dX8_gateAt_37 ?_
      refine r_goto S 45 dX8_gateAt_38 (by decide) ?_
      obtain rfl := si1 hE
      exact hret _ _ dX8_gateAt_45
  have J10 : ∀ (v1 : Int32) (v2 : Int32) (t0 : Int32), MD_gateAt_J10 v1 v2 t0 M = some r → AW X 10 [(0, .ref (hY X.2.1.2 + 0)), (1, .int v1), (2, .int v2)] [.int t0] M := by
    intro v1 v2 t0 hE
    unfold MD_gateAt_J10 at hE
    refine r_istore_n (lv2 := [(3, .int t0), (0, .ref (hY X.2.1.2 + 0)), (1, .int v1), (2, .int v2)]) S dX8_gateAt_10 (by decide) rfl ?_
    refine r_iload_n S dX8_gateAt_11 2 rfl ?_
    refine r_iload_n S dX8_gateAt_12 3 rfl ?_
    refine r_icmp_ge S 20 dX8_gateAt_13 (by decide) (fun c => ?_) (fun c => ?_)
    · try simp only [if_pos c] at hE
      refine r_iload_n S dX8_gateAt_20 2 rfl ?_
      exact r_sub [1, 0] rfl (J21 t0 v1 hE)
    · try simp only [if_neg c] at hE
      refine r_iload_n S dX8_gateAt_16 3 rfl ?_
      refine r_goto S 21 dX8_gateAt_17 (by decide) ?_
      exact r_sub [1, 0] rfl (J21 t0 v2 hE)
  unfold MD_gateAt at hE
  refine r_iload_n S dX8_gateAt_0 1 rfl ?_
  refine r_iload_n S dX8_gateAt_1 2 rfl ?_
  refine r_icmp_ge S 9 dX8_gateAt_2 (by decide) (fun c => ?_) (fun c => ?_)
  · try simp only [if_pos c] at hE
    refine r_iload_n S dX8_gateAt_9 2 rfl ?_
    exact r_sub [0, 1, 2] rfl (J10 a1 a2 a2 hE)
  · try simp only [if_neg c] at hE
    refine r_iload_n S dX8_gateAt_5 1 rfl ?_
    refine r_goto S 10 dX8_gateAt_6 (by decide) ?_
    exact r_sub [0, 1, 2] rfl (J10 a1 a2 a1 hE)
set_option maxRecDepth 100000 in
set_option maxHeartbeats 4000000 in
theorem c_MD_threshold (l : Launch) (Y : Env1) (hG : gY Y = gM) (a1 : Int32) (a2 : Int32) (M : Mem) (r : Int32) (hE : MD_threshold a1 a2 M = some r) : CnI l Y yX8_threshold cX8_threshold 7 .int 3 [.ref (hY Y + 0), .int a1, .int a2] M r M := by
  refine met_I (own := RX8) (by decide +kernel) rfl hG (Nat.le_of_ble_eq_true rfl) (fun X S hY1 hl1 hret => ?_)
  subst hY1
  subst hl1
  show AW X 0 [(0, .ref (hY X.2.1.2 + 0)), (1, .int a1), (2, .int a2)] [] M
  have J43 : ∀ (v1 : Int32) (v2 : Int32) (t0 : Int64), MD_threshold_J43 v1 v2 t0 M = some r → AW X 43 [(0, .ref (hY X.2.1.2 + 0)), (1, .int v1), (2, .int v2)] [.long t0] M := by
    intro v1 v2 t0 hE
    unfold MD_threshold_J43 at hE
    refine r_lstore_n (lv2 := [(3, .long t0), (0, .ref (hY X.2.1.2 + 0)), (1, .int v1), (2, .int v2)]) S dX8_threshold_43 (by decide) rfl ?_
    refine r_aload_n S dX8_threshold_44 1 rfl ?_
    refine r_getRK S fc8 (by decide) 0 1 rfl rfl q_523 dX8_threshold_45 ?_
    refine r_aload_n S dX8_threshold_48 1 rfl ?_
    refine r_iload_n S dX8_threshold_49 2 rfl ?_
    refine r_iload_n S dX8_threshold_50 3 rfl ?_
    obtain ⟨x1, h9, hE⟩ := b1_some hE
    refine rc_I S (rn_V S fc8 (by decide) (c_MD_gateAt _ _ (gYX S) v1 v2 M _ h9) wdX8_gateAt q_549 ⟨Nat.le_of_ble_eq_true rfl, Nat.le_of_ble_eq_true rfl⟩ rfl (Nat.le_of_ble_eq_true rfl) dX8_threshold_51) ?_
    obtain ⟨hi, hE⟩ := ck_some hE
    refine r_lald S (by decide) hi dX8_threshold_54 ?_
    refine r_lstore (lv2 := [(5, .long (gL M 1 x1.toNatClampNeg)), (3, .long t0), (0, .ref (hY X.2.1.2 + 0)), (1, .int v1), (2, .int v2)]) S dX8_threshold_55 (by decide) rfl ?_
    refine r_lload S dX8_threshold_57 0 rfl ?_
    refine r_lload_n S dX8_threshold_59 1 rfl ?_
    refine r_lcmp_le S 69 dX8_threshold_60 dX8_threshold_61 (by decide) (fun c => ?_) (fun c => ?_)
    · rw [if_pos c] at hE
      refine r_lload_n S dX8_threshold_69 1 rfl ?_
      refine r_l2i S dX8_threshold_70 ?_
      obtain rfl := si1 hE
      exact hret _ _ dX8_threshold_71
    · rw [if_neg c] at hE
      refine r_lload S dX8_threshold_64 0 rfl ?_
      refine r_goto S 70 dX8_threshold_66 (by decide) ?_
      refine r_l2i S dX8_threshold_70 ?_
      obtain rfl := si1 hE
      exact hret _ _ dX8_threshold_71
  unfold MD_threshold at hE
  refine r_aload_n S dX8_threshold_0 0 rfl ?_
  refine r_getRK S fc8 (by decide) 0 1 rfl rfl q_523 dX8_threshold_1 ?_
  refine r_bipush S (8 : Int32) dX8_threshold_4 rfl ?_
  refine r_iload_n S dX8_threshold_6 1 rfl ?_
  refine r_iadd S dX8_threshold_7 ?_
  obtain ⟨hi, hE⟩ := ck_some hE
  refine r_lald S (by decide) hi dX8_threshold_8 ?_
  refine r_aload_n S dX8_threshold_9 0 rfl ?_
  refine r_getRK S fc8 (by decide) 0 1 rfl rfl q_523 dX8_threshold_10 ?_
  refine r_bipush S (8 : Int32) dX8_threshold_13 rfl ?_
  refine r_iload_n S dX8_threshold_15 2 rfl ?_
  refine r_iadd S dX8_threshold_16 ?_
  obtain ⟨hi, hE⟩ := ck_some hE
  refine r_lald S (by decide) hi dX8_threshold_17 ?_
  refine r_lcmp_le S 34 dX8_threshold_18 dX8_threshold_19 (by decide) (fun c => ?_) (fun c => ?_)
  · rw [if_pos c] at hE
    refine r_aload_n S dX8_threshold_34 0 rfl ?_
    refine r_getRK S fc8 (by decide) 0 1 rfl rfl q_523 dX8_threshold_35 ?_
    refine r_bipush S (8 : Int32) dX8_threshold_38 rfl ?_
    refine r_iload_n S dX8_threshold_40 2 rfl ?_
    refine r_iadd S dX8_threshold_41 ?_
    obtain ⟨hi, hE⟩ := ck_some hE
    refine r_lald S (by decide) hi dX8_threshold_42 ?_
    exact r_sub [0, 1, 2] rfl (J43 a1 a2 (gL M 1 ((8 : Int32) + a2).toNatClampNeg) hE)
  · rw [if_neg c] at hE
    refine r_aload_n S dX8_threshold_22 0 rfl ?_
    refine r_getRK S fc8 (by decide) 0 1 rfl rfl q_523 dX8_threshold_23 ?_
    refine r_bipush S (8 : Int32) dX8_threshold_26 rfl ?_
    refine r_iload_n S dX8_threshold_28 1 rfl ?_
    refine r_iadd S dX8_threshold_29 ?_
    obtain ⟨hi, hE⟩ := ck_some hE
    refine r_lald S (by decide) hi dX8_threshold_30 ?_
    refine r_goto S 43 dX8_threshold_31 (by decide) ?_
    exact r_sub [0, 1, 2] rfl (J43 a1 a2 (gL M 1 ((8 : Int32) + a1).toNatClampNeg) hE)
set_option maxRecDepth 100000 in
set_option maxHeartbeats 4000000 in
theorem c_MD_runs (l : Launch) (Y : Env1) (hG : gY Y = gM) (a1 : Int32) (a2 : Int32) (M : Mem) (r : Int32) (hE : MD_runs a1 a2 M = some r) : CnI l Y yX8_runs cX8_runs 3 .boolean 4 [.ref (hY Y + 0), .int a1, .int a2] M r M := by
  refine met_Z (own := RX8) (by decide +kernel) rfl hG (Nat.le_of_ble_eq_true rfl) (fun X S hY1 hl1 hret => ?_)
  subst hY1
  subst hl1
  show AW X 0 [(0, .ref (hY X.2.1.2 + 0)), (1, .int a1), (2, .int a2)] [] M
  unfold MD_runs at hE
  refine r_aload_n S dX8_runs_0 0 rfl ?_
  refine r_iload_n S dX8_runs_1 1 rfl ?_
  refine r_iload_n S dX8_runs_2 2 rfl ?_
  obtain ⟨x1, h9, hE⟩ := b1_some hE
  refine rc_I S (rn_V S fc8 (by decide) (c_MD_threshold _ _ (gYX S) a1 a2 M _ h9) wdX8_threshold q_554 ⟨Nat.le_of_ble_eq_true rfl, Nat.le_of_ble_eq_true rfl⟩ rfl (Nat.le_of_ble_eq_true rfl) dX8_runs_3) ?_
  refine r_aload_n S dX8_runs_6 0 rfl ?_
  refine r_iload_n S dX8_runs_7 1 rfl ?_
  obtain ⟨x2, h9, hE⟩ := b1_some hE
  refine rc_I S (rn_V S fc8 (by decide) (c_MD_height _ _ (gYX S) a1 M _ h9) wdX8_height q_559 ⟨Nat.le_of_ble_eq_true rfl, Nat.le_of_ble_eq_true rfl⟩ rfl (Nat.le_of_ble_eq_true rfl) dX8_runs_8) ?_
  refine r_icmp_ne S 18 dX8_runs_11 (by decide) (fun c => ?_) (fun c => ?_)
  · try simp only [if_pos c] at hE
    refine r_iconst S (0 : Int32) dX8_runs_18 rfl ?_
    obtain rfl := si1 hE
    exact hret _ _ _ dX8_runs_19 (by decide)
  · try simp only [if_neg (not_not_intro c)] at hE
    refine r_iconst S (1 : Int32) dX8_runs_14 rfl ?_
    refine r_goto S 19 dX8_runs_15 (by decide) ?_
    obtain rfl := si1 hE
    exact hret _ _ _ dX8_runs_19 (by decide)
set_option maxRecDepth 100000 in
set_option maxHeartbeats 4000000 in
theorem c_MD_has (l : Launch) (Y : Env1) (hG : gY Y = gM) (a0 : Int64) (a2 : Int32) (M : Mem) (r : Int32) (hE : MD_has a0 a2 = r) : CnI l Y yX8_has cX8_has 3 .boolean 0 [.long a0, .int a2] M r M := by
  refine met_Z (own := RX8) (by decide +kernel) rfl hG (Nat.le_of_ble_eq_true rfl) (fun X S hY1 hl1 hret => ?_)
  subst hY1
  subst hl1
  show AW X 0 [(0, .long a0), (2, .int a2)] [] M
  unfold MD_has at hE
  refine r_lload_n S dX8_has_0 0 rfl ?_
  refine r_iload_n S dX8_has_1 1 rfl ?_
  refine r_lshr S dX8_has_2 ?_
  refine r_lconst S (1 : Int64) dX8_has_3 rfl ?_
  refine r_land S dX8_has_4 ?_
  refine r_lconst S (1 : Int64) dX8_has_5 rfl ?_
  refine r_lcmp_ne S 14 dX8_has_6 dX8_has_7 (by decide) (fun c => ?_) (fun c => ?_)
  · try simp only [if_pos c] at hE
    refine r_iconst S (0 : Int32) dX8_has_14 rfl ?_
    subst hE
    exact hret _ _ _ dX8_has_15 (by decide)
  · try simp only [if_neg (not_not_intro c)] at hE
    refine r_iconst S (1 : Int32) dX8_has_10 rfl ?_
    refine r_goto S 15 dX8_has_11 (by decide) ?_
    subst hE
    exact hret _ _ _ dX8_has_15 (by decide)
set_option maxRecDepth 100000 in
set_option maxHeartbeats 4000000 in
theorem c_MD_plain (l : Launch) (Y : Env1) (hG : gY Y = gM) (a1 : Int32) (M : Mem) (r : Int64) (hE : MD_plain a1 M = some r) : CnL l Y yX8_plain cX8_plain 8 5 [.ref (hY Y + 0), .int a1] M r M := by
  refine met_L (own := RX8) (by decide +kernel) rfl hG (Nat.le_of_ble_eq_true rfl) (fun X S hY1 hl1 hret => ?_)
  subst hY1
  subst hl1
  show AW X 0 [(0, .ref (hY X.2.1.2 + 0)), (1, .int a1)] [] M
  have L30 : ∀ (v1 : Int32) (v5 : Int32) (e : (Int64 × Int32)), AW X 111 [(0, .ref (hY X.2.1.2 + 0)), (1, .int v1), (2, .long e.1), (4, .int e.2), (5, .int v5)] [] M → ∀ (n : Nat) (s : Int64 × Int32 × Int32), lpR (fun s => MD_plain_L30 v1 v5 s.1 s.2.1 s.2.2 M) n s = some e → AW X 30 [(0, .ref (hY X.2.1.2 + 0)), (1, .int v1), (2, .long s.1), (4, .int s.2.1), (5, .int v5), (6, .int s.2.2)] [] M := by
    intro v1 v5 e hX
    refine lpR_ind (P := fun (s : Int64 × Int32 × Int32) => AW X 30 [(0, .ref (hY X.2.1.2 + 0)), (1, .int v1), (2, .long s.1), (4, .int s.2.1), (5, .int v5), (6, .int s.2.2)] [] M) ?_
    rintro ⟨v2, v4, v6⟩ d hE hC hD
    replace hE : MD_plain_L30 v1 v5 v2 v4 v6 M = some d := hE
    show AW X 30 [(0, .ref (hY X.2.1.2 + 0)), (1, .int v1), (2, .long v2), (4, .int v4), (5, .int v5), (6, .int v6)] [] M
    unfold MD_plain_L30 at hE
    refine r_iload S dX8_plain_30 5 rfl ?_
    refine r_iconst S (4 : Int32) dX8_plain_32 rfl ?_
    refine r_icmp_ge S 111 dX8_plain_33 (by decide) (fun c => ?_) (fun c => ?_)
    · rw [if_pos c] at hE
      obtain rfl := si1 hE
      rcases hD with h1 | ⟨_, h1⟩
      · obtain rfl := sir h1
        exact r_sub [0, 1, 2, 3, 4] rfl hX
      · exact (sil h1).elim
    · rw [if_neg c] at hE
      refine r_lload_n S dX8_plain_36 2 rfl ?_
      refine r_iload S dX8_plain_37 4 rfl ?_
      refine rc_I S (rn_S S (c_MD_has _ _ (gYX S) v2 v5 M _ rfl) wdX8_has q_564 ⟨Nat.le_of_ble_eq_true rfl, Nat.le_of_ble_eq_true rfl⟩ rfl (Nat.le_of_ble_eq_true rfl) dX8_plain_39) ?_
      refine r_if_eq S 111 dX8_plain_42 (by decide) (fun c => ?_) (fun c => ?_)
      · rw [if_pos c] at hE
        obtain rfl := si1 hE
        rcases hD with h1 | ⟨_, h1⟩
        · obtain rfl := sir h1
          exact r_sub [0, 1, 2, 3, 4] rfl hX
        · exact (sil h1).elim
      · rw [if_neg c] at hE
        refine r_aload_n S dX8_plain_45 0 rfl ?_
        refine r_iload S dX8_plain_46 4 rfl ?_
        refine r_iload S dX8_plain_48 5 rfl ?_
        obtain ⟨x1, h9, hE⟩ := b1_some hE
        refine rc_I S (rn_V S fc8 (by decide) (c_MD_neighbor _ _ (gYX S) v5 v6 M _ h9) wdX8_neighbor q_534 ⟨Nat.le_of_ble_eq_true rfl, Nat.le_of_ble_eq_true rfl⟩ rfl (Nat.le_of_ble_eq_true rfl) dX8_plain_50) ?_
        refine r_istore (lv2 := [(7, .int x1), (0, .ref (hY X.2.1.2 + 0)), (1, .int v1), (2, .long v2), (4, .int v4), (5, .int v5), (6, .int v6)]) S dX8_plain_53 (by decide) rfl ?_
        refine r_iload S dX8_plain_55 0 rfl ?_
        refine r_iconst S (-1 : Int32) dX8_plain_57 rfl ?_
        refine r_icmp_eq S 105 dX8_plain_58 (by decide) (fun c => ?_) (fun c => ?_)
        · rw [if_pos c] at hE
          refine r_iinc (lv2 := [(6, .int (v6 + (1 : Int32))), (7, .int x1), (0, .ref (hY X.2.1.2 + 0)), (1, .int v1), (2, .long v2), (4, .int v4), (5, .int v5)]) S dX8_plain_105 (j := 6) rfl (by decide) rfl ?_
          refine r_goto S 30 dX8_plain_108 (by decide) ?_
          obtain rfl := si1 hE
          exact r_sub (lv2 := [(0, .ref (hY X.2.1.2 + 0)), (1, .int v1), (2, .long v2), (4, .int v4), (5, .int v5), (6, .int (v6 + (1 : Int32)))]) [2, 3, 4, 5, 6, 0] rfl (hC (v2, v4, (v6 + (1 : Int32))) rfl)
        · rw [if_neg c] at hE
          refine r_aload_n S dX8_plain_61 1 rfl ?_
          refine r_iload S dX8_plain_62 0 rfl ?_
          obtain ⟨x2, h9, hE⟩ := b1_some hE
          refine rc_I S (rn_V S fc8 (by decide) (c_MD_height _ _ (gYX S) x1 M _ h9) wdX8_height q_559 ⟨Nat.le_of_ble_eq_true rfl, Nat.le_of_ble_eq_true rfl⟩ rfl (Nat.le_of_ble_eq_true rfl) dX8_plain_64) ?_
          refine r_aload_n S dX8_plain_67 1 rfl ?_
          refine r_iload_n S dX8_plain_68 2 rfl ?_
          obtain ⟨x3, h9, hE⟩ := b1_some hE
          refine rc_I S (rn_V S fc8 (by decide) (c_MD_height _ _ (gYX S) v1 M _ h9) wdX8_height q_559 ⟨Nat.le_of_ble_eq_true rfl, Nat.le_of_ble_eq_true rfl⟩ rfl (Nat.le_of_ble_eq_true rfl) dX8_plain_69) ?_
          refine r_icmp_ne S 105 dX8_plain_72 (by decide) (fun c => ?_) (fun c => ?_)
          · rw [if_pos c] at hE
            refine r_iinc (lv2 := [(6, .int (v6 + (1 : Int32))), (7, .int x1), (0, .ref (hY X.2.1.2 + 0)), (1, .int v1), (2, .long v2), (4, .int v4), (5, .int v5)]) S dX8_plain_105 (j := 6) rfl (by decide) rfl ?_
            refine r_goto S 30 dX8_plain_108 (by decide) ?_
            obtain rfl := si1 hE
            exact r_sub (lv2 := [(0, .ref (hY X.2.1.2 + 0)), (1, .int v1), (2, .long v2), (4, .int v4), (5, .int v5), (6, .int (v6 + (1 : Int32)))]) [2, 3, 4, 5, 6, 0] rfl (hC (v2, v4, (v6 + (1 : Int32))) rfl)
          · rw [if_neg (not_not_intro c)] at hE
            refine r_aload_n S dX8_plain_75 1 rfl ?_
            refine r_iload S dX8_plain_76 5 rfl ?_
            refine r_iload S dX8_plain_78 0 rfl ?_
            obtain ⟨x4, h9, hE⟩ := b1_some hE
            refine rc_I S (rn_V S fc8 (by decide) (c_MD_runs _ _ (gYX S) v5 x1 M _ h9) wdX8_runs q_568 ⟨Nat.le_of_ble_eq_true rfl, Nat.le_of_ble_eq_true rfl⟩ rfl (Nat.le_of_ble_eq_true rfl) dX8_plain_80) ?_
            refine r_if_eq S 105 dX8_plain_83 (by decide) (fun c => ?_) (fun c => ?_)
            · try simp only [if_pos c] at hE
              refine r_iinc (lv2 := [(6, .int (v6 + (1 : Int32))), (7, .int x1), (0, .ref (hY X.2.1.2 + 0)), (1, .int v1), (2, .long v2), (4, .int v4), (5, .int v5)]) S dX8_plain_105 (j := 6) rfl (by decide) rfl ?_
              refine r_goto S 30 dX8_plain_108 (by decide) ?_
              obtain rfl := si1 hE
              exact r_sub (lv2 := [(0, .ref (hY X.2.1.2 + 0)), (1, .int v1), (2, .long v2), (4, .int v4), (5, .int v5), (6, .int (v6 + (1 : Int32)))]) [2, 3, 4, 5, 6, 0] rfl (hC (v2, v4, (v6 + (1 : Int32))) rfl)
            · try simp only [if_neg c] at hE
              refine r_lload_n S dX8_plain_86 3 rfl ?_
              refine r_iload S dX8_plain_87 0 rfl ?_
              refine rc_I S (rn_S S (c_MD_has _ _ (gYX S) v2 x1 M _ rfl) wdX8_has q_564 ⟨Nat.le_of_ble_eq_true rfl, Nat.le_of_ble_eq_true rfl⟩ rfl (Nat.le_of_ble_eq_true rfl) dX8_plain_89) ?_
              refine r_if_ne S 105 dX8_plain_92 (by decide) (fun c => ?_) (fun c => ?_)
              · try simp only [if_pos c] at hE
                refine r_iinc (lv2 := [(6, .int (v6 + (1 : Int32))), (7, .int x1), (0, .ref (hY X.2.1.2 + 0)), (1, .int v1), (2, .long v2), (4, .int v4), (5, .int v5)]) S dX8_plain_105 (j := 6) rfl (by decide) rfl ?_
                refine r_goto S 30 dX8_plain_108 (by decide) ?_
                obtain rfl := si1 hE
                exact r_sub (lv2 := [(0, .ref (hY X.2.1.2 + 0)), (1, .int v1), (2, .long v2), (4, .int v4), (5, .int v5), (6, .int (v6 + (1 : Int32)))]) [2, 3, 4, 5, 6, 0] rfl (hC (v2, v4, (v6 + (1 : Int32))) rfl)
              · try simp only [if_neg (not_not_intro c)] at hE
                refine r_lload_n S dX8_plain_95 3 rfl ?_
                refine r_lconst S (1 : Int64) dX8_plain_96 rfl ?_
                refine r_iload S dX8_plain_97 0 rfl ?_
                refine r_lshl S dX8_plain_99 ?_
                refine r_lor S dX8_plain_100 ?_
                refine r_lstore_n (lv2 := [(2, .long (v2 ||| (lsh (1 : Int64) x1))), (7, .int x1), (0, .ref (hY X.2.1.2 + 0)), (1, .int v1), (4, .int v4), (5, .int v5), (6, .int v6)]) S dX8_plain_101 (by decide) rfl ?_
                refine r_iconst S (1 : Int32) dX8_plain_102 rfl ?_
                refine r_istore (lv2 := [(4, .int (1 : Int32)), (2, .long (v2 ||| (lsh (1 : Int64) x1))), (7, .int x1), (0, .ref (hY X.2.1.2 + 0)), (1, .int v1), (5, .int v5), (6, .int v6)]) S dX8_plain_103 (by decide) rfl ?_
                refine r_iinc (lv2 := [(6, .int (v6 + (1 : Int32))), (4, .int (1 : Int32)), (2, .long (v2 ||| (lsh (1 : Int64) x1))), (7, .int x1), (0, .ref (hY X.2.1.2 + 0)), (1, .int v1), (5, .int v5)]) S dX8_plain_105 (j := 6) rfl (by decide) rfl ?_
                refine r_goto S 30 dX8_plain_108 (by decide) ?_
                obtain rfl := si1 hE
                exact r_sub (lv2 := [(0, .ref (hY X.2.1.2 + 0)), (1, .int v1), (2, .long (v2 ||| (lsh (1 : Int64) x1))), (4, .int (1 : Int32)), (5, .int v5), (6, .int (v6 + (1 : Int32)))]) [4, 5, 2, 1, 6, 0] rfl (hC ((v2 ||| (lsh (1 : Int64) x1)), (1 : Int32), (v6 + (1 : Int32))) rfl)
  have L18 : ∀ (v1 : Int32) (e : (Int64 × Int32)), AW X 117 [(0, .ref (hY X.2.1.2 + 0)), (1, .int v1), (2, .long e.1), (4, .int e.2)] [] M → ∀ (n : Nat) (s : Int64 × Int32 × Int32), lpR (fun s => MD_plain_L18 v1 s.1 s.2.1 s.2.2 M) n s = some e → AW X 18 [(0, .ref (hY X.2.1.2 + 0)), (1, .int v1), (2, .long s.1), (4, .int s.2.1), (5, .int s.2.2)] [] M := by
    intro v1 e hX
    refine lpR_ind (P := fun (s : Int64 × Int32 × Int32) => AW X 18 [(0, .ref (hY X.2.1.2 + 0)), (1, .int v1), (2, .long s.1), (4, .int s.2.1), (5, .int s.2.2)] [] M) ?_
    rintro ⟨v2, v4, v5⟩ d hE hC hD
    replace hE : MD_plain_L18 v1 v2 v4 v5 M = some d := hE
    show AW X 18 [(0, .ref (hY X.2.1.2 + 0)), (1, .int v1), (2, .long v2), (4, .int v4), (5, .int v5)] [] M
    unfold MD_plain_L18 at hE
    refine r_iload S dX8_plain_18 4 rfl ?_
    refine r_aload_n S dX8_plain_20 0 rfl ?_
    refine rc_I S (rn_V S fc8 (by decide) (c_MD_many _ _ (gYX S)  M _ rfl) wdX8_many q_525 ⟨Nat.le_of_ble_eq_true rfl, Nat.le_of_ble_eq_true rfl⟩ rfl (Nat.le_of_ble_eq_true rfl) dX8_plain_21) ?_
    refine r_icmp_ge S 117 dX8_plain_24 (by decide) (fun c => ?_) (fun c => ?_)
    · rw [if_pos c] at hE
      obtain rfl := si1 hE
      rcases hD with h1 | ⟨_, h1⟩
      · obtain rfl := sir h1
        exact r_sub [0, 1, 2, 3] rfl hX
      · exact (sil h1).elim
    · rw [if_neg c] at hE
      refine r_iconst S (0 : Int32) dX8_plain_27 rfl ?_
      refine r_istore (lv2 := [(6, .int (0 : Int32)), (0, .ref (hY X.2.1.2 + 0)), (1, .int v1), (2, .long v2), (4, .int v4), (5, .int v5)]) S dX8_plain_28 (by decide) rfl ?_
      obtain ⟨e1, h9, hE⟩ := b1_some hE
      refine r_sub [1, 2, 3, 4, 5, 0] rfl (L30 v1 v5  e1 ?_ _ _  h9)
      refine r_iinc (lv2 := [(5, .int (v5 + (1 : Int32))), (0, .ref (hY X.2.1.2 + 0)), (1, .int v1), (2, .long e1.1), (4, .int e1.2)]) S dX8_plain_111 (j := 4) rfl (by decide) rfl ?_
      refine r_goto S 18 dX8_plain_114 (by decide) ?_
      obtain rfl := si1 hE
      exact r_sub (lv2 := [(0, .ref (hY X.2.1.2 + 0)), (1, .int v1), (2, .long e1.1), (4, .int e1.2), (5, .int (v5 + (1 : Int32)))]) [1, 2, 3, 4, 0] rfl (hC (e1.1, e1.2, (v5 + (1 : Int32))) rfl)
  have L7 : ∀ (v1 : Int32) (e : (Int64)), AW X 120 [(2, .long e)] [] M → ∀ (n : Nat) (s : Int64 × Int32), lpR (fun s => MD_plain_L7 v1 s.1 s.2 M) n s = some e → AW X 7 [(0, .ref (hY X.2.1.2 + 0)), (1, .int v1), (2, .long s.1), (4, .int s.2)] [] M := by
    intro v1 e hX
    refine lpR_ind (P := fun (s : Int64 × Int32) => AW X 7 [(0, .ref (hY X.2.1.2 + 0)), (1, .int v1), (2, .long s.1), (4, .int s.2)] [] M) ?_
    rintro ⟨v2, v4⟩ d hE hC hD
    replace hE : MD_plain_L7 v1 v2 v4 M = some d := hE
    show AW X 7 [(0, .ref (hY X.2.1.2 + 0)), (1, .int v1), (2, .long v2), (4, .int v4)] [] M
    unfold MD_plain_L7 at hE
    refine r_iload S dX8_plain_7 3 rfl ?_
    refine r_if_eq S 120 dX8_plain_9 (by decide) (fun c => ?_) (fun c => ?_)
    · rw [if_pos c] at hE
      obtain rfl := si1 hE
      rcases hD with h1 | ⟨_, h1⟩
      · obtain rfl := sir h1
        exact r_sub [2] rfl hX
      · exact (sil h1).elim
    · rw [if_neg c] at hE
      refine r_iconst S (0 : Int32) dX8_plain_12 rfl ?_
      refine r_istore (lv2 := [(4, .int (0 : Int32)), (0, .ref (hY X.2.1.2 + 0)), (1, .int v1), (2, .long v2)]) S dX8_plain_13 (by decide) rfl ?_
      refine r_iconst S (0 : Int32) dX8_plain_15 rfl ?_
      refine r_istore (lv2 := [(5, .int (0 : Int32)), (4, .int (0 : Int32)), (0, .ref (hY X.2.1.2 + 0)), (1, .int v1), (2, .long v2)]) S dX8_plain_16 (by decide) rfl ?_
      obtain ⟨e1, h9, hE⟩ := b1_some hE
      refine r_sub [2, 3, 4, 1, 0] rfl (L18 v1  e1 ?_ _ _  h9)
      refine r_goto S 7 dX8_plain_117 (by decide) ?_
      obtain rfl := si1 hE
      exact r_sub (lv2 := [(0, .ref (hY X.2.1.2 + 0)), (1, .int v1), (2, .long e1.1), (4, .int e1.2)]) [0, 1, 2, 3] rfl (hC (e1.1, e1.2) rfl)
  unfold MD_plain at hE
  refine r_lconst S (1 : Int64) dX8_plain_0 rfl ?_
  refine r_iload_n S dX8_plain_1 1 rfl ?_
  refine r_lshl S dX8_plain_2 ?_
  refine r_lstore_n (lv2 := [(2, .long (lsh (1 : Int64) a1)), (0, .ref (hY X.2.1.2 + 0)), (1, .int a1)]) S dX8_plain_3 (by decide) rfl ?_
  refine r_iconst S (1 : Int32) dX8_plain_4 rfl ?_
  refine r_istore (lv2 := [(4, .int (1 : Int32)), (2, .long (lsh (1 : Int64) a1)), (0, .ref (hY X.2.1.2 + 0)), (1, .int a1)]) S dX8_plain_5 (by decide) rfl ?_
  obtain ⟨e1, h9, hE⟩ := b1_some hE
  refine r_sub [2, 3, 1, 0] rfl (L7 a1  e1 ?_ _ _  h9)
  refine r_lload_n S dX8_plain_120 0 rfl ?_
  obtain rfl := si1 hE
  exact hret _ _ dX8_plain_121
