set_option maxRecDepth 100000 in
set_option maxHeartbeats 4000000 in
theorem c_MD_way (l : Launch) (Y : Env1) (hG : gY Y = gM) (a1 : Int64) (M : Mem) (r : Int32) (hE : MD_way a1 M = some r) : CnI l Y yX8_way cX8_way 7 .int 5 [.ref (hY Y + 0), .long a1] M r M := by
  refine met_I (own := RX8) (by decide +kernel) rfl hG (Nat.le_of_ble_eq_true rfl) (fun X S hY1 hl1 hret => ?_)
  subst hY1
  subst hl1
  show AW X 0 [(0, .ref (hY X.2.1.2 + 0)), (1, .long a1)] [] M
  have L16 : ∀ (v1 : Int64) (v3 : Int32) (e : (Int32)), AW X 100 [(0, .ref (hY X.2.1.2 + 0)), (1, .long v1), (3, .int v3), (4, .int e)] [] M → ∀ (n : Nat) (s : Int32 × Int32), lpR (fun s => MD_way_L16 v1 v3 s.1 s.2 M) n s = some e → AW X 16 [(0, .ref (hY X.2.1.2 + 0)), (1, .long v1), (3, .int v3), (4, .int s.1), (5, .int s.2)] [] M := by
    intro v1 v3 e hX
    refine lpR_ind (P := fun (s : Int32 × Int32) => AW X 16 [(0, .ref (hY X.2.1.2 + 0)), (1, .long v1), (3, .int v3), (4, .int s.1), (5, .int s.2)] [] M) ?_
    rintro ⟨v4, v5⟩ d hE hC hD
    replace hE : MD_way_L16 v1 v3 v4 v5 M = some d := hE
    show AW X 16 [(0, .ref (hY X.2.1.2 + 0)), (1, .long v1), (3, .int v3), (4, .int v4), (5, .int v5)] [] M
    unfold MD_way_L16 at hE
    refine r_iload S dX8_way_16 4 rfl ?_
    refine r_iconst S (4 : Int32) dX8_way_18 rfl ?_
    refine r_icmp_ge S 100 dX8_way_19 (by decide) (fun c => ?_) (fun c => ?_)
    · rw [if_pos c] at hE
      obtain rfl := si1 hE
      rcases hD with h1 | ⟨_, h1⟩
      · obtain rfl := sir h1
        exact r_sub [0, 1, 2, 3] rfl hX
      · exact (sil h1).elim
    · rw [if_neg c] at hE
      refine r_lload_n S dX8_way_22 1 rfl ?_
      refine r_iload_n S dX8_way_23 2 rfl ?_
      refine rc_I S (rn_S S (c_MD_has _ _ (gYX S) v1 v3 M _ rfl) wdX8_has q_564 ⟨Nat.le_of_ble_eq_true rfl, Nat.le_of_ble_eq_true rfl⟩ rfl (Nat.le_of_ble_eq_true rfl) dX8_way_24) ?_
      refine r_if_eq S 100 dX8_way_27 (by decide) (fun c => ?_) (fun c => ?_)
      · rw [if_pos c] at hE
        obtain rfl := si1 hE
        rcases hD with h1 | ⟨_, h1⟩
        · obtain rfl := sir h1
          exact r_sub [0, 1, 2, 3] rfl hX
        · exact (sil h1).elim
      · rw [if_neg c] at hE
        refine r_aload_n S dX8_way_30 0 rfl ?_
        refine r_iload_n S dX8_way_31 2 rfl ?_
        refine r_iload S dX8_way_32 4 rfl ?_
        obtain ⟨x1, h9, hE⟩ := b1_some hE
        refine rc_I S (rn_V S fc8 (by decide) (c_MD_neighbor _ _ (gYX S) v3 v5 M _ h9) wdX8_neighbor q_534 ⟨Nat.le_of_ble_eq_true rfl, Nat.le_of_ble_eq_true rfl⟩ rfl (Nat.le_of_ble_eq_true rfl) dX8_way_34) ?_
        refine r_istore (lv2 := [(6, .int x1), (0, .ref (hY X.2.1.2 + 0)), (1, .long v1), (3, .int v3), (4, .int v4), (5, .int v5)]) S dX8_way_37 (by decide) rfl ?_
        refine r_iload S dX8_way_39 0 rfl ?_
        refine r_iconst S (-1 : Int32) dX8_way_41 rfl ?_
        refine r_icmp_eq S 94 dX8_way_42 (by decide) (fun c => ?_) (fun c => ?_)
        · rw [if_pos c] at hE
          refine r_iinc (lv2 := [(5, .int (v5 + (1 : Int32))), (6, .int x1), (0, .ref (hY X.2.1.2 + 0)), (1, .long v1), (3, .int v3), (4, .int v4)]) S dX8_way_94 (j := 5) rfl (by decide) rfl ?_
          refine r_goto S 16 dX8_way_97 (by decide) ?_
          obtain rfl := si1 hE
          exact r_sub (lv2 := [(0, .ref (hY X.2.1.2 + 0)), (1, .long v1), (3, .int v3), (4, .int v4), (5, .int (v5 + (1 : Int32)))]) [2, 3, 4, 5, 0] rfl (hC (v4, (v5 + (1 : Int32))) rfl)
        · rw [if_neg c] at hE
          refine r_aload_n S dX8_way_45 1 rfl ?_
          refine r_iload S dX8_way_46 0 rfl ?_
          obtain ⟨x2, h9, hE⟩ := b1_some hE
          refine rc_I S (rn_V S fc8 (by decide) (c_MD_height _ _ (gYX S) x1 M _ h9) wdX8_height q_559 ⟨Nat.le_of_ble_eq_true rfl, Nat.le_of_ble_eq_true rfl⟩ rfl (Nat.le_of_ble_eq_true rfl) dX8_way_48) ?_
          refine r_aload_n S dX8_way_51 1 rfl ?_
          refine r_iload_n S dX8_way_52 3 rfl ?_
          obtain ⟨x3, h9, hE⟩ := b1_some hE
          refine rc_I S (rn_V S fc8 (by decide) (c_MD_height _ _ (gYX S) v3 M _ h9) wdX8_height q_559 ⟨Nat.le_of_ble_eq_true rfl, Nat.le_of_ble_eq_true rfl⟩ rfl (Nat.le_of_ble_eq_true rfl) dX8_way_53) ?_
          refine r_icmp_ge S 94 dX8_way_56 (by decide) (fun c => ?_) (fun c => ?_)
          · rw [if_pos c] at hE
            refine r_iinc (lv2 := [(5, .int (v5 + (1 : Int32))), (6, .int x1), (0, .ref (hY X.2.1.2 + 0)), (1, .long v1), (3, .int v3), (4, .int v4)]) S dX8_way_94 (j := 5) rfl (by decide) rfl ?_
            refine r_goto S 16 dX8_way_97 (by decide) ?_
            obtain rfl := si1 hE
            exact r_sub (lv2 := [(0, .ref (hY X.2.1.2 + 0)), (1, .long v1), (3, .int v3), (4, .int v4), (5, .int (v5 + (1 : Int32)))]) [2, 3, 4, 5, 0] rfl (hC (v4, (v5 + (1 : Int32))) rfl)
          · rw [if_neg c] at hE
            refine r_aload_n S dX8_way_59 1 rfl ?_
            refine r_iload_n S dX8_way_60 3 rfl ?_
            refine r_iload S dX8_way_61 0 rfl ?_
            obtain ⟨x4, h9, hE⟩ := b1_some hE
            refine rc_I S (rn_V S fc8 (by decide) (c_MD_runs _ _ (gYX S) v3 x1 M _ h9) wdX8_runs q_568 ⟨Nat.le_of_ble_eq_true rfl, Nat.le_of_ble_eq_true rfl⟩ rfl (Nat.le_of_ble_eq_true rfl) dX8_way_63) ?_
            refine r_if_eq S 94 dX8_way_66 (by decide) (fun c => ?_) (fun c => ?_)
            · rw [if_pos c] at hE
              refine r_iinc (lv2 := [(5, .int (v5 + (1 : Int32))), (6, .int x1), (0, .ref (hY X.2.1.2 + 0)), (1, .long v1), (3, .int v3), (4, .int v4)]) S dX8_way_94 (j := 5) rfl (by decide) rfl ?_
              refine r_goto S 16 dX8_way_97 (by decide) ?_
              obtain rfl := si1 hE
              exact r_sub (lv2 := [(0, .ref (hY X.2.1.2 + 0)), (1, .long v1), (3, .int v3), (4, .int v4), (5, .int (v5 + (1 : Int32)))]) [2, 3, 4, 5, 0] rfl (hC (v4, (v5 + (1 : Int32))) rfl)
            · rw [if_neg c] at hE
              refine r_iload S dX8_way_69 4 rfl ?_
              refine r_iconst S (-1 : Int32) dX8_way_71 rfl ?_
              refine r_icmp_eq S 90 dX8_way_72 (by decide) (fun c => ?_) (fun c => ?_)
              · rw [if_pos c] at hE
                refine r_iload S dX8_way_90 0 rfl ?_
                refine r_istore (lv2 := [(4, .int x1), (6, .int x1), (0, .ref (hY X.2.1.2 + 0)), (1, .long v1), (3, .int v3), (5, .int v5)]) S dX8_way_92 (by decide) rfl ?_
                refine r_iinc (lv2 := [(5, .int (v5 + (1 : Int32))), (4, .int x1), (6, .int x1), (0, .ref (hY X.2.1.2 + 0)), (1, .long v1), (3, .int v3)]) S dX8_way_94 (j := 5) rfl (by decide) rfl ?_
                refine r_goto S 16 dX8_way_97 (by decide) ?_
                obtain rfl := si1 hE
                exact r_sub (lv2 := [(0, .ref (hY X.2.1.2 + 0)), (1, .long v1), (3, .int v3), (4, .int x1), (5, .int (v5 + (1 : Int32)))]) [3, 4, 5, 1, 0] rfl (hC (x1, (v5 + (1 : Int32))) rfl)
              · rw [if_neg c] at hE
                refine r_aload_n S dX8_way_75 1 rfl ?_
                refine r_iload S dX8_way_76 0 rfl ?_
                obtain ⟨x5, h9, hE⟩ := b1_some hE
                refine rc_I S (rn_V S fc8 (by decide) (c_MD_height _ _ (gYX S) x1 M _ h9) wdX8_height q_559 ⟨Nat.le_of_ble_eq_true rfl, Nat.le_of_ble_eq_true rfl⟩ rfl (Nat.le_of_ble_eq_true rfl) dX8_way_78) ?_
                refine r_aload_n S dX8_way_81 1 rfl ?_
                refine r_iload S dX8_way_82 4 rfl ?_
                obtain ⟨x6, h9, hE⟩ := b1_some hE
                refine rc_I S (rn_V S fc8 (by decide) (c_MD_height _ _ (gYX S) v4 M _ h9) wdX8_height q_559 ⟨Nat.le_of_ble_eq_true rfl, Nat.le_of_ble_eq_true rfl⟩ rfl (Nat.le_of_ble_eq_true rfl) dX8_way_84) ?_
                refine r_icmp_ge S 94 dX8_way_87 (by decide) (fun c => ?_) (fun c => ?_)
                · try simp only [if_pos c] at hE
                  refine r_iinc (lv2 := [(5, .int (v5 + (1 : Int32))), (6, .int x1), (0, .ref (hY X.2.1.2 + 0)), (1, .long v1), (3, .int v3), (4, .int v4)]) S dX8_way_94 (j := 5) rfl (by decide) rfl ?_
                  refine r_goto S 16 dX8_way_97 (by decide) ?_
                  obtain rfl := si1 hE
                  exact r_sub (lv2 := [(0, .ref (hY X.2.1.2 + 0)), (1, .long v1), (3, .int v3), (4, .int v4), (5, .int (v5 + (1 : Int32)))]) [2, 3, 4, 5, 0] rfl (hC (v4, (v5 + (1 : Int32))) rfl)
                · try simp only [if_neg c] at hE
                  refine r_iload S dX8_way_90 0 rfl ?_
                  refine r_istore (lv2 := [(4, .int x1), (6, .int x1), (0, .ref (hY X.2.1.2 + 0)), (1, .long v1), (3, .int v3), (5, .int v5)]) S dX8_way_92 (by decide) rfl ?_
                  refine r_iinc (lv2 := [(5, .int (v5 + (1 : Int32))), (4, .int x1), (6, .int x1), (0, .ref (hY X.2.1.2 + 0)), (1, .long v1), (3, .int v3)]) S dX8_way_94 (j := 5) rfl (by decide) rfl ?_
                  refine r_goto S 16 dX8_way_97 (by decide) ?_
                  obtain rfl := si1 hE
                  exact r_sub (lv2 := [(0, .ref (hY X.2.1.2 + 0)), (1, .long v1), (3, .int v3), (4, .int x1), (5, .int (v5 + (1 : Int32)))]) [3, 4, 5, 1, 0] rfl (hC (x1, (v5 + (1 : Int32))) rfl)
  have L2 : ∀ (v1 : Int64) (q : ((Unit) ⊕ Int32)), (∀ e, q = .inl e → AW X 115 [] [] M) → (∀ r8, q = .inr r8 → r8 = r) → ∀ (n : Nat) (s : Int32), lpR (fun s => MD_way_L2 v1 s M) n s = some q → AW X 2 [(0, .ref (hY X.2.1.2 + 0)), (1, .long v1), (3, .int s)] [] M := by
    intro v1 q hX hR
    refine lpR_ind (P := fun (s : Int32) => AW X 2 [(0, .ref (hY X.2.1.2 + 0)), (1, .long v1), (3, .int s)] [] M) ?_
    rintro v3 d hE hC hD
    replace hE : MD_way_L2 v1 v3 M = some d := hE
    show AW X 2 [(0, .ref (hY X.2.1.2 + 0)), (1, .long v1), (3, .int v3)] [] M
    unfold MD_way_L2 at hE
    refine r_iload_n S dX8_way_2 2 rfl ?_
    refine r_aload_n S dX8_way_3 0 rfl ?_
    refine rc_I S (rn_V S fc8 (by decide) (c_MD_many _ _ (gYX S)  M _ rfl) wdX8_many q_525 ⟨Nat.le_of_ble_eq_true rfl, Nat.le_of_ble_eq_true rfl⟩ rfl (Nat.le_of_ble_eq_true rfl) dX8_way_4) ?_
    refine r_icmp_ge S 115 dX8_way_7 (by decide) (fun c => ?_) (fun c => ?_)
    · rw [if_pos c] at hE
      obtain rfl := si1 hE
      rcases hD with h1 | ⟨_, h1⟩
      · obtain rfl := sir h1
        exact r_sub [] rfl (hX _ rfl)
      · exact (sil h1).elim
    · rw [if_neg c] at hE
      refine r_iconst S (-1 : Int32) dX8_way_10 rfl ?_
      refine r_istore (lv2 := [(4, .int (-1 : Int32)), (0, .ref (hY X.2.1.2 + 0)), (1, .long v1), (3, .int v3)]) S dX8_way_11 (by decide) rfl ?_
      refine r_iconst S (0 : Int32) dX8_way_13 rfl ?_
      refine r_istore (lv2 := [(5, .int (0 : Int32)), (4, .int (-1 : Int32)), (0, .ref (hY X.2.1.2 + 0)), (1, .long v1), (3, .int v3)]) S dX8_way_14 (by decide) rfl ?_
      obtain ⟨e1, h9, hE⟩ := b1_some hE
      refine r_sub [2, 3, 4, 1, 0] rfl (L16 v1 v3  e1 ?_ _ _  h9)
      refine r_iload S dX8_way_100 3 rfl ?_
      refine r_iconst S (-1 : Int32) dX8_way_102 rfl ?_
      refine r_icmp_eq S 109 dX8_way_103 (by decide) (fun c => ?_) (fun c => ?_)
      · rw [if_pos c] at hE
        refine r_iinc (lv2 := [(3, .int (v3 + (1 : Int32))), (0, .ref (hY X.2.1.2 + 0)), (1, .long v1), (4, .int e1)]) S dX8_way_109 (j := 2) rfl (by decide) rfl ?_
        refine r_goto S 2 dX8_way_112 (by decide) ?_
        obtain rfl := si1 hE
        exact r_sub (lv2 := [(0, .ref (hY X.2.1.2 + 0)), (1, .long v1), (3, .int (v3 + (1 : Int32)))]) [1, 2, 0] rfl (hC (v3 + (1 : Int32)) rfl)
      · rw [if_neg c] at hE
        refine r_iload S dX8_way_106 3 rfl ?_
        obtain rfl := si1 hE
        rcases hD with h1 | ⟨_, h1⟩
        · obtain rfl := sir h1
          obtain rfl := hR _ rfl
          exact hret _ _ dX8_way_108
        · exact (sil h1).elim
  unfold MD_way at hE
  refine r_iconst S (0 : Int32) dX8_way_0 rfl ?_
  refine r_istore_n (lv2 := [(3, .int (0 : Int32)), (0, .ref (hY X.2.1.2 + 0)), (1, .long a1)]) S dX8_way_1 (by decide) rfl ?_
  obtain ⟨e1, h9, hE⟩ := b1_some hE
  refine r_sub [1, 2, 0] rfl (L2 a1  e1 (fun e2 h8 => ?_) (fun r8 h8 => ?_) _ _  h9)
  · subst h8
    refine r_iconst S (-1 : Int32) dX8_way_115 rfl ?_
    obtain rfl := si1 hE
    exact hret _ _ dX8_way_116
  · subst h8
    exact si1 hE
set_option maxRecDepth 100000 in
set_option maxHeartbeats 4000000 in
theorem c_MD_endOf (l : Launch) (Y : Env1) (hG : gY Y = gM) (a1 : Int32) (M : Mem) (r : Int64) (hE : MD_endOf a1 M = some r) : CnL l Y yX8_endOf cX8_endOf 5 6 [.ref (hY Y + 0), .int a1] M r M := by
  refine met_L (own := RX8) (by decide +kernel) rfl hG (Nat.le_of_ble_eq_true rfl) (fun X S hY1 hl1 hret => ?_)
  subst hY1
  subst hl1
  show AW X 0 [(0, .ref (hY X.2.1.2 + 0)), (1, .int a1)] [] M
  have L6 : ∀ (q : ((Unit) ⊕ Int64)), (∀ e, q = .inl e → AW X 44 [] [] M) → (∀ r8, q = .inr r8 → r8 = r) → ∀ (n : Nat) (s : Int64), lpR (fun s => MD_endOf_L6 s M) n s = some q → AW X 6 [(0, .ref (hY X.2.1.2 + 0)), (2, .long s)] [] M := by
    intro q hX hR
    refine lpR_ind (P := fun (s : Int64) => AW X 6 [(0, .ref (hY X.2.1.2 + 0)), (2, .long s)] [] M) ?_
    rintro v2 d hE hC hD
    replace hE : MD_endOf_L6 v2 M = some d := hE
    show AW X 6 [(0, .ref (hY X.2.1.2 + 0)), (2, .long v2)] [] M
    unfold MD_endOf_L6 at hE
    refine r_lload_n S dX8_endOf_6 1 rfl ?_
    refine r_aload_n S dX8_endOf_7 0 rfl ?_
    refine r_getRK S fc8 (by decide) 0 1 rfl rfl q_523 dX8_endOf_8 ?_
    refine r_iconst S (2 : Int32) dX8_endOf_11 rfl ?_
    refine r_laldK S 2 rfl (by decide) (by decide) dX8_endOf_12 ?_
    refine r_land S dX8_endOf_13 ?_
    refine r_lconst S (0 : Int64) dX8_endOf_14 rfl ?_
    refine r_lcmp_ne S 44 dX8_endOf_15 dX8_endOf_16 (by decide) (fun c => ?_) (fun c => ?_)
    · rw [if_pos c] at hE
      obtain rfl := si1 hE
      rcases hD with h1 | ⟨_, h1⟩
      · obtain rfl := sir h1
        exact r_sub [] rfl (hX _ rfl)
      · exact (sil h1).elim
    · rw [if_neg (not_not_intro c)] at hE
      refine r_aload_n S dX8_endOf_19 0 rfl ?_
      refine r_lload_n S dX8_endOf_20 1 rfl ?_
      obtain ⟨x1, h9, hE⟩ := b1_some hE
      refine rc_I S (rn_V S fc8 (by decide) (c_MD_way _ _ (gYX S) v2 M _ h9) wdX8_way q_578 ⟨Nat.le_of_ble_eq_true rfl, Nat.le_of_ble_eq_true rfl⟩ rfl (Nat.le_of_ble_eq_true rfl) dX8_endOf_21) ?_
      refine r_istore (lv2 := [(4, .int x1), (0, .ref (hY X.2.1.2 + 0)), (2, .long v2)]) S dX8_endOf_24 (by decide) rfl ?_
      refine r_iload S dX8_endOf_26 0 rfl ?_
      refine r_iconst S (-1 : Int32) dX8_endOf_28 rfl ?_
      refine r_icmp_ne S 34 dX8_endOf_29 (by decide) (fun c => ?_) (fun c => ?_)
      · rw [if_pos c] at hE
        refine r_aload_n S dX8_endOf_34 1 rfl ?_
        refine r_iload S dX8_endOf_35 0 rfl ?_
        obtain ⟨x2, h9, hE⟩ := b1_some hE
        refine rc_L S (rn_V S fc8 (by decide) (c_MD_plain _ _ (gYX S) x1 M _ h9) wdX8_plain q_573 ⟨Nat.le_of_ble_eq_true rfl, Nat.le_of_ble_eq_true rfl⟩ rfl (Nat.le_of_ble_eq_true rfl) dX8_endOf_37) ?_
        refine r_lstore_n (lv2 := [(2, .long x2), (4, .int x1), (0, .ref (hY X.2.1.2 + 0))]) S dX8_endOf_40 (by decide) rfl ?_
        refine r_goto S 6 dX8_endOf_41 (by decide) ?_
        obtain rfl := si1 hE
        exact r_sub (lv2 := [(0, .ref (hY X.2.1.2 + 0)), (2, .long x2)]) [2, 0] rfl (hC x2 rfl)
      · rw [if_neg (not_not_intro c)] at hE
        refine r_lload_n S dX8_endOf_32 2 rfl ?_
        obtain rfl := si1 hE
        rcases hD with h1 | ⟨_, h1⟩
        · obtain rfl := sir h1
          obtain rfl := hR _ rfl
          exact hret _ _ dX8_endOf_33
        · exact (sil h1).elim
  unfold MD_endOf at hE
  refine r_aload_n S dX8_endOf_0 0 rfl ?_
  refine r_iload_n S dX8_endOf_1 1 rfl ?_
  obtain ⟨x1, h9, hE⟩ := b1_some hE
  refine rc_L S (rn_V S fc8 (by decide) (c_MD_plain _ _ (gYX S) a1 M _ h9) wdX8_plain q_573 ⟨Nat.le_of_ble_eq_true rfl, Nat.le_of_ble_eq_true rfl⟩ rfl (Nat.le_of_ble_eq_true rfl) dX8_endOf_2) ?_
  refine r_lstore_n (lv2 := [(2, .long x1), (0, .ref (hY X.2.1.2 + 0)), (1, .int a1)]) S dX8_endOf_5 (by decide) rfl ?_
  obtain ⟨e2, h9, hE⟩ := b1_some hE
  refine r_sub [1, 0] rfl (L6   e2 (fun e3 h8 => ?_) (fun r8 h8 => ?_) _ _  h9)
  · subst h8
    refine r_lconst S (0 : Int64) dX8_endOf_44 rfl ?_
    obtain rfl := si1 hE
    exact hret _ _ dX8_endOf_45
  · subst h8
    exact si1 hE
set_option maxRecDepth 100000 in
set_option maxHeartbeats 4000000 in
theorem c_MD_lowest (l : Launch) (Y : Env1) (hG : gY Y = gM) (a0 : Int64) (M : Mem) (r : Int32) (hE : MD_lowest a0 = some r) : CnI l Y yX8_lowest cX8_lowest 3 .int 1 [.long a0] M r M := by
  refine met_I (own := RX8) (by decide +kernel) rfl hG (Nat.le_of_ble_eq_true rfl) (fun X S hY1 hl1 hret => ?_)
  subst hY1
  subst hl1
  show AW X 0 [(0, .long a0)] [] M
  have L2 : ∀ (v0 : Int64) (e : (Int32)), AW X 16 [(2, .int e)] [] M → ∀ (n : Nat) (s : Int32), lpR (fun s => MD_lowest_L2 v0 s) n s = some e → AW X 2 [(0, .long v0), (2, .int s)] [] M := by
    intro v0 e hX
    refine lpR_ind (P := fun (s : Int32) => AW X 2 [(0, .long v0), (2, .int s)] [] M) ?_
    rintro v2 d hE hC hD
    replace hE : MD_lowest_L2 v0 v2 = some d := hE
    show AW X 2 [(0, .long v0), (2, .int v2)] [] M
    unfold MD_lowest_L2 at hE
    refine r_lload_n S dX8_lowest_2 0 rfl ?_
    refine r_iload_n S dX8_lowest_3 1 rfl ?_
    refine rc_I S (rn_S S (c_MD_has _ _ (gYX S) v0 v2 M _ rfl) wdX8_has q_564 ⟨Nat.le_of_ble_eq_true rfl, Nat.le_of_ble_eq_true rfl⟩ rfl (Nat.le_of_ble_eq_true rfl) dX8_lowest_4) ?_
    refine r_if_ne S 16 dX8_lowest_7 (by decide) (fun c => ?_) (fun c => ?_)
    · rw [if_pos c] at hE
      obtain rfl := si1 hE
      rcases hD with h1 | ⟨_, h1⟩
      · obtain rfl := sir h1
        exact r_sub [1] rfl hX
      · exact (sil h1).elim
    · rw [if_neg (not_not_intro c)] at hE
      refine r_iinc (lv2 := [(2, .int (v2 + (1 : Int32))), (0, .long v0)]) S dX8_lowest_10 (j := 1) rfl (by decide) rfl ?_
      refine r_goto S 2 dX8_lowest_13 (by decide) ?_
      obtain rfl := si1 hE
      exact r_sub (lv2 := [(0, .long v0), (2, .int (v2 + (1 : Int32)))]) [1, 0] rfl (hC (v2 + (1 : Int32)) rfl)
  unfold MD_lowest at hE
  refine r_iconst S (0 : Int32) dX8_lowest_0 rfl ?_
  refine r_istore_n (lv2 := [(2, .int (0 : Int32)), (0, .long a0)]) S dX8_lowest_1 (by decide) rfl ?_
  obtain ⟨e1, h9, hE⟩ := b1_some hE
  refine r_sub [1, 0] rfl (L2 a0  e1 ?_ _ _  h9)
  refine r_iload_n S dX8_lowest_16 0 rfl ?_
  obtain rfl := si1 hE
  exact hret _ _ dX8_lowest_17
set_option maxRecDepth 100000 in
set_option maxHeartbeats 4000000 in
theorem c_MD_finds (l : Launch) (Y : Env1) (hG : gY Y = gM) (M : Mem) (r : Unit) (M1 : Mem) (hE : MD_finds M = some (r, M1)) : CnV l Y yX8_finds cX8_finds 5 7 [.ref (hY Y + 0)] M M1 := by
  refine met_V (own := RX8) (by decide +kernel) rfl hG (Nat.le_of_ble_eq_true rfl) (fun X S hY1 hl1 hret => ?_)
  subst hY1
  subst hl1
  show AW X 0 [(0, .ref (hY X.2.1.2 + 0))] [] M
  have L114 : ∀ (v1 : Int32) (v2 : Int32) (e : (Unit)) (M2 : Mem), AW X 204 [(0, .ref (hY X.2.1.2 + 0)), (1, .int v1), (2, .int v2)] [] M2 → ∀ (n : Nat) (s : Int32) (M : Mem), lpM (fun s M => MD_finds_L114 v1 v2 s M) n s M = some (e, M2) → AW X 114 [(0, .ref (hY X.2.1.2 + 0)), (1, .int v1), (2, .int v2), (3, .int s)] [] M := by
    intro v1 v2 e M2 hX
    refine lpM_ind (P := fun (s : Int32) (M : Mem) => AW X 114 [(0, .ref (hY X.2.1.2 + 0)), (1, .int v1), (2, .int v2), (3, .int s)] [] M) ?_
    rintro v3 M d M3 hE hC hD
    replace hE : MD_finds_L114 v1 v2 v3 M = some (d, M3) := hE
    show AW X 114 [(0, .ref (hY X.2.1.2 + 0)), (1, .int v1), (2, .int v2), (3, .int v3)] [] M
    have J172 : ∀ (v3 : Int32) (v4 : Int32) (t0 : Int64) (t1 : Int32) (t2 : Nat) (kt2 : kM t2 = 10) (M : Mem), MD_finds_L114_J172 v1 v2 v3 v4 t0 t1 t2 M = some (d, M3) → AW X 172 [(0, .ref (hY X.2.1.2 + 0)), (1, .int v1), (2, .int v2), (3, .int v3), (4, .int v4)] [.long t0, .int t1, .ref (hY X.2.1.2 + t2)] M := by
      intro v3 v4 t0 t1 t2 kt2 M hE
      unfold MD_finds_L114_J172 at hE
      obtain ⟨hi, hE⟩ := ck_some hE
      refine r_last S kt2 hi dX8_finds_172 ?_
      refine r_aload_n S dX8_finds_173 0 rfl ?_
      refine r_getRK S fc8 (by decide) 0 1 rfl rfl q_523 dX8_finds_174 ?_
      refine r_sipush S (152 : Int32) dX8_finds_177 rfl ?_
      refine r_iload_n S dX8_finds_180 1 rfl ?_
      refine r_iadd S dX8_finds_181 ?_
      refine r_dup2 S dX8_finds_182 rfl rfl ?_
      obtain ⟨hi, hE⟩ := ck_some hE
      refine r_lald S (by decide) hi dX8_finds_183 ?_
      refine r_iload S dX8_finds_184 4 rfl ?_
      refine r_if_eq S 195 dX8_finds_186 (by decide) (fun c => ?_) (fun c => ?_)
      · try simp only [if_pos c] at hE
        refine r_lconst S (0 : Int64) dX8_finds_195 rfl ?_
        refine r_lor S dX8_finds_196 ?_
        obtain ⟨hi, hE⟩ := ck_some hE
        refine r_last S (by decide) hi dX8_finds_197 ?_
        refine r_iinc (lv2 := [(3, .int (v3 + (1 : Int32))), (0, .ref (hY X.2.1.2 + 0)), (1, .int v1), (2, .int v2), (4, .int v4)]) S dX8_finds_198 (j := 3) rfl (by decide) rfl ?_
        refine r_goto S 114 dX8_finds_201 (by decide) ?_
        obtain ⟨rfl, rfl⟩ := si2 hE
        exact r_sub (lv2 := [(0, .ref (hY X.2.1.2 + 0)), (1, .int v1), (2, .int v2), (3, .int (v3 + (1 : Int32)))]) [1, 2, 3, 0] rfl (hC (v3 + (1 : Int32)) rfl)
      · try simp only [if_neg c] at hE
        refine r_lconst S (1 : Int64) dX8_finds_189 rfl ?_
        refine r_iload_n S dX8_finds_190 3 rfl ?_
        refine r_lshl S dX8_finds_191 ?_
        refine r_goto S 196 dX8_finds_192 (by decide) ?_
        refine r_lor S dX8_finds_196 ?_
        obtain ⟨hi, hE⟩ := ck_some hE
        refine r_last S (by decide) hi dX8_finds_197 ?_
        refine r_iinc (lv2 := [(3, .int (v3 + (1 : Int32))), (0, .ref (hY X.2.1.2 + 0)), (1, .int v1), (2, .int v2), (4, .int v4)]) S dX8_finds_198 (j := 3) rfl (by decide) rfl ?_
        refine r_goto S 114 dX8_finds_201 (by decide) ?_
        obtain ⟨rfl, rfl⟩ := si2 hE
        exact r_sub (lv2 := [(0, .ref (hY X.2.1.2 + 0)), (1, .int v1), (2, .int v2), (3, .int (v3 + (1 : Int32)))]) [1, 2, 3, 0] rfl (hC (v3 + (1 : Int32)) rfl)
    have J143 : ∀ (v3 : Int32) (t0 : Int32) (M : Mem), MD_finds_L114_J143 v1 v2 v3 t0 M = some (d, M3) → AW X 143 [(0, .ref (hY X.2.1.2 + 0)), (1, .int v1), (2, .int v2), (3, .int v3)] [.int t0] M := by
      intro v3 t0 M hE
      unfold MD_finds_L114_J143 at hE
      refine r_istore (lv2 := [(4, .int t0), (0, .ref (hY X.2.1.2 + 0)), (1, .int v1), (2, .int v2), (3, .int v3)]) S dX8_finds_143 (by decide) rfl ?_
      refine r_aload_n S dX8_finds_145 1 rfl ?_
      refine r_getRK S fc8 (by decide) 0 1 rfl rfl q_523 dX8_finds_146 ?_
      refine r_bipush S (116 : Int32) dX8_finds_149 rfl ?_
      refine r_iload_n S dX8_finds_151 4 rfl ?_
      refine r_iadd S dX8_finds_152 ?_
      refine r_iload S dX8_finds_153 0 rfl ?_
      refine r_if_eq S 163 dX8_finds_155 (by decide) (fun c => ?_) (fun c => ?_)
      · rw [if_pos c] at hE
        refine r_aload_n S dX8_finds_163 1 rfl ?_
        refine r_getRK S fc8 (by decide) 0 1 rfl rfl q_523 dX8_finds_164 ?_
        refine r_bipush S (116 : Int32) dX8_finds_167 rfl ?_
        refine r_iload_n S dX8_finds_169 4 rfl ?_
        refine r_iadd S dX8_finds_170 ?_
        obtain ⟨hi, hE⟩ := ck_some hE
        refine r_lald S (by decide) hi dX8_finds_171 ?_
        exact r_sub [1, 2, 3, 4, 0] rfl (J172 v3 t0 (gL M 1 ((116 : Int32) + v3).toNatClampNeg) ((116 : Int32) + v3) 1 (by decide) M hE)
      · rw [if_neg c] at hE
        refine r_iload_n S dX8_finds_158 2 rfl ?_
        refine r_i2l S dX8_finds_159 ?_
        refine r_goto S 172 dX8_finds_160 (by decide) ?_
        exact r_sub [1, 2, 3, 4, 0] rfl (J172 v3 t0 v1.toInt64 ((116 : Int32) + v3) 1 (by decide) M hE)
    unfold MD_finds_L114 at hE
    refine r_iload_n S dX8_finds_114 3 rfl ?_
    refine r_aload_n S dX8_finds_115 0 rfl ?_
    refine rc_I S (rn_V S fc8 (by decide) (c_MD_many _ _ (gYX S)  M _ rfl) wdX8_many q_525 ⟨Nat.le_of_ble_eq_true rfl, Nat.le_of_ble_eq_true rfl⟩ rfl (Nat.le_of_ble_eq_true rfl) dX8_finds_116) ?_
    refine r_icmp_ge S 204 dX8_finds_119 (by decide) (fun c => ?_) (fun c => ?_)
    · rw [if_pos c] at hE
      obtain ⟨rfl, rfl⟩ := si2 hE
      rcases hD with ⟨h1, h2⟩ | ⟨_, h1⟩
      · obtain rfl := sir h1
        subst h2
        exact r_sub [0, 1, 2] rfl hX
      · exact (sil h1).elim
    · rw [if_neg c] at hE
      refine r_aload_n S dX8_finds_122 0 rfl ?_
      refine r_getRK S fc8 (by decide) 5 4 rfl rfl q_583 dX8_finds_123 ?_
      refine r_iload_n S dX8_finds_126 3 rfl ?_
      obtain ⟨hi, hE⟩ := ck_some hE
      refine r_lald S (by decide) hi dX8_finds_127 ?_
      refine r_aload_n S dX8_finds_128 0 rfl ?_
      refine r_getRK S fc8 (by decide) 5 4 rfl rfl q_583 dX8_finds_129 ?_
      refine r_iload_n S dX8_finds_132 2 rfl ?_
      obtain ⟨hi, hE⟩ := ck_some hE
      refine r_lald S (by decide) hi dX8_finds_133 ?_
      refine r_lcmp_ne S 142 dX8_finds_134 dX8_finds_135 (by decide) (fun c => ?_) (fun c => ?_)
      · rw [if_pos c] at hE
        refine r_iconst S (0 : Int32) dX8_finds_142 rfl ?_
        exact r_sub [0, 1, 2, 3] rfl (J143 v3 (0 : Int32) M hE)
      · rw [if_neg (not_not_intro c)] at hE
        refine r_iconst S (1 : Int32) dX8_finds_138 rfl ?_
        refine r_goto S 143 dX8_finds_139 (by decide) ?_
        exact r_sub [0, 1, 2, 3] rfl (J143 v3 (1 : Int32) M hE)
  have L67 : ∀ (e : (Int32)) (M2 : Mem), AW X 241 [(0, .ref (hY X.2.1.2 + 0)), (1, .int e)] [] M2 → ∀ (n : Nat) (s : Int32 × Int32) (M : Mem), lpM (fun s M => MD_finds_L67 s.1 s.2 M) n s M = some (e, M2) → AW X 67 [(0, .ref (hY X.2.1.2 + 0)), (1, .int s.1), (2, .int s.2)] [] M := by
    intro e M2 hX
    refine lpM_ind (P := fun (s : Int32 × Int32) (M : Mem) => AW X 67 [(0, .ref (hY X.2.1.2 + 0)), (1, .int s.1), (2, .int s.2)] [] M) ?_
    rintro ⟨v1, v2⟩ M d M3 hE hC hD
    replace hE : MD_finds_L67 v1 v2 M = some (d, M3) := hE
    show AW X 67 [(0, .ref (hY X.2.1.2 + 0)), (1, .int v1), (2, .int v2)] [] M
    unfold MD_finds_L67 at hE
    refine r_iload_n S dX8_finds_67 2 rfl ?_
    refine r_aload_n S dX8_finds_68 0 rfl ?_
    refine rc_I S (rn_V S fc8 (by decide) (c_MD_many _ _ (gYX S)  M _ rfl) wdX8_many q_525 ⟨Nat.le_of_ble_eq_true rfl, Nat.le_of_ble_eq_true rfl⟩ rfl (Nat.le_of_ble_eq_true rfl) dX8_finds_69) ?_
    refine r_icmp_ge S 241 dX8_finds_72 (by decide) (fun c => ?_) (fun c => ?_)
    · rw [if_pos c] at hE
      obtain ⟨rfl, rfl⟩ := si2 hE
      rcases hD with ⟨h1, h2⟩ | ⟨_, h1⟩
      · obtain rfl := sir h1
        subst h2
        exact r_sub [0, 1] rfl hX
      · exact (sil h1).elim
    · rw [if_neg c] at hE
      refine r_aload_n S dX8_finds_75 0 rfl ?_
      refine r_getRK S fc8 (by decide) 5 4 rfl rfl q_583 dX8_finds_76 ?_
      refine r_iload_n S dX8_finds_79 2 rfl ?_
      obtain ⟨hi, hE⟩ := ck_some hE
      refine r_lald S (by decide) hi dX8_finds_80 ?_
      refine r_lconst S (0 : Int64) dX8_finds_81 rfl ?_
      refine r_lcmp_eq S 235 dX8_finds_82 dX8_finds_83 (by decide) (fun c => ?_) (fun c => ?_)
      · rw [if_pos c] at hE
        refine r_iinc (lv2 := [(2, .int (v2 + (1 : Int32))), (0, .ref (hY X.2.1.2 + 0)), (1, .int v1)]) S dX8_finds_235 (j := 2) rfl (by decide) rfl ?_
        refine r_goto S 67 dX8_finds_238 (by decide) ?_
        obtain ⟨rfl, rfl⟩ := si2 hE
        exact r_sub (lv2 := [(0, .ref (hY X.2.1.2 + 0)), (1, .int v1), (2, .int (v2 + (1 : Int32)))]) [1, 2, 0] rfl (hC (v1, (v2 + (1 : Int32))) rfl)
      · rw [if_neg c] at hE
        refine r_aload_n S dX8_finds_86 0 rfl ?_
        refine r_getRK S fc8 (by decide) 5 4 rfl rfl q_583 dX8_finds_87 ?_
        refine r_iload_n S dX8_finds_90 2 rfl ?_
        obtain ⟨hi, hE⟩ := ck_some hE
        refine r_lald S (by decide) hi dX8_finds_91 ?_
        refine r_iload_n S dX8_finds_92 2 rfl ?_
        refine rc_I S (rn_S S (c_MD_has _ _ (gYX S) (gL M 4 v2.toNatClampNeg) v2 M _ rfl) wdX8_has q_564 ⟨Nat.le_of_ble_eq_true rfl, Nat.le_of_ble_eq_true rfl⟩ rfl (Nat.le_of_ble_eq_true rfl) dX8_finds_93) ?_
        refine r_if_eq S 235 dX8_finds_96 (by decide) (fun c => ?_) (fun c => ?_)
        · rw [if_pos c] at hE
          refine r_iinc (lv2 := [(2, .int (v2 + (1 : Int32))), (0, .ref (hY X.2.1.2 + 0)), (1, .int v1)]) S dX8_finds_235 (j := 2) rfl (by decide) rfl ?_
          refine r_goto S 67 dX8_finds_238 (by decide) ?_
          obtain ⟨rfl, rfl⟩ := si2 hE
          exact r_sub (lv2 := [(0, .ref (hY X.2.1.2 + 0)), (1, .int v1), (2, .int (v2 + (1 : Int32)))]) [1, 2, 0] rfl (hC (v1, (v2 + (1 : Int32))) rfl)
        · rw [if_neg c] at hE
          refine r_aload_n S dX8_finds_99 0 rfl ?_
          refine r_getRK S fc8 (by decide) 5 4 rfl rfl q_583 dX8_finds_100 ?_
          refine r_iload_n S dX8_finds_103 2 rfl ?_
          obtain ⟨hi, hE⟩ := ck_some hE
          refine r_lald S (by decide) hi dX8_finds_104 ?_
          obtain ⟨x1, h9, hE⟩ := b1_some hE
          refine rc_I S (rn_S S (c_MD_lowest _ _ (gYX S) (gL M 4 v2.toNatClampNeg) M _ h9) wdX8_lowest q_590 ⟨Nat.le_of_ble_eq_true rfl, Nat.le_of_ble_eq_true rfl⟩ rfl (Nat.le_of_ble_eq_true rfl) dX8_finds_105) ?_
          refine r_iload_n S dX8_finds_108 2 rfl ?_
          refine r_icmp_ne S 235 dX8_finds_109 (by decide) (fun c => ?_) (fun c => ?_)
          · rw [if_pos c] at hE
            refine r_iinc (lv2 := [(2, .int (v2 + (1 : Int32))), (0, .ref (hY X.2.1.2 + 0)), (1, .int v1)]) S dX8_finds_235 (j := 2) rfl (by decide) rfl ?_
            refine r_goto S 67 dX8_finds_238 (by decide) ?_
            obtain ⟨rfl, rfl⟩ := si2 hE
            exact r_sub (lv2 := [(0, .ref (hY X.2.1.2 + 0)), (1, .int v1), (2, .int (v2 + (1 : Int32)))]) [1, 2, 0] rfl (hC (v1, (v2 + (1 : Int32))) rfl)
          · rw [if_neg (not_not_intro c)] at hE
            refine r_iconst S (0 : Int32) dX8_finds_112 rfl ?_
            refine r_istore_n (lv2 := [(3, .int (0 : Int32)), (0, .ref (hY X.2.1.2 + 0)), (1, .int v1), (2, .int v2)]) S dX8_finds_113 (by decide) rfl ?_
            obtain ⟨e2, M3, h9, hE⟩ := b2_some hE
            refine r_sub [1, 2, 3, 0] rfl (L114 v1 v2  e2 M3 ?_ _ _ M h9)
            refine r_aload_n S dX8_finds_204 0 rfl ?_
            refine r_getRK S fc8 (by decide) 0 1 rfl rfl q_523 dX8_finds_205 ?_
            refine r_sipush S (512 : Int32) dX8_finds_208 rfl ?_
            refine r_dup2 S dX8_finds_211 rfl rfl ?_
            refine r_laldK S 512 rfl (by decide) (by decide) dX8_finds_212 ?_
            refine r_aload_n S dX8_finds_213 0 rfl ?_
            refine r_getRK S fc8 (by decide) 5 4 rfl rfl q_583 dX8_finds_214 ?_
            refine r_iload_n S dX8_finds_217 2 rfl ?_
            obtain ⟨hi, hE⟩ := ck_some hE
            refine r_lald S (by decide) hi dX8_finds_218 ?_
            refine r_lor S dX8_finds_219 ?_
            refine r_lastK S 512 rfl (by decide) (by decide) dX8_finds_220 ?_
            refine r_aload_n S dX8_finds_221 0 rfl ?_
            refine r_getRK S fc8 (by decide) 0 1 rfl rfl q_523 dX8_finds_222 ?_
            refine r_sipush S (440 : Int32) dX8_finds_225 rfl ?_
            refine r_iload_n S dX8_finds_228 1 rfl ?_
            refine r_iadd S dX8_finds_229 ?_
            refine r_lconst S (1 : Int64) dX8_finds_230 rfl ?_
            obtain ⟨hi, hE⟩ := ck_some hE
            refine r_last S (by decide) hi dX8_finds_231 ?_
            refine r_iinc (lv2 := [(1, .int (v1 + (1 : Int32))), (0, .ref (hY X.2.1.2 + 0)), (2, .int v2)]) S dX8_finds_232 (j := 1) rfl (by decide) rfl ?_
            refine r_iinc (lv2 := [(2, .int (v2 + (1 : Int32))), (1, .int (v1 + (1 : Int32))), (0, .ref (hY X.2.1.2 + 0))]) S dX8_finds_235 (j := 2) rfl (by decide) rfl ?_
            refine r_goto S 67 dX8_finds_238 (by decide) ?_
            obtain ⟨rfl, rfl⟩ := si2 hE
            exact r_sub (lv2 := [(0, .ref (hY X.2.1.2 + 0)), (1, .int (v1 + (1 : Int32))), (2, .int (v2 + (1 : Int32)))]) [2, 1, 0] rfl (hC ((v1 + (1 : Int32)), (v2 + (1 : Int32))) rfl)
  have L26 : ∀ (e : (Unit)) (M2 : Mem), AW X 63 [(0, .ref (hY X.2.1.2 + 0))] [] M2 → ∀ (n : Nat) (s : Int32) (M : Mem), lpM (fun s M => MD_finds_L26 s M) n s M = some (e, M2) → AW X 26 [(0, .ref (hY X.2.1.2 + 0)), (1, .int s)] [] M := by
    intro e M2 hX
    refine lpM_ind (P := fun (s : Int32) (M : Mem) => AW X 26 [(0, .ref (hY X.2.1.2 + 0)), (1, .int s)] [] M) ?_
    rintro v1 M d M3 hE hC hD
    replace hE : MD_finds_L26 v1 M = some (d, M3) := hE
    show AW X 26 [(0, .ref (hY X.2.1.2 + 0)), (1, .int v1)] [] M
    unfold MD_finds_L26 at hE
    refine r_iload_n S dX8_finds_26 1 rfl ?_
    refine r_aload_n S dX8_finds_27 0 rfl ?_
    refine rc_I S (rn_V S fc8 (by decide) (c_MD_many _ _ (gYX S)  M _ rfl) wdX8_many q_525 ⟨Nat.le_of_ble_eq_true rfl, Nat.le_of_ble_eq_true rfl⟩ rfl (Nat.le_of_ble_eq_true rfl) dX8_finds_28) ?_
    refine r_icmp_ge S 63 dX8_finds_31 (by decide) (fun c => ?_) (fun c => ?_)
    · rw [if_pos c] at hE
      obtain ⟨rfl, rfl⟩ := si2 hE
      rcases hD with ⟨h1, h2⟩ | ⟨_, h1⟩
      · obtain rfl := sir h1
        subst h2
        exact r_sub [0] rfl hX
      · exact (sil h1).elim
    · rw [if_neg c] at hE
      refine r_aload_n S dX8_finds_34 0 rfl ?_
      refine r_getRK S fc8 (by decide) 5 4 rfl rfl q_583 dX8_finds_35 ?_
      refine r_iload_n S dX8_finds_38 1 rfl ?_
      refine r_aload_n S dX8_finds_39 0 rfl ?_
      refine r_iload_n S dX8_finds_40 1 rfl ?_
      obtain ⟨x1, h9, hE⟩ := b1_some hE
      refine rc_L S (rn_V S fc8 (by decide) (c_MD_endOf _ _ (gYX S) v1 M _ h9) wdX8_endOf q_584 ⟨Nat.le_of_ble_eq_true rfl, Nat.le_of_ble_eq_true rfl⟩ rfl (Nat.le_of_ble_eq_true rfl) dX8_finds_41) ?_
      obtain ⟨hi, hE⟩ := ck_some hE
      refine r_last S (by decide) hi dX8_finds_44 ?_
      refine r_aload_n S dX8_finds_45 0 rfl ?_
      refine r_getRK S fc8 (by decide) 0 1 rfl rfl q_523 dX8_finds_46 ?_
      refine r_bipush S (116 : Int32) dX8_finds_49 rfl ?_
      refine r_iload_n S dX8_finds_51 1 rfl ?_
      refine r_iadd S dX8_finds_52 ?_
      refine r_ldc2 S (v := -1) q_589 dX8_finds_53 ?_
      obtain ⟨hi, hE⟩ := ck_some hE
      refine r_last S (by decide) hi dX8_finds_56 ?_
      refine r_iinc (lv2 := [(1, .int (v1 + (1 : Int32))), (0, .ref (hY X.2.1.2 + 0))]) S dX8_finds_57 (j := 1) rfl (by decide) rfl ?_
      refine r_goto S 26 dX8_finds_60 (by decide) ?_
      obtain ⟨rfl, rfl⟩ := si2 hE
      exact r_sub (lv2 := [(0, .ref (hY X.2.1.2 + 0)), (1, .int (v1 + (1 : Int32)))]) [1, 0] rfl (hC (v1 + (1 : Int32)) rfl)
  have L4 : ∀ (e : (Unit)) (M2 : Mem), AW X 24 [(0, .ref (hY X.2.1.2 + 0))] [] M2 → ∀ (n : Nat) (s : Int32) (M : Mem), lpM (fun s M => MD_finds_L4 s M) n s M = some (e, M2) → AW X 4 [(0, .ref (hY X.2.1.2 + 0)), (1, .int s)] [] M := by
    intro e M2 hX
    refine lpM_ind (P := fun (s : Int32) (M : Mem) => AW X 4 [(0, .ref (hY X.2.1.2 + 0)), (1, .int s)] [] M) ?_
    rintro v1 M d M3 hE hC hD
    replace hE : MD_finds_L4 v1 M = some (d, M3) := hE
    show AW X 4 [(0, .ref (hY X.2.1.2 + 0)), (1, .int v1)] [] M
    unfold MD_finds_L4 at hE
    refine r_iload_n S dX8_finds_4 1 rfl ?_
    refine r_sipush S (513 : Int32) dX8_finds_5 rfl ?_
    refine r_icmp_ge S 24 dX8_finds_8 (by decide) (fun c => ?_) (fun c => ?_)
    · rw [if_pos c] at hE
      obtain ⟨rfl, rfl⟩ := si2 hE
      rcases hD with ⟨h1, h2⟩ | ⟨_, h1⟩
      · obtain rfl := sir h1
        subst h2
        exact r_sub [0] rfl hX
      · exact (sil h1).elim
    · rw [if_neg c] at hE
      refine r_aload_n S dX8_finds_11 0 rfl ?_
      refine r_getRK S fc8 (by decide) 0 1 rfl rfl q_523 dX8_finds_12 ?_
      refine r_iload_n S dX8_finds_15 1 rfl ?_
      refine r_lconst S (0 : Int64) dX8_finds_16 rfl ?_
      obtain ⟨hi, hE⟩ := ck_some hE
      refine r_last S (by decide) hi dX8_finds_17 ?_
      refine r_iinc (lv2 := [(1, .int (v1 + (1 : Int32))), (0, .ref (hY X.2.1.2 + 0))]) S dX8_finds_18 (j := 1) rfl (by decide) rfl ?_
      refine r_goto S 4 dX8_finds_21 (by decide) ?_
      obtain ⟨rfl, rfl⟩ := si2 hE
      exact r_sub (lv2 := [(0, .ref (hY X.2.1.2 + 0)), (1, .int (v1 + (1 : Int32)))]) [1, 0] rfl (hC (v1 + (1 : Int32)) rfl)
  unfold MD_finds at hE
  refine r_sipush S (152 : Int32) dX8_finds_0 rfl ?_
  refine r_istore_n (lv2 := [(1, .int (152 : Int32)), (0, .ref (hY X.2.1.2 + 0))]) S dX8_finds_3 (by decide) rfl ?_
  obtain ⟨e1, M2, h9, hE⟩ := b2_some hE
  refine r_sub [1, 0] rfl (L4   e1 M2 ?_ _ _ M h9)
  refine r_iconst S (0 : Int32) dX8_finds_24 rfl ?_
  refine r_istore_n (lv2 := [(1, .int (0 : Int32)), (0, .ref (hY X.2.1.2 + 0))]) S dX8_finds_25 (by decide) rfl ?_
  obtain ⟨e3, M4, h9, hE⟩ := b2_some hE
  refine r_sub [1, 0] rfl (L26   e3 M4 ?_ _ _ M2 h9)
  refine r_iconst S (0 : Int32) dX8_finds_63 rfl ?_
  refine r_istore_n (lv2 := [(1, .int (0 : Int32)), (0, .ref (hY X.2.1.2 + 0))]) S dX8_finds_64 (by decide) rfl ?_
  refine r_iconst S (0 : Int32) dX8_finds_65 rfl ?_
  refine r_istore_n (lv2 := [(2, .int (0 : Int32)), (1, .int (0 : Int32)), (0, .ref (hY X.2.1.2 + 0))]) S dX8_finds_66 (by decide) rfl ?_
  obtain ⟨e5, M6, h9, hE⟩ := b2_some hE
  refine r_sub [2, 1, 0] rfl (L67   e5 M6 ?_ _ _ M4 h9)
  refine r_aload_n S dX8_finds_241 0 rfl ?_
  refine r_getRK S fc8 (by decide) 0 1 rfl rfl q_523 dX8_finds_242 ?_
  refine r_bipush S (6 : Int32) dX8_finds_245 rfl ?_
  refine r_iload_n S dX8_finds_247 1 rfl ?_
  refine r_i2l S dX8_finds_248 ?_
  refine r_lastK S 6 rfl (by decide) (by decide) dX8_finds_249 ?_
  obtain ⟨rfl, rfl⟩ := si2 hE
  exact hret _ _ dX8_finds_250
set_option maxRecDepth 100000 in
set_option maxHeartbeats 4000000 in
theorem c_MD_findsPass (l : Launch) (Y : Env1) (hG : gY Y = gM) (a1 : Int32) (M : Mem) (r : Unit) (M1 : Mem) (hE : MD_findsPass a1 M = some (r, M1)) : CnV l Y yX8_findsPass cX8_findsPass 7 4 [.ref (hY Y + 0), .int a1] M M1 := by
  refine met_V (own := RX8) (by decide +kernel) rfl hG (Nat.le_of_ble_eq_true rfl) (fun X S hY1 hl1 hret => ?_)
  subst hY1
  subst hl1
  show AW X 0 [(0, .ref (hY X.2.1.2 + 0)), (1, .int a1)] [] M
  have L41 : ∀ (v2 : Int64) (v4 : Int32) (e : (Unit)) (M2 : Mem), AW X 134 [(0, .ref (hY X.2.1.2 + 0)), (2, .long v2), (4, .int v4)] [] M2 → ∀ (n : Nat) (s : Int32) (M : Mem), lpM (fun s M => MD_findsPass_L41 v2 v4 s M) n s M = some (e, M2) → AW X 41 [(0, .ref (hY X.2.1.2 + 0)), (2, .long v2), (4, .int v4), (5, .int s)] [] M := by
    intro v2 v4 e M2 hX
    refine lpM_ind (P := fun (s : Int32) (M : Mem) => AW X 41 [(0, .ref (hY X.2.1.2 + 0)), (2, .long v2), (4, .int v4), (5, .int s)] [] M) ?_
    rintro v5 M d M3 hE hC hD
    replace hE : MD_findsPass_L41 v2 v4 v5 M = some (d, M3) := hE
    show AW X 41 [(0, .ref (hY X.2.1.2 + 0)), (2, .long v2), (4, .int v4), (5, .int v5)] [] M
    have J104 : ∀ (v5 : Int32) (v6 : Int32) (M : Mem), MD_findsPass_L41_J104 v2 v4 v5 v6 M = some (d, M3) → AW X 104 [(0, .ref (hY X.2.1.2 + 0)), (2, .long v2), (4, .int v4), (5, .int v5), (6, .int v6)] [] M := by
      intro v5 v6 M hE
      unfold MD_findsPass_L41_J104 at hE
      refine r_aload_n S dX8_findsPass_104 0 rfl ?_
      refine r_aload_n S dX8_findsPass_105 0 rfl ?_
      refine r_iload S dX8_findsPass_106 2 rfl ?_
      refine r_iload S dX8_findsPass_108 4 rfl ?_
      obtain ⟨x1, h9, hE⟩ := b1_some hE
      refine rc_I S (rn_V S fc8 (by decide) (c_MD_threshold _ _ (gYX S) v4 v6 M _ h9) wdX8_threshold q_554 ⟨Nat.le_of_ble_eq_true rfl, Nat.le_of_ble_eq_true rfl⟩ rfl (Nat.le_of_ble_eq_true rfl) dX8_findsPass_110) ?_
      refine r_putI S fc8 (by decide) 8 rfl rfl (by decide +kernel) q_594 dX8_findsPass_113 ?_
      refine r_aload_n S dX8_findsPass_116 0 rfl ?_
      refine r_iload S dX8_findsPass_117 2 rfl ?_
      refine r_putI S fc8 (by decide) 6 rfl rfl (by decide +kernel) q_595 dX8_findsPass_119 ?_
      refine r_aload_n S dX8_findsPass_122 0 rfl ?_
      refine r_iload S dX8_findsPass_123 4 rfl ?_
      refine r_putI S fc8 (by decide) 7 rfl rfl (by decide +kernel) q_596 dX8_findsPass_125 ?_
      refine r_iinc (lv2 := [(5, .int (v5 + (1 : Int32))), (0, .ref (hY X.2.1.2 + 0)), (2, .long v2), (4, .int v4), (6, .int v6)]) S dX8_findsPass_128 (j := 3) rfl (by decide) rfl ?_
      refine r_goto S 41 dX8_findsPass_131 (by decide) ?_
      obtain ⟨rfl, rfl⟩ := si2 hE
      exact r_sub (lv2 := [(0, .ref (hY X.2.1.2 + 0)), (2, .long v2), (4, .int v4), (5, .int (v5 + (1 : Int32)))]) [1, 2, 3, 0] rfl (hC (v5 + (1 : Int32)) rfl)
    unfold MD_findsPass_L41 at hE
    refine r_iload S dX8_findsPass_41 3 rfl ?_
    refine r_iconst S (4 : Int32) dX8_findsPass_43 rfl ?_
    refine r_icmp_ge S 134 dX8_findsPass_44 (by decide) (fun c => ?_) (fun c => ?_)
    · rw [if_pos c] at hE
      obtain ⟨rfl, rfl⟩ := si2 hE
      rcases hD with ⟨h1, h2⟩ | ⟨_, h1⟩
      · obtain rfl := sir h1
        subst h2
        exact r_sub [0, 1, 2] rfl hX
      · exact (sil h1).elim
    · rw [if_neg c] at hE
      refine r_lload_n S dX8_findsPass_47 1 rfl ?_
      refine r_iload S dX8_findsPass_48 2 rfl ?_
      refine rc_I S (rn_S S (c_MD_has _ _ (gYX S) v2 v4 M _ rfl) wdX8_has q_564 ⟨Nat.le_of_ble_eq_true rfl, Nat.le_of_ble_eq_true rfl⟩ rfl (Nat.le_of_ble_eq_true rfl) dX8_findsPass_50) ?_
      refine r_if_eq S 134 dX8_findsPass_53 (by decide) (fun c => ?_) (fun c => ?_)
      · rw [if_pos c] at hE
        obtain ⟨rfl, rfl⟩ := si2 hE
        rcases hD with ⟨h1, h2⟩ | ⟨_, h1⟩
        · obtain rfl := sir h1
          subst h2
          exact r_sub [0, 1, 2] rfl hX
        · exact (sil h1).elim
      · rw [if_neg c] at hE
        refine r_aload_n S dX8_findsPass_56 0 rfl ?_
        refine r_iload S dX8_findsPass_57 2 rfl ?_
        refine r_iload S dX8_findsPass_59 3 rfl ?_
        obtain ⟨x1, h9, hE⟩ := b1_some hE
        refine rc_I S (rn_V S fc8 (by decide) (c_MD_neighbor _ _ (gYX S) v4 v5 M _ h9) wdX8_neighbor q_534 ⟨Nat.le_of_ble_eq_true rfl, Nat.le_of_ble_eq_true rfl⟩ rfl (Nat.le_of_ble_eq_true rfl) dX8_findsPass_61) ?_
        refine r_istore (lv2 := [(6, .int x1), (0, .ref (hY X.2.1.2 + 0)), (2, .long v2), (4, .int v4), (5, .int v5)]) S dX8_findsPass_64 (by decide) rfl ?_
        refine r_iload S dX8_findsPass_66 0 rfl ?_
        refine r_iconst S (-1 : Int32) dX8_findsPass_68 rfl ?_
        refine r_icmp_eq S 128 dX8_findsPass_69 (by decide) (fun c => ?_) (fun c => ?_)
        · rw [if_pos c] at hE
          refine r_iinc (lv2 := [(5, .int (v5 + (1 : Int32))), (6, .int x1), (0, .ref (hY X.2.1.2 + 0)), (2, .long v2), (4, .int v4)]) S dX8_findsPass_128 (j := 4) rfl (by decide) rfl ?_
          refine r_goto S 41 dX8_findsPass_131 (by decide) ?_
          obtain ⟨rfl, rfl⟩ := si2 hE
          exact r_sub (lv2 := [(0, .ref (hY X.2.1.2 + 0)), (2, .long v2), (4, .int v4), (5, .int (v5 + (1 : Int32)))]) [2, 3, 4, 0] rfl (hC (v5 + (1 : Int32)) rfl)
        · rw [if_neg c] at hE
          refine r_lload_n S dX8_findsPass_72 2 rfl ?_
          refine r_iload S dX8_findsPass_73 0 rfl ?_
          refine rc_I S (rn_S S (c_MD_has _ _ (gYX S) v2 x1 M _ rfl) wdX8_has q_564 ⟨Nat.le_of_ble_eq_true rfl, Nat.le_of_ble_eq_true rfl⟩ rfl (Nat.le_of_ble_eq_true rfl) dX8_findsPass_75) ?_
          refine r_if_ne S 128 dX8_findsPass_78 (by decide) (fun c => ?_) (fun c => ?_)
          · rw [if_pos c] at hE
            refine r_iinc (lv2 := [(5, .int (v5 + (1 : Int32))), (6, .int x1), (0, .ref (hY X.2.1.2 + 0)), (2, .long v2), (4, .int v4)]) S dX8_findsPass_128 (j := 4) rfl (by decide) rfl ?_
            refine r_goto S 41 dX8_findsPass_131 (by decide) ?_
            obtain ⟨rfl, rfl⟩ := si2 hE
            exact r_sub (lv2 := [(0, .ref (hY X.2.1.2 + 0)), (2, .long v2), (4, .int v4), (5, .int (v5 + (1 : Int32)))]) [2, 3, 4, 0] rfl (hC (v5 + (1 : Int32)) rfl)
          · rw [if_neg (not_not_intro c)] at hE
            refine r_aload_n S dX8_findsPass_81 1 rfl ?_
            refine r_getI S fc8 (by decide) 8 rfl q_594 dX8_findsPass_82 ?_
            refine r_iconst S (-1 : Int32) dX8_findsPass_85 rfl ?_
            refine r_icmp_eq S 104 dX8_findsPass_86 (by decide) (fun c => ?_) (fun c => ?_)
            · rw [if_pos c] at hE
              exact r_sub [1, 2, 3, 4, 0] rfl (J104 v5 x1 M hE)
            · rw [if_neg c] at hE
              refine r_aload_n S dX8_findsPass_89 1 rfl ?_
              refine r_iload S dX8_findsPass_90 3 rfl ?_
              refine r_iload S dX8_findsPass_92 0 rfl ?_
              obtain ⟨x2, h9, hE⟩ := b1_some hE
              refine rc_I S (rn_V S fc8 (by decide) (c_MD_threshold _ _ (gYX S) v4 x1 M _ h9) wdX8_threshold q_554 ⟨Nat.le_of_ble_eq_true rfl, Nat.le_of_ble_eq_true rfl⟩ rfl (Nat.le_of_ble_eq_true rfl) dX8_findsPass_94) ?_
              refine r_aload_n S dX8_findsPass_97 1 rfl ?_
              refine r_getI S fc8 (by decide) 8 rfl q_594 dX8_findsPass_98 ?_
              refine r_icmp_ge S 128 dX8_findsPass_101 (by decide) (fun c => ?_) (fun c => ?_)
              · rw [if_pos c] at hE
                refine r_iinc (lv2 := [(5, .int (v5 + (1 : Int32))), (6, .int x1), (0, .ref (hY X.2.1.2 + 0)), (2, .long v2), (4, .int v4)]) S dX8_findsPass_128 (j := 4) rfl (by decide) rfl ?_
                refine r_goto S 41 dX8_findsPass_131 (by decide) ?_
                obtain ⟨rfl, rfl⟩ := si2 hE
                exact r_sub (lv2 := [(0, .ref (hY X.2.1.2 + 0)), (2, .long v2), (4, .int v4), (5, .int (v5 + (1 : Int32)))]) [2, 3, 4, 0] rfl (hC (v5 + (1 : Int32)) rfl)
              · rw [if_neg c] at hE
                exact r_sub [1, 2, 3, 4, 0] rfl (J104 v5 x1 M hE)
  have L29 : ∀ (v2 : Int64) (e : (Unit)) (M2 : Mem), AW X 140 [] [] M2 → ∀ (n : Nat) (s : Int32) (M : Mem), lpM (fun s M => MD_findsPass_L29 v2 s M) n s M = some (e, M2) → AW X 29 [(0, .ref (hY X.2.1.2 + 0)), (2, .long v2), (4, .int s)] [] M := by
    intro v2 e M2 hX
    refine lpM_ind (P := fun (s : Int32) (M : Mem) => AW X 29 [(0, .ref (hY X.2.1.2 + 0)), (2, .long v2), (4, .int s)] [] M) ?_
    rintro v4 M d M3 hE hC hD
    replace hE : MD_findsPass_L29 v2 v4 M = some (d, M3) := hE
    show AW X 29 [(0, .ref (hY X.2.1.2 + 0)), (2, .long v2), (4, .int v4)] [] M
    unfold MD_findsPass_L29 at hE
    refine r_iload S dX8_findsPass_29 2 rfl ?_
    refine r_aload_n S dX8_findsPass_31 0 rfl ?_
    refine rc_I S (rn_V S fc8 (by decide) (c_MD_many _ _ (gYX S)  M _ rfl) wdX8_many q_525 ⟨Nat.le_of_ble_eq_true rfl, Nat.le_of_ble_eq_true rfl⟩ rfl (Nat.le_of_ble_eq_true rfl) dX8_findsPass_32) ?_
    refine r_icmp_ge S 140 dX8_findsPass_35 (by decide) (fun c => ?_) (fun c => ?_)
    · rw [if_pos c] at hE
      obtain ⟨rfl, rfl⟩ := si2 hE
      rcases hD with ⟨h1, h2⟩ | ⟨_, h1⟩
      · obtain rfl := sir h1
        subst h2
        exact r_sub [] rfl hX
      · exact (sil h1).elim
    · rw [if_neg c] at hE
      refine r_iconst S (0 : Int32) dX8_findsPass_38 rfl ?_
      refine r_istore (lv2 := [(5, .int (0 : Int32)), (0, .ref (hY X.2.1.2 + 0)), (2, .long v2), (4, .int v4)]) S dX8_findsPass_39 (by decide) rfl ?_
      obtain ⟨e1, M2, h9, hE⟩ := b2_some hE
      refine r_sub [1, 2, 3, 0] rfl (L41 v2 v4  e1 M2 ?_ _ _ M h9)
      refine r_iinc (lv2 := [(4, .int (v4 + (1 : Int32))), (0, .ref (hY X.2.1.2 + 0)), (2, .long v2)]) S dX8_findsPass_134 (j := 2) rfl (by decide) rfl ?_
      refine r_goto S 29 dX8_findsPass_137 (by decide) ?_
      obtain ⟨rfl, rfl⟩ := si2 hE
      exact r_sub (lv2 := [(0, .ref (hY X.2.1.2 + 0)), (2, .long v2), (4, .int (v4 + (1 : Int32)))]) [1, 2, 0] rfl (hC (v4 + (1 : Int32)) rfl)
  unfold MD_findsPass at hE
  refine r_aload_n S dX8_findsPass_0 0 rfl ?_
  refine r_iconst S (-1 : Int32) dX8_findsPass_1 rfl ?_
  refine r_putI S fc8 (by decide) 8 rfl rfl (by decide +kernel) q_594 dX8_findsPass_2 ?_
  refine r_aload_n S dX8_findsPass_5 0 rfl ?_
  refine r_iconst S (-1 : Int32) dX8_findsPass_6 rfl ?_
  refine r_putI S fc8 (by decide) 6 rfl rfl (by decide +kernel) q_595 dX8_findsPass_7 ?_
  refine r_aload_n S dX8_findsPass_10 0 rfl ?_
  refine r_iconst S (-1 : Int32) dX8_findsPass_11 rfl ?_
  refine r_putI S fc8 (by decide) 7 rfl rfl (by decide +kernel) q_596 dX8_findsPass_12 ?_
  refine r_aload_n S dX8_findsPass_15 0 rfl ?_
  refine r_getRK S fc8 (by decide) 0 1 rfl rfl q_523 dX8_findsPass_16 ?_
  refine r_sipush S (152 : Int32) dX8_findsPass_19 rfl ?_
  refine r_iload_n S dX8_findsPass_22 1 rfl ?_
  refine r_iadd S dX8_findsPass_23 ?_
  obtain ⟨hi, hE⟩ := ck_some hE
  refine r_lald S (by decide) hi dX8_findsPass_24 ?_
  refine r_lstore_n (lv2 := [(2, .long (gL (sI (sI (sI M 0 8 (-1 : Int32)) 0 6 (-1 : Int32)) 0 7 (-1 : Int32)) 1 ((152 : Int32) + a1).toNatClampNeg)), (0, .ref (hY X.2.1.2 + 0)), (1, .int a1)]) S dX8_findsPass_25 (by decide) rfl ?_
  refine r_iconst S (0 : Int32) dX8_findsPass_26 rfl ?_
  refine r_istore (lv2 := [(4, .int (0 : Int32)), (2, .long (gL (sI (sI (sI M 0 8 (-1 : Int32)) 0 6 (-1 : Int32)) 0 7 (-1 : Int32)) 1 ((152 : Int32) + a1).toNatClampNeg)), (0, .ref (hY X.2.1.2 + 0)), (1, .int a1)]) S dX8_findsPass_27 (by decide) rfl ?_
  obtain ⟨e1, M2, h9, hE⟩ := b2_some hE
  refine r_sub [2, 1, 0] rfl (L29 (gL (sI (sI (sI M 0 8 (-1 : Int32)) 0 6 (-1 : Int32)) 0 7 (-1 : Int32)) 1 ((152 : Int32) + a1).toNatClampNeg)  e1 M2 ?_ _ _ (sI (sI (sI M 0 8 (-1 : Int32)) 0 6 (-1 : Int32)) 0 7 (-1 : Int32)) h9)
  obtain ⟨rfl, rfl⟩ := si2 hE
  exact hret _ _ dX8_findsPass_140
set_option maxRecDepth 100000 in
set_option maxHeartbeats 4000000 in
theorem c_MD_capacity (l : Launch) (Y : Env1) (hG : gY Y = gM) (a1 : Int32) (M : Mem) (r : Int64) (M1 : Mem) (hE : MD_capacity a1 M = some (r, M1)) : CnL l Y yX8_capacity cX8_capacity 5 5 [.ref (hY Y + 0), .int a1] M r M1 := by
  refine met_L (own := RX8) (by decide +kernel) rfl hG (Nat.le_of_ble_eq_true rfl) (fun X S hY1 hl1 hret => ?_)
  subst hY1
  subst hl1
  show AW X 0 [(0, .ref (hY X.2.1.2 + 0)), (1, .int a1)] [] M
  have L10 : ∀ (v1 : Int32) (M : Mem) (e : (Int64)), AW X 83 [(0, .ref (hY X.2.1.2 + 0)), (2, .long e)] [] M → ∀ (n : Nat) (s : Int64 × Int32), lpR (fun s => MD_capacity_L10 v1 s.1 s.2 M) n s = some e → AW X 10 [(0, .ref (hY X.2.1.2 + 0)), (1, .int v1), (2, .long s.1), (4, .int s.2)] [] M := by
    intro v1 M e hX
    refine lpR_ind (P := fun (s : Int64 × Int32) => AW X 10 [(0, .ref (hY X.2.1.2 + 0)), (1, .int v1), (2, .long s.1), (4, .int s.2)] [] M) ?_
    rintro ⟨v2, v4⟩ d hE hC hD
    replace hE : MD_capacity_L10 v1 v2 v4 M = some d := hE
    show AW X 10 [(0, .ref (hY X.2.1.2 + 0)), (1, .int v1), (2, .long v2), (4, .int v4)] [] M
    unfold MD_capacity_L10 at hE
    refine r_iload S dX8_capacity_10 3 rfl ?_
    refine r_aload_n S dX8_capacity_12 0 rfl ?_
    refine rc_I S (rn_V S fc8 (by decide) (c_MD_many _ _ (gYX S)  M _ rfl) wdX8_many q_525 ⟨Nat.le_of_ble_eq_true rfl, Nat.le_of_ble_eq_true rfl⟩ rfl (Nat.le_of_ble_eq_true rfl) dX8_capacity_13) ?_
    refine r_icmp_ge S 83 dX8_capacity_16 (by decide) (fun c => ?_) (fun c => ?_)
    · rw [if_pos c] at hE
      obtain rfl := si1 hE
      rcases hD with h1 | ⟨_, h1⟩
      · obtain rfl := sir h1
        exact r_sub [0, 2] rfl hX
      · exact (sil h1).elim
    · rw [if_neg c] at hE
      refine r_aload_n S dX8_capacity_19 0 rfl ?_
      refine r_getI S fc8 (by decide) 8 rfl q_594 dX8_capacity_20 ?_
      refine r_iconst S (-1 : Int32) dX8_capacity_23 rfl ?_
      refine r_icmp_eq S 83 dX8_capacity_24 (by decide) (fun c => ?_) (fun c => ?_)
      · rw [if_pos c] at hE
        obtain rfl := si1 hE
        rcases hD with h1 | ⟨_, h1⟩
        · obtain rfl := sir h1
          exact r_sub [0, 2] rfl hX
        · exact (sil h1).elim
      · rw [if_neg c] at hE
        refine r_lload_n S dX8_capacity_27 2 rfl ?_
        refine r_aload_n S dX8_capacity_28 0 rfl ?_
        refine r_getRK S fc8 (by decide) 0 1 rfl rfl q_523 dX8_capacity_29 ?_
        refine r_sipush S (152 : Int32) dX8_capacity_32 rfl ?_
        refine r_iload_n S dX8_capacity_35 1 rfl ?_
        refine r_iadd S dX8_capacity_36 ?_
        obtain ⟨hi, hE⟩ := ck_some hE
        refine r_lald S (by decide) hi dX8_capacity_37 ?_
        refine r_iload S dX8_capacity_38 3 rfl ?_
        refine rc_I S (rn_S S (c_MD_has _ _ (gYX S) (gL M 1 ((152 : Int32) + v1).toNatClampNeg) v4 M _ rfl) wdX8_has q_564 ⟨Nat.le_of_ble_eq_true rfl, Nat.le_of_ble_eq_true rfl⟩ rfl (Nat.le_of_ble_eq_true rfl) dX8_capacity_40) ?_
        refine r_if_eq S 74 dX8_capacity_43 (by decide) (fun c => ?_) (fun c => ?_)
        · rw [if_pos c] at hE
          refine r_lconst S (0 : Int64) dX8_capacity_74 rfl ?_
          refine r_ladd S dX8_capacity_75 ?_
          refine r_lstore_n (lv2 := [(2, .long (v2 + (0 : Int64))), (0, .ref (hY X.2.1.2 + 0)), (1, .int v1), (4, .int v4)]) S dX8_capacity_76 (by decide) rfl ?_
          refine r_iinc (lv2 := [(4, .int (v4 + (1 : Int32))), (2, .long (v2 + (0 : Int64))), (0, .ref (hY X.2.1.2 + 0)), (1, .int v1)]) S dX8_capacity_77 (j := 3) rfl (by decide) rfl ?_
          refine r_goto S 10 dX8_capacity_80 (by decide) ?_
          obtain rfl := si1 hE
          exact r_sub (lv2 := [(0, .ref (hY X.2.1.2 + 0)), (1, .int v1), (2, .long (v2 + (0 : Int64))), (4, .int (v4 + (1 : Int32)))]) [2, 3, 1, 0] rfl (hC ((v2 + (0 : Int64)), (v4 + (1 : Int32))) rfl)
        · rw [if_neg c] at hE
          refine r_aload_n S dX8_capacity_46 0 rfl ?_
          refine r_iload S dX8_capacity_47 3 rfl ?_
          obtain ⟨x1, h9, hE⟩ := b1_some hE
          refine rc_I S (rn_V S fc8 (by decide) (c_MD_height _ _ (gYX S) v4 M _ h9) wdX8_height q_559 ⟨Nat.le_of_ble_eq_true rfl, Nat.le_of_ble_eq_true rfl⟩ rfl (Nat.le_of_ble_eq_true rfl) dX8_capacity_49) ?_
          refine r_aload_n S dX8_capacity_52 0 rfl ?_
          refine r_getI S fc8 (by decide) 8 rfl q_594 dX8_capacity_53 ?_
          refine r_icmp_ge S 74 dX8_capacity_56 (by decide) (fun c => ?_) (fun c => ?_)
          · rw [if_pos c] at hE
            refine r_lconst S (0 : Int64) dX8_capacity_74 rfl ?_
            refine r_ladd S dX8_capacity_75 ?_
            refine r_lstore_n (lv2 := [(2, .long (v2 + (0 : Int64))), (0, .ref (hY X.2.1.2 + 0)), (1, .int v1), (4, .int v4)]) S dX8_capacity_76 (by decide) rfl ?_
            refine r_iinc (lv2 := [(4, .int (v4 + (1 : Int32))), (2, .long (v2 + (0 : Int64))), (0, .ref (hY X.2.1.2 + 0)), (1, .int v1)]) S dX8_capacity_77 (j := 3) rfl (by decide) rfl ?_
            refine r_goto S 10 dX8_capacity_80 (by decide) ?_
            obtain rfl := si1 hE
            exact r_sub (lv2 := [(0, .ref (hY X.2.1.2 + 0)), (1, .int v1), (2, .long (v2 + (0 : Int64))), (4, .int (v4 + (1 : Int32)))]) [2, 3, 1, 0] rfl (hC ((v2 + (0 : Int64)), (v4 + (1 : Int32))) rfl)
          · rw [if_neg c] at hE
            refine r_aload_n S dX8_capacity_59 0 rfl ?_
            refine r_getI S fc8 (by decide) 8 rfl q_594 dX8_capacity_60 ?_
            refine r_aload_n S dX8_capacity_63 0 rfl ?_
            refine r_iload S dX8_capacity_64 3 rfl ?_
            obtain ⟨x2, h9, hE⟩ := b1_some hE
            refine rc_I S (rn_V S fc8 (by decide) (c_MD_height _ _ (gYX S) v4 M _ h9) wdX8_height q_559 ⟨Nat.le_of_ble_eq_true rfl, Nat.le_of_ble_eq_true rfl⟩ rfl (Nat.le_of_ble_eq_true rfl) dX8_capacity_66) ?_
            refine r_isub S dX8_capacity_69 ?_
            refine r_i2l S dX8_capacity_70 ?_
            refine r_goto S 75 dX8_capacity_71 (by decide) ?_
            refine r_ladd S dX8_capacity_75 ?_
            refine r_lstore_n (lv2 := [(2, .long (v2 + (((gI M 0 8) - x2).toInt64))), (0, .ref (hY X.2.1.2 + 0)), (1, .int v1), (4, .int v4)]) S dX8_capacity_76 (by decide) rfl ?_
            refine r_iinc (lv2 := [(4, .int (v4 + (1 : Int32))), (2, .long (v2 + (((gI M 0 8) - x2).toInt64))), (0, .ref (hY X.2.1.2 + 0)), (1, .int v1)]) S dX8_capacity_77 (j := 3) rfl (by decide) rfl ?_
            refine r_goto S 10 dX8_capacity_80 (by decide) ?_
            obtain rfl := si1 hE
            exact r_sub (lv2 := [(0, .ref (hY X.2.1.2 + 0)), (1, .int v1), (2, .long (v2 + (((gI M 0 8) - x2).toInt64))), (4, .int (v4 + (1 : Int32)))]) [2, 3, 1, 0] rfl (hC ((v2 + (((gI M 0 8) - x2).toInt64)), (v4 + (1 : Int32))) rfl)
  unfold MD_capacity at hE
  refine r_aload_n S dX8_capacity_0 0 rfl ?_
  refine r_iload_n S dX8_capacity_1 1 rfl ?_
  obtain ⟨x1, M2, h9, hE⟩ := b2_some hE
  refine rc_V S (rn_V S fc8 (by decide) (c_MD_findsPass _ _ (gYX S) a1 M _ _ h9) wdX8_findsPass q_597 ⟨Nat.le_of_ble_eq_true rfl, Nat.le_of_ble_eq_true rfl⟩ rfl (Nat.le_of_ble_eq_true rfl) dX8_capacity_2) ?_
  refine r_lconst S (0 : Int64) dX8_capacity_5 rfl ?_
  refine r_lstore_n (lv2 := [(2, .long (0 : Int64)), (0, .ref (hY X.2.1.2 + 0)), (1, .int a1)]) S dX8_capacity_6 (by decide) rfl ?_
  refine r_iconst S (0 : Int32) dX8_capacity_7 rfl ?_
  refine r_istore (lv2 := [(4, .int (0 : Int32)), (2, .long (0 : Int64)), (0, .ref (hY X.2.1.2 + 0)), (1, .int a1)]) S dX8_capacity_8 (by decide) rfl ?_
  obtain ⟨e3, h9, hE⟩ := b1_some hE
  refine r_sub [2, 3, 1, 0] rfl (L10 a1 M2 e3 ?_ _ _  h9)
  refine r_aload_n S dX8_capacity_83 0 rfl ?_
  refine r_getI S fc8 (by decide) 8 rfl q_594 dX8_capacity_84 ?_
  refine r_iconst S (-1 : Int32) dX8_capacity_87 rfl ?_
  refine r_icmp_ne S 97 dX8_capacity_88 (by decide) (fun c => ?_) (fun c => ?_)
  · try simp only [if_pos c] at hE
    refine r_lload_n S dX8_capacity_97 1 rfl ?_
    obtain ⟨rfl, rfl⟩ := si2 hE
    exact hret _ _ dX8_capacity_98
  · try simp only [if_neg (not_not_intro c)] at hE
    refine r_ldc2 S (v := -1) q_589 dX8_capacity_91 ?_
    refine r_goto S 98 dX8_capacity_94 (by decide) ?_
    obtain ⟨rfl, rfl⟩ := si2 hE
    exact hret _ _ dX8_capacity_98
set_option maxRecDepth 100000 in
set_option maxHeartbeats 4000000 in
theorem c_MD_isFull (l : Launch) (Y : Env1) (hG : gY Y = gM) (a1 : Int32) (M : Mem) (r : Int32) (M1 : Mem) (hE : MD_isFull a1 M = some (r, M1)) : CnI l Y yX8_isFull cX8_isFull 2 .boolean 6 [.ref (hY Y + 0), .int a1] M r M1 := by
  refine met_Z (own := RX8) (by decide +kernel) rfl hG (Nat.le_of_ble_eq_true rfl) (fun X S hY1 hl1 hret => ?_)
  subst hY1
  subst hl1
  show AW X 0 [(0, .ref (hY X.2.1.2 + 0)), (1, .int a1)] [] M
  unfold MD_isFull at hE
  refine r_aload_n S dX8_isFull_0 0 rfl ?_
  refine r_getRK S fc8 (by decide) 0 1 rfl rfl q_523 dX8_isFull_1 ?_
  refine r_sipush S (224 : Int32) dX8_isFull_4 rfl ?_
  refine r_iload_n S dX8_isFull_7 1 rfl ?_
  refine r_iadd S dX8_isFull_8 ?_
  obtain ⟨hi, hE⟩ := ck_some hE
  refine r_lald S (by decide) hi dX8_isFull_9 ?_
  refine r_aload_n S dX8_isFull_10 0 rfl ?_
  refine r_iload_n S dX8_isFull_11 1 rfl ?_
  obtain ⟨x1, M2, h9, hE⟩ := b2_some hE
  refine rc_L S (rn_V S fc8 (by decide) (c_MD_capacity _ _ (gYX S) a1 M _ _ h9) wdX8_capacity q_602 ⟨Nat.le_of_ble_eq_true rfl, Nat.le_of_ble_eq_true rfl⟩ rfl (Nat.le_of_ble_eq_true rfl) dX8_isFull_12) ?_
  refine r_lcmp_ne S 23 dX8_isFull_15 dX8_isFull_16 (by decide) (fun c => ?_) (fun c => ?_)
  · rw [if_pos c] at hE
    refine r_iconst S (0 : Int32) dX8_isFull_23 rfl ?_
    obtain ⟨rfl, rfl⟩ := si2 hE
    exact hret _ _ _ dX8_isFull_24 (by decide)
  · rw [if_neg (not_not_intro c)] at hE
    refine r_iconst S (1 : Int32) dX8_isFull_19 rfl ?_
    refine r_goto S 24 dX8_isFull_20 (by decide) ?_
    obtain ⟨rfl, rfl⟩ := si2 hE
    exact hret _ _ _ dX8_isFull_24 (by decide)
set_option maxRecDepth 100000 in
set_option maxHeartbeats 4000000 in
theorem c_MD_isJoined (l : Launch) (Y : Env1) (hG : gY Y = gM) (a1 : Int32) (M : Mem) (r : Int32) (hE : MD_isJoined a1 M = some r) : CnI l Y yX8_isJoined cX8_isJoined 2 .boolean 0 [.ref (hY Y + 0), .int a1] M r M := by
  refine met_Z (own := RX8) (by decide +kernel) rfl hG (Nat.le_of_ble_eq_true rfl) (fun X S hY1 hl1 hret => ?_)
  subst hY1
  subst hl1
  show AW X 0 [(0, .ref (hY X.2.1.2 + 0)), (1, .int a1)] [] M
  unfold MD_isJoined at hE
  refine r_aload_n S dX8_isJoined_0 0 rfl ?_
  refine r_getRK S fc8 (by decide) 0 1 rfl rfl q_523 dX8_isJoined_1 ?_
  refine r_sipush S (296 : Int32) dX8_isJoined_4 rfl ?_
  refine r_iload_n S dX8_isJoined_7 1 rfl ?_
  refine r_iadd S dX8_isJoined_8 ?_
  obtain ⟨hi, hE⟩ := ck_some hE
  refine r_lald S (by decide) hi dX8_isJoined_9 ?_
  refine r_aload_n S dX8_isJoined_10 0 rfl ?_
  refine r_getRK S fc8 (by decide) 0 1 rfl rfl q_523 dX8_isJoined_11 ?_
  refine r_sipush S (368 : Int32) dX8_isJoined_14 rfl ?_
  refine r_iload_n S dX8_isJoined_17 1 rfl ?_
  refine r_iadd S dX8_isJoined_18 ?_
  obtain ⟨hi, hE⟩ := ck_some hE
  refine r_lald S (by decide) hi dX8_isJoined_19 ?_
  refine r_lcmp_eq S 28 dX8_isJoined_20 dX8_isJoined_21 (by decide) (fun c => ?_) (fun c => ?_)
  · rw [if_pos c] at hE
    refine r_iconst S (0 : Int32) dX8_isJoined_28 rfl ?_
    obtain rfl := si1 hE
    exact hret _ _ _ dX8_isJoined_29 (by decide)
  · rw [if_neg c] at hE
    refine r_iconst S (1 : Int32) dX8_isJoined_24 rfl ?_
    refine r_goto S 29 dX8_isJoined_25 (by decide) ?_
    obtain rfl := si1 hE
    exact hret _ _ _ dX8_isJoined_29 (by decide)
