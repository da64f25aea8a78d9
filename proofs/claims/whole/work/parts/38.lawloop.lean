/-! 38.lawloop: the law's loop, from SIM -/
set_option maxRecDepth 100000 in
set_option maxHeartbeats 8000000 in
theorem law_loop {X : Cx} {b L : Nat} {xs : Nat → Int32} {cD : ClassId} (Z : LX X b L xs cD) {Inv : Mem → Mem → Prop} (hs : SIM Inv) (s0 : Nat) (hs0 : s0 ≤ 1000000)
    (hfin : ∀ (c s i : Nat) (Mc Mm : Mem) (vo : Nat → Int64) (vd : Nat → UInt64), c ≤ 601024 → s ≤ 7293034 → AG (setX X c s) 1697 [(0, .ref b), (1, .ref (hY X.2.1.2 + 0)), (2, .ref (hY X.2.1.2 + 281 + 0)), (3, .ref (hY X.2.1.2 + 295)), (4, .ref (hY X.2.1.2 + 296)), (5, .int (nI i))] [] (LWP X.2.1.2 cD Mc Mm vo vd)) :
    ∀ (n i : Nat), L - i < n → i ≤ 2100 → ∀ (Mc Mm : Mem) (vo : Nat → Int64) (vd : Nat → UInt64), Inv Mc Mm → AG (setX X (297 + i) (s0 + 6 * i)) 28 [(0, .ref b), (1, .ref (hY X.2.1.2 + 0)), (2, .ref (hY X.2.1.2 + 281 + 0)), (3, .ref (hY X.2.1.2 + 295)), (4, .ref (hY X.2.1.2 + 296)), (5, .int (nI i))] [] (LWP X.2.1.2 cD Mc Mm vo vd) := by
  obtain ⟨hs0, hs1, hs2, hs3, hs4, hs5, hs6, hs7, hs8, hs9, hs10, hs11, hs12, hs13, hs14, hs15, hs16, hs17, hs18, hs19, hs20, hs21, hs22, hs23, hs24, hs25, hs26⟩ := hs
  intro n
  induction n with
  | zero => intro i h; omega
  | succ n ih =>
    intro i hn hi Mc Mm vo vd hI
    have hL := Z.2.2.2.2.2.1
    have S0 := Z.1 (297 + i) (s0 + 6 * i) (by omega) (by omega)
    refine g_iload S0 dL_law_28 5 rfl ?_
    refine g_aload_n S0 dL_law_30 0 rfl ?_
    refine g_slen Z S0 dL_law_31 ?_
    refine g_iconst S0 (4 : Int32) dL_law_32 rfl ?_
    refine g_isub S0 dL_law_33 ?_
    have hlt : i + 4 ≤ L → ¬ nI L - (4 : Int32) < nI i := fun h c => by
      have e : nI L - (4 : Int32) = nI (L - 4) := pk_sub (a := L) (b := 4) (by omega)
      rw [e] at c
      exact nI_nlt (a := L - 4) (b := i) (by omega) (by omega) c
    refine g_icmp_gt S0 1697 dL_law_34 (by decide) (fun c => ?_) (fun c => ?_)
    · exact hfin _ _ _ _ _ _ _ (by omega) (by omega)
    · have hiL : i + 4 ≤ L := by
        by_cases q : i + 4 ≤ L
        · exact q
        · exfalso
          refine c ?_
          rw [Int32.lt_iff_toInt_lt, show nI L - (4 : Int32) = nI L - nI 4 from rfl, pk_sub_toInt (by omega) (by omega), nI_toInt (by omega)]
          omega
      have hgo : ∀ (m : Nat) (c1 s1 : Nat), c1 ≤ 297 + i + 3 → s1 ≤ s0 + 6 * i + 18 → ∀ Mc1 Mm1 vo1 vd1, Inv Mc1 Mm1 → AG (setX X c1 s1) 1691 [(0, .ref b), (1, .ref (hY X.2.1.2 + 0)), (2, .ref (hY X.2.1.2 + 281 + 0)), (3, .ref (hY X.2.1.2 + 295)), (4, .ref (hY X.2.1.2 + 296)), (5, .int (nI i))] [] (LWP X.2.1.2 cD Mc1 Mm1 vo1 vd1) := by
        intro m c1 s1 h1 h2 Mc1 Mm1 vo1 vd1 hI1
        have S1 := Z.1 (297 + (i + 4)) (s0 + 6 * (i + 4)) (by omega) (by omega)
        refine g_widen (c1 := 297 + (i + 4)) (s1 := s0 + 6 * (i + 4)) (by omega) (by omega) ?_
        refine g_iinc (lv2 := [(5, .int (nI i + Int32.ofInt 4)), (0, .ref b), (1, .ref (hY X.2.1.2 + 0)), (2, .ref (hY X.2.1.2 + 281 + 0)), (3, .ref (hY X.2.1.2 + 295)), (4, .ref (hY X.2.1.2 + 296))]) S1 dL_law_1691 (j := 5) rfl (by decide) rfl ?_
        refine g_goto S1 28 dL_law_1694 (by decide) ?_
        rw [show nI i + Int32.ofInt 4 = nI (i + 4) from nI_add i 4]
        exact g_sub [1, 2, 3, 4, 5, 0] rfl (ih (i + 4) (by omega) (by omega) Mc1 Mm1 vo1 vd1 hI1)
      refine g_aload_n S0 dL_law_37 0 rfl ?_
      refine g_iload S0 dL_law_38 5 rfl ?_
      refine g_sld Z S0 i rfl (by omega) dL_law_40 ?_
      refine g_bipush S0 (31 : Int32) dL_law_41 rfl ?_
      refine g_iand S0 dL_law_43 ?_
      generalize xs i &&& 31 = x
      by_cases c0 : x = (0 : Int32)
      · refine g_tin S0 168 (0 : Int32) c0 dL_law_44 (by decide) (by decide) rfl (by decide) ?_
        exact lc_0 Z hs0 i hiL hI (297 + i) (s0 + 6 * i) (by omega) (by omega) (hgo 0 (297 + i + 2) (s0 + 6 * i + 12) (by omega) (by omega))
      by_cases c1 : x = (1 : Int32)
      · refine g_tin S0 236 (1 : Int32) c1 dL_law_44 (by decide) (by decide) rfl (by decide) ?_
        exact lc_1 Z hs1 i hiL hI (297 + i) (s0 + 6 * i) (by omega) (by omega) (hgo 0 (297 + i + 2) (s0 + 6 * i + 12) (by omega) (by omega))
      by_cases c2 : x = (2 : Int32)
      · refine g_tin S0 304 (2 : Int32) c2 dL_law_44 (by decide) (by decide) rfl (by decide) ?_
        exact lc_2 Z hs2 i hiL hI (297 + i) (s0 + 6 * i) (by omega) (by omega) (hgo 0 (297 + i + 1) (s0 + 6 * i + 6) (by omega) (by omega))
      by_cases c3 : x = (3 : Int32)
      · refine g_tin S0 395 (3 : Int32) c3 dL_law_44 (by decide) (by decide) rfl (by decide) ?_
        exact lc_3 Z hs3 i hiL hI (297 + i) (s0 + 6 * i) (by omega) (by omega) (hgo 0 (297 + i + 2) (s0 + 6 * i + 12) (by omega) (by omega))
      by_cases c4 : x = (4 : Int32)
      · refine g_tin S0 475 (4 : Int32) c4 dL_law_44 (by decide) (by decide) rfl (by decide) ?_
        exact lc_4 Z hs4 i hiL hI (297 + i) (s0 + 6 * i) (by omega) (by omega) (hgo 0 (297 + i + 2) (s0 + 6 * i + 12) (by omega) (by omega))
      by_cases c5 : x = (5 : Int32)
      · refine g_tin S0 543 (5 : Int32) c5 dL_law_44 (by decide) (by decide) rfl (by decide) ?_
        exact lc_5 Z hs5 i hiL hI (297 + i) (s0 + 6 * i) (by omega) (by omega) (hgo 0 (297 + i + 2) (s0 + 6 * i + 12) (by omega) (by omega))
      by_cases c6 : x = (6 : Int32)
      · refine g_tin S0 611 (6 : Int32) c6 dL_law_44 (by decide) (by decide) rfl (by decide) ?_
        exact lc_6 Z hs6 i hiL hI (297 + i) (s0 + 6 * i) (by omega) (by omega) (hgo 0 (297 + i + 1) (s0 + 6 * i + 6) (by omega) (by omega))
      by_cases c7 : x = (7 : Int32)
      · refine g_tin S0 707 (7 : Int32) c7 dL_law_44 (by decide) (by decide) rfl (by decide) ?_
        exact lc_7 Z hs7 i hiL hI (297 + i) (s0 + 6 * i) (by omega) (by omega) (hgo 0 (297 + i + 1) (s0 + 6 * i + 6) (by omega) (by omega))
      by_cases c8 : x = (8 : Int32)
      · refine g_tin S0 763 (8 : Int32) c8 dL_law_44 (by decide) (by decide) rfl (by decide) ?_
        exact lc_8 Z hs8 i hiL hI (297 + i) (s0 + 6 * i) (by omega) (by omega) (hgo 0 (297 + i + 3) (s0 + 6 * i + 18) (by omega) (by omega))
      by_cases c9 : x = (9 : Int32)
      · refine g_tin S0 831 (9 : Int32) c9 dL_law_44 (by decide) (by decide) rfl (by decide) ?_
        exact lc_9 Z hs9 i hiL hI (297 + i) (s0 + 6 * i) (by omega) (by omega) (hgo 0 (297 + i + 2) (s0 + 6 * i + 12) (by omega) (by omega))
      by_cases c10 : x = (10 : Int32)
      · refine g_tin S0 887 (10 : Int32) c10 dL_law_44 (by decide) (by decide) rfl (by decide) ?_
        exact lc_10 Z hs10 i hiL hI (297 + i) (s0 + 6 * i) (by omega) (by omega) (hgo 0 (297 + i + 1) (s0 + 6 * i + 6) (by omega) (by omega))
      by_cases c11 : x = (11 : Int32)
      · refine g_tin S0 943 (11 : Int32) c11 dL_law_44 (by decide) (by decide) rfl (by decide) ?_
        exact lc_11 Z hs11 i hiL hI (297 + i) (s0 + 6 * i) (by omega) (by omega) (hgo 0 (297 + i + 2) (s0 + 6 * i + 12) (by omega) (by omega))
      by_cases c12 : x = (12 : Int32)
      · refine g_tin S0 1011 (12 : Int32) c12 dL_law_44 (by decide) (by decide) rfl (by decide) ?_
        exact lc_12 Z hs12 i hiL hI (297 + i) (s0 + 6 * i) (by omega) (by omega) (hgo 0 (297 + i + 1) (s0 + 6 * i + 6) (by omega) (by omega))
      by_cases c13 : x = (13 : Int32)
      · refine g_tin S0 1066 (13 : Int32) c13 dL_law_44 (by decide) (by decide) rfl (by decide) ?_
        exact lc_13 Z hs13 i hiL hI (297 + i) (s0 + 6 * i) (by omega) (by omega) (hgo 0 (297 + i + 2) (s0 + 6 * i + 12) (by omega) (by omega))
      by_cases c14 : x = (14 : Int32)
      · refine g_tin S0 1134 (14 : Int32) c14 dL_law_44 (by decide) (by decide) rfl (by decide) ?_
        exact lc_14 Z hs14 i hiL hI (297 + i) (s0 + 6 * i) (by omega) (by omega) (hgo 0 (297 + i + 1) (s0 + 6 * i + 6) (by omega) (by omega))
      by_cases c15 : x = (15 : Int32)
      · refine g_tin S0 1189 (15 : Int32) c15 dL_law_44 (by decide) (by decide) rfl (by decide) ?_
        exact lc_15 Z hs15 i hiL hI (297 + i) (s0 + 6 * i) (by omega) (by omega) (hgo 0 (297 + i + 2) (s0 + 6 * i + 12) (by omega) (by omega))
      by_cases c16 : x = (16 : Int32)
      · refine g_tin S0 1257 (16 : Int32) c16 dL_law_44 (by decide) (by decide) rfl (by decide) ?_
        exact lc_16 Z hs16 i hiL hI (297 + i) (s0 + 6 * i) (by omega) (by omega) (hgo 0 (297 + i + 1) (s0 + 6 * i + 6) (by omega) (by omega))
      by_cases c17 : x = (17 : Int32)
      · refine g_tin S0 1334 (17 : Int32) c17 dL_law_44 (by decide) (by decide) rfl (by decide) ?_
        exact lc_17 Z hs17 i hiL hI (297 + i) (s0 + 6 * i) (by omega) (by omega) (hgo 0 (297 + i + 0) (s0 + 6 * i + 0) (by omega) (by omega))
      by_cases c18 : x = (18 : Int32)
      · refine g_tin S0 1347 (18 : Int32) c18 dL_law_44 (by decide) (by decide) rfl (by decide) ?_
        exact lc_18 Z hs18 i hiL hI (297 + i) (s0 + 6 * i) (by omega) (by omega) (hgo 0 (297 + i + 1) (s0 + 6 * i + 6) (by omega) (by omega))
      by_cases c19 : x = (19 : Int32)
      · refine g_tin S0 1402 (19 : Int32) c19 dL_law_44 (by decide) (by decide) rfl (by decide) ?_
        exact lc_19 Z hs19 i hiL hI (297 + i) (s0 + 6 * i) (by omega) (by omega) (hgo 0 (297 + i + 2) (s0 + 6 * i + 12) (by omega) (by omega))
      by_cases c20 : x = (20 : Int32)
      · refine g_tin S0 1470 (20 : Int32) c20 dL_law_44 (by decide) (by decide) rfl (by decide) ?_
        exact lc_20 Z hs20 i hiL hI (297 + i) (s0 + 6 * i) (by omega) (by omega) (hgo 0 (297 + i + 0) (s0 + 6 * i + 0) (by omega) (by omega))
      by_cases c21 : x = (21 : Int32)
      · refine g_tin S0 1483 (21 : Int32) c21 dL_law_44 (by decide) (by decide) rfl (by decide) ?_
        exact lc_21 Z hs21 i hiL hI (297 + i) (s0 + 6 * i) (by omega) (by omega) (hgo 0 (297 + i + 1) (s0 + 6 * i + 6) (by omega) (by omega))
      by_cases c22 : x = (22 : Int32)
      · refine g_tin S0 1551 (22 : Int32) c22 dL_law_44 (by decide) (by decide) rfl (by decide) ?_
        exact lc_22 Z hs22 i hiL hI (297 + i) (s0 + 6 * i) (by omega) (by omega) (hgo 0 (297 + i + 2) (s0 + 6 * i + 12) (by omega) (by omega))
      by_cases c23 : x = (23 : Int32)
      · refine g_tin S0 1607 (23 : Int32) c23 dL_law_44 (by decide) (by decide) rfl (by decide) ?_
        exact lc_23 Z hs23 i hiL hI (297 + i) (s0 + 6 * i) (by omega) (by omega) (hgo 0 (297 + i + 0) (s0 + 6 * i + 0) (by omega) (by omega))
      by_cases c24 : x = (24 : Int32)
      · refine g_tin S0 1620 (24 : Int32) c24 dL_law_44 (by decide) (by decide) rfl (by decide) ?_
        exact lc_24 Z hs24 i hiL hI (297 + i) (s0 + 6 * i) (by omega) (by omega) (hgo 0 (297 + i + 0) (s0 + 6 * i + 0) (by omega) (by omega))
      by_cases c25 : x = (25 : Int32)
      · refine g_tin S0 1633 (25 : Int32) c25 dL_law_44 (by decide) (by decide) rfl (by decide) ?_
        exact lc_25 Z hs25 i hiL hI (297 + i) (s0 + 6 * i) (by omega) (by omega) (hgo 0 (297 + i + 1) (s0 + 6 * i + 6) (by omega) (by omega))
      by_cases c26 : x = (26 : Int32)
      · refine g_tin S0 1677 (26 : Int32) c26 dL_law_44 (by decide) (by decide) rfl (by decide) ?_
        exact lc_26 Z hs26 i hiL hI (297 + i) (s0 + 6 * i) (by omega) (by omega) (hgo 0 (297 + i + 0) (s0 + 6 * i + 0) (by omega) (by omega))
      have e0 : x.toInt ≠ 0 := fun h => c0 (Int32.toInt_inj.mp h)
      have e1 : x.toInt ≠ 1 := fun h => c1 (Int32.toInt_inj.mp h)
      have e2 : x.toInt ≠ 2 := fun h => c2 (Int32.toInt_inj.mp h)
      have e3 : x.toInt ≠ 3 := fun h => c3 (Int32.toInt_inj.mp h)
      have e4 : x.toInt ≠ 4 := fun h => c4 (Int32.toInt_inj.mp h)
      have e5 : x.toInt ≠ 5 := fun h => c5 (Int32.toInt_inj.mp h)
      have e6 : x.toInt ≠ 6 := fun h => c6 (Int32.toInt_inj.mp h)
      have e7 : x.toInt ≠ 7 := fun h => c7 (Int32.toInt_inj.mp h)
      have e8 : x.toInt ≠ 8 := fun h => c8 (Int32.toInt_inj.mp h)
      have e9 : x.toInt ≠ 9 := fun h => c9 (Int32.toInt_inj.mp h)
      have e10 : x.toInt ≠ 10 := fun h => c10 (Int32.toInt_inj.mp h)
      have e11 : x.toInt ≠ 11 := fun h => c11 (Int32.toInt_inj.mp h)
      have e12 : x.toInt ≠ 12 := fun h => c12 (Int32.toInt_inj.mp h)
      have e13 : x.toInt ≠ 13 := fun h => c13 (Int32.toInt_inj.mp h)
      have e14 : x.toInt ≠ 14 := fun h => c14 (Int32.toInt_inj.mp h)
      have e15 : x.toInt ≠ 15 := fun h => c15 (Int32.toInt_inj.mp h)
      have e16 : x.toInt ≠ 16 := fun h => c16 (Int32.toInt_inj.mp h)
      have e17 : x.toInt ≠ 17 := fun h => c17 (Int32.toInt_inj.mp h)
      have e18 : x.toInt ≠ 18 := fun h => c18 (Int32.toInt_inj.mp h)
      have e19 : x.toInt ≠ 19 := fun h => c19 (Int32.toInt_inj.mp h)
      have e20 : x.toInt ≠ 20 := fun h => c20 (Int32.toInt_inj.mp h)
      have e21 : x.toInt ≠ 21 := fun h => c21 (Int32.toInt_inj.mp h)
      have e22 : x.toInt ≠ 22 := fun h => c22 (Int32.toInt_inj.mp h)
      have e23 : x.toInt ≠ 23 := fun h => c23 (Int32.toInt_inj.mp h)
      have e24 : x.toInt ≠ 24 := fun h => c24 (Int32.toInt_inj.mp h)
      have e25 : x.toInt ≠ 25 := fun h => c25 (Int32.toInt_inj.mp h)
      have e26 : x.toInt ≠ 26 := fun h => c26 (Int32.toInt_inj.mp h)
      exact g_tout S0 1691 dL_law_44 (by omega) (by decide) (hgo 0 (297 + i) (s0 + 6 * i) (by omega) (by omega) Mc Mm vo vd hI)
