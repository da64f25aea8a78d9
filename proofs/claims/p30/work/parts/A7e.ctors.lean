/-! 99e.ctors: the constructors of rows, ground, ways, lakes, text, world -/
set_option maxHeartbeats 2000000 in
theorem k_X3 (l : Launch) (Y : Env1) (hG : gY Y = []) (N : Nat) (hN : N ≤ 1000) : Ini l Y yX3_init cX3_init 2 1 1 N [.int (nI N)] (.inr (3, dfl 3)) (zs Y.2.1 (hY Y) [(3, 0), (9, N)]) := by
  refine met_ini (own := RX3) (by decide +kernel) rfl rfl hG (Nat.le_of_ble_eq_true rfl) (fun X S hY1 hl1 hA hs0 hin hAO hret => ?_)
  subst hY1
  subst hl1
  have S0 := S 0 0 (Nat.zero_le _) (Nat.zero_le _)
  have S1 := S 1 N (Nat.le_refl _) (Nat.le_refl _)
  show AG (setX X 0 0) 0 [(0, .ref (hY X.2.1.2)), (1, .int (nI N))] [] (GPw X.2.1.2 [.inr (3, [.null])])
  refine g_aload_n S0 dX3_init_0 0 rfl ?_
  refine i_obj S0 (by decide) zi_44 zi_25 zi_26 (Nat.le_of_ble_eq_true rfl) dX3_init_1 ?_
  refine g_aload_n S0 dX3_init_4 0 rfl ?_
  refine g_iload_n S0 dX3_init_5 1 rfl ?_
  refine g_iconst S0 (0 : Int32) dX3_init_6 rfl ?_
  refine i_mmax S0 zi_45 zi_46 zi_5 zi_47 (by decide) (Nat.le_of_ble_eq_true rfl) dX3_init_7 ?_
  have hnn : ¬ nI N < (0 : Int32) := nI_nlt (a := N) (b := 0) (Nat.zero_le _) (by omega)
  rw [show JM_max (nI N) 0 = nI N from if_neg hnn]
  refine i_narr (X := setX X 0 0) (es := [.inr (3, [.null])]) (atype := .int) (N := N) (cA0 := X.2.1.2.2.1.1) (a0 := (N, .inl (fun _ => 0))) (c1 := 1) (s1 := N) S0 (by decide) (by show (stX X).heap.size + 0 = hY X.2.1.2 + 1; rw [hs0]) zi_52 (S0.2.2.2.2.2.1.2 0 _ rfl).2 (fun _ => rfl) hnn (nI_clamp (by omega)) (by show N * 4 ≤ 536870912; omega) rfl (Nat.zero_add N) (CX_c S1) (CX_s S1) dX3_init_10 ?_
  exact i_put (X := setX X 1 N) (tl := [.inl (X.2.1.2.2.1.1, N, .inl (fun _ => 0))]) S1 hA hin fc3 0 (by decide) zi_48 rfl rfl rfl rfl rfl (by decide) dX3_init_12 (hret _ _ dX3_init_15)

set_option maxHeartbeats 2000000 in
theorem k_X4 (l : Launch) (Y : Env1) (hG : gY Y = []) (N : Nat) (hN : N ≤ 1000) : Ini l Y yX4_init cX4_init 2 1 1 N [.int (nI N)] (.inr (4, dfl 4)) (zs Y.2.1 (hY Y) [(4, 0), (10, N)]) := by
  refine met_ini (own := RX4) (by decide +kernel) rfl rfl hG (Nat.le_of_ble_eq_true rfl) (fun X S hY1 hl1 hA hs0 hin hAO hret => ?_)
  subst hY1
  subst hl1
  have S0 := S 0 0 (Nat.zero_le _) (Nat.zero_le _)
  have S1 := S 1 N (Nat.le_refl _) (Nat.le_refl _)
  show AG (setX X 0 0) 0 [(0, .ref (hY X.2.1.2)), (1, .int (nI N))] [] (GPw X.2.1.2 [.inr (4, [.null])])
  refine g_aload_n S0 dX4_init_0 0 rfl ?_
  refine i_obj S0 (by decide) zi_112 zi_25 zi_26 (Nat.le_of_ble_eq_true rfl) dX4_init_1 ?_
  refine g_aload_n S0 dX4_init_4 0 rfl ?_
  refine g_iload_n S0 dX4_init_5 1 rfl ?_
  refine g_iconst S0 (0 : Int32) dX4_init_6 rfl ?_
  refine i_mmax S0 zi_113 zi_46 zi_5 zi_47 (by decide) (Nat.le_of_ble_eq_true rfl) dX4_init_7 ?_
  have hnn : ¬ nI N < (0 : Int32) := nI_nlt (a := N) (b := 0) (Nat.zero_le _) (by omega)
  rw [show JM_max (nI N) 0 = nI N from if_neg hnn]
  refine i_narr (X := setX X 0 0) (es := [.inr (4, [.null])]) (atype := .long) (N := N) (cA0 := X.2.1.2.2.1.2.1) (a0 := (N, .inr (.inl (fun _ => 0)))) (c1 := 1) (s1 := N) S0 (by decide) (by show (stX X).heap.size + 0 = hY X.2.1.2 + 1; rw [hs0]) zi_118 (S0.2.2.2.2.2.1.2 1 _ rfl).2 (fun _ => rfl) hnn (nI_clamp (by omega)) (by show N * 8 ≤ 536870912; omega) rfl (Nat.zero_add N) (CX_c S1) (CX_s S1) dX4_init_10 ?_
  exact i_put (X := setX X 1 N) (tl := [.inl (X.2.1.2.2.1.2.1, N, .inr (.inl (fun _ => 0)))]) S1 hA hin fc4 0 (by decide) zi_114 rfl rfl rfl rfl rfl (by decide) dX4_init_12 (hret _ _ dX4_init_15)

theorem wdi_X3 : WdI yX3_init cX3_init 2 1 := ⟨zi_43, zi_42, zi_4, by decide +kernel, by decide +kernel, rfl⟩

def lay_X0 : List (Nat × Nat) := [(0, 0), (3, 0), (9, 36), (3, 0), (9, 144), (3, 0), (9, 144), (3, 0), (9, 144), (3, 0), (9, 36)]
set_option maxRecDepth 100000 in
set_option maxHeartbeats 8000000 in
theorem k_X0 (l : Launch) (Y : Env1) (hG : gY Y = []) : Ini l Y yX0_init cX0_init 1 2 10 509 [] (.inr (0, dfl 0)) (zs Y.2.1 (hY Y) lay_X0) := by
  refine met_ini (own := RX0) (by decide +kernel) rfl rfl hG (Nat.le_of_ble_eq_true rfl) (fun X S hY1 hl1 hA hs0 hin hAO hret => ?_)
  subst hY1
  subst hl1
  have S0 := S 0 0 (Nat.zero_le _) (Nat.zero_le _)
  show AG (setX X 0 0) 0 [(0, .ref (hY X.2.1.2))] [] (GPw X.2.1.2 (.inr (0, dfl 0) :: zs X.2.1.2.2.1 (hY X.2.1.2 + 1) []))
  refine g_aload_n S0 dX0_init_0 0 rfl ?_
  refine i_obj S0 (by decide) zi_38 zi_25 zi_26 (Nat.le_of_ble_eq_true rfl) dX0_init_1 ?_
  refine i_sub (c := 0) (s := 0) (G := []) (G2 := [(3, 0), (9, 36)]) (As := [.int (nI 36)]) S hA hs0 hin hAO fc0 fc3 rfl 4 11 4 rfl (by decide) (by decide) (by decide) (fun Y hY9 => k_X3 X.1.2.1 Y hY9 36 (by decide)) wdi_X3 (Or.inl zi_41) (by decide) zi_39 zi_40 zi_4 (fun j hj => by rcases (show j = 0 by omega) with rfl <;> rfl) zi_66 (by decide) rfl rfl rfl (fun _ => rfl) (fun _ => rfl) (Nat.le_of_ble_eq_true rfl) dX0_init_4 dX0_init_5 dX0_init_8 (fun c1 s1 h1 h2 st P h => g_bipush (S c1 s1 h1 h2) (nI 36) dX0_init_9 (by decide +kernel) h) dX0_init_11 dX0_init_14 ?_
  refine i_sub (c := 2) (s := 37) (G := ([] ++ [(3, 0), (9, 36)])) (G2 := [(3, 0), (9, 144)]) (As := [.int (nI 144)]) S hA hs0 hin hAO fc0 fc3 rfl 17 25 5 rfl (by decide) (by decide) (by decide) (fun Y hY9 => k_X3 X.1.2.1 Y hY9 144 (by decide)) wdi_X3 (Or.inl zi_41) (by decide) zi_39 zi_40 zi_4 (fun j hj => by rcases (show j = 0 by omega) with rfl <;> rfl) zi_71 (by decide) rfl rfl rfl (fun _ => rfl) (fun _ => rfl) (Nat.le_of_ble_eq_true rfl) dX0_init_17 dX0_init_18 dX0_init_21 (fun c1 s1 h1 h2 st P h => i_sipush (S c1 s1 h1 h2) (nI 144) dX0_init_22 (by decide +kernel) h) dX0_init_25 dX0_init_28 ?_
  refine i_sub (c := 4) (s := 182) (G := (([] ++ [(3, 0), (9, 36)]) ++ [(3, 0), (9, 144)])) (G2 := [(3, 0), (9, 144)]) (As := [.int (nI 144)]) S hA hs0 hin hAO fc0 fc3 rfl 31 39 6 rfl (by decide) (by decide) (by decide) (fun Y hY9 => k_X3 X.1.2.1 Y hY9 144 (by decide)) wdi_X3 (Or.inl zi_41) (by decide) zi_39 zi_40 zi_4 (fun j hj => by rcases (show j = 0 by omega) with rfl <;> rfl) zi_75 (by decide) rfl rfl rfl (fun _ => rfl) (fun _ => rfl) (Nat.le_of_ble_eq_true rfl) dX0_init_31 dX0_init_32 dX0_init_35 (fun c1 s1 h1 h2 st P h => i_sipush (S c1 s1 h1 h2) (nI 144) dX0_init_36 (by decide +kernel) h) dX0_init_39 dX0_init_42 ?_
  refine i_sub (c := 6) (s := 327) (G := ((([] ++ [(3, 0), (9, 36)]) ++ [(3, 0), (9, 144)]) ++ [(3, 0), (9, 144)])) (G2 := [(3, 0), (9, 144)]) (As := [.int (nI 144)]) S hA hs0 hin hAO fc0 fc3 rfl 45 53 7 rfl (by decide) (by decide) (by decide) (fun Y hY9 => k_X3 X.1.2.1 Y hY9 144 (by decide)) wdi_X3 (Or.inl zi_41) (by decide) zi_39 zi_40 zi_4 (fun j hj => by rcases (show j = 0 by omega) with rfl <;> rfl) zi_76 (by decide) rfl rfl rfl (fun _ => rfl) (fun _ => rfl) (Nat.le_of_ble_eq_true rfl) dX0_init_45 dX0_init_46 dX0_init_49 (fun c1 s1 h1 h2 st P h => i_sipush (S c1 s1 h1 h2) (nI 144) dX0_init_50 (by decide +kernel) h) dX0_init_53 dX0_init_56 ?_
  refine i_sub (c := 8) (s := 472) (G := (((([] ++ [(3, 0), (9, 36)]) ++ [(3, 0), (9, 144)]) ++ [(3, 0), (9, 144)]) ++ [(3, 0), (9, 144)])) (G2 := [(3, 0), (9, 36)]) (As := [.int (nI 36)]) S hA hs0 hin hAO fc0 fc3 rfl 59 66 8 rfl (by decide) (by decide) (by decide) (fun Y hY9 => k_X3 X.1.2.1 Y hY9 36 (by decide)) wdi_X3 (Or.inl zi_41) (by decide) zi_39 zi_40 zi_4 (fun j hj => by rcases (show j = 0 by omega) with rfl <;> rfl) zi_80 (by decide) rfl rfl rfl (fun _ => rfl) (fun _ => rfl) (Nat.le_of_ble_eq_true rfl) dX0_init_59 dX0_init_60 dX0_init_63 (fun c1 s1 h1 h2 st P h => g_bipush (S c1 s1 h1 h2) (nI 36) dX0_init_64 (by decide +kernel) h) dX0_init_66 dX0_init_69 ?_
  have e9 : (.inr (0, zfs (hY X.2.1.2) 0) :: zs X.2.1.2.2.1 (hY X.2.1.2 + 1) ((((([] ++ [(3, 0), (9, 36)]) ++ [(3, 0), (9, 144)]) ++ [(3, 0), (9, 144)]) ++ [(3, 0), (9, 144)]) ++ [(3, 0), (9, 36)]) : List va_E) = zs X.2.1.2.2.1 (hY X.2.1.2) lay_X0 := (zs_cons _ _ (0, 0) ((((([] ++ [(3, 0), (9, 36)]) ++ [(3, 0), (9, 144)]) ++ [(3, 0), (9, 144)]) ++ [(3, 0), (9, 144)]) ++ [(3, 0), (9, 36)])).symm
  have h9 := hret 72 [(0, .ref (hY X.2.1.2))] dX0_init_72
  rw [← e9] at h9
  exact h9

theorem wdi_X4 : WdI yX4_init cX4_init 2 1 := ⟨zi_111, zi_110, zi_7, by decide +kernel, by decide +kernel, rfl⟩

def lay_X5 : List (Nat × Nat) := [(5, 0), (4, 0), (10, 36), (3, 0), (9, 36), (3, 0), (9, 36)]
set_option maxRecDepth 100000 in
set_option maxHeartbeats 8000000 in
theorem k_X5 (l : Launch) (Y : Env1) (hG : gY Y = []) : Ini l Y yX5_init cX5_init 1 2 6 111 [] (.inr (5, dfl 5)) (zs Y.2.1 (hY Y) lay_X5) := by
  refine met_ini (own := RX5) (by decide +kernel) rfl rfl hG (Nat.le_of_ble_eq_true rfl) (fun X S hY1 hl1 hA hs0 hin hAO hret => ?_)
  subst hY1
  subst hl1
  have S0 := S 0 0 (Nat.zero_le _) (Nat.zero_le _)
  show AG (setX X 0 0) 0 [(0, .ref (hY X.2.1.2))] [] (GPw X.2.1.2 (.inr (5, dfl 5) :: zs X.2.1.2.2.1 (hY X.2.1.2 + 1) []))
  refine g_aload_n S0 dX5_init_0 0 rfl ?_
  refine i_obj S0 (by decide) zi_106 zi_25 zi_26 (Nat.le_of_ble_eq_true rfl) dX5_init_1 ?_
  refine i_sub (c := 0) (s := 0) (G := []) (G2 := [(4, 0), (10, 36)]) (As := [.int (nI 36)]) S hA hs0 hin hAO fc5 fc4 rfl 4 11 1 rfl (by decide) (by decide) (by decide) (fun Y hY9 => k_X4 X.1.2.1 Y hY9 36 (by decide)) wdi_X4 (Or.inl zi_109) (by decide) zi_107 zi_108 zi_7 (fun j hj => by rcases (show j = 0 by omega) with rfl <;> rfl) zi_124 (by decide) rfl rfl rfl (fun _ => rfl) (fun _ => rfl) (Nat.le_of_ble_eq_true rfl) dX5_init_4 dX5_init_5 dX5_init_8 (fun c1 s1 h1 h2 st P h => g_bipush (S c1 s1 h1 h2) (nI 36) dX5_init_9 (by decide +kernel) h) dX5_init_11 dX5_init_14 ?_
  refine i_sub (c := 2) (s := 37) (G := ([] ++ [(4, 0), (10, 36)])) (G2 := [(3, 0), (9, 36)]) (As := [.int (nI 36)]) S hA hs0 hin hAO fc5 fc3 rfl 17 24 2 rfl (by decide) (by decide) (by decide) (fun Y hY9 => k_X3 X.1.2.1 Y hY9 36 (by decide)) wdi_X3 (Or.inl zi_120) (by decide) zi_119 zi_40 zi_4 (fun j hj => by rcases (show j = 0 by omega) with rfl <;> rfl) zi_125 (by decide) rfl rfl rfl (fun _ => rfl) (fun _ => rfl) (Nat.le_of_ble_eq_true rfl) dX5_init_17 dX5_init_18 dX5_init_21 (fun c1 s1 h1 h2 st P h => g_bipush (S c1 s1 h1 h2) (nI 36) dX5_init_22 (by decide +kernel) h) dX5_init_24 dX5_init_27 ?_
  refine i_sub (c := 4) (s := 74) (G := (([] ++ [(4, 0), (10, 36)]) ++ [(3, 0), (9, 36)])) (G2 := [(3, 0), (9, 36)]) (As := [.int (nI 36)]) S hA hs0 hin hAO fc5 fc3 rfl 30 37 3 rfl (by decide) (by decide) (by decide) (fun Y hY9 => k_X3 X.1.2.1 Y hY9 36 (by decide)) wdi_X3 (Or.inl zi_120) (by decide) zi_119 zi_40 zi_4 (fun j hj => by rcases (show j = 0 by omega) with rfl <;> rfl) zi_126 (by decide) rfl rfl rfl (fun _ => rfl) (fun _ => rfl) (Nat.le_of_ble_eq_true rfl) dX5_init_30 dX5_init_31 dX5_init_34 (fun c1 s1 h1 h2 st P h => g_bipush (S c1 s1 h1 h2) (nI 36) dX5_init_35 (by decide +kernel) h) dX5_init_37 dX5_init_40 ?_
  have e9 : (.inr (5, zfs (hY X.2.1.2) 5) :: zs X.2.1.2.2.1 (hY X.2.1.2 + 1) ((([] ++ [(4, 0), (10, 36)]) ++ [(3, 0), (9, 36)]) ++ [(3, 0), (9, 36)]) : List va_E) = zs X.2.1.2.2.1 (hY X.2.1.2) lay_X5 := (zs_cons _ _ (5, 0) ((([] ++ [(4, 0), (10, 36)]) ++ [(3, 0), (9, 36)]) ++ [(3, 0), (9, 36)])).symm
  have h9 := hret 43 [(0, .ref (hY X.2.1.2))] dX5_init_43
  rw [← e9] at h9
  exact h9

def lay_X1 : List (Nat × Nat) := [(1, 0), (4, 0), (10, 71), (3, 0), (9, 71), (3, 0), (9, 71), (3, 0), (9, 71), (3, 0), (9, 71), (3, 0), (9, 71), (3, 0), (9, 71), (3, 0), (9, 71), (3, 0), (9, 36), (3, 0), (9, 71), (3, 0), (9, 71)]
set_option maxRecDepth 100000 in
set_option maxHeartbeats 8000000 in
theorem k_X1 (l : Launch) (Y : Env1) (hG : gY Y = []) : Ini l Y yX1_init cX1_init 1 2 22 757 [] (.inr (1, dfl 1)) (zs Y.2.1 (hY Y) lay_X1) := by
  refine met_ini (own := RX1) (by decide +kernel) rfl rfl hG (Nat.le_of_ble_eq_true rfl) (fun X S hY1 hl1 hA hs0 hin hAO hret => ?_)
  subst hY1
  subst hl1
  have S0 := S 0 0 (Nat.zero_le _) (Nat.zero_le _)
  show AG (setX X 0 0) 0 [(0, .ref (hY X.2.1.2))] [] (GPw X.2.1.2 (.inr (1, dfl 1) :: zs X.2.1.2.2.1 (hY X.2.1.2 + 1) []))
  refine g_aload_n S0 dX1_init_0 0 rfl ?_
  refine i_obj S0 (by decide) zi_144 zi_25 zi_26 (Nat.le_of_ble_eq_true rfl) dX1_init_1 ?_
  refine i_sub (c := 0) (s := 0) (G := []) (G2 := [(4, 0), (10, 71)]) (As := [.int (nI 71)]) S hA hs0 hin hAO fc1 fc4 rfl 4 11 0 rfl (by decide) (by decide) (by decide) (fun Y hY9 => k_X4 X.1.2.1 Y hY9 71 (by decide)) wdi_X4 (Or.inl zi_146) (by decide) zi_145 zi_108 zi_7 (fun j hj => by rcases (show j = 0 by omega) with rfl <;> rfl) zi_149 (by decide) rfl rfl rfl (fun _ => rfl) (fun _ => rfl) (Nat.le_of_ble_eq_true rfl) dX1_init_4 dX1_init_5 dX1_init_8 (fun c1 s1 h1 h2 st P h => g_bipush (S c1 s1 h1 h2) (nI 71) dX1_init_9 (by decide +kernel) h) dX1_init_11 dX1_init_14 ?_
  refine i_sub (c := 2) (s := 72) (G := ([] ++ [(4, 0), (10, 71)])) (G2 := [(3, 0), (9, 71)]) (As := [.int (nI 71)]) S hA hs0 hin hAO fc1 fc3 rfl 17 24 1 rfl (by decide) (by decide) (by decide) (fun Y hY9 => k_X3 X.1.2.1 Y hY9 71 (by decide)) wdi_X3 (Or.inl zi_148) (by decide) zi_147 zi_40 zi_4 (fun j hj => by rcases (show j = 0 by omega) with rfl <;> rfl) zi_151 (by decide) rfl rfl rfl (fun _ => rfl) (fun _ => rfl) (Nat.le_of_ble_eq_true rfl) dX1_init_17 dX1_init_18 dX1_init_21 (fun c1 s1 h1 h2 st P h => g_bipush (S c1 s1 h1 h2) (nI 71) dX1_init_22 (by decide +kernel) h) dX1_init_24 dX1_init_27 ?_
  refine i_sub (c := 4) (s := 144) (G := (([] ++ [(4, 0), (10, 71)]) ++ [(3, 0), (9, 71)])) (G2 := [(3, 0), (9, 71)]) (As := [.int (nI 71)]) S hA hs0 hin hAO fc1 fc3 rfl 30 37 2 rfl (by decide) (by decide) (by decide) (fun Y hY9 => k_X3 X.1.2.1 Y hY9 71 (by decide)) wdi_X3 (Or.inl zi_148) (by decide) zi_147 zi_40 zi_4 (fun j hj => by rcases (show j = 0 by omega) with rfl <;> rfl) zi_154 (by decide) rfl rfl rfl (fun _ => rfl) (fun _ => rfl) (Nat.le_of_ble_eq_true rfl) dX1_init_30 dX1_init_31 dX1_init_34 (fun c1 s1 h1 h2 st P h => g_bipush (S c1 s1 h1 h2) (nI 71) dX1_init_35 (by decide +kernel) h) dX1_init_37 dX1_init_40 ?_
  refine i_sub (c := 6) (s := 216) (G := ((([] ++ [(4, 0), (10, 71)]) ++ [(3, 0), (9, 71)]) ++ [(3, 0), (9, 71)])) (G2 := [(3, 0), (9, 71)]) (As := [.int (nI 71)]) S hA hs0 hin hAO fc1 fc3 rfl 43 50 3 rfl (by decide) (by decide) (by decide) (fun Y hY9 => k_X3 X.1.2.1 Y hY9 71 (by decide)) wdi_X3 (Or.inl zi_148) (by decide) zi_147 zi_40 zi_4 (fun j hj => by rcases (show j = 0 by omega) with rfl <;> rfl) zi_156 (by decide) rfl rfl rfl (fun _ => rfl) (fun _ => rfl) (Nat.le_of_ble_eq_true rfl) dX1_init_43 dX1_init_44 dX1_init_47 (fun c1 s1 h1 h2 st P h => g_bipush (S c1 s1 h1 h2) (nI 71) dX1_init_48 (by decide +kernel) h) dX1_init_50 dX1_init_53 ?_
  refine i_sub (c := 8) (s := 288) (G := (((([] ++ [(4, 0), (10, 71)]) ++ [(3, 0), (9, 71)]) ++ [(3, 0), (9, 71)]) ++ [(3, 0), (9, 71)])) (G2 := [(3, 0), (9, 71)]) (As := [.int (nI 71)]) S hA hs0 hin hAO fc1 fc3 rfl 56 63 4 rfl (by decide) (by decide) (by decide) (fun Y hY9 => k_X3 X.1.2.1 Y hY9 71 (by decide)) wdi_X3 (Or.inl zi_148) (by decide) zi_147 zi_40 zi_4 (fun j hj => by rcases (show j = 0 by omega) with rfl <;> rfl) zi_158 (by decide) rfl rfl rfl (fun _ => rfl) (fun _ => rfl) (Nat.le_of_ble_eq_true rfl) dX1_init_56 dX1_init_57 dX1_init_60 (fun c1 s1 h1 h2 st P h => g_bipush (S c1 s1 h1 h2) (nI 71) dX1_init_61 (by decide +kernel) h) dX1_init_63 dX1_init_66 ?_
  refine i_sub (c := 10) (s := 360) (G := ((((([] ++ [(4, 0), (10, 71)]) ++ [(3, 0), (9, 71)]) ++ [(3, 0), (9, 71)]) ++ [(3, 0), (9, 71)]) ++ [(3, 0), (9, 71)])) (G2 := [(3, 0), (9, 71)]) (As := [.int (nI 71)]) S hA hs0 hin hAO fc1 fc3 rfl 69 76 5 rfl (by decide) (by decide) (by decide) (fun Y hY9 => k_X3 X.1.2.1 Y hY9 71 (by decide)) wdi_X3 (Or.inl zi_148) (by decide) zi_147 zi_40 zi_4 (fun j hj => by rcases (show j = 0 by omega) with rfl <;> rfl) zi_160 (by decide) rfl rfl rfl (fun _ => rfl) (fun _ => rfl) (Nat.le_of_ble_eq_true rfl) dX1_init_69 dX1_init_70 dX1_init_73 (fun c1 s1 h1 h2 st P h => g_bipush (S c1 s1 h1 h2) (nI 71) dX1_init_74 (by decide +kernel) h) dX1_init_76 dX1_init_79 ?_
  refine i_sub (c := 12) (s := 432) (G := (((((([] ++ [(4, 0), (10, 71)]) ++ [(3, 0), (9, 71)]) ++ [(3, 0), (9, 71)]) ++ [(3, 0), (9, 71)]) ++ [(3, 0), (9, 71)]) ++ [(3, 0), (9, 71)])) (G2 := [(3, 0), (9, 71)]) (As := [.int (nI 71)]) S hA hs0 hin hAO fc1 fc3 rfl 82 89 6 rfl (by decide) (by decide) (by decide) (fun Y hY9 => k_X3 X.1.2.1 Y hY9 71 (by decide)) wdi_X3 (Or.inl zi_148) (by decide) zi_147 zi_40 zi_4 (fun j hj => by rcases (show j = 0 by omega) with rfl <;> rfl) zi_162 (by decide) rfl rfl rfl (fun _ => rfl) (fun _ => rfl) (Nat.le_of_ble_eq_true rfl) dX1_init_82 dX1_init_83 dX1_init_86 (fun c1 s1 h1 h2 st P h => g_bipush (S c1 s1 h1 h2) (nI 71) dX1_init_87 (by decide +kernel) h) dX1_init_89 dX1_init_92 ?_
  refine i_sub (c := 14) (s := 504) (G := ((((((([] ++ [(4, 0), (10, 71)]) ++ [(3, 0), (9, 71)]) ++ [(3, 0), (9, 71)]) ++ [(3, 0), (9, 71)]) ++ [(3, 0), (9, 71)]) ++ [(3, 0), (9, 71)]) ++ [(3, 0), (9, 71)])) (G2 := [(3, 0), (9, 71)]) (As := [.int (nI 71)]) S hA hs0 hin hAO fc1 fc3 rfl 95 102 7 rfl (by decide) (by decide) (by decide) (fun Y hY9 => k_X3 X.1.2.1 Y hY9 71 (by decide)) wdi_X3 (Or.inl zi_148) (by decide) zi_147 zi_40 zi_4 (fun j hj => by rcases (show j = 0 by omega) with rfl <;> rfl) zi_163 (by decide) rfl rfl rfl (fun _ => rfl) (fun _ => rfl) (Nat.le_of_ble_eq_true rfl) dX1_init_95 dX1_init_96 dX1_init_99 (fun c1 s1 h1 h2 st P h => g_bipush (S c1 s1 h1 h2) (nI 71) dX1_init_100 (by decide +kernel) h) dX1_init_102 dX1_init_105 ?_
  refine i_sub (c := 16) (s := 576) (G := (((((((([] ++ [(4, 0), (10, 71)]) ++ [(3, 0), (9, 71)]) ++ [(3, 0), (9, 71)]) ++ [(3, 0), (9, 71)]) ++ [(3, 0), (9, 71)]) ++ [(3, 0), (9, 71)]) ++ [(3, 0), (9, 71)]) ++ [(3, 0), (9, 71)])) (G2 := [(3, 0), (9, 36)]) (As := [.int (nI 36)]) S hA hs0 hin hAO fc1 fc3 rfl 108 115 8 rfl (by decide) (by decide) (by decide) (fun Y hY9 => k_X3 X.1.2.1 Y hY9 36 (by decide)) wdi_X3 (Or.inl zi_148) (by decide) zi_147 zi_40 zi_4 (fun j hj => by rcases (show j = 0 by omega) with rfl <;> rfl) zi_164 (by decide) rfl rfl rfl (fun _ => rfl) (fun _ => rfl) (Nat.le_of_ble_eq_true rfl) dX1_init_108 dX1_init_109 dX1_init_112 (fun c1 s1 h1 h2 st P h => g_bipush (S c1 s1 h1 h2) (nI 36) dX1_init_113 (by decide +kernel) h) dX1_init_115 dX1_init_118 ?_
  refine i_sub (c := 18) (s := 613) (G := ((((((((([] ++ [(4, 0), (10, 71)]) ++ [(3, 0), (9, 71)]) ++ [(3, 0), (9, 71)]) ++ [(3, 0), (9, 71)]) ++ [(3, 0), (9, 71)]) ++ [(3, 0), (9, 71)]) ++ [(3, 0), (9, 71)]) ++ [(3, 0), (9, 71)]) ++ [(3, 0), (9, 36)])) (G2 := [(3, 0), (9, 71)]) (As := [.int (nI 71)]) S hA hs0 hin hAO fc1 fc3 rfl 121 128 9 rfl (by decide) (by decide) (by decide) (fun Y hY9 => k_X3 X.1.2.1 Y hY9 71 (by decide)) wdi_X3 (Or.inl zi_148) (by decide) zi_147 zi_40 zi_4 (fun j hj => by rcases (show j = 0 by omega) with rfl <;> rfl) zi_167 (by decide) rfl rfl rfl (fun _ => rfl) (fun _ => rfl) (Nat.le_of_ble_eq_true rfl) dX1_init_121 dX1_init_122 dX1_init_125 (fun c1 s1 h1 h2 st P h => g_bipush (S c1 s1 h1 h2) (nI 71) dX1_init_126 (by decide +kernel) h) dX1_init_128 dX1_init_131 ?_
  refine i_sub (c := 20) (s := 685) (G := (((((((((([] ++ [(4, 0), (10, 71)]) ++ [(3, 0), (9, 71)]) ++ [(3, 0), (9, 71)]) ++ [(3, 0), (9, 71)]) ++ [(3, 0), (9, 71)]) ++ [(3, 0), (9, 71)]) ++ [(3, 0), (9, 71)]) ++ [(3, 0), (9, 71)]) ++ [(3, 0), (9, 36)]) ++ [(3, 0), (9, 71)])) (G2 := [(3, 0), (9, 71)]) (As := [.int (nI 71)]) S hA hs0 hin hAO fc1 fc3 rfl 134 141 10 rfl (by decide) (by decide) (by decide) (fun Y hY9 => k_X3 X.1.2.1 Y hY9 71 (by decide)) wdi_X3 (Or.inl zi_148) (by decide) zi_147 zi_40 zi_4 (fun j hj => by rcases (show j = 0 by omega) with rfl <;> rfl) zi_168 (by decide) rfl rfl rfl (fun _ => rfl) (fun _ => rfl) (Nat.le_of_ble_eq_true rfl) dX1_init_134 dX1_init_135 dX1_init_138 (fun c1 s1 h1 h2 st P h => g_bipush (S c1 s1 h1 h2) (nI 71) dX1_init_139 (by decide +kernel) h) dX1_init_141 dX1_init_144 ?_
  have e9 : (.inr (1, zfs (hY X.2.1.2) 1) :: zs X.2.1.2.2.1 (hY X.2.1.2 + 1) ((((((((((([] ++ [(4, 0), (10, 71)]) ++ [(3, 0), (9, 71)]) ++ [(3, 0), (9, 71)]) ++ [(3, 0), (9, 71)]) ++ [(3, 0), (9, 71)]) ++ [(3, 0), (9, 71)]) ++ [(3, 0), (9, 71)]) ++ [(3, 0), (9, 71)]) ++ [(3, 0), (9, 36)]) ++ [(3, 0), (9, 71)]) ++ [(3, 0), (9, 71)]) : List va_E) = zs X.2.1.2.2.1 (hY X.2.1.2) lay_X1 := (zs_cons _ _ (1, 0) ((((((((((([] ++ [(4, 0), (10, 71)]) ++ [(3, 0), (9, 71)]) ++ [(3, 0), (9, 71)]) ++ [(3, 0), (9, 71)]) ++ [(3, 0), (9, 71)]) ++ [(3, 0), (9, 71)]) ++ [(3, 0), (9, 71)]) ++ [(3, 0), (9, 71)]) ++ [(3, 0), (9, 36)]) ++ [(3, 0), (9, 71)]) ++ [(3, 0), (9, 71)])).symm
  have h9 := hret 147 [(0, .ref (hY X.2.1.2))] dX1_init_147
  rw [← e9] at h9
  exact h9

def lay_X2 : List (Nat × Nat) := [(2, 0), (3, 0), (9, 150)]
set_option maxRecDepth 100000 in
set_option maxHeartbeats 8000000 in
theorem k_X2 (l : Launch) (Y : Env1) (hG : gY Y = []) : Ini l Y yX2_init cX2_init 1 2 2 151 [] (.inr (2, dfl 2)) (zs Y.2.1 (hY Y) lay_X2) := by
  refine met_ini (own := RX2) (by decide +kernel) rfl rfl hG (Nat.le_of_ble_eq_true rfl) (fun X S hY1 hl1 hA hs0 hin hAO hret => ?_)
  subst hY1
  subst hl1
  have S0 := S 0 0 (Nat.zero_le _) (Nat.zero_le _)
  show AG (setX X 0 0) 0 [(0, .ref (hY X.2.1.2))] [] (GPw X.2.1.2 (.inr (2, dfl 2) :: zs X.2.1.2.2.1 (hY X.2.1.2 + 1) []))
  refine g_aload_n S0 dX2_init_0 0 rfl ?_
  refine i_obj S0 (by decide) zi_234 zi_25 zi_26 (Nat.le_of_ble_eq_true rfl) dX2_init_1 ?_
  refine i_sub (c := 0) (s := 0) (G := []) (G2 := [(3, 0), (9, 150)]) (As := [.int (nI 150)]) S hA hs0 hin hAO fc2 fc3 rfl 4 12 0 rfl (by decide) (by decide) (by decide) (fun Y hY9 => k_X3 X.1.2.1 Y hY9 150 (by decide)) wdi_X3 (Or.inl zi_236) (by decide) zi_235 zi_40 zi_4 (fun j hj => by rcases (show j = 0 by omega) with rfl <;> rfl) zi_237 (by decide) rfl rfl rfl (fun _ => rfl) (fun _ => rfl) (Nat.le_of_ble_eq_true rfl) dX2_init_4 dX2_init_5 dX2_init_8 (fun c1 s1 h1 h2 st P h => i_sipush (S c1 s1 h1 h2) (nI 150) dX2_init_9 (by decide +kernel) h) dX2_init_12 dX2_init_15 ?_
  have e9 : (.inr (2, zfs (hY X.2.1.2) 2) :: zs X.2.1.2.2.1 (hY X.2.1.2 + 1) ([] ++ [(3, 0), (9, 150)]) : List va_E) = zs X.2.1.2.2.1 (hY X.2.1.2) lay_X2 := (zs_cons _ _ (2, 0) ([] ++ [(3, 0), (9, 150)])).symm
  have h9 := hret 18 [(0, .ref (hY X.2.1.2))] dX2_init_18
  rw [← e9] at h9
  exact h9

theorem wdi_X0 : WdI yX0_init cX0_init 1 0 := ⟨zi_37, zi_36, zi_3, by decide +kernel, by decide +kernel, rfl⟩

theorem wdi_X5 : WdI yX5_init cX5_init 1 0 := ⟨zi_105, zi_104, zi_6, by decide +kernel, by decide +kernel, rfl⟩

theorem wdi_X1 : WdI yX1_init cX1_init 1 0 := ⟨zi_143, zi_142, zi_8, by decide +kernel, by decide +kernel, rfl⟩

def lay_X6 : List (Nat × Nat) := [(6, 0), (0, 0), (3, 0), (9, 36), (3, 0), (9, 144), (3, 0), (9, 144), (3, 0), (9, 144), (3, 0), (9, 36), (5, 0), (4, 0), (10, 36), (3, 0), (9, 36), (3, 0), (9, 36), (1, 0), (4, 0), (10, 71), (3, 0), (9, 71), (3, 0), (9, 71), (3, 0), (9, 71), (3, 0), (9, 71), (3, 0), (9, 71), (3, 0), (9, 71), (3, 0), (9, 71), (3, 0), (9, 36), (3, 0), (9, 71), (3, 0), (9, 71), (3, 0), (9, 36), (3, 0), (9, 36)]
set_option maxRecDepth 100000 in
set_option maxHeartbeats 8000000 in
theorem k_X6 (l : Launch) (Y : Env1) (hG : gY Y = []) : Ini l Y yX6_init cX6_init 1 3 45 1475 [] (.inr (6, dfl 6)) (zs Y.2.1 (hY Y) lay_X6) := by
  refine met_ini (own := RX6) (by decide +kernel) rfl rfl hG (Nat.le_of_ble_eq_true rfl) (fun X S hY1 hl1 hA hs0 hin hAO hret => ?_)
  subst hY1
  subst hl1
  have S0 := S 0 0 (Nat.zero_le _) (Nat.zero_le _)
  show AG (setX X 0 0) 0 [(0, .ref (hY X.2.1.2))] [] (GPw X.2.1.2 (.inr (6, dfl 6) :: zs X.2.1.2.2.1 (hY X.2.1.2 + 1) []))
  refine g_aload_n S0 dX6_init_0 0 rfl ?_
  refine i_obj S0 (by decide) zi_32 zi_25 zi_26 (Nat.le_of_ble_eq_true rfl) dX6_init_1 ?_
  refine i_sub (c := 0) (s := 0) (G := []) (G2 := lay_X0) (As := []) S hA hs0 hin hAO fc6 fc0 rfl 4 9 0 rfl (by decide) (by decide) (by decide) (fun Y hY9 => k_X0 X.1.2.1 Y hY9) wdi_X0 (Or.inr ⟨_, zi_35⟩) (by decide) zi_33 zi_34 zi_3 (fun j hj => by rcases (show j = 0 ∨ j = 1 ∨ j = 2 ∨ j = 3 ∨ j = 4 ∨ j = 5 ∨ j = 6 ∨ j = 7 ∨ j = 8 by omega) with rfl | rfl | rfl | rfl | rfl | rfl | rfl | rfl | rfl <;> rfl) zi_194 (by decide) rfl rfl rfl (fun _ => rfl) (fun _ => rfl) (Nat.le_of_ble_eq_true rfl) dX6_init_4 dX6_init_5 dX6_init_8 (fun c1 s1 h1 h2 st P h => h) dX6_init_9 dX6_init_12 ?_
  refine i_sub (c := 11) (s := 518) (G := ([] ++ lay_X0)) (G2 := lay_X5) (As := []) S hA hs0 hin hAO fc6 fc5 rfl 15 20 1 rfl (by decide) (by decide) (by decide) (fun Y hY9 => k_X5 X.1.2.1 Y hY9) wdi_X5 (Or.inr ⟨_, zi_103⟩) (by decide) zi_101 zi_102 zi_6 (fun j hj => by rcases (show j = 0 ∨ j = 1 ∨ j = 2 ∨ j = 3 by omega) with rfl | rfl | rfl | rfl <;> rfl) zi_196 (by decide) rfl rfl rfl (fun _ => rfl) (fun _ => rfl) (Nat.le_of_ble_eq_true rfl) dX6_init_15 dX6_init_16 dX6_init_19 (fun c1 s1 h1 h2 st P h => h) dX6_init_20 dX6_init_23 ?_
  refine i_sub (c := 18) (s := 633) (G := (([] ++ lay_X0) ++ lay_X5)) (G2 := lay_X1) (As := []) S hA hs0 hin hAO fc6 fc1 rfl 26 31 2 rfl (by decide) (by decide) (by decide) (fun Y hY9 => k_X1 X.1.2.1 Y hY9) wdi_X1 (Or.inr ⟨_, zi_141⟩) (by decide) zi_139 zi_140 zi_8 (fun j hj => by rcases (show j = 0 ∨ j = 1 ∨ j = 2 ∨ j = 3 ∨ j = 4 ∨ j = 5 ∨ j = 6 ∨ j = 7 ∨ j = 8 ∨ j = 9 ∨ j = 10 by omega) with rfl | rfl | rfl | rfl | rfl | rfl | rfl | rfl | rfl | rfl | rfl <;> rfl) zi_198 (by decide) rfl rfl rfl (fun _ => rfl) (fun _ => rfl) (Nat.le_of_ble_eq_true rfl) dX6_init_26 dX6_init_27 dX6_init_30 (fun c1 s1 h1 h2 st P h => h) dX6_init_31 dX6_init_34 ?_
  refine i_sub (c := 41) (s := 1401) (G := ((([] ++ lay_X0) ++ lay_X5) ++ lay_X1)) (G2 := [(3, 0), (9, 36)]) (As := [.int (nI 36)]) S hA hs0 hin hAO fc6 fc3 rfl 37 44 6 rfl (by decide) (by decide) (by decide) (fun Y hY9 => k_X3 X.1.2.1 Y hY9 36 (by decide)) wdi_X3 (Or.inl zi_193) (by decide) zi_192 zi_40 zi_4 (fun j hj => by rcases (show j = 0 by omega) with rfl <;> rfl) zi_206 (by decide) rfl rfl rfl (fun _ => rfl) (fun _ => rfl) (Nat.le_of_ble_eq_true rfl) dX6_init_37 dX6_init_38 dX6_init_41 (fun c1 s1 h1 h2 st P h => g_bipush (S c1 s1 h1 h2) (nI 36) dX6_init_42 (by decide +kernel) h) dX6_init_44 dX6_init_47 ?_
  refine i_sub (c := 43) (s := 1438) (G := (((([] ++ lay_X0) ++ lay_X5) ++ lay_X1) ++ [(3, 0), (9, 36)])) (G2 := [(3, 0), (9, 36)]) (As := [.int (nI 36)]) S hA hs0 hin hAO fc6 fc3 rfl 50 57 7 rfl (by decide) (by decide) (by decide) (fun Y hY9 => k_X3 X.1.2.1 Y hY9 36 (by decide)) wdi_X3 (Or.inl zi_193) (by decide) zi_192 zi_40 zi_4 (fun j hj => by rcases (show j = 0 by omega) with rfl <;> rfl) zi_207 (by decide) rfl rfl rfl (fun _ => rfl) (fun _ => rfl) (Nat.le_of_ble_eq_true rfl) dX6_init_50 dX6_init_51 dX6_init_54 (fun c1 s1 h1 h2 st P h => g_bipush (S c1 s1 h1 h2) (nI 36) dX6_init_55 (by decide +kernel) h) dX6_init_57 dX6_init_60 ?_
  have e9 : (.inr (6, zfs (hY X.2.1.2) 6) :: zs X.2.1.2.2.1 (hY X.2.1.2 + 1) ((((([] ++ lay_X0) ++ lay_X5) ++ lay_X1) ++ [(3, 0), (9, 36)]) ++ [(3, 0), (9, 36)]) : List va_E) = zs X.2.1.2.2.1 (hY X.2.1.2) lay_X6 := (zs_cons _ _ (6, 0) ((((([] ++ lay_X0) ++ lay_X5) ++ lay_X1) ++ [(3, 0), (9, 36)]) ++ [(3, 0), (9, 36)])).symm
  have h9 := hret 63 [(0, .ref (hY X.2.1.2))] dX6_init_63
  rw [← e9] at h9
  exact h9

theorem wdi_X6 : WdI yX6_init cX6_init 1 0 := ⟨zi_31, zi_30, zi_2, by decide +kernel, by decide +kernel, rfl⟩

theorem wdi_X2 : WdI yX2_init cX2_init 1 0 := ⟨zi_233, zi_232, zi_9, by decide +kernel, by decide +kernel, rfl⟩

