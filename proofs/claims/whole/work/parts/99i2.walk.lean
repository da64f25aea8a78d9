/-! 99i2.walk: the walk up to the loop -/
set_option maxHeartbeats 1000000 in
theorem w_a {X : Cx} (S : ∀ c1 s1, c1 ≤ 601024 → s1 ≤ 7293034 → CX (setX X c1 s1) cL_law RL 9 12 gC) (hA : X.2.1.1 = fun q => hY X.2.1.2 ≤ q) (hs0 : (stX X).heap.size = hY X.2.1.2) (hAO : va_AO RX6 (stX X)) {b : Nat} {sub : List va_E} (kI : ∀ Y : Env1, gY Y = [] → hY Y = hY X.2.1.2 → Y.1 = X.2.1.2.1 → Y.2.1 = X.2.1.2.2.1 → Ini X.1.2.1 Y yX7_init cX7_init 2 6 280 9063 [] (.inr (7, dfl 7)) sub)
    (k9 : AG (setX X 281 9069) 8 [(1, .ref (hY X.2.1.2)), (0, .ref b)] [] (GPw X.2.1.2 ([] ++ sub))) : AG (setX X 0 0) 0 [(0, .ref b)] [] (fun H => H = (stX X).heap) := by
  have S0 := S 0 0 (Nat.le_of_ble_eq_true rfl) (Nat.le_of_ble_eq_true rfl)
  have S1 := S 1 6 (Nat.le_of_ble_eq_true rfl) (Nat.le_of_ble_eq_true rfl)
  have S2 := S 281 9069 (Nat.le_of_ble_eq_true rfl) (Nat.le_of_ble_eq_true rfl)
  refine i_new0 (X := setX X 0 0) (fs := dfl 7) (c1 := 1) (s1 := 6) S0 fc7 hs0 zi_20 zi_21 zi_1 (fun j hj => by rcases (show j = 0 ∨ j = 1 ∨ j = 2 ∨ j = 3 ∨ j = 4 ∨ j = 5 by omega) with rfl | rfl | rfl | rfl | rfl | rfl <;> rfl) rfl rfl (CX_c S1) (CX_s S1) dL_law_0 ?_
  refine g_dup S1 dL_law_3 rfl ?_
  refine i_call (X := setX X 1 6) (es := []) (sub := sub) (c1 := 281) (s1 := 9069) (As := []) (rest := [.ref (hY X.2.1.2)]) S1 (fun q h => by show X.2.1.1 q; rw [hA]; exact h) hAO (by show (stX X).heap.size + 1 = hY X.2.1.2 + 0 + 1; rw [hs0]) (kI _ rfl rfl rfl rfl) wdi_X7 (Or.inl zi_22) (by decide) (by show 1 + 280 = 281; decide) (by show 6 + 9063 = 9069; decide) (CX_c S2) (CX_s S2) rfl (Nat.le_of_ble_eq_true rfl) dL_law_4 ?_
  exact g_astore_n (lv2 := [(1, .ref (hY X.2.1.2)), (0, .ref b)]) S2 dL_law_7 (by decide) rfl k9
set_option maxHeartbeats 1000000 in
theorem w_b {X : Cx} (S : ∀ c1 s1, c1 ≤ 601024 → s1 ≤ 7293034 → CX (setX X c1 s1) cL_law RL 9 12 gC) (hA : X.2.1.1 = fun q => hY X.2.1.2 ≤ q) (hs0 : (stX X).heap.size = hY X.2.1.2) (hAO : va_AO RX6 (stX X)) {b : Nat} {A sub : List va_E} (hl1 : A.length = 281) (kI : ∀ Y : Env1, gY Y = [] → hY Y = hY X.2.1.2 + A.length → Y.1 = X.2.1.2.1 → Y.2.1 = X.2.1.2.2.1 → Ini X.1.2.1 Y yX8_init cX8_init 1 9 13 3624 [] (.inr (8, dfl 8)) sub)
    (k9 : AG (setX X 295 12718) 16 [(2, .ref (hY X.2.1.2 + 281)), (1, .ref (hY X.2.1.2)), (0, .ref b)] [] (GPw X.2.1.2 (A ++ sub))) : AG (setX X 281 9069) 8 [(1, .ref (hY X.2.1.2)), (0, .ref b)] [] (GPw X.2.1.2 A) := by
  have S2 := S 281 9069 (Nat.le_of_ble_eq_true rfl) (Nat.le_of_ble_eq_true rfl)
  have S3 := S 282 9094 (Nat.le_of_ble_eq_true rfl) (Nat.le_of_ble_eq_true rfl)
  have S4 := S 295 12718 (Nat.le_of_ble_eq_true rfl) (Nat.le_of_ble_eq_true rfl)
  refine i_new (X := setX X 281 9069) (es := A) (fs := dfl 8) (c1 := 282) (s1 := 9094) S2 fc8 (by rw [hl1]; decide) (by show (stX X).heap.size + 281 = hY X.2.1.2 + A.length; rw [hl1, hs0]) zi_989 zi_990 zi_13 (fun j hj => by rcases (show j = 0 ∨ j = 1 ∨ j = 2 ∨ j = 3 ∨ j = 4 ∨ j = 5 ∨ j = 6 ∨ j = 7 ∨ j = 8 ∨ j = 9 ∨ j = 10 ∨ j = 11 ∨ j = 12 ∨ j = 13 ∨ j = 14 ∨ j = 15 ∨ j = 16 ∨ j = 17 ∨ j = 18 ∨ j = 19 ∨ j = 20 ∨ j = 21 ∨ j = 22 ∨ j = 23 ∨ j = 24 by omega) with rfl | rfl | rfl | rfl | rfl | rfl | rfl | rfl | rfl | rfl | rfl | rfl | rfl | rfl | rfl | rfl | rfl | rfl | rfl | rfl | rfl | rfl | rfl | rfl | rfl <;> rfl) (by show 281 + 1 = 282; decide) (by show 9069 + 25 = 9094; decide) (CX_c S3) (CX_s S3) dL_law_8 ?_
  refine g_dup S3 dL_law_11 rfl ?_
  refine i_call (X := setX X 282 9094) (es := A) (sub := sub) (c1 := 295) (s1 := 12718) (As := []) (rest := [.ref (hY X.2.1.2 + A.length)]) S3 (fun q h => by show X.2.1.1 q; rw [hA]; exact h) hAO (by show (stX X).heap.size + 282 = hY X.2.1.2 + A.length + 1; rw [hl1, hs0]) (kI _ rfl rfl rfl rfl) wdi_X8 (Or.inl zi_991) (by decide) (by show 282 + 13 = 295; decide) (by show 9094 + 3624 = 12718; decide) (CX_c S4) (CX_s S4) rfl (Nat.le_of_ble_eq_true rfl) dL_law_12 ?_
  rw [hl1]
  exact g_astore_n (lv2 := [(2, .ref (hY X.2.1.2 + 281)), (1, .ref (hY X.2.1.2)), (0, .ref b)]) S4 dL_law_15 (by decide) rfl k9
set_option maxHeartbeats 1000000 in
theorem w_c {X : Cx} (S : ∀ c1 s1, c1 ≤ 601024 → s1 ≤ 7293034 → CX (setX X c1 s1) cL_law RL 9 12 gC) (hs0 : (stX X).heap.size = hY X.2.1.2) {b : Nat} {A : List va_E} (hl1 : A.length = 295) {cD : ClassId} (hKd : va_K X.2.1.2.1 vwCl [(cD, .double)] (stX X))
    (k9 : AG (setX X 297 12720) 28 [(5, .int (0 : Int32)), (4, .ref (hY X.2.1.2 + 296)), (3, .ref (hY X.2.1.2 + 295)), (2, .ref (hY X.2.1.2 + 281)), (1, .ref (hY X.2.1.2)), (0, .ref b)] [] (GPw X.2.1.2 ((A ++ [.inl (X.2.1.2.2.1.2.1, 1, .inr (.inl (fun _ => 0)))]) ++ [.inl (cD, 1, .inr (.inr (.inr (.inl (fun _ => 0)))))]))) : AG (setX X 295 12718) 16 [(2, .ref (hY X.2.1.2 + 281)), (1, .ref (hY X.2.1.2)), (0, .ref b)] [] (GPw X.2.1.2 A) := by
  have S4 := S 295 12718 (Nat.le_of_ble_eq_true rfl) (Nat.le_of_ble_eq_true rfl)
  have S5 := S 296 12719 (Nat.le_of_ble_eq_true rfl) (Nat.le_of_ble_eq_true rfl)
  have S6 := S 297 12720 (Nat.le_of_ble_eq_true rfl) (Nat.le_of_ble_eq_true rfl)
  have hl2 : (A ++ [.inl (X.2.1.2.2.1.2.1, 1, .inr (.inl (fun _ => 0)))] : List va_E).length = 296 := by rw [List.length_append, hl1]; rfl
  refine g_iconst S4 (1 : Int32) dL_law_16 rfl ?_
  refine i_narr (X := setX X 295 12718) (es := A) (atype := .long) (nv := (1 : Int32)) (N := 1) (cA0 := X.2.1.2.2.1.2.1) (a0 := (1, .inr (.inl (fun _ => 0)))) (c1 := 296) (s1 := 12719) S4 (by rw [hl1]; decide) (by show (stX X).heap.size + 295 = hY X.2.1.2 + A.length; rw [hl1, hs0]) zi_120 (S4.2.2.2.2.2.1.2 1 _ rfl).2 (fun _ => rfl) (by decide) (by decide) (by decide) (by show 295 + 1 = 296; decide) (by show 12718 + 1 = 12719; decide) (CX_c S5) (CX_s S5) dL_law_17 ?_
  rw [hl1]
  refine g_astore_n (lv2 := [(3, .ref (hY X.2.1.2 + 295)), (2, .ref (hY X.2.1.2 + 281)), (1, .ref (hY X.2.1.2)), (0, .ref b)]) S5 dL_law_19 (by decide) rfl ?_
  refine g_iconst S5 (1 : Int32) dL_law_20 rfl ?_
  refine i_narr (X := setX X 296 12719) (es := A ++ [.inl (X.2.1.2.2.1.2.1, 1, .inr (.inl (fun _ => 0)))]) (atype := .double) (nv := (1 : Int32)) (N := 1) (cA0 := cD) (a0 := (1, .inr (.inr (.inr (.inl (fun _ => 0)))))) (c1 := 297) (s1 := 12720) S5 (by rw [hl2]; decide) (by show (stX X).heap.size + 296 = hY X.2.1.2 + _; rw [hl2, hs0]) zi_1452 (hKd.2 0 _ rfl).2 (fun _ => rfl) (by decide) (by decide) (by decide) (by show 296 + 1 = 297; decide) (by show 12719 + 1 = 12720; decide) (CX_c S6) (CX_s S6) dL_law_21 ?_
  rw [hl2]
  refine g_astore (lv2 := [(4, .ref (hY X.2.1.2 + 296)), (3, .ref (hY X.2.1.2 + 295)), (2, .ref (hY X.2.1.2 + 281)), (1, .ref (hY X.2.1.2)), (0, .ref b)]) S6 dL_law_23 (by decide) rfl ?_
  refine g_iconst S6 (0 : Int32) dL_law_25 rfl ?_
  exact g_istore (lv2 := [(5, .int (0 : Int32)), (4, .ref (hY X.2.1.2 + 296)), (3, .ref (hY X.2.1.2 + 295)), (2, .ref (hY X.2.1.2 + 281)), (1, .ref (hY X.2.1.2)), (0, .ref b)]) S6 dL_law_26 (by decide) rfl k9
theorem Ini_at {l : Launch} {Y Y2 : Env1} {y : MethodName} {b : ByteArray} {mL lev mc ms : Nat} {As : List Value} {e : va_E} {sub : List va_E} (h1 : Y.1 = Y2.1) (h2 : Y.2.1 = Y2.2.1) (h3 : hY Y = hY Y2) (h4 : gY Y = []) (h : Ini l (Y2.1, Y2.2.1, [], hY Y2) y b mL lev mc ms As e sub) : Ini l Y y b mL lev mc ms As e sub := by
  obtain ⟨D, T3, G, q⟩ := Y
  obtain rfl : D = Y2.1 := h1
  obtain rfl : T3 = Y2.2.1 := h2
  obtain rfl : q = hY Y2 := h3
  obtain rfl : G = [] := h4
  exact h
set_option maxHeartbeats 1000000 in
/-- the whole walk, from the entry, over what is known of the context -/
theorem w_all {X : Cx} {b L : Nat} {xs : Nat → Int32} {cD : ClassId} (Z : LX X b L xs cD) (hAO : va_AO RX6 (stX X))
    (fin : ∀ (c1 s1 i : Nat) (Mc Mm : Mem) (vo : Nat → Int64) (vd : Nat → UInt64), c1 ≤ 601024 → s1 ≤ 7293034 → AG (setX X c1 s1) 1697 [(0, .ref b), (1, .ref (hY X.2.1.2 + 0)), (2, .ref (hY X.2.1.2 + 281 + 0)), (3, .ref (hY X.2.1.2 + 295)), (4, .ref (hY X.2.1.2 + 296)), (5, .int (nI i))] [] (LWP X.2.1.2 cD Mc Mm vo vd)) :
    AG (setX X 0 0) 0 [(0, .ref b)] [] (fun H => H = (stX X).heap) := by
  obtain ⟨Ma, M1, M2, h1, h2, h3, hI⟩ := Inv_start
  have hL := Z.2.2.2.2.2.1
  have hG := Z.G
  have loop := law_loop Z sim_all 12720 (Nat.le_of_ble_eq_true rfl) fin (L + 1) 0 (by omega) (by omega) M1 M2 (fun _ => 0) (fun _ => 0) hI
  have lA : (cellsY X.2.1.2 M1).length = 281 := by rw [cellsY_len, hG]; decide +kernel
  have lB : (cellsY (YM X.2.1.2) M2).length = 14 := by rw [cellsY_len]; show gM.length = 14; decide +kernel
  have eY : (X.2.1.2.1, X.2.1.2.2.1, gC, hY X.2.1.2) = X.2.1.2 := by rw [← hG]; rfl
  refine w_a Z.1 Z.2.1 Z.2.2.1 hAO (sub := cellsY X.2.1.2 M1) (fun Y g1 g2 g3 g4 => ?_) ?_
  · have k := k_X7 X.1.2.1 (X.2.1.2.1, X.2.1.2.2.1, [], hY X.2.1.2) rfl Ma M1 h1 h2
    have e : cellsY (X.2.1.2.1, X.2.1.2.2.1, gC, hY X.2.1.2) M1 = cellsY X.2.1.2 M1 := by rw [eY]
    have k' : Ini X.1.2.1 (X.2.1.2.1, X.2.1.2.2.1, [], hY X.2.1.2) yX7_init cX7_init 2 6 280 9063 [] (.inr (7, dfl 7)) (cellsY (X.2.1.2.1, X.2.1.2.2.1, gC, hY X.2.1.2) M1) := k
    rw [e] at k'
    exact Ini_at g3 g4 g2 g1 k'
  refine w_b Z.1 Z.2.1 Z.2.2.1 hAO (A := [] ++ cellsY X.2.1.2 M1) (sub := cellsY (YM X.2.1.2) M2) (by rw [List.nil_append, lA]) (fun Y g1 g2 g3 g4 => ?_) ?_
  · rw [List.nil_append, lA] at g2
    have k := k_X8 X.1.2.1 (X.2.1.2.1, X.2.1.2.2.1, [], hY X.2.1.2 + 281) rfl M2 h3
    exact Ini_at (Y2 := (X.2.1.2.1, X.2.1.2.2.1, [], hY X.2.1.2 + 281)) g3 g4 g2 g1 k
  refine w_c Z.1 Z.2.2.1 (A := ([] ++ cellsY X.2.1.2 M1) ++ cellsY (YM X.2.1.2) M2) (by rw [List.length_append, List.nil_append, lA, lB]) Z.2.2.2.2.2.2.2.1 ?_
  have k28 : AG (setX X 297 12720) 28 [(5, .int (0 : Int32)), (4, .ref (hY X.2.1.2 + 296)), (3, .ref (hY X.2.1.2 + 295)), (2, .ref (hY X.2.1.2 + 281)), (1, .ref (hY X.2.1.2)), (0, .ref b)] [] (LWP X.2.1.2 cD M1 M2 (fun _ => 0) (fun _ => 0)) := g_sub [5, 4, 3, 2, 1, 0] rfl loop
  exact fun H locs ls hl hP hS => k28 H locs ls hl (lwp_of hG hP) hS
