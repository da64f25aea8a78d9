/-! 99g.two: the constructors of LakeLevels and of the model -/
theorem at93 {e a : va_E} {A C : List va_E} (h : A.length = 92) : (e :: (A ++ a :: C))[93]? = some a := by
  rw [List.getElem?_cons_succ, List.getElem?_append_right (by omega), h]
  rfl
theorem set93 {e a b : va_E} {A C : List va_E} (h : A.length = 92) : (e :: (A ++ a :: C)).set 93 b = e :: (A ++ b :: C) := by
  rw [List.set_cons_succ, List.set_append_right _ _ (by omega), h]
  rfl
set_option maxHeartbeats 4000000 in
theorem i_turn {X : Cx} (S : ∀ c s, c ≤ 280 → s ≤ 9063 → CX (setX X c s) cX7_init RX7 2 6 []) (hA : X.2.1.1 = fun q => hY X.2.1.2 ≤ q) (hs0 : (stX X).heap.size = hY X.2.1.2 + 1) (hAO : va_AO RX6 (stX X)) {A B : List va_E} (hA92 : A.length = 92) {f : Nat → Option Nat} {i : Nat} (hi : i < 4) {c s q : Nat} (hc : c = 93 + B.length) (hcT : c + 46 ≤ 280) (hsT : s + 9 + 1475 ≤ 9063) (hq : hY X.2.1.2 + 1 + c = q)
    (k9 : AG (setX X (c + 46) (s + 9 + 1475)) 47 [(1, .int (nI (i + 1))), (0, .ref (hY X.2.1.2))] [] (GPw X.2.1.2 (.inr (7, zfs (hY X.2.1.2) 7) :: (A ++ .inl (X.2.1.2.2.1.2.2, 4, .inr (.inr (.inr (.inr (va_up f i (some q)))))) :: (B ++ zs X.2.1.2.2.1 q lay_X6))))) :
    AG (setX X c s) 47 [(1, .int (nI i)), (0, .ref (hY X.2.1.2))] [] (GPw X.2.1.2 (.inr (7, zfs (hY X.2.1.2) 7) :: (A ++ .inl (X.2.1.2.2.1.2.2, 4, .inr (.inr (.inr (.inr f)))) :: B))) := by
  have S0 := S c s (by omega) (by omega)
  have S1 := S (c + 1) (s + 9) (by omega) (by omega)
  have S2 := S (c + 46) (s + 9 + 1475) hcT hsT
  have hlen : (.inr (7, zfs (hY X.2.1.2) 7) :: (A ++ .inl (X.2.1.2.2.1.2.2, 4, .inr (.inr (.inr (.inr f)))) :: B) : List va_E).length = 94 + B.length := by simp [hA92]; omega
  have hq9 : hY X.2.1.2 + (.inr (7, zfs (hY X.2.1.2) 7) :: (A ++ .inl (X.2.1.2.2.1.2.2, 4, .inr (.inr (.inr (.inr f)))) :: B) : List va_E).length = q := by rw [hlen]; omega
  refine g_iload_n S0 dX7_init_47 0 rfl ?_
  refine g_aload_n S0 dX7_init_48 1 rfl ?_
  refine i_get (X := setX X c s) S0 fc7 2 (by decide) zi_377 (v := .ref (hY X.2.1.2 + 93)) rfl dX7_init_49 ?_
  refine i_alen (X := setX X c s) S0 (q := 93) (at93 hA92) dX7_init_52 ?_
  refine g_icmp_ge S0 75 dX7_init_53 (by decide) (fun z => absurd z (by
    rw [Int32.le_iff_toInt_le, nI_toInt (by omega)]
    show ¬ (4 : Int) ≤ i
    omega)) (fun _ => ?_)
  refine g_aload_n S0 dX7_init_56 1 rfl ?_
  refine i_get (X := setX X c s) S0 fc7 2 (by decide) zi_377 (v := .ref (hY X.2.1.2 + 93)) rfl dX7_init_57 ?_
  refine g_iload_n S0 dX7_init_60 0 rfl ?_
  refine i_new (X := setX X c s) (fs := dfl 6) (c1 := c + 1) (s1 := s + 9) S0 fc6 (by rw [hlen]; omega) (by show (stX X).heap.size + c = hY X.2.1.2 + _; rw [hlen, hs0]; omega) zi_27 zi_28 zi_2 (fun j hj => by rcases (show j = 0 ∨ j = 1 ∨ j = 2 ∨ j = 3 ∨ j = 4 ∨ j = 5 ∨ j = 6 ∨ j = 7 ∨ j = 8 by omega) with rfl | rfl | rfl | rfl | rfl | rfl | rfl | rfl | rfl <;> rfl) rfl rfl (CX_c S1) (CX_s S1) dX7_init_61 ?_
  refine g_dup S1 dX7_init_64 rfl ?_
  refine i_call (X := setX X (c + 1) (s + 9)) (c1 := c + 46) (s1 := s + 9 + 1475) (As := []) (rest := [.ref (hY X.2.1.2 + (.inr (7, zfs (hY X.2.1.2) 7) :: (A ++ .inl (X.2.1.2.2.1.2.2, 4, .inr (.inr (.inr (.inr f)))) :: B) : List va_E).length), .int (nI i), .ref (hY X.2.1.2 + 93)]) S1 (fun q h => by show X.2.1.1 q; rw [hA]; exact h) hAO (by show (stX X).heap.size + (c + 1) = hY X.2.1.2 + _ + 1; rw [hlen, hs0]; omega) (k_X6 X.1.2.1 (X.2.1.2.1, X.2.1.2.2.1, [], hY X.2.1.2 + (.inr (7, zfs (hY X.2.1.2) 7) :: (A ++ .inl (X.2.1.2.2.1.2.2, 4, .inr (.inr (.inr (.inr f)))) :: B) : List va_E).length) rfl) wdi_X6 (Or.inr ⟨_, zi_29⟩) (by decide) (by show c + 1 + 45 = c + 46; omega) rfl (CX_c S2) (CX_s S2) rfl (Nat.le_of_ble_eq_true rfl) dX7_init_65 ?_
  show AG (setX X (c + 46) (s + 9 + 1475)) 68 _ [.ref (hY X.2.1.2 + (.inr (7, zfs (hY X.2.1.2) 7) :: (A ++ .inl (X.2.1.2.2.1.2.2, 4, .inr (.inr (.inr (.inr f)))) :: B) : List va_E).length), .int (nI i), .ref (hY X.2.1.2 + 93)] (GPw X.2.1.2 (.inr (7, zfs (hY X.2.1.2) 7) :: ((A ++ .inl (X.2.1.2.2.1.2.2, 4, .inr (.inr (.inr (.inr f)))) :: B) ++ zs X.2.1.2.2.1 (hY X.2.1.2 + (.inr (7, zfs (hY X.2.1.2) 7) :: (A ++ .inl (X.2.1.2.2.1.2.2, 4, .inr (.inr (.inr (.inr f)))) :: B) : List va_E).length) lay_X6)))
  rw [List.append_assoc, List.cons_append]
  have hv9 : (.inr (7, zfs (hY X.2.1.2) 7) :: (A ++ .inl (X.2.1.2.2.1.2.2, 4, .inr (.inr (.inr (.inr f)))) :: (B ++ zs X.2.1.2.2.1 (hY X.2.1.2 + (.inr (7, zfs (hY X.2.1.2) 7) :: (A ++ .inl (X.2.1.2.2.1.2.2, 4, .inr (.inr (.inr (.inr f)))) :: B) : List va_E).length) lay_X6)) : List va_E)[(.inr (7, zfs (hY X.2.1.2) 7) :: (A ++ .inl (X.2.1.2.2.1.2.2, 4, .inr (.inr (.inr (.inr f)))) :: B) : List va_E).length]? = some (.inr (6, zfs (hY X.2.1.2 + (.inr (7, zfs (hY X.2.1.2) 7) :: (A ++ .inl (X.2.1.2.2.1.2.2, 4, .inr (.inr (.inr (.inr f)))) :: B) : List va_E).length) 6)) := by
    rw [show (.inr (7, zfs (hY X.2.1.2) 7) :: (A ++ .inl (X.2.1.2.2.1.2.2, 4, .inr (.inr (.inr (.inr f)))) :: (B ++ zs X.2.1.2.2.1 (hY X.2.1.2 + (.inr (7, zfs (hY X.2.1.2) 7) :: (A ++ .inl (X.2.1.2.2.1.2.2, 4, .inr (.inr (.inr (.inr f)))) :: B) : List va_E).length) lay_X6)) : List va_E) = (.inr (7, zfs (hY X.2.1.2) 7) :: (A ++ .inl (X.2.1.2.2.1.2.2, 4, .inr (.inr (.inr (.inr f)))) :: B)) ++ zs X.2.1.2.2.1 (hY X.2.1.2 + (.inr (7, zfs (hY X.2.1.2) 7) :: (A ++ .inl (X.2.1.2.2.1.2.2, 4, .inr (.inr (.inr (.inr f)))) :: B) : List va_E).length) lay_X6 from by simp]
    rw [List.getElem?_append_right (Nat.le_refl _), Nat.sub_self]
    exact zs_get (t := (6, 0)) (by decide)
  refine i_aast (X := setX X (c + 46) (s + 9 + 1475)) S2 hA (q := 93) (at93 hA92) hv9 (vp_in_nI hi (by decide)) dX7_init_68 ?_
  rw [set93 hA92, nI_clamp (show i < 2 ^ 31 by omega)]
  refine g_iinc (lv2 := [(1, .int (nI i + Int32.ofInt 1)), (0, .ref (hY X.2.1.2))]) S2 (j := 0) dX7_init_69 rfl (by decide) rfl ?_
  refine g_goto S2 47 dX7_init_72 (by decide) ?_
  rw [show nI i + Int32.ofInt 1 = nI (i + 1) from nI_add i 1]
  have e8 : hY X.2.1.2 + (.inr (7, zfs (hY X.2.1.2) 7) :: (A ++ .inl (X.2.1.2.2.1.2.2, 4, .inr (.inr (.inr (.inr f)))) :: B) : List va_E).length = q := hq9
  show AG (setX X (c + 46) (s + 9 + 1475)) 47 _ [] (GPw X.2.1.2 (.inr (7, zfs (hY X.2.1.2) 7) :: (A ++ .inl (X.2.1.2.2.1.2.2, 4, .inr (.inr (.inr (.inr (va_up f i (some (hY X.2.1.2 + (.inr (7, zfs (hY X.2.1.2) 7) :: (A ++ .inl (X.2.1.2.2.1.2.2, 4, .inr (.inr (.inr (.inr f)))) :: B) : List va_E).length)))))) ) :: (B ++ zs X.2.1.2.2.1 (hY X.2.1.2 + (.inr (7, zfs (hY X.2.1.2) 7) :: (A ++ .inl (X.2.1.2.2.1.2.2, 4, .inr (.inr (.inr (.inr f)))) :: B) : List va_E).length) lay_X6))))
  rw [e8]
  exact k9
def gHead : List (Nat × Nat) := (7, 0) :: (lay_X6 ++ lay_X6)
def gTail : List (Nat × Nat) := (((lay_X2 ++ lay_X6) ++ lay_X6) ++ lay_X6) ++ lay_X6
theorem gC_cut : gC = gHead ++ (11, 4) :: gTail := by decide +kernel
theorem gHead_ne : ∀ t ∈ gHead, t.1 ≠ 11 := by decide +kernel
theorem gTail_ne : ∀ t ∈ gTail, t.1 ≠ 11 := by decide +kernel
theorem gHead_z (T3 : ClassId × ClassId × ClassId) (h : Nat) : zs T3 h gHead = .inr (7, zfs h 7) :: (zs T3 (h + 1) lay_X6 ++ zs T3 (h + 47) lay_X6) := by
  unfold gHead
  rw [zs_cons, zs_app]
  rfl
theorem gTail_z (T3 : ClassId × ClassId × ClassId) (h : Nat) : zs T3 (h + 94) gTail = (((zs T3 (h + 94) lay_X2 ++ zs T3 (h + 97) lay_X6) ++ zs T3 (h + 143) lay_X6) ++ zs T3 (h + 189) lay_X6) ++ zs T3 (h + 235) lay_X6 := by
  unfold gTail
  rw [zs_app, zs_app, zs_app, zs_app]
  rfl
theorem len6 : lay_X6.length = 46 := by decide
theorem len2 : lay_X2.length = 3 := by decide
set_option maxHeartbeats 1000000 in
theorem k7a {X : Cx} (S : ∀ c s, c ≤ 280 → s ≤ 9063 → CX (setX X c s) cX7_init RX7 2 6 []) (hA : X.2.1.1 = fun q => hY X.2.1.2 ≤ q) (hs0 : (stX X).heap.size = hY X.2.1.2 + 1) (hin : X.1.2.2.2.2.2.2.2.2.1.name = "<init>") (hAO : va_AO RX6 (stX X)) {fs : List Value} (hfs : 1 < fs.length)
    (k9 : AG (setX X 92 2968) 26 [(0, .ref (hY X.2.1.2))] [] (GPw X.2.1.2 (.inr (7, (fs.set 0 (.ref (hY X.2.1.2 + 1))).set 1 (.ref (hY X.2.1.2 + 47))) :: (([] ++ zs X.2.1.2.2.1 (hY X.2.1.2 + 1) lay_X6) ++ zs X.2.1.2.2.1 (hY X.2.1.2 + 47) lay_X6)))) :
    AG (setX X 0 0) 4 [(0, .ref (hY X.2.1.2))] [] (GPw X.2.1.2 (.inr (7, fs) :: [])) := by
  refine i_subT (tl := []) (q := hY X.2.1.2 + 1) (c := 0) (s := 0) (G2 := lay_X6) (As := []) S hA hs0 hin hAO fc7 fc6 rfl 4 9 0 rfl rfl (by rw [len6]; decide) (by decide) (by rw [len6]; decide) (fun Y hY9 => k_X6 X.1.2.1 Y hY9) wdi_X6 (Or.inr ⟨_, zi_29⟩) (by decide) zi_27 zi_28 zi_2 (fun j hj => by rcases (show j = 0 ∨ j = 1 ∨ j = 2 ∨ j = 3 ∨ j = 4 ∨ j = 5 ∨ j = 6 ∨ j = 7 ∨ j = 8 by omega) with rfl | rfl | rfl | rfl | rfl | rfl | rfl | rfl | rfl <;> rfl) zi_375 (by decide) rfl rfl rfl (fun _ => rfl) (fun _ => rfl) (by omega) dX7_init_4 dX7_init_5 dX7_init_8 (fun c1 s1 h1 h2 st P h => h) dX7_init_9 dX7_init_12 ?_
  rw [len6]
  have hl9 : ([] ++ zs X.2.1.2.2.1 (hY X.2.1.2 + 1) lay_X6).length = 46 := by rw [List.nil_append, zs_len, len6]
  refine i_subT (tl := [] ++ zs X.2.1.2.2.1 (hY X.2.1.2 + 1) lay_X6) (q := hY X.2.1.2 + 47) (c := 46) (s := 1484) (G2 := lay_X6) (As := []) S hA hs0 hin hAO fc7 fc6 rfl 15 20 1 hl9.symm (by rw [hl9]) (by rw [len6]; decide) (by decide) (by rw [len6]; decide) (fun Y hY9 => k_X6 X.1.2.1 Y hY9) wdi_X6 (Or.inr ⟨_, zi_29⟩) (by decide) zi_27 zi_28 zi_2 (fun j hj => by rcases (show j = 0 ∨ j = 1 ∨ j = 2 ∨ j = 3 ∨ j = 4 ∨ j = 5 ∨ j = 6 ∨ j = 7 ∨ j = 8 by omega) with rfl | rfl | rfl | rfl | rfl | rfl | rfl | rfl | rfl <;> rfl) zi_376 (by decide) rfl rfl rfl (fun _ => rfl) (fun _ => rfl) (by rw [List.length_set]; exact hfs) dX7_init_15 dX7_init_16 dX7_init_19 (fun c1 s1 h1 h2 st P h => h) dX7_init_20 dX7_init_23 ?_
  rw [len6]
  exact k9
set_option maxHeartbeats 1000000 in
theorem k7b {X : Cx} (S : ∀ c s, c ≤ 280 → s ≤ 9063 → CX (setX X c s) cX7_init RX7 2 6 []) (hA : X.2.1.1 = fun q => hY X.2.1.2 ≤ q) (hs0 : (stX X).heap.size = hY X.2.1.2 + 1) (hin : X.1.2.2.2.2.2.2.2.2.1.name = "<init>") (hAO : va_AO RX6 (stX X)) {fs : List Value} {A : List va_E} (hA92 : A.length = 92) (hfs : 3 < fs.length)
    (k9 : AG (setX X 96 3127) 45 [(0, .ref (hY X.2.1.2))] [] (GPw X.2.1.2 (.inr (7, (fs.set 2 (.ref (hY X.2.1.2 + 93))).set 3 (.ref (hY X.2.1.2 + 94))) :: ((A ++ [.inl (X.2.1.2.2.1.2.2, 4, .inr (.inr (.inr (.inr (fun _ => none)))))]) ++ zs X.2.1.2.2.1 (hY X.2.1.2 + 94) lay_X2)))) :
    AG (setX X 92 2968) 26 [(0, .ref (hY X.2.1.2))] [] (GPw X.2.1.2 (.inr (7, fs) :: A)) := by
  have S92 := S 92 2968 (by decide) (by decide)
  have S93 := S 93 2972 (by decide) (by decide)
  refine g_aload_n S92 dX7_init_26 0 rfl ?_
  refine g_iconst S92 (4 : Int32) dX7_init_27 rfl ?_
  refine i_anew (X := setX X 92 2968) (c1 := 93) (s1 := 2972) S92 hAO (by rw [List.length_cons]; omega) (by show (stX X).heap.size + 92 = hY X.2.1.2 + _; rw [List.length_cons, hA92, hs0]) zi_27 rfl rfl (CX_c S93) (CX_s S93) dX7_init_28 (q := hY X.2.1.2 + 93) (by show hY X.2.1.2 + _ = _; rw [List.length_cons, hA92]) ?_
  refine i_put (X := setX X 93 2972) (fs := fs) (tl := A ++ [.inl (X.2.1.2.2.1.2.2, 4, .inr (.inr (.inr (.inr (fun _ => none)))))]) S93 hA hin fc7 2 (by decide) zi_377 rfl rfl rfl rfl rfl (by omega) dX7_init_31 ?_
  have hl9 : (A ++ [.inl (X.2.1.2.2.1.2.2, 4, .inr (.inr (.inr (.inr (fun _ => none)))))] : List va_E).length = 93 := by rw [List.length_append, hA92]; rfl
  refine i_subT (lv := [(0, .ref (hY X.2.1.2))]) (fs := fs.set 2 (.ref (hY X.2.1.2 + 93))) (tl := A ++ [.inl (X.2.1.2.2.1.2.2, 4, .inr (.inr (.inr (.inr (fun _ => none)))))]) (q := hY X.2.1.2 + 94) (c := 93) (s := 2972) (G2 := lay_X2) (As := []) S hA hs0 hin hAO fc7 fc2 rfl 34 39 3 hl9.symm (by rw [hl9]) (by rw [len2]; decide) (by decide) (by rw [len2]; decide) (fun Y hY9 => k_X2 X.1.2.1 Y hY9) wdi_X2 (Or.inr ⟨_, zi_231⟩) (by decide) zi_229 zi_230 zi_9 (fun j hj => by rcases (show j = 0 ∨ j = 1 ∨ j = 2 ∨ j = 3 by omega) with rfl | rfl | rfl | rfl <;> rfl) zi_378 (by decide) rfl rfl rfl (fun _ => rfl) (fun _ => rfl) (by rw [List.length_set]; exact hfs) dX7_init_34 dX7_init_35 dX7_init_38 (fun c1 s1 h1 h2 st P h => h) dX7_init_39 dX7_init_42 ?_
  rw [len2]
  exact k9
def f4W (h : Nat) : Nat → Option Nat := va_up (va_up (va_up (va_up (fun _ => none) 0 (some (h + 97))) 1 (some (h + 143))) 2 (some (h + 189))) 3 (some (h + 235))
theorem f4W_ok (h j : Nat) (hj : j < 4) : f4W h j = some (h + (97 + 46 * j)) := by
  rcases (show j = 0 ∨ j = 1 ∨ j = 2 ∨ j = 3 by omega) with rfl | rfl | rfl | rfl <;> rfl
set_option maxHeartbeats 1000000 in
theorem k7c {X : Cx} (S : ∀ c s, c ≤ 280 → s ≤ 9063 → CX (setX X c s) cX7_init RX7 2 6 []) (hA : X.2.1.1 = fun q => hY X.2.1.2 ≤ q) (hs0 : (stX X).heap.size = hY X.2.1.2 + 1) (hAO : va_AO RX6 (stX X)) {A B : List va_E} (hA92 : A.length = 92) (hB : B.length = 3)
    (k9 : AG (setX X 280 9063) 75 [(1, .int (nI 4)), (0, .ref (hY X.2.1.2))] [] (GPw X.2.1.2 (.inr (7, zfs (hY X.2.1.2) 7) :: (A ++ .inl (X.2.1.2.2.1.2.2, 4, .inr (.inr (.inr (.inr (f4W (hY X.2.1.2)))))) :: ((((B ++ zs X.2.1.2.2.1 (hY X.2.1.2 + 97) lay_X6) ++ zs X.2.1.2.2.1 (hY X.2.1.2 + 143) lay_X6) ++ zs X.2.1.2.2.1 (hY X.2.1.2 + 189) lay_X6) ++ zs X.2.1.2.2.1 (hY X.2.1.2 + 235) lay_X6))))) :
    AG (setX X 96 3127) 45 [(0, .ref (hY X.2.1.2))] [] (GPw X.2.1.2 (.inr (7, zfs (hY X.2.1.2) 7) :: (A ++ .inl (X.2.1.2.2.1.2.2, 4, .inr (.inr (.inr (.inr (fun _ => none))))) :: B))) := by
  have S96 := S 96 3127 (by decide) (by decide)
  refine g_iconst S96 (0 : Int32) dX7_init_45 rfl ?_
  refine g_istore_n (lv2 := [(1, .int (0 : Int32)), (0, .ref (hY X.2.1.2))]) S96 dX7_init_46 (by decide) rfl ?_
  refine i_turn (i := 0) (c := 96) (s := 3127) (q := hY X.2.1.2 + 97) S hA hs0 hAO hA92 (by decide) (by rw [hB]) (by decide) (by decide) (by omega) ?_
  refine i_turn (i := 1) (c := 142) (s := 4611) (q := hY X.2.1.2 + 143) S hA hs0 hAO hA92 (by decide) (by rw [List.length_append, zs_len, hB, len6]) (by decide) (by decide) (by omega) ?_
  refine i_turn (i := 2) (c := 188) (s := 6095) (q := hY X.2.1.2 + 189) S hA hs0 hAO hA92 (by decide) (by rw [List.length_append, List.length_append, zs_len, zs_len, hB, len6]) (by decide) (by decide) (by omega) ?_
  refine i_turn (i := 3) (c := 234) (s := 7579) (q := hY X.2.1.2 + 235) S hA hs0 hAO hA92 (by decide) (by rw [List.length_append, List.length_append, List.length_append, zs_len, zs_len, zs_len, hB, len6]) (by decide) (by decide) (by omega) ?_
  have S4 := S 280 9063 (by decide) (by decide)
  refine g_iload_n S4 dX7_init_47 0 rfl ?_
  refine g_aload_n S4 dX7_init_48 1 rfl ?_
  refine i_get (X := setX X 280 9063) S4 fc7 2 (by decide) zi_377 (v := .ref (hY X.2.1.2 + 93)) rfl dX7_init_49 ?_
  refine i_alen (X := setX X 280 9063) S4 (q := 93) (at93 hA92) dX7_init_52 ?_
  refine g_icmp_ge S4 75 dX7_init_53 (by decide) (fun _ => ?_) (fun z => absurd (by decide) z)
  exact k9
set_option maxHeartbeats 1000000 in
theorem k7d {X : Cx} (S4 : CX (setX X 280 9063) cX7_init RX7 2 6 []) (hA : X.2.1.1 = fun q => hY X.2.1.2 ≤ q) {Ma M1 : Mem} (h1 : GR_lay 2 (1 : Int32) (1 : Int32) Mz = some ((), Ma)) (h2 : WD_restart 1 Ma = some ((), M1))
    (hret : ∀ (pc : Nat) (lv : List (Nat × Value)), decode cX7_init pc = .ok (.return_, 1) → AG (setX X 280 9063) pc lv [] (GPw X.2.1.2 (cellsY (X.2.1.2.1, X.2.1.2.2.1, gC, hY X.2.1.2) M1))) :
    AG (setX X 280 9063) 75 [(1, .int (nI 4)), (0, .ref (hY X.2.1.2))] [] (fun H => va_P X.2.1.2.1 vwCl (wl (X.2.1.2.1, X.2.1.2.2.1, gC, hY X.2.1.2) Mz) H) := by
  let X' : Cx := (X.1, (X.2.1.1, (X.2.1.2.1, X.2.1.2.2.1, gC, hY X.2.1.2)), (setX X 280 9063).2.2)
  have S' : CX X' cX7_init RX7 2 6 gC := ⟨S4.1, S4.2.1, S4.2.2.1, S4.2.2.2.1, S4.2.2.2.2.1, S4.2.2.2.2.2.1, (fun q hq => by
    show X.2.1.1 q
    rw [hA]
    obtain ⟨o, _, rfl⟩ := hq
    exact Nat.le_add_right _ _), S4.2.2.2.2.2.2.2.1, S4.2.2.2.2.2.2.2.2.1, S4.2.2.2.2.2.2.2.2.2.1, S4.2.2.2.2.2.2.2.2.2.2.1, S4.2.2.2.2.2.2.2.2.2.2.2.1, rfl, S4.2.2.2.2.2.2.2.2.2.2.2.2.2⟩
  have key : AW X' 75 [(1, .int (nI 4)), (0, .ref (hY X'.2.1.2 + 0))] [] Mz := by
    refine r_aload_n S' dX7_init_75 1 rfl ?_
    refine r_getRK S' fc7 (by decide) 0 1 rfl rfl q_50 dX7_init_76 ?_
    refine r_getRKN S' fc6 (by decide) 0 2 rfl rfl q_54 dX7_init_79 ?_
    refine r_iconst S' (1 : Int32) dX7_init_82 rfl ?_
    refine r_iconst S' (1 : Int32) dX7_init_83 rfl ?_
    refine rc_V S' (rn_V S' fc0 (by decide) (c_GR_lay _ _ (gYX S') 2 (by decide) (1 : Int32) (1 : Int32) Mz _ _ h1) wdX0_lay q_598 ⟨Nat.le_of_ble_eq_true rfl, Nat.le_of_ble_eq_true rfl⟩ rfl (Nat.le_of_ble_eq_true rfl) dX7_init_84) ?_
    refine r_aload_n S' dX7_init_87 1 rfl ?_
    refine r_getRK S' fc7 (by decide) 0 1 rfl rfl q_50 dX7_init_88 ?_
    refine rc_V S' (rn_V S' fc6 (by decide) (c_WD_restart _ _ (gYX S') 1 (by decide) Ma _ _ h2) wdX6_restart q_355 ⟨Nat.le_of_ble_eq_true rfl, Nat.le_of_ble_eq_true rfl⟩ rfl (Nat.le_of_ble_eq_true rfl) dX7_init_91) ?_
    exact fun H locs ls hl hP hS => hret 94 _ dX7_init_94 H locs ls hl (by
      show va_P _ vwCl (wE (hY X.2.1.2) (cellsY (X.2.1.2.1, X.2.1.2.2.1, gC, hY X.2.1.2) M1)) H
      have hw := wl_E (X.2.1.2.1, X.2.1.2.2.1, gC, hY X.2.1.2) M1
      have hP' : va_P X.2.1.2.1 vwCl (wl (X.2.1.2.1, X.2.1.2.2.1, gC, hY X.2.1.2) M1) H := hP
      rw [hw] at hP'
      exact hP') hS
  exact fun H locs ls hl hP hS => key H locs ls hl hP hS
set_option maxHeartbeats 1000000 in
theorem k7e {X : Cx} {H : Heap} (h : GPw X.2.1.2 (.inr (7, zfs (hY X.2.1.2) 7) :: ((zs X.2.1.2.2.1 (hY X.2.1.2 + 1) lay_X6 ++ zs X.2.1.2.2.1 (hY X.2.1.2 + 47) lay_X6) ++ .inl (X.2.1.2.2.1.2.2, 4, .inr (.inr (.inr (.inr (f4W (hY X.2.1.2)))))) :: ((((zs X.2.1.2.2.1 (hY X.2.1.2 + 94) lay_X2 ++ zs X.2.1.2.2.1 (hY X.2.1.2 + 97) lay_X6) ++ zs X.2.1.2.2.1 (hY X.2.1.2 + 143) lay_X6) ++ zs X.2.1.2.2.1 (hY X.2.1.2 + 189) lay_X6) ++ zs X.2.1.2.2.1 (hY X.2.1.2 + 235) lay_X6))) H) : va_P X.2.1.2.1 vwCl (wl (X.2.1.2.1, X.2.1.2.2.1, gC, hY X.2.1.2) Mz) H := by
  refine z_P (Y := (X.2.1.2.1, X.2.1.2.2.1, gC, hY X.2.1.2)) (f := f4W (hY X.2.1.2)) gC_cut gHead_ne gTail_ne (f4W_ok _) ?_
  have hg : gHead.length = 93 := by decide
  rw [hg]
  show va_P X.2.1.2.1 vwCl (wE (hY X.2.1.2) (zs X.2.1.2.2.1 (hY X.2.1.2) gHead ++ .inl (X.2.1.2.2.1.2.2, 4, .inr (.inr (.inr (.inr (f4W (hY X.2.1.2)))))) :: zs X.2.1.2.2.1 (hY X.2.1.2 + 94) gTail)) H
  rw [gHead_z, gTail_z]
  exact h
set_option maxHeartbeats 1000000 in
theorem k_X7 (l : Launch) (Y : Env1) (hG : gY Y = []) (Ma M1 : Mem) (h1 : GR_lay 2 (1 : Int32) (1 : Int32) Mz = some ((), Ma)) (h2 : WD_restart 1 Ma = some ((), M1)) : Ini l Y yX7_init cX7_init 2 6 280 9063 [] (.inr (7, dfl 7)) (cellsY (Y.1, Y.2.1, gC, hY Y) M1) := by
  refine met_ini (own := RX7) (by decide +kernel) rfl rfl hG (Nat.le_of_ble_eq_true rfl) (fun X S hY1 hl1 hA hs0 hin hAO hret => ?_)
  subst hY1
  subst hl1
  have S0 := S 0 0 (Nat.zero_le _) (Nat.zero_le _)
  show AG (setX X 0 0) 0 [(0, .ref (hY X.2.1.2))] [] (GPw X.2.1.2 (.inr (7, dfl 7) :: []))
  refine g_aload_n S0 dX7_init_0 0 rfl ?_
  refine i_obj S0 (by decide) zi_24 zi_25 zi_26 (Nat.le_of_ble_eq_true rfl) dX7_init_1 ?_
  refine k7a S hA hs0 hin hAO (by decide) ?_
  rw [List.nil_append]
  have hA92 : (zs X.2.1.2.2.1 (hY X.2.1.2 + 1) lay_X6 ++ zs X.2.1.2.2.1 (hY X.2.1.2 + 47) lay_X6).length = 92 := by rw [List.length_append, zs_len, zs_len, len6]
  refine k7b S hA hs0 hin hAO hA92 (by rw [List.length_set, List.length_set]; decide) ?_
  rw [List.append_assoc]
  have ef : ((((dfl 7).set 0 (.ref (hY X.2.1.2 + 1))).set 1 (.ref (hY X.2.1.2 + 47))).set 2 (.ref (hY X.2.1.2 + 93))).set 3 (.ref (hY X.2.1.2 + 94)) = zfs (hY X.2.1.2) 7 := rfl
  rw [ef]
  refine k7c (B := zs X.2.1.2.2.1 (hY X.2.1.2 + 94) lay_X2) S hA hs0 hAO hA92 (by rw [zs_len, len2]) ?_
  have k8 := k7d (S 280 9063 (by decide) (by decide)) hA h1 h2 hret
  exact fun H locs ls hl hP hS => k8 H locs ls hl (k7e hP) hS

