/-! 99h.model: the model's constructor -/
set_option maxHeartbeats 1000000 in
theorem i_suba {X : Cx} {cc : ByteArray} {own : String} {n lev mcT msT : Nat} (S : ∀ c s, c ≤ mcT → s ≤ msT → CX (setX X c s) cc own n lev []) (hA : X.2.1.1 = fun q => hY X.2.1.2 ≤ q) (hs0 : (stX X).heap.size = hY X.2.1.2 + 1) (hin : X.1.2.2.2.2.2.2.2.2.1.name = "<init>") {k : Nat} {T : u_T} {N : Nat} {ty : Nat → FieldType} (F : FCl k own T N ty) {fs : List Value} {G : List (Nat × Nat)} {c s Nn kd : Nat} {lv : List (Nat × Value)} (hlv : lv[0]? = some (0, .ref (hY X.2.1.2))) (pc pc2 : Nat) {i3 : Nat} (fk : Nat) {atype : ArrayType} {nv : Int32} {cA0 : ClassId} {a0 : vp_A} {q : Nat}
    (hc : c = G.length) (hq9 : hY X.2.1.2 + 1 + c = q) (hcT : c + 1 ≤ mcT) (hsT : s + Nn ≤ msT)
    (harr : Cond.arrayClass (newarray.typeOf atype) ∈ TBL) (hT : (stX X).vm.findClass ("[" ++ (newarray.typeOf atype).toString) = some cA0) (ha : ∀ cA : ClassId, vp_cell cA a0 = arrV cA Nn (fun _ => defaultValue (newarray.typeOf atype))) (hz : ∀ q, zc X.2.1.2.2.1 q (kd, Nn) = .inl (cA0, a0)) (hn : ¬ nv < 0) (hN : nv.toNatClampNeg = Nn) (hbt : Nn * componentBytes (newarray.typeOf atype) ≤ 536870912)
    (hw : Cond.fieldLink own i3 (T fk).1 (T fk).2.1 (T fk).2.2.1 ∈ TBL) (hfk : fk < N) (hfin : (T fk).2.2.2 = true) (hdecl : (T fk).1 = own) {rty : FieldType} (hd : parseFieldDescriptor (T fk).2.2.1 = some rty) (hnar : ∀ v, narrow rty (.ref v) = .ref v) (hfit : ∀ v, fits rty (.ref v) = true) (hlen : fk < fs.length)
    (d0 : decode cc pc = .ok (.aload_n 0, 1))
    (hpush : ∀ c1 s1, c1 ≤ mcT → s1 ≤ msT → ∀ (st : List Value) (P : Heap → Prop), AG (setX X c1 s1) pc2 lv (.int nv :: st) P → AG (setX X c1 s1) (pc + 1) lv st P)
    (d2 : decode cc pc2 = .ok (.newarray atype, 2)) (d3 : decode cc (pc2 + 2) = .ok (.putfield i3, 3))
    (k9 : AG (setX X (c + 1) (s + Nn)) (pc2 + 2 + 3) lv [] (GPw X.2.1.2 (.inr (k, fs.set fk (.ref q)) :: zs X.2.1.2.2.1 (hY X.2.1.2 + 1) (G ++ [(kd, Nn)])))) :
    AG (setX X c s) pc lv [] (GPw X.2.1.2 (.inr (k, fs) :: zs X.2.1.2.2.1 (hY X.2.1.2 + 1) G)) := by
  have S0 := S c s (by omega) (by omega)
  have S1 := S (c + 1) (s + Nn) hcT hsT
  have hlen1 : ((.inr (k, fs) :: zs X.2.1.2.2.1 (hY X.2.1.2 + 1) G : List va_E)).length = G.length + 1 := by rw [List.length_cons, zs_len]
  have hq : hY X.2.1.2 + ((.inr (k, fs) :: zs X.2.1.2.2.1 (hY X.2.1.2 + 1) G : List va_E)).length = q := by rw [hlen1]; omega
  refine g_aload_n S0 d0 0 hlv ?_
  refine hpush _ _ (by omega) (by omega) _ _ ?_
  refine i_narr (X := setX X c s) (es := .inr (k, fs) :: zs X.2.1.2.2.1 (hY X.2.1.2 + 1) G) (c1 := c + 1) (s1 := s + Nn) S0 (by rw [hlen1]; omega) (by show (stX X).heap.size + c = hY X.2.1.2 + _; rw [hlen1, hs0]; omega) harr hT ha hn hN hbt rfl rfl (CX_c S1) (CX_s S1) d2 ?_
  have e9 : zs X.2.1.2.2.1 (hY X.2.1.2 + 1) G ++ [.inl (cA0, a0)] = zs X.2.1.2.2.1 (hY X.2.1.2 + 1) (G ++ [(kd, Nn)]) := by
    rw [zs_app]
    exact congrArg (fun e => zs X.2.1.2.2.1 (hY X.2.1.2 + 1) G ++ [e]) (hz _).symm
  show AG (setX X (c + 1) (s + Nn)) (pc2 + 2) lv [.ref (hY X.2.1.2 + ((.inr (k, fs) :: zs X.2.1.2.2.1 (hY X.2.1.2 + 1) G : List va_E)).length), .ref (hY X.2.1.2)] (GPw X.2.1.2 (.inr (k, fs) :: (zs X.2.1.2.2.1 (hY X.2.1.2 + 1) G ++ [.inl (cA0, a0)])))
  rw [e9, hq]
  exact i_put (X := setX X (c + 1) (s + Nn)) S1 hA hin F fk hfk hw hfin hdecl hd (hnar _) (hfit _) hlen d3 k9
set_option maxHeartbeats 1000000 in
theorem m_st0 {X : Cx} (S : ∀ c s, c ≤ 13 → s ≤ 3624 → CX (setX X c s) cX8_init RX8 1 9 []) (hA : X.2.1.1 = fun q => hY X.2.1.2 ≤ q) (hs0 : (stX X).heap.size = hY X.2.1.2 + 1) (hin : X.1.2.2.2.2.2.2.2.2.1.name = "<init>") {fs : List Value} {G : List (Nat × Nat)} (hG : G.length = 0) (hfs : fs.length = 25)
    (k9 : AG (setX X 1 513) 13 [(0, .ref (hY X.2.1.2))] [] (GPw X.2.1.2 (.inr (8, fs.set 0 (.ref (hY X.2.1.2 + 1))) :: zs X.2.1.2.2.1 (hY X.2.1.2 + 1) (G ++ [(10, 513)])))) :
    AG (setX X 0 0) 4 [(0, .ref (hY X.2.1.2))] [] (GPw X.2.1.2 (.inr (8, fs) :: zs X.2.1.2.2.1 (hY X.2.1.2 + 1) G)) :=
  i_suba (c := 0) (s := 0) (Nn := 513) (kd := 10) (q := hY X.2.1.2 + 1) (lv := [(0, .ref (hY X.2.1.2))]) (atype := .long) (nv := nI 513) (cA0 := X.2.1.2.2.1.2.1) (a0 := (513, .inr (.inl (fun _ => 0)))) S hA hs0 hin fc8 rfl 4 8 0 hG.symm (by omega) (by decide) (by decide) zi_120 ((S 0 0 (Nat.zero_le _) (Nat.zero_le _)).2.2.2.2.2.1.2 1 _ rfl).2 (fun _ => rfl) (fun _ => rfl) (by decide +kernel) (by decide +kernel) (by show 513 * 8 ≤ 536870912; decide) zi_1046 (by decide) rfl rfl rfl (fun _ => rfl) (fun _ => rfl) (by rw [hfs]; decide) dX8_init_4 (fun c1 s1 h1 h2 st P h => i_sipush (S c1 s1 h1 h2) (nI 513) dX8_init_5 (by decide +kernel) h) dX8_init_8 dX8_init_10 k9
set_option maxHeartbeats 1000000 in
theorem m_st1 {X : Cx} (S : ∀ c s, c ≤ 13 → s ≤ 3624 → CX (setX X c s) cX8_init RX8 1 9 []) (hA : X.2.1.1 = fun q => hY X.2.1.2 ≤ q) (hs0 : (stX X).heap.size = hY X.2.1.2 + 1) (hin : X.1.2.2.2.2.2.2.2.2.1.name = "<init>") {fs : List Value} {G : List (Nat × Nat)} (hG : G.length = 1) (hfs : fs.length = 25)
    (k9 : AG (setX X 2 2565) 22 [(0, .ref (hY X.2.1.2))] [] (GPw X.2.1.2 (.inr (8, fs.set 1 (.ref (hY X.2.1.2 + 2))) :: zs X.2.1.2.2.1 (hY X.2.1.2 + 1) (G ++ [(10, 2052)])))) :
    AG (setX X 1 513) 13 [(0, .ref (hY X.2.1.2))] [] (GPw X.2.1.2 (.inr (8, fs) :: zs X.2.1.2.2.1 (hY X.2.1.2 + 1) G)) :=
  i_suba (c := 1) (s := 513) (Nn := 2052) (kd := 10) (q := hY X.2.1.2 + 2) (lv := [(0, .ref (hY X.2.1.2))]) (atype := .long) (nv := nI 2052) (cA0 := X.2.1.2.2.1.2.1) (a0 := (2052, .inr (.inl (fun _ => 0)))) S hA hs0 hin fc8 rfl 13 17 1 hG.symm (by omega) (by decide) (by decide) zi_120 ((S 0 0 (Nat.zero_le _) (Nat.zero_le _)).2.2.2.2.2.1.2 1 _ rfl).2 (fun _ => rfl) (fun _ => rfl) (by decide +kernel) (by decide +kernel) (by show 2052 * 8 ≤ 536870912; decide) zi_1047 (by decide) rfl rfl rfl (fun _ => rfl) (fun _ => rfl) (by rw [hfs]; decide) dX8_init_13 (fun c1 s1 h1 h2 st P h => i_sipush (S c1 s1 h1 h2) (nI 2052) dX8_init_14 (by decide +kernel) h) dX8_init_17 dX8_init_19 k9
set_option maxHeartbeats 1000000 in
theorem m_st2 {X : Cx} (S : ∀ c s, c ≤ 13 → s ≤ 3624 → CX (setX X c s) cX8_init RX8 1 9 []) (hA : X.2.1.1 = fun q => hY X.2.1.2 ≤ q) (hs0 : (stX X).heap.size = hY X.2.1.2 + 1) (hin : X.1.2.2.2.2.2.2.2.2.1.name = "<init>") {fs : List Value} {G : List (Nat × Nat)} (hG : G.length = 2) (hfs : fs.length = 25)
    (k9 : AG (setX X 3 3078) 31 [(0, .ref (hY X.2.1.2))] [] (GPw X.2.1.2 (.inr (8, fs.set 2 (.ref (hY X.2.1.2 + 3))) :: zs X.2.1.2.2.1 (hY X.2.1.2 + 1) (G ++ [(10, 513)])))) :
    AG (setX X 2 2565) 22 [(0, .ref (hY X.2.1.2))] [] (GPw X.2.1.2 (.inr (8, fs) :: zs X.2.1.2.2.1 (hY X.2.1.2 + 1) G)) :=
  i_suba (c := 2) (s := 2565) (Nn := 513) (kd := 10) (q := hY X.2.1.2 + 3) (lv := [(0, .ref (hY X.2.1.2))]) (atype := .long) (nv := nI 513) (cA0 := X.2.1.2.2.1.2.1) (a0 := (513, .inr (.inl (fun _ => 0)))) S hA hs0 hin fc8 rfl 22 26 2 hG.symm (by omega) (by decide) (by decide) zi_120 ((S 0 0 (Nat.zero_le _) (Nat.zero_le _)).2.2.2.2.2.1.2 1 _ rfl).2 (fun _ => rfl) (fun _ => rfl) (by decide +kernel) (by decide +kernel) (by show 513 * 8 ≤ 536870912; decide) zi_1048 (by decide) rfl rfl rfl (fun _ => rfl) (fun _ => rfl) (by rw [hfs]; decide) dX8_init_22 (fun c1 s1 h1 h2 st P h => i_sipush (S c1 s1 h1 h2) (nI 513) dX8_init_23 (by decide +kernel) h) dX8_init_26 dX8_init_28 k9
set_option maxHeartbeats 1000000 in
theorem m_st3 {X : Cx} (S : ∀ c s, c ≤ 13 → s ≤ 3624 → CX (setX X c s) cX8_init RX8 1 9 []) (hA : X.2.1.1 = fun q => hY X.2.1.2 ≤ q) (hs0 : (stX X).heap.size = hY X.2.1.2 + 1) (hin : X.1.2.2.2.2.2.2.2.2.1.name = "<init>") {fs : List Value} {G : List (Nat × Nat)} (hG : G.length = 3) (hfs : fs.length = 25)
    (k9 : AG (setX X 4 3114) 39 [(0, .ref (hY X.2.1.2))] [] (GPw X.2.1.2 (.inr (8, fs.set 5 (.ref (hY X.2.1.2 + 4))) :: zs X.2.1.2.2.1 (hY X.2.1.2 + 1) (G ++ [(10, 36)])))) :
    AG (setX X 3 3078) 31 [(0, .ref (hY X.2.1.2))] [] (GPw X.2.1.2 (.inr (8, fs) :: zs X.2.1.2.2.1 (hY X.2.1.2 + 1) G)) :=
  i_suba (c := 3) (s := 3078) (Nn := 36) (kd := 10) (q := hY X.2.1.2 + 4) (lv := [(0, .ref (hY X.2.1.2))]) (atype := .long) (nv := nI 36) (cA0 := X.2.1.2.2.1.2.1) (a0 := (36, .inr (.inl (fun _ => 0)))) S hA hs0 hin fc8 rfl 31 34 5 hG.symm (by omega) (by decide) (by decide) zi_120 ((S 0 0 (Nat.zero_le _) (Nat.zero_le _)).2.2.2.2.2.1.2 1 _ rfl).2 (fun _ => rfl) (fun _ => rfl) (by decide +kernel) (by decide +kernel) (by show 36 * 8 ≤ 536870912; decide) zi_1051 (by decide) rfl rfl rfl (fun _ => rfl) (fun _ => rfl) (by rw [hfs]; decide) dX8_init_31 (fun c1 s1 h1 h2 st P h => g_bipush (S c1 s1 h1 h2) (nI 36) dX8_init_32 (by decide +kernel) h) dX8_init_34 dX8_init_36 k9
set_option maxHeartbeats 1000000 in
theorem m_st4 {X : Cx} (S : ∀ c s, c ≤ 13 → s ≤ 3624 → CX (setX X c s) cX8_init RX8 1 9 []) (hA : X.2.1.1 = fun q => hY X.2.1.2 ≤ q) (hs0 : (stX X).heap.size = hY X.2.1.2 + 1) (hin : X.1.2.2.2.2.2.2.2.2.1.name = "<init>") {fs : List Value} {G : List (Nat × Nat)} (hG : G.length = 4) (hfs : fs.length = 25)
    (k9 : AG (setX X 5 3186) 47 [(0, .ref (hY X.2.1.2))] [] (GPw X.2.1.2 (.inr (8, fs.set 9 (.ref (hY X.2.1.2 + 5))) :: zs X.2.1.2.2.1 (hY X.2.1.2 + 1) (G ++ [(9, 72)])))) :
    AG (setX X 4 3114) 39 [(0, .ref (hY X.2.1.2))] [] (GPw X.2.1.2 (.inr (8, fs) :: zs X.2.1.2.2.1 (hY X.2.1.2 + 1) G)) :=
  i_suba (c := 4) (s := 3114) (Nn := 72) (kd := 9) (q := hY X.2.1.2 + 5) (lv := [(0, .ref (hY X.2.1.2))]) (atype := .int) (nv := nI 72) (cA0 := X.2.1.2.2.1.1) (a0 := (72, .inl (fun _ => 0))) S hA hs0 hin fc8 rfl 39 42 9 hG.symm (by omega) (by decide) (by decide) zi_53 ((S 0 0 (Nat.zero_le _) (Nat.zero_le _)).2.2.2.2.2.1.2 0 _ rfl).2 (fun _ => rfl) (fun _ => rfl) (by decide +kernel) (by decide +kernel) (by show 72 * 4 ≤ 536870912; decide) zi_1055 (by decide) rfl rfl rfl (fun _ => rfl) (fun _ => rfl) (by rw [hfs]; decide) dX8_init_39 (fun c1 s1 h1 h2 st P h => g_bipush (S c1 s1 h1 h2) (nI 72) dX8_init_40 (by decide +kernel) h) dX8_init_42 dX8_init_44 k9
set_option maxHeartbeats 1000000 in
theorem m_st5 {X : Cx} (S : ∀ c s, c ≤ 13 → s ≤ 3624 → CX (setX X c s) cX8_init RX8 1 9 []) (hA : X.2.1.1 = fun q => hY X.2.1.2 ≤ q) (hs0 : (stX X).heap.size = hY X.2.1.2 + 1) (hin : X.1.2.2.2.2.2.2.2.2.1.name = "<init>") {fs : List Value} {G : List (Nat × Nat)} (hG : G.length = 5) (hfs : fs.length = 25)
    (k9 : AG (setX X 6 3258) 55 [(0, .ref (hY X.2.1.2))] [] (GPw X.2.1.2 (.inr (8, fs.set 10 (.ref (hY X.2.1.2 + 6))) :: zs X.2.1.2.2.1 (hY X.2.1.2 + 1) (G ++ [(10, 72)])))) :
    AG (setX X 5 3186) 47 [(0, .ref (hY X.2.1.2))] [] (GPw X.2.1.2 (.inr (8, fs) :: zs X.2.1.2.2.1 (hY X.2.1.2 + 1) G)) :=
  i_suba (c := 5) (s := 3186) (Nn := 72) (kd := 10) (q := hY X.2.1.2 + 6) (lv := [(0, .ref (hY X.2.1.2))]) (atype := .long) (nv := nI 72) (cA0 := X.2.1.2.2.1.2.1) (a0 := (72, .inr (.inl (fun _ => 0)))) S hA hs0 hin fc8 rfl 47 50 10 hG.symm (by omega) (by decide) (by decide) zi_120 ((S 0 0 (Nat.zero_le _) (Nat.zero_le _)).2.2.2.2.2.1.2 1 _ rfl).2 (fun _ => rfl) (fun _ => rfl) (by decide +kernel) (by decide +kernel) (by show 72 * 8 ≤ 536870912; decide) zi_1056 (by decide) rfl rfl rfl (fun _ => rfl) (fun _ => rfl) (by rw [hfs]; decide) dX8_init_47 (fun c1 s1 h1 h2 st P h => g_bipush (S c1 s1 h1 h2) (nI 72) dX8_init_48 (by decide +kernel) h) dX8_init_50 dX8_init_52 k9
set_option maxHeartbeats 1000000 in
theorem m_st6 {X : Cx} (S : ∀ c s, c ≤ 13 → s ≤ 3624 → CX (setX X c s) cX8_init RX8 1 9 []) (hA : X.2.1.1 = fun q => hY X.2.1.2 ≤ q) (hs0 : (stX X).heap.size = hY X.2.1.2 + 1) (hin : X.1.2.2.2.2.2.2.2.2.1.name = "<init>") {fs : List Value} {G : List (Nat × Nat)} (hG : G.length = 6) (hfs : fs.length = 25)
    (k9 : AG (setX X 7 3294) 63 [(0, .ref (hY X.2.1.2))] [] (GPw X.2.1.2 (.inr (8, fs.set 11 (.ref (hY X.2.1.2 + 7))) :: zs X.2.1.2.2.1 (hY X.2.1.2 + 1) (G ++ [(9, 36)])))) :
    AG (setX X 6 3258) 55 [(0, .ref (hY X.2.1.2))] [] (GPw X.2.1.2 (.inr (8, fs) :: zs X.2.1.2.2.1 (hY X.2.1.2 + 1) G)) :=
  i_suba (c := 6) (s := 3258) (Nn := 36) (kd := 9) (q := hY X.2.1.2 + 7) (lv := [(0, .ref (hY X.2.1.2))]) (atype := .int) (nv := nI 36) (cA0 := X.2.1.2.2.1.1) (a0 := (36, .inl (fun _ => 0))) S hA hs0 hin fc8 rfl 55 58 11 hG.symm (by omega) (by decide) (by decide) zi_53 ((S 0 0 (Nat.zero_le _) (Nat.zero_le _)).2.2.2.2.2.1.2 0 _ rfl).2 (fun _ => rfl) (fun _ => rfl) (by decide +kernel) (by decide +kernel) (by show 36 * 4 ≤ 536870912; decide) zi_1057 (by decide) rfl rfl rfl (fun _ => rfl) (fun _ => rfl) (by rw [hfs]; decide) dX8_init_55 (fun c1 s1 h1 h2 st P h => g_bipush (S c1 s1 h1 h2) (nI 36) dX8_init_56 (by decide +kernel) h) dX8_init_58 dX8_init_60 k9
set_option maxHeartbeats 1000000 in
theorem m_st7 {X : Cx} (S : ∀ c s, c ≤ 13 → s ≤ 3624 → CX (setX X c s) cX8_init RX8 1 9 []) (hA : X.2.1.1 = fun q => hY X.2.1.2 ≤ q) (hs0 : (stX X).heap.size = hY X.2.1.2 + 1) (hin : X.1.2.2.2.2.2.2.2.2.1.name = "<init>") {fs : List Value} {G : List (Nat × Nat)} (hG : G.length = 7) (hfs : fs.length = 25)
    (k9 : AG (setX X 8 3330) 71 [(0, .ref (hY X.2.1.2))] [] (GPw X.2.1.2 (.inr (8, fs.set 15 (.ref (hY X.2.1.2 + 8))) :: zs X.2.1.2.2.1 (hY X.2.1.2 + 1) (G ++ [(10, 36)])))) :
    AG (setX X 7 3294) 63 [(0, .ref (hY X.2.1.2))] [] (GPw X.2.1.2 (.inr (8, fs) :: zs X.2.1.2.2.1 (hY X.2.1.2 + 1) G)) :=
  i_suba (c := 7) (s := 3294) (Nn := 36) (kd := 10) (q := hY X.2.1.2 + 8) (lv := [(0, .ref (hY X.2.1.2))]) (atype := .long) (nv := nI 36) (cA0 := X.2.1.2.2.1.2.1) (a0 := (36, .inr (.inl (fun _ => 0)))) S hA hs0 hin fc8 rfl 63 66 15 hG.symm (by omega) (by decide) (by decide) zi_120 ((S 0 0 (Nat.zero_le _) (Nat.zero_le _)).2.2.2.2.2.1.2 1 _ rfl).2 (fun _ => rfl) (fun _ => rfl) (by decide +kernel) (by decide +kernel) (by show 36 * 8 ≤ 536870912; decide) zi_1061 (by decide) rfl rfl rfl (fun _ => rfl) (fun _ => rfl) (by rw [hfs]; decide) dX8_init_63 (fun c1 s1 h1 h2 st P h => g_bipush (S c1 s1 h1 h2) (nI 36) dX8_init_64 (by decide +kernel) h) dX8_init_66 dX8_init_68 k9
set_option maxHeartbeats 1000000 in
theorem m_st8 {X : Cx} (S : ∀ c s, c ≤ 13 → s ≤ 3624 → CX (setX X c s) cX8_init RX8 1 9 []) (hA : X.2.1.1 = fun q => hY X.2.1.2 ≤ q) (hs0 : (stX X).heap.size = hY X.2.1.2 + 1) (hin : X.1.2.2.2.2.2.2.2.2.1.name = "<init>") {fs : List Value} {G : List (Nat × Nat)} (hG : G.length = 8) (hfs : fs.length = 25)
    (k9 : AG (setX X 9 3366) 79 [(0, .ref (hY X.2.1.2))] [] (GPw X.2.1.2 (.inr (8, fs.set 16 (.ref (hY X.2.1.2 + 9))) :: zs X.2.1.2.2.1 (hY X.2.1.2 + 1) (G ++ [(9, 36)])))) :
    AG (setX X 8 3330) 71 [(0, .ref (hY X.2.1.2))] [] (GPw X.2.1.2 (.inr (8, fs) :: zs X.2.1.2.2.1 (hY X.2.1.2 + 1) G)) :=
  i_suba (c := 8) (s := 3330) (Nn := 36) (kd := 9) (q := hY X.2.1.2 + 9) (lv := [(0, .ref (hY X.2.1.2))]) (atype := .int) (nv := nI 36) (cA0 := X.2.1.2.2.1.1) (a0 := (36, .inl (fun _ => 0))) S hA hs0 hin fc8 rfl 71 74 16 hG.symm (by omega) (by decide) (by decide) zi_53 ((S 0 0 (Nat.zero_le _) (Nat.zero_le _)).2.2.2.2.2.1.2 0 _ rfl).2 (fun _ => rfl) (fun _ => rfl) (by decide +kernel) (by decide +kernel) (by show 36 * 4 ≤ 536870912; decide) zi_1062 (by decide) rfl rfl rfl (fun _ => rfl) (fun _ => rfl) (by rw [hfs]; decide) dX8_init_71 (fun c1 s1 h1 h2 st P h => g_bipush (S c1 s1 h1 h2) (nI 36) dX8_init_72 (by decide +kernel) h) dX8_init_74 dX8_init_76 k9
set_option maxHeartbeats 1000000 in
theorem m_st9 {X : Cx} (S : ∀ c s, c ≤ 13 → s ≤ 3624 → CX (setX X c s) cX8_init RX8 1 9 []) (hA : X.2.1.1 = fun q => hY X.2.1.2 ≤ q) (hs0 : (stX X).heap.size = hY X.2.1.2 + 1) (hin : X.1.2.2.2.2.2.2.2.2.1.name = "<init>") {fs : List Value} {G : List (Nat × Nat)} (hG : G.length = 9) (hfs : fs.length = 25)
    (k9 : AG (setX X 10 3402) 87 [(0, .ref (hY X.2.1.2))] [] (GPw X.2.1.2 (.inr (8, fs.set 18 (.ref (hY X.2.1.2 + 10))) :: zs X.2.1.2.2.1 (hY X.2.1.2 + 1) (G ++ [(9, 36)])))) :
    AG (setX X 9 3366) 79 [(0, .ref (hY X.2.1.2))] [] (GPw X.2.1.2 (.inr (8, fs) :: zs X.2.1.2.2.1 (hY X.2.1.2 + 1) G)) :=
  i_suba (c := 9) (s := 3366) (Nn := 36) (kd := 9) (q := hY X.2.1.2 + 10) (lv := [(0, .ref (hY X.2.1.2))]) (atype := .int) (nv := nI 36) (cA0 := X.2.1.2.2.1.1) (a0 := (36, .inl (fun _ => 0))) S hA hs0 hin fc8 rfl 79 82 18 hG.symm (by omega) (by decide) (by decide) zi_53 ((S 0 0 (Nat.zero_le _) (Nat.zero_le _)).2.2.2.2.2.1.2 0 _ rfl).2 (fun _ => rfl) (fun _ => rfl) (by decide +kernel) (by decide +kernel) (by show 36 * 4 ≤ 536870912; decide) zi_1064 (by decide) rfl rfl rfl (fun _ => rfl) (fun _ => rfl) (by rw [hfs]; decide) dX8_init_79 (fun c1 s1 h1 h2 st P h => g_bipush (S c1 s1 h1 h2) (nI 36) dX8_init_80 (by decide +kernel) h) dX8_init_82 dX8_init_84 k9
set_option maxHeartbeats 1000000 in
theorem m_st10 {X : Cx} (S : ∀ c s, c ≤ 13 → s ≤ 3624 → CX (setX X c s) cX8_init RX8 1 9 []) (hA : X.2.1.1 = fun q => hY X.2.1.2 ≤ q) (hs0 : (stX X).heap.size = hY X.2.1.2 + 1) (hin : X.1.2.2.2.2.2.2.2.2.1.name = "<init>") {fs : List Value} {G : List (Nat × Nat)} (hG : G.length = 10) (hfs : fs.length = 25)
    (k9 : AG (setX X 11 3438) 95 [(0, .ref (hY X.2.1.2))] [] (GPw X.2.1.2 (.inr (8, fs.set 19 (.ref (hY X.2.1.2 + 11))) :: zs X.2.1.2.2.1 (hY X.2.1.2 + 1) (G ++ [(10, 36)])))) :
    AG (setX X 10 3402) 87 [(0, .ref (hY X.2.1.2))] [] (GPw X.2.1.2 (.inr (8, fs) :: zs X.2.1.2.2.1 (hY X.2.1.2 + 1) G)) :=
  i_suba (c := 10) (s := 3402) (Nn := 36) (kd := 10) (q := hY X.2.1.2 + 11) (lv := [(0, .ref (hY X.2.1.2))]) (atype := .long) (nv := nI 36) (cA0 := X.2.1.2.2.1.2.1) (a0 := (36, .inr (.inl (fun _ => 0)))) S hA hs0 hin fc8 rfl 87 90 19 hG.symm (by omega) (by decide) (by decide) zi_120 ((S 0 0 (Nat.zero_le _) (Nat.zero_le _)).2.2.2.2.2.1.2 1 _ rfl).2 (fun _ => rfl) (fun _ => rfl) (by decide +kernel) (by decide +kernel) (by show 36 * 8 ≤ 536870912; decide) zi_1065 (by decide) rfl rfl rfl (fun _ => rfl) (fun _ => rfl) (by rw [hfs]; decide) dX8_init_87 (fun c1 s1 h1 h2 st P h => g_bipush (S c1 s1 h1 h2) (nI 36) dX8_init_88 (by decide +kernel) h) dX8_init_90 dX8_init_92 k9
set_option maxHeartbeats 1000000 in
theorem m_st11 {X : Cx} (S : ∀ c s, c ≤ 13 → s ≤ 3624 → CX (setX X c s) cX8_init RX8 1 9 []) (hA : X.2.1.1 = fun q => hY X.2.1.2 ≤ q) (hs0 : (stX X).heap.size = hY X.2.1.2 + 1) (hin : X.1.2.2.2.2.2.2.2.2.1.name = "<init>") {fs : List Value} {G : List (Nat × Nat)} (hG : G.length = 11) (hfs : fs.length = 25)
    (k9 : AG (setX X 12 3588) 104 [(0, .ref (hY X.2.1.2))] [] (GPw X.2.1.2 (.inr (8, fs.set 20 (.ref (hY X.2.1.2 + 12))) :: zs X.2.1.2.2.1 (hY X.2.1.2 + 1) (G ++ [(9, 150)])))) :
    AG (setX X 11 3438) 95 [(0, .ref (hY X.2.1.2))] [] (GPw X.2.1.2 (.inr (8, fs) :: zs X.2.1.2.2.1 (hY X.2.1.2 + 1) G)) :=
  i_suba (c := 11) (s := 3438) (Nn := 150) (kd := 9) (q := hY X.2.1.2 + 12) (lv := [(0, .ref (hY X.2.1.2))]) (atype := .int) (nv := nI 150) (cA0 := X.2.1.2.2.1.1) (a0 := (150, .inl (fun _ => 0))) S hA hs0 hin fc8 rfl 95 99 20 hG.symm (by omega) (by decide) (by decide) zi_53 ((S 0 0 (Nat.zero_le _) (Nat.zero_le _)).2.2.2.2.2.1.2 0 _ rfl).2 (fun _ => rfl) (fun _ => rfl) (by decide +kernel) (by decide +kernel) (by show 150 * 4 ≤ 536870912; decide) zi_1066 (by decide) rfl rfl rfl (fun _ => rfl) (fun _ => rfl) (by rw [hfs]; decide) dX8_init_95 (fun c1 s1 h1 h2 st P h => i_sipush (S c1 s1 h1 h2) (nI 150) dX8_init_96 (by decide +kernel) h) dX8_init_99 dX8_init_101 k9
set_option maxHeartbeats 1000000 in
theorem m_st12 {X : Cx} (S : ∀ c s, c ≤ 13 → s ≤ 3624 → CX (setX X c s) cX8_init RX8 1 9 []) (hA : X.2.1.1 = fun q => hY X.2.1.2 ≤ q) (hs0 : (stX X).heap.size = hY X.2.1.2 + 1) (hin : X.1.2.2.2.2.2.2.2.2.1.name = "<init>") {fs : List Value} {G : List (Nat × Nat)} (hG : G.length = 12) (hfs : fs.length = 25)
    (k9 : AG (setX X 13 3624) 112 [(0, .ref (hY X.2.1.2))] [] (GPw X.2.1.2 (.inr (8, fs.set 24 (.ref (hY X.2.1.2 + 13))) :: zs X.2.1.2.2.1 (hY X.2.1.2 + 1) (G ++ [(9, 36)])))) :
    AG (setX X 12 3588) 104 [(0, .ref (hY X.2.1.2))] [] (GPw X.2.1.2 (.inr (8, fs) :: zs X.2.1.2.2.1 (hY X.2.1.2 + 1) G)) :=
  i_suba (c := 12) (s := 3588) (Nn := 36) (kd := 9) (q := hY X.2.1.2 + 13) (lv := [(0, .ref (hY X.2.1.2))]) (atype := .int) (nv := nI 36) (cA0 := X.2.1.2.2.1.1) (a0 := (36, .inl (fun _ => 0))) S hA hs0 hin fc8 rfl 104 107 24 hG.symm (by omega) (by decide) (by decide) zi_53 ((S 0 0 (Nat.zero_le _) (Nat.zero_le _)).2.2.2.2.2.1.2 0 _ rfl).2 (fun _ => rfl) (fun _ => rfl) (by decide +kernel) (by decide +kernel) (by show 36 * 4 ≤ 536870912; decide) zi_1070 (by decide) rfl rfl rfl (fun _ => rfl) (fun _ => rfl) (by rw [hfs]; decide) dX8_init_104 (fun c1 s1 h1 h2 st P h => g_bipush (S c1 s1 h1 h2) (nI 36) dX8_init_105 (by decide +kernel) h) dX8_init_107 dX8_init_109 k9
theorem gM_cut : gM = (8, 0) :: [(10, 513), (10, 2052), (10, 513), (10, 36), (9, 72), (10, 72), (9, 36), (10, 36), (9, 36), (9, 36), (10, 36), (9, 150), (9, 36)] := by decide +kernel
theorem gM_ne : ∀ t ∈ gM, t.1 ≠ 11 := by decide +kernel
set_option maxHeartbeats 1000000 in
theorem m_end {X : Cx} (S4 : CX (setX X 13 3624) cX8_init RX8 1 9 []) (hA : X.2.1.1 = fun q => hY X.2.1.2 ≤ q) {M1 : Mem} (h1 : MD_begins (1 : Int32) (1 : Int32) Mz = some ((), M1))
    (hret : ∀ (pc : Nat) (lv : List (Nat × Value)), decode cX8_init pc = .ok (.return_, 1) → AG (setX X 13 3624) pc lv [] (GPw X.2.1.2 (cellsY (X.2.1.2.1, X.2.1.2.2.1, gM, hY X.2.1.2) M1))) :
    AG (setX X 13 3624) 112 [(0, .ref (hY X.2.1.2))] [] (fun H => va_P X.2.1.2.1 vwCl (wl (X.2.1.2.1, X.2.1.2.2.1, gM, hY X.2.1.2) Mz) H) := by
  let X' : Cx := (X.1, (X.2.1.1, (X.2.1.2.1, X.2.1.2.2.1, gM, hY X.2.1.2)), (setX X 13 3624).2.2)
  have S' : CX X' cX8_init RX8 1 9 gM := ⟨S4.1, S4.2.1, S4.2.2.1, S4.2.2.2.1, S4.2.2.2.2.1, S4.2.2.2.2.2.1, (fun q hq => by
    show X.2.1.1 q
    rw [hA]
    obtain ⟨o, _, rfl⟩ := hq
    exact Nat.le_add_right _ _), S4.2.2.2.2.2.2.2.1, S4.2.2.2.2.2.2.2.2.1, S4.2.2.2.2.2.2.2.2.2.1, S4.2.2.2.2.2.2.2.2.2.2.1, S4.2.2.2.2.2.2.2.2.2.2.2.1, rfl, S4.2.2.2.2.2.2.2.2.2.2.2.2.2⟩
  have key : AW X' 112 [(0, .ref (hY X'.2.1.2 + 0))] [] Mz := by
    refine r_aload_n S' dX8_init_112 0 rfl ?_
    refine r_iconst S' (1 : Int32) dX8_init_113 rfl ?_
    refine r_iconst S' (1 : Int32) dX8_init_114 rfl ?_
    refine rc_V S' (rn_V S' fc8 (by decide) (c_MD_begins _ _ (gYX S') (1 : Int32) (1 : Int32) Mz _ _ h1) wdX8_begins q_687 ⟨Nat.le_of_ble_eq_true rfl, Nat.le_of_ble_eq_true rfl⟩ rfl (Nat.le_of_ble_eq_true rfl) dX8_init_115) ?_
    exact fun H locs ls hl hP hS => hret 118 _ dX8_init_118 H locs ls hl (by
      show va_P _ vwCl (wE (hY X.2.1.2) (cellsY (X.2.1.2.1, X.2.1.2.2.1, gM, hY X.2.1.2) M1)) H
      have hw := wl_E (X.2.1.2.1, X.2.1.2.2.1, gM, hY X.2.1.2) M1
      have hP' : va_P X.2.1.2.1 vwCl (wl (X.2.1.2.1, X.2.1.2.2.1, gM, hY X.2.1.2) M1) H := hP
      rw [hw] at hP'
      exact hP') hS
  exact fun H locs ls hl hP hS => key H locs ls hl hP hS
set_option maxRecDepth 100000 in
set_option maxHeartbeats 2000000 in
theorem k_X8 (l : Launch) (Y : Env1) (hG : gY Y = []) (M1 : Mem) (h1 : MD_begins (1 : Int32) (1 : Int32) Mz = some ((), M1)) : Ini l Y yX8_init cX8_init 1 9 13 3624 [] (.inr (8, dfl 8)) (cellsY (Y.1, Y.2.1, gM, hY Y) M1) := by
  refine met_ini (own := RX8) (by decide +kernel) rfl rfl hG (Nat.le_of_ble_eq_true rfl) (fun X S hY1 hl1 hA hs0 hin hAO hret => ?_)
  subst hY1
  subst hl1
  have S0 := S 0 0 (Nat.zero_le _) (Nat.zero_le _)
  show AG (setX X 0 0) 0 [(0, .ref (hY X.2.1.2))] [] (GPw X.2.1.2 (.inr (8, dfl 8) :: zs X.2.1.2.2.1 (hY X.2.1.2 + 1) []))
  refine g_aload_n S0 dX8_init_0 0 rfl ?_
  refine i_obj S0 (by decide) zi_994 zi_26 zi_27 (Nat.le_of_ble_eq_true rfl) dX8_init_1 ?_
  refine m_st0 S hA hs0 hin (by rfl) (by simp [dfl, fl]) ?_
  refine m_st1 S hA hs0 hin (by rfl) (by simp [dfl, fl]) ?_
  refine m_st2 S hA hs0 hin (by rfl) (by simp [dfl, fl]) ?_
  refine m_st3 S hA hs0 hin (by rfl) (by simp [dfl, fl]) ?_
  refine m_st4 S hA hs0 hin (by rfl) (by simp [dfl, fl]) ?_
  refine m_st5 S hA hs0 hin (by rfl) (by simp [dfl, fl]) ?_
  refine m_st6 S hA hs0 hin (by rfl) (by simp [dfl, fl]) ?_
  refine m_st7 S hA hs0 hin (by rfl) (by simp [dfl, fl]) ?_
  refine m_st8 S hA hs0 hin (by rfl) (by simp [dfl, fl]) ?_
  refine m_st9 S hA hs0 hin (by rfl) (by simp [dfl, fl]) ?_
  refine m_st10 S hA hs0 hin (by rfl) (by simp [dfl, fl]) ?_
  refine m_st11 S hA hs0 hin (by rfl) (by simp [dfl, fl]) ?_
  refine m_st12 S hA hs0 hin (by rfl) (by simp [dfl, fl]) ?_
  have ef : (((((((((((((dfl 8).set 0 (.ref (hY X.2.1.2 + 1))).set 1 (.ref (hY X.2.1.2 + 2))).set 2 (.ref (hY X.2.1.2 + 3))).set 5 (.ref (hY X.2.1.2 + 4))).set 9 (.ref (hY X.2.1.2 + 5))).set 10 (.ref (hY X.2.1.2 + 6))).set 11 (.ref (hY X.2.1.2 + 7))).set 15 (.ref (hY X.2.1.2 + 8))).set 16 (.ref (hY X.2.1.2 + 9))).set 18 (.ref (hY X.2.1.2 + 10))).set 19 (.ref (hY X.2.1.2 + 11))).set 20 (.ref (hY X.2.1.2 + 12))).set 24 (.ref (hY X.2.1.2 + 13)) = zfs (hY X.2.1.2) 8 := rfl
  rw [ef]
  have k8 := m_end (S 13 3624 (by decide) (by decide)) hA h1 hret
  refine fun H locs ls hl hP hS => k8 H locs ls hl ?_ hS
  have hz := z_P0 (Y := (X.2.1.2.1, X.2.1.2.2.1, gM, hY X.2.1.2)) gM_ne
  show va_P X.2.1.2.1 vwCl (wl (X.2.1.2.1, X.2.1.2.2.1, gM, hY X.2.1.2) Mz) H
  rw [hz]
  show va_P X.2.1.2.1 vwCl (wE (hY X.2.1.2) (zs X.2.1.2.2.1 (hY X.2.1.2) gM)) H
  rw [gM_cut, zs_cons]
  exact hP
