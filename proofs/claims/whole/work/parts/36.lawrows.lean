/-! 36.lawrows: the law's world, its calls -/
def YM (Y : Env1) : Env1 := (Y.1, Y.2.1, gM, hY Y + 281)
def LWP (Y : Env1) (cD : ClassId) (Mc Mm : Mem) (vo : Nat → Int64) (vd : Nat → UInt64) : Heap → Prop := fun H => va_P Y.1 vwCl (wl Y Mc) H ∧ va_P Y.1 vwCl (wl (YM Y) Mm) H ∧ va_P Y.1 vwCl [(hY Y + 295, .inl (Y.2.1.2.1, 1, .inr (.inl vo)))] H ∧ va_P Y.1 vwCl [(hY Y + 296, .inl (cD, 1, .inr (.inr (.inr (.inl vd)))))] H
theorem AYC {Y : Env1} (hG : gY Y = gC) {q : Nat} (h : AY Y q) : hY Y ≤ q ∧ q < hY Y + 281 := by
  obtain ⟨o, ho, rfl⟩ := h
  rw [hG] at ho
  have : gC.length = 281 := by decide +kernel
  omega
theorem AYM {Y : Env1} {q : Nat} (h : AY (YM Y) q) : hY Y + 281 ≤ q ∧ q < hY Y + 295 := by
  obtain ⟨o, ho, rfl⟩ := h
  have h1 : o < gM.length := ho
  have : gM.length = 14 := by decide +kernel
  show hY Y + 281 ≤ hY Y + 281 + o ∧ hY Y + 281 + o < hY Y + 295
  omega
theorem one_kept {D : va_G} {a : Nat} {e : va_E} {H H1 : Heap} (h : va_P D vwCl [(a, e)] H) (hk : ∀ q : Nat, q < H.size → q = a → H1[q]? = H[q]?) : va_P D vwCl [(a, e)] H1 := h.kept (fun k q hq => by
  match k, hq with
  | 0, hq => cases hq; exact hk a (h 0 _ rfl).lt rfl)
theorem LWP.cls {Y : Env1} (hG : gY Y = gC) {cD : ClassId} {Mc Mm Mc1 : Mem} {vo : Nat → Int64} {vd : Nat → UInt64} : ∀ H H1, LWP Y cD Mc Mm vo vd H → va_P Y.1 vwCl (wl Y Mc1) H1 → (∀ q : Nat, q < H.size → ¬ AY Y q → H1[q]? = H[q]?) → LWP Y cD Mc1 Mm vo vd H1 := fun H H1 h h1 hk =>
  ⟨h1, h.2.1.kept (fun k q hq => hk q.1 (h.2.1 k q hq).lt (fun z => by have h2 := AYM ((wl_D (YM Y) Mm).2 k q hq); have := AYC hG z; omega)), one_kept h.2.2.1 (fun q hq e => hk q hq (fun z => by have := AYC hG z; omega)), one_kept h.2.2.2 (fun q hq e => hk q hq (fun z => by have := AYC hG z; omega))⟩
theorem LWP.mod {Y : Env1} (hG : gY Y = gC) {cD : ClassId} {Mc Mm Mm1 : Mem} {vo : Nat → Int64} {vd : Nat → UInt64} : ∀ H H1, LWP Y cD Mc Mm vo vd H → va_P (YM Y).1 vwCl (wl (YM Y) Mm1) H1 → (∀ q : Nat, q < H.size → ¬ AY (YM Y) q → H1[q]? = H[q]?) → LWP Y cD Mc Mm1 vo vd H1 := fun H H1 h h1 hk =>
  ⟨h.1.kept (fun k q hq => hk q.1 (h.1 k q hq).lt (fun z => by have h2 := AYC hG ((wl_D Y Mc).2 k q hq); have := AYM z; omega)), h1, one_kept h.2.2.1 (fun q hq e => hk q hq (fun z => by have := AYM z; omega)), one_kept h.2.2.2 (fun q hq e => hk q hq (fun z => by have := AYM z; omega))⟩
theorem LWP.wrL {Y : Env1} (hG : gY Y = gC) {cD : ClassId} {Mc Mm Mc1 : Mem} {vo vo1 : Nat → Int64} {vd : Nat → UInt64} : ∀ H H1, LWP Y cD Mc Mm vo vd H → PE Y Mc1 [(hY Y + 295, .inl (Y.2.1.2.1, 1, .inr (.inl vo1)))] H1 → (∀ q : Nat, q < H.size → ¬ BW Y (hY Y + 295) q → H1[q]? = H[q]?) → LWP Y cD Mc1 Mm vo1 vd H1 := fun H H1 h h1 hk =>
  ⟨h1.reg, h.2.1.kept (fun k q hq => hk q.1 (h.2.1 k q hq).lt (fun z => by have h2 := AYM ((wl_D (YM Y) Mm).2 k q hq); rcases z with z | z; have := AYC hG z; omega; omega)), h1.ex, one_kept h.2.2.2 (fun q hq e => hk q hq (fun z => by rcases z with z | z; have := AYC hG z; omega; omega))⟩
theorem LWP.wrD {Y : Env1} (hG : gY Y = gC) {cD : ClassId} {Mc Mm Mc1 : Mem} {vo : Nat → Int64} {vd vd1 : Nat → UInt64} : ∀ H H1, LWP Y cD Mc Mm vo vd H → PE Y Mc1 [(hY Y + 296, .inl (cD, 1, .inr (.inr (.inr (.inl vd1)))))] H1 → (∀ q : Nat, q < H.size → ¬ BW Y (hY Y + 296) q → H1[q]? = H[q]?) → LWP Y cD Mc1 Mm vo vd1 H1 := fun H H1 h h1 hk =>
  ⟨h1.reg, h.2.1.kept (fun k q hq => hk q.1 (h.2.1 k q hq).lt (fun z => by have h2 := AYM ((wl_D (YM Y) Mm).2 k q hq); rcases z with z | z; have := AYC hG z; omega; omega)), one_kept h.2.2.1 (fun q hq e => hk q hq (fun z => by rcases z with z | z; have := AYC hG z; omega; omega)), h1.ex⟩
/-- what the law's walk may use -/
def LX (X : Cx) (b L : Nat) (xs : Nat → Int32) (cD : ClassId) : Prop :=
  (∀ c s, c ≤ 601024 → s ≤ 7293034 → CX (setX X c s) cL_law RL 9 12 gC) ∧ X.2.1.1 = (fun q => hY X.2.1.2 ≤ q) ∧ X.1.2.2.2.2.1.heap.size = hY X.2.1.2 ∧ va_X b L xs X.1.2.2.2.2.1 X.1.2.2.2.2.1.heap ∧ b < X.1.2.2.2.2.1.heap.size ∧ L ≤ 2048 ∧ THB X.2.1.1 X.1.2.2.2.2.1.heap X.1.2.2.2.2.1 ∧ va_K X.2.1.2.1 vwCl [(cD, .double)] X.1.2.2.2.2.1 ∧ va_Nc (exn 2) (exn 1) X.1.2.2.2.2.1 ∧ va_Nc (exn 3) (exn 1) X.1.2.2.2.2.1 ∧ va_Nc (exn 3) (exn 2) X.1.2.2.2.2.1 ∧ X.1.2.1.stackTraces = false ∧ (601024 = X.1.2.2.2.1.cells ∧ 7293034 = X.1.2.2.2.1.slots)
theorem LX.G {X : Cx} {b L : Nat} {xs : Nat → Int32} {cD : ClassId} (Z : LX X b L xs cD) : gY X.2.1.2 = gC := gYX (X := setX X 0 0) (Z.1 0 0 (Nat.zero_le _) (Nat.zero_le _))
theorem LX.K {X : Cx} {b L : Nat} {xs : Nat → Int32} {cD : ClassId} (Z : LX X b L xs cD) : va_K X.2.1.2.1 vwCl (tysY X.2.1.2) X.1.2.2.2.2.1 := (Z.1 0 0 (Nat.zero_le _) (Nat.zero_le _)).2.2.2.2.2.1
theorem LX.aC {X : Cx} {b L : Nat} {xs : Nat → Int32} {cD : ClassId} (Z : LX X b L xs cD) : ∀ q, AY X.2.1.2 q → X.2.1.1 q := fun q h => by rw [Z.2.1]; exact (AYC Z.G h).1
theorem LX.aM {X : Cx} {b L : Nat} {xs : Nat → Int32} {cD : ClassId} (Z : LX X b L xs cD) : ∀ q, AY (YM X.2.1.2) q → X.2.1.1 q := fun q h => by rw [Z.2.1]; have := AYM h; show hY X.2.1.2 ≤ q; omega
theorem g_sld {X : Cx} {b L : Nat} {xs : Nat → Int32} {cD : ClassId} (Z : LX X b L xs cD) {c s : Nat} (S : CX (setX X c s) cL_law RL 9 12 gC) {pc : Nat} {lv : List (Nat × Value)} {st : List Value} {P : Heap → Prop} {z : Int32} (j : Nat) (hz : z = nI j) (hj : j < L) (d : decode cL_law pc = .ok (.iaload, 1)) (k9 : AG (setX X c s) (pc + 1) lv (.int (xs j) :: st) P) : AG (setX X c s) pc lv (.int z :: .ref b :: st) P := fun H locs ls hl hP hS => by
  have hL := Z.2.2.2.2.2.1
  subst hz
  refine va_sld S.1 S.2.1 Z.2.2.2.1 Z.2.2.2.2.1 (fun h => ?_) hS (vp_in_nI hj (by omega)) d ?_
  · have h2 : X.2.1.1 b := h
    rw [Z.2.1] at h2
    have h3 : hY X.2.1.2 ≤ b := h2
    have := Z.2.2.1
    have := Z.2.2.2.2.1
    omega
  · rw [nI_clamp (show j < 2 ^ 31 by omega)]
    exact k9 H locs ls hl hP hS
theorem g_slen {X : Cx} {b L : Nat} {xs : Nat → Int32} {cD : ClassId} (Z : LX X b L xs cD) {c s : Nat} (S : CX (setX X c s) cL_law RL 9 12 gC) {pc : Nat} {lv : List (Nat × Value)} {st : List Value} {P : Heap → Prop} (d : decode cL_law pc = .ok (.arraylength, 1)) (k9 : AG (setX X c s) (pc + 1) lv (.int (nI L) :: st) P) : AG (setX X c s) pc lv (.ref b :: st) P := fun H locs ls hl hP hS => by
  refine va_slen S.1 S.2.1 Z.2.2.2.1 Z.2.2.2.2.1 (fun h => ?_) hS d (k9 H locs ls hl hP hS)
  have h2 : X.2.1.1 b := h
  rw [Z.2.1] at h2
  have h3 : hY X.2.1.2 ≤ b := h2
  have := Z.2.2.1
  have := Z.2.2.2.2.1
  omega
theorem g_widen {X : Cx} {c s c1 s1 : Nat} {pc : Nat} {lv : List (Nat × Value)} {st : List Value} {P : Heap → Prop} (hc : c ≤ c1) (hs : s ≤ s1) (k : AG (setX X c1 s1) pc lv st P) : AG (setX X c s) pc lv st P := fun H locs ls hl hP hS => W.widen hc hs (k H locs ls hl hP hS)
/-- a wrapper's words, and its call -/
def WdW (y : MethodName) (b : ByteArray) (mL : Nat) (hh : List (Nat × Nat × Nat × Nat)) (nA : Nat) : Prop := Cond.codeWith y b mL (some .int) hh ∈ TBL ∧ Cond.static y ∈ TBL ∧ Cond.initialized y.cls ∈ TBL ∧ (y.cls ≠ "java/lang/invoke/MethodHandle" ∧ y.cls ≠ "java/lang/invoke/VarHandle") ∧ (parseMethodDescriptor y.desc).map (fun d => d.parameters.length) = some nA
set_option maxHeartbeats 2000000 in
theorem gw {X : Cx} {b L : Nat} {xs : Nat → Int32} {cD : ClassId} (Z : LX X b L xs cD) {c s : Nat} (S : CX (setX X c s) cL_law RL 9 12 gC) {pc : Nat} {lv : List (Nat × Value)} {st rest : List Value} {P P1 : Heap → Prop} {Mc Mc1 : Mem} {y : MethodName} {bb : ByteArray} {mL idx mc ms ao : Nat} {hh : List (Nat × Nat × Nat × Nat)} {As : List Value} {e e1 : va_E} {q : ClassId × FieldType} {k0 : Int32}
    (hM : WC X.1.2.1 X.2.1.2 y bb mL hh 8 mc ms As ao e e1 q Mc k0 Mc1) (hao : hY X.2.1.2 ≤ ao) (hq : va_K X.2.1.2.1 vwCl [q] X.1.2.2.2.2.1) (hP1 : ∀ H, P H → va_P X.2.1.2.1 vwCl (wl X.2.1.2 Mc) H ∧ va_P X.2.1.2.1 vwCl [(ao, e)] H) (wd : WdW y bb mL hh As.length) (hl9 : Cond.methodLink RL idx y ∈ TBL) (hmL : mL ≤ 21) (hc : c + mc ≤ 601024) (hs : s + ms ≤ 7293034) (hst : st = As.reverse ++ rest) (hrest : (rest.map fun v => v.category).sum ≤ 8) (d : decode cL_law pc = .ok (.invokestatic idx, 3))
    (hgo : ∀ H H1, P H → PE X.2.1.2 Mc1 [(ao, e1)] H1 → (∀ q : Nat, q < H.size → ¬ BW X.2.1.2 ao q → H1[q]? = H[q]?) → P1 H1) (k9 : AG (setX X (c + mc) (s + ms)) (pc + 3) lv (.int k0 :: rest) P1) : AG (setX X c s) pc lv st P := fun H locs ls hl hP hS => by
  have hB : ∀ q, BW X.2.1.2 ao q → X.2.1.1 q := fun q h => by
    rcases h with h | h
    · exact Z.aC q h
    · rw [Z.2.1, h]; exact hao
  refine va_calli (vx_runSW (hh := hh) ⟨S.1, S.2.1, S.2.2.1, S.2.2.2.1, S.2.2.2.2.1⟩ hM ⟨⟨rfl, rfl, Nat.le_trans (show 8 + 1 ≤ 12 by decide) S.2.2.2.2.2.2.2.2.1, Nat.le_trans (by show 8 + (mL + 11) + 40 * 8 ≤ 40 * 12; omega) S.2.2.2.2.2.2.2.2.2.1, hin_of S wd.1, List.mem_cons_self⟩, S.2.2.2.2.1 _ wd.1, S.2.2.2.2.1 _ wd.2.2.1, wd.2.2.2.1, hlen_of wd.2.2.2.2, S.2.2.2.2.1 _ hl9, S.2.2.2.2.1 _ wd.2.1⟩ ⟨PW.blind, fun U hU hW => ⟨rfl, ⟨by rw [hU]; exact (hP1 H hP).1, va_K.moved hW.alike Z.K, fun w hw => isN_warm (nst_is hw) hW (SN S w hw)⟩, by rw [hU]; exact (hP1 H hP).2, by rw [hU]; exact (Z.2.2.2.2.2.2.1.go hS hW).narrow hB, va_K.moved hW.alike hq, va_Nc.moved hW.alike Z.2.2.2.2.2.2.2.2.1, va_Nc.moved hW.alike Z.2.2.2.2.2.2.2.2.2.1, va_Nc.moved hW.alike Z.2.2.2.2.2.2.2.2.2.2.1⟩⟩ rfl rfl (hl.1.trans S.2.2.2.2.2.2.2.1) hst (lv_room hrest) d ⟨by rw [← Z.2.2.2.2.2.2.2.2.2.2.2.2.1]; exact hc, by rw [← Z.2.2.2.2.2.2.2.2.2.2.2.2.2]; exact hs⟩) hS (fun q _ hq => hB q hq) (fun q hq => hB q hq) (fun r9 u t H1 locs1 ht hvm hp hB2 hz hk hS1 => ?_)
  subst hp
  exact k9 H1 locs1 ls hl (hgo H H1 hP (by rw [← ht]; exact hB2) hk) hS1
theorem wdL_begin : WdW yL_begin cL_begin 5 [(0, 10, 13, 13)] 4 := ⟨q_1161, q_1162, q_1163, by decide +kernel, by decide +kernel⟩
theorem wdL_setHeight : WdW yL_setHeight cL_setHeight 5 [(0, 10, 13, 18), (0, 10, 17, 13)] 4 := ⟨q_1164, q_1165, q_1166, by decide +kernel, by decide +kernel⟩
theorem wdL_setDrain : WdW yL_setDrain cL_setDrain 5 [(0, 17, 20, 18)] 4 := ⟨q_1167, q_1168, q_1169, by decide +kernel, by decide +kernel⟩
theorem wdL_setGate : WdW yL_setGate cL_setGate 6 [(0, 12, 15, 18), (0, 12, 19, 13)] 5 := ⟨q_1170, q_1171, q_1172, by decide +kernel, by decide +kernel⟩
theorem wdL_random : WdW yL_random cL_random 5 [(0, 10, 13, 13)] 4 := ⟨q_1173, q_1174, q_1175, by decide +kernel, by decide +kernel⟩
theorem wdL_cell : WdW yL_cell cL_cell 5 [(0, 10, 13, 18), (0, 10, 17, 13)] 4 := ⟨q_1176, q_1177, q_1178, by decide +kernel, by decide +kernel⟩
theorem wdL_between : WdW yL_between cL_between 6 [(0, 12, 15, 18)] 5 := ⟨q_1179, q_1180, q_1181, by decide +kernel, by decide +kernel⟩
theorem wdL_count : WdW yL_count cL_count 4 [(0, 9, 12, 13)] 3 := ⟨q_1182, q_1183, q_1184, by decide +kernel, by decide +kernel⟩
theorem wdL_pour : WdW yL_pour cL_pour 5 [(0, 10, 13, 18), (0, 10, 17, 13), (0, 10, 21, 45)] 4 := ⟨q_1185, q_1186, q_1187, by decide +kernel, by decide +kernel⟩
theorem wdL_rain : WdW yL_rain cL_rain 4 [(0, 9, 12, 13), (0, 9, 15, 45)] 3 := ⟨q_1188, q_1189, q_1190, by decide +kernel, by decide +kernel⟩
theorem wdL_evaporate : WdW yL_evaporate cL_evaporate 4 [(0, 9, 12, 13)] 3 := ⟨q_1191, q_1192, q_1193, by decide +kernel, by decide +kernel⟩
theorem wdL_take : WdW yL_take cL_take 5 [(0, 10, 13, 18), (0, 10, 17, 13)] 4 := ⟨q_1194, q_1195, q_1196, by decide +kernel, by decide +kernel⟩
theorem wdL_balance : WdW yL_balance cL_balance 4 [(0, 8, 11, 13)] 3 := ⟨q_1197, q_1198, q_1199, by decide +kernel, by decide +kernel⟩
theorem wdL_lake : WdW yL_lake cL_lake 5 [(0, 10, 13, 18), (0, 10, 17, 13)] 4 := ⟨q_1200, q_1201, q_1202, by decide +kernel, by decide +kernel⟩
theorem wdL_lakeCells : WdW yL_lakeCells cL_lakeCells 4 [(0, 8, 11, 18)] 3 := ⟨q_1203, q_1204, q_1205, by decide +kernel, by decide +kernel⟩
theorem wdL_level : WdW yL_level cL_level 5 [(0, 10, 13, 18), (0, 10, 17, 13)] 4 := ⟨q_1206, q_1207, q_1208, by decide +kernel, by decide +kernel⟩
theorem wdL_depth : WdW yL_depth cL_depth 4 [(0, 8, 11, 18)] 3 := ⟨q_1209, q_1210, q_1211, by decide +kernel, by decide +kernel⟩
theorem wdL_course : WdW yL_course cL_course 4 [(0, 8, 11, 18)] 3 := ⟨q_1212, q_1213, q_1214, by decide +kernel, by decide +kernel⟩
theorem wdL_amountFor : WdW yL_amountFor cL_amountFor 5 [(0, 10, 13, 18)] 4 := ⟨q_1215, q_1216, q_1217, by decide +kernel, by decide +kernel⟩
theorem wdL_withoutGate : WdW yL_withoutGate cL_withoutGate 5 [(0, 10, 13, 18)] 4 := ⟨q_1218, q_1219, q_1220, by decide +kernel, by decide +kernel⟩
theorem wdL_append : WdW yL_append cL_append 4 [(0, 9, 12, 13), (0, 9, 15, 45)] 3 := ⟨q_1221, q_1222, q_1223, by decide +kernel, by decide +kernel⟩
theorem wdL_undo : WdW yL_undo cL_undo 3 [(0, 8, 11, 45)] 2 := ⟨q_1224, q_1225, q_1226, by decide +kernel, by decide +kernel⟩
