theorem si1 {α : Type} {a b : α} (h : some a = some b) : a = b := Option.some.inj h
theorem si2 {α : Type} {a b : α} {M N : Mem} (h : some (a, M) = some (b, N)) : a = b ∧ M = N := Prod.mk.inj (Option.some.inj h)
theorem sir {α β : Type} {a b : β} (h : (Sum.inr a : α ⊕ β) = Sum.inr b) : a = b := Sum.inr.inj h
theorem sil {α β : Type} {a : β} {b : α} (h : (Sum.inr a : α ⊕ β) = Sum.inl b) : False := by cases h
theorem r_getRK {X : Cx} {cc : ByteArray} {own : String} {n lev : Nat} {G : List (Nat × Nat)} (S : CX X cc own n lev G) {pc : Nat} {lv : List (Nat × Value)} {st : List Value} {M : Mem} {o ci : Nat} {C : String} {T : u_T} {N : Nat} {ty : Nat → FieldType} (F : FCl ci C T N ty) (ho : kG G o = ci) (k : Nat) {b idx : Nat} (o2 : Nat) (ho2 : o + b = o2) (hf : (fl ci)[k]? = some (2, b)) (hw : Cond.fieldLink own idx (T k).1 (T k).2.1 (T k).2.2.1 ∈ TBL) (d : decode cc pc = .ok (.getfield idx, 3)) (k9 : AW X (pc + 3) lv (.ref (hY X.2.1.2 + o2) :: st) M) : AW X pc lv (.ref (hY X.2.1.2 + o) :: st) M := r_getR S F ho k hf hw d (by rw [ho2]; exact k9)
theorem r_getRKN {X : Cx} {cc : ByteArray} {own : String} {n lev : Nat} {G : List (Nat × Nat)} (S : CX X cc own n lev G) {pc : Nat} {lv : List (Nat × Value)} {st : List Value} {M : Mem} {o ci : Nat} {C : String} {T : u_T} {N : Nat} {ty : Nat → FieldType} (F : FCl ci C T N ty) (ho : kG G o = ci) (k : Nat) {b idx : Nat} {host : String} (o2 : Nat) (ho2 : o + b = o2) (hf : (fl ci)[k]? = some (2, b)) (hw : Cond.fieldLinkNest own idx (T k).1 (T k).2.1 (T k).2.2.1 host ∈ NST) (d : decode cc pc = .ok (.getfield idx, 3)) (k9 : AW X (pc + 3) lv (.ref (hY X.2.1.2 + o2) :: st) M) : AW X pc lv (.ref (hY X.2.1.2 + o) :: st) M := r_getRN S F ho k hf hw d (by rw [ho2]; exact k9)
theorem r_ialdK {X : Cx} {cc : ByteArray} {own : String} {n lev : Nat} {G : List (Nat × Nat)} (S : CX X cc own n lev G) {pc : Nat} {lv : List (Nat × Value)} {st : List Value} {M : Mem} {o : Nat} {i : Int32} (j : Nat) (hj : i.toNatClampNeg = j) (ho : kG G o = 9) (hi : inb i (nG G o) = true) (d : decode cc pc = .ok (.iaload, 1)) (k9 : AW X (pc + 1) lv (.int (gI M o j) :: st) M) : AW X pc lv (.int i :: .ref (hY X.2.1.2 + o) :: st) M := r_iald S ho hi d (by rw [hj]; exact k9)
theorem r_laldK {X : Cx} {cc : ByteArray} {own : String} {n lev : Nat} {G : List (Nat × Nat)} (S : CX X cc own n lev G) {pc : Nat} {lv : List (Nat × Value)} {st : List Value} {M : Mem} {o : Nat} {i : Int32} (j : Nat) (hj : i.toNatClampNeg = j) (ho : kG G o = 10) (hi : inb i (nG G o) = true) (d : decode cc pc = .ok (.laload, 1)) (k9 : AW X (pc + 1) lv (.long (gL M o j) :: st) M) : AW X pc lv (.int i :: .ref (hY X.2.1.2 + o) :: st) M := r_lald S ho hi d (by rw [hj]; exact k9)
theorem r_iastK {X : Cx} {cc : ByteArray} {own : String} {n lev : Nat} {G : List (Nat × Nat)} (S : CX X cc own n lev G) {pc : Nat} {lv : List (Nat × Value)} {st : List Value} {M : Mem} {o : Nat} {i : Int32} {v : Int32} (j : Nat) (hj : i.toNatClampNeg = j) (ho : kG G o = 9) (hi : inb i (nG G o) = true) (d : decode cc pc = .ok (.iastore, 1)) (k9 : AW X (pc + 1) lv st (sI M o j v)) : AW X pc lv (.int v :: .int i :: .ref (hY X.2.1.2 + o) :: st) M := r_iast S ho hi d (by rw [hj]; exact k9)
theorem r_lastK {X : Cx} {cc : ByteArray} {own : String} {n lev : Nat} {G : List (Nat × Nat)} (S : CX X cc own n lev G) {pc : Nat} {lv : List (Nat × Value)} {st : List Value} {M : Mem} {o : Nat} {i : Int32} {v : Int64} (j : Nat) (hj : i.toNatClampNeg = j) (ho : kG G o = 10) (hi : inb i (nG G o) = true) (d : decode cc pc = .ok (.lastore, 1)) (k9 : AW X (pc + 1) lv st (sL M o j v)) : AW X pc lv (.long v :: .int i :: .ref (hY X.2.1.2 + o) :: st) M := r_last S ho hi d (by rw [hj]; exact k9)
set_option maxRecDepth 100000 in
set_option maxHeartbeats 4000000 in
theorem c_JL_bitCount (l : Launch) (Y : Env1) (hG : gY Y = gC) (a0 : Int64) (M : Mem) (r : Int32) (hE : JL_bitCount a0 = r) : CnI l Y yJ13_bitCount_95d88 cJ13_bitCount_95d88 2 .int 0 [.long a0] M r M := by
  refine met_I (own := RJ13) (by decide +kernel) rfl hG (Nat.le_of_ble_eq_true rfl) (fun X S hY1 hl1 hret => ?_)
  subst hY1
  subst hl1
  show AW X 0 [(0, .long a0)] [] M
  unfold JL_bitCount at hE
  refine r_lload_n S dJ13_bitCount_95d88_0 0 rfl ?_
  refine r_lload_n S dJ13_bitCount_95d88_1 0 rfl ?_
  refine r_iconst S (1 : Int32) dJ13_bitCount_95d88_2 rfl ?_
  refine r_lushr S dJ13_bitCount_95d88_3 ?_
  refine r_ldc2 S (v := 6148914691236517205) q_20 dJ13_bitCount_95d88_4 ?_
  refine r_land S dJ13_bitCount_95d88_7 ?_
  refine r_lsub S dJ13_bitCount_95d88_8 ?_
  refine r_lstore_n (lv2 := [(0, .long (a0 - ((lus a0 (1 : Int32)) &&& (6148914691236517205 : Int64))))]) S dJ13_bitCount_95d88_9 (by decide) rfl ?_
  refine r_lload_n S dJ13_bitCount_95d88_10 0 rfl ?_
  refine r_ldc2 S (v := 3689348814741910323) q_21 dJ13_bitCount_95d88_11 ?_
  refine r_land S dJ13_bitCount_95d88_14 ?_
  refine r_lload_n S dJ13_bitCount_95d88_15 0 rfl ?_
  refine r_iconst S (2 : Int32) dJ13_bitCount_95d88_16 rfl ?_
  refine r_lushr S dJ13_bitCount_95d88_17 ?_
  refine r_ldc2 S (v := 3689348814741910323) q_21 dJ13_bitCount_95d88_18 ?_
  refine r_land S dJ13_bitCount_95d88_21 ?_
  refine r_ladd S dJ13_bitCount_95d88_22 ?_
  refine r_lstore_n (lv2 := [(0, .long (((a0 - ((lus a0 (1 : Int32)) &&& (6148914691236517205 : Int64))) &&& (3689348814741910323 : Int64)) + ((lus (a0 - ((lus a0 (1 : Int32)) &&& (6148914691236517205 : Int64))) (2 : Int32)) &&& (3689348814741910323 : Int64))))]) S dJ13_bitCount_95d88_23 (by decide) rfl ?_
  refine r_lload_n S dJ13_bitCount_95d88_24 0 rfl ?_
  refine r_lload_n S dJ13_bitCount_95d88_25 0 rfl ?_
  refine r_iconst S (4 : Int32) dJ13_bitCount_95d88_26 rfl ?_
  refine r_lushr S dJ13_bitCount_95d88_27 ?_
  refine r_ladd S dJ13_bitCount_95d88_28 ?_
  refine r_ldc2 S (v := 1085102592571150095) q_22 dJ13_bitCount_95d88_29 ?_
  refine r_land S dJ13_bitCount_95d88_32 ?_
  refine r_lstore_n (lv2 := [(0, .long (((((a0 - ((lus a0 (1 : Int32)) &&& (6148914691236517205 : Int64))) &&& (3689348814741910323 : Int64)) + ((lus (a0 - ((lus a0 (1 : Int32)) &&& (6148914691236517205 : Int64))) (2 : Int32)) &&& (3689348814741910323 : Int64))) + (lus (((a0 - ((lus a0 (1 : Int32)) &&& (6148914691236517205 : Int64))) &&& (3689348814741910323 : Int64)) + ((lus (a0 - ((lus a0 (1 : Int32)) &&& (6148914691236517205 : Int64))) (2 : Int32)) &&& (3689348814741910323 : Int64))) (4 : Int32))) &&& (1085102592571150095 : Int64)))]) S dJ13_bitCount_95d88_33 (by decide) rfl ?_
  refine r_lload_n S dJ13_bitCount_95d88_34 0 rfl ?_
  refine r_lload_n S dJ13_bitCount_95d88_35 0 rfl ?_
  refine r_bipush S (8 : Int32) dJ13_bitCount_95d88_36 rfl ?_
  refine r_lushr S dJ13_bitCount_95d88_38 ?_
  refine r_ladd S dJ13_bitCount_95d88_39 ?_
  refine r_lstore_n (lv2 := [(0, .long ((((((a0 - ((lus a0 (1 : Int32)) &&& (6148914691236517205 : Int64))) &&& (3689348814741910323 : Int64)) + ((lus (a0 - ((lus a0 (1 : Int32)) &&& (6148914691236517205 : Int64))) (2 : Int32)) &&& (3689348814741910323 : Int64))) + (lus (((a0 - ((lus a0 (1 : Int32)) &&& (6148914691236517205 : Int64))) &&& (3689348814741910323 : Int64)) + ((lus (a0 - ((lus a0 (1 : Int32)) &&& (6148914691236517205 : Int64))) (2 : Int32)) &&& (3689348814741910323 : Int64))) (4 : Int32))) &&& (1085102592571150095 : Int64)) + (lus (((((a0 - ((lus a0 (1 : Int32)) &&& (6148914691236517205 : Int64))) &&& (3689348814741910323 : Int64)) + ((lus (a0 - ((lus a0 (1 : Int32)) &&& (6148914691236517205 : Int64))) (2 : Int32)) &&& (3689348814741910323 : Int64))) + (lus (((a0 - ((lus a0 (1 : Int32)) &&& (6148914691236517205 : Int64))) &&& (3689348814741910323 : Int64)) + ((lus (a0 - ((lus a0 (1 : Int32)) &&& (6148914691236517205 : Int64))) (2 : Int32)) &&& (3689348814741910323 : Int64))) (4 : Int32))) &&& (1085102592571150095 : Int64)) (8 : Int32))))]) S dJ13_bitCount_95d88_40 (by decide) rfl ?_
  refine r_lload_n S dJ13_bitCount_95d88_41 0 rfl ?_
  refine r_lload_n S dJ13_bitCount_95d88_42 0 rfl ?_
  refine r_bipush S (16 : Int32) dJ13_bitCount_95d88_43 rfl ?_
  refine r_lushr S dJ13_bitCount_95d88_45 ?_
  refine r_ladd S dJ13_bitCount_95d88_46 ?_
  refine r_lstore_n (lv2 := [(0, .long (((((((a0 - ((lus a0 (1 : Int32)) &&& (6148914691236517205 : Int64))) &&& (3689348814741910323 : Int64)) + ((lus (a0 - ((lus a0 (1 : Int32)) &&& (6148914691236517205 : Int64))) (2 : Int32)) &&& (3689348814741910323 : Int64))) + (lus (((a0 - ((lus a0 (1 : Int32)) &&& (6148914691236517205 : Int64))) &&& (3689348814741910323 : Int64)) + ((lus (a0 - ((lus a0 (1 : Int32)) &&& (6148914691236517205 : Int64))) (2 : Int32)) &&& (3689348814741910323 : Int64))) (4 : Int32))) &&& (1085102592571150095 : Int64)) + (lus (((((a0 - ((lus a0 (1 : Int32)) &&& (6148914691236517205 : Int64))) &&& (3689348814741910323 : Int64)) + ((lus (a0 - ((lus a0 (1 : Int32)) &&& (6148914691236517205 : Int64))) (2 : Int32)) &&& (3689348814741910323 : Int64))) + (lus (((a0 - ((lus a0 (1 : Int32)) &&& (6148914691236517205 : Int64))) &&& (3689348814741910323 : Int64)) + ((lus (a0 - ((lus a0 (1 : Int32)) &&& (6148914691236517205 : Int64))) (2 : Int32)) &&& (3689348814741910323 : Int64))) (4 : Int32))) &&& (1085102592571150095 : Int64)) (8 : Int32))) + (lus ((((((a0 - ((lus a0 (1 : Int32)) &&& (6148914691236517205 : Int64))) &&& (3689348814741910323 : Int64)) + ((lus (a0 - ((lus a0 (1 : Int32)) &&& (6148914691236517205 : Int64))) (2 : Int32)) &&& (3689348814741910323 : Int64))) + (lus (((a0 - ((lus a0 (1 : Int32)) &&& (6148914691236517205 : Int64))) &&& (3689348814741910323 : Int64)) + ((lus (a0 - ((lus a0 (1 : Int32)) &&& (6148914691236517205 : Int64))) (2 : Int32)) &&& (3689348814741910323 : Int64))) (4 : Int32))) &&& (1085102592571150095 : Int64)) + (lus (((((a0 - ((lus a0 (1 : Int32)) &&& (6148914691236517205 : Int64))) &&& (3689348814741910323 : Int64)) + ((lus (a0 - ((lus a0 (1 : Int32)) &&& (6148914691236517205 : Int64))) (2 : Int32)) &&& (3689348814741910323 : Int64))) + (lus (((a0 - ((lus a0 (1 : Int32)) &&& (6148914691236517205 : Int64))) &&& (3689348814741910323 : Int64)) + ((lus (a0 - ((lus a0 (1 : Int32)) &&& (6148914691236517205 : Int64))) (2 : Int32)) &&& (3689348814741910323 : Int64))) (4 : Int32))) &&& (1085102592571150095 : Int64)) (8 : Int32))) (16 : Int32))))]) S dJ13_bitCount_95d88_47 (by decide) rfl ?_
  refine r_lload_n S dJ13_bitCount_95d88_48 0 rfl ?_
  refine r_lload_n S dJ13_bitCount_95d88_49 0 rfl ?_
  refine r_bipush S (32 : Int32) dJ13_bitCount_95d88_50 rfl ?_
  refine r_lushr S dJ13_bitCount_95d88_52 ?_
  refine r_ladd S dJ13_bitCount_95d88_53 ?_
  refine r_lstore_n (lv2 := [(0, .long ((((((((a0 - ((lus a0 (1 : Int32)) &&& (6148914691236517205 : Int64))) &&& (3689348814741910323 : Int64)) + ((lus (a0 - ((lus a0 (1 : Int32)) &&& (6148914691236517205 : Int64))) (2 : Int32)) &&& (3689348814741910323 : Int64))) + (lus (((a0 - ((lus a0 (1 : Int32)) &&& (6148914691236517205 : Int64))) &&& (3689348814741910323 : Int64)) + ((lus (a0 - ((lus a0 (1 : Int32)) &&& (6148914691236517205 : Int64))) (2 : Int32)) &&& (3689348814741910323 : Int64))) (4 : Int32))) &&& (1085102592571150095 : Int64)) + (lus (((((a0 - ((lus a0 (1 : Int32)) &&& (6148914691236517205 : Int64))) &&& (3689348814741910323 : Int64)) + ((lus (a0 - ((lus a0 (1 : Int32)) &&& (6148914691236517205 : Int64))) (2 : Int32)) &&& (3689348814741910323 : Int64))) + (lus (((a0 - ((lus a0 (1 : Int32)) &&& (6148914691236517205 : Int64))) &&& (3689348814741910323 : Int64)) + ((lus (a0 - ((lus a0 (1 : Int32)) &&& (6148914691236517205 : Int64))) (2 : Int32)) &&& (3689348814741910323 : Int64))) (4 : Int32))) &&& (1085102592571150095 : Int64)) (8 : Int32))) + (lus ((((((a0 - ((lus a0 (1 : Int32)) &&& (6148914691236517205 : Int64))) &&& (3689348814741910323 : Int64)) + ((lus (a0 - ((lus a0 (1 : Int32)) &&& (6148914691236517205 : Int64))) (2 : Int32)) &&& (3689348814741910323 : Int64))) + (lus (((a0 - ((lus a0 (1 : Int32)) &&& (6148914691236517205 : Int64))) &&& (3689348814741910323 : Int64)) + ((lus (a0 - ((lus a0 (1 : Int32)) &&& (6148914691236517205 : Int64))) (2 : Int32)) &&& (3689348814741910323 : Int64))) (4 : Int32))) &&& (1085102592571150095 : Int64)) + (lus (((((a0 - ((lus a0 (1 : Int32)) &&& (6148914691236517205 : Int64))) &&& (3689348814741910323 : Int64)) + ((lus (a0 - ((lus a0 (1 : Int32)) &&& (6148914691236517205 : Int64))) (2 : Int32)) &&& (3689348814741910323 : Int64))) + (lus (((a0 - ((lus a0 (1 : Int32)) &&& (6148914691236517205 : Int64))) &&& (3689348814741910323 : Int64)) + ((lus (a0 - ((lus a0 (1 : Int32)) &&& (6148914691236517205 : Int64))) (2 : Int32)) &&& (3689348814741910323 : Int64))) (4 : Int32))) &&& (1085102592571150095 : Int64)) (8 : Int32))) (16 : Int32))) + (lus (((((((a0 - ((lus a0 (1 : Int32)) &&& (6148914691236517205 : Int64))) &&& (3689348814741910323 : Int64)) + ((lus (a0 - ((lus a0 (1 : Int32)) &&& (6148914691236517205 : Int64))) (2 : Int32)) &&& (3689348814741910323 : Int64))) + (lus (((a0 - ((lus a0 (1 : Int32)) &&& (6148914691236517205 : Int64))) &&& (3689348814741910323 : Int64)) + ((lus (a0 - ((lus a0 (1 : Int32)) &&& (6148914691236517205 : Int64))) (2 : Int32)) &&& (3689348814741910323 : Int64))) (4 : Int32))) &&& (1085102592571150095 : Int64)) + (lus (((((a0 - ((lus a0 (1 : Int32)) &&& (6148914691236517205 : Int64))) &&& (3689348814741910323 : Int64)) + ((lus (a0 - ((lus a0 (1 : Int32)) &&& (6148914691236517205 : Int64))) (2 : Int32)) &&& (3689348814741910323 : Int64))) + (lus (((a0 - ((lus a0 (1 : Int32)) &&& (6148914691236517205 : Int64))) &&& (3689348814741910323 : Int64)) + ((lus (a0 - ((lus a0 (1 : Int32)) &&& (6148914691236517205 : Int64))) (2 : Int32)) &&& (3689348814741910323 : Int64))) (4 : Int32))) &&& (1085102592571150095 : Int64)) (8 : Int32))) + (lus ((((((a0 - ((lus a0 (1 : Int32)) &&& (6148914691236517205 : Int64))) &&& (3689348814741910323 : Int64)) + ((lus (a0 - ((lus a0 (1 : Int32)) &&& (6148914691236517205 : Int64))) (2 : Int32)) &&& (3689348814741910323 : Int64))) + (lus (((a0 - ((lus a0 (1 : Int32)) &&& (6148914691236517205 : Int64))) &&& (3689348814741910323 : Int64)) + ((lus (a0 - ((lus a0 (1 : Int32)) &&& (6148914691236517205 : Int64))) (2 : Int32)) &&& (3689348814741910323 : Int64))) (4 : Int32))) &&& (1085102592571150095 : Int64)) + (lus (((((a0 - ((lus a0 (1 : Int32)) &&& (6148914691236517205 : Int64))) &&& (3689348814741910323 : Int64)) + ((lus (a0 - ((lus a0 (1 : Int32)) &&& (6148914691236517205 : Int64))) (2 : Int32)) &&& (3689348814741910323 : Int64))) + (lus (((a0 - ((lus a0 (1 : Int32)) &&& (6148914691236517205 : Int64))) &&& (3689348814741910323 : Int64)) + ((lus (a0 - ((lus a0 (1 : Int32)) &&& (6148914691236517205 : Int64))) (2 : Int32)) &&& (3689348814741910323 : Int64))) (4 : Int32))) &&& (1085102592571150095 : Int64)) (8 : Int32))) (16 : Int32))) (32 : Int32))))]) S dJ13_bitCount_95d88_54 (by decide) rfl ?_
  refine r_lload_n S dJ13_bitCount_95d88_55 0 rfl ?_
  refine r_l2i S dJ13_bitCount_95d88_56 ?_
  refine r_bipush S (127 : Int32) dJ13_bitCount_95d88_57 rfl ?_
  refine r_iand S dJ13_bitCount_95d88_59 ?_
  subst hE
  exact hret _ _ dJ13_bitCount_95d88_60
set_option maxRecDepth 100000 in
set_option maxHeartbeats 4000000 in
theorem c_JA_fillI0 (l : Launch) (Y : Env1) (hG : gY Y = gC) (a0 : Nat) (k0 : kC a0 = 9) (a1 : Int32) (M : Mem) (r : Unit) (M1 : Mem) (hE : JA_fillI0 a0 a1 M = some (r, M1)) : CnV l Y yJ7_fill_53178 cJ7_fill_53178 4 0 [.ref (hY Y + a0), .int a1] M M1 := by
  refine met_V (own := RJ7) (by decide +kernel) rfl hG (Nat.le_of_ble_eq_true rfl) (fun X S hY1 hl1 hret => ?_)
  subst hY1
  subst hl1
  show AW X 0 [(0, .ref (hY X.2.1.2 + a0)), (1, .int a1)] [] M
  have L5 : ∀ (v0 : Nat) (k0 : kC v0 = 9) (v1 : Int32) (v3 : Int32) (e : (Unit)) (M2 : Mem), AW X 20 [] [] M2 → ∀ (n : Nat) (s : Int32) (M : Mem), lpM (fun s M => JA_fillI0_L5 v0 v1 v3 s M) n s M = some (e, M2) → AW X 5 [(0, .ref (hY X.2.1.2 + v0)), (1, .int v1), (2, .int s), (3, .int v3)] [] M := by
    intro v0 k0 v1 v3 e M2 hX
    refine lpM_ind (P := fun (s : Int32) (M : Mem) => AW X 5 [(0, .ref (hY X.2.1.2 + v0)), (1, .int v1), (2, .int s), (3, .int v3)] [] M) ?_
    rintro v2 M d M3 hE hC hD
    replace hE : JA_fillI0_L5 v0 v1 v3 v2 M = some (d, M3) := hE
    show AW X 5 [(0, .ref (hY X.2.1.2 + v0)), (1, .int v1), (2, .int v2), (3, .int v3)] [] M
    unfold JA_fillI0_L5 at hE
    refine r_iload_n S dJ7_fill_53178_5 2 rfl ?_
    refine r_iload_n S dJ7_fill_53178_6 3 rfl ?_
    refine r_icmp_ge S 20 dJ7_fill_53178_7 (by decide) (fun c => ?_) (fun c => ?_)
    · rw [if_pos c] at hE
      obtain ⟨rfl, rfl⟩ := si2 hE
      rcases hD with ⟨h1, h2⟩ | ⟨_, h1⟩
      · obtain rfl := sir h1
        subst h2
        exact r_sub [] rfl hX
      · exact (sil h1).elim
    · rw [if_neg c] at hE
      refine r_aload_n S dJ7_fill_53178_10 0 rfl ?_
      refine r_iload_n S dJ7_fill_53178_11 2 rfl ?_
      refine r_iload_n S dJ7_fill_53178_12 1 rfl ?_
      obtain ⟨hi, hE⟩ := ck_some hE
      refine r_iast S k0 hi dJ7_fill_53178_13 ?_
      refine r_iinc (lv2 := [(2, .int (v2 + (1 : Int32))), (0, .ref (hY X.2.1.2 + v0)), (1, .int v1), (3, .int v3)]) S dJ7_fill_53178_14 (j := 2) rfl (by decide) rfl ?_
      refine r_goto S 5 dJ7_fill_53178_17 (by decide) ?_
      obtain ⟨rfl, rfl⟩ := si2 hE
      exact r_sub (lv2 := [(0, .ref (hY X.2.1.2 + v0)), (1, .int v1), (2, .int (v2 + (1 : Int32))), (3, .int v3)]) [1, 2, 0, 3] rfl (hC (v2 + (1 : Int32)) rfl)
  unfold JA_fillI0 at hE
  refine r_iconst S (0 : Int32) dJ7_fill_53178_0 rfl ?_
  refine r_istore_n (lv2 := [(2, .int (0 : Int32)), (0, .ref (hY X.2.1.2 + a0)), (1, .int a1)]) S dJ7_fill_53178_1 (by decide) rfl ?_
  refine r_aload_n S dJ7_fill_53178_2 1 rfl ?_
  refine r_alenI S k0 dJ7_fill_53178_3 ?_
  refine r_istore_n (lv2 := [(3, .int (Int32.ofNat (nC a0))), (2, .int (0 : Int32)), (0, .ref (hY X.2.1.2 + a0)), (1, .int a1)]) S dJ7_fill_53178_4 (by decide) rfl ?_
  obtain ⟨e1, M2, h9, hE⟩ := b2_some hE
  refine r_sub [2, 3, 1, 0] rfl (L5 a0 k0 a1 (Int32.ofNat (nC a0))  e1 M2 ?_ _ _ M h9)
  obtain ⟨rfl, rfl⟩ := si2 hE
  exact hret _ _ dJ7_fill_53178_20
set_option maxRecDepth 100000 in
set_option maxHeartbeats 4000000 in
theorem c_JA_fillL0 (l : Launch) (Y : Env1) (hG : gY Y = gC) (a0 : Nat) (k0 : kC a0 = 10) (a1 : Int64) (M : Mem) (r : Unit) (M1 : Mem) (hE : JA_fillL0 a0 a1 M = some (r, M1)) : CnV l Y yJ7_fill_d0a16 cJ7_fill_d0a16 5 0 [.ref (hY Y + a0), .long a1] M M1 := by
  refine met_V (own := RJ7) (by decide +kernel) rfl hG (Nat.le_of_ble_eq_true rfl) (fun X S hY1 hl1 hret => ?_)
  subst hY1
  subst hl1
  show AW X 0 [(0, .ref (hY X.2.1.2 + a0)), (1, .long a1)] [] M
  have L6 : ∀ (v0 : Nat) (k0 : kC v0 = 10) (v1 : Int64) (v4 : Int32) (e : (Unit)) (M2 : Mem), AW X 22 [] [] M2 → ∀ (n : Nat) (s : Int32) (M : Mem), lpM (fun s M => JA_fillL0_L6 v0 v1 v4 s M) n s M = some (e, M2) → AW X 6 [(0, .ref (hY X.2.1.2 + v0)), (1, .long v1), (3, .int s), (4, .int v4)] [] M := by
    intro v0 k0 v1 v4 e M2 hX
    refine lpM_ind (P := fun (s : Int32) (M : Mem) => AW X 6 [(0, .ref (hY X.2.1.2 + v0)), (1, .long v1), (3, .int s), (4, .int v4)] [] M) ?_
    rintro v3 M d M3 hE hC hD
    replace hE : JA_fillL0_L6 v0 v1 v4 v3 M = some (d, M3) := hE
    show AW X 6 [(0, .ref (hY X.2.1.2 + v0)), (1, .long v1), (3, .int v3), (4, .int v4)] [] M
    unfold JA_fillL0_L6 at hE
    refine r_iload_n S dJ7_fill_d0a16_6 2 rfl ?_
    refine r_iload S dJ7_fill_d0a16_7 3 rfl ?_
    refine r_icmp_ge S 22 dJ7_fill_d0a16_9 (by decide) (fun c => ?_) (fun c => ?_)
    · rw [if_pos c] at hE
      obtain ⟨rfl, rfl⟩ := si2 hE
      rcases hD with ⟨h1, h2⟩ | ⟨_, h1⟩
      · obtain rfl := sir h1
        subst h2
        exact r_sub [] rfl hX
      · exact (sil h1).elim
    · rw [if_neg c] at hE
      refine r_aload_n S dJ7_fill_d0a16_12 0 rfl ?_
      refine r_iload_n S dJ7_fill_d0a16_13 2 rfl ?_
      refine r_lload_n S dJ7_fill_d0a16_14 1 rfl ?_
      obtain ⟨hi, hE⟩ := ck_some hE
      refine r_last S k0 hi dJ7_fill_d0a16_15 ?_
      refine r_iinc (lv2 := [(3, .int (v3 + (1 : Int32))), (0, .ref (hY X.2.1.2 + v0)), (1, .long v1), (4, .int v4)]) S dJ7_fill_d0a16_16 (j := 2) rfl (by decide) rfl ?_
      refine r_goto S 6 dJ7_fill_d0a16_19 (by decide) ?_
      obtain ⟨rfl, rfl⟩ := si2 hE
      exact r_sub (lv2 := [(0, .ref (hY X.2.1.2 + v0)), (1, .long v1), (3, .int (v3 + (1 : Int32))), (4, .int v4)]) [1, 2, 0, 3] rfl (hC (v3 + (1 : Int32)) rfl)
  unfold JA_fillL0 at hE
  refine r_iconst S (0 : Int32) dJ7_fill_d0a16_0 rfl ?_
  refine r_istore_n (lv2 := [(3, .int (0 : Int32)), (0, .ref (hY X.2.1.2 + a0)), (1, .long a1)]) S dJ7_fill_d0a16_1 (by decide) rfl ?_
  refine r_aload_n S dJ7_fill_d0a16_2 1 rfl ?_
  refine r_alenL S k0 dJ7_fill_d0a16_3 ?_
  refine r_istore (lv2 := [(4, .int (Int32.ofNat (nC a0))), (3, .int (0 : Int32)), (0, .ref (hY X.2.1.2 + a0)), (1, .long a1)]) S dJ7_fill_d0a16_4 (by decide) rfl ?_
  obtain ⟨e1, M2, h9, hE⟩ := b2_some hE
  refine r_sub [2, 3, 1, 0] rfl (L6 a0 k0 a1 (Int32.ofNat (nC a0))  e1 M2 ?_ _ _ M h9)
  obtain ⟨rfl, rfl⟩ := si2 hE
  exact hret _ _ dJ7_fill_d0a16_22
set_option maxRecDepth 100000 in
set_option maxHeartbeats 4000000 in
theorem c_NR_at0 (l : Launch) (Y : Env1) (hG : gY Y = gC) (o : Nat) (ho : kC o = 3) (a1 : Int32) (M : Mem) (r : Int32) (hE : NR_at0 o a1 M = some r) : CnI l Y yX3_at cX3_at 2 .int 0 [.ref (hY Y + o), .int a1] M r M := by
  refine met_I (own := RX3) (by decide +kernel) rfl hG (Nat.le_of_ble_eq_true rfl) (fun X S hY1 hl1 hret => ?_)
  subst hY1
  subst hl1
  show AW X 0 [(0, .ref (hY X.2.1.2 + o)), (1, .int a1)] [] M
  unfold NR_at0 at hE
  refine r_iload_n S dX3_at_0 1 rfl ?_
  refine r_if_lt S 22 dX3_at_1 (by decide) (fun c => ?_) (fun c => ?_)
  · rw [if_pos c] at hE
    refine r_iconst S (-1 : Int32) dX3_at_22 rfl ?_
    obtain rfl := si1 hE
    exact hret _ _ dX3_at_23
  · rw [if_neg c] at hE
    refine r_iload_n S dX3_at_4 1 rfl ?_
    refine r_aload_n S dX3_at_5 0 rfl ?_
    refine r_getRK S fc3 ho 0 (o + 1) rfl rfl q_0 dX3_at_6 ?_
    refine r_alenI S (kk3_1 ho) dX3_at_9 ?_
    refine r_icmp_ge S 22 dX3_at_10 (by decide) (fun c => ?_) (fun c => ?_)
    · rw [if_pos c] at hE
      refine r_iconst S (-1 : Int32) dX3_at_22 rfl ?_
      obtain rfl := si1 hE
      exact hret _ _ dX3_at_23
    · rw [if_neg c] at hE
      refine r_aload_n S dX3_at_13 0 rfl ?_
      refine r_getRK S fc3 ho 0 (o + 1) rfl rfl q_0 dX3_at_14 ?_
      refine r_iload_n S dX3_at_17 1 rfl ?_
      obtain ⟨hi, hE⟩ := ck_some hE
      refine r_iald S (kk3_1 ho) hi dX3_at_18 ?_
      refine r_goto S 23 dX3_at_19 (by decide) ?_
      obtain rfl := si1 hE
      exact hret _ _ dX3_at_23
set_option maxRecDepth 100000 in
set_option maxHeartbeats 4000000 in
theorem c_SR_at0 (l : Launch) (Y : Env1) (hG : gY Y = gC) (o : Nat) (ho : kC o = 4) (a1 : Int32) (M : Mem) (r : Int64) (hE : SR_at0 o a1 M = some r) : CnL l Y yX4_at cX4_at 2 0 [.ref (hY Y + o), .int a1] M r M := by
  refine met_L (own := RX4) (by decide +kernel) rfl hG (Nat.le_of_ble_eq_true rfl) (fun X S hY1 hl1 hret => ?_)
  subst hY1
  subst hl1
  show AW X 0 [(0, .ref (hY X.2.1.2 + o)), (1, .int a1)] [] M
  unfold SR_at0 at hE
  refine r_iload_n S dX4_at_0 1 rfl ?_
  refine r_if_lt S 22 dX4_at_1 (by decide) (fun c => ?_) (fun c => ?_)
  · rw [if_pos c] at hE
    refine r_lconst S (0 : Int64) dX4_at_22 rfl ?_
    obtain rfl := si1 hE
    exact hret _ _ dX4_at_23
  · rw [if_neg c] at hE
    refine r_iload_n S dX4_at_4 1 rfl ?_
    refine r_aload_n S dX4_at_5 0 rfl ?_
    refine r_getRK S fc4 ho 0 (o + 1) rfl rfl q_1 dX4_at_6 ?_
    refine r_alenL S (kk4_1 ho) dX4_at_9 ?_
    refine r_icmp_ge S 22 dX4_at_10 (by decide) (fun c => ?_) (fun c => ?_)
    · rw [if_pos c] at hE
      refine r_lconst S (0 : Int64) dX4_at_22 rfl ?_
      obtain rfl := si1 hE
      exact hret _ _ dX4_at_23
    · rw [if_neg c] at hE
      refine r_aload_n S dX4_at_13 0 rfl ?_
      refine r_getRK S fc4 ho 0 (o + 1) rfl rfl q_1 dX4_at_14 ?_
      refine r_iload_n S dX4_at_17 1 rfl ?_
      obtain ⟨hi, hE⟩ := ck_some hE
      refine r_lald S (kk4_1 ho) hi dX4_at_18 ?_
      refine r_goto S 23 dX4_at_19 (by decide) ?_
      obtain rfl := si1 hE
      exact hret _ _ dX4_at_23
set_option maxRecDepth 100000 in
set_option maxHeartbeats 4000000 in
theorem c_NR_put0 (l : Launch) (Y : Env1) (hG : gY Y = gC) (o : Nat) (ho : kC o = 3) (a1 : Int32) (a2 : Int32) (M : Mem) (r : Unit) (M1 : Mem) (hE : NR_put0 o a1 a2 M = some (r, M1)) : CnV l Y yX3_put cX3_put 3 0 [.ref (hY Y + o), .int a1, .int a2] M M1 := by
  refine met_V (own := RX3) (by decide +kernel) rfl hG (Nat.le_of_ble_eq_true rfl) (fun X S hY1 hl1 hret => ?_)
  subst hY1
  subst hl1
  show AW X 0 [(0, .ref (hY X.2.1.2 + o)), (1, .int a1), (2, .int a2)] [] M
  unfold NR_put0 at hE
  refine r_iload_n S dX3_put_0 1 rfl ?_
  refine r_if_lt S 20 dX3_put_1 (by decide) (fun c => ?_) (fun c => ?_)
  · rw [if_pos c] at hE
    obtain ⟨rfl, rfl⟩ := si2 hE
    exact hret _ _ dX3_put_20
  · rw [if_neg c] at hE
    refine r_iload_n S dX3_put_4 1 rfl ?_
    refine r_aload_n S dX3_put_5 0 rfl ?_
    refine r_getRK S fc3 ho 0 (o + 1) rfl rfl q_0 dX3_put_6 ?_
    refine r_alenI S (kk3_1 ho) dX3_put_9 ?_
    refine r_icmp_ge S 20 dX3_put_10 (by decide) (fun c => ?_) (fun c => ?_)
    · rw [if_pos c] at hE
      obtain ⟨rfl, rfl⟩ := si2 hE
      exact hret _ _ dX3_put_20
    · rw [if_neg c] at hE
      refine r_aload_n S dX3_put_13 0 rfl ?_
      refine r_getRK S fc3 ho 0 (o + 1) rfl rfl q_0 dX3_put_14 ?_
      refine r_iload_n S dX3_put_17 1 rfl ?_
      refine r_iload_n S dX3_put_18 2 rfl ?_
      obtain ⟨hi, hE⟩ := ck_some hE
      refine r_iast S (kk3_1 ho) hi dX3_put_19 ?_
      obtain ⟨rfl, rfl⟩ := si2 hE
      exact hret _ _ dX3_put_20
set_option maxRecDepth 100000 in
set_option maxHeartbeats 4000000 in
theorem c_SR_put0 (l : Launch) (Y : Env1) (hG : gY Y = gC) (o : Nat) (ho : kC o = 4) (a1 : Int32) (a2 : Int64) (M : Mem) (r : Unit) (M1 : Mem) (hE : SR_put0 o a1 a2 M = some (r, M1)) : CnV l Y yX4_put cX4_put 4 0 [.ref (hY Y + o), .int a1, .long a2] M M1 := by
  refine met_V (own := RX4) (by decide +kernel) rfl hG (Nat.le_of_ble_eq_true rfl) (fun X S hY1 hl1 hret => ?_)
  subst hY1
  subst hl1
  show AW X 0 [(0, .ref (hY X.2.1.2 + o)), (1, .int a1), (2, .long a2)] [] M
  unfold SR_put0 at hE
  refine r_iload_n S dX4_put_0 1 rfl ?_
  refine r_if_lt S 20 dX4_put_1 (by decide) (fun c => ?_) (fun c => ?_)
  · rw [if_pos c] at hE
    obtain ⟨rfl, rfl⟩ := si2 hE
    exact hret _ _ dX4_put_20
  · rw [if_neg c] at hE
    refine r_iload_n S dX4_put_4 1 rfl ?_
    refine r_aload_n S dX4_put_5 0 rfl ?_
    refine r_getRK S fc4 ho 0 (o + 1) rfl rfl q_1 dX4_put_6 ?_
    refine r_alenL S (kk4_1 ho) dX4_put_9 ?_
    refine r_icmp_ge S 20 dX4_put_10 (by decide) (fun c => ?_) (fun c => ?_)
    · rw [if_pos c] at hE
      obtain ⟨rfl, rfl⟩ := si2 hE
      exact hret _ _ dX4_put_20
    · rw [if_neg c] at hE
      refine r_aload_n S dX4_put_13 0 rfl ?_
      refine r_getRK S fc4 ho 0 (o + 1) rfl rfl q_1 dX4_put_14 ?_
      refine r_iload_n S dX4_put_17 1 rfl ?_
      refine r_lload_n S dX4_put_18 2 rfl ?_
      obtain ⟨hi, hE⟩ := ck_some hE
      refine r_last S (kk4_1 ho) hi dX4_put_19 ?_
      obtain ⟨rfl, rfl⟩ := si2 hE
      exact hret _ _ dX4_put_20
set_option maxRecDepth 100000 in
set_option maxHeartbeats 4000000 in
theorem c_NR_fill0 (l : Launch) (Y : Env1) (hG : gY Y = gC) (o : Nat) (ho : kC o = 3) (a1 : Int32) (M : Mem) (r : Unit) (M1 : Mem) (hE : NR_fill0 o a1 M = some (r, M1)) : CnV l Y yX3_fill cX3_fill 2 1 [.ref (hY Y + o), .int a1] M M1 := by
  refine met_V (own := RX3) (by decide +kernel) rfl hG (Nat.le_of_ble_eq_true rfl) (fun X S hY1 hl1 hret => ?_)
  subst hY1
  subst hl1
  show AW X 0 [(0, .ref (hY X.2.1.2 + o)), (1, .int a1)] [] M
  unfold NR_fill0 at hE
  refine r_aload_n S dX3_fill_0 0 rfl ?_
  refine r_getRK S fc3 ho 0 (o + 1) rfl rfl q_0 dX3_fill_1 ?_
  refine r_iload_n S dX3_fill_4 1 rfl ?_
  obtain ⟨x1, M2, h9, hE⟩ := b2_some hE
  refine rc_V S (rn_S S (c_JA_fillI0 _ _ (gYX S) (o + 1) (kk3_1 ho) a1 M _ _ h9) wdJ7_fill_53178 q_2 ⟨Nat.le_of_ble_eq_true rfl, Nat.le_of_ble_eq_true rfl⟩ rfl (Nat.le_of_ble_eq_true rfl) dX3_fill_5) ?_
  obtain ⟨rfl, rfl⟩ := si2 hE
  exact hret _ _ dX3_fill_8
set_option maxRecDepth 100000 in
set_option maxHeartbeats 4000000 in
theorem c_SR_fill0 (l : Launch) (Y : Env1) (hG : gY Y = gC) (o : Nat) (ho : kC o = 4) (a1 : Int64) (M : Mem) (r : Unit) (M1 : Mem) (hE : SR_fill0 o a1 M = some (r, M1)) : CnV l Y yX4_fill cX4_fill 3 1 [.ref (hY Y + o), .long a1] M M1 := by
  refine met_V (own := RX4) (by decide +kernel) rfl hG (Nat.le_of_ble_eq_true rfl) (fun X S hY1 hl1 hret => ?_)
  subst hY1
  subst hl1
  show AW X 0 [(0, .ref (hY X.2.1.2 + o)), (1, .long a1)] [] M
  unfold SR_fill0 at hE
  refine r_aload_n S dX4_fill_0 0 rfl ?_
  refine r_getRK S fc4 ho 0 (o + 1) rfl rfl q_1 dX4_fill_1 ?_
  refine r_lload_n S dX4_fill_4 1 rfl ?_
  obtain ⟨x1, M2, h9, hE⟩ := b2_some hE
  refine rc_V S (rn_S S (c_JA_fillL0 _ _ (gYX S) (o + 1) (kk4_1 ho) a1 M _ _ h9) wdJ7_fill_d0a16 q_6 ⟨Nat.le_of_ble_eq_true rfl, Nat.le_of_ble_eq_true rfl⟩ rfl (Nat.le_of_ble_eq_true rfl) dX4_fill_5) ?_
  obtain ⟨rfl, rfl⟩ := si2 hE
  exact hret _ _ dX4_fill_8
set_option maxRecDepth 100000 in
set_option maxHeartbeats 4000000 in
theorem c_NR_copyFrom0 (l : Launch) (Y : Env1) (hG : gY Y = gC) (o : Nat) (ho : kC o = 3) (a1 : Nat) (k1 : kC a1 = 3) (M : Mem) (r : Unit) (M1 : Mem) (hE : NR_copyFrom0 o a1 M = some (r, M1)) : CnV l Y yX3_copyFrom cX3_copyFrom 2 2 [.ref (hY Y + o), .ref (hY Y + a1)] M M1 := by
  refine met_V (own := RX3) (by decide +kernel) rfl hG (Nat.le_of_ble_eq_true rfl) (fun X S hY1 hl1 hret => ?_)
  subst hY1
  subst hl1
  show AW X 0 [(0, .ref (hY X.2.1.2 + o)), (1, .ref (hY X.2.1.2 + a1))] [] M
  unfold NR_copyFrom0 at hE
  refine r_aload_n S dX3_copyFrom_0 1 rfl ?_
  refine r_getRK S fc3 k1 0 (a1 + 1) rfl rfl q_0 dX3_copyFrom_1 ?_
  refine r_iconst S (0 : Int32) dX3_copyFrom_4 rfl ?_
  refine r_aload_n S dX3_copyFrom_5 0 rfl ?_
  refine r_getRK S fc3 ho 0 (o + 1) rfl rfl q_0 dX3_copyFrom_6 ?_
  refine r_iconst S (0 : Int32) dX3_copyFrom_9 rfl ?_
  refine r_aload_n S dX3_copyFrom_10 1 rfl ?_
  refine r_getRK S fc3 k1 0 (a1 + 1) rfl rfl q_0 dX3_copyFrom_11 ?_
  refine r_alenI S (kk3_1 k1) dX3_copyFrom_14 ?_
  refine r_aload_n S dX3_copyFrom_15 0 rfl ?_
  refine r_getRK S fc3 ho 0 (o + 1) rfl rfl q_0 dX3_copyFrom_16 ?_
  refine r_alenI S (kk3_1 ho) dX3_copyFrom_19 ?_
  refine r_mmin S q_10 q_11 q_12 q_13 (by decide) (Nat.le_of_ble_eq_true rfl) dX3_copyFrom_20 ?_
  obtain ⟨hi, hE⟩ := ck_some hE
  refine r_acpI S (kk3_1 k1) (kk3_1 ho) hi q_14 q_15 q_16 q_17 (by decide) rfl dX3_copyFrom_23 ?_
  obtain ⟨rfl, rfl⟩ := si2 hE
  exact hret _ _ dX3_copyFrom_26
set_option maxRecDepth 100000 in
set_option maxHeartbeats 4000000 in
theorem c_SR_copyFrom0 (l : Launch) (Y : Env1) (hG : gY Y = gC) (o : Nat) (ho : kC o = 4) (a1 : Nat) (k1 : kC a1 = 4) (M : Mem) (r : Unit) (M1 : Mem) (hE : SR_copyFrom0 o a1 M = some (r, M1)) : CnV l Y yX4_copyFrom cX4_copyFrom 2 2 [.ref (hY Y + o), .ref (hY Y + a1)] M M1 := by
  refine met_V (own := RX4) (by decide +kernel) rfl hG (Nat.le_of_ble_eq_true rfl) (fun X S hY1 hl1 hret => ?_)
  subst hY1
  subst hl1
  show AW X 0 [(0, .ref (hY X.2.1.2 + o)), (1, .ref (hY X.2.1.2 + a1))] [] M
  unfold SR_copyFrom0 at hE
  refine r_aload_n S dX4_copyFrom_0 1 rfl ?_
  refine r_getRK S fc4 k1 0 (a1 + 1) rfl rfl q_1 dX4_copyFrom_1 ?_
  refine r_iconst S (0 : Int32) dX4_copyFrom_4 rfl ?_
  refine r_aload_n S dX4_copyFrom_5 0 rfl ?_
  refine r_getRK S fc4 ho 0 (o + 1) rfl rfl q_1 dX4_copyFrom_6 ?_
  refine r_iconst S (0 : Int32) dX4_copyFrom_9 rfl ?_
  refine r_aload_n S dX4_copyFrom_10 1 rfl ?_
  refine r_getRK S fc4 k1 0 (a1 + 1) rfl rfl q_1 dX4_copyFrom_11 ?_
  refine r_alenL S (kk4_1 k1) dX4_copyFrom_14 ?_
  refine r_aload_n S dX4_copyFrom_15 0 rfl ?_
  refine r_getRK S fc4 ho 0 (o + 1) rfl rfl q_1 dX4_copyFrom_16 ?_
  refine r_alenL S (kk4_1 ho) dX4_copyFrom_19 ?_
  refine r_mmin S q_18 q_11 q_12 q_13 (by decide) (Nat.le_of_ble_eq_true rfl) dX4_copyFrom_20 ?_
  obtain ⟨hi, hE⟩ := ck_some hE
  refine r_acpL S (kk4_1 k1) (kk4_1 ho) hi q_19 q_15 q_16 q_17 (by decide) rfl dX4_copyFrom_23 ?_
  obtain ⟨rfl, rfl⟩ := si2 hE
  exact hret _ _ dX4_copyFrom_26
theorem inb_iff {i : Int32} {n : Nat} : inb i n = true ↔ ¬ i < 0 ∧ i.toNatClampNeg < n := by
  unfold inb
  rw [decide_eq_true_eq]
  constructor
  · intro h
    exact ⟨fun q => h (Or.inl q), by omega⟩
  · rintro ⟨h1, h2⟩ h3
    rcases h3 with h3 | h3
    · exact h1 h3
    · omega
theorem inb_len {i : Int32} {n : Nat} (hn : n ≤ 150) : inb i n = true ↔ 0 ≤ i ∧ ¬ Int32.ofNat n ≤ i := by
  rw [inb_iff, Int32.not_lt]
  constructor
  · rintro ⟨h1, h2⟩
    refine ⟨h1, fun h => ?_⟩
    obtain ⟨j, hj, rfl⟩ := nI_of (Int32.not_lt.mpr h1)
    rw [nI_clamp hj] at h2
    have := (nI_leI (a := n) (b := j) (by omega) hj).mp h
    omega
  · rintro ⟨h1, h2⟩
    refine ⟨h1, ?_⟩
    obtain ⟨j, hj, rfl⟩ := nI_of (Int32.not_lt.mpr h1)
    rw [nI_clamp hj]
    by_cases q : n ≤ j
    · exact absurd ((nI_leI (a := n) (b := j) (by omega) hj).mpr q) h2
    · omega
theorem NR_at0_eq (o : Nat) (i : Int32) (M : Mem) : NR_at0 o i M = some (fAtI o i M) := by
  unfold NR_at0 fAtI
  by_cases h : inb i (nC (o + 1)) = true
  · obtain ⟨h1, h2⟩ := (inb_len (nC_le _)).mp h
    simp [ck, h, h2, Int32.not_lt.mpr h1]
  · simp only [if_neg h]
    split
    · rfl
    · rename_i h1
      split
      · rfl
      · rename_i h2
        exact absurd ((inb_len (nC_le _)).mpr ⟨Int32.not_lt.mp h1, h2⟩) h
theorem SR_at0_eq (o : Nat) (i : Int32) (M : Mem) : SR_at0 o i M = some (fAtL o i M) := by
  unfold SR_at0 fAtL
  by_cases h : inb i (nC (o + 1)) = true
  · obtain ⟨h1, h2⟩ := (inb_len (nC_le _)).mp h
    simp [ck, h, h2, Int32.not_lt.mpr h1]
  · simp only [if_neg h]
    split
    · rfl
    · rename_i h1
      split
      · rfl
      · rename_i h2
        exact absurd ((inb_len (nC_le _)).mpr ⟨Int32.not_lt.mp h1, h2⟩) h
theorem NR_put0_eq (o : Nat) (i v : Int32) (M : Mem) : NR_put0 o i v M = some ((), fPutI o i v M) := by
  unfold NR_put0 fPutI
  by_cases h : inb i (nC (o + 1)) = true
  · obtain ⟨h1, h2⟩ := (inb_len (nC_le _)).mp h
    simp [ck, h, h2, Int32.not_lt.mpr h1]
  · simp only [if_neg h]
    split
    · rfl
    · rename_i h1
      split
      · rfl
      · rename_i h2
        exact absurd ((inb_len (nC_le _)).mpr ⟨Int32.not_lt.mp h1, h2⟩) h
theorem SR_put0_eq (o : Nat) (i : Int32) (v : Int64) (M : Mem) : SR_put0 o i v M = some ((), fPutL o i v M) := by
  unfold SR_put0 fPutL
  by_cases h : inb i (nC (o + 1)) = true
  · obtain ⟨h1, h2⟩ := (inb_len (nC_le _)).mp h
    simp [ck, h, h2, Int32.not_lt.mpr h1]
  · simp only [if_neg h]
    split
    · rfl
    · rename_i h1
      split
      · rfl
      · rename_i h2
        exact absurd ((inb_len (nC_le _)).mpr ⟨Int32.not_lt.mp h1, h2⟩) h
theorem nI_one : (1 : Int32) = nI 1 := rfl
theorem fillI_loop (a : Nat) (v : Int32) (M : Mem) : ∀ (k i fuel : Nat), i + k = nC a → k < fuel → lpM (fun s M9 => JA_fillI0_L5 a v (Int32.ofNat (nC a)) s M9) fuel (nI i) (fun o j => if o = a ∧ j < i then v else M.1 o j, M.2) = some ((), fRowI a v M) := by
  intro k
  induction k with
  | zero =>
    intro i fuel hi hf
    obtain ⟨f, rfl⟩ : ∃ f, fuel = f + 1 := ⟨fuel - 1, by omega⟩
    have h := nC_le a
    obtain rfl : i = nC a := by omega
    have hc : (Int32.ofNat (nC a)) ≤ nI (nC a) := nI_le (Nat.le_refl _) (by omega)
    simp only [lpM, JA_fillI0_L5, if_pos hc, Option.bind_some]
    rfl
  | succ k ih =>
    intro i fuel hi hf
    obtain ⟨f, rfl⟩ : ∃ f, fuel = f + 1 := ⟨fuel - 1, by omega⟩
    have h := nC_le a
    have hc : ¬ (Int32.ofNat (nC a)) ≤ nI i := nI_ge (by omega) (by omega)
    have hi2 : inb (nI i) (nC a) = true := inb_iff.mpr ⟨nI_pos (by omega), by rw [nI_clamp (by omega)]; omega⟩
    have hM : sI (fun o j => if o = a ∧ j < i then v else M.1 o j, M.2) a i v = ((fun o j => if o = a ∧ j < i + 1 then v else M.1 o j, M.2) : Mem) := by
      unfold sI
      refine Prod.ext ?_ rfl
      funext o j
      by_cases ho : o = a
      · by_cases hj : j = i
        · simp [ho, hj]
        · by_cases h5 : j < i
          · simp [ho, hj, h5, Nat.lt_succ_of_lt h5]
          · have : ¬ j < i + 1 := by omega
            simp [ho, hj, h5, this]
      · simp [ho]
    simp only [lpM, JA_fillI0_L5, if_neg hc, ck, if_pos hi2, Option.bind_some, nI_clamp (show i < 2 ^ 31 by omega), nI_one, nI_add]
    rw [hM]
    exact ih (i + 1) f (by omega) (by omega)
theorem fillL_loop (a : Nat) (v : Int64) (M : Mem) : ∀ (k i fuel : Nat), i + k = nC a → k < fuel → lpM (fun s M9 => JA_fillL0_L6 a v (Int32.ofNat (nC a)) s M9) fuel (nI i) (M.1, fun o j => if o = a ∧ j < i then v else M.2 o j) = some ((), fRowL a v M) := by
  intro k
  induction k with
  | zero =>
    intro i fuel hi hf
    obtain ⟨f, rfl⟩ : ∃ f, fuel = f + 1 := ⟨fuel - 1, by omega⟩
    have h := nC_le a
    obtain rfl : i = nC a := by omega
    have hc : (Int32.ofNat (nC a)) ≤ nI (nC a) := nI_le (Nat.le_refl _) (by omega)
    simp only [lpM, JA_fillL0_L6, if_pos hc, Option.bind_some]
    rfl
  | succ k ih =>
    intro i fuel hi hf
    obtain ⟨f, rfl⟩ : ∃ f, fuel = f + 1 := ⟨fuel - 1, by omega⟩
    have h := nC_le a
    have hc : ¬ (Int32.ofNat (nC a)) ≤ nI i := nI_ge (by omega) (by omega)
    have hi2 : inb (nI i) (nC a) = true := inb_iff.mpr ⟨nI_pos (by omega), by rw [nI_clamp (by omega)]; omega⟩
    have hM : sL (M.1, fun o j => if o = a ∧ j < i then v else M.2 o j) a i v = ((M.1, fun o j => if o = a ∧ j < i + 1 then v else M.2 o j) : Mem) := by
      unfold sL
      refine Prod.ext rfl ?_
      funext o j
      by_cases ho : o = a
      · by_cases hj : j = i
        · simp [ho, hj]
        · by_cases h5 : j < i
          · simp [ho, hj, h5, Nat.lt_succ_of_lt h5]
          · have : ¬ j < i + 1 := by omega
            simp [ho, hj, h5, this]
      · simp [ho]
    simp only [lpM, JA_fillL0_L6, if_neg hc, ck, if_pos hi2, Option.bind_some, nI_clamp (show i < 2 ^ 31 by omega), nI_one, nI_add]
    rw [hM]
    exact ih (i + 1) f (by omega) (by omega)
theorem FUEL_big : 100000000 < FUEL := by decide
theorem JA_fillI0_eq (a : Nat) (v : Int32) (M : Mem) : JA_fillI0 a v M = some ((), fRowI a v M) := by
  unfold JA_fillI0
  have h := fillI_loop a v M (nC a) 0 FUEL (by omega) (by have := nC_le a; have := FUEL_big; omega)
  have e : ((fun o j => if o = a ∧ j < 0 then v else M.1 o j, M.2) : Mem) = M := by simp
  rw [e, show nI 0 = (0 : Int32) from rfl] at h
  rw [h]
  rfl
theorem JA_fillL0_eq (a : Nat) (v : Int64) (M : Mem) : JA_fillL0 a v M = some ((), fRowL a v M) := by
  unfold JA_fillL0
  have h := fillL_loop a v M (nC a) 0 FUEL (by omega) (by have := nC_le a; have := FUEL_big; omega)
  have e : ((M.1, fun o j => if o = a ∧ j < 0 then v else M.2 o j) : Mem) = M := by simp
  rw [e, show nI 0 = (0 : Int32) from rfl] at h
  rw [h]
  rfl
theorem NR_fill0_eq (o : Nat) (v : Int32) (M : Mem) : NR_fill0 o v M = some ((), fFillI o v M) := by
  unfold NR_fill0
  rw [JA_fillI0_eq]
  rfl
theorem SR_fill0_eq (o : Nat) (v : Int64) (M : Mem) : SR_fill0 o v M = some ((), fFillL o v M) := by
  unfold SR_fill0
  rw [JA_fillL0_eq]
  rfl
theorem min_nI {a b : Nat} (ha : a ≤ 150) (hb : b ≤ 150) : JM_min (Int32.ofNat a) (Int32.ofNat b) = nI (min a b) := by
  show (if nI b < nI a then nI b else nI a) = nI (min a b)
  by_cases h : b < a
  · rw [if_pos (show nI b < nI a from nI_lt h (by omega)), Nat.min_eq_right (by omega)]
  · rw [if_neg (show ¬ nI b < nI a from nI_nlt (by omega) (by omega)), Nat.min_eq_left (by omega)]
theorem NR_copyFrom0_eq (o a : Nat) (M : Mem) : NR_copyFrom0 o a M = some ((), fCpyI o a M) := by
  unfold NR_copyFrom0 fCpyI
  have h1 := nC_le (a + 1)
  have h2 := nC_le (o + 1)
  rw [min_nI h1 h2, nI_clamp (by omega)]
  have h : okc 0 0 (nI (min (nC (a + 1)) (nC (o + 1)))) (nC (a + 1)) (nC (o + 1)) = true := by
    refine decide_eq_true ⟨rfl, rfl, nI_pos (by omega), ?_, ?_⟩
    · rw [nI_clamp (by omega)]; omega
    · rw [nI_clamp (by omega)]; omega
  simp only [ck, h, if_true]
theorem SR_copyFrom0_eq (o a : Nat) (M : Mem) : SR_copyFrom0 o a M = some ((), fCpyL o a M) := by
  unfold SR_copyFrom0 fCpyL
  have h1 := nC_le (a + 1)
  have h2 := nC_le (o + 1)
  rw [min_nI h1 h2, nI_clamp (by omega)]
  have h : okc 0 0 (nI (min (nC (a + 1)) (nC (o + 1)))) (nC (a + 1)) (nC (o + 1)) = true := by
    refine decide_eq_true ⟨rfl, rfl, nI_pos (by omega), ?_, ?_⟩
    · rw [nI_clamp (by omega)]; omega
    · rw [nI_clamp (by omega)]; omega
  simp only [ck, h, if_true]
theorem c_NR_at (l : Launch) (Y : Env1) (hG : gY Y = gC) (o : Nat) (ho : kC o = 3) (a1 : Int32) (M : Mem) (r : Int32) (hE : fAtI o a1 M = r) : CnI l Y yX3_at cX3_at 2 .int 0 [.ref (hY Y + o), .int a1] M r M := c_NR_at0 l Y hG o ho a1 M r (by rw [NR_at0_eq, hE])
theorem c_SR_at (l : Launch) (Y : Env1) (hG : gY Y = gC) (o : Nat) (ho : kC o = 4) (a1 : Int32) (M : Mem) (r : Int64) (hE : fAtL o a1 M = r) : CnL l Y yX4_at cX4_at 2 0 [.ref (hY Y + o), .int a1] M r M := c_SR_at0 l Y hG o ho a1 M r (by rw [SR_at0_eq, hE])
theorem c_NR_put (l : Launch) (Y : Env1) (hG : gY Y = gC) (o : Nat) (ho : kC o = 3) (a1 a2 : Int32) (M M1 : Mem) (hE : fPutI o a1 a2 M = M1) : CnV l Y yX3_put cX3_put 3 0 [.ref (hY Y + o), .int a1, .int a2] M M1 := c_NR_put0 l Y hG o ho a1 a2 M () M1 (by rw [NR_put0_eq, hE])
theorem c_SR_put (l : Launch) (Y : Env1) (hG : gY Y = gC) (o : Nat) (ho : kC o = 4) (a1 : Int32) (a2 : Int64) (M M1 : Mem) (hE : fPutL o a1 a2 M = M1) : CnV l Y yX4_put cX4_put 4 0 [.ref (hY Y + o), .int a1, .long a2] M M1 := c_SR_put0 l Y hG o ho a1 a2 M () M1 (by rw [SR_put0_eq, hE])
theorem c_NR_fill (l : Launch) (Y : Env1) (hG : gY Y = gC) (o : Nat) (ho : kC o = 3) (a1 : Int32) (M M1 : Mem) (hE : fFillI o a1 M = M1) : CnV l Y yX3_fill cX3_fill 2 1 [.ref (hY Y + o), .int a1] M M1 := c_NR_fill0 l Y hG o ho a1 M () M1 (by rw [NR_fill0_eq, hE])
theorem c_SR_fill (l : Launch) (Y : Env1) (hG : gY Y = gC) (o : Nat) (ho : kC o = 4) (a1 : Int64) (M M1 : Mem) (hE : fFillL o a1 M = M1) : CnV l Y yX4_fill cX4_fill 3 1 [.ref (hY Y + o), .long a1] M M1 := c_SR_fill0 l Y hG o ho a1 M () M1 (by rw [SR_fill0_eq, hE])
theorem c_NR_copyFrom (l : Launch) (Y : Env1) (hG : gY Y = gC) (o : Nat) (ho : kC o = 3) (a : Nat) (ha : kC a = 3) (M M1 : Mem) (hE : fCpyI o a M = M1) : CnV l Y yX3_copyFrom cX3_copyFrom 2 2 [.ref (hY Y + o), .ref (hY Y + a)] M M1 := c_NR_copyFrom0 l Y hG o ho a ha M () M1 (by rw [NR_copyFrom0_eq, hE])
theorem c_SR_copyFrom (l : Launch) (Y : Env1) (hG : gY Y = gC) (o : Nat) (ho : kC o = 4) (a : Nat) (ha : kC a = 4) (M M1 : Mem) (hE : fCpyL o a M = M1) : CnV l Y yX4_copyFrom cX4_copyFrom 2 2 [.ref (hY Y + o), .ref (hY Y + a)] M M1 := c_SR_copyFrom0 l Y hG o ho a ha M () M1 (by rw [SR_copyFrom0_eq, hE])
