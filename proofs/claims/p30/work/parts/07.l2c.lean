/-! L2: what each method does, by program out of the bytecode; the rows' own methods by hand -/
def fAtI (o : Nat) (i : Int32) (M : Mem) : Int32 := if inb i (nC (o + 1)) = true then gI M (o + 1) i.toNatClampNeg else (-1 : Int32)
def fAtL (o : Nat) (i : Int32) (M : Mem) : Int64 := if inb i (nC (o + 1)) = true then gL M (o + 1) i.toNatClampNeg else (0 : Int64)
def fPutI (o : Nat) (i v : Int32) (M : Mem) : Mem := if inb i (nC (o + 1)) = true then sI M (o + 1) i.toNatClampNeg v else M
def fPutL (o : Nat) (i : Int32) (v : Int64) (M : Mem) : Mem := if inb i (nC (o + 1)) = true then sL M (o + 1) i.toNatClampNeg v else M
def fRowI (a : Nat) (v : Int32) (M : Mem) : Mem := (fun o k => if o = a ∧ k < nC a then v else M.1 o k, M.2)
def fRowL (a : Nat) (v : Int64) (M : Mem) : Mem := (M.1, fun o k => if o = a ∧ k < nC a then v else M.2 o k)
def fFillI (o : Nat) (v : Int32) (M : Mem) : Mem := fRowI (o + 1) v M
def fFillL (o : Nat) (v : Int64) (M : Mem) : Mem := fRowL (o + 1) v M
def fCpyI (o a : Nat) (M : Mem) : Mem := cpyI M (a + 1) (o + 1) (min (nC (a + 1)) (nC (o + 1)))
def fCpyL (o a : Nat) (M : Mem) : Mem := cpyL M (a + 1) (o + 1) (min (nC (a + 1)) (nC (o + 1)))
def fSavedAt (i : Int32) : Nat := if inb i 4 = true then 97 + 46 * i.toNatClampNeg else 47
def JL_bitCount (a0 : Int64) : Int32 :=
  ((((((((((a0 - ((lus a0 (1 : Int32)) &&& (6148914691236517205 : Int64))) &&& (3689348814741910323 : Int64)) + ((lus (a0 - ((lus a0 (1 : Int32)) &&& (6148914691236517205 : Int64))) (2 : Int32)) &&& (3689348814741910323 : Int64))) + (lus (((a0 - ((lus a0 (1 : Int32)) &&& (6148914691236517205 : Int64))) &&& (3689348814741910323 : Int64)) + ((lus (a0 - ((lus a0 (1 : Int32)) &&& (6148914691236517205 : Int64))) (2 : Int32)) &&& (3689348814741910323 : Int64))) (4 : Int32))) &&& (1085102592571150095 : Int64)) + (lus (((((a0 - ((lus a0 (1 : Int32)) &&& (6148914691236517205 : Int64))) &&& (3689348814741910323 : Int64)) + ((lus (a0 - ((lus a0 (1 : Int32)) &&& (6148914691236517205 : Int64))) (2 : Int32)) &&& (3689348814741910323 : Int64))) + (lus (((a0 - ((lus a0 (1 : Int32)) &&& (6148914691236517205 : Int64))) &&& (3689348814741910323 : Int64)) + ((lus (a0 - ((lus a0 (1 : Int32)) &&& (6148914691236517205 : Int64))) (2 : Int32)) &&& (3689348814741910323 : Int64))) (4 : Int32))) &&& (1085102592571150095 : Int64)) (8 : Int32))) + (lus ((((((a0 - ((lus a0 (1 : Int32)) &&& (6148914691236517205 : Int64))) &&& (3689348814741910323 : Int64)) + ((lus (a0 - ((lus a0 (1 : Int32)) &&& (6148914691236517205 : Int64))) (2 : Int32)) &&& (3689348814741910323 : Int64))) + (lus (((a0 - ((lus a0 (1 : Int32)) &&& (6148914691236517205 : Int64))) &&& (3689348814741910323 : Int64)) + ((lus (a0 - ((lus a0 (1 : Int32)) &&& (6148914691236517205 : Int64))) (2 : Int32)) &&& (3689348814741910323 : Int64))) (4 : Int32))) &&& (1085102592571150095 : Int64)) + (lus (((((a0 - ((lus a0 (1 : Int32)) &&& (6148914691236517205 : Int64))) &&& (3689348814741910323 : Int64)) + ((lus (a0 - ((lus a0 (1 : Int32)) &&& (6148914691236517205 : Int64))) (2 : Int32)) &&& (3689348814741910323 : Int64))) + (lus (((a0 - ((lus a0 (1 : Int32)) &&& (6148914691236517205 : Int64))) &&& (3689348814741910323 : Int64)) + ((lus (a0 - ((lus a0 (1 : Int32)) &&& (6148914691236517205 : Int64))) (2 : Int32)) &&& (3689348814741910323 : Int64))) (4 : Int32))) &&& (1085102592571150095 : Int64)) (8 : Int32))) (16 : Int32))) + (lus (((((((a0 - ((lus a0 (1 : Int32)) &&& (6148914691236517205 : Int64))) &&& (3689348814741910323 : Int64)) + ((lus (a0 - ((lus a0 (1 : Int32)) &&& (6148914691236517205 : Int64))) (2 : Int32)) &&& (3689348814741910323 : Int64))) + (lus (((a0 - ((lus a0 (1 : Int32)) &&& (6148914691236517205 : Int64))) &&& (3689348814741910323 : Int64)) + ((lus (a0 - ((lus a0 (1 : Int32)) &&& (6148914691236517205 : Int64))) (2 : Int32)) &&& (3689348814741910323 : Int64))) (4 : Int32))) &&& (1085102592571150095 : Int64)) + (lus (((((a0 - ((lus a0 (1 : Int32)) &&& (6148914691236517205 : Int64))) &&& (3689348814741910323 : Int64)) + ((lus (a0 - ((lus a0 (1 : Int32)) &&& (6148914691236517205 : Int64))) (2 : Int32)) &&& (3689348814741910323 : Int64))) + (lus (((a0 - ((lus a0 (1 : Int32)) &&& (6148914691236517205 : Int64))) &&& (3689348814741910323 : Int64)) + ((lus (a0 - ((lus a0 (1 : Int32)) &&& (6148914691236517205 : Int64))) (2 : Int32)) &&& (3689348814741910323 : Int64))) (4 : Int32))) &&& (1085102592571150095 : Int64)) (8 : Int32))) + (lus ((((((a0 - ((lus a0 (1 : Int32)) &&& (6148914691236517205 : Int64))) &&& (3689348814741910323 : Int64)) + ((lus (a0 - ((lus a0 (1 : Int32)) &&& (6148914691236517205 : Int64))) (2 : Int32)) &&& (3689348814741910323 : Int64))) + (lus (((a0 - ((lus a0 (1 : Int32)) &&& (6148914691236517205 : Int64))) &&& (3689348814741910323 : Int64)) + ((lus (a0 - ((lus a0 (1 : Int32)) &&& (6148914691236517205 : Int64))) (2 : Int32)) &&& (3689348814741910323 : Int64))) (4 : Int32))) &&& (1085102592571150095 : Int64)) + (lus (((((a0 - ((lus a0 (1 : Int32)) &&& (6148914691236517205 : Int64))) &&& (3689348814741910323 : Int64)) + ((lus (a0 - ((lus a0 (1 : Int32)) &&& (6148914691236517205 : Int64))) (2 : Int32)) &&& (3689348814741910323 : Int64))) + (lus (((a0 - ((lus a0 (1 : Int32)) &&& (6148914691236517205 : Int64))) &&& (3689348814741910323 : Int64)) + ((lus (a0 - ((lus a0 (1 : Int32)) &&& (6148914691236517205 : Int64))) (2 : Int32)) &&& (3689348814741910323 : Int64))) (4 : Int32))) &&& (1085102592571150095 : Int64)) (8 : Int32))) (16 : Int32))) (32 : Int32))).toInt32) &&& (127 : Int32))
def JA_fillI0_L5 (v0 : Nat) (v1 : Int32) (v3 : Int32) (v2 : Int32) (M : Mem) : Option (((Int32) ⊕ (Unit)) × Mem) :=
  (if v3 ≤ v2 then some (.inr (), M) else ck (inb v2 (nC v0)) <| some (.inl (v2 + (1 : Int32)), (sI M v0 v2.toNatClampNeg v1)))
def JA_fillI0 (a0 : Nat) (a1 : Int32) (M : Mem) : Option (Unit × Mem) :=
  b2 (lpM (fun s M9 => JA_fillI0_L5 a0 a1 (Int32.ofNat (nC a0)) s M9) FUEL (0 : Int32) M) <| fun e1 M2 => some ((), M2)
def JA_fillL0_L6 (v0 : Nat) (v1 : Int64) (v4 : Int32) (v3 : Int32) (M : Mem) : Option (((Int32) ⊕ (Unit)) × Mem) :=
  (if v4 ≤ v3 then some (.inr (), M) else ck (inb v3 (nC v0)) <| some (.inl (v3 + (1 : Int32)), (sL M v0 v3.toNatClampNeg v1)))
def JA_fillL0 (a0 : Nat) (a1 : Int64) (M : Mem) : Option (Unit × Mem) :=
  b2 (lpM (fun s M9 => JA_fillL0_L6 a0 a1 (Int32.ofNat (nC a0)) s M9) FUEL (0 : Int32) M) <| fun e1 M2 => some ((), M2)
def NR_at0 (o : Nat) (a1 : Int32) (M : Mem) : Option Int32 :=
  (if a1 < 0 then some (-1 : Int32) else (if (Int32.ofNat (nC (o + 1))) ≤ a1 then some (-1 : Int32) else ck (inb a1 (nC (o + 1))) <| some (gI M (o + 1) a1.toNatClampNeg)))
def SR_at0 (o : Nat) (a1 : Int32) (M : Mem) : Option Int64 :=
  (if a1 < 0 then some (0 : Int64) else (if (Int32.ofNat (nC (o + 1))) ≤ a1 then some (0 : Int64) else ck (inb a1 (nC (o + 1))) <| some (gL M (o + 1) a1.toNatClampNeg)))
def NR_put0 (o : Nat) (a1 : Int32) (a2 : Int32) (M : Mem) : Option (Unit × Mem) :=
  (if a1 < 0 then some ((), M) else (if (Int32.ofNat (nC (o + 1))) ≤ a1 then some ((), M) else ck (inb a1 (nC (o + 1))) <| some ((), (sI M (o + 1) a1.toNatClampNeg a2))))
def SR_put0 (o : Nat) (a1 : Int32) (a2 : Int64) (M : Mem) : Option (Unit × Mem) :=
  (if a1 < 0 then some ((), M) else (if (Int32.ofNat (nC (o + 1))) ≤ a1 then some ((), M) else ck (inb a1 (nC (o + 1))) <| some ((), (sL M (o + 1) a1.toNatClampNeg a2))))
def NR_fill0 (o : Nat) (a1 : Int32) (M : Mem) : Option (Unit × Mem) :=
  b2 (JA_fillI0 (o + 1) a1 M) fun x1 M2 => some ((), M2)
def SR_fill0 (o : Nat) (a1 : Int64) (M : Mem) : Option (Unit × Mem) :=
  b2 (JA_fillL0 (o + 1) a1 M) fun x1 M2 => some ((), M2)
def NR_copyFrom0 (o : Nat) (a1 : Nat) (M : Mem) : Option (Unit × Mem) :=
  ck (okc (0 : Int32) (0 : Int32) (JM_min (Int32.ofNat (nC (a1 + 1))) (Int32.ofNat (nC (o + 1)))) (nC (a1 + 1)) (nC (o + 1))) <| some ((), (cpyI M (a1 + 1) (o + 1) (JM_min (Int32.ofNat (nC (a1 + 1))) (Int32.ofNat (nC (o + 1)))).toNatClampNeg))
def SR_copyFrom0 (o : Nat) (a1 : Nat) (M : Mem) : Option (Unit × Mem) :=
  ck (okc (0 : Int32) (0 : Int32) (JM_min (Int32.ofNat (nC (a1 + 1))) (Int32.ofNat (nC (o + 1)))) (nC (a1 + 1)) (nC (o + 1))) <| some ((), (cpyL M (a1 + 1) (o + 1) (JM_min (Int32.ofNat (nC (a1 + 1))) (Int32.ofNat (nC (o + 1)))).toNatClampNeg))
def LL_has (a0 : Int64) (a2 : Int32) : Int32 :=
  (if ((lsr a0 a2) &&& (1 : Int64)) = (0 : Int64) then (0 : Int32) else (1 : Int32))
def LL_bit (a0 : Int32) : Int64 :=
  (lsh (1 : Int64) a0)
def LK_wetCells_L21 (v0 : Nat) (v1 : Nat) (v2 : Int32) (v3 : Int64) (v5 : Int64) (v7 : Int32) (v8 : Int32) (v9 : Int32) (M : Mem) : Option (((Int64 × Int32 × Int32 × Int32) ⊕ (Int64))) :=
  (if (gI M v1 2) ≤ v9 then some (.inr v5) else some (.inl ((if (LL_has v3 (fAtI (v1 + 9) v9 M)) = 0 then v5 else (if (fAtI (v0 + 3) v2 M) ≤ ((v7 * (fAtI (v1 + 1) (fAtI (v1 + 9) v9 M) M)) - v8) then v5 else (v5 ||| (LL_bit (fAtI (v1 + 9) v9 M))))), (if (LL_has v3 (fAtI (v1 + 9) v9 M)) = 0 then v7 else (if (fAtI (v0 + 3) v2 M) ≤ ((v7 * (fAtI (v1 + 1) (fAtI (v1 + 9) v9 M) M)) - v8) then v7 else (v7 + (1 : Int32)))), (if (LL_has v3 (fAtI (v1 + 9) v9 M)) = 0 then v8 else (if (fAtI (v0 + 3) v2 M) ≤ ((v7 * (fAtI (v1 + 1) (fAtI (v1 + 9) v9 M) M)) - v8) then v8 else (v8 + (fAtI (v1 + 1) (fAtI (v1 + 9) v9 M) M)))), (v9 + (1 : Int32)))))
def LK_wetCells (o : Nat) (a1 : Nat) (a2 : Int32) (M : Mem) : Option Int64 :=
  b1 (lpR (fun s => LK_wetCells_L21 o a1 a2 (fAtL (o + 1) a2 M) s.1 s.2.1 s.2.2.1 s.2.2.2 M) FUEL ((0 : Int64), (0 : Int32), (0 : Int32), (0 : Int32))) <| fun e1 => some e1
def GR_heightSum_L5 (v0 : Nat) (v1 : Int64) (v3 : Int32) (v4 : Int32) (M : Mem) : Option (((Int32 × Int32) ⊕ (Int32))) :=
  (if (gI M v0 2) ≤ v4 then some (.inr v3) else some (.inl ((v3 + (if (LL_has v1 v4) = 0 then (0 : Int32) else (fAtI (v0 + 1) v4 M))), (v4 + (1 : Int32)))))
def GR_heightSum (o : Nat) (a1 : Int64) (M : Mem) : Option Int32 :=
  b1 (lpR (fun s => GR_heightSum_L5 o a1 s.1 s.2 M) FUEL ((0 : Int32), (0 : Int32))) <| fun e1 => some e1
def LL_commonDivisor_L3 (v0 : Int32) (v1 : Int32) (v2 : Int32) : Option (((Int32) ⊕ ((Unit) ⊕ Int32))) :=
  (if v2 ≤ (1 : Int32) then some (.inr (.inl ())) else ck (decide (¬ v2 = 0)) <| (if ¬ (irm v0 v2) = 0 then some (.inl (v2 + (-1 : Int32))) else ck (decide (¬ v2 = 0)) <| (if ¬ (irm v1 v2) = 0 then some (.inl (v2 + (-1 : Int32))) else some (.inr (.inr v2)))))
def LL_commonDivisor (a0 : Int32) (a1 : Int32) : Option Int32 :=
  b1 (lpR (fun s => LL_commonDivisor_L3 a0 a1 s) FUEL (36 : Int32)) <| fun e1 => e1.elim (fun e2 => some (1 : Int32)) (fun r8 => some r8)
def LL_reduced (a0 : Int32) (a1 : Int32) : Option Int32 :=
  (if a1 ≤ (1 : Int32) then some a0 else ck (decide (¬ a1 = 0)) <| some (a0 / a1))
def LL_depthValue (a1 : Int32) (M : Mem) : Option UInt64 :=
  b1 (LK_wetCells 20 2 (fAtI 37 a1 M) M) fun x1 => (if ¬ (LL_has x1 a1) = 0 then b1 (GR_heightSum 2 x1 M) fun x2 => b1 (LL_commonDivisor (((fAtI 23 (fAtI 37 a1 M) M) + x2) - ((JL_bitCount x1) * (fAtI 3 a1 M))) (JL_bitCount x1)) fun x3 => b1 (LL_reduced (JL_bitCount x1) x3) fun x4 => (if x4 ≤ 0 then some FP.dconst0 else b1 (LL_reduced (((fAtI 23 (fAtI 37 a1 M) M) + x2) - ((JL_bitCount x1) * (fAtI 3 a1 M))) x3) fun x5 => ck (nn64 (FP.ddiv (FP.i2d x5) (FP.i2d x4))) <| some (FP.ddiv (FP.i2d x5) (FP.i2d x4))) else some FP.dconst0)
def LL_deepest_L7 (v1 : Int32) (v2 : UInt64) (v4 : Int32) (M : Mem) : Option (((Int32 × UInt64 × Int32) ⊕ (Int32))) :=
  (if (gI M 2 2) ≤ v4 then some (.inr v1) else b1 (LL_depthValue v4 M) fun x1 => some (.inl ((if (dcl x1 v2) ≤ 0 then v1 else v4), (if (dcl x1 v2) ≤ 0 then v2 else x1), (v4 + (1 : Int32)))))
def LL_deepest (M : Mem) : Option Int32 :=
  b1 (lpR (fun s => LL_deepest_L7 s.1 s.2.1 s.2.2 M) FUEL ((-1 : Int32), FP.dconst0, (0 : Int32))) <| fun e1 => some e1
def LL_lowestIn (a0 : Int64) : Int32 :=
  (if ¬ a0 = (0 : Int64) then (JL_bitCount ((a0 &&& (-a0)) - (1 : Int64))) else (-1 : Int32))
def LK_isLowestOfLake (o : Nat) (a1 : Int32) (M : Mem) : Int32 :=
  (if (fAtI (o + 17) a1 M) = (-1 : Int32) then (0 : Int32) else (if ¬ (LL_lowestIn (fAtL (o + 1) (fAtI (o + 17) a1 M) M)) = a1 then (0 : Int32) else (1 : Int32)))
def LK_total_L4 (v0 : Nat) (v1 : Int32) (v2 : Int32) (M : Mem) : Option (((Int32 × Int32) ⊕ (Int32))) :=
  (if (36 : Int32) ≤ v2 then some (.inr v1) else some (.inl ((v1 + (if (LK_isLowestOfLake v0 v2 M) = 0 then (0 : Int32) else (1 : Int32))), (v2 + (1 : Int32)))))
def LK_total (o : Nat) (M : Mem) : Option Int32 :=
  b1 (lpR (fun s => LK_total_L4 o s.1 s.2 M) FUEL ((0 : Int32), (0 : Int32))) <| fun e1 => some e1
def GR_copyFrom (o : Nat) (a1 : Nat) (M : Mem) : Option (Unit × Mem) :=
  some ((), (fCpyI (o + 9) (a1 + 9) (fCpyI (o + 7) (a1 + 7) (fCpyI (o + 5) (a1 + 5) (fCpyI (o + 3) (a1 + 3) (fCpyI (o + 1) (a1 + 1) (sL (sI (sI (sI M o 0 (gI M a1 0)) o 1 (gI (sI M o 0 (gI M a1 0)) a1 1)) o 2 (gI (sI (sI M o 0 (gI M a1 0)) o 1 (gI (sI M o 0 (gI M a1 0)) a1 1)) a1 2)) o 3 (gL (sI (sI (sI M o 0 (gI M a1 0)) o 1 (gI (sI M o 0 (gI M a1 0)) a1 1)) o 2 (gI (sI (sI M o 0 (gI M a1 0)) o 1 (gI (sI M o 0 (gI M a1 0)) a1 1)) a1 2)) a1 3))))))))
def WY_copyFrom (o : Nat) (a1 : Nat) (M : Mem) : Option (Unit × Mem) :=
  some ((), (fCpyI (o + 5) (a1 + 5) (fCpyI (o + 3) (a1 + 3) (fCpyL (o + 1) (a1 + 1) (sI M o 0 (gI M a1 0))))))
def LK_copyFrom (o : Nat) (a1 : Nat) (M : Mem) : Option (Unit × Mem) :=
  some ((), (fCpyI (o + 17) (a1 + 17) (fCpyI (o + 15) (a1 + 15) (fCpyI (o + 13) (a1 + 13) (fCpyI (o + 11) (a1 + 11) (fCpyI (o + 9) (a1 + 9) (fCpyI (o + 7) (a1 + 7) (fCpyI (o + 5) (a1 + 5) (fCpyI (o + 3) (a1 + 3) (fCpyL (o + 1) (a1 + 1) M))))))))))
def WD_copyFrom (o : Nat) (a1 : Nat) (M : Mem) : Option (Unit × Mem) :=
  b2 (GR_copyFrom (o + 1) (a1 + 1) M) fun x1 M2 => b2 (WY_copyFrom (o + 12) (a1 + 12) M2) fun x3 M4 => b2 (LK_copyFrom (o + 19) (a1 + 19) M4) fun x5 M6 => some ((), (sL (sL (sL M6 o 3 (gL M6 a1 3)) o 4 (gL (sL M6 o 3 (gL M6 a1 3)) a1 4)) o 5 (gL (sL (sL M6 o 3 (gL M6 a1 3)) o 4 (gL (sL M6 o 3 (gL M6 a1 3)) a1 4)) a1 5)))
def LK_fill_J39 (v0 : Nat) (v1 : Int32) (v3 : Int32) (t0 : Int32) (M : Mem) : Option (Int32 × Mem) :=
  some (t0, (fPutI (v0 + 3) v1 (v3 + t0) M))
def LK_fill (o : Nat) (a1 : Int32) (a2 : Int32) (M : Mem) : Option (Int32 × Mem) :=
  LK_fill_J39 o a1 (fAtI (o + 3) a1 M) (if ¬ (fAtI (o + 7) a1 M) = (-1 : Int32) then (JM_min a2 ((fAtI (o + 5) a1 M) - (fAtI (o + 3) a1 M))) else a2) M
def LK_isFull (o : Nat) (a1 : Int32) (M : Mem) : Int32 :=
  (if (fAtI (o + 7) a1 M) = (-1 : Int32) then (0 : Int32) else (if ¬ (fAtI (o + 3) a1 M) = (fAtI (o + 5) a1 M) then (0 : Int32) else (1 : Int32)))
def LK_freePlace_L2 (v0 : Nat) (v1 : Int32) (M : Mem) : Option (((Int32) ⊕ ((Unit) ⊕ Int32))) :=
  (if (71 : Int32) ≤ v1 then some (.inr (.inl ())) else (if ¬ (fAtL (v0 + 1) v1 M) = (0 : Int64) then some (.inl (v1 + (1 : Int32))) else some (.inr (.inr v1))))
def LK_freePlace (o : Nat) (M : Mem) : Option Int32 :=
  b1 (lpR (fun s => LK_freePlace_L2 o s M) FUEL (0 : Int32)) <| fun e1 => e1.elim (fun e2 => some (-1 : Int32)) (fun r8 => some r8)
def LK_findPass_L15 (v0 : Nat) (v1 : Nat) (v2 : Int32) (v3 : Int64) (v5 : Int32) (v6 : Int32) (M : Mem) : Option (((Int32 × Int32) ⊕ (Int32))) :=
  (if ((4 : Int32) * (gI M v1 2)) ≤ v6 then some (.inr v5) else some (.inl ((if (LL_has v3 (v6 / (4 : Int32))) = 0 then v5 else (if (fAtI (v1 + 3) v6 M) = (-1 : Int32) then v5 else (if ¬ (LL_has v3 (fAtI (v1 + 3) v6 M)) = 0 then v5 else (if v5 = (-1 : Int32) then v6 else (if (fAtI (v1 + 7) v5 M) ≤ (fAtI (v1 + 7) v6 M) then v5 else v6))))), (v6 + (1 : Int32)))))
def LK_findPass (o : Nat) (a1 : Nat) (a2 : Int32) (M : Mem) : Option (Unit × Mem) :=
  b1 (lpR (fun s => LK_findPass_L15 o a1 a2 (fAtL (o + 1) a2 M) s.1 s.2 M) FUEL ((-1 : Int32), (0 : Int32))) <| fun e1 => some ((), (fPutI (o + 7) a2 e1 M))
def LK_findCapacity_J98 (t0 : Int32) (t1 : Int32) (t2 : Nat) (M : Mem) : Option (Unit × Mem) :=
  some ((), (fPutI t2 t1 t0 M))
def LK_findCapacity_L15 (v0 : Nat) (v1 : Nat) (v2 : Int32) (v3 : Int32) (v4 : Int32) (v5 : Int32) (M : Mem) : Option (((Int32 × Int32) ⊕ (Int32))) :=
  (if (gI M v1 2) ≤ v5 then some (.inr v4) else some (.inl ((v4 + (if (LL_has (fAtL (v0 + 1) v2 M) v5) = 0 then (0 : Int32) else (if ((fAtI (v1 + 7) v3 M) - (fAtI (v1 + 1) v5 M)) ≤ 0 then (0 : Int32) else ((fAtI (v1 + 7) v3 M) - (fAtI (v1 + 1) v5 M))))), (v5 + (1 : Int32)))))
def LK_findCapacity (o : Nat) (a1 : Nat) (a2 : Int32) (M : Mem) : Option (Unit × Mem) :=
  b1 (lpR (fun s => LK_findCapacity_L15 o a1 a2 (fAtI (o + 7) a2 M) s.1 s.2 M) FUEL ((0 : Int32), (0 : Int32))) <| fun e1 => LK_findCapacity_J98 (if ¬ (fAtI (o + 7) a2 M) = (-1 : Int32) then e1 else (-1 : Int32)) a2 (o + 5) M
def LK_claimCells_L2 (v0 : Nat) (v1 : Int32) (v2 : Int32) (M : Mem) : Option (((Int32) ⊕ (Unit)) × Mem) :=
  (if (36 : Int32) ≤ v2 then some (.inr (), M) else (if (LL_has (fAtL (v0 + 1) v1 M) v2) = 0 then some (.inl (v2 + (1 : Int32)), M) else some (.inl (v2 + (1 : Int32)), (fPutI (v0 + 17) v2 v1 M))))
def LK_claimCells (o : Nat) (a1 : Int32) (M : Mem) : Option (Unit × Mem) :=
  b2 (lpM (fun s M9 => LK_claimCells_L2 o a1 s M9) FUEL (0 : Int32) M) <| fun e1 M2 => some ((), M2)
def LK_join_J73 (v0 : Nat) (v1 : Nat) (v2 : Int32) (v3 : Int32) (v4 : Int32) (t0 : Int32) (t1 : Int32) (t2 : Nat) (M : Mem) : Option (Int32 × Mem) :=
  b2 (LK_findPass v0 v1 v4 (fPutI (v0 + 11) v4 ((fAtI (v0 + 11) v2 (fPutI (v0 + 9) v4 ((fAtI (v0 + 5) v2 (fPutI (v0 + 3) v4 ((fAtI (v0 + 3) v2 (fPutL (v0 + 1) v4 ((fAtL (v0 + 1) v2 (fPutI t2 t1 t0 M)) ||| (fAtL (v0 + 1) v3 (fPutI t2 t1 t0 M))) (fPutI t2 t1 t0 M))) + (fAtI (v0 + 3) v3 (fPutL (v0 + 1) v4 ((fAtL (v0 + 1) v2 (fPutI t2 t1 t0 M)) ||| (fAtL (v0 + 1) v3 (fPutI t2 t1 t0 M))) (fPutI t2 t1 t0 M)))) (fPutL (v0 + 1) v4 ((fAtL (v0 + 1) v2 (fPutI t2 t1 t0 M)) ||| (fAtL (v0 + 1) v3 (fPutI t2 t1 t0 M))) (fPutI t2 t1 t0 M)))) + (fAtI (v0 + 5) v3 (fPutI (v0 + 3) v4 ((fAtI (v0 + 3) v2 (fPutL (v0 + 1) v4 ((fAtL (v0 + 1) v2 (fPutI t2 t1 t0 M)) ||| (fAtL (v0 + 1) v3 (fPutI t2 t1 t0 M))) (fPutI t2 t1 t0 M))) + (fAtI (v0 + 3) v3 (fPutL (v0 + 1) v4 ((fAtL (v0 + 1) v2 (fPutI t2 t1 t0 M)) ||| (fAtL (v0 + 1) v3 (fPutI t2 t1 t0 M))) (fPutI t2 t1 t0 M)))) (fPutL (v0 + 1) v4 ((fAtL (v0 + 1) v2 (fPutI t2 t1 t0 M)) ||| (fAtL (v0 + 1) v3 (fPutI t2 t1 t0 M))) (fPutI t2 t1 t0 M))))) (fPutI (v0 + 3) v4 ((fAtI (v0 + 3) v2 (fPutL (v0 + 1) v4 ((fAtL (v0 + 1) v2 (fPutI t2 t1 t0 M)) ||| (fAtL (v0 + 1) v3 (fPutI t2 t1 t0 M))) (fPutI t2 t1 t0 M))) + (fAtI (v0 + 3) v3 (fPutL (v0 + 1) v4 ((fAtL (v0 + 1) v2 (fPutI t2 t1 t0 M)) ||| (fAtL (v0 + 1) v3 (fPutI t2 t1 t0 M))) (fPutI t2 t1 t0 M)))) (fPutL (v0 + 1) v4 ((fAtL (v0 + 1) v2 (fPutI t2 t1 t0 M)) ||| (fAtL (v0 + 1) v3 (fPutI t2 t1 t0 M))) (fPutI t2 t1 t0 M))))) + (fAtI (v0 + 11) v3 (fPutI (v0 + 9) v4 ((fAtI (v0 + 5) v2 (fPutI (v0 + 3) v4 ((fAtI (v0 + 3) v2 (fPutL (v0 + 1) v4 ((fAtL (v0 + 1) v2 (fPutI t2 t1 t0 M)) ||| (fAtL (v0 + 1) v3 (fPutI t2 t1 t0 M))) (fPutI t2 t1 t0 M))) + (fAtI (v0 + 3) v3 (fPutL (v0 + 1) v4 ((fAtL (v0 + 1) v2 (fPutI t2 t1 t0 M)) ||| (fAtL (v0 + 1) v3 (fPutI t2 t1 t0 M))) (fPutI t2 t1 t0 M)))) (fPutL (v0 + 1) v4 ((fAtL (v0 + 1) v2 (fPutI t2 t1 t0 M)) ||| (fAtL (v0 + 1) v3 (fPutI t2 t1 t0 M))) (fPutI t2 t1 t0 M)))) + (fAtI (v0 + 5) v3 (fPutI (v0 + 3) v4 ((fAtI (v0 + 3) v2 (fPutL (v0 + 1) v4 ((fAtL (v0 + 1) v2 (fPutI t2 t1 t0 M)) ||| (fAtL (v0 + 1) v3 (fPutI t2 t1 t0 M))) (fPutI t2 t1 t0 M))) + (fAtI (v0 + 3) v3 (fPutL (v0 + 1) v4 ((fAtL (v0 + 1) v2 (fPutI t2 t1 t0 M)) ||| (fAtL (v0 + 1) v3 (fPutI t2 t1 t0 M))) (fPutI t2 t1 t0 M)))) (fPutL (v0 + 1) v4 ((fAtL (v0 + 1) v2 (fPutI t2 t1 t0 M)) ||| (fAtL (v0 + 1) v3 (fPutI t2 t1 t0 M))) (fPutI t2 t1 t0 M))))) (fPutI (v0 + 3) v4 ((fAtI (v0 + 3) v2 (fPutL (v0 + 1) v4 ((fAtL (v0 + 1) v2 (fPutI t2 t1 t0 M)) ||| (fAtL (v0 + 1) v3 (fPutI t2 t1 t0 M))) (fPutI t2 t1 t0 M))) + (fAtI (v0 + 3) v3 (fPutL (v0 + 1) v4 ((fAtL (v0 + 1) v2 (fPutI t2 t1 t0 M)) ||| (fAtL (v0 + 1) v3 (fPutI t2 t1 t0 M))) (fPutI t2 t1 t0 M)))) (fPutL (v0 + 1) v4 ((fAtL (v0 + 1) v2 (fPutI t2 t1 t0 M)) ||| (fAtL (v0 + 1) v3 (fPutI t2 t1 t0 M))) (fPutI t2 t1 t0 M)))))) (fPutI (v0 + 9) v4 ((fAtI (v0 + 5) v2 (fPutI (v0 + 3) v4 ((fAtI (v0 + 3) v2 (fPutL (v0 + 1) v4 ((fAtL (v0 + 1) v2 (fPutI t2 t1 t0 M)) ||| (fAtL (v0 + 1) v3 (fPutI t2 t1 t0 M))) (fPutI t2 t1 t0 M))) + (fAtI (v0 + 3) v3 (fPutL (v0 + 1) v4 ((fAtL (v0 + 1) v2 (fPutI t2 t1 t0 M)) ||| (fAtL (v0 + 1) v3 (fPutI t2 t1 t0 M))) (fPutI t2 t1 t0 M)))) (fPutL (v0 + 1) v4 ((fAtL (v0 + 1) v2 (fPutI t2 t1 t0 M)) ||| (fAtL (v0 + 1) v3 (fPutI t2 t1 t0 M))) (fPutI t2 t1 t0 M)))) + (fAtI (v0 + 5) v3 (fPutI (v0 + 3) v4 ((fAtI (v0 + 3) v2 (fPutL (v0 + 1) v4 ((fAtL (v0 + 1) v2 (fPutI t2 t1 t0 M)) ||| (fAtL (v0 + 1) v3 (fPutI t2 t1 t0 M))) (fPutI t2 t1 t0 M))) + (fAtI (v0 + 3) v3 (fPutL (v0 + 1) v4 ((fAtL (v0 + 1) v2 (fPutI t2 t1 t0 M)) ||| (fAtL (v0 + 1) v3 (fPutI t2 t1 t0 M))) (fPutI t2 t1 t0 M)))) (fPutL (v0 + 1) v4 ((fAtL (v0 + 1) v2 (fPutI t2 t1 t0 M)) ||| (fAtL (v0 + 1) v3 (fPutI t2 t1 t0 M))) (fPutI t2 t1 t0 M))))) (fPutI (v0 + 3) v4 ((fAtI (v0 + 3) v2 (fPutL (v0 + 1) v4 ((fAtL (v0 + 1) v2 (fPutI t2 t1 t0 M)) ||| (fAtL (v0 + 1) v3 (fPutI t2 t1 t0 M))) (fPutI t2 t1 t0 M))) + (fAtI (v0 + 3) v3 (fPutL (v0 + 1) v4 ((fAtL (v0 + 1) v2 (fPutI t2 t1 t0 M)) ||| (fAtL (v0 + 1) v3 (fPutI t2 t1 t0 M))) (fPutI t2 t1 t0 M)))) (fPutL (v0 + 1) v4 ((fAtL (v0 + 1) v2 (fPutI t2 t1 t0 M)) ||| (fAtL (v0 + 1) v3 (fPutI t2 t1 t0 M))) (fPutI t2 t1 t0 M)))))) fun x1 M2 => b2 (LK_findCapacity v0 v1 v4 M2) fun x3 M4 => b2 (LK_claimCells v0 v4 M4) fun x5 M6 => some (v4, M6)
def LK_join_J54 (v0 : Nat) (v1 : Nat) (v2 : Int32) (v3 : Int32) (v4 : Int32) (v5 : Int32) (t0 : Int32) (t1 : Int32) (t2 : Nat) (M : Mem) : Option (Int32 × Mem) :=
  LK_join_J73 v0 v1 v2 v3 v4 (if v5 = 0 then v2 else v3) v4 (v0 + 15) (fPutI t2 t1 t0 M)
def LK_join_J36 (v0 : Nat) (v1 : Nat) (v2 : Int32) (v3 : Int32) (v4 : Int32) (t0 : Int32) (M : Mem) : Option (Int32 × Mem) :=
  LK_join_J54 v0 v1 v2 v3 v4 t0 (if t0 = 0 then v3 else v2) v4 (v0 + 13) M
def LK_join (o : Nat) (a1 : Nat) (a2 : Int32) (a3 : Int32) (M : Mem) : Option (Int32 × Mem) :=
  b1 (LK_freePlace o M) fun x1 => LK_join_J36 o a1 a2 a3 x1 (if (LL_lowestIn (fAtL (o + 1) a3 M)) ≤ (LL_lowestIn (fAtL (o + 1) a2 M)) then (0 : Int32) else (1 : Int32)) M
def LK_pourInto_L9_J119 (v0 : Nat) (v1 : Nat) (v4 : Int32) (v5 : Int32) (v6 : Int32) (v8 : Int32) (t0 : Int32) (M : Mem) : Option (((Int32 × Int32 × Int32) ⊕ ((Unit) ⊕ Int32)) × Mem) :=
  (if t0 = 0 then some (.inl (v8, v5, (v6 + (1 : Int32))), M) else b2 (LK_join v0 v1 v4 v8 M) fun x1 M2 => some (.inl (x1, v5, (v6 + (1 : Int32))), M2))
def LK_pourInto_L9_J118 (v0 : Nat) (v1 : Nat) (v4 : Int32) (v5 : Int32) (v6 : Int32) (v8 : Int32) (M : Mem) : Option (((Int32 × Int32 × Int32) ⊕ ((Unit) ⊕ Int32)) × Mem) :=
  LK_pourInto_L9_J119 v0 v1 v4 v5 v6 v8 (0 : Int32) M
def LK_pourInto_L9 (v0 : Nat) (v1 : Nat) (v4 : Int32) (v5 : Int32) (v6 : Int32) (M : Mem) : Option (((Int32 × Int32 × Int32) ⊕ ((Unit) ⊕ Int32)) × Mem) :=
  (if (1000000 : Int32) ≤ v6 then some (.inr (.inl ()), M) else (if v5 ≤ 0 then some (.inr (.inl ()), M) else b2 (LK_fill v0 v4 v5 M) fun x1 M2 => (if (v5 - x1) ≤ 0 then some (.inl (v4, (v5 - x1), (v6 + (1 : Int32))), M2) else (if ¬ (fAtI (v0 + 17) (fAtI (v1 + 3) (fAtI (v0 + 7) v4 M2) M2) M2) = (-1 : Int32) then LK_pourInto_L9_J119 v0 v1 v4 (v5 - x1) v6 (fAtI (v0 + 17) (fAtI (v1 + 3) (fAtI (v0 + 7) v4 M2) M2) M2) (if (LK_isFull v0 (fAtI (v0 + 17) (fAtI (v1 + 3) (fAtI (v0 + 7) v4 M2) M2) M2) M2) = 0 then (0 : Int32) else (if ¬ (fAtI (v1 + 7) (fAtI (v0 + 7) (fAtI (v0 + 17) (fAtI (v1 + 3) (fAtI (v0 + 7) v4 M2) M2) M2) M2) M2) = (fAtI (v1 + 7) (fAtI (v0 + 7) v4 M2) M2) then (0 : Int32) else (1 : Int32))) M2 else some (.inr (.inr (v5 - x1)), M2)))))
def LK_pourInto (o : Nat) (a1 : Nat) (a2 : Int32) (a3 : Int32) (M : Mem) : Option (Int32 × Mem) :=
  b2 (lpM (fun s M9 => LK_pourInto_L9 o a1 s.1 s.2.1 s.2.2 M9) FUEL (a2, a3, (0 : Int32)) M) <| fun e1 M2 => e1.elim (fun e3 => some ((0 : Int32), M2)) (fun r8 => some (r8, M2))
def WD_pourAt_J34 (v0 : Nat) (t0 : Int32) (M : Mem) : Option (Int32 × Mem) :=
  some (t0, (sL M v0 4 ((gL M v0 4) + t0.toInt64)))
def WD_pourAt (o : Nat) (a1 : Int32) (a2 : Int32) (M : Mem) : Option (Int32 × Mem) :=
  (if ¬ (fAtI (o + 36) a1 M) = (-1 : Int32) then b2 (LK_pourInto (o + 19) (o + 1) (fAtI (o + 36) a1 M) a2 M) fun x1 M2 => WD_pourAt_J34 o x1 M2 else WD_pourAt_J34 o a2 M)
def WD_pourAtAll_L4 (v0 : Nat) (v1 : Int32) (v2 : Int32) (v3 : Int32) (M : Mem) : Option (((Int32 × Int32) ⊕ (Int32)) × Mem) :=
  (if (gI M (v0 + 1) 2) ≤ v3 then some (.inr v2, M) else b2 (WD_pourAt v0 v3 v1 M) fun x1 M2 => some (.inl ((v2 + x1), (v3 + (1 : Int32))), M2))
def WD_pourAtAll (o : Nat) (a1 : Int32) (M : Mem) : Option (Int32 × Mem) :=
  b2 (lpM (fun s M9 => WD_pourAtAll_L4 o a1 s.1 s.2 M9) FUEL ((0 : Int32), (0 : Int32)) M) <| fun e1 M2 => some (e1, M2)
def LL_rainToJoin_L13 (v1 : Int32) (v2 : Int32) (M : Mem) : Option (((Int32) ⊕ ((Unit) ⊕ Int32)) × Mem) :=
  (if v1 ≤ (1 : Int32) then some (.inr (.inl ()), M) else (if (40 : Int32) < v2 then some (.inr (.inl ()), M) else b2 (WD_copyFrom 47 1 M) fun x1 M2 => b2 (WD_pourAtAll 47 v2 M2) fun x3 M4 => b1 (LK_total 66 M4) fun x5 => (if v1 ≤ x5 then some (.inl (v2 + (1 : Int32)), M4) else some (.inr (.inr v2), M4))))
def LL_rainToJoin (M : Mem) : Option (Int32 × Mem) :=
  b1 (LK_total 20 M) fun x1 => b2 (lpM (fun s M9 => LL_rainToJoin_L13 x1 s M9) FUEL (1 : Int32) M) <| fun e2 M3 => e2.elim (fun e4 => some ((-1 : Int32), M3)) (fun r8 => some (r8, M3))
def LL_clearText (M : Mem) : Option (Int32 × Mem) :=
  some ((gI M 94 1), (sI M 94 1 (0 : Int32)))
def LT_next (M : Mem) : Int32 :=
  (if (gI M 94 1) ≤ (gI M 94 2) then (-1 : Int32) else (fAtI 95 (gI M 94 2) M))
def LT_fail (a1 : Int32) (M : Mem) : Option (Unit × Mem) :=
  some ((), (sI M 94 3 (if ¬ (gI M 94 3) = (-1 : Int32) then (gI M 94 3) else a1)))
def LT_readSize_J39 (v2 : Int32) (M : Mem) : Option (Int32 × Mem) :=
  b2 (LT_fail (gI M 94 2) M) fun x1 M2 => some (v2, M2)
def LT_readSize (a1 : Int32) (M : Mem) : Option (Int32 × Mem) :=
  (if ¬ (gI M 94 3) = (-1 : Int32) then LT_readSize_J39 ((LT_next M) - (48 : Int32)) M else (if ((LT_next M) - (48 : Int32)) < (1 : Int32) then LT_readSize_J39 ((LT_next M) - (48 : Int32)) M else (if a1 < ((LT_next M) - (48 : Int32)) then LT_readSize_J39 ((LT_next M) - (48 : Int32)) M else some (((LT_next M) - (48 : Int32)), (sI M 94 2 ((gI M 94 2) + (1 : Int32)))))))
def LT_readSign_J29 (M : Mem) : Option (Unit × Mem) :=
  b2 (LT_fail (gI M 94 2) M) fun x1 M2 => some ((), M2)
def LT_readSign (a1 : Int32) (M : Mem) : Option (Unit × Mem) :=
  (if ¬ (gI M 94 3) = (-1 : Int32) then LT_readSign_J29 M else (if ¬ (LT_next M) = a1 then LT_readSign_J29 M else some ((), (sI M 94 2 ((gI M 94 2) + (1 : Int32))))))
def GR_laySides_J115 (t0 : Int32) (t1 : Int32) (t2 : Nat) (M : Mem) : Option (Unit × Mem) :=
  some ((), (fPutI t2 t1 t0 M))
def GR_laySides_J84 (v0 : Nat) (v1 : Int32) (v3 : Int32) (v4 : Int32) (t0 : Int32) (t1 : Int32) (t2 : Nat) (M : Mem) : Option (Unit × Mem) :=
  GR_laySides_J115 (if ((gI (fPutI t2 t1 t0 M) v0 1) - (1 : Int32)) ≤ v1 then (-1 : Int32) else (v3 + (gI (fPutI t2 t1 t0 M) v0 0))) (v4 + (3 : Int32)) (v0 + 3) (fPutI t2 t1 t0 M)
def GR_laySides_J56 (v0 : Nat) (v1 : Int32) (v2 : Int32) (v3 : Int32) (v4 : Int32) (t0 : Int32) (t1 : Int32) (t2 : Nat) (M : Mem) : Option (Unit × Mem) :=
  GR_laySides_J84 v0 v1 v3 v4 (if ((gI (fPutI t2 t1 t0 M) v0 0) - (1 : Int32)) ≤ v2 then (-1 : Int32) else (v3 + (1 : Int32))) (v4 + (2 : Int32)) (v0 + 3) (fPutI t2 t1 t0 M)
def GR_laySides_J34 (v0 : Nat) (v1 : Int32) (v2 : Int32) (v3 : Int32) (v4 : Int32) (t0 : Int32) (t1 : Int32) (t2 : Nat) (M : Mem) : Option (Unit × Mem) :=
  GR_laySides_J56 v0 v1 v2 v3 v4 (if v2 ≤ 0 then (-1 : Int32) else (v3 - (1 : Int32))) (v4 + (1 : Int32)) (v0 + 3) (fPutI t2 t1 t0 M)
def GR_laySides (o : Nat) (a1 : Int32) (a2 : Int32) (M : Mem) : Option (Unit × Mem) :=
  GR_laySides_J34 o a1 a2 (((gI M o 0) * a1) + a2) ((4 : Int32) * (((gI M o 0) * a1) + a2)) (if a1 ≤ 0 then (-1 : Int32) else ((((gI M o 0) * a1) + a2) - (gI M o 0))) ((4 : Int32) * (((gI M o 0) * a1) + a2)) (o + 3) M
def GR_lay_L59 (v0 : Nat) (v3 : Int32) (v4 : Int32) (M : Mem) : Option (((Int32) ⊕ (Unit)) × Mem) :=
  (if (gI M v0 0) ≤ v4 then some (.inr (), M) else b2 (GR_laySides v0 v3 v4 M) fun x1 M2 => some (.inl (v4 + (1 : Int32)), M2))
def GR_lay_L48 (v0 : Nat) (v3 : Int32) (M : Mem) : Option (((Int32) ⊕ (Unit)) × Mem) :=
  (if (gI M v0 1) ≤ v3 then some (.inr (), M) else b2 (lpM (fun s M9 => GR_lay_L59 v0 v3 s M9) FUEL (0 : Int32) M) <| fun e1 M2 => some (.inl (v3 + (1 : Int32)), M2))
def GR_lay (o : Nat) (a1 : Int32) (a2 : Int32) (M : Mem) : Option (Unit × Mem) :=
  b2 (lpM (fun s M9 => GR_lay_L48 o s M9) FUEL (0 : Int32) (fFillI (o + 5) (-1 : Int32) (fFillI (o + 3) (-1 : Int32) (fFillI (o + 1) (0 : Int32) (sL (sI (sI (sI M o 0 a1) o 1 a2) o 2 (a1 * a2)) o 3 (0 : Int64)))))) <| fun e1 M2 => some ((), M2)
def LT_isAtDigit (M : Mem) : Int32 :=
  (if (LT_next M) < (48 : Int32) then (0 : Int32) else (if (57 : Int32) < (LT_next M) then (0 : Int32) else (1 : Int32)))
def LT_readNumber_L19 (v1 : Int32) (v2 : Int32) (M : Mem) : Option (((Int32 × Int32) ⊕ (Int32)) × Mem) :=
  (if (2 : Int32) ≤ v2 then some (.inr v1, M) else (if ¬ (gI M 94 3) = (-1 : Int32) then some (.inr v1, M) else (if (LT_isAtDigit M) = 0 then some (.inr v1, M) else some (.inl (((((10 : Int32) * v1) + (LT_next M)) - (48 : Int32)), (v2 + (1 : Int32))), (sI M 94 2 ((gI M 94 2) + (1 : Int32)))))))
def LT_readNumber_J17 (v1 : Int32) (M : Mem) : Option (Int32 × Mem) :=
  b2 (lpM (fun s M9 => LT_readNumber_L19 s.1 s.2 M9) FUEL (v1, (0 : Int32)) M) <| fun e1 M2 => (if (LT_isAtDigit M2) = 0 then some (e1, M2) else b2 (LT_fail (gI M2 94 2) M2) fun x3 M4 => some (e1, M4))
def LT_readNumber (M : Mem) : Option (Int32 × Mem) :=
  (if ¬ (LT_isAtDigit M) = 0 then LT_readNumber_J17 (0 : Int32) M else b2 (LT_fail (gI M 94 2) M) fun x1 M2 => LT_readNumber_J17 (0 : Int32) M2)
def LT_readHeights_L2_J20 (v1 : Nat) (v2 : Int32) (M : Mem) : Option (((Int32) ⊕ (Unit)) × Mem) :=
  b2 (LT_readNumber M) fun x1 M2 => some (.inl (v2 + (1 : Int32)), (fPutI (v1 + 1) v2 x1 M2))
def LT_readHeights_L2 (v1 : Nat) (v2 : Int32) (M : Mem) : Option (((Int32) ⊕ (Unit)) × Mem) :=
  (if (gI M v1 2) ≤ v2 then some (.inr (), M) else (if v2 ≤ 0 then LT_readHeights_L2_J20 v1 v2 M else b2 (LT_readSign (44 : Int32) M) fun x1 M2 => LT_readHeights_L2_J20 v1 v2 M2))
def LT_readHeights (a1 : Nat) (M : Mem) : Option (Unit × Mem) :=
  b2 (lpM (fun s M9 => LT_readHeights_L2 a1 s M9) FUEL (0 : Int32) M) <| fun e1 M2 => some ((), M2)
def GR_exists (o : Nat) (a1 : Int32) (M : Mem) : Int32 :=
  (if a1 < 0 then (0 : Int32) else (if (gI M o 2) ≤ a1 then (0 : Int32) else (1 : Int32)))
def GR_putDrain (o : Nat) (a1 : Int32) (a2 : Int32) (M : Mem) : Option (Unit × Mem) :=
  some ((), (sL M o 3 (if a2 = 0 then ((gL M o 3) &&& ((LL_bit a1) ^^^ (-1 : Int64))) else ((gL M o 3) ||| (LL_bit a1)))))
def LT_readDrain_J23 (v1 : Nat) (v3 : Int32) (M : Mem) : Option (Unit × Mem) :=
  (if ¬ (gI M 94 3) = (-1 : Int32) then some ((), M) else b2 (GR_putDrain v1 v3 (1 : Int32) M) fun x1 M2 => some ((), M2))
def LT_readDrain (a1 : Nat) (M : Mem) : Option (Unit × Mem) :=
  b2 (LT_readNumber M) fun x1 M2 => (if ¬ (GR_exists a1 x1 M2) = 0 then LT_readDrain_J23 a1 x1 M2 else b2 (LT_fail (gI M 94 2) M2) fun x3 M4 => LT_readDrain_J23 a1 x1 M4)
def GR_sideTo_L22 (v0 : Nat) (v1 : Int32) (v2 : Int32) (v3 : Int32) (M : Mem) : Option (((Int32) ⊕ ((Unit) ⊕ Int32))) :=
  (if (((4 : Int32) * v1) + (4 : Int32)) ≤ v3 then some (.inr (.inl ())) else (if ¬ (fAtI (v0 + 3) v3 M) = v2 then some (.inl (v3 + (1 : Int32))) else some (.inr (.inr v3))))
def GR_sideTo (o : Nat) (a1 : Int32) (a2 : Int32) (M : Mem) : Option Int32 :=
  (if (GR_exists o a1 M) = 0 then some (-1 : Int32) else (if ¬ (GR_exists o a2 M) = 0 then b1 (lpR (fun s => GR_sideTo_L22 o a1 a2 s M) FUEL ((4 : Int32) * a1)) <| fun e1 => e1.elim (fun e2 => some (-1 : Int32)) (fun r8 => some r8) else some (-1 : Int32)))
def GR_putGate (o : Nat) (a1 : Int32) (a2 : Int32) (a3 : Int32) (M : Mem) : Option (Unit × Mem) :=
  b1 (GR_sideTo o a1 a2 M) fun x1 => b1 (GR_sideTo o a2 a1 (fPutI (o + 5) x1 a3 M)) fun x2 => some ((), (fPutI (o + 5) x2 a3 (fPutI (o + 5) x1 a3 M)))
def LT_readGate_J58 (v1 : Nat) (v3 : Int32) (v5 : Int32) (M : Mem) : Option (Unit × Mem) :=
  b2 (LT_readSign (44 : Int32) M) fun x1 M2 => b2 (LT_readNumber M2) fun x3 M4 => (if ¬ (gI M4 94 3) = (-1 : Int32) then some ((), M4) else b2 (GR_putGate v1 v3 v5 x3 M4) fun x5 M6 => some ((), M6))
def LT_readGate_J23 (v1 : Nat) (v3 : Int32) (M : Mem) : Option (Unit × Mem) :=
  b2 (LT_readSign (44 : Int32) M) fun x1 M2 => b2 (LT_readNumber M2) fun x3 M4 => b1 (GR_sideTo v1 v3 x3 M4) fun x5 => (if ¬ x5 = (-1 : Int32) then LT_readGate_J58 v1 v3 x3 M4 else b2 (LT_fail (gI M2 94 2) M4) fun x6 M7 => LT_readGate_J58 v1 v3 x3 M7)
def LT_readGate (a1 : Nat) (M : Mem) : Option (Unit × Mem) :=
  b2 (LT_readNumber M) fun x1 M2 => (if ¬ (GR_exists a1 x1 M2) = 0 then LT_readGate_J23 a1 x1 M2 else b2 (LT_fail (gI M 94 2) M2) fun x3 M4 => LT_readGate_J23 a1 x1 M4)
def LT_readInto_L52_J114 (v1 : Nat) (v4 : Int32) (v5 : Int32) (t0 : Int32) (M : Mem) : Option (((Int32) ⊕ (Unit)) × Mem) :=
  b2 (LT_readSign t0 M) fun x1 M2 => (if v5 = 0 then b2 (LT_readGate v1 M2) fun x3 M4 => some (.inl (v4 + (1 : Int32)), M4) else b2 (LT_readDrain v1 M2) fun x5 M6 => some (.inl (v4 + (1 : Int32)), M6))
def LT_readInto_L52_J99 (v1 : Nat) (v4 : Int32) (t0 : Int32) (M : Mem) : Option (((Int32) ⊕ (Unit)) × Mem) :=
  LT_readInto_L52_J114 v1 v4 t0 (if t0 = 0 then (103 : Int32) else (100 : Int32)) M
def LT_readInto_L52 (v1 : Nat) (v4 : Int32) (M : Mem) : Option (((Int32) ⊕ (Unit)) × Mem) :=
  (if (150 : Int32) ≤ v4 then some (.inr (), M) else (if ¬ (gI M 94 3) = (-1 : Int32) then some (.inr (), M) else (if (gI M 94 1) ≤ (gI M 94 2) then some (.inr (), M) else b2 (LT_readSign (59 : Int32) M) fun x1 M2 => LT_readInto_L52_J99 v1 v4 (if ¬ (LT_next M2) = (100 : Int32) then (0 : Int32) else (1 : Int32)) M2)))
def LT_readInto_J49 (v1 : Nat) (M : Mem) : Option (Int32 × Mem) :=
  b2 (lpM (fun s M9 => LT_readInto_L52 v1 s M9) FUEL (0 : Int32) M) <| fun e1 M2 => some ((gI M2 94 3), M2)
def LT_readInto (a1 : Nat) (M : Mem) : Option (Int32 × Mem) :=
  b2 (LT_readSize (6 : Int32) (sI (sI M 94 2 (0 : Int32)) 94 3 (-1 : Int32))) fun x1 M2 => b2 (LT_readSize (6 : Int32) M2) fun x3 M4 => b2 (LT_readSign (58 : Int32) M4) fun x5 M6 => (if ¬ (gI M6 94 3) = (-1 : Int32) then LT_readInto_J49 a1 M6 else b2 (GR_lay a1 x1 x3 M6) fun x7 M8 => b2 (LT_readHeights a1 M8) fun x9 M10 => LT_readInto_J49 a1 M10)
def LL_save (M : Mem) : Option (Unit × Mem) :=
  b2 (WD_copyFrom (fSavedAt (gI M 0 5)) 1 M) fun x1 M2 => some ((), (sI (sI M2 0 5 (irm ((gI M2 0 5) + (1 : Int32)) (4 : Int32))) 0 4 (JM_min ((gI (sI M2 0 5 (irm ((gI M2 0 5) + (1 : Int32)) (4 : Int32))) 0 4) + (1 : Int32)) (4 : Int32))))
def GR_measure_L2_J70 (v0 : Nat) (v1 : Int32) (t0 : Int32) (t1 : Int32) (t2 : Nat) (M : Mem) : Option (((Int32) ⊕ (Unit)) × Mem) :=
  some (.inl (v1 + (1 : Int32)), (fPutI t2 t1 t0 M))
def GR_measure_L2 (v0 : Nat) (v1 : Int32) (M : Mem) : Option (((Int32) ⊕ (Unit)) × Mem) :=
  (if ((4 : Int32) * (gI M v0 2)) ≤ v1 then some (.inr (), M) else GR_measure_L2_J70 v0 v1 (if ¬ (fAtI (v0 + 3) v1 M) = (-1 : Int32) then (JM_max (JM_max (fAtI (v0 + 1) (v1 / (4 : Int32)) M) (fAtI (v0 + 1) (fAtI (v0 + 3) v1 M) M)) (fAtI (v0 + 5) v1 M)) else (100 : Int32)) v1 (v0 + 7) M)
def GR_measure_L91 (v0 : Nat) (v1 : Int32) (v2 : Int32) (M : Mem) : Option (((Int32) ⊕ (Int32)) × Mem) :=
  (if v2 ≤ 0 then some (.inr v2, M) else (if (fAtI (v0 + 1) (fAtI (v0 + 9) (v2 - (1 : Int32)) M) M) ≤ (fAtI (v0 + 1) v1 M) then some (.inr v2, M) else some (.inl (v2 + (-1 : Int32)), (fPutI (v0 + 9) v2 (fAtI (v0 + 9) (v2 - (1 : Int32)) M) M))))
def GR_measure_L81 (v0 : Nat) (v1 : Int32) (M : Mem) : Option (((Int32) ⊕ (Unit)) × Mem) :=
  (if (gI M v0 2) ≤ v1 then some (.inr (), M) else b2 (lpM (fun s M9 => GR_measure_L91 v0 v1 s M9) FUEL v1 M) <| fun e1 M2 => some (.inl (v1 + (1 : Int32)), (fPutI (v0 + 9) e1 v1 M2)))
def GR_measure (o : Nat) (M : Mem) : Option (Unit × Mem) :=
  b2 (lpM (fun s M9 => GR_measure_L2 o s M9) FUEL (0 : Int32) M) <| fun e1 M2 => b2 (lpM (fun s M9 => GR_measure_L81 o s M9) FUEL (0 : Int32) M2) <| fun e3 M4 => some ((), M4)
def WY_plainAround_L63 (v0 : Nat) (v6 : Int32) (v7 : Int32) (v8 : Int32) (v2 : Int64) (v4 : Int64) (v9 : Int32) (M : Mem) : Option (((Int64 × Int64 × Int32) ⊕ (Int64 × Int64))) :=
  (if (((4 : Int32) * v7) + (4 : Int32)) ≤ v9 then some (.inr (v2, v4)) else some (.inl ((if ¬ (fAtI (v0 + 7) v9 M) = v8 then v2 else (if ¬ (fAtI (v0 + 1) (fAtI (v0 + 3) v9 M) M) = v8 then v2 else (if ¬ (LL_has v2 (fAtI (v0 + 3) v9 M)) = 0 then v2 else (v2 ||| (LL_bit (fAtI (v0 + 3) v9 M)))))), (if ¬ (fAtI (v0 + 7) v9 M) = v8 then v4 else (if ¬ (fAtI (v0 + 1) (fAtI (v0 + 3) v9 M) M) = v8 then v4 else (if ¬ (LL_has v2 (fAtI (v0 + 3) v9 M)) = 0 then v4 else (v4 ||| (LL_bit (fAtI (v0 + 3) v9 M)))))), (v9 + (1 : Int32)))))
def WY_plainAround_L11 (v0 : Nat) (v2 : Int64) (v4 : Int64) (v6 : Int32) (M : Mem) : Option (((Int64 × Int64 × Int32) ⊕ (Int64))) :=
  (if (36 : Int32) ≤ v6 then some (.inr v2) else (if v4 = (0 : Int64) then some (.inr v2) else b1 (lpR (fun s => WY_plainAround_L63 v0 v6 (LL_lowestIn v4) (fAtI (v0 + 1) (LL_lowestIn v4) M) s.1 s.2.1 s.2.2 M) FUEL (v2, (v4 &&& ((LL_bit (LL_lowestIn v4)) ^^^ (-1 : Int64))), ((4 : Int32) * (LL_lowestIn v4)))) <| fun e1 => some (.inl (e1.1, e1.2, (v6 + (1 : Int32))))))
def WY_plainAround (a0 : Nat) (a1 : Int32) (M : Mem) : Option Int64 :=
  b1 (lpR (fun s => WY_plainAround_L11 a0 s.1 s.2.1 s.2.2 M) FUEL ((LL_bit a1), (LL_bit a1), (0 : Int32))) <| fun e1 => some e1
def WY_lowerNeighbor_L19 (v0 : Nat) (v1 : Int32) (v3 : Int32) (v2 : Int32) (v4 : Int32) (v5 : Int32) (M : Mem) : Option (((Int32 × Int32 × Int32) ⊕ (Int32))) :=
  (if (((4 : Int32) * v1) + (4 : Int32)) ≤ v5 then some (.inr v2) else some (.inl ((if ¬ (fAtI (v0 + 7) v5 M) = v3 then v2 else (if v4 ≤ (fAtI (v0 + 1) (fAtI (v0 + 3) v5 M) M) then v2 else (fAtI (v0 + 3) v5 M))), (if ¬ (fAtI (v0 + 7) v5 M) = v3 then v4 else (if v4 ≤ (fAtI (v0 + 1) (fAtI (v0 + 3) v5 M) M) then v4 else (fAtI (v0 + 1) (fAtI (v0 + 3) v5 M) M))), (v5 + (1 : Int32)))))
def WY_lowerNeighbor (a0 : Nat) (a1 : Int32) (M : Mem) : Option Int32 :=
  b1 (lpR (fun s => WY_lowerNeighbor_L19 a0 a1 (fAtI (a0 + 1) a1 M) s.1 s.2.1 s.2.2 M) FUEL ((-1 : Int32), (fAtI (a0 + 1) a1 M), ((4 : Int32) * a1))) <| fun e1 => some e1
def WY_targetOf_L18 (v0 : Nat) (v1 : Int64) (v3 : Int32) (v4 : Int32) (M : Mem) : Option (((Int32 × Int32) ⊕ (Int32))) :=
  (if (gI M v0 2) ≤ v4 then some (.inr v3) else (if ¬ v3 = (-1 : Int32) then some (.inr v3) else (if (LL_has v1 v4) = 0 then some (.inl (v3, (v4 + (1 : Int32)))) else b1 (WY_lowerNeighbor v0 v4 M) fun x1 => some (.inl (x1, (v4 + (1 : Int32)))))))
def WY_targetOf (a0 : Nat) (a1 : Int64) (M : Mem) : Option Int32 :=
  (if (a1 &&& (gL M a0 3)) = (0 : Int64) then b1 (lpR (fun s => WY_targetOf_L18 a0 a1 s.1 s.2 M) FUEL ((-1 : Int32), (0 : Int32))) <| fun e1 => some e1 else some (-1 : Int32))
def WY_markPlain_L3 (v0 : Nat) (v1 : Int64) (v3 : Int32) (v4 : Int32) (M : Mem) : Option (((Int32) ⊕ (Unit)) × Mem) :=
  (if (36 : Int32) ≤ v4 then some (.inr (), M) else (if (LL_has v1 v4) = 0 then some (.inl (v4 + (1 : Int32)), M) else some (.inl (v4 + (1 : Int32)), (fPutI (v0 + 3) v4 v3 (fPutL (v0 + 1) v4 v1 M)))))
def WY_markPlain (o : Nat) (a1 : Int64) (a3 : Int32) (M : Mem) : Option (Unit × Mem) :=
  b2 (lpM (fun s M9 => WY_markPlain_L3 o a1 a3 s M9) FUEL (0 : Int32) M) <| fun e1 M2 => some ((), M2)
def WY_numberPits_L15_J88 (v0 : Nat) (v1 : Nat) (v2 : Int32) (v5 : Int32) (t0 : Int32) (t1 : Int32) (t2 : Nat) (M : Mem) : Option (((Int32) ⊕ (Unit)) × Mem) :=
  some (.inl (v2 + (1 : Int32)), (sI (fPutI t2 t1 t0 M) v0 0 ((gI (fPutI t2 t1 t0 M) v0 0) + (if ¬ v5 = v2 then (0 : Int32) else (1 : Int32)))))
def WY_numberPits_L15 (v0 : Nat) (v1 : Nat) (v2 : Int32) (M : Mem) : Option (((Int32) ⊕ (Unit)) × Mem) :=
  (if (gI M v1 2) ≤ v2 then some (.inr (), M) else (if ¬ (fAtI (v0 + 3) v2 M) = (-1 : Int32) then some (.inl (v2 + (1 : Int32)), M) else (if ¬ ((fAtL (v0 + 1) v2 M) &&& (gL M v1 3)) = (0 : Int64) then some (.inl (v2 + (1 : Int32)), M) else WY_numberPits_L15_J88 v0 v1 v2 (LL_lowestIn (fAtL (v0 + 1) v2 M)) (if ¬ (LL_lowestIn (fAtL (v0 + 1) v2 M)) = v2 then (fAtI (v0 + 5) (LL_lowestIn (fAtL (v0 + 1) v2 M)) M) else (gI M v0 0)) v2 (v0 + 5) M)))
def WY_numberPits (o : Nat) (a1 : Nat) (M : Mem) : Option (Unit × Mem) :=
  b2 (lpM (fun s M9 => WY_numberPits_L15 o a1 s M9) FUEL (0 : Int32) (fFillI (o + 5) (-1 : Int32) (sI M o 0 (0 : Int32)))) <| fun e1 M2 => some ((), M2)
def WY_endOf_L4 (v0 : Nat) (v2 : Int32) (v3 : Int32) (M : Mem) : Option (((Int32 × Int32) ⊕ (Int32))) :=
  (if (36 : Int32) ≤ v3 then some (.inr v2) else (if (fAtI (v0 + 3) v2 M) = (-1 : Int32) then some (.inr v2) else some (.inl ((fAtI (v0 + 3) v2 M), (v3 + (1 : Int32))))))
def WY_endOf (o : Nat) (a1 : Int32) (M : Mem) : Option Int32 :=
  b1 (lpR (fun s => WY_endOf_L4 o s.1 s.2 M) FUEL (a1, (0 : Int32))) <| fun e1 => some e1
def WY_find_L10 (v0 : Nat) (v1 : Nat) (v2 : Int32) (M : Mem) : Option (((Int32) ⊕ (Unit)) × Mem) :=
  (if (gI M v1 2) ≤ v2 then some (.inr (), M) else (if ¬ (fAtL (v0 + 1) v2 M) = (0 : Int64) then some (.inl (v2 + (1 : Int32)), M) else b1 (WY_plainAround v1 v2 M) fun x1 => b1 (WY_targetOf v1 x1 M) fun x2 => b2 (WY_markPlain v0 x1 x2 M) fun x3 M4 => some (.inl (v2 + (1 : Int32)), M4)))
def WY_find_L60 (v0 : Nat) (v1 : Nat) (v2 : Int32) (M : Mem) : Option (((Int32) ⊕ (Unit)) × Mem) :=
  (if (gI M v1 2) ≤ v2 then some (.inr (), M) else b1 (WY_endOf v0 v2 M) fun x1 => some (.inl (v2 + (1 : Int32)), (fPutI (v0 + 5) v2 (fAtI (v0 + 5) x1 M) M)))
def WY_find (o : Nat) (a1 : Nat) (M : Mem) : Option (Unit × Mem) :=
  b2 (lpM (fun s M9 => WY_find_L10 o a1 s M9) FUEL (0 : Int32) (fFillL (o + 1) (0 : Int64) M)) <| fun e1 M2 => b2 (WY_numberPits o a1 M2) fun x3 M4 => b2 (lpM (fun s M9 => WY_find_L60 o a1 s M9) FUEL (0 : Int32) M4) <| fun e5 M6 => some ((), M6)
def LK_restart_L21 (v0 : Nat) (v1 : Nat) (v2 : Nat) (v3 : Int32) (M : Mem) : Option (((Int32) ⊕ (Unit)) × Mem) :=
  (if (gI M v1 2) ≤ v3 then some (.inr (), M) else some (.inl (v3 + (1 : Int32)), (fPutL (v0 + 1) (fAtI (v0 + 17) v3 M) ((fAtL (v0 + 1) (fAtI (v0 + 17) v3 M) M) ||| (LL_bit v3)) M)))
def LK_restart_L70 (v0 : Nat) (v1 : Nat) (v2 : Nat) (v3 : Int32) (M : Mem) : Option (((Int32) ⊕ (Unit)) × Mem) :=
  (if (gI M v2 0) ≤ v3 then some (.inr (), M) else b2 (LK_findPass v0 v1 v3 (fPutI (v0 + 15) v3 (-1 : Int32) (fPutI (v0 + 13) v3 (-1 : Int32) (fPutI (v0 + 11) v3 (1 : Int32) (fPutI (v0 + 9) v3 (0 : Int32) (fPutI (v0 + 3) v3 (0 : Int32) M)))))) fun x1 M2 => b2 (LK_findCapacity v0 v1 v3 M2) fun x3 M4 => some (.inl (v3 + (1 : Int32)), M4))
def LK_restart (o : Nat) (a1 : Nat) (a2 : Nat) (M : Mem) : Option (Unit × Mem) :=
  b2 (lpM (fun s M9 => LK_restart_L21 o a1 a2 s M9) FUEL (0 : Int32) (fCpyI (o + 17) (a2 + 5) (fFillL (o + 1) (0 : Int64) M))) <| fun e1 M2 => b2 (lpM (fun s M9 => LK_restart_L70 o a1 a2 s M9) FUEL (0 : Int32) M2) <| fun e3 M4 => some ((), M4)
def WD_findAnew (o : Nat) (M : Mem) : Option (Unit × Mem) :=
  b2 (GR_measure (o + 1) M) fun x1 M2 => b2 (WY_find (o + 12) (o + 1) M2) fun x3 M4 => b2 (LK_restart (o + 19) (o + 1) (o + 12) M4) fun x5 M6 => some ((), M6)
def WD_restart (o : Nat) (M : Mem) : Option (Unit × Mem) :=
  b2 (WD_findAnew o (sL (sL (sL M o 3 (0 : Int64)) o 4 (0 : Int64)) o 5 (0 : Int64))) fun x1 M2 => some ((), M2)
def LL_parse (M : Mem) : Option (Int32 × Mem) :=
  b2 (LT_readInto 48 M) fun x1 M2 => (if x1 = (-1 : Int32) then b2 (LL_save M2) fun x3 M4 => b2 (GR_copyFrom 2 48 M4) fun x5 M6 => b2 (WD_restart 1 M6) fun x7 M8 => some ((gI M8 13 0), M8) else some (((-10 : Int32) - x1), M2))
def LL_mix (a0 : Int64) (a2 : Int64) : Int64 :=
  (((31 : Int64) * a0) + a2)
def WD_isWet (o : Nat) (a1 : Int32) (M : Mem) : Option Int32 :=
  b1 (LK_wetCells (o + 19) (o + 1) (fAtI (o + 36) a1 M) M) fun x1 => some ((LL_has x1 a1) &&& 1)
def WD_wetTotal_L4 (v0 : Nat) (v1 : Int32) (v2 : Int32) (M : Mem) : Option (((Int32 × Int32) ⊕ (Int32))) :=
  (if (gI M (v0 + 1) 2) ≤ v2 then some (.inr v1) else b1 (WD_isWet v0 v2 M) fun x1 => some (.inl ((v1 + (if x1 = 0 then (0 : Int32) else (1 : Int32))), (v2 + (1 : Int32)))))
def WD_wetTotal (o : Nat) (M : Mem) : Option Int32 :=
  b1 (lpR (fun s => WD_wetTotal_L4 o s.1 s.2 M) FUEL ((0 : Int32), (0 : Int32))) <| fun e1 => some e1
def WD_seaTotal_L4 (v0 : Nat) (v1 : Int32) (v2 : Int32) (M : Mem) : Option (((Int32 × Int32) ⊕ (Int32))) :=
  (if (gI M (v0 + 1) 2) ≤ v2 then some (.inr v1) else some (.inl ((v1 + (if ¬ (fAtI (v0 + 17) v2 M) = (-1 : Int32) then (0 : Int32) else (1 : Int32))), (v2 + (1 : Int32)))))
def WD_seaTotal (o : Nat) (M : Mem) : Option Int32 :=
  b1 (lpR (fun s => WD_seaTotal_L4 o s.1 s.2 M) FUEL ((0 : Int32), (0 : Int32))) <| fun e1 => some e1
def LK_fullTotal_L4 (v0 : Nat) (v1 : Int32) (v2 : Int32) (M : Mem) : Option (((Int32 × Int32) ⊕ (Int32))) :=
  (if (36 : Int32) ≤ v2 then some (.inr v1) else some (.inl ((v1 + (if (LK_isLowestOfLake v0 v2 M) = 0 then (0 : Int32) else (if (LK_isFull v0 (fAtI (v0 + 17) v2 M) M) = 0 then (0 : Int32) else (1 : Int32)))), (v2 + (1 : Int32)))))
def LK_fullTotal (o : Nat) (M : Mem) : Option Int32 :=
  b1 (lpR (fun s => LK_fullTotal_L4 o s.1 s.2 M) FUEL ((0 : Int32), (0 : Int32))) <| fun e1 => some e1
def LL_countValue (a1 : Int32) (M : Mem) : Option Int32 :=
  (if a1 = (0 : Int32) then some (gI M 2 0) else (if a1 = (1 : Int32) then some (gI M 2 1) else (if a1 = (2 : Int32) then some (gI M 13 0) else (if a1 = (3 : Int32) then b1 (LK_total 20 M) fun x1 => some x1 else (if a1 = (4 : Int32) then b1 (WD_wetTotal 1 M) fun x2 => some x2 else (if a1 = (5 : Int32) then b1 (WD_seaTotal 1 M) fun x3 => some x3 else b1 (LK_fullTotal 20 M) fun x4 => some x4))))))
def LK_numberAt_L34 (v0 : Nat) (v3 : Int32) (v4 : Int32) (v5 : Int32) (M : Mem) : Option (((Int32 × Int32) ⊕ (Int32))) :=
  (if v3 ≤ v5 then some (.inr v4) else some (.inl ((v4 + (if (LK_isLowestOfLake v0 v5 M) = 0 then (0 : Int32) else (1 : Int32))), (v5 + (1 : Int32)))))
def LK_numberAt (o : Nat) (a1 : Int32) (M : Mem) : Option Int32 :=
  (if ¬ (fAtI (o + 17) a1 M) = (-1 : Int32) then b1 (lpR (fun s => LK_numberAt_L34 o (LL_lowestIn (fAtL (o + 1) (fAtI (o + 17) a1 M) M)) s.1 s.2 M) FUEL ((0 : Int32), (0 : Int32))) <| fun e1 => some e1 else some (-1 : Int32))
def WY_isInPit (o : Nat) (a1 : Int32) (M : Mem) : Int32 :=
  (if ¬ (fAtI (o + 3) a1 M) = (-1 : Int32) then (0 : Int32) else (if (fAtI (o + 5) a1 M) = (-1 : Int32) then (0 : Int32) else (1 : Int32)))
def LL_cellValue (a1 : Int32) (a2 : Int32) (M : Mem) : Option Int32 :=
  (if a2 = (0 : Int32) then some (fAtI 3 a1 M) else (if a2 = (1 : Int32) then some (if (LL_has (gL M 2 3) a1) = 0 then (0 : Int32) else (1 : Int32)) else (if a2 = (2 : Int32) then some (fAtI 18 a1 M) else (if a2 = (3 : Int32) then b1 (LK_numberAt 20 a1 M) fun x1 => some x1 else (if a2 = (4 : Int32) then b1 (WD_isWet 1 a1 M) fun x2 => some (if x2 = 0 then (0 : Int32) else (1 : Int32)) else some (if (WY_isInPit 13 a1 M) = 0 then (0 : Int32) else (1 : Int32)))))))
def LK_placeOf_L4 (v0 : Nat) (v2 : Int32) (v3 : Int32) (M : Mem) : Option (((Int32 × Int32) ⊕ ((Unit) ⊕ Int32))) :=
  (if (36 : Int32) ≤ v3 then some (.inr (.inl ())) else (if (LK_isLowestOfLake v0 v3 M) = 0 then some (.inl (v2, (v3 + (1 : Int32)))) else (if ¬ v2 = 0 then some (.inl ((v2 + (-1 : Int32)), (v3 + (1 : Int32)))) else some (.inr (.inr (fAtI (v0 + 17) v3 M))))))
def LK_placeOf (o : Nat) (a1 : Int32) (M : Mem) : Option Int32 :=
  b1 (lpR (fun s => LK_placeOf_L4 o s.1 s.2 M) FUEL (a1, (0 : Int32))) <| fun e1 => e1.elim (fun e2 => some (-1 : Int32)) (fun r8 => some r8)
def LL_lakeValue (a1 : Int32) (a2 : Int32) (M : Mem) : Option Int32 :=
  (if a2 = (0 : Int32) then some (fAtI 23 a1 M) else (if a2 = (1 : Int32) then some (fAtI 25 a1 M) else (if a2 = (2 : Int32) then some (LL_lowestIn (fAtL 21 a1 M)) else (if a2 = (3 : Int32) then some (JL_bitCount (fAtL 21 a1 M)) else (if a2 = (4 : Int32) then b1 (LK_wetCells 20 2 a1 M) fun x1 => some (JL_bitCount x1) else (if a2 = (5 : Int32) then some (fAtI 31 a1 M) else (if a2 = (6 : Int32) then some (fAtI 9 (fAtI 27 a1 M) M) else (if a2 = (7 : Int32) then some (if ¬ (fAtI 27 a1 M) = (-1 : Int32) then ((fAtI 27 a1 M) / (4 : Int32)) else (-1 : Int32)) else (if a2 = (8 : Int32) then some (fAtI 5 (fAtI 27 a1 M) M) else some (fAtI 29 a1 M))))))))))
def LK_lowestPlace_L2 (v0 : Nat) (v1 : Nat) (v2 : Int32) (v3 : Int32) (M : Mem) : Option (((Int32) ⊕ ((Unit) ⊕ Int32))) :=
  (if (gI M v1 2) ≤ v3 then some (.inr (.inl ())) else (if (LL_has (fAtL (v0 + 1) v2 M) (fAtI (v1 + 9) v3 M)) = 0 then some (.inl (v3 + (1 : Int32))) else some (.inr (.inr (fAtI (v1 + 9) v3 M)))))
def LK_lowestPlace (o : Nat) (a1 : Nat) (a2 : Int32) (M : Mem) : Option Int32 :=
  b1 (lpR (fun s => LK_lowestPlace_L2 o a1 a2 s M) FUEL (0 : Int32)) <| fun e1 => e1.elim (fun e2 => some (-1 : Int32)) (fun r8 => some r8)
def LL_levelPart_J104 (v6 : Int32) (v7 : Int32) (t0 : Int32) (M : Mem) : Option Int32 :=
  b1 (LL_commonDivisor v6 v7) fun x1 => b1 (LL_reduced t0 x1) fun x2 => some x2
def LL_levelPart (a1 : Int32) (a2 : Int32) (M : Mem) : Option Int32 :=
  b1 (LK_wetCells 20 2 a1 M) fun x1 => (if ¬ x1 = (0 : Int64) then b1 (GR_heightSum 2 x1 M) fun x2 => LL_levelPart_J104 ((fAtI 23 a1 M) + x2) (JL_bitCount x1) (if ¬ a2 = 0 then (JL_bitCount x1) else ((fAtI 23 a1 M) + x2)) M else (if ¬ a2 = 0 then some (1 : Int32) else b1 (LK_lowestPlace 20 2 a1 M) fun x3 => some (fAtI 3 x3 M)))
def LL_mixLake_L6 (v3 : Int32) (v4 : Int64) (v6 : Int32) (M : Mem) : Option (((Int64 × Int32) ⊕ (Int64))) :=
  (if (9 : Int32) < v6 then some (.inr v4) else b1 (LL_lakeValue v3 v6 M) fun x1 => some (.inl ((LL_mix v4 x1.toInt64), (v6 + (1 : Int32)))))
def LL_mixLake (a1 : Int64) (a3 : Int32) (M : Mem) : Option Int64 :=
  b1 (lpR (fun s => LL_mixLake_L6 a3 s.1 s.2 M) FUEL (a1, (0 : Int32))) <| fun e1 => b1 (LL_levelPart a3 (0 : Int32) M) fun x2 => b1 (LL_levelPart a3 (1 : Int32) M) fun x3 => some (LL_mix (LL_mix (LL_mix e1 (fAtL 21 a3 M)) x2.toInt64) x3.toInt64)
def LK_water_L4 (v0 : Nat) (v1 : Int32) (v2 : Int32) (M : Mem) : Option (((Int32 × Int32) ⊕ (Int32))) :=
  (if (36 : Int32) ≤ v2 then some (.inr v1) else some (.inl ((v1 + (if (LK_isLowestOfLake v0 v2 M) = 0 then (0 : Int32) else (fAtI (v0 + 3) (fAtI (v0 + 17) v2 M) M))), (v2 + (1 : Int32)))))
def LK_water (o : Nat) (M : Mem) : Option Int32 :=
  b1 (lpR (fun s => LK_water_L4 o s.1 s.2 M) FUEL ((0 : Int32), (0 : Int32))) <| fun e1 => some e1
def LL_balanceValue (a1 : Int32) (M : Mem) : Option Int64 :=
  (if a1 = (0 : Int32) then some (gL M 1 3) else (if a1 = (1 : Int32) then b1 (LK_water 20 M) fun x1 => some x1.toInt64 else (if a1 = (2 : Int32) then some (gL M 1 4) else some (gL M 1 5))))
def LL_digest_L17 (v1 : Int64) (v3 : Int32) (M : Mem) : Option (((Int64 × Int32) ⊕ (Int64))) :=
  (if (6 : Int32) < v3 then some (.inr v1) else b1 (LL_countValue v3 M) fun x1 => some (.inl ((LL_mix v1 x1.toInt64), (v3 + (1 : Int32)))))
def LL_digest_L59 (v3 : Int32) (v1 : Int64) (v4 : Int32) (M : Mem) : Option (((Int64 × Int32) ⊕ (Int64))) :=
  (if (5 : Int32) < v4 then some (.inr v1) else b1 (LL_cellValue v3 v4 M) fun x1 => some (.inl ((LL_mix v1 x1.toInt64), (v4 + (1 : Int32)))))
def LL_digest_L42 (v1 : Int64) (v3 : Int32) (M : Mem) : Option (((Int64 × Int32) ⊕ (Int64))) :=
  (if (gI M 2 2) ≤ v3 then some (.inr v1) else b1 (lpR (fun s => LL_digest_L59 v3 s.1 s.2 M) FUEL (v1, (0 : Int32))) <| fun e1 => some (.inl (e1, (v3 + (1 : Int32)))))
def LL_digest_L104 (v3 : Int32) (v1 : Int64) (v4 : Int32) (M : Mem) : Option (((Int64 × Int32) ⊕ (Int64))) :=
  (if v3 ≤ v4 then some (.inr v1) else b1 (LK_placeOf 20 v4 M) fun x1 => b1 (LL_mixLake v1 x1 M) fun x2 => some (.inl (x2, (v4 + (1 : Int32)))))
def LL_digest_L137 (v1 : Int64) (v4 : Int32) (M : Mem) : Option (((Int64 × Int32) ⊕ (Int64))) :=
  (if (3 : Int32) < v4 then some (.inr v1) else b1 (LL_balanceValue v4 M) fun x1 => some (.inl ((LL_mix v1 x1), (v4 + (1 : Int32)))))
def LL_digest (M : Mem) : Option Int64 :=
  b1 (lpR (fun s => LL_digest_L17 s.1 s.2 M) FUEL ((LL_mix (3049 : Int64) ((gI M 94 1).toInt64)), (0 : Int32))) <| fun e1 => b1 (lpR (fun s => LL_digest_L42 s.1 s.2 M) FUEL (e1, (0 : Int32))) <| fun e2 => b1 (LK_total 20 M) fun x3 => b1 (lpR (fun s => LL_digest_L104 x3 s.1 s.2 M) FUEL (e2, (0 : Int32))) <| fun e4 => b1 (lpR (fun s => LL_digest_L137 s.1 s.2 M) FUEL (e4, (0 : Int32))) <| fun e5 => some (LL_mix e5 ((gI M 0 4).toInt64))
def LL_wouldBeWet (a1 : Int32) (a2 : Int32) (a3 : Int32) (M : Mem) : Option (Int32 × Mem) :=
  b2 (WD_copyFrom 47 1 M) fun x1 M2 => b2 (WD_pourAt 47 a1 a2 M2) fun x3 M4 => b1 (WD_isWet 47 a3 M4) fun x5 => some ((x5 &&& 1), M4)
def GR_scatter_L11 (v0 : Nat) (v5 : Int32) (v3 : Int64) (v6 : Int32) (M : Mem) : Option (((Int64 × Int32) ⊕ (Unit)) × Mem) :=
  (if (gI M v0 2) ≤ v6 then some (.inr (), M) else (if v5 ≤ 0 then some (.inr (), M) else ck (decide (¬ v5.toInt64 = 0)) <| some (.inl ((lrm (((1103515245 : Int64) * v3) + (12345 : Int64)) (2147483648 : Int64)), (v6 + (1 : Int32))), (fPutI (v0 + 1) v6 ((lrm ((lrm (((1103515245 : Int64) * v3) + (12345 : Int64)) (2147483648 : Int64)) / (65536 : Int64)) v5.toInt64).toInt32) M))))
def GR_scatter (o : Nat) (a1 : Int32) (a2 : Int32) (M : Mem) : Option (Unit × Mem) :=
  b2 (lpM (fun s M9 => GR_scatter_L11 o (a2 + (1 : Int32)) s.1 s.2 M9) FUEL (a1.toInt64, (0 : Int32)) M) <| fun e1 M2 => some ((), M2)
def LK_partLake (o : Nat) (a1 : Int32) (M : Mem) : Option (Unit × Mem) :=
  b2 (LK_claimCells o (fAtI (o + 13) a1 M) (fPutI (o + 3) (fAtI (o + 15) a1 M) (fAtI (o + 5) (fAtI (o + 15) a1 M) (fPutI (o + 3) (fAtI (o + 13) a1 M) (fAtI (o + 5) (fAtI (o + 13) a1 M) M) M)) (fPutI (o + 3) (fAtI (o + 13) a1 M) (fAtI (o + 5) (fAtI (o + 13) a1 M) M) M))) fun x1 M2 => b2 (LK_claimCells o (fAtI (o + 15) a1 M) M2) fun x3 M4 => some ((), (fPutL (o + 1) a1 (0 : Int64) M4))
def LK_draw_L23 (v0 : Nat) (v3 : Int32) (v4 : Int32) (M : Mem) : Option (((Int32 × Int32) ⊕ (Unit)) × Mem) :=
  (if (71 : Int32) ≤ v4 then some (.inr (), M) else (if v3 ≤ 0 then some (.inr (), M) else (if ((fAtI (v0 + 9) (fAtI (v0 + 19) (v3 + (-1 : Int32)) M) M) - ((fAtI (v0 + 3) (fAtI (v0 + 19) (v3 + (-1 : Int32)) M) M) - (fAtI (v0 + 21) (v3 + (-1 : Int32)) M))) ≤ 0 then some (.inl ((v3 + (-1 : Int32)), (v4 + (1 : Int32))), (fPutI (v0 + 3) (fAtI (v0 + 19) (v3 + (-1 : Int32)) M) ((fAtI (v0 + 3) (fAtI (v0 + 19) (v3 + (-1 : Int32)) M) M) - (fAtI (v0 + 21) (v3 + (-1 : Int32)) M)) M)) else b2 (LK_partLake v0 (fAtI (v0 + 19) (v3 + (-1 : Int32)) M) M) fun x1 M2 => some (.inl (((v3 + (-1 : Int32)) + (2 : Int32)), (v4 + (1 : Int32))), (fPutI (v0 + 21) ((v3 + (-1 : Int32)) + (1 : Int32)) (((fAtI (v0 + 9) (fAtI (v0 + 19) (v3 + (-1 : Int32)) M) M) - ((fAtI (v0 + 3) (fAtI (v0 + 19) (v3 + (-1 : Int32)) M) M) - (fAtI (v0 + 21) (v3 + (-1 : Int32)) M))) - (JM_min ((fAtI (v0 + 9) (fAtI (v0 + 19) (v3 + (-1 : Int32)) M) M) - ((fAtI (v0 + 3) (fAtI (v0 + 19) (v3 + (-1 : Int32)) M) M) - (fAtI (v0 + 21) (v3 + (-1 : Int32)) M))) (fAtI (v0 + 3) (fAtI (v0 + 13) (fAtI (v0 + 19) (v3 + (-1 : Int32)) M) M2) M2))) (fPutI (v0 + 19) ((v3 + (-1 : Int32)) + (1 : Int32)) (fAtI (v0 + 15) (fAtI (v0 + 19) (v3 + (-1 : Int32)) M) (fPutI (v0 + 21) (v3 + (-1 : Int32)) (JM_min ((fAtI (v0 + 9) (fAtI (v0 + 19) (v3 + (-1 : Int32)) M) M) - ((fAtI (v0 + 3) (fAtI (v0 + 19) (v3 + (-1 : Int32)) M) M) - (fAtI (v0 + 21) (v3 + (-1 : Int32)) M))) (fAtI (v0 + 3) (fAtI (v0 + 13) (fAtI (v0 + 19) (v3 + (-1 : Int32)) M) M2) M2)) (fPutI (v0 + 19) (v3 + (-1 : Int32)) (fAtI (v0 + 13) (fAtI (v0 + 19) (v3 + (-1 : Int32)) M) M2) M2))) (fPutI (v0 + 21) (v3 + (-1 : Int32)) (JM_min ((fAtI (v0 + 9) (fAtI (v0 + 19) (v3 + (-1 : Int32)) M) M) - ((fAtI (v0 + 3) (fAtI (v0 + 19) (v3 + (-1 : Int32)) M) M) - (fAtI (v0 + 21) (v3 + (-1 : Int32)) M))) (fAtI (v0 + 3) (fAtI (v0 + 13) (fAtI (v0 + 19) (v3 + (-1 : Int32)) M) M2) M2)) (fPutI (v0 + 19) (v3 + (-1 : Int32)) (fAtI (v0 + 13) (fAtI (v0 + 19) (v3 + (-1 : Int32)) M) M2) M2))))))))
def LK_draw (o : Nat) (a1 : Int32) (a2 : Int32) (M : Mem) : Option (Unit × Mem) :=
  b2 (lpM (fun s M9 => LK_draw_L23 o s.1 s.2 M9) FUEL ((1 : Int32), (0 : Int32)) (fPutI (o + 21) (0 : Int32) a2 (fPutI (o + 19) (0 : Int32) a1 M))) <| fun e1 M2 => some ((), M2)
def LT_add (a1 : Int32) (M : Mem) : Option (Unit × Mem) :=
  some ((), (sI (fPutI 95 (gI M 94 1) a1 M) 94 1 ((gI (fPutI 95 (gI M 94 1) a1 M) 94 1) + (1 : Int32))))
def WY_courseFrom_L8 (v0 : Nat) (v2 : Int64) (v4 : Int32) (v5 : Int32) (M : Mem) : Option (((Int64 × Int32 × Int32) ⊕ (Int64))) :=
  (if (36 : Int32) ≤ v5 then some (.inr v2) else (if v4 = (-1 : Int32) then some (.inr v2) else some (.inl ((v2 ||| (fAtL (v0 + 1) v4 M)), (fAtI (v0 + 3) v4 M), (v5 + (1 : Int32))))))
def WY_courseFrom (o : Nat) (a1 : Int32) (M : Mem) : Option Int64 :=
  b1 (lpR (fun s => WY_courseFrom_L8 o s.1 s.2.1 s.2.2 M) FUEL ((0 : Int64), a1, (0 : Int32))) <| fun e1 => some e1
def WD_noteLakes_L13 (v0 : Nat) (v1 : Int32) (M : Mem) : Option (((Int32) ⊕ (Unit)) × Mem) :=
  (if (gI M v0 8) ≤ v1 then some (.inr (), M) else b1 (LK_placeOf (v0 + 19) v1 M) fun x1 => b1 (LK_lowestPlace (v0 + 19) (v0 + 1) x1 M) fun x2 => some (.inl (v1 + (1 : Int32)), (fPutI (v0 + 44) v1 (fAtI (v0 + 22) x1 (fPutI (v0 + 42) v1 x2 M)) (fPutI (v0 + 42) v1 x2 M))))
def WD_noteLakes (o : Nat) (M : Mem) : Option (Unit × Mem) :=
  b1 (LK_total (o + 19) M) fun x1 => b2 (lpM (fun s M9 => WD_noteLakes_L13 o s M9) FUEL (0 : Int32) (sI M o 8 x1)) <| fun e2 M3 => some ((), M3)
def WD_renew_L6 (v0 : Nat) (v1 : Int32) (M : Mem) : Option (((Int32) ⊕ (Unit)) × Mem) :=
  (if (gI M v0 8) ≤ v1 then some (.inr (), M) else b2 (WD_pourAt v0 (fAtI (v0 + 42) v1 M) (fAtI (v0 + 44) v1 M) M) fun x1 M2 => some (.inl (v1 + (1 : Int32)), M2))
def WD_renew (o : Nat) (M : Mem) : Option (Unit × Mem) :=
  b2 (WD_findAnew o M) fun x1 M2 => b2 (lpM (fun s M9 => WD_renew_L6 o s M9) FUEL (0 : Int32) M2) <| fun e3 M4 => some ((), M4)
def WD_dryOnce_L15 (v0 : Nat) (v1 : Int32) (v2 : Int32) (M : Mem) : Option (((Int32) ⊕ (Unit)) × Mem) :=
  (if (gI M v0 8) ≤ v2 then some (.inr (), M) else b1 (LK_placeOf (v0 + 19) v2 M) fun x1 => b1 (LK_wetCells (v0 + 19) (v0 + 1) x1 M) fun x2 => some (.inl (v2 + (1 : Int32)), (fPutI (v0 + 44) v2 (JM_min (JL_bitCount x2) (fAtI (v0 + 22) x1 (fPutI (v0 + 42) v2 x1 M))) (fPutI (v0 + 42) v2 x1 M))))
def WD_dryOnce_L90 (v0 : Nat) (v1 : Int32) (v2 : Int32) (M : Mem) : Option (((Int32 × Int32) ⊕ (Int32)) × Mem) :=
  (if (gI M v0 8) ≤ v2 then some (.inr v1, M) else b2 (LK_draw (v0 + 19) (fAtI (v0 + 42) v2 M) (fAtI (v0 + 44) v2 M) M) fun x1 M2 => some (.inl ((v1 + (fAtI (v0 + 44) v2 M2)), (v2 + (1 : Int32))), M2))
def WD_dryOnce (o : Nat) (M : Mem) : Option (Int32 × Mem) :=
  b1 (LK_total (o + 19) M) fun x1 => b2 (lpM (fun s M9 => WD_dryOnce_L15 o (0 : Int32) s M9) FUEL (0 : Int32) (sI M o 8 x1)) <| fun e2 M3 => b2 (lpM (fun s M9 => WD_dryOnce_L90 o s.1 s.2 M9) FUEL ((0 : Int32), (0 : Int32)) M3) <| fun e4 M5 => some (e4, M5)
def WD_dry_L4 (v0 : Nat) (v1 : Int32) (v2 : Int32) (v3 : Int32) (M : Mem) : Option (((Int32 × Int32) ⊕ (Int32)) × Mem) :=
  (if v1 ≤ v3 then some (.inr v2, M) else b2 (WD_dryOnce v0 M) fun x1 M2 => some (.inl ((v2 + x1), (v3 + (1 : Int32))), M2))
def WD_dry (o : Nat) (a1 : Int32) (M : Mem) : Option (Int32 × Mem) :=
  b2 (lpM (fun s M9 => WD_dry_L4 o a1 s.1 s.2 M9) FUEL ((0 : Int32), (0 : Int32)) M) <| fun e1 M2 => some (e1, (sL M2 o 5 ((gL M2 o 5) + e1.toInt64)))
