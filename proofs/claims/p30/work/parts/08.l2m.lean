def MD_thrown (M : Mem) : Int32 :=
  (gI M 0 4)
def MD_in (a0 : Int64) (a2 : Int64) (a4 : Int64) : Int32 :=
  (if a0 < a2 then (0 : Int32) else (if a4 < a0 then (0 : Int32) else (1 : Int32)))
def MD_goes_J26 (t0 : Int32) (M : Mem) : Option (Int32 × Mem) :=
  some (((if ¬ (gI (sI M 0 4 t0) 0 4) = 0 then (0 : Int32) else (1 : Int32)) &&& 1), (sI M 0 4 t0))
def MD_goes (a1 : Int32) (a2 : Int32) (a3 : Int32) (M : Mem) : Option (Int32 × Mem) :=
  MD_goes_J26 (if ¬ a1 = 0 then (if ¬ a2 = 0 then (if ¬ a3 = 0 then (0 : Int32) else (3 : Int32)) else (2 : Int32)) else (1 : Int32)) M
def MD_save_L51 (v1 : Int32) (M : Mem) : Option (((Int32) ⊕ (Unit)) × Mem) :=
  (if (513 : Int32) ≤ v1 then some (.inr (), M) else ck (inb v1 513) <| ck (inb (((513 : Int32) * (gI M 0 3)) + v1) 2052) <| some (.inl (v1 + (1 : Int32)), (sL M 2 (((513 : Int32) * (gI M 0 3)) + v1).toNatClampNeg (gL M 1 v1.toNatClampNeg))))
def MD_save_J49 (M : Mem) : Option (Unit × Mem) :=
  b2 (lpM (fun s M9 => MD_save_L51 s M9) FUEL (0 : Int32) M) <| fun e1 M2 => some ((), (sI M2 0 3 ((gI M2 0 3) + (1 : Int32))))
def MD_save_L10 (v1 : Int32) (M : Mem) : Option (((Int32) ⊕ (Unit)) × Mem) :=
  (if (1539 : Int32) ≤ v1 then some (.inr (), M) else ck (inb (v1 + (513 : Int32)) 2052) <| ck (inb v1 2052) <| some (.inl (v1 + (1 : Int32)), (sL M 2 v1.toNatClampNeg (gL M 2 (v1 + (513 : Int32)).toNatClampNeg))))
def MD_save (M : Mem) : Option (Unit × Mem) :=
  (if ¬ (gI M 0 3) = (4 : Int32) then MD_save_J49 M else b2 (lpM (fun s M9 => MD_save_L10 s M9) FUEL (0 : Int32) M) <| fun e1 M2 => MD_save_J49 (sI M2 0 3 ((gI M2 0 3) - (1 : Int32))))
def MD_lays_L2 (v1 : Int32) (M : Mem) : Option (((Int32) ⊕ (Unit)) × Mem) :=
  (if (513 : Int32) ≤ v1 then some (.inr (), M) else ck (inb v1 513) <| ck (inb v1 513) <| some (.inl (v1 + (1 : Int32)), (sL M 3 v1.toNatClampNeg (gL M 1 v1.toNatClampNeg))))
def MD_lays (M : Mem) : Option (Unit × Mem) :=
  b2 (lpM (fun s M9 => MD_lays_L2 s M9) FUEL (0 : Int32) M) <| fun e1 M2 => some ((), M2)
def MD_takesBack_L2 (v1 : Int32) (M : Mem) : Option (((Int32) ⊕ (Unit)) × Mem) :=
  (if (513 : Int32) ≤ v1 then some (.inr (), M) else ck (inb v1 513) <| ck (inb v1 513) <| some (.inl (v1 + (1 : Int32)), (sL M 1 v1.toNatClampNeg (gL M 3 v1.toNatClampNeg))))
def MD_takesBack (M : Mem) : Option (Unit × Mem) :=
  b2 (lpM (fun s M9 => MD_takesBack_L2 s M9) FUEL (0 : Int32) M) <| fun e1 M2 => some ((), M2)
def MD_many (M : Mem) : Int32 :=
  ((gL M 1 0) * (gL M 1 1)).toInt32
def MD_isCell (a1 : Int32) (M : Mem) : Int32 :=
  ((MD_in a1.toInt64 (0 : Int64) (((MD_many M).toInt64) - (1 : Int64))) &&& 1)
def MD_height (a1 : Int32) (M : Mem) : Option Int32 :=
  ck (inb ((8 : Int32) + a1) 513) <| some ((gL M 1 ((8 : Int32) + a1).toNatClampNeg).toInt32)
def MD_neighbor (a1 : Int32) (a2 : Int32) (M : Mem) : Option Int32 :=
  (if a2 = (0 : Int32) then some (if a1 < ((gL M 1 0).toInt32) then (-1 : Int32) else (a1 - ((gL M 1 0).toInt32))) else (if a2 = (1 : Int32) then ck (decide (¬ ((gL M 1 0).toInt32) = 0)) <| some (if (irm a1 ((gL M 1 0).toInt32)) ≤ 0 then (-1 : Int32) else (a1 - (1 : Int32))) else (if a2 = (2 : Int32) then ck (decide (¬ ((gL M 1 0).toInt32) = 0)) <| some (if (((gL M 1 0).toInt32) - (1 : Int32)) ≤ (irm a1 ((gL M 1 0).toInt32)) then (-1 : Int32) else (a1 + (1 : Int32))) else some (if (MD_many M) ≤ (a1 + ((gL M 1 0).toInt32)) then (-1 : Int32) else (a1 + ((gL M 1 0).toInt32))))))
def MD_areNeighbors_L5 (v1 : Int32) (v2 : Int32) (v3 : Int32) (v4 : Int32) (M : Mem) : Option (((Int32 × Int32) ⊕ (Int32))) :=
  (if (4 : Int32) ≤ v4 then some (.inr v3) else (if ¬ v3 = 0 then some (.inl ((1 : Int32), (v4 + (1 : Int32)))) else b1 (MD_neighbor v1 v4 M) fun x1 => some (.inl ((if ¬ x1 = v2 then (0 : Int32) else (1 : Int32)), (v4 + (1 : Int32))))))
def MD_areNeighbors (a1 : Int32) (a2 : Int32) (M : Mem) : Option Int32 :=
  b1 (lpR (fun s => MD_areNeighbors_L5 a1 a2 s.1 s.2 M) FUEL ((0 : Int32), (0 : Int32))) <| fun e1 => some (e1 &&& 1)
def MD_isPair (a1 : Int32) (a2 : Int32) (M : Mem) : Option Int32 :=
  (if (MD_isCell a1 M) = 0 then some (0 : Int32) else (if (MD_isCell a2 M) = 0 then some (0 : Int32) else b1 (MD_areNeighbors a1 a2 M) fun x1 => some ((if x1 = 0 then (0 : Int32) else (1 : Int32)) &&& 1)))
def MD_gateAt_J21 (v3 : Int32) (t0 : Int32) (M : Mem) : Option Int32 :=
  b1 (MD_neighbor v3 (2 : Int32) M) fun x1 => some (if ¬ t0 = x1 then ((80 : Int32) + v3) else ((44 : Int32) + v3))
def MD_gateAt_J10 (v1 : Int32) (v2 : Int32) (t0 : Int32) (M : Mem) : Option Int32 :=
  MD_gateAt_J21 t0 (if v2 ≤ v1 then v1 else v2) M
def MD_gateAt (a1 : Int32) (a2 : Int32) (M : Mem) : Option Int32 :=
  MD_gateAt_J10 a1 a2 (if a2 ≤ a1 then a2 else a1) M
def MD_threshold_J43 (v1 : Int32) (v2 : Int32) (t0 : Int64) (M : Mem) : Option Int32 :=
  b1 (MD_gateAt v1 v2 M) fun x1 => ck (inb x1 513) <| (if (gL M 1 x1.toNatClampNeg) ≤ t0 then some t0.toInt32 else some ((gL M 1 x1.toNatClampNeg).toInt32))
def MD_threshold (a1 : Int32) (a2 : Int32) (M : Mem) : Option Int32 :=
  ck (inb ((8 : Int32) + a1) 513) <| ck (inb ((8 : Int32) + a2) 513) <| (if (gL M 1 ((8 : Int32) + a1).toNatClampNeg) ≤ (gL M 1 ((8 : Int32) + a2).toNatClampNeg) then ck (inb ((8 : Int32) + a2) 513) <| MD_threshold_J43 a1 a2 (gL M 1 ((8 : Int32) + a2).toNatClampNeg) M else ck (inb ((8 : Int32) + a1) 513) <| MD_threshold_J43 a1 a2 (gL M 1 ((8 : Int32) + a1).toNatClampNeg) M)
def MD_runs (a1 : Int32) (a2 : Int32) (M : Mem) : Option Int32 :=
  b1 (MD_threshold a1 a2 M) fun x1 => b1 (MD_height a1 M) fun x2 => some ((if ¬ x1 = x2 then (0 : Int32) else (1 : Int32)) &&& 1)
def MD_has (a0 : Int64) (a2 : Int32) : Int32 :=
  (if ¬ ((lsr a0 a2) &&& (1 : Int64)) = (1 : Int64) then (0 : Int32) else (1 : Int32))
def MD_plain_L30 (v1 : Int32) (v5 : Int32) (v2 : Int64) (v4 : Int32) (v6 : Int32) (M : Mem) : Option (((Int64 × Int32 × Int32) ⊕ (Int64 × Int32))) :=
  (if (4 : Int32) ≤ v6 then some (.inr (v2, v4)) else (if (MD_has v2 v5) = 0 then some (.inr (v2, v4)) else b1 (MD_neighbor v5 v6 M) fun x1 => (if x1 = (-1 : Int32) then some (.inl (v2, v4, (v6 + (1 : Int32)))) else b1 (MD_height x1 M) fun x2 => b1 (MD_height v1 M) fun x3 => (if ¬ x2 = x3 then some (.inl (v2, v4, (v6 + (1 : Int32)))) else b1 (MD_runs v5 x1 M) fun x4 => some (.inl ((if x4 = 0 then v2 else (if ¬ (MD_has v2 x1) = 0 then v2 else (v2 ||| (lsh (1 : Int64) x1)))), (if x4 = 0 then v4 else (if ¬ (MD_has v2 x1) = 0 then v4 else (1 : Int32))), (v6 + (1 : Int32))))))))
def MD_plain_L18 (v1 : Int32) (v2 : Int64) (v4 : Int32) (v5 : Int32) (M : Mem) : Option (((Int64 × Int32 × Int32) ⊕ (Int64 × Int32))) :=
  (if (MD_many M) ≤ v5 then some (.inr (v2, v4)) else b1 (lpR (fun s => MD_plain_L30 v1 v5 s.1 s.2.1 s.2.2 M) FUEL (v2, v4, (0 : Int32))) <| fun e1 => some (.inl (e1.1, e1.2, (v5 + (1 : Int32)))))
def MD_plain_L7 (v1 : Int32) (v2 : Int64) (v4 : Int32) (M : Mem) : Option (((Int64 × Int32) ⊕ (Int64))) :=
  (if v4 = 0 then some (.inr v2) else b1 (lpR (fun s => MD_plain_L18 v1 s.1 s.2.1 s.2.2 M) FUEL (v2, (0 : Int32), (0 : Int32))) <| fun e1 => some (.inl (e1.1, e1.2)))
def MD_plain (a1 : Int32) (M : Mem) : Option Int64 :=
  b1 (lpR (fun s => MD_plain_L7 a1 s.1 s.2 M) FUEL ((lsh (1 : Int64) a1), (1 : Int32))) <| fun e1 => some e1
def MD_way_L16 (v1 : Int64) (v3 : Int32) (v4 : Int32) (v5 : Int32) (M : Mem) : Option (((Int32 × Int32) ⊕ (Int32))) :=
  (if (4 : Int32) ≤ v5 then some (.inr v4) else (if (MD_has v1 v3) = 0 then some (.inr v4) else b1 (MD_neighbor v3 v5 M) fun x1 => (if x1 = (-1 : Int32) then some (.inl (v4, (v5 + (1 : Int32)))) else b1 (MD_height x1 M) fun x2 => b1 (MD_height v3 M) fun x3 => (if x3 ≤ x2 then some (.inl (v4, (v5 + (1 : Int32)))) else b1 (MD_runs v3 x1 M) fun x4 => (if x4 = 0 then some (.inl (v4, (v5 + (1 : Int32)))) else (if v4 = (-1 : Int32) then some (.inl (x1, (v5 + (1 : Int32)))) else b1 (MD_height x1 M) fun x5 => b1 (MD_height v4 M) fun x6 => some (.inl ((if x6 ≤ x5 then v4 else x1), (v5 + (1 : Int32))))))))))
def MD_way_L2 (v1 : Int64) (v3 : Int32) (M : Mem) : Option (((Int32) ⊕ ((Unit) ⊕ Int32))) :=
  (if (MD_many M) ≤ v3 then some (.inr (.inl ())) else b1 (lpR (fun s => MD_way_L16 v1 v3 s.1 s.2 M) FUEL ((-1 : Int32), (0 : Int32))) <| fun e1 => (if e1 = (-1 : Int32) then some (.inl (v3 + (1 : Int32))) else some (.inr (.inr e1))))
def MD_way (a1 : Int64) (M : Mem) : Option Int32 :=
  b1 (lpR (fun s => MD_way_L2 a1 s M) FUEL (0 : Int32)) <| fun e1 => e1.elim (fun e2 => some (-1 : Int32)) (fun r8 => some r8)
def MD_endOf_L6 (v2 : Int64) (M : Mem) : Option (((Int64) ⊕ ((Unit) ⊕ Int64))) :=
  (if ¬ (v2 &&& (gL M 1 2)) = (0 : Int64) then some (.inr (.inl ())) else b1 (MD_way v2 M) fun x1 => (if ¬ x1 = (-1 : Int32) then b1 (MD_plain x1 M) fun x2 => some (.inl x2) else some (.inr (.inr v2))))
def MD_endOf (a1 : Int32) (M : Mem) : Option Int64 :=
  b1 (MD_plain a1 M) fun x1 => b1 (lpR (fun s => MD_endOf_L6 s M) FUEL x1) <| fun e2 => e2.elim (fun e3 => some (0 : Int64)) (fun r8 => some r8)
def MD_lowest_L2 (v0 : Int64) (v2 : Int32) : Option (((Int32) ⊕ (Int32))) :=
  (if ¬ (MD_has v0 v2) = 0 then some (.inr v2) else some (.inl (v2 + (1 : Int32))))
def MD_lowest (a0 : Int64) : Option Int32 :=
  b1 (lpR (fun s => MD_lowest_L2 a0 s) FUEL (0 : Int32)) <| fun e1 => some e1
def MD_finds_L4 (v1 : Int32) (M : Mem) : Option (((Int32) ⊕ (Unit)) × Mem) :=
  (if (513 : Int32) ≤ v1 then some (.inr (), M) else ck (inb v1 513) <| some (.inl (v1 + (1 : Int32)), (sL M 1 v1.toNatClampNeg (0 : Int64))))
def MD_finds_L26 (v1 : Int32) (M : Mem) : Option (((Int32) ⊕ (Unit)) × Mem) :=
  (if (MD_many M) ≤ v1 then some (.inr (), M) else b1 (MD_endOf v1 M) fun x1 => ck (inb v1 36) <| ck (inb ((116 : Int32) + v1) 513) <| some (.inl (v1 + (1 : Int32)), (sL (sL M 4 v1.toNatClampNeg x1) 1 ((116 : Int32) + v1).toNatClampNeg (-1 : Int64))))
def MD_finds_L114_J172 (v1 : Int32) (v2 : Int32) (v3 : Int32) (v4 : Int32) (t0 : Int64) (t1 : Int32) (t2 : Nat) (M : Mem) : Option (((Int32) ⊕ (Unit)) × Mem) :=
  ck (inb t1 (nM t2)) <| ck (inb ((152 : Int32) + v1) 513) <| ck (inb ((152 : Int32) + v1) 513) <| some (.inl (v3 + (1 : Int32)), (sL (sL M t2 t1.toNatClampNeg t0) 1 ((152 : Int32) + v1).toNatClampNeg ((gL (sL M t2 t1.toNatClampNeg t0) 1 ((152 : Int32) + v1).toNatClampNeg) ||| (if v4 = 0 then (0 : Int64) else (lsh (1 : Int64) v3)))))
def MD_finds_L114_J143 (v1 : Int32) (v2 : Int32) (v3 : Int32) (t0 : Int32) (M : Mem) : Option (((Int32) ⊕ (Unit)) × Mem) :=
  (if t0 = 0 then ck (inb ((116 : Int32) + v3) 513) <| MD_finds_L114_J172 v1 v2 v3 t0 (gL M 1 ((116 : Int32) + v3).toNatClampNeg) ((116 : Int32) + v3) 1 M else MD_finds_L114_J172 v1 v2 v3 t0 v1.toInt64 ((116 : Int32) + v3) 1 M)
def MD_finds_L114 (v1 : Int32) (v2 : Int32) (v3 : Int32) (M : Mem) : Option (((Int32) ⊕ (Unit)) × Mem) :=
  (if (MD_many M) ≤ v3 then some (.inr (), M) else ck (inb v3 36) <| ck (inb v2 36) <| (if ¬ (gL M 4 v3.toNatClampNeg) = (gL M 4 v2.toNatClampNeg) then MD_finds_L114_J143 v1 v2 v3 (0 : Int32) M else MD_finds_L114_J143 v1 v2 v3 (1 : Int32) M))
def MD_finds_L67 (v1 : Int32) (v2 : Int32) (M : Mem) : Option (((Int32 × Int32) ⊕ (Int32)) × Mem) :=
  (if (MD_many M) ≤ v2 then some (.inr v1, M) else ck (inb v2 36) <| (if (gL M 4 v2.toNatClampNeg) = (0 : Int64) then some (.inl (v1, (v2 + (1 : Int32))), M) else ck (inb v2 36) <| (if (MD_has (gL M 4 v2.toNatClampNeg) v2) = 0 then some (.inl (v1, (v2 + (1 : Int32))), M) else ck (inb v2 36) <| b1 (MD_lowest (gL M 4 v2.toNatClampNeg)) fun x1 => (if ¬ x1 = v2 then some (.inl (v1, (v2 + (1 : Int32))), M) else b2 (lpM (fun s M9 => MD_finds_L114 v1 v2 s M9) FUEL (0 : Int32) M) <| fun e2 M3 => ck (inb v2 36) <| ck (inb ((440 : Int32) + v1) 513) <| some (.inl ((v1 + (1 : Int32)), (v2 + (1 : Int32))), (sL (sL M3 1 512 ((gL M3 1 512) ||| (gL M3 4 v2.toNatClampNeg))) 1 ((440 : Int32) + v1).toNatClampNeg (1 : Int64)))))))
def MD_finds (M : Mem) : Option (Unit × Mem) :=
  b2 (lpM (fun s M9 => MD_finds_L4 s M9) FUEL (152 : Int32) M) <| fun e1 M2 => b2 (lpM (fun s M9 => MD_finds_L26 s M9) FUEL (0 : Int32) M2) <| fun e3 M4 => b2 (lpM (fun s M9 => MD_finds_L67 s.1 s.2 M9) FUEL ((0 : Int32), (0 : Int32)) M4) <| fun e5 M6 => some ((), (sL M6 1 6 e5.toInt64))
def MD_findsPass_L41_J104 (v2 : Int64) (v4 : Int32) (v5 : Int32) (v6 : Int32) (M : Mem) : Option (((Int32) ⊕ (Unit)) × Mem) :=
  b1 (MD_threshold v4 v6 M) fun x1 => some (.inl (v5 + (1 : Int32)), (sI (sI (sI M 0 8 x1) 0 6 v4) 0 7 v6))
def MD_findsPass_L41 (v2 : Int64) (v4 : Int32) (v5 : Int32) (M : Mem) : Option (((Int32) ⊕ (Unit)) × Mem) :=
  (if (4 : Int32) ≤ v5 then some (.inr (), M) else (if (MD_has v2 v4) = 0 then some (.inr (), M) else b1 (MD_neighbor v4 v5 M) fun x1 => (if x1 = (-1 : Int32) then some (.inl (v5 + (1 : Int32)), M) else (if ¬ (MD_has v2 x1) = 0 then some (.inl (v5 + (1 : Int32)), M) else (if (gI M 0 8) = (-1 : Int32) then MD_findsPass_L41_J104 v2 v4 v5 x1 M else b1 (MD_threshold v4 x1 M) fun x2 => (if (gI M 0 8) ≤ x2 then some (.inl (v5 + (1 : Int32)), M) else MD_findsPass_L41_J104 v2 v4 v5 x1 M))))))
def MD_findsPass_L29 (v2 : Int64) (v4 : Int32) (M : Mem) : Option (((Int32) ⊕ (Unit)) × Mem) :=
  (if (MD_many M) ≤ v4 then some (.inr (), M) else b2 (lpM (fun s M9 => MD_findsPass_L41 v2 v4 s M9) FUEL (0 : Int32) M) <| fun e1 M2 => some (.inl (v4 + (1 : Int32)), M2))
def MD_findsPass (a1 : Int32) (M : Mem) : Option (Unit × Mem) :=
  ck (inb ((152 : Int32) + a1) 513) <| b2 (lpM (fun s M9 => MD_findsPass_L29 (gL (sI (sI (sI M 0 8 (-1 : Int32)) 0 6 (-1 : Int32)) 0 7 (-1 : Int32)) 1 ((152 : Int32) + a1).toNatClampNeg) s M9) FUEL (0 : Int32) (sI (sI (sI M 0 8 (-1 : Int32)) 0 6 (-1 : Int32)) 0 7 (-1 : Int32))) <| fun e1 M2 => some ((), M2)
def MD_capacity_L10 (v1 : Int32) (v2 : Int64) (v4 : Int32) (M : Mem) : Option (((Int64 × Int32) ⊕ (Int64))) :=
  (if (MD_many M) ≤ v4 then some (.inr v2) else (if (gI M 0 8) = (-1 : Int32) then some (.inr v2) else ck (inb ((152 : Int32) + v1) 513) <| (if (MD_has (gL M 1 ((152 : Int32) + v1).toNatClampNeg) v4) = 0 then some (.inl ((v2 + (0 : Int64)), (v4 + (1 : Int32)))) else b1 (MD_height v4 M) fun x1 => (if (gI M 0 8) ≤ x1 then some (.inl ((v2 + (0 : Int64)), (v4 + (1 : Int32)))) else b1 (MD_height v4 M) fun x2 => some (.inl ((v2 + (((gI M 0 8) - x2).toInt64)), (v4 + (1 : Int32))))))))
def MD_capacity (a1 : Int32) (M : Mem) : Option (Int64 × Mem) :=
  b2 (MD_findsPass a1 M) fun x1 M2 => b1 (lpR (fun s => MD_capacity_L10 a1 s.1 s.2 M2) FUEL ((0 : Int64), (0 : Int32))) <| fun e3 => some ((if ¬ (gI M2 0 8) = (-1 : Int32) then e3 else (-1 : Int64)), M2)
def MD_isFull (a1 : Int32) (M : Mem) : Option (Int32 × Mem) :=
  ck (inb ((224 : Int32) + a1) 513) <| b2 (MD_capacity a1 M) fun x1 M2 => (if ¬ (gL M 1 ((224 : Int32) + a1).toNatClampNeg) = x1 then some ((0 : Int32), M2) else some ((1 : Int32), M2))
def MD_isJoined (a1 : Int32) (M : Mem) : Option Int32 :=
  ck (inb ((296 : Int32) + a1) 513) <| ck (inb ((368 : Int32) + a1) 513) <| (if (gL M 1 ((296 : Int32) + a1).toNatClampNeg) = (gL M 1 ((368 : Int32) + a1).toNatClampNeg) then some (0 : Int32) else some (1 : Int32))
def MD_leastVolume (a1 : Int32) (M : Mem) : Option (Int64 × Mem) :=
  b1 (MD_isJoined a1 M) fun x1 => (if x1 = 0 then some ((0 : Int64), M) else ck (inb ((296 : Int32) + a1) 513) <| b2 (MD_capacity ((gL M 1 ((296 : Int32) + a1).toNatClampNeg).toInt32) M) fun x2 M3 => ck (inb ((368 : Int32) + a1) 513) <| b2 (MD_capacity ((gL M3 1 ((368 : Int32) + a1).toNatClampNeg).toInt32) M3) fun x4 M5 => some ((x2 + x4), M5))
def MD_lakeOf_L4 (v1 : Int32) (v2 : Int32) (v3 : Int32) (M : Mem) : Option (((Int32 × Int32) ⊕ (Int32))) :=
  (if (72 : Int32) ≤ v3 then some (.inr v2) else ck (inb ((440 : Int32) + v3) 513) <| (if ¬ (gL M 1 ((440 : Int32) + v3).toNatClampNeg) = (1 : Int64) then some (.inl (v2, (v3 + (1 : Int32)))) else ck (inb ((152 : Int32) + v3) 513) <| some (.inl ((if (MD_has (gL M 1 ((152 : Int32) + v3).toNatClampNeg) v1) = 0 then v2 else v3), (v3 + (1 : Int32))))))
def MD_lakeOf (a1 : Int32) (M : Mem) : Option Int32 :=
  b1 (lpR (fun s => MD_lakeOf_L4 a1 s.1 s.2 M) FUEL ((-1 : Int32), (0 : Int32))) <| fun e1 => some e1
def MD_join_L2 (v1 : Int32) (v2 : Int32) (v3 : Int32) (M : Mem) : Option (((Int32) ⊕ (Int32))) :=
  ck (inb ((152 : Int32) + v3) 513) <| (if (gL M 1 ((152 : Int32) + v3).toNatClampNeg) = (0 : Int64) then some (.inr v3) else some (.inl (v3 + (1 : Int32))))
def MD_join (a1 : Int32) (a2 : Int32) (M : Mem) : Option (Int32 × Mem) :=
  b1 (lpR (fun s => MD_join_L2 a1 a2 s M) FUEL (0 : Int32)) <| fun e1 => ck (inb ((152 : Int32) + a1) 513) <| ck (inb ((152 : Int32) + a2) 513) <| ck (inb ((152 : Int32) + e1) 513) <| ck (inb ((224 : Int32) + a1) 513) <| ck (inb ((224 : Int32) + a2) 513) <| ck (inb ((224 : Int32) + e1) 513) <| ck (inb ((296 : Int32) + e1) 513) <| ck (inb ((368 : Int32) + e1) 513) <| ck (inb ((440 : Int32) + e1) 513) <| ck (inb ((440 : Int32) + a1) 513) <| ck (inb ((440 : Int32) + a2) 513) <| some (e1, (sL (sL (sL (sL (sL (sL (sL M 1 ((152 : Int32) + e1).toNatClampNeg ((gL M 1 ((152 : Int32) + a1).toNatClampNeg) ||| (gL M 1 ((152 : Int32) + a2).toNatClampNeg))) 1 ((224 : Int32) + e1).toNatClampNeg ((gL (sL M 1 ((152 : Int32) + e1).toNatClampNeg ((gL M 1 ((152 : Int32) + a1).toNatClampNeg) ||| (gL M 1 ((152 : Int32) + a2).toNatClampNeg))) 1 ((224 : Int32) + a1).toNatClampNeg) + (gL (sL M 1 ((152 : Int32) + e1).toNatClampNeg ((gL M 1 ((152 : Int32) + a1).toNatClampNeg) ||| (gL M 1 ((152 : Int32) + a2).toNatClampNeg))) 1 ((224 : Int32) + a2).toNatClampNeg))) 1 ((296 : Int32) + e1).toNatClampNeg a1.toInt64) 1 ((368 : Int32) + e1).toNatClampNeg a2.toInt64) 1 ((440 : Int32) + e1).toNatClampNeg (1 : Int64)) 1 ((440 : Int32) + a1).toNatClampNeg (0 : Int64)) 1 ((440 : Int32) + a2).toNatClampNeg (0 : Int64)))
def MD_pours_L10_J169 (v4 : Int32) (v5 : Int64) (v13 : Int32) (t0 : Int32) (M : Mem) : Option (((Int32 × Int64) ⊕ ((Unit) ⊕ Unit)) × Mem) :=
  (if t0 = 0 then some (.inl (v13, v5), M) else b2 (MD_join v4 v13 M) fun x1 M2 => some (.inl (x1, v5), M2))
def MD_pours_L10_J168 (v4 : Int32) (v5 : Int64) (v13 : Int32) (M : Mem) : Option (((Int32 × Int64) ⊕ ((Unit) ⊕ Unit)) × Mem) :=
  MD_pours_L10_J169 v4 v5 v13 (0 : Int32) M
def MD_pours_L10_J100 (v4 : Int32) (v5 : Int64) (v9 : Int32) (v10 : Int32) (t0 : Int64) (M : Mem) : Option (((Int32 × Int64) ⊕ ((Unit) ⊕ Unit)) × Mem) :=
  ck (inb ((224 : Int32) + v4) 513) <| ck (inb ((224 : Int32) + v4) 513) <| (if (v5 - t0) ≤ (0 : Int64) then some (.inl (v4, (v5 - t0)), (sL M 1 ((224 : Int32) + v4).toNatClampNeg ((gL M 1 ((224 : Int32) + v4).toNatClampNeg) + t0))) else b1 (MD_lakeOf v10 (sL M 1 ((224 : Int32) + v4).toNatClampNeg ((gL M 1 ((224 : Int32) + v4).toNatClampNeg) + t0))) fun x1 => (if x1 = (-1 : Int32) then MD_pours_L10_J168 v4 (v5 - t0) x1 (sL M 1 ((224 : Int32) + v4).toNatClampNeg ((gL M 1 ((224 : Int32) + v4).toNatClampNeg) + t0)) else b2 (MD_isFull x1 (sL M 1 ((224 : Int32) + v4).toNatClampNeg ((gL M 1 ((224 : Int32) + v4).toNatClampNeg) + t0))) fun x2 M3 => MD_pours_L10_J169 v4 (v5 - t0) x1 (if x2 = 0 then (0 : Int32) else (if ¬ (gI M3 0 8) = v9 then (0 : Int32) else (1 : Int32))) M3))
def MD_pours_L10_J83 (v4 : Int32) (v5 : Int64) (v9 : Int32) (v10 : Int32) (t0 : Int64) (M : Mem) : Option (((Int32 × Int64) ⊕ ((Unit) ⊕ Unit)) × Mem) :=
  (if t0 ≤ v5 then MD_pours_L10_J100 v4 v5 v9 v10 t0 M else MD_pours_L10_J100 v4 v5 v9 v10 v5 M)
def MD_pours_L10 (v4 : Int32) (v5 : Int64) (M : Mem) : Option (((Int32 × Int64) ⊕ ((Unit) ⊕ Unit)) × Mem) :=
  (if v5 ≤ (0 : Int64) then some (.inr (.inl ()), M) else (if ¬ v4 = (-1 : Int32) then b2 (MD_capacity v4 M) fun x1 M2 => (if ¬ x1 = (-1 : Int64) then ck (inb ((224 : Int32) + v4) 513) <| MD_pours_L10_J83 v4 v5 (gI M2 0 8) (gI M2 0 7) (x1 - (gL M2 1 ((224 : Int32) + v4).toNatClampNeg)) M2 else MD_pours_L10_J83 v4 v5 (gI M2 0 8) (gI M2 0 7) v5 M2) else some (.inr (.inr ()), (sL M 1 3 ((gL M 1 3) + v5)))))
def MD_pours (a1 : Int32) (a2 : Int64) (M : Mem) : Option (Unit × Mem) :=
  b1 (MD_lakeOf a1 M) fun x1 => b2 (lpM (fun s M9 => MD_pours_L10 s.1 s.2 M9) FUEL (x1, a2) M) <| fun e2 M3 => e2.elim (fun e4 => some ((), M3)) (fun r8 => some (r8, M3))
def MD_parts (a1 : Int32) (a2 : Int32) (a3 : Int32) (M : Mem) : Option (Unit × Mem) :=
  ck (inb ((152 : Int32) + a1) 513) <| ck (inb ((224 : Int32) + a1) 513) <| ck (inb ((296 : Int32) + a1) 513) <| ck (inb ((368 : Int32) + a1) 513) <| ck (inb ((440 : Int32) + a1) 513) <| b2 (MD_capacity a2 (sL (sL (sL (sL (sL M 1 ((152 : Int32) + a1).toNatClampNeg (0 : Int64)) 1 ((224 : Int32) + a1).toNatClampNeg (0 : Int64)) 1 ((296 : Int32) + a1).toNatClampNeg (0 : Int64)) 1 ((368 : Int32) + a1).toNatClampNeg (0 : Int64)) 1 ((440 : Int32) + a1).toNatClampNeg (0 : Int64))) fun x1 M2 => ck (inb ((224 : Int32) + a2) 513) <| b2 (MD_capacity a3 (sL M2 1 ((224 : Int32) + a2).toNatClampNeg x1)) fun x3 M4 => ck (inb ((224 : Int32) + a3) 513) <| ck (inb ((440 : Int32) + a2) 513) <| ck (inb ((440 : Int32) + a3) 513) <| some ((), (sL (sL (sL M4 1 ((224 : Int32) + a3).toNatClampNeg x3) 1 ((440 : Int32) + a2).toNatClampNeg (1 : Int64)) 1 ((440 : Int32) + a3).toNatClampNeg (1 : Int64)))
def MD_takes_L17_J220 (v2 : Int64) (v4 : Int32) (v10 : Int64) (v12 : Int32) (v13 : Int32) (v14 : Int32) (t0 : Int64) (M : Mem) : Option (((Int32) ⊕ (Unit)) × Mem) :=
  ck (inb v4 72) <| ck (inb v4 72) <| ck (inb (v4 + (1 : Int32)) 72) <| ck (inb (v4 + (1 : Int32)) 72) <| some (.inl (v4 + (2 : Int32)), (sL (sI (sL (sI M 5 v4.toNatClampNeg ((v12 + v13) - v14)) 6 v4.toNatClampNeg (v10 - t0)) 5 (v4 + (1 : Int32)).toNatClampNeg v14) 6 (v4 + (1 : Int32)).toNatClampNeg t0))
def MD_takes_L17_J185 (v2 : Int64) (v4 : Int32) (v10 : Int64) (v12 : Int32) (v13 : Int32) (t0 : Int32) (M : Mem) : Option (((Int32) ⊕ (Unit)) × Mem) :=
  ck (inb ((224 : Int32) + t0) 513) <| (if (gL M 1 ((224 : Int32) + t0).toNatClampNeg) ≤ v10 then ck (inb ((224 : Int32) + t0) 513) <| MD_takes_L17_J220 v2 v4 v10 v12 v13 t0 (gL M 1 ((224 : Int32) + t0).toNatClampNeg) M else MD_takes_L17_J220 v2 v4 v10 v12 v13 t0 v10 M)
def MD_takes_L17 (v2 : Int64) (v4 : Int32) (M : Mem) : Option (((Int32) ⊕ (Unit)) × Mem) :=
  (if v4 ≤ 0 then some (.inr (), M) else ck (inb (v4 + (-1 : Int32)) 72) <| ck (inb (v4 + (-1 : Int32)) 72) <| b2 (MD_leastVolume (gI M 5 (v4 + (-1 : Int32)).toNatClampNeg) M) fun x1 M2 => ck (inb ((224 : Int32) + (gI M 5 (v4 + (-1 : Int32)).toNatClampNeg)) 513) <| (if ((gL M2 1 ((224 : Int32) + (gI M 5 (v4 + (-1 : Int32)).toNatClampNeg)).toNatClampNeg) - (gL M 6 (v4 + (-1 : Int32)).toNatClampNeg)) < x1 then ck (inb ((224 : Int32) + (gI M 5 (v4 + (-1 : Int32)).toNatClampNeg)) 513) <| ck (inb ((296 : Int32) + (gI M 5 (v4 + (-1 : Int32)).toNatClampNeg)) 513) <| ck (inb ((368 : Int32) + (gI M 5 (v4 + (-1 : Int32)).toNatClampNeg)) 513) <| b2 (MD_parts (gI M 5 (v4 + (-1 : Int32)).toNatClampNeg) ((gL M2 1 ((296 : Int32) + (gI M 5 (v4 + (-1 : Int32)).toNatClampNeg)).toNatClampNeg).toInt32) ((gL M2 1 ((368 : Int32) + (gI M 5 (v4 + (-1 : Int32)).toNatClampNeg)).toNatClampNeg).toInt32) M2) fun x3 M4 => ck (inb ((152 : Int32) + ((gL M2 1 ((296 : Int32) + (gI M 5 (v4 + (-1 : Int32)).toNatClampNeg)).toNatClampNeg).toInt32)) 513) <| b1 (MD_lowest (gL M4 1 ((152 : Int32) + ((gL M2 1 ((296 : Int32) + (gI M 5 (v4 + (-1 : Int32)).toNatClampNeg)).toNatClampNeg).toInt32)).toNatClampNeg)) fun x5 => ck (inb ((152 : Int32) + ((gL M2 1 ((368 : Int32) + (gI M 5 (v4 + (-1 : Int32)).toNatClampNeg)).toNatClampNeg).toInt32)) 513) <| b1 (MD_lowest (gL M4 1 ((152 : Int32) + ((gL M2 1 ((368 : Int32) + (gI M 5 (v4 + (-1 : Int32)).toNatClampNeg)).toNatClampNeg).toInt32)).toNatClampNeg)) fun x6 => MD_takes_L17_J185 v2 (v4 + (-1 : Int32)) ((gL M 6 (v4 + (-1 : Int32)).toNatClampNeg) - ((gL M2 1 ((224 : Int32) + (gI M 5 (v4 + (-1 : Int32)).toNatClampNeg)).toNatClampNeg) - x1)) ((gL M2 1 ((296 : Int32) + (gI M 5 (v4 + (-1 : Int32)).toNatClampNeg)).toNatClampNeg).toInt32) ((gL M2 1 ((368 : Int32) + (gI M 5 (v4 + (-1 : Int32)).toNatClampNeg)).toNatClampNeg).toInt32) (if x6 ≤ x5 then (gL M2 1 ((368 : Int32) + (gI M 5 (v4 + (-1 : Int32)).toNatClampNeg)).toNatClampNeg).toInt32 else (gL M2 1 ((296 : Int32) + (gI M 5 (v4 + (-1 : Int32)).toNatClampNeg)).toNatClampNeg).toInt32) M4 else ck (inb ((224 : Int32) + (gI M 5 (v4 + (-1 : Int32)).toNatClampNeg)) 513) <| ck (inb ((224 : Int32) + (gI M 5 (v4 + (-1 : Int32)).toNatClampNeg)) 513) <| some (.inl (v4 + (-1 : Int32)), (sL M2 1 ((224 : Int32) + (gI M 5 (v4 + (-1 : Int32)).toNatClampNeg)).toNatClampNeg ((gL M2 1 ((224 : Int32) + (gI M 5 (v4 + (-1 : Int32)).toNatClampNeg)).toNatClampNeg) - (gL M 6 (v4 + (-1 : Int32)).toNatClampNeg))))))
def MD_takes (a1 : Int32) (a2 : Int64) (M : Mem) : Option (Unit × Mem) :=
  b2 (lpM (fun s M9 => MD_takes_L17 a2 s M9) FUEL (1 : Int32) (sL (sI M 5 0 a1) 6 0 a2)) <| fun e1 M2 => some ((), (sL M2 1 4 ((gL M2 1 4) + a2)))
def MD_orders_L7 (v1 : Int32) (M : Mem) : Option (((Int32) ⊕ (Unit)) × Mem) :=
  (if (MD_many M) ≤ v1 then some (.inr (), M) else b1 (MD_lakeOf v1 M) fun x1 => (if x1 = (-1 : Int32) then some (.inl (v1 + (1 : Int32)), M) else ck (inb ((152 : Int32) + x1) 513) <| b1 (MD_lowest (gL M 1 ((152 : Int32) + x1).toNatClampNeg)) fun x2 => (if ¬ x2 = v1 then some (.inl (v1 + (1 : Int32)), M) else ck (inb (gI M 0 12) 36) <| some (.inl (v1 + (1 : Int32)), (sI (sI M 7 (gI M 0 12).toNatClampNeg x1) 0 12 ((gI (sI M 7 (gI M 0 12).toNatClampNeg x1) 0 12) + (1 : Int32)))))))
def MD_orders (M : Mem) : Option (Unit × Mem) :=
  b2 (lpM (fun s M9 => MD_orders_L7 s M9) FUEL (0 : Int32) (sI M 0 12 (0 : Int32))) <| fun e1 M2 => some ((), M2)
def MD_numberOf_L2 (v1 : Int32) (v2 : Int32) (M : Mem) : Option (((Int32) ⊕ (Int32))) :=
  ck (inb v2 36) <| (if (gI M 7 v2.toNatClampNeg) = v1 then some (.inr v2) else some (.inl (v2 + (1 : Int32))))
def MD_numberOf (a1 : Int32) (M : Mem) : Option Int32 :=
  b1 (lpR (fun s => MD_numberOf_L2 a1 s M) FUEL (0 : Int32)) <| fun e1 => some e1
def MD_isLake (a1 : Int32) (M : Mem) : Option (Int32 × Mem) :=
  b2 (MD_orders M) fun x1 M2 => some (((MD_in a1.toInt64 (0 : Int64) (((gI M2 0 12).toInt64) - (1 : Int64))) &&& 1), M2)
def MD_water_L4 (v1 : Int64) (v3 : Int32) (M : Mem) : Option (((Int64 × Int32) ⊕ (Int64))) :=
  (if (72 : Int32) ≤ v3 then some (.inr v1) else ck (inb ((440 : Int32) + v3) 513) <| (if ¬ (gL M 1 ((440 : Int32) + v3).toNatClampNeg) = (1 : Int64) then some (.inl ((v1 + (0 : Int64)), (v3 + (1 : Int32)))) else ck (inb ((224 : Int32) + v3) 513) <| some (.inl ((v1 + (gL M 1 ((224 : Int32) + v3).toNatClampNeg)), (v3 + (1 : Int32))))))
def MD_water (M : Mem) : Option Int64 :=
  b1 (lpR (fun s => MD_water_L4 s.1 s.2 M) FUEL ((0 : Int64), (0 : Int32))) <| fun e1 => some e1
def MD_levels_L52_J135 (v2 : Int64) (v4 : Int64) (v7 : Int32) (v8 : Int32) (v9 : Int32) (v10 : Int32) (t0 : Int64) (t1 : Int64) (M : Mem) : Option (((Int64 × Int32 × Int32) ⊕ (Int64 × Int32)) × Mem) :=
  some (.inl ((v4 + (if v10 = 0 then (0 : Int64) else v7.toInt64)), v8, (v9 + (1 : Int32))), (sL M 0 14 (t1 + t0)))
def MD_levels_L52_J118 (v2 : Int64) (v4 : Int64) (v7 : Int32) (v9 : Int32) (v10 : Int32) (t0 : Int32) (M : Mem) : Option (((Int64 × Int32 × Int32) ⊕ (Int64 × Int32)) × Mem) :=
  MD_levels_L52_J135 v2 v4 v7 t0 v9 v10 (if v10 = 0 then (0 : Int64) else (1 : Int64)) (gL M 0 14) M
def MD_levels_L52_J117 (v2 : Int64) (v4 : Int64) (v7 : Int32) (v9 : Int32) (v10 : Int32) (M : Mem) : Option (((Int64 × Int32 × Int32) ⊕ (Int64 × Int32)) × Mem) :=
  MD_levels_L52_J118 v2 v4 v7 v9 v10 (0 : Int32) M
def MD_levels_L52_J113 (v2 : Int64) (v4 : Int64) (v7 : Int32) (v9 : Int32) (v10 : Int32) (M : Mem) : Option (((Int64 × Int32 × Int32) ⊕ (Int64 × Int32)) × Mem) :=
  MD_levels_L52_J118 v2 v4 v7 v9 v10 (1 : Int32) M
def MD_levels_L52_J86 (v2 : Int64) (v4 : Int64) (v7 : Int32) (v8 : Int32) (v9 : Int32) (t0 : Int32) (M : Mem) : Option (((Int64 × Int32 × Int32) ⊕ (Int64 × Int32)) × Mem) :=
  (if ¬ v8 = 0 then MD_levels_L52_J113 v2 v4 v7 v9 t0 M else (if (MD_has v2 v9) = 0 then MD_levels_L52_J117 v2 v4 v7 v9 t0 M else b1 (MD_height v9 M) fun x1 => MD_levels_L52_J118 v2 v4 v7 v9 t0 (if x1 ≤ v7 then (0 : Int32) else (1 : Int32)) M))
def MD_levels_L52_J85 (v2 : Int64) (v4 : Int64) (v7 : Int32) (v8 : Int32) (v9 : Int32) (M : Mem) : Option (((Int64 × Int32 × Int32) ⊕ (Int64 × Int32)) × Mem) :=
  MD_levels_L52_J86 v2 v4 v7 v8 v9 (0 : Int32) M
def MD_levels_L52 (v2 : Int64) (v7 : Int32) (v4 : Int64) (v8 : Int32) (v9 : Int32) (M : Mem) : Option (((Int64 × Int32 × Int32) ⊕ (Int64 × Int32)) × Mem) :=
  (if (MD_many M) ≤ v9 then some (.inr (v4, v8), M) else (if (MD_has v2 v9) = 0 then MD_levels_L52_J85 v2 v4 v7 v8 v9 M else b1 (MD_height v9 M) fun x1 => MD_levels_L52_J86 v2 v4 v7 v8 v9 (if ¬ x1 = v7 then (0 : Int32) else (1 : Int32)) M))
def MD_levels_L34 (v2 : Int64) (v4 : Int64) (v6 : Int32) (v7 : Int32) (M : Mem) : Option (((Int64 × Int32 × Int32) ⊕ (Int64)) × Mem) :=
  (if (100 : Int32) ≤ v7 then some (.inr v4, M) else (if ¬ v6 = 0 then some (.inr v4, M) else b2 (lpM (fun s M9 => MD_levels_L52 v2 v7 s.1 s.2.1 s.2.2 M9) FUEL (v4, (0 : Int32), (0 : Int32)) M) <| fun e1 M2 => (if (gL M2 0 14) ≤ (0 : Int64) then some (.inl (e1.1, (0 : Int32), (v7 + (1 : Int32))), M2) else some (.inl (e1.1, (if e1.2 = 0 then (1 : Int32) else (if ((gL M2 0 14) * (v7.toInt64 + (1 : Int64))) < e1.1 then (0 : Int32) else (1 : Int32))), (v7 + (1 : Int32))), M2))))
def MD_levels (a1 : Int32) (M : Mem) : Option (Unit × Mem) :=
  ck (inb ((152 : Int32) + a1) 513) <| ck (inb ((224 : Int32) + a1) 513) <| b2 (lpM (fun s M9 => MD_levels_L34 (gL M 1 ((152 : Int32) + a1).toNatClampNeg) s.1 s.2.1 s.2.2 M9) FUEL ((gL M 1 ((224 : Int32) + a1).toNatClampNeg), (0 : Int32), (0 : Int32)) (sL M 0 14 (0 : Int64))) <| fun e1 M2 => some ((), (sL M2 0 13 e1))
def MD_isWet (a1 : Int32) (M : Mem) : Option (Int32 × Mem) :=
  b1 (MD_lakeOf a1 M) fun x1 => (if ¬ x1 = (-1 : Int32) then b2 (MD_levels x1 M) fun x2 M3 => b1 (MD_height a1 M3) fun x4 => (if (gL M3 0 13) ≤ ((gL M3 0 14) * x4.toInt64) then some ((0 : Int32), M3) else some ((1 : Int32), M3)) else some ((0 : Int32), M))
def MD_wetOf_L5 (v1 : Int64) (v3 : Int32) (v4 : Int32) (M : Mem) : Option (((Int32 × Int32) ⊕ (Int32)) × Mem) :=
  (if (MD_many M) ≤ v4 then some (.inr v3, M) else (if (MD_has v1 v4) = 0 then some (.inl ((v3 + (0 : Int32)), (v4 + (1 : Int32))), M) else b2 (MD_isWet v4 M) fun x1 M2 => some (.inl ((v3 + (if x1 = 0 then (0 : Int32) else (1 : Int32))), (v4 + (1 : Int32))), M2)))
def MD_wetOf (a1 : Int64) (M : Mem) : Option (Int32 × Mem) :=
  b2 (lpM (fun s M9 => MD_wetOf_L5 a1 s.1 s.2 M9) FUEL ((0 : Int32), (0 : Int32)) M) <| fun e1 M2 => some (e1, M2)
def MD_wet (M : Mem) : Option (Int32 × Mem) :=
  b2 (MD_wetOf ((lsh (1 : Int64) (MD_many M)) - (1 : Int64)) M) fun x1 M2 => some (x1, M2)
def MD_divisor_L6 (v4 : Int64) (v6 : Int64) : Option (((Int64 × Int64) ⊕ (Int64))) :=
  (if v6 = (0 : Int64) then some (.inr v4) else ck (decide (¬ v6 = 0)) <| some (.inl (v6, (lrm v4 v6))))
def MD_divisor (a0 : Int64) (a2 : Int64) : Option Int64 :=
  b1 (lpR (fun s => MD_divisor_L6 s.1 s.2) FUEL (a0, a2)) <| fun e1 => some e1
def MD_bits_L4 (v2 : Int32) (v3 : Int64) : Option (((Int32 × Int64) ⊕ (Int32))) :=
  (if v3 = (0 : Int64) then some (.inr v2) else some (.inl ((v2 + (1 : Int32)), (v3 &&& (v3 - (1 : Int64))))))
def MD_bits (a0 : Int64) : Option Int32 :=
  b1 (lpR (fun s => MD_bits_L4 s.1 s.2) FUEL ((0 : Int32), a0)) <| fun e1 => some e1
def MD_remembers_L47 (v1 : Int32) (v2 : Int32) (v3 : Int32) (M : Mem) : Option (((Int32 × Int32) ⊕ (Int32))) :=
  (if (MD_many M) ≤ v3 then some (.inr v2) else ck (inb v1 36) <| ck (inb ((152 : Int32) + (gI M 7 v1.toNatClampNeg)) 513) <| (if (MD_has (gL M 1 ((152 : Int32) + (gI M 7 v1.toNatClampNeg)).toNatClampNeg) v3) = 0 then some (.inl (v2, (v3 + (1 : Int32)))) else (if v2 = (-1 : Int32) then some (.inl (v3, (v3 + (1 : Int32)))) else b1 (MD_height v3 M) fun x1 => b1 (MD_height v2 M) fun x2 => some (.inl ((if x2 ≤ x1 then v2 else v3), (v3 + (1 : Int32)))))))
def MD_remembers_L14 (v1 : Int32) (M : Mem) : Option (((Int32) ⊕ (Unit)) × Mem) :=
  (if (gI M 0 12) ≤ v1 then some (.inr (), M) else ck (inb v1 36) <| ck (inb ((224 : Int32) + (gI M 7 v1.toNatClampNeg)) 513) <| ck (inb v1 36) <| b1 (lpR (fun s => MD_remembers_L47 v1 s.1 s.2 (sL M 8 v1.toNatClampNeg (gL M 1 ((224 : Int32) + (gI M 7 v1.toNatClampNeg)).toNatClampNeg))) FUEL ((-1 : Int32), (0 : Int32))) <| fun e1 => ck (inb v1 36) <| some (.inl (v1 + (1 : Int32)), (sI (sL M 8 v1.toNatClampNeg (gL M 1 ((224 : Int32) + (gI M 7 v1.toNatClampNeg)).toNatClampNeg)) 9 v1.toNatClampNeg e1)))
def MD_remembers (M : Mem) : Option (Unit × Mem) :=
  b2 (MD_orders M) fun x1 M2 => b2 (lpM (fun s M9 => MD_remembers_L14 s M9) FUEL (0 : Int32) (sI M2 0 17 (gI M2 0 12))) <| fun e3 M4 => some ((), M4)
def MD_changes_L6 (v1 : Int32) (M : Mem) : Option (((Int32) ⊕ (Unit)) × Mem) :=
  (if (gI M 0 17) ≤ v1 then some (.inr (), M) else ck (inb v1 36) <| ck (inb v1 36) <| b2 (MD_pours (gI M 9 v1.toNatClampNeg) (gL M 8 v1.toNatClampNeg) M) fun x1 M2 => some (.inl (v1 + (1 : Int32)), M2))
def MD_changes (M : Mem) : Option (Unit × Mem) :=
  b2 (MD_finds M) fun x1 M2 => b2 (lpM (fun s M9 => MD_changes_L6 s M9) FUEL (0 : Int32) M2) <| fun e3 M4 => some ((), M4)
def MD_begins_L2 (v1 : Int32) (v2 : Int32) (v3 : Int32) (M : Mem) : Option (((Int32) ⊕ (Unit)) × Mem) :=
  (if (513 : Int32) ≤ v3 then some (.inr (), M) else ck (inb v3 513) <| some (.inl (v3 + (1 : Int32)), (sL M 1 v3.toNatClampNeg (if v3 < (44 : Int32) then (0 : Int64) else (if (116 : Int32) ≤ v3 then (0 : Int64) else (-1 : Int64))))))
def MD_begins (a1 : Int32) (a2 : Int32) (M : Mem) : Option (Unit × Mem) :=
  b2 (lpM (fun s M9 => MD_begins_L2 a1 a2 s M9) FUEL (0 : Int32) M) <| fun e1 M2 => b2 (MD_finds (sL (sL M2 1 0 a1.toInt64) 1 1 a2.toInt64)) fun x3 M4 => some ((), M4)
def MD_begin_J30 (v1 : Int32) (v2 : Int32) (t0 : Int32) (M : Mem) : Option (Int32 × Mem) :=
  b2 (MD_goes t0 (1 : Int32) (1 : Int32) M) fun x1 M2 => (if ¬ x1 = 0 then b2 (MD_save M2) fun x3 M4 => b2 (MD_begins v1 v2 M4) fun x5 M6 => some ((MD_many M6), M6) else some ((0 : Int32), M2))
def MD_begin_J29 (v1 : Int32) (v2 : Int32) (M : Mem) : Option (Int32 × Mem) :=
  MD_begin_J30 v1 v2 (0 : Int32) M
def MD_begin (a1 : Int32) (a2 : Int32) (M : Mem) : Option (Int32 × Mem) :=
  MD_begin_J30 a1 a2 (if (MD_in a1.toInt64 (1 : Int64) (6 : Int64)) = 0 then (0 : Int32) else (if (MD_in a2.toInt64 (1 : Int64) (6 : Int64)) = 0 then (0 : Int32) else (1 : Int32))) M
def MD_setHeight (a1 : Int32) (a2 : Int32) (M : Mem) : Option (Int32 × Mem) :=
  b2 (MD_goes (MD_isCell a1 M) (MD_in a2.toInt64 (0 : Int64) (99 : Int64)) (1 : Int32) M) fun x1 M2 => (if ¬ x1 = 0 then b2 (MD_save M2) fun x3 M4 => b2 (MD_remembers M4) fun x5 M6 => b1 (MD_height a1 M6) fun x7 => ck (inb ((8 : Int32) + a1) 513) <| b2 (MD_changes (sL M6 1 ((8 : Int32) + a1).toNatClampNeg a2.toInt64)) fun x8 M9 => some (x7, M9) else some ((0 : Int32), M2))
def MD_setDrain_J71 (v3 : Int32) (t0 : Int64) (t1 : Int32) (t2 : Nat) (M : Mem) : Option (Int32 × Mem) :=
  ck (inb t1 (nM t2)) <| b2 (MD_changes (sL M t2 t1.toNatClampNeg t0)) fun x1 M2 => some ((v3 &&& 1), M2)
def MD_setDrain (a1 : Int32) (a2 : Int32) (M : Mem) : Option (Int32 × Mem) :=
  b2 (MD_goes (MD_isCell a1 M) (1 : Int32) (1 : Int32) M) fun x1 M2 => (if ¬ x1 = 0 then b2 (MD_save M2) fun x3 M4 => b2 (MD_remembers M4) fun x5 M6 => MD_setDrain_J71 (MD_has (gL M6 1 2) a1) (if a2 = 0 then ((gL M6 1 2) &&& ((lsh (1 : Int64) a1) ^^^ (-1 : Int64))) else ((gL M6 1 2) ||| (lsh (1 : Int64) a1))) (2 : Int32) 1 M6 else some ((0 : Int32), M2))
def MD_setGate (a1 : Int32) (a2 : Int32) (a3 : Int32) (M : Mem) : Option (Int32 × Mem) :=
  b1 (MD_isPair a1 a2 M) fun x1 => b2 (MD_goes x1 (MD_in a3.toInt64 (-1 : Int64) (99 : Int64)) (1 : Int32) M) fun x2 M3 => (if ¬ x2 = 0 then b2 (MD_save M3) fun x4 M5 => b2 (MD_remembers M5) fun x6 M7 => b1 (MD_gateAt a1 a2 M7) fun x8 => ck (inb x8 513) <| b1 (MD_gateAt a1 a2 M7) fun x9 => ck (inb x9 513) <| b2 (MD_changes (sL M7 1 x9.toNatClampNeg a3.toInt64)) fun x10 M11 => some ((gL M7 1 x8.toNatClampNeg).toInt32, M11) else some ((0 : Int32), M3))
def MD_random_L54 (v2 : Int32) (v3 : Int64) (v5 : Int32) (M : Mem) : Option (((Int64 × Int32) ⊕ (Unit)) × Mem) :=
  (if (MD_many M) ≤ v5 then some (.inr (), M) else ck (decide (¬ (v2.toInt64 + (1 : Int64)) = 0)) <| ck (inb ((8 : Int32) + v5) 513) <| some (.inl ((lrm (((1103515245 : Int64) * v3) + (12345 : Int64)) (2147483648 : Int64)), (v5 + (1 : Int32))), (sL M 1 ((8 : Int32) + v5).toNatClampNeg (lrm ((lrm (((1103515245 : Int64) * v3) + (12345 : Int64)) (2147483648 : Int64)) / (65536 : Int64)) (v2.toInt64 + (1 : Int64))))))
def MD_random_J30 (v1 : Int32) (v2 : Int32) (t0 : Int32) (M : Mem) : Option (Int32 × Mem) :=
  b2 (MD_goes t0 (1 : Int32) (1 : Int32) M) fun x1 M2 => (if ¬ x1 = 0 then b2 (MD_save M2) fun x3 M4 => b2 (MD_remembers M4) fun x5 M6 => b2 (lpM (fun s M9 => MD_random_L54 v2 s.1 s.2 M9) FUEL (v1.toInt64, (0 : Int32)) M6) <| fun e7 M8 => b2 (MD_changes M8) fun x9 M10 => some ((gL M10 1 6).toInt32, M10) else some ((0 : Int32), M2))
def MD_random_J29 (v1 : Int32) (v2 : Int32) (M : Mem) : Option (Int32 × Mem) :=
  MD_random_J30 v1 v2 (0 : Int32) M
def MD_random (a1 : Int32) (a2 : Int32) (M : Mem) : Option (Int32 × Mem) :=
  MD_random_J30 a1 a2 (if (MD_in a1.toInt64 (0 : Int64) (999999 : Int64)) = 0 then (0 : Int32) else (if (MD_in a2.toInt64 (0 : Int64) (99 : Int64)) = 0 then (0 : Int32) else (1 : Int32))) M
def MD_cellValue (a1 : Int32) (a2 : Int32) (M : Mem) : Option (Int32 × Mem) :=
  b1 (MD_lakeOf a1 M) fun x1 => (if a2 = (0 : Int32) then b1 (MD_height a1 M) fun x2 => some (x2, M) else (if a2 = (1 : Int32) then some ((if (MD_has (gL M 1 2) a1) = 0 then (0 : Int32) else (1 : Int32)), M) else (if a2 = (2 : Int32) then ck (inb ((116 : Int32) + a1) 513) <| some ((gL M 1 ((116 : Int32) + a1).toNatClampNeg).toInt32, M) else (if a2 = (3 : Int32) then b2 (MD_orders M) fun x3 M4 => (if ¬ x1 = (-1 : Int32) then b1 (MD_numberOf x1 M4) fun x5 => some (x5, M4) else some ((-1 : Int32), M4)) else (if a2 = (4 : Int32) then b2 (MD_isWet a1 M) fun x6 M7 => some ((if x6 = 0 then (0 : Int32) else (1 : Int32)), M7) else some ((if (MD_has (gL M 1 512) a1) = 0 then (0 : Int32) else (1 : Int32)), M))))))
def MD_cell (a1 : Int32) (a2 : Int32) (M : Mem) : Option (Int32 × Mem) :=
  b2 (MD_goes (MD_isCell a1 M) (MD_in a2.toInt64 (0 : Int64) (5 : Int64)) (1 : Int32) M) fun x1 M2 => (if x1 = 0 then some ((0 : Int32), M2) else b2 (MD_cellValue a1 a2 M2) fun x3 M4 => some (x3, M4))
def MD_between (a1 : Int32) (a2 : Int32) (a3 : Int32) (M : Mem) : Option (Int32 × Mem) :=
  b1 (MD_isPair a1 a2 M) fun x1 => b2 (MD_goes x1 (1 : Int32) (1 : Int32) M) fun x2 M3 => (if ¬ x2 = 0 then (if a3 = 0 then b1 (MD_gateAt a1 a2 M3) fun x4 => ck (inb x4 513) <| some ((gL M3 1 x4.toNatClampNeg).toInt32, M3) else b1 (MD_threshold a1 a2 M3) fun x5 => some (x5, M3)) else some ((0 : Int32), M3))
def MD_seaCells_L4 (v1 : Int32) (v2 : Int32) (M : Mem) : Option (((Int32 × Int32) ⊕ (Int32))) :=
  (if (MD_many M) ≤ v2 then some (.inr v1) else ck (inb ((116 : Int32) + v2) 513) <| (if ¬ (gL M 1 ((116 : Int32) + v2).toNatClampNeg) = (-1 : Int64) then some (.inl ((v1 + (0 : Int32)), (v2 + (1 : Int32)))) else some (.inl ((v1 + (1 : Int32)), (v2 + (1 : Int32))))))
def MD_seaCells (M : Mem) : Option Int32 :=
  b1 (lpR (fun s => MD_seaCells_L4 s.1 s.2 M) FUEL ((0 : Int32), (0 : Int32))) <| fun e1 => some e1
def MD_countOf_L88 (v2 : Int32) (v3 : Int32) (M : Mem) : Option (((Int32 × Int32) ⊕ (Int32)) × Mem) :=
  (if (72 : Int32) ≤ v3 then some (.inr v2, M) else ck (inb ((440 : Int32) + v3) 513) <| (if ¬ (gL M 1 ((440 : Int32) + v3).toNatClampNeg) = (1 : Int64) then some (.inl ((v2 + (0 : Int32)), (v3 + (1 : Int32))), M) else b2 (MD_isFull v3 M) fun x1 M2 => some (.inl ((v2 + (if x1 = 0 then (0 : Int32) else (1 : Int32))), (v3 + (1 : Int32))), M2)))
def MD_countOf (a1 : Int32) (M : Mem) : Option (Int32 × Mem) :=
  (if a1 = (0 : Int32) then some ((gL M 1 0).toInt32, M) else (if a1 = (1 : Int32) then some ((gL M 1 1).toInt32, M) else (if a1 = (2 : Int32) then some ((gL M 1 6).toInt32, M) else (if a1 = (3 : Int32) then b2 (MD_orders M) fun x1 M2 => some ((gI M2 0 12), M2) else (if a1 = (4 : Int32) then b2 (MD_wet M) fun x3 M4 => some (x3, M4) else (if a1 = (5 : Int32) then b1 (MD_seaCells M) fun x5 => some (x5, M) else b2 (lpM (fun s M9 => MD_countOf_L88 s.1 s.2 M9) FUEL ((0 : Int32), (0 : Int32)) M) <| fun e6 M7 => some (e6, M7)))))))
def MD_count (a1 : Int32) (M : Mem) : Option (Int32 × Mem) :=
  b2 (MD_goes (MD_in a1.toInt64 (0 : Int64) (6 : Int64)) (1 : Int32) (1 : Int32) M) fun x1 M2 => (if x1 = 0 then some ((0 : Int32), M2) else b2 (MD_countOf a1 M2) fun x3 M4 => some (x3, M4))
def MD_pour_J34 (v1 : Int32) (v2 : Int32) (t0 : Int32) (t1 : Int32) (t2 : Int32) (M : Mem) : Option (Int32 × Mem) :=
  b2 (MD_goes t2 t1 t0 M) fun x1 M2 => (if ¬ x1 = 0 then b2 (MD_save M2) fun x3 M4 => b2 (MD_pours v1 v2.toInt64 (sL M4 1 5 ((gL M4 1 5) + v2.toInt64))) fun x5 M6 => some (((gL M6 1 3) - (gL M4 1 3)).toInt32, M6) else some ((0 : Int32), M2))
def MD_pour (a1 : Int32) (a2 : Int32) (M : Mem) : Option (Int32 × Mem) :=
  b1 (MD_water M) fun x1 => (if (1000000 : Int64) < (x1 + a2.toInt64) then MD_pour_J34 a1 a2 (0 : Int32) (MD_in a2.toInt64 (0 : Int64) (100000 : Int64)) (MD_isCell a1 M) M else MD_pour_J34 a1 a2 (1 : Int32) (MD_in a2.toInt64 (0 : Int64) (100000 : Int64)) (MD_isCell a1 M) M)
def MD_rain_L58 (v1 : Int32) (v2 : Int64) (v4 : Int32) (M : Mem) : Option (((Int32) ⊕ (Unit)) × Mem) :=
  (if (MD_many M) ≤ v4 then some (.inr (), M) else b2 (MD_pours v4 v1.toInt64 (sL M 1 5 ((gL M 1 5) + v1.toInt64))) fun x1 M2 => some (.inl (v4 + (1 : Int32)), M2))
def MD_rain_J35 (v1 : Int32) (t0 : Int32) (t1 : Int32) (M : Mem) : Option (Int32 × Mem) :=
  b2 (MD_goes t1 t0 (1 : Int32) M) fun x1 M2 => (if ¬ x1 = 0 then b2 (MD_save M2) fun x3 M4 => b2 (lpM (fun s M9 => MD_rain_L58 v1 (gL M4 1 3) s M9) FUEL (0 : Int32) M4) <| fun e5 M6 => some (((gL M6 1 3) - (gL M4 1 3)).toInt32, M6) else some ((0 : Int32), M2))
def MD_rain (a1 : Int32) (M : Mem) : Option (Int32 × Mem) :=
  b1 (MD_water M) fun x1 => (if (1000000 : Int64) < (x1 + (a1.toInt64 * ((MD_many M).toInt64))) then MD_rain_J35 a1 (0 : Int32) (MD_in a1.toInt64 (0 : Int64) (1000 : Int64)) M else MD_rain_J35 a1 (1 : Int32) (MD_in a1.toInt64 (0 : Int64) (1000 : Int64)) M)
def MD_evaporates_L11 (v1 : Int32) (v2 : Int32) (M : Mem) : Option (((Int32) ⊕ (Unit)) × Mem) :=
  (if v1 ≤ v2 then some (.inr (), M) else ck (inb v2 36) <| ck (inb ((152 : Int32) + (gI M 7 v2.toNatClampNeg)) 513) <| b2 (MD_wetOf (gL M 1 ((152 : Int32) + (gI M 7 v2.toNatClampNeg)).toNatClampNeg) M) fun x1 M2 => ck (inb v2 36) <| ck (inb ((224 : Int32) + (gI M2 7 v2.toNatClampNeg)) 513) <| ck (inb v2 36) <| ck (inb v2 36) <| (if (gL M2 1 ((224 : Int32) + (gI M2 7 v2.toNatClampNeg)).toNatClampNeg) ≤ x1.toInt64 then ck (inb v2 36) <| some (.inl (v2 + (1 : Int32)), (sL (sI M2 10 v2.toNatClampNeg (gI M2 7 v2.toNatClampNeg)) 11 v2.toNatClampNeg (gL M2 1 ((224 : Int32) + (gI M2 7 v2.toNatClampNeg)).toNatClampNeg))) else ck (inb v2 36) <| some (.inl (v2 + (1 : Int32)), (sL (sI M2 10 v2.toNatClampNeg (gI M2 7 v2.toNatClampNeg)) 11 v2.toNatClampNeg x1.toInt64))))
def MD_evaporates_L93 (v1 : Int32) (v2 : Int32) (M : Mem) : Option (((Int32) ⊕ (Unit)) × Mem) :=
  (if v1 ≤ v2 then some (.inr (), M) else ck (inb v2 36) <| ck (inb v2 36) <| b2 (MD_takes (gI M 10 v2.toNatClampNeg) (gL M 11 v2.toNatClampNeg) M) fun x1 M2 => some (.inl (v2 + (1 : Int32)), M2))
def MD_evaporates (M : Mem) : Option (Unit × Mem) :=
  b2 (MD_orders M) fun x1 M2 => b2 (lpM (fun s M9 => MD_evaporates_L11 (gI M2 0 12) s M9) FUEL (0 : Int32) M2) <| fun e3 M4 => b2 (lpM (fun s M9 => MD_evaporates_L93 (gI M2 0 12) s M9) FUEL (0 : Int32) M4) <| fun e5 M6 => some ((), M6)
def MD_evaporate_L34 (v1 : Int32) (v2 : Int64) (v4 : Int32) (M : Mem) : Option (((Int32) ⊕ (Unit)) × Mem) :=
  (if v1 ≤ v4 then some (.inr (), M) else b2 (MD_evaporates M) fun x1 M2 => some (.inl (v4 + (1 : Int32)), M2))
def MD_evaporate (a1 : Int32) (M : Mem) : Option (Int32 × Mem) :=
  b2 (MD_goes (MD_in a1.toInt64 (0 : Int64) (100 : Int64)) (1 : Int32) (1 : Int32) M) fun x1 M2 => (if ¬ x1 = 0 then b2 (MD_save M2) fun x3 M4 => b2 (lpM (fun s M9 => MD_evaporate_L34 a1 (gL M4 1 4) s M9) FUEL (0 : Int32) M4) <| fun e5 M6 => some (((gL M6 1 4) - (gL M4 1 4)).toInt32, M6) else some ((0 : Int32), M2))
def MD_take_J49 (v1 : Int32) (v2 : Int32) (t0 : Int32) (t1 : Int32) (M : Mem) : Option (Int32 × Mem) :=
  b2 (MD_goes t1 t0 (1 : Int32) M) fun x1 M2 => (if ¬ x1 = 0 then b2 (MD_save M2) fun x3 M4 => ck (inb v1 36) <| b2 (MD_takes (gI M4 7 v1.toNatClampNeg) v2.toInt64 M4) fun x5 M6 => b2 (MD_orders M6) fun x7 M8 => some ((gI M8 0 12), M8) else some ((0 : Int32), M2))
def MD_take_J48 (v1 : Int32) (v2 : Int32) (t0 : Int32) (M : Mem) : Option (Int32 × Mem) :=
  MD_take_J49 v1 v2 (0 : Int32) t0 M
def MD_take_J35 (v1 : Int32) (v2 : Int32) (t0 : Int32) (t1 : Nat) (t2 : Int32) (t3 : Nat) (t4 : Int64) (t5 : Int64) (t6 : Int32) (M : Mem) : Option (Int32 × Mem) :=
  ck (inb t0 (nM t1)) <| ck (inb (t2 + (gI M t1 t0.toNatClampNeg)) (nM t3)) <| MD_take_J49 v1 v2 (if (MD_in t5 t4 (gL M t3 (t2 + (gI M t1 t0.toNatClampNeg)).toNatClampNeg)) = 0 then (0 : Int32) else (1 : Int32)) t6 M
def MD_take (a1 : Int32) (a2 : Int32) (M : Mem) : Option (Int32 × Mem) :=
  b2 (MD_isLake a1 M) fun x1 M2 => (if x1 = 0 then MD_take_J48 a1 a2 x1 M2 else MD_take_J35 a1 a2 (if x1 = 0 then (0 : Int32) else a1) 7 (224 : Int32) 1 (0 : Int64) a2.toInt64 x1 M2)
def MD_balanceOf (a1 : Int32) (M : Mem) : Option Int64 :=
  (if ¬ a1 = 0 then (if ¬ a1 = (1 : Int32) then some (if ¬ a1 = (2 : Int32) then (gL M 1 4) else (gL M 1 3)) else b1 (MD_water M) fun x1 => some x1) else some (gL M 1 5))
def MD_balance (a1 : Int32) (M : Mem) : Option (Int64 × Mem) :=
  b2 (MD_goes (MD_in a1.toInt64 (0 : Int64) (3 : Int64)) (1 : Int32) (1 : Int32) M) fun x1 M2 => (if x1 = 0 then some ((0 : Int64), M2) else b1 (MD_balanceOf a1 M2) fun x3 => some (x3, M2))
def MD_basinsOf_L49 (v1 : Int64) (v3 : Int32) (v4 : Int32) (v5 : Int32) (v6 : Int32) (M : Mem) : Option (((Int32 × Int32) ⊕ (Int32))) :=
  (if v4 ≤ v6 then some (.inr v5) else (if v5 = 0 then some (.inl ((0 : Int32), (v6 + (1 : Int32)))) else (if (MD_has (gL M 1 512) v6) = 0 then some (.inl ((1 : Int32), (v6 + (1 : Int32)))) else ck (inb ((116 : Int32) + v6) 513) <| ck (inb ((116 : Int32) + v4) 513) <| (if (gL M 1 ((116 : Int32) + v6).toNatClampNeg) = (gL M 1 ((116 : Int32) + v4).toNatClampNeg) then some (.inl ((0 : Int32), (v6 + (1 : Int32)))) else some (.inl ((1 : Int32), (v6 + (1 : Int32))))))))
def MD_basinsOf_L5_J44 (v1 : Int64) (v3 : Int32) (v4 : Int32) (t0 : Int32) (M : Mem) : Option (((Int32 × Int32) ⊕ (Int32))) :=
  b1 (lpR (fun s => MD_basinsOf_L49 v1 v3 v4 s.1 s.2 M) FUEL (t0, (0 : Int32))) <| fun e1 => some (.inl ((v3 + (if e1 = 0 then (0 : Int32) else (1 : Int32))), (v4 + (1 : Int32))))
def MD_basinsOf_L5_J43 (v1 : Int64) (v3 : Int32) (v4 : Int32) (M : Mem) : Option (((Int32 × Int32) ⊕ (Int32))) :=
  MD_basinsOf_L5_J44 v1 v3 v4 (0 : Int32) M
def MD_basinsOf_L5 (v1 : Int64) (v3 : Int32) (v4 : Int32) (M : Mem) : Option (((Int32 × Int32) ⊕ (Int32))) :=
  (if (MD_many M) ≤ v4 then some (.inr v3) else MD_basinsOf_L5_J44 v1 v3 v4 (if (MD_has v1 v4) = 0 then (0 : Int32) else (if (MD_has (gL M 1 512) v4) = 0 then (0 : Int32) else (1 : Int32))) M)
def MD_basinsOf (a1 : Int64) (M : Mem) : Option Int32 :=
  b1 (lpR (fun s => MD_basinsOf_L5 a1 s.1 s.2 M) FUEL ((0 : Int32), (0 : Int32))) <| fun e1 => some e1
def MD_lakeValue_J132 (v2 : Int32) (v3 : Int32) (M : Mem) : Option (Int32 × Mem) :=
  b2 (MD_findsPass v3 M) fun x1 M2 => some ((if ¬ v2 = (6 : Int32) then (if ¬ v2 = (7 : Int32) then (gI M2 0 7) else (gI M2 0 6)) else (gI M2 0 8)), M2)
def MD_lakeValue (a1 : Int32) (a2 : Int32) (M : Mem) : Option (Int32 × Mem) :=
  b2 (MD_orders M) fun x1 M2 => ck (inb a1 36) <| ck (inb ((152 : Int32) + (gI M2 7 a1.toNatClampNeg)) 513) <| (if a2 = (0 : Int32) then ck (inb ((224 : Int32) + (gI M2 7 a1.toNatClampNeg)) 513) <| some ((gL M2 1 ((224 : Int32) + (gI M2 7 a1.toNatClampNeg)).toNatClampNeg).toInt32, M2) else (if a2 = (1 : Int32) then b2 (MD_capacity (gI M2 7 a1.toNatClampNeg) M2) fun x3 M4 => some (x3.toInt32, M4) else (if a2 = (2 : Int32) then b1 (MD_lowest (gL M2 1 ((152 : Int32) + (gI M2 7 a1.toNatClampNeg)).toNatClampNeg)) fun x5 => some (x5, M2) else (if a2 = (3 : Int32) then b1 (MD_bits (gL M2 1 ((152 : Int32) + (gI M2 7 a1.toNatClampNeg)).toNatClampNeg)) fun x6 => some (x6, M2) else (if a2 = (4 : Int32) then b2 (MD_wetOf (gL M2 1 ((152 : Int32) + (gI M2 7 a1.toNatClampNeg)).toNatClampNeg) M2) fun x7 M8 => some (x7, M8) else (if a2 = (5 : Int32) then b1 (MD_basinsOf (gL M2 1 ((152 : Int32) + (gI M2 7 a1.toNatClampNeg)).toNatClampNeg) M2) fun x9 => some (x9, M2) else (if a2 = (9 : Int32) then b2 (MD_leastVolume (gI M2 7 a1.toNatClampNeg) M2) fun x10 M11 => some (x10.toInt32, M11) else MD_lakeValue_J132 a2 (gI M2 7 a1.toNatClampNeg) M2)))))))
def MD_lake (a1 : Int32) (a2 : Int32) (M : Mem) : Option (Int32 × Mem) :=
  b2 (MD_isLake a1 M) fun x1 M2 => b2 (MD_goes x1 (MD_in a2.toInt64 (0 : Int64) (9 : Int64)) (1 : Int32) M2) fun x3 M4 => (if x3 = 0 then some ((0 : Int32), M4) else b2 (MD_lakeValue a1 a2 M4) fun x5 M6 => some (x5, M6))
def MD_lakeCells (a1 : Int32) (M : Mem) : Option (Int64 × Mem) :=
  b2 (MD_isLake a1 M) fun x1 M2 => b2 (MD_goes x1 (1 : Int32) (1 : Int32) M2) fun x3 M4 => (if x3 = 0 then some ((0 : Int64), M4) else ck (inb a1 36) <| ck (inb ((152 : Int32) + (gI M4 7 a1.toNatClampNeg)) 513) <| some ((gL M4 1 ((152 : Int32) + (gI M4 7 a1.toNatClampNeg)).toNatClampNeg), M4))
def MD_levelPart (a1 : Int32) (a2 : Int32) (M : Mem) : Option (Int32 × Mem) :=
  b2 (MD_orders M) fun x1 M2 => ck (inb a1 36) <| b2 (MD_levels (gI M2 7 a1.toNatClampNeg) M2) fun x3 M4 => b1 (MD_divisor (gL M4 0 13) (gL M4 0 14)) fun x5 => ck (decide (¬ x5 = 0)) <| some (((if ¬ a2 = 0 then (gL M4 0 14) else (gL M4 0 13)) / x5).toInt32, M4)
def MD_level (a1 : Int32) (a2 : Int32) (M : Mem) : Option (Int32 × Mem) :=
  b2 (MD_isLake a1 M) fun x1 M2 => b2 (MD_goes x1 (MD_in a2.toInt64 (0 : Int64) (1 : Int64)) (1 : Int32) M2) fun x3 M4 => (if x3 = 0 then some ((0 : Int32), M4) else b2 (MD_levelPart a1 a2 M4) fun x5 M6 => some (x5, M6))
def MD_depth (a1 : Int32) (M : Mem) : Option (UInt64 × Mem) :=
  b2 (MD_goes (MD_isCell a1 M) (1 : Int32) (1 : Int32) M) fun x1 M2 => (if x1 = 0 then some (FP.dconst0, M2) else b2 (MD_isWet a1 M2) fun x3 M4 => (if ¬ x3 = 0 then b1 (MD_lakeOf a1 M4) fun x5 => b2 (MD_levels x5 M4) fun x6 M7 => b1 (MD_height a1 M7) fun x8 => b1 (MD_divisor ((gL M7 0 13) - ((gL M7 0 14) * x8.toInt64)) (gL M7 0 14)) fun x9 => ck (decide (¬ x9 = 0)) <| ck (decide (¬ x9 = 0)) <| ck (nn64 (FP.ddiv (FP.l2d (((gL M7 0 13) - ((gL M7 0 14) * x8.toInt64)) / x9)) (FP.l2d ((gL M7 0 14) / x9)))) <| some ((FP.ddiv (FP.l2d (((gL M7 0 13) - ((gL M7 0 14) * x8.toInt64)) / x9)) (FP.l2d ((gL M7 0 14) / x9))), M7) else some (FP.dconst0, M4)))
def MD_deepest_L15_J82 (v6 : Int32) (v7 : Int64) (M : Mem) : Option (((Int32 × Int64 × Int64 × Int32) ⊕ (Int32)) × Mem) :=
  some (.inl (v6, v7, (gL M 0 14), (v6 + (1 : Int32))), M)
def MD_deepest_L15 (v1 : Int32) (v2 : Int64) (v4 : Int64) (v6 : Int32) (M : Mem) : Option (((Int32 × Int64 × Int64 × Int32) ⊕ (Int32)) × Mem) :=
  (if (MD_many M) ≤ v6 then some (.inr v1, M) else b2 (MD_isWet v6 M) fun x1 M2 => (if x1 = 0 then some (.inl (v1, v2, v4, (v6 + (1 : Int32))), M2) else b1 (MD_lakeOf v6 M2) fun x3 => b2 (MD_levels x3 M2) fun x4 M5 => b1 (MD_height v6 M5) fun x6 => some (.inl ((if v1 = (-1 : Int32) then v6 else (if (((gL M5 0 13) - ((gL M5 0 14) * x6.toInt64)) * v4) ≤ (v2 * (gL M5 0 14)) then v1 else v6)), (if v1 = (-1 : Int32) then ((gL M5 0 13) - ((gL M5 0 14) * x6.toInt64)) else (if (((gL M5 0 13) - ((gL M5 0 14) * x6.toInt64)) * v4) ≤ (v2 * (gL M5 0 14)) then v2 else ((gL M5 0 13) - ((gL M5 0 14) * x6.toInt64)))), (if v1 = (-1 : Int32) then (gL M5 0 14) else (if (((gL M5 0 13) - ((gL M5 0 14) * x6.toInt64)) * v4) ≤ (v2 * (gL M5 0 14)) then v4 else (gL M5 0 14))), (v6 + (1 : Int32))), M5)))
def MD_deepest (M : Mem) : Option (Int32 × Mem) :=
  b2 (lpM (fun s M9 => MD_deepest_L15 s.1 s.2.1 s.2.2.1 s.2.2.2 M9) FUEL ((-1 : Int32), (0 : Int64), (1 : Int64), (0 : Int32)) (sI M 0 4 (0 : Int32))) <| fun e1 M2 => some (e1, M2)
def MD_course_L49 (v4 : Int64) (v6 : Int32) (M : Mem) : Option (((Int64 × Int32) ⊕ (Int64))) :=
  (if v6 = (-1 : Int32) then some (.inr v4) else b1 (MD_plain v6 M) fun x1 => (if (x1 &&& (gL M 1 2)) = (0 : Int64) then b1 (MD_way x1 M) fun x2 => some (.inl ((v4 ||| x1), x2)) else some (.inl ((v4 ||| x1), (-1 : Int32)))))
def MD_course_J47 (v4 : Int64) (t0 : Int32) (M : Mem) : Option (Int64 × Mem) :=
  b1 (lpR (fun s => MD_course_L49 s.1 s.2 M) FUEL (v4, t0)) <| fun e1 => some (e1, M)
def MD_course (a1 : Int32) (M : Mem) : Option (Int64 × Mem) :=
  b2 (MD_goes (MD_isCell a1 M) (1 : Int32) (1 : Int32) M) fun x1 M2 => (if ¬ x1 = 0 then b1 (MD_plain a1 M2) fun x3 => (if (x3 &&& (gL M2 1 2)) = (0 : Int64) then b1 (MD_way x3 M2) fun x4 => MD_course_J47 x3 x4 M2 else MD_course_J47 x3 (-1 : Int32) M2) else some ((0 : Int64), M2))
def MD_wets (a1 : Int32) (a2 : Int32) (a3 : Int32) (M : Mem) : Option (Int32 × Mem) :=
  b2 (MD_lays M) fun x1 M2 => b2 (MD_pours a1 a3.toInt64 M2) fun x3 M4 => b2 (MD_isWet a2 M4) fun x5 M6 => b2 (MD_takesBack M6) fun x7 M8 => some ((x5 &&& 1), M8)
def MD_amountFor_L63_J101 (v1 : Int32) (v2 : Int32) (v3 : Int32) (v5 : Int32) (v6 : Int32) (t0 : Int32) (M : Mem) : Option (((Int32 × Int32) ⊕ (Int32)) × Mem) :=
  some (.inl ((if v6 = 0 then v5 else v3), t0), M)
def MD_amountFor_L63 (v1 : Int32) (v2 : Int32) (v3 : Int32) (v4 : Int32) (M : Mem) : Option (((Int32 × Int32) ⊕ (Int32)) × Mem) :=
  (if (v4 - v3) ≤ (1 : Int32) then some (.inr v4, M) else b2 (MD_wets v1 v2 ((v4 + v3) / (2 : Int32)) M) fun x1 M2 => MD_amountFor_L63_J101 v1 v2 v3 ((v4 + v3) / (2 : Int32)) x1 (if x1 = 0 then v4 else ((v4 + v3) / (2 : Int32))) M2)
def MD_amountFor_J22 (v1 : Int32) (v2 : Int32) (t0 : Int32) (M : Mem) : Option (Int32 × Mem) :=
  b2 (MD_goes t0 (1 : Int32) (1 : Int32) M) fun x1 M2 => (if ¬ x1 = 0 then b2 (MD_isWet v2 M2) fun x3 M4 => (if x3 = 0 then b2 (MD_wets v1 v2 (100000 : Int32) M4) fun x5 M6 => (if ¬ x5 = 0 then b2 (lpM (fun s M9 => MD_amountFor_L63 v1 v2 s.1 s.2 M9) FUEL ((0 : Int32), (100000 : Int32)) M6) <| fun e7 M8 => some (e7, M8) else some ((-1 : Int32), M6)) else some ((0 : Int32), M4)) else some ((0 : Int32), M2))
def MD_amountFor_J21 (v1 : Int32) (v2 : Int32) (M : Mem) : Option (Int32 × Mem) :=
  MD_amountFor_J22 v1 v2 (0 : Int32) M
def MD_amountFor (a1 : Int32) (a2 : Int32) (M : Mem) : Option (Int32 × Mem) :=
  MD_amountFor_J22 a1 a2 (if (MD_isCell a1 M) = 0 then (0 : Int32) else (if (MD_isCell a2 M) = 0 then (0 : Int32) else (1 : Int32))) M
def MD_lakesAfter_L6 (v1 : Int32) (v2 : Int32) (M : Mem) : Option (((Int32) ⊕ (Unit)) × Mem) :=
  (if (MD_many M) ≤ v2 then some (.inr (), M) else b2 (MD_pours v2 v1.toInt64 M) fun x1 M2 => some (.inl (v2 + (1 : Int32)), M2))
def MD_lakesAfter (a1 : Int32) (M : Mem) : Option (Int32 × Mem) :=
  b2 (MD_lays M) fun x1 M2 => b2 (lpM (fun s M9 => MD_lakesAfter_L6 a1 s M9) FUEL (0 : Int32) M2) <| fun e3 M4 => b2 (MD_orders M4) fun x5 M6 => b2 (MD_takesBack M6) fun x7 M8 => some ((gI M6 0 12), M8)
def MD_rainToJoin_L16 (v1 : Int32) (v2 : Int32) (M : Mem) : Option (((Int32) ⊕ ((Unit) ⊕ Int32)) × Mem) :=
  (if (40 : Int32) < v2 then some (.inr (.inl ()), M) else b2 (MD_lakesAfter v2 M) fun x1 M2 => (if v1 ≤ x1 then some (.inl (v2 + (1 : Int32)), M2) else some (.inr (.inr v2), M2)))
def MD_rainToJoin (M : Mem) : Option (Int32 × Mem) :=
  b2 (MD_orders (sI M 0 4 (0 : Int32))) fun x1 M2 => b2 (lpM (fun s M9 => MD_rainToJoin_L16 (gI M2 0 12) s M9) FUEL (1 : Int32) M2) <| fun e3 M4 => e3.elim (fun e5 => some ((-1 : Int32), M4)) (fun r8 => some (r8, M4))
def MD_withoutGate (a1 : Int32) (a2 : Int32) (M : Mem) : Option (Int32 × Mem) :=
  b1 (MD_isPair a1 a2 M) fun x1 => b2 (MD_goes x1 (1 : Int32) (1 : Int32) M) fun x2 M3 => (if ¬ x2 = 0 then b2 (MD_wet M3) fun x4 M5 => b2 (MD_lays M5) fun x6 M7 => b2 (MD_remembers M7) fun x8 M9 => b1 (MD_gateAt a1 a2 M9) fun x10 => ck (inb x10 513) <| b2 (MD_changes (sL M9 1 x10.toNatClampNeg (-1 : Int64))) fun x11 M12 => b2 (MD_wet M12) fun x13 M14 => b2 (MD_takesBack M14) fun x15 M16 => some ((x13 - x4), M16) else some ((0 : Int32), M3))
def MD_append_J25 (v1 : Int32) (t0 : Int32) (t1 : Int32) (M : Mem) : Option (Int32 × Mem) :=
  b2 (MD_goes t1 t0 (1 : Int32) M) fun x1 M2 => (if ¬ x1 = 0 then ck (inb (gI M2 0 21) 150) <| some ((gI (sI (sI M2 12 (gI M2 0 21).toNatClampNeg v1) 0 21 ((gI (sI M2 12 (gI M2 0 21).toNatClampNeg v1) 0 21) + (1 : Int32))) 0 21), (sI (sI M2 12 (gI M2 0 21).toNatClampNeg v1) 0 21 ((gI (sI M2 12 (gI M2 0 21).toNatClampNeg v1) 0 21) + (1 : Int32)))) else some ((0 : Int32), M2))
def MD_append (a1 : Int32) (M : Mem) : Option (Int32 × Mem) :=
  MD_append_J25 a1 (if (150 : Int32) ≤ (gI M 0 21) then (0 : Int32) else (1 : Int32)) (MD_in a1.toInt64 (0 : Int64) (127 : Int64)) M
def MD_clearText (M : Mem) : Option (Int32 × Mem) :=
  some ((gI (sI M 0 4 (0 : Int32)) 0 21), (sI (sI M 0 4 (0 : Int32)) 0 21 (0 : Int32)))
def MD_isFigure (M : Mem) : Option Int32 :=
  (if (gI M 0 21) ≤ (gI M 0 22) then some (0 : Int32) else ck (inb (gI M 0 22) 150) <| some ((if (MD_in ((gI M 12 (gI M 0 22).toNatClampNeg).toInt64) (48 : Int64) (57 : Int64)) = 0 then (0 : Int32) else (1 : Int32)) &&& 1))
def MD_passes_J29 (t0 : Int32) (M : Mem) : Option (Int32 × Mem) :=
  some ((t0 &&& 1), (sI M 0 22 ((gI M 0 22) + (if t0 = 0 then (0 : Int32) else (1 : Int32)))))
def MD_passes_J28 (M : Mem) : Option (Int32 × Mem) :=
  MD_passes_J29 (0 : Int32) M
def MD_passes (a1 : Int32) (M : Mem) : Option (Int32 × Mem) :=
  (if (gI M 0 21) ≤ (gI M 0 22) then MD_passes_J28 M else ck (inb (gI M 0 22) 150) <| MD_passes_J29 (if ¬ (gI M 12 (gI M 0 22).toNatClampNeg) = a1 then (0 : Int32) else (1 : Int32)) M)
def MD_readsSize_J60 (v1 : Int32) (t0 : Int32) (M : Mem) : Option (Int32 × Mem) :=
  some ((v1 &&& 1), (sI (sI M 0 23 t0) 0 22 ((gI (sI M 0 23 t0) 0 22) + (if v1 = 0 then (0 : Int32) else (1 : Int32)))))
def MD_readsSize_J38 (t0 : Int32) (M : Mem) : Option (Int32 × Mem) :=
  (if t0 = 0 then MD_readsSize_J60 t0 (0 : Int32) M else ck (inb (gI M 0 22) 150) <| MD_readsSize_J60 t0 ((gI M 12 (gI M 0 22).toNatClampNeg) - (48 : Int32)) M)
def MD_readsSize_J37 (M : Mem) : Option (Int32 × Mem) :=
  MD_readsSize_J38 (0 : Int32) M
def MD_readsSize (M : Mem) : Option (Int32 × Mem) :=
  (if (gI M 0 21) ≤ (gI M 0 22) then MD_readsSize_J37 M else ck (inb (gI M 0 22) 150) <| MD_readsSize_J38 (if (MD_in ((gI M 12 (gI M 0 22).toNatClampNeg).toInt64) (49 : Int64) (54 : Int64)) = 0 then (0 : Int32) else (1 : Int32)) M)
def MD_readsNumber_L10 (v1 : Int32) (M : Mem) : Option (((Unit) ⊕ (Unit)) × Mem) :=
  b1 (MD_isFigure M) fun x1 => (if x1 = 0 then some (.inr (), M) else (if (v1 + (2 : Int32)) ≤ (gI M 0 22) then some (.inr (), M) else ck (inb (gI M 0 22) 150) <| some (.inl (), (sI (sI M 0 23 ((((10 : Int32) * (gI M 0 23)) + (gI M 12 (gI M 0 22).toNatClampNeg)) - (48 : Int32))) 0 22 ((gI (sI M 0 23 ((((10 : Int32) * (gI M 0 23)) + (gI M 12 (gI M 0 22).toNatClampNeg)) - (48 : Int32))) 0 22) + (1 : Int32))))))
def MD_readsNumber (M : Mem) : Option (Int32 × Mem) :=
  b2 (lpM (fun s M9 => MD_readsNumber_L10 (gI M 0 22) M9) FUEL () (sI M 0 23 (0 : Int32))) <| fun e1 M2 => (if (gI M2 0 22) ≤ (gI M 0 22) then some ((0 : Int32), M2) else b1 (MD_isFigure M2) fun x3 => some (((if ¬ x3 = 0 then (0 : Int32) else (1 : Int32)) &&& 1), M2))
def MD_readsCell_J47 (v2 : Int32) (t0 : Int32) (M : Mem) : Option (Int32 × Mem) :=
  some ((t0 &&& 1), (sI M 0 22 (if t0 = 0 then v2 else (gI M 0 22))))
def MD_readsCell_J46 (v2 : Int32) (M : Mem) : Option (Int32 × Mem) :=
  MD_readsCell_J47 v2 (0 : Int32) M
def MD_readsCell_J42 (v2 : Int32) (M : Mem) : Option (Int32 × Mem) :=
  MD_readsCell_J47 v2 (1 : Int32) M
def MD_readsCell (a1 : Int32) (M : Mem) : Option (Int32 × Mem) :=
  b2 (MD_readsNumber M) fun x1 M2 => (if ¬ x1 = 0 then (if (MD_isCell (gI M2 0 23) M2) = 0 then MD_readsCell_J46 (gI M 0 22) M2 else (if a1 = (-1 : Int32) then MD_readsCell_J42 (gI M 0 22) M2 else b1 (MD_areNeighbors a1 (gI M2 0 23) M2) fun x3 => MD_readsCell_J47 (gI M 0 22) (if x3 = 0 then (0 : Int32) else (1 : Int32)) M2)) else some ((0 : Int32), M2))
def MD_readsGate (M : Mem) : Option (Int32 × Mem) :=
  b2 (MD_readsCell (-1 : Int32) M) fun x1 M2 => (if ¬ x1 = 0 then b2 (MD_passes (44 : Int32) M2) fun x3 M4 => (if x3 = 0 then some ((0 : Int32), M4) else b2 (MD_readsCell (gI M2 0 23) M4) fun x5 M6 => (if ¬ x5 = 0 then b2 (MD_passes (44 : Int32) M6) fun x7 M8 => (if x7 = 0 then some ((0 : Int32), M8) else b2 (MD_readsNumber M8) fun x9 M10 => (if ¬ x9 = 0 then b1 (MD_gateAt (gI M2 0 23) (gI M6 0 23) M10) fun x11 => ck (inb x11 513) <| some ((1 : Int32), (sL M10 1 x11.toNatClampNeg ((gI M10 0 23).toInt64))) else some ((0 : Int32), M10))) else some ((0 : Int32), M6))) else some ((0 : Int32), M2))
def MD_readsDrain (M : Mem) : Option (Int32 × Mem) :=
  b2 (MD_readsCell (-1 : Int32) M) fun x1 M2 => some ((x1 &&& 1), (sL M2 1 2 ((gL M2 1 2) ||| (if x1 = 0 then (0 : Int64) else (lsh (1 : Int64) (gI M2 0 23))))))
def MD_readsHeights_L2_J23 (v1 : Int32) (M : Mem) : Option (((Int32) ⊕ ((Unit) ⊕ Int32)) × Mem) :=
  b2 (MD_readsNumber M) fun x1 M2 => (if ¬ x1 = 0 then ck (inb ((8 : Int32) + v1) 513) <| some (.inl (v1 + (1 : Int32)), (sL M2 1 ((8 : Int32) + v1).toNatClampNeg ((gI M2 0 23).toInt64))) else some (.inr (.inr (0 : Int32)), M2))
def MD_readsHeights_L2 (v1 : Int32) (M : Mem) : Option (((Int32) ⊕ ((Unit) ⊕ Int32)) × Mem) :=
  (if (MD_many M) ≤ v1 then some (.inr (.inl ()), M) else (if v1 ≤ 0 then MD_readsHeights_L2_J23 v1 M else b2 (MD_passes (44 : Int32) M) fun x1 M2 => (if x1 = 0 then some (.inr (.inr (0 : Int32)), M2) else MD_readsHeights_L2_J23 v1 M2)))
def MD_readsHeights (M : Mem) : Option (Int32 × Mem) :=
  b2 (lpM (fun s M9 => MD_readsHeights_L2 s M9) FUEL (0 : Int32) M) <| fun e1 M2 => e1.elim (fun e3 => some ((1 : Int32), M2)) (fun r8 => some (r8, M2))
def MD_reads_L55_J114 (t0 : Int32) (M : Mem) : Option (((Unit) ⊕ ((Unit) ⊕ Int32)) × Mem) :=
  (if ¬ t0 = 0 then some (.inl (), M) else some (.inr (.inr (0 : Int32)), M))
def MD_reads_L55_J113 (M : Mem) : Option (((Unit) ⊕ ((Unit) ⊕ Int32)) × Mem) :=
  MD_reads_L55_J114 (0 : Int32) M
def MD_reads_L55 (M : Mem) : Option (((Unit) ⊕ ((Unit) ⊕ Int32)) × Mem) :=
  (if (gI M 0 21) ≤ (gI M 0 22) then some (.inr (.inl ()), M) else b2 (MD_passes (59 : Int32) M) fun x1 M2 => (if ¬ x1 = 0 then b2 (MD_passes (100 : Int32) M2) fun x3 M4 => (if x3 = 0 then b2 (MD_passes (103 : Int32) M4) fun x5 M6 => (if x5 = 0 then MD_reads_L55_J113 M6 else b2 (MD_readsGate M6) fun x7 M8 => MD_reads_L55_J114 (if x7 = 0 then (0 : Int32) else (1 : Int32)) M8) else b2 (MD_readsDrain M4) fun x9 M10 => MD_reads_L55_J114 x9 M10) else some (.inr (.inr (0 : Int32)), M2)))
def MD_reads (M : Mem) : Option (Int32 × Mem) :=
  b2 (MD_readsSize (sI M 0 22 (0 : Int32))) fun x1 M2 => (if ¬ x1 = 0 then b2 (MD_readsSize M2) fun x3 M4 => (if ¬ x3 = 0 then b2 (MD_begins (gI M2 0 23) (gI M4 0 23) M4) fun x5 M6 => b2 (MD_passes (58 : Int32) M6) fun x7 M8 => (if x7 = 0 then some ((0 : Int32), M8) else b2 (MD_readsHeights M8) fun x9 M10 => (if ¬ x9 = 0 then b2 (lpM (fun s M9 => MD_reads_L55 M9) FUEL () M10) <| fun e11 M12 => e11.elim (fun e13 => some ((1 : Int32), M12)) (fun r8 => some (r8, M12)) else some ((0 : Int32), M10))) else some ((0 : Int32), M4)) else some ((0 : Int32), M2))
def MD_parse_L36 (v2 : Int32) (M : Mem) : Option (((Int32) ⊕ (Unit)) × Mem) :=
  (if (513 : Int32) ≤ v2 then some (.inr (), M) else ck (inb v2 513) <| ck (inb v2 513) <| ck (inb v2 513) <| ck (inb v2 513) <| some (.inl (v2 + (1 : Int32)), (sL (sL M 1 v2.toNatClampNeg (gL M 3 v2.toNatClampNeg)) 3 v2.toNatClampNeg (gL M 1 v2.toNatClampNeg))))
def MD_parse (M : Mem) : Option (Int32 × Mem) :=
  b2 (MD_lays (sI M 0 4 (0 : Int32))) fun x1 M2 => b2 (MD_reads M2) fun x3 M4 => (if ¬ x3 = 0 then b2 (MD_finds M4) fun x5 M6 => b2 (lpM (fun s M9 => MD_parse_L36 s M9) FUEL (0 : Int32) M6) <| fun e7 M8 => b2 (MD_save M8) fun x9 M10 => b2 (MD_takesBack M10) fun x11 M12 => some ((gL M12 1 6).toInt32, M12) else b2 (MD_takesBack M4) fun x13 M14 => some (((-10 : Int32) - (gI M14 0 22)), M14))
def MD_undo_L35 (v1 : Int32) (M : Mem) : Option (((Int32) ⊕ (Unit)) × Mem) :=
  (if (513 : Int32) ≤ v1 then some (.inr (), M) else ck (inb (((513 : Int32) * (gI M 0 3)) + v1) 2052) <| ck (inb v1 513) <| some (.inl (v1 + (1 : Int32)), (sL M 1 v1.toNatClampNeg (gL M 2 (((513 : Int32) * (gI M 0 3)) + v1).toNatClampNeg))))
def MD_undo_J13 (t0 : Int32) (M : Mem) : Option (Int32 × Mem) :=
  b2 (MD_goes t0 (1 : Int32) (1 : Int32) M) fun x1 M2 => (if ¬ x1 = 0 then b2 (lpM (fun s M9 => MD_undo_L35 s M9) FUEL (0 : Int32) (sI M2 0 3 ((gI M2 0 3) - (1 : Int32)))) <| fun e3 M4 => some ((gI M4 0 3), M4) else some ((0 : Int32), M2))
def MD_undo (M : Mem) : Option (Int32 × Mem) :=
  MD_undo_J13 (if (gI M 0 3) ≤ 0 then (0 : Int32) else (1 : Int32)) M
def MD_sums (a0 : Int64) (a2 : Int64) : Int64 :=
  (((31 : Int64) * a0) + a2)
def MD_digest_L19 (v1 : Int64) (v3 : Int32) (M : Mem) : Option (((Int64 × Int32) ⊕ (Int64)) × Mem) :=
  (if (7 : Int32) ≤ v3 then some (.inr v1, M) else b2 (MD_countOf v3 M) fun x1 M2 => some (.inl ((MD_sums v1 x1.toInt64), (v3 + (1 : Int32))), M2))
def MD_digest_L55 (v3 : Int32) (v1 : Int64) (v4 : Int32) (M : Mem) : Option (((Int64 × Int32) ⊕ (Int64)) × Mem) :=
  (if (6 : Int32) ≤ v4 then some (.inr v1, M) else b2 (MD_cellValue v3 v4 M) fun x1 M2 => some (.inl ((MD_sums v1 x1.toInt64), (v4 + (1 : Int32))), M2))
def MD_digest_L44 (v1 : Int64) (v3 : Int32) (M : Mem) : Option (((Int64 × Int32) ⊕ (Int64)) × Mem) :=
  (if (MD_many M) ≤ v3 then some (.inr v1, M) else b2 (lpM (fun s M9 => MD_digest_L55 v3 s.1 s.2 M9) FUEL (v1, (0 : Int32)) M) <| fun e1 M2 => some (.inl (e1, (v3 + (1 : Int32))), M2))
def MD_digest_L108 (v3 : Int32) (v4 : Int32) (v1 : Int64) (v5 : Int32) (M : Mem) : Option (((Int64 × Int32) ⊕ (Int64)) × Mem) :=
  (if (10 : Int32) ≤ v5 then some (.inr v1, M) else b2 (MD_lakeValue v4 v5 M) fun x1 M2 => some (.inl ((MD_sums v1 x1.toInt64), (v5 + (1 : Int32))), M2))
def MD_digest_L99 (v3 : Int32) (v1 : Int64) (v4 : Int32) (M : Mem) : Option (((Int64 × Int32) ⊕ (Int64)) × Mem) :=
  (if v3 ≤ v4 then some (.inr v1, M) else b2 (lpM (fun s M9 => MD_digest_L108 v3 v4 s.1 s.2 M9) FUEL (v1, (0 : Int32)) M) <| fun e1 M2 => ck (inb v4 36) <| ck (inb ((152 : Int32) + (gI M2 7 v4.toNatClampNeg)) 513) <| b2 (MD_levelPart v4 (0 : Int32) M2) fun x3 M4 => b2 (MD_levelPart v4 (1 : Int32) M4) fun x5 M6 => some (.inl ((MD_sums (MD_sums (MD_sums e1 (gL M2 1 ((152 : Int32) + (gI M2 7 v4.toNatClampNeg)).toNatClampNeg)) x3.toInt64) x5.toInt64), (v4 + (1 : Int32))), M6))
def MD_digest_L189 (v1 : Int64) (v4 : Int32) (M : Mem) : Option (((Int64 × Int32) ⊕ (Int64))) :=
  (if (4 : Int32) ≤ v4 then some (.inr v1) else b1 (MD_balanceOf v4 M) fun x1 => some (.inl ((MD_sums v1 x1), (v4 + (1 : Int32)))))
def MD_digest (M : Mem) : Option (Int64 × Mem) :=
  b2 (lpM (fun s M9 => MD_digest_L19 s.1 s.2 M9) FUEL ((MD_sums (3049 : Int64) ((gI (sI M 0 4 (0 : Int32)) 0 21).toInt64)), (0 : Int32)) (sI M 0 4 (0 : Int32))) <| fun e1 M2 => b2 (lpM (fun s M9 => MD_digest_L44 s.1 s.2 M9) FUEL (e1, (0 : Int32)) M2) <| fun e3 M4 => b2 (MD_orders M4) fun x5 M6 => b2 (lpM (fun s M9 => MD_digest_L99 (gI M6 0 12) s.1 s.2 M9) FUEL (e3, (0 : Int32)) M6) <| fun e7 M8 => b1 (lpR (fun s => MD_digest_L189 s.1 s.2 M8) FUEL (e7, (0 : Int32))) <| fun e9 => some ((MD_sums e9 ((gI M8 0 3).toInt64)), M8)
