/-! methods that may throw, by program: what they do, and that the bytecode does so -/
def bx {α β : Type} (x : Option ((α ⊕ Nat) × Mem)) (f : α → Mem → Option ((β ⊕ Nat) × Mem)) : Option ((β ⊕ Nat) × Mem) := x.bind (fun q => match q.1 with
  | .inl v => f v q.2
  | .inr k => some (.inr k, q.2))
theorem bx_some {α β : Type} {x : Option ((α ⊕ Nat) × Mem)} {f : α → Mem → Option ((β ⊕ Nat) × Mem)} {res : β ⊕ Nat} {M1 : Mem} (h : bx x f = some (res, M1)) : ∃ r M2, x = some (r, M2) ∧ (∀ k, r = .inr k → res = .inr k ∧ M2 = M1) ∧ (∀ v, r = .inl v → f v M2 = some (res, M1)) := by
  obtain ⟨⟨r, M2⟩, h1, h2⟩ := Option.bind_eq_some_iff.mp h
  refine ⟨r, M2, h1, fun k hk => ?_, fun v hv => ?_⟩
  · subst hk
    obtain ⟨h3, h4⟩ := si2 h2
    exact ⟨h3.symm, h4⟩
  · subst hv
    exact h2
def LL_needCell (a1 : Int32) (M : Mem) : Option ((Unit ⊕ Nat) × Mem) :=
  (if ¬ (GR_exists 2 a1 M) = 0 then some (.inl (), M) else some (.inr 1, M))
def LL_needNeighbors (a1 : Int32) (a2 : Int32) (M : Mem) : Option ((Unit ⊕ Nat) × Mem) :=
  b1 (GR_sideTo 2 a1 a2 M) fun x1 => (if ¬ x1 = (-1 : Int32) then some (.inl (), M) else some (.inr 1, M))
def LL_needLake (a1 : Int32) (M : Mem) : Option ((Int32 ⊕ Nat) × Mem) :=
  b1 (LK_placeOf 20 a1 M) fun x1 => (if ¬ x1 = (-1 : Int32) then some (.inl x1, M) else some (.inr 1, M))
def LL_needRoom (a1 : Int32) (M : Mem) : Option ((Unit ⊕ Nat) × Mem) :=
  b1 (LK_water 20 M) fun x1 => (if (x1 + a1) ≤ (1000000 : Int32) then some (.inl (), M) else some (.inr 3, M))
def LL_needWithin (a0 : Int32) (a1 : Int32) (a2 : Int32) (M : Mem) : Option ((Unit ⊕ Nat) × Mem) :=
  (if a0 < a1 then some (.inr 2, M) else (if a0 ≤ a2 then some (.inl (), M) else some (.inr 2, M)))
def LL_begin (a1 : Int32) (a2 : Int32) (M : Mem) : Option ((Int32 ⊕ Nat) × Mem) :=
  bx (LL_needWithin a1 (1 : Int32) (6 : Int32) M) fun _ M2 => bx (LL_needWithin a2 (1 : Int32) (6 : Int32) M2) fun _ M4 => b2 (LL_save M4) fun x5 M6 => b2 (GR_lay 2 a1 a2 M6) fun x7 M8 => b2 (WD_restart 1 M8) fun x9 M10 => some (.inl (gI M10 2 2), M10)
def LL_setHeight (a1 : Int32) (a2 : Int32) (M : Mem) : Option ((Int32 ⊕ Nat) × Mem) :=
  bx (LL_needCell a1 M) fun _ M2 => bx (LL_needWithin a2 (0 : Int32) (99 : Int32) M2) fun _ M4 => b2 (LL_save M4) fun x5 M6 => b2 (WD_noteLakes 1 M6) fun x7 M8 => b2 (WD_renew 1 (fPutI 3 a1 a2 M8)) fun x9 M10 => some (.inl (fAtI 3 a1 M4), M10)
def LL_setDrain (a1 : Int32) (a2 : Int32) (M : Mem) : Option ((Int32 ⊕ Nat) × Mem) :=
  bx (LL_needCell a1 M) fun _ M2 => b2 (LL_save M2) fun x3 M4 => b2 (WD_noteLakes 1 M4) fun x5 M6 => b2 (GR_putDrain 2 a1 a2 M6) fun x7 M8 => b2 (WD_renew 1 M8) fun x9 M10 => some (.inl ((LL_has (gL M2 2 3) a1) &&& 1), M10)
def LL_setGate (a1 : Int32) (a2 : Int32) (a3 : Int32) (M : Mem) : Option ((Int32 ⊕ Nat) × Mem) :=
  bx (LL_needNeighbors a1 a2 M) fun _ M2 => bx (LL_needWithin a3 (-1 : Int32) (99 : Int32) M2) fun _ M4 => b1 (GR_sideTo 2 a1 a2 M4) fun x5 => b2 (LL_save M4) fun x6 M7 => b2 (WD_noteLakes 1 M7) fun x8 M9 => b2 (GR_putGate 2 a1 a2 a3 M9) fun x10 M11 => b2 (WD_renew 1 M11) fun x12 M13 => some (.inl (fAtI 7 x5 M4), M13)
def LL_random (a1 : Int32) (a2 : Int32) (M : Mem) : Option ((Int32 ⊕ Nat) × Mem) :=
  bx (LL_needWithin a1 (0 : Int32) (999999 : Int32) M) fun _ M2 => bx (LL_needWithin a2 (0 : Int32) (99 : Int32) M2) fun _ M4 => b2 (LL_save M4) fun x5 M6 => b2 (WD_noteLakes 1 M6) fun x7 M8 => b2 (GR_scatter 2 a1 a2 M8) fun x9 M10 => b2 (WD_renew 1 M10) fun x11 M12 => some (.inl (gI M12 13 0), M12)
def LL_cell (a1 : Int32) (a2 : Int32) (M : Mem) : Option ((Int32 ⊕ Nat) × Mem) :=
  bx (LL_needCell a1 M) fun _ M2 => bx (LL_needWithin a2 (0 : Int32) (5 : Int32) M2) fun _ M4 => b1 (LL_cellValue a1 a2 M4) fun x5 => some (.inl x5, M4)
def LL_between (a1 : Int32) (a2 : Int32) (a3 : Int32) (M : Mem) : Option ((Int32 ⊕ Nat) × Mem) :=
  bx (LL_needNeighbors a1 a2 M) fun _ M2 => b1 (GR_sideTo 2 a1 a2 M2) fun x3 => some (.inl (if a3 = 0 then (fAtI 7 x3 M2) else (fAtI 9 x3 M2)), M2)
def LL_count (a1 : Int32) (M : Mem) : Option ((Int32 ⊕ Nat) × Mem) :=
  bx (LL_needWithin a1 (0 : Int32) (6 : Int32) M) fun _ M2 => b1 (LL_countValue a1 M2) fun x3 => some (.inl x3, M2)
def LL_pour (a1 : Int32) (a2 : Int32) (M : Mem) : Option ((Int32 ⊕ Nat) × Mem) :=
  bx (LL_needCell a1 M) fun _ M2 => bx (LL_needWithin a2 (0 : Int32) (100000 : Int32) M2) fun _ M4 => bx (LL_needRoom a2 M4) fun _ M6 => b2 (LL_save M6) fun x7 M8 => b2 (WD_pourAt 1 a1 a2 (sL M8 1 3 ((gL M8 1 3) + a2.toInt64))) fun x9 M10 => some (.inl x9, M10)
def LL_rain (a1 : Int32) (M : Mem) : Option ((Int32 ⊕ Nat) × Mem) :=
  bx (LL_needWithin a1 (0 : Int32) (1000 : Int32) M) fun _ M2 => bx (LL_needRoom (a1 * (gI M2 2 2)) M2) fun _ M4 => b2 (LL_save M4) fun x5 M6 => b2 (WD_pourAtAll 1 a1 (sL M6 1 3 ((gL M6 1 3) + ((a1 * (gI M6 2 2)).toInt64)))) fun x7 M8 => some (.inl x7, M8)
def LL_evaporate (a1 : Int32) (M : Mem) : Option ((Int32 ⊕ Nat) × Mem) :=
  bx (LL_needWithin a1 (0 : Int32) (100 : Int32) M) fun _ M2 => b2 (LL_save M2) fun x3 M4 => b2 (WD_dry 1 a1 M4) fun x5 M6 => some (.inl x5, M6)
def LL_take (a1 : Int32) (a2 : Int32) (M : Mem) : Option ((Int32 ⊕ Nat) × Mem) :=
  bx (LL_needLake a1 M) fun x3 M2 => bx (LL_needWithin a2 (0 : Int32) (fAtI 23 x3 M2) M2) fun _ M5 => b2 (LL_save M5) fun x6 M7 => b2 (LK_draw 20 x3 a2 M7) fun x8 M9 => b1 (LK_total 20 (sL M9 1 5 ((gL M9 1 5) + a2.toInt64))) fun x10 => some (.inl x10, (sL M9 1 5 ((gL M9 1 5) + a2.toInt64)))
def LL_balance (a1 : Int32) (M : Mem) : Option ((Int64 ⊕ Nat) × Mem) :=
  bx (LL_needWithin a1 (0 : Int32) (3 : Int32) M) fun _ M2 => b1 (LL_balanceValue a1 M2) fun x3 => some (.inl x3, M2)
def LL_lake (a1 : Int32) (a2 : Int32) (M : Mem) : Option ((Int32 ⊕ Nat) × Mem) :=
  bx (LL_needLake a1 M) fun x3 M2 => bx (LL_needWithin a2 (0 : Int32) (9 : Int32) M2) fun _ M5 => b1 (LL_lakeValue x3 a2 M5) fun x6 => some (.inl x6, M5)
def LL_lakeCells (a1 : Int32) (M : Mem) : Option ((Int64 ⊕ Nat) × Mem) :=
  bx (LL_needLake a1 M) fun x3 M2 => some (.inl (fAtL 21 x3 M2), M2)
def LL_level (a1 : Int32) (a2 : Int32) (M : Mem) : Option ((Int32 ⊕ Nat) × Mem) :=
  bx (LL_needLake a1 M) fun x3 M2 => bx (LL_needWithin a2 (0 : Int32) (1 : Int32) M2) fun _ M5 => b1 (LL_levelPart x3 a2 M5) fun x6 => some (.inl x6, M5)
def LL_depth (a1 : Int32) (M : Mem) : Option ((UInt64 ⊕ Nat) × Mem) :=
  bx (LL_needCell a1 M) fun _ M2 => b1 (LL_depthValue a1 M2) fun x3 => some (.inl x3, M2)
def LL_course (a1 : Int32) (M : Mem) : Option ((Int64 ⊕ Nat) × Mem) :=
  bx (LL_needCell a1 M) fun _ M2 => b1 (WY_courseFrom 13 a1 M2) fun x3 => some (.inl x3, M2)
def LL_amountFor_L44 (v1 : Int32) (v2 : Int32) (v3 : Int32) (v4 : Int32) (v5 : Int32) (M : Mem) : Option (((Int32 × Int32 × Int32) ⊕ (Int32)) × Mem) :=
  (if (100000 : Int32) ≤ v5 then some (.inr v4, M) else (if (v4 - v3) ≤ (1 : Int32) then some (.inr v4, M) else b2 (LL_wouldBeWet v1 ((v3 + v4) / (2 : Int32)) v2 M) fun x1 M2 => some (.inl ((if x1 = 0 then ((v3 + v4) / (2 : Int32)) else v3), (if x1 = 0 then v4 else ((v3 + v4) / (2 : Int32))), (v5 + (1 : Int32))), M2)))
def LL_amountFor (a1 : Int32) (a2 : Int32) (M : Mem) : Option ((Int32 ⊕ Nat) × Mem) :=
  bx (LL_needCell a1 M) fun _ M2 => bx (LL_needCell a2 M2) fun _ M4 => b2 (LL_wouldBeWet a1 (0 : Int32) a2 M4) fun x5 M6 => (if x5 = 0 then b2 (LL_wouldBeWet a1 (100000 : Int32) a2 M6) fun x7 M8 => (if ¬ x7 = 0 then b2 (lpM (fun s M9 => LL_amountFor_L44 a1 a2 s.1 s.2.1 s.2.2 M9) FUEL ((0 : Int32), (100000 : Int32), (0 : Int32)) M8) <| fun e9 M10 => some (.inl e9, M10) else some (.inl (-1 : Int32), M8)) else some (.inl (0 : Int32), M6))
def LL_withoutGate (a1 : Int32) (a2 : Int32) (M : Mem) : Option ((Int32 ⊕ Nat) × Mem) :=
  bx (LL_needNeighbors a1 a2 M) fun _ M2 => b2 (WD_copyFrom 47 1 M2) fun x3 M4 => b2 (WD_noteLakes 47 M4) fun x5 M6 => b2 (GR_putGate 48 a1 a2 (-1 : Int32) M6) fun x7 M8 => b2 (WD_renew 47 M8) fun x9 M10 => b1 (WD_wetTotal 47 M10) fun x11 => b1 (WD_wetTotal 1 M10) fun x12 => some (.inl (x11 - x12), M10)
def LL_append (a1 : Int32) (M : Mem) : Option ((Int32 ⊕ Nat) × Mem) :=
  bx (LL_needWithin a1 (0 : Int32) (127 : Int32) M) fun _ M2 => (if (gI M2 94 1) < (150 : Int32) then b2 (LT_add a1 M2) fun x3 M4 => some (.inl (gI M4 94 1), M4) else some (.inr 3, M2))
def LL_undo (M : Mem) : Option ((Int32 ⊕ Nat) × Mem) :=
  (if 0 < (gI M 0 4) then b2 (WD_copyFrom 1 (fSavedAt (gI (sI (sI M 0 5 (irm (((gI M 0 5) + (4 : Int32)) - (1 : Int32)) (4 : Int32))) 0 4 ((gI (sI M 0 5 (irm (((gI M 0 5) + (4 : Int32)) - (1 : Int32)) (4 : Int32))) 0 4) - (1 : Int32))) 0 5)) (sI (sI M 0 5 (irm (((gI M 0 5) + (4 : Int32)) - (1 : Int32)) (4 : Int32))) 0 4 ((gI (sI M 0 5 (irm (((gI M 0 5) + (4 : Int32)) - (1 : Int32)) (4 : Int32))) 0 4) - (1 : Int32)))) fun x1 M2 => some (.inl (gI M2 0 4), M2) else some (.inr 3, M))
