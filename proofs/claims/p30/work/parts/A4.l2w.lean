/-! A4: what the methods of the law do, by program -/
def LW_cell (L : Nat) (xs : Nat → Int32) (a1 : Int32) : Option Int32 :=
  (if (Int32.ofNat L) ≤ a1 then some ((1779033703 : Int32) * (a1 + (463 : Int32))) else ck (inb a1 L) <| some (xs a1.toNatClampNeg))
def LW_up (a0 : Int32) (a1 : Int32) : Option Int32 :=
  ck (decide (¬ a1 = 0)) <| some (irm (a0 &&& (2147483647 : Int32)) a1)
def LW_number_J20 (v1 : Int32) (M : Mem2) : Option (Int32 × Mem2) :=
  bo (LL_append ((48 : Int32) + (irm v1 (10 : Int32))) M.2) fun x1 M2 => some (((if x1 ≤ 0 then (0 : Int32) else (1 : Int32)) &&& 1), (M.1, M2))
def LW_number (a1 : Int32) (M : Mem2) : Option (Int32 × Mem2) :=
  (if a1 < (10 : Int32) then LW_number_J20 a1 M else bo (LL_append ((48 : Int32) + (a1 / (10 : Int32))) M.2) fun x1 M2 => (if x1 ≤ 0 then some ((0 : Int32), (M.1, M2)) else LW_number_J20 a1 (M.1, M2)))
def LW_tells_L58_J81 (v2 : Int32) (v4 : Int32) (t0 : Int32) (M : Mem2) : Option (((Int32 × Int32) ⊕ (Int32)) × Mem2) :=
  bo (LL_append t0 M.2) fun x1 M2 => (if x1 ≤ 0 then some (.inl ((0 : Int32), (v4 + (1 : Int32))), (M.1, M2)) else bo (LL_cell v4 (0 : Int32) M.1) fun x3 M4 => bq (LW_number x3 (M4, M2)) fun x5 M6 => some (.inl ((if x5 = 0 then (0 : Int32) else (1 : Int32)), (v4 + (1 : Int32))), M6))
def LW_tells_L58 (v2 : Int32) (v3 : Int32) (v4 : Int32) (M : Mem2) : Option (((Int32 × Int32) ⊕ (Int32)) × Mem2) :=
  (if v2 ≤ v4 then some (.inr v3, M) else (if v3 = 0 then some (.inl ((0 : Int32), (v4 + (1 : Int32))), M) else LW_tells_L58_J81 v2 v4 (if ¬ v4 = 0 then (44 : Int32) else (58 : Int32)) M))
def LW_tells_L116 (v2 : Int32) (v3 : Int32) (v4 : Int32) (M : Mem2) : Option (((Int32 × Int32) ⊕ (Int32)) × Mem2) :=
  (if v2 ≤ v4 then some (.inr v3, M) else bo (LL_cell v4 (1 : Int32) M.1) fun x1 M2 => (if ¬ x1 = (1 : Int32) then some (.inl (v3, (v4 + (1 : Int32))), (M2, M.2)) else (if v3 = 0 then some (.inl ((0 : Int32), (v4 + (1 : Int32))), (M2, M.2)) else bo (LL_append (59 : Int32) M.2) fun x3 M4 => (if x3 ≤ 0 then some (.inl ((0 : Int32), (v4 + (1 : Int32))), (M2, M4)) else bo (LL_append (100 : Int32) M4) fun x5 M6 => (if x5 ≤ 0 then some (.inl ((0 : Int32), (v4 + (1 : Int32))), (M2, M6)) else bq (LW_number v4 (M2, M6)) fun x7 M8 => some (.inl ((if x7 = 0 then (0 : Int32) else (1 : Int32)), (v4 + (1 : Int32))), M8))))))
def LW_tells_J54 (v2 : Int32) (t0 : Int32) (M : Mem2) : Option (Int32 × Mem2) :=
  bq (lpQ (fun s M9 => LW_tells_L58 v2 s.1 s.2 M9) FUEL (t0, (0 : Int32)) M) <| fun e1 M2 => bq (lpQ (fun s M9 => LW_tells_L116 v2 s.1 s.2 M9) FUEL (e1, (0 : Int32)) M2) <| fun e3 M4 => some ((e3 &&& 1), M4)
def LW_tells_J53 (v2 : Int32) (M : Mem2) : Option (Int32 × Mem2) :=
  LW_tells_J54 v2 (0 : Int32) M
def LW_tells (M : Mem2) : Option (Int32 × Mem2) :=
  bo (LL_count (0 : Int32) M.1) fun x1 M2 => bo (LL_count (1 : Int32) M2) fun x3 M4 => b2 (LL_clearText M.2) fun x5 M6 => (if x5 < 0 then LW_tells_J53 (x1 * x3) (M4, M6) else bo (LL_count (0 : Int32) M4) fun x7 M8 => bo (LL_append ((48 : Int32) + x7) M6) fun x9 M10 => (if x9 ≤ 0 then LW_tells_J53 (x1 * x3) (M8, M10) else bo (LL_count (1 : Int32) M8) fun x11 M12 => bo (LL_append ((48 : Int32) + x11) M10) fun x13 M14 => LW_tells_J54 (x1 * x3) (if x13 ≤ 0 then (0 : Int32) else (1 : Int32)) (M12, M14)))
def LW_areBasins_L47 (v2 : Int32) (v3 : Int32) (v4 : Int32) (M : Mem2) : Option (((Int32 × Int32) ⊕ (Int32)) × Mem2) :=
  (if v2 ≤ v4 then some (.inr v3, M) else (if v3 = 0 then some (.inl ((0 : Int32), (v4 + (1 : Int32))), M) else bo (LL_cell v4 (0 : Int32) M.1) fun x1 M2 => bo (LL_cell v4 (0 : Int32) M.2) fun x3 M4 => (if ¬ x1 = x3 then some (.inl ((0 : Int32), (v4 + (1 : Int32))), (M2, M4)) else bo (LL_cell v4 (1 : Int32) M2) fun x5 M6 => bo (LL_cell v4 (1 : Int32) M4) fun x7 M8 => (if ¬ x5 = x7 then some (.inl ((0 : Int32), (v4 + (1 : Int32))), (M6, M8)) else bo (LL_cell v4 (2 : Int32) M6) fun x9 M10 => bo (LL_cell v4 (2 : Int32) M8) fun x11 M12 => (if ¬ x9 = x11 then some (.inl ((0 : Int32), (v4 + (1 : Int32))), (M10, M12)) else bo (LL_cell v4 (5 : Int32) M10) fun x13 M14 => bo (LL_cell v4 (5 : Int32) M12) fun x15 M16 => (if ¬ x13 = x15 then some (.inl ((0 : Int32), (v4 + (1 : Int32))), (M14, M16)) else bo (LL_course v4 M14) fun x17 M18 => bo (LL_course v4 M16) fun x19 M20 => (if ¬ x17 = x19 then some (.inl ((0 : Int32), (v4 + (1 : Int32))), (M18, M20)) else some (.inl ((1 : Int32), (v4 + (1 : Int32))), (M18, M20)))))))))
def LW_areBasins_J43 (v2 : Int32) (t0 : Int32) (M : Mem2) : Option (Int32 × Mem2) :=
  bq (lpQ (fun s M9 => LW_areBasins_L47 v2 s.1 s.2 M9) FUEL (t0, (0 : Int32)) M) <| fun e1 M2 => some ((e1 &&& 1), M2)
def LW_areBasins_J42 (v2 : Int32) (M : Mem2) : Option (Int32 × Mem2) :=
  LW_areBasins_J43 v2 (0 : Int32) M
def LW_areBasins (M : Mem2) : Option (Int32 × Mem2) :=
  bo (LL_count (0 : Int32) M.1) fun x1 M2 => bo (LL_count (1 : Int32) M2) fun x3 M4 => bo (LL_count (2 : Int32) M4) fun x5 M6 => bo (LL_count (2 : Int32) M.2) fun x7 M8 => (if ¬ x5 = x7 then LW_areBasins_J42 (x1 * x3) (M6, M8) else bo (LL_count (5 : Int32) M6) fun x9 M10 => bo (LL_count (5 : Int32) M8) fun x11 M12 => LW_areBasins_J43 (x1 * x3) (if ¬ x9 = x11 then (0 : Int32) else (1 : Int32)) (M10, M12))
def LW_isSound_L102_J295 (v1 : Int32) (v3 : Int32) (t0 : Int32) (t1 : Int32) (M : Mem2) : Option (((Int32 × Int32) ⊕ (Int32)) × Mem2) :=
  (if ¬ t1 = t0 then some (.inl ((0 : Int32), (v3 + (1 : Int32))), M) else bo (LL_cell v3 (5 : Int32) M.1) fun x1 M2 => (if x1 = 0 then some (.inl ((1 : Int32), (v3 + (1 : Int32))), (M2, M.2)) else bo (LL_cell v3 (2 : Int32) M2) fun x3 M4 => some (.inl ((if x3 < 0 then (0 : Int32) else (1 : Int32)), (v3 + (1 : Int32))), (M4, M.2))))
def LW_isSound_L123_J202 (v1 : Int32) (v2 : Int32) (v3 : Int32) (v4 : Int64) (v6 : Int32) (v8 : Int32) (v9 : Int32) (t0 : Int32) (M : Mem2) : Option (((Int32 × Int32 × Int32 × Int32) ⊕ (Int32 × Int32 × Int32)) × Mem2) :=
  (if v2 = 0 then some (.inl ((0 : Int32), v6, t0, (v8 + (1 : Int32))), M) else (if v9 = 0 then some (.inl ((1 : Int32), v6, t0, (v8 + (1 : Int32))), M) else bo (LL_cell v8 (0 : Int32) M.1) fun x1 M2 => bo (LL_cell v3 (0 : Int32) M2) fun x3 M4 => (if x3 < x1 then some (.inl ((0 : Int32), v6, t0, (v8 + (1 : Int32))), (M4, M.2)) else bo (LL_cell v8 (2 : Int32) M4) fun x5 M6 => bo (LL_cell v3 (2 : Int32) M6) fun x7 M8 => some (.inl ((if ¬ x5 = x7 then (0 : Int32) else (1 : Int32)), v6, t0, (v8 + (1 : Int32))), (M8, M.2)))))
def LW_isSound_L123_J201 (v1 : Int32) (v2 : Int32) (v3 : Int32) (v4 : Int64) (v6 : Int32) (v8 : Int32) (v9 : Int32) (M : Mem2) : Option (((Int32 × Int32 × Int32 × Int32) ⊕ (Int32 × Int32 × Int32)) × Mem2) :=
  LW_isSound_L123_J202 v1 v2 v3 v4 v6 v8 v9 (0 : Int32) M
def LW_isSound_L123_J197 (v1 : Int32) (v2 : Int32) (v3 : Int32) (v4 : Int64) (v6 : Int32) (v8 : Int32) (v9 : Int32) (M : Mem2) : Option (((Int32 × Int32 × Int32 × Int32) ⊕ (Int32 × Int32 × Int32)) × Mem2) :=
  LW_isSound_L123_J202 v1 v2 v3 v4 v6 v8 v9 (1 : Int32) M
def LW_isSound_L123_J174 (v1 : Int32) (v2 : Int32) (v3 : Int32) (v4 : Int64) (v7 : Int32) (v8 : Int32) (v9 : Int32) (t0 : Int32) (M : Mem2) : Option (((Int32 × Int32 × Int32 × Int32) ⊕ (Int32 × Int32 × Int32)) × Mem2) :=
  (if ¬ v7 = 0 then LW_isSound_L123_J197 v1 v2 v3 v4 t0 v8 v9 M else (if v9 = 0 then LW_isSound_L123_J201 v1 v2 v3 v4 t0 v8 v9 M else bo (LL_cell v8 (1 : Int32) M.1) fun x1 M2 => LW_isSound_L123_J202 v1 v2 v3 v4 t0 v8 v9 (if ¬ x1 = (1 : Int32) then (0 : Int32) else (1 : Int32)) (M2, M.2)))
def LW_isSound_L123_J173 (v1 : Int32) (v2 : Int32) (v3 : Int32) (v4 : Int64) (v7 : Int32) (v8 : Int32) (v9 : Int32) (M : Mem2) : Option (((Int32 × Int32 × Int32 × Int32) ⊕ (Int32 × Int32 × Int32)) × Mem2) :=
  LW_isSound_L123_J174 v1 v2 v3 v4 v7 v8 v9 (0 : Int32) M
def LW_isSound_L123_J169 (v1 : Int32) (v2 : Int32) (v3 : Int32) (v4 : Int64) (v7 : Int32) (v8 : Int32) (v9 : Int32) (M : Mem2) : Option (((Int32 × Int32 × Int32 × Int32) ⊕ (Int32 × Int32 × Int32)) × Mem2) :=
  LW_isSound_L123_J174 v1 v2 v3 v4 v7 v8 v9 (1 : Int32) M
def LW_isSound_L123_J146 (v1 : Int32) (v2 : Int32) (v3 : Int32) (v4 : Int64) (v6 : Int32) (v7 : Int32) (v8 : Int32) (t0 : Int32) (M : Mem2) : Option (((Int32 × Int32 × Int32 × Int32) ⊕ (Int32 × Int32 × Int32)) × Mem2) :=
  (if ¬ v6 = 0 then LW_isSound_L123_J169 v1 v2 v3 v4 v7 v8 t0 M else (if t0 = 0 then LW_isSound_L123_J173 v1 v2 v3 v4 v7 v8 t0 M else bo (LL_cell v8 (5 : Int32) M.1) fun x1 M2 => LW_isSound_L123_J174 v1 v2 v3 v4 v7 v8 t0 (if ¬ x1 = (1 : Int32) then (0 : Int32) else (1 : Int32)) (M2, M.2)))
def LW_isSound_L123 (v1 : Int32) (v3 : Int32) (v4 : Int64) (v2 : Int32) (v6 : Int32) (v7 : Int32) (v8 : Int32) (M : Mem2) : Option (((Int32 × Int32 × Int32 × Int32) ⊕ (Int32 × Int32 × Int32)) × Mem2) :=
  (if v1 ≤ v8 then some (.inr (v2, v6, v7), M) else (if ¬ ((lsr v4 v8) &&& (1 : Int64)) = (1 : Int64) then LW_isSound_L123_J146 v1 v2 v3 v4 v6 v7 v8 (0 : Int32) M else LW_isSound_L123_J146 v1 v2 v3 v4 v6 v7 v8 (1 : Int32) M))
def LW_isSound_L102 (v1 : Int32) (v2 : Int32) (v3 : Int32) (M : Mem2) : Option (((Int32 × Int32) ⊕ (Int32)) × Mem2) :=
  (if v1 ≤ v3 then some (.inr v2, M) else bo (LL_course v3 M.1) fun x1 M2 => bq (lpQ (fun s M9 => LW_isSound_L123 v1 v3 x1 s.1 s.2.1 s.2.2.1 s.2.2.2 M9) FUEL (v2, (0 : Int32), (0 : Int32), (0 : Int32)) (M2, M.2)) <| fun e3 M4 => (if e3.1 = 0 then some (.inl ((0 : Int32), (v3 + (1 : Int32))), M4) else (if ¬ ((lsr x1 v3) &&& (1 : Int64)) = (1 : Int64) then some (.inl ((0 : Int32), (v3 + (1 : Int32))), M4) else (if e3.2.1 = e3.2.2 then some (.inl ((0 : Int32), (v3 + (1 : Int32))), M4) else bo (LL_cell v3 (3 : Int32) M4.1) fun x5 M6 => LW_isSound_L102_J295 v1 v3 (if 0 ≤ x5 then (0 : Int32) else (1 : Int32)) e3.2.2 (M6, M4.2)))))
def LW_isSound_J99 (v1 : Int32) (t0 : Int32) (M : Mem2) : Option (Int32 × Mem2) :=
  bq (lpQ (fun s M9 => LW_isSound_L102 v1 s.1 s.2 M9) FUEL (t0, (0 : Int32)) M) <| fun e1 M2 => some ((e1 &&& 1), M2)
def LW_isSound_J98 (v1 : Int32) (M : Mem2) : Option (Int32 × Mem2) :=
  LW_isSound_J99 v1 (0 : Int32) M
def LW_isSound_J91 (v1 : Int32) (t0 : Int32) (t1 : Int32) (M : Mem2) : Option (Int32 × Mem2) :=
  LW_isSound_J99 v1 (if ¬ t1 = t0 then (0 : Int32) else (1 : Int32)) M
def LW_isSound_J78 (v1 : Int32) (t0 : Int32) (M : Mem2) : Option (Int32 × Mem2) :=
  bo (LL_count (4 : Int32) M.1) fun x1 M2 => LW_isSound_J91 v1 (if ¬ x1 = 0 then (0 : Int32) else (1 : Int32)) t0 (M2, M.2)
def LW_isSound (M : Mem2) : Option (Int32 × Mem2) :=
  bo (LL_count (0 : Int32) M.1) fun x1 M2 => bo (LL_count (1 : Int32) M2) fun x3 M4 => bo (LL_balance (0 : Int32) M4) fun x5 M6 => bo (LL_balance (1 : Int32) M6) fun x7 M8 => bo (LL_balance (2 : Int32) M8) fun x9 M10 => bo (LL_balance (3 : Int32) M10) fun x11 M12 => (if ¬ x5 = ((x7 + x9) + x11) then LW_isSound_J98 (x1 * x3) (M12, M.2) else bo (LL_count (3 : Int32) M12) fun x13 M14 => bo (LL_count (2 : Int32) M14) fun x15 M16 => (if x15 < x13 then LW_isSound_J98 (x1 * x3) (M16, M.2) else bo (LL_count (4 : Int32) M16) fun x17 M18 => bo (LL_count (5 : Int32) M18) fun x19 M20 => (if (x1 * x3) < (x17 + x19) then LW_isSound_J98 (x1 * x3) (M20, M.2) else b1 (LL_deepest M20) fun x21 => LW_isSound_J78 (x1 * x3) (if 0 ≤ x21 then (0 : Int32) else (1 : Int32)) (M20, M.2))))
def LW_lays_L88_J134 (L : Nat) (xs : Nat → Int32) (v2 : Int32) (v3 : Int32) (v4 : Int32) (v5 : Int32) (t0 : Int32) (M : Mem2) : Option (((Int32 × Int32) ⊕ (Int32)) × Mem2) :=
  (if v4 = 0 then some (.inl ((0 : Int32), (v5 + (1 : Int32))), M) else (if t0 = 0 then some (.inl ((1 : Int32), (v5 + (1 : Int32))), M) else bo (LL_count (5 : Int32) M.1) fun x1 M2 => some (.inl ((if x1 ≤ 0 then (0 : Int32) else (1 : Int32)), (v5 + (1 : Int32))), (M2, M.2))))
def LW_lays_L88_J133 (L : Nat) (xs : Nat → Int32) (v2 : Int32) (v3 : Int32) (v4 : Int32) (v5 : Int32) (M : Mem2) : Option (((Int32 × Int32) ⊕ (Int32)) × Mem2) :=
  LW_lays_L88_J134 L xs v2 v3 v4 v5 (0 : Int32) M
def LW_lays_L88 (L : Nat) (xs : Nat → Int32) (v2 : Int32) (v3 : Int32) (v4 : Int32) (v5 : Int32) (M : Mem2) : Option (((Int32 × Int32) ⊕ (Int32)) × Mem2) :=
  (if (3 : Int32) ≤ v5 then some (.inr v4, M) else b1 (LW_cell L xs ((4 : Int32) + v5)) fun x1 => (if ¬ (x1 &&& (3 : Int32)) = 0 then LW_lays_L88_J133 L xs v2 v3 v4 v5 M else b1 (LW_up (isr x1 (2 : Int32)) (v2 * v3)) fun x3 => bo (LL_setDrain x3 (1 : Int32) M.1) fun x5 M6 => LW_lays_L88_J134 L xs v2 v3 v4 v5 (if x5 = 0 then (0 : Int32) else (1 : Int32)) (M6, M.2)))
def LW_lays_J83 (L : Nat) (xs : Nat → Int32) (v2 : Int32) (v3 : Int32) (t0 : Int32) (M : Mem2) : Option (Int32 × Mem2) :=
  bq (lpQ (fun s M9 => LW_lays_L88 L xs v2 v3 s.1 s.2 M9) FUEL (t0, (0 : Int32)) M) <| fun e1 M2 => some ((e1 &&& 1), M2)
def LW_lays_J82 (L : Nat) (xs : Nat → Int32) (v2 : Int32) (v3 : Int32) (M : Mem2) : Option (Int32 × Mem2) :=
  LW_lays_J83 L xs v2 v3 (0 : Int32) M
def LW_lays_J69 (L : Nat) (xs : Nat → Int32) (v2 : Int32) (v3 : Int32) (t0 : Int32) (t1 : Int32) (t2 : Int32) (M : Mem2) : Option (Int32 × Mem2) :=
  b1 (LW_up t1 t0) fun x1 => bo (LL_random t2 x1 M.1) fun x3 M4 => LW_lays_J83 L xs v2 v3 (if x3 < 0 then (0 : Int32) else (1 : Int32)) (M4, M.2)
def LW_lays (L : Nat) (xs : Nat → Int32) (M : Mem2) : Option (Int32 × Mem2) :=
  b1 (LW_cell L xs (0 : Int32)) fun x1 => b1 (LW_up x1 (5 : Int32)) fun x3 => b1 (LW_cell L xs (1 : Int32)) fun x5 => b1 (LW_up x5 (5 : Int32)) fun x7 => bo (LL_begin ((1 : Int32) + x3) ((1 : Int32) + x7) M.1) fun x9 M10 => (if ¬ x9 = (((1 : Int32) + x3) * ((1 : Int32) + x7)) then LW_lays_J82 L xs ((1 : Int32) + x3) ((1 : Int32) + x7) (M10, M.2) else b1 (LW_cell L xs (2 : Int32)) fun x11 => b1 (LW_up x11 (1000000 : Int32)) fun x13 => b1 (LW_cell L xs (3 : Int32)) fun x15 => b1 (LW_cell L xs (3 : Int32)) fun x17 => LW_lays_J69 L xs ((1 : Int32) + x3) ((1 : Int32) + x7) (if ¬ (x17 &&& (1 : Int32)) = 0 then (100 : Int32) else (8 : Int32)) x15 x13 (M10, M.2))
def LW_isRaised_L120 (v3 : Int32) (v4 : Int64) (v12 : Int32) (v13 : Int32) (M : Mem2) : Option (((Int32 × Int32) ⊕ (Int32)) × Mem2) :=
  (if v3 ≤ v13 then some (.inr v12, M) else (if v12 = 0 then some (.inl ((0 : Int32), (v13 + (1 : Int32))), M) else (if ((lsr v4 v13) &&& (1 : Int64)) = (0 : Int64) then some (.inl ((1 : Int32), (v13 + (1 : Int32))), M) else bo (LL_cell v13 (4 : Int32) M.1) fun x1 M2 => some (.inl ((if ¬ x1 = (1 : Int32) then (0 : Int32) else (1 : Int32)), (v13 + (1 : Int32))), (M2, M.2)))))
def LW_isRaised_J115 (v3 : Int32) (v4 : Int64) (t0 : Int32) (M : Mem2) : Option (Int32 × Mem2) :=
  bq (lpQ (fun s M9 => LW_isRaised_L120 v3 v4 s.1 s.2 M9) FUEL (t0, (0 : Int32)) M) <| fun e1 M2 => some ((e1 &&& 1), M2)
def LW_isRaised_J114 (v3 : Int32) (v4 : Int64) (M : Mem2) : Option (Int32 × Mem2) :=
  LW_isRaised_J115 v3 v4 (0 : Int32) M
def LW_isRaised_L18 (v1 : Int32) (v2 : Int32) (v3 : Int32) (v4 : Int64) (v6 : Int32) (M : Mem2) : Option (((Int64 × Int32) ⊕ (Int64)) × Mem2) :=
  (if v3 ≤ v6 then some (.inr v4, M) else bo (LL_cell v6 (4 : Int32) M.1) fun x1 M2 => some (.inl ((v4 ||| (lsh x1.toInt64 v6)), (v6 + (1 : Int32))), (M2, M.2)))
def LW_isRaised (a1 : Int32) (a2 : Int32) (M : Mem2) : Option (Int32 × Mem2) :=
  bo (LL_count (0 : Int32) M.1) fun x1 M2 => bo (LL_count (1 : Int32) M2) fun x3 M4 => bq (lpQ (fun s M9 => LW_isRaised_L18 a1 a2 (x1 * x3) s.1 s.2 M9) FUEL ((0 : Int64), (0 : Int32)) (M4, M.2)) <| fun e5 M6 => bo (LL_depth a1 M6.1) fun x7 M8 => bo (LL_balance (1 : Int32) M8) fun x9 M10 => bo (LL_balance (2 : Int32) M10) fun x11 M12 => bo (LL_pour a1 a2 M12) fun x13 M14 => (if x13 < 0 then LW_isRaised_J114 (x1 * x3) e5 (M14, M6.2) else bo (LL_balance (1 : Int32) M14) fun x15 M16 => bo (LL_balance (2 : Int32) M16) fun x17 M18 => (if ¬ (x15 + x17) = ((x9 + x11) + a2.toInt64) then LW_isRaised_J114 (x1 * x3) e5 (M18, M6.2) else bo (LL_depth a1 M18) fun x19 M20 => LW_isRaised_J115 (x1 * x3) e5 (if (dcl x19 x7) < 0 then (0 : Int32) else (1 : Int32)) (M20, M6.2)))
def LW_law_J525 (L : Nat) (xs : Nat → Int32) (v9 : Int32) (v10 : Int32) (v11 : Int32) (t0 : Int32) (M : Mem2) : Option (Int32 × Mem2) :=
  (if t0 = 0 then some ((0 : Int32), M) else (if v11 < (1 : Int32) then some ((1 : Int32), M) else bo (LL_balance (1 : Int32) M.1) fun x1 M2 => (if (1000000 : Int64) < (x1 + v11.toInt64) then some ((1 : Int32), (M2, M.2)) else bo (LL_pour v9 v11 M2) fun x3 M4 => (if x3 < 0 then some ((0 : Int32), (M4, M.2)) else bo (LL_cell v10 (4 : Int32) M4) fun x5 M6 => (if ¬ x5 = (1 : Int32) then some ((0 : Int32), (M6, M.2)) else bo (LL_amountFor v9 v10 M6) fun x7 M8 => some ((if ¬ x7 = 0 then (0 : Int32) else (1 : Int32)), (M8, M.2)))))))
def LW_law_J524 (L : Nat) (xs : Nat → Int32) (v9 : Int32) (v10 : Int32) (v11 : Int32) (M : Mem2) : Option (Int32 × Mem2) :=
  LW_law_J525 L xs v9 v10 v11 (0 : Int32) M
def LW_law_J513 (L : Nat) (xs : Nat → Int32) (v9 : Int32) (v10 : Int32) (v11 : Int32) (M : Mem2) : Option (Int32 × Mem2) :=
  LW_law_J525 L xs v9 v10 v11 (if (100000 : Int32) < v11 then (0 : Int32) else (1 : Int32)) M
def LW_law_J497 (L : Nat) (xs : Nat → Int32) (v9 : Int32) (v10 : Int32) (v11 : Int32) (M : Mem2) : Option (Int32 × Mem2) :=
  (if ¬ v11 = 0 then LW_law_J513 L xs v9 v10 v11 M else bo (LL_cell v10 (4 : Int32) M.1) fun x1 M2 => LW_law_J525 L xs v9 v10 v11 (if ¬ x1 = (1 : Int32) then (0 : Int32) else (if (100000 : Int32) < v11 then (0 : Int32) else (1 : Int32))) (M2, M.2))
def LW_law_J479 (L : Nat) (xs : Nat → Int32) (v3 : Int32) (v9 : Int32) (v10 : Int32) (v11 : Int32) (t0 : Int32) (M : Mem2) : Option (Int32 × Mem2) :=
  (if v3 = 0 then LW_law_J524 L xs v9 v10 v11 M else b1 (LL_deepest M.1) fun x1 => (if x1 < 0 then LW_law_J497 L xs v9 v10 v11 (M.1, M.2) else (if ¬ t0 = 0 then LW_law_J524 L xs v9 v10 v11 (M.1, M.2) else LW_law_J497 L xs v9 v10 v11 (M.1, M.2))))
def LW_law_J472 (L : Nat) (xs : Nat → Int32) (v3 : Int32) (v9 : Int32) (v10 : Int32) (v11 : Int32) (t0 : Int32) (t1 : Int32) (M : Mem2) : Option (Int32 × Mem2) :=
  bo (LL_amountFor t1 t0 M.1) fun x1 M2 => LW_law_J479 L xs v3 v9 v10 v11 x1 (M2, M.2)
def LW_law_J447 (L : Nat) (xs : Nat → Int32) (v3 : Int32) (v9 : Int32) (v10 : Int32) (t0 : Int32) (M : Mem2) : Option (Int32 × Mem2) :=
  (if v3 = 0 then LW_law_J479 L xs v3 v9 v10 t0 (0 : Int32) M else b1 (LL_deepest M.1) fun x1 => (if 0 ≤ x1 then b1 (LL_deepest M.1) fun x3 => LW_law_J472 L xs v3 v9 v10 t0 x3 v9 (M.1, M.2) else LW_law_J472 L xs v3 v9 v10 t0 v10 v9 (M.1, M.2)))
def LW_law_J404 (L : Nat) (xs : Nat → Int32) (v4 : Int32) (t0 : Int32) (M : Mem2) : Option (Int32 × Mem2) :=
  b1 (LW_cell L xs (30 : Int32)) fun x1 => b1 (LW_up x1 v4) fun x3 => b1 (LW_cell L xs (31 : Int32)) fun x5 => b1 (LW_up x5 v4) fun x7 => (if t0 = 0 then LW_law_J447 L xs t0 x3 x7 (0 : Int32) M else bo (LL_amountFor x3 x7 M.1) fun x9 M10 => LW_law_J447 L xs t0 x3 x7 x9 (M10, M.2))
def LW_law_J403 (L : Nat) (xs : Nat → Int32) (v4 : Int32) (M : Mem2) : Option (Int32 × Mem2) :=
  LW_law_J404 L xs v4 (0 : Int32) M
def LW_law_J374 (L : Nat) (xs : Nat → Int32) (v4 : Int32) (v5 : Int64) (v7 : Int32) (t0 : Int32) (M : Mem2) : Option (Int32 × Mem2) :=
  (if ¬ t0 = v7 then LW_law_J403 L xs v4 M else bo (LL_undo M.1) fun x1 M2 => (if ¬ x1 = (3 : Int32) then LW_law_J403 L xs v4 (M2, M.2) else b1 (LL_digest M2) fun x3 => (if ¬ x3 = (v5 - (1 : Int64)) then LW_law_J403 L xs v4 (M2, M.2) else LW_law_J404 L xs v4 (1 : Int32) (M2, M.2))))
def LW_law_J358 (L : Nat) (xs : Nat → Int32) (v3 : Int32) (v4 : Int32) (v5 : Int64) (v7 : Int32) (t0 : Int32) (M : Mem2) : Option (Int32 × Mem2) :=
  (if v3 = 0 then LW_law_J403 L xs v4 M else LW_law_J374 L xs v4 v5 v7 (if t0 ≤ 0 then (0 : Int32) else (1 : Int32)) M)
def LW_law_J342 (L : Nat) (xs : Nat → Int32) (v3 : Int32) (v4 : Int32) (v5 : Int64) (t0 : Int32) (M : Mem2) : Option (Int32 × Mem2) :=
  (if v3 = 0 then LW_law_J358 L xs v3 v4 v5 t0 (0 : Int32) M else bo (LL_evaporate (100 : Int32) M.1) fun x1 M2 => LW_law_J358 L xs v3 v4 v5 t0 x1 (M2, M.2))
def LW_law_L81_J300 (L : Nat) (xs : Nat → Int32) (v3 : Int32) (v4 : Int32) (v5 : Int32) (M : Mem2) : Option (((Int32 × Int32) ⊕ (Int32)) × Mem2) :=
  (if v3 = 0 then some (.inl ((0 : Int32), (v5 + (1 : Int32))), M) else bq (LW_isSound M) fun x1 M2 => some (.inl ((if x1 = 0 then (0 : Int32) else (1 : Int32)), (v5 + (1 : Int32))), M2))
def LW_law_L81_J299 (L : Nat) (xs : Nat → Int32) (v4 : Int32) (v5 : Int32) (t0 : Int32) (M : Mem2) : Option (((Int32 × Int32) ⊕ (Int32)) × Mem2) :=
  LW_law_L81_J300 L xs t0 v4 v5 M
def LW_law_L81_J298 (L : Nat) (xs : Nat → Int32) (v4 : Int32) (v5 : Int32) (M : Mem2) : Option (((Int32 × Int32) ⊕ (Int32)) × Mem2) :=
  LW_law_L81_J299 L xs v4 v5 (0 : Int32) M
def LW_law_L81_J220 (L : Nat) (xs : Nat → Int32) (v4 : Int32) (v5 : Int32) (t0 : Int32) (M : Mem2) : Option (((Int32 × Int32) ⊕ (Int32)) × Mem2) :=
  LW_law_L81_J300 L xs t0 v4 v5 M
def LW_law_L81_J219 (L : Nat) (xs : Nat → Int32) (v4 : Int32) (v5 : Int32) (M : Mem2) : Option (((Int32 × Int32) ⊕ (Int32)) × Mem2) :=
  LW_law_L81_J220 L xs v4 v5 (0 : Int32) M
def LW_law_L81_J137 (L : Nat) (xs : Nat → Int32) (v4 : Int32) (v5 : Int32) (v6 : Int32) (v7 : Int32) (t0 : Int32) (t1 : Int32) (M : Mem2) : Option (((Int32 × Int32) ⊕ (Int32)) × Mem2) :=
  b1 (LW_up t1 t0) fun x1 => (if (5 : Int32) ≤ (v6 &&& (7 : Int32)) then (if ¬ (v6 &&& (7 : Int32)) = (5 : Int32) then bo (LL_balance (1 : Int32) M.1) fun x3 M4 => bo (LL_balance (2 : Int32) M4) fun x5 M6 => bo (LL_cell v7 (0 : Int32) M6) fun x7 M8 => bo (LL_setHeight v7 (irm x1 (100 : Int32)) M8) fun x9 M10 => (if ¬ x9 = x7 then LW_law_L81_J298 L xs v4 v5 (M10, M.2) else bo (LL_balance (1 : Int32) M10) fun x11 M12 => bo (LL_balance (2 : Int32) M12) fun x13 M14 => (if ¬ (x11 + x13) = (x3 + x5) then LW_law_L81_J298 L xs v4 v5 (M14, M.2) else bo (LL_cell v7 (0 : Int32) M14) fun x15 M16 => LW_law_L81_J299 L xs v4 v5 (if ¬ x15 = (irm x1 (100 : Int32)) then (0 : Int32) else (1 : Int32)) (M16, M.2))) else bo (LL_balance (1 : Int32) M.1) fun x17 M18 => bo (LL_evaporate ((1 : Int32) + (irm x1 (3 : Int32))) M18) fun x19 M20 => (if x17 < x19.toInt64 then LW_law_L81_J219 L xs v4 v5 (M20, M.2) else bo (LL_balance (1 : Int32) M20) fun x21 M22 => (if ¬ x21 = (x17 - x19.toInt64) then LW_law_L81_J219 L xs v4 v5 (M22, M.2) else LW_law_L81_J220 L xs v4 v5 (1 : Int32) (M22, M.2)))) else bq (LW_isRaised v7 x1 M) fun x23 M24 => LW_law_L81_J300 L xs x23 v4 v5 M24)
def LW_law_L81 (L : Nat) (xs : Nat → Int32) (v4 : Int32) (v3 : Int32) (v5 : Int32) (M : Mem2) : Option (((Int32 × Int32) ⊕ (Int32)) × Mem2) :=
  (if (12 : Int32) ≤ v5 then some (.inr v3, M) else (if v3 = 0 then some (.inr v3, M) else b1 (LW_cell L xs ((10 : Int32) + v5)) fun x1 => b1 (LW_up (isr x1 (3 : Int32)) v4) fun x3 => LW_law_L81_J137 L xs v4 v5 x1 x3 (if ¬ ((isr x1 (8 : Int32)) &&& (1 : Int32)) = 0 then (300 : Int32) else (10 : Int32)) (isr x1 (9 : Int32)) M))
def LW_law_J64 (L : Nat) (xs : Nat → Int32) (t0 : Int32) (M : Mem2) : Option (Int32 × Mem2) :=
  bo (LL_count (0 : Int32) M.1) fun x1 M2 => bo (LL_count (1 : Int32) M2) fun x3 M4 => bq (lpQ (fun s M9 => LW_law_L81 L xs (x1 * x3) s.1 s.2 M9) FUEL (t0, (0 : Int32)) (M4, M.2)) <| fun e5 M6 => b1 (LL_digest M6.1) fun x7 => bo (LL_count (4 : Int32) M6.1) fun x9 M10 => LW_law_J342 L xs e5 (x1 * x3) x7 (if x9 ≤ 0 then (0 : Int32) else (1 : Int32)) (M10, M6.2)
def LW_law_J63 (L : Nat) (xs : Nat → Int32) (M : Mem2) : Option (Int32 × Mem2) :=
  LW_law_J64 L xs (0 : Int32) M
def LW_law (L : Nat) (xs : Nat → Int32) (M : Mem2) : Option (Int32 × Mem2) :=
  bq (LW_lays L xs M) fun x1 M2 => (if x1 = 0 then LW_law_J63 L xs M2 else bq (LW_tells M2) fun x3 M4 => (if x3 = 0 then LW_law_J63 L xs M4 else b2 (LL_parse M4.2) fun x5 M6 => bo (LL_count (2 : Int32) M4.1) fun x7 M8 => (if ¬ x5 = x7 then LW_law_J63 L xs (M8, M6) else bq (LW_areBasins (M8, M6)) fun x9 M10 => (if x9 = 0 then LW_law_J63 L xs M10 else bq (LW_isSound M10) fun x11 M12 => LW_law_J64 L xs (if x11 = 0 then (0 : Int32) else (1 : Int32)) M12))))
