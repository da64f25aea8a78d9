/-! 99b.digest: the digest -/
theorem OR_P {M M' : Mem} {A : Ab} (h : FrP M M') (r : OR M A) : OR M' A := ⟨by rw [← r.1]; exact h.2 0 12 (by omega), fun i hi => by rw [← r.2 i hi]; exact h.2 7 i (by omega)⟩
theorem OR_L {M M' : Mem} {A : Ab} (h : FrL M M') (r : OR M A) : OR M' A := ⟨by rw [← r.1]; exact h.I 0 12, fun i hi => by rw [← r.2 i hi]; exact h.I 7 i⟩
theorem e_lake2 {M : Mem} {A : Ab} (hM : RM M A) (hW : WF A) (hB : BS A) {x j : Int} (h0 : 0 ≤ x) (h1 : x < lown A 36) (j0 : 0 ≤ j ∧ j ≤ 9) : ∃ M', MD_lakeValue (ni x) (ni j) M = some (ni (kv A (pof A x) j), M') ∧ FS M M' ∧ OR M' A := by
  have hle := lown_le A 36
  obtain ⟨c, c1, c2, c3, c4, c5, c6, c7, c8⟩ := pof_in hW.2.1 h0 h1
  obtain ⟨M1, p1, p2, p3⟩ := e_orders hM hW.1 hW.2.1
  have R1 := (FrO_FS p2).RM hM
  have ho := p3.2 x.toNat (by omega)
  rw [Int.toNat_of_nonneg h0] at ho
  have hb := hW.2.1.1 (pof A x) c5.1 (by omega)
  unfold MD_lakeValue kv
  rw [p1, b2_s, ni_nat h0 (by omega), ho, ni_inb (by omega) (by omega), ck_d (by omega), ixb 152 c5.1 (by omega) (152 : Int32) rfl, ck_t, ix 152 (by omega) c5.1 (by omega) (152 : Int32) rfl, RM_msk R1 c5.1 (by omega), ixb 224 c5.1 (by omega) (224 : Int32) rfl, ck_t, ix 224 (by omega) c5.1 (by omega) (224 : Int32) rfl, RM_vol R1 c5.1 (by omega), nl_32, MD_lowest_eq c7, b1_s, MD_bits_eq, b1_s, e_basinsOf R1 hW.1 hB, b1_s]
  simp (disch := omega) only [show (0 : Int32) = ni 0 from rfl, show (1 : Int32) = ni 1 from rfl, show (2 : Int32) = ni 2 from rfl, show (3 : Int32) = ni 3 from rfl, show (4 : Int32) = ni 4 from rfl, show (5 : Int32) = ni 5 from rfl, show (9 : Int32) = ni 9 from rfl, ni_eq]
  by_cases q0 : j = 0
  · rw [if_pos q0, if_pos q0]; exact ⟨_, rfl, FrO_FS p2, p3⟩
  rw [if_neg q0, if_neg q0]
  by_cases q1 : j = 1
  · rw [if_pos q1, if_pos q1]
    obtain ⟨M2, r1, r2⟩ := e_capacity R1 hW.1 c5.1 (show pof A x < 72 by omega)
    rw [r1, b2_s, nl_32]
    exact ⟨_, rfl, (FrO_FS p2).trans (FrP_FS r2.1), OR_P r2.1 p3⟩
  rw [if_neg q1, if_neg q1]
  by_cases q2 : j = 2
  · rw [if_pos q2, if_pos q2]; exact ⟨_, rfl, FrO_FS p2, p3⟩
  rw [if_neg q2, if_neg q2]
  by_cases q3 : j = 3
  · rw [if_pos q3, if_pos q3]; exact ⟨_, rfl, FrO_FS p2, p3⟩
  rw [if_neg q3, if_neg q3]
  by_cases q4 : j = 4
  · rw [if_pos q4, if_pos q4]
    obtain ⟨M2, r1, r2⟩ := e_wetOf R1 hW.1 hW.2.1 (msk A (pof A x))
    rw [r1, b2_s]
    exact ⟨_, rfl, (FrO_FS p2).trans (FrL_FS r2), OR_L r2 p3⟩
  rw [if_neg q4, if_neg q4]
  by_cases q5 : j = 5
  · rw [if_pos q5, if_pos q5]; exact ⟨_, rfl, FrO_FS p2, p3⟩
  rw [if_neg q5, if_neg q5]
  by_cases q9 : j = 9
  · rw [if_pos q9, if_neg (by omega), if_neg (by omega), if_neg (by omega)]
    obtain ⟨M2, r1, r2⟩ := e_leastVolume R1 hW.1 c5.1 (show pof A x < 72 by omega) hb.2.1 hb.2.2.1
    rw [r1, b2_s, nl_32]
    exact ⟨_, rfl, (FrO_FS p2).trans (FrP_FS r2), OR_P r2 p3⟩
  rw [if_neg q9]
  obtain ⟨M2, r1, r2⟩ := e_findsPass R1 hW.1 c5.1 (show pof A x < 72 by omega)
  unfold MD_lakeValue_J132
  rw [r1, b2_s, r2.2.1, r2.2.2.1, r2.2.2.2]
  refine ⟨M2, ?_, (FrO_FS p2).trans (FrP_FS r2.1), OR_P r2.1 p3⟩
  simp (disch := omega) only [show (6 : Int32) = ni 6 from rfl, show (7 : Int32) = ni 7 from rfl, ni_eq]
  by_cases q6 : j = 6
  · rw [if_neg (by simp [q6]), if_pos q6]
  rw [if_pos q6, if_neg q6]
  by_cases q7 : j = 7
  · rw [if_neg (by simp [q7]), if_pos q7]
  rw [if_pos q7, if_neg q7, if_pos (by omega)]
theorem e_levelPart {M : Mem} {A : Ab} (hM : RM M A) (hW : WF A) {x j : Int} (h0 : 0 ≤ x) (h1 : x < lown A 36) (j0 : 0 ≤ j ∧ j ≤ 1) : ∃ M', MD_levelPart (ni x) (ni j) M = some (ni (lev A (pof A x) j), M') ∧ FS M M' ∧ OR M' A := by
  have hle := lown_le A 36
  obtain ⟨c, c1, c2, c3, c4, c5, c6, c7, c8⟩ := pof_in hW.2.1 h0 h1
  obtain ⟨M2, r1, r2, r3⟩ := e_orders hM hW.1 hW.2.1
  have R2 := (FrO_FS r2).RM hM
  have ho := r3.2 x.toNat (by omega)
  rw [Int.toNat_of_nonneg h0] at ho
  obtain ⟨M3, a, b, s1, s2, s3, s4, s5⟩ := e_levels R2 hW.1 hW.2.1 c5.1 (show pof A x < 72 by omega) c7
  obtain ⟨l1, l2, l3, l4⟩ := e_level hW c5.1 c5.2 c6 c7 s5 j0
  have hgl := gcd_le (x := a) l2.1
  have hd : (if ¬ ni j = (0 : Int32) then gL M3 0 14 else gL M3 0 13) = nl (if ¬ j = 0 then b else a) := by
    rw [s3, s4]
    simp (disch := omega) only [show (0 : Int32) = ni 0 from rfl, ni_eq]
    split <;> rfl
  unfold MD_levelPart
  rw [r1, b2_s, ni_nat h0 (by omega), ho, ni_inb (by omega) (by omega), ck_d (by omega), s1, b2_s, hd, s3, s4, e_divisor (by omega) (by omega) (by omega) (by omega), b1_s, ck_d (by rw [show (0 : Int64) = nl 0 from rfl, nl_eq (by omega) (by omega) (by omega) (by omega)]; omega), nl_div (by split <;> omega) (by split <;> omega) l3 (by omega), nl_32, l4]
  exact ⟨M3, rfl, (FrO_FS r2).trans (FrL_FS s2), OR_L s2 r3⟩
/-- one step of the sum -/
def dmx (v w : Int64) : Int64 := ((31 : Int64) * v) + w
def dS (f : Nat → Int64) (v : Int64) : Nat → Int64
  | 0 => v
  | i + 1 => dmx (dS f v i) (f i)
/-- the sum over cells or lakes, each with its own part -/
def dT (g : Nat → Int64 → Int64) (v : Int64) : Nat → Int64
  | 0 => v
  | i + 1 => g i (dT g v i)
noncomputable def dLk (A : Ab) (k : Int) (v : Int64) : Int64 := dmx (dmx (dmx (dS (fun j => (ni (kv A k (j : Int))).toInt64) v 10) (msk A k)) (ni (lev A k 0)).toInt64) (ni (lev A k 1)).toInt64
noncomputable def dC0 (A : Ab) (v : Int64) : Int64 := dS (fun j => (ni (nv A (j : Int))).toInt64) v 7
noncomputable def dC1 (A : Ab) (v : Int64) : Int64 := dT (fun c v => dS (fun j => (ni (cv A (c : Int) (j : Int))).toInt64) v 6) v (nn A).toNat
noncomputable def dC2 (A : Ab) (v : Int64) : Int64 := dT (fun x v => dLk A (pof A (x : Int)) v) v (lown A 36).toNat
noncomputable def dC3 (A : Ab) (v : Int64) : Int64 := dS (fun j => balV A (j : Int)) v 4
theorem c_d0 {Mc : Mem} {A : Ab} (hC : RW 1 Mc A) (hW : WF A) (hB : BS A) (v : Int64) : lpR (fun s => LL_digest_L17 s.1 s.2 Mc) FUEL (v, (0 : Int32)) = some (dC0 A v) := by
  refine lpR_to (fun i => (dS (fun j => (ni (nv A (j : Int))).toInt64) v i, ni (i : Int))) _ 7 (by omega) ?_ ?_ rfl
  · intro i hi
    unfold LL_digest_L17
    dsimp only
    simp (disch := omega) only [show (6 : Int32) = ni 6 from rfl, ni_lt, ni_s]
    rw [if_neg (by omega), c_count hC hW hB (by omega), b1_s]
    rfl
  · unfold LL_digest_L17
    dsimp only
    rw [if_pos (by decide)]
    rfl
theorem c_d1 {Mc : Mem} {A : Ab} (hC : RW 1 Mc A) (hW : WF A) (hB : BS A) (v : Int64) : lpR (fun s => LL_digest_L42 s.1 s.2 Mc) FUEL (v, (0 : Int32)) = some (dC1 A v) := by
  have hn := nn_bd hW.1
  refine lpR_to (fun i => (dT (fun c v => dS (fun j => (ni (cv A (c : Int) (j : Int))).toInt64) v 6) v i, ni (i : Int))) _ (nn A).toNat (by omega) ?_ ?_ rfl
  · intro c hc
    have inner : ∀ u : Int64, lpR (fun s => LL_digest_L59 (ni (c : Int)) s.1 s.2 Mc) FUEL (u, (0 : Int32)) = some (dS (fun j => (ni (cv A (c : Int) (j : Int))).toInt64) u 6) := by
      intro u
      refine lpR_to (fun i => (dS (fun j => (ni (cv A (c : Int) (j : Int))).toInt64) u i, ni (i : Int))) _ 6 (by omega) ?_ ?_ rfl
      · intro i hi
        unfold LL_digest_L59
        dsimp only
        simp (disch := omega) only [show (5 : Int32) = ni 5 from rfl, ni_lt, ni_s]
        rw [if_neg (by omega), c_cell hC hW hB (by omega) (by omega) (by omega), b1_s]
        rfl
      · unfold LL_digest_L59
        dsimp only
        rw [if_pos (by decide)]
    unfold LL_digest_L42
    dsimp only
    rw [hC.1.1.1.2.2.1]
    simp (disch := omega) only [ni_le, ni_s]
    rw [if_neg (by omega), inner, b1_s]
    rfl
  · unfold LL_digest_L42
    dsimp only
    rw [hC.1.1.1.2.2.1]
    simp (disch := omega) only [ni_le]
    rw [if_pos (by omega)]
    rfl
theorem c_d2 {Mc M : Mem} {A : Ab} (hC : RW 1 Mc A) (hM : RM M A) (hW : WF A) (v : Int64) : lpR (fun s => LL_digest_L104 (ni (lown A 36)) s.1 s.2 Mc) FUEL (v, (0 : Int32)) = some (dC2 A v) := by
  have hle := lown_le A 36
  have hl0 : 0 ≤ lown A 36 := lown_nonneg A 36
  refine lpR_to (fun i => (dT (fun x v => dLk A (pof A (x : Int)) v) v i, ni (i : Int))) _ (lown A 36).toNat (by omega) ?_ ?_ rfl
  · intro x hx
    obtain ⟨c, c1, c2, c3, c4, c5, c6, c7, c8⟩ := pof_in hW.2.1 (n := (x : Int)) (by omega) (by omega)
    obtain ⟨M', a, b, _, _, _, _, hL⟩ := e_levels hM hW.1 hW.2.1 c5.1 (show pof A x < 72 by omega) c7
    have inner : ∀ u : Int64, lpR (fun s => LL_mixLake_L6 (ni (pof A (x : Int))) s.1 s.2 Mc) FUEL (u, (0 : Int32)) = some (dS (fun j => (ni (kv A (pof A (x : Int)) (j : Int))).toInt64) u 10) := by
      intro u
      refine lpR_to (fun i => (dS (fun j => (ni (kv A (pof A (x : Int)) (j : Int))).toInt64) u i, ni (i : Int))) _ 10 (by omega) ?_ ?_ rfl
      · intro i hi
        unfold LL_mixLake_L6
        dsimp only
        simp (disch := omega) only [show (9 : Int32) = ni 9 from rfl, ni_lt, ni_s]
        rw [if_neg (by omega), c_lake hC hW c5.1 c5.2 c6 c7 (by omega), b1_s]
        rfl
      · unfold LL_mixLake_L6
        dsimp only
        rw [if_pos (by decide)]
    have hm : fAtL 21 (ni (pof A (x : Int))) Mc = msk A (pof A (x : Int)) := hC.1.2.2.2.1 _ c5.1 c5.2
    unfold LL_digest_L104 LL_mixLake
    dsimp only
    simp (disch := omega) only [ni_le, ni_s]
    rw [if_neg (by omega), c_placeOf hC.1.2.2.2 hW.2.1 (by omega) (by omega), b1_s, inner, b1_s, show (0 : Int32) = ni 0 from rfl, show (1 : Int32) = ni 1 from rfl, c_level hC hW c5.1 c5.2 c6 c7 hL (by omega), b1_s, c_level hC hW c5.1 c5.2 c6 c7 hL (by omega), b1_s, hm, b1_s]
    rfl
  · unfold LL_digest_L104
    dsimp only
    simp (disch := omega) only [ni_le]
    rw [if_pos (by omega)]
    rfl
theorem c_d3 {Mc : Mem} {A : Ab} (hC : RW 1 Mc A) (hW : WF A) (v : Int64) : lpR (fun s => LL_digest_L137 s.1 s.2 Mc) FUEL (v, (0 : Int32)) = some (dC3 A v) := by
  refine lpR_to (fun i => (dS (fun j => balV A (j : Int)) v i, ni (i : Int))) _ 4 (by omega) ?_ ?_ rfl
  · intro i hi
    unfold LL_digest_L137
    dsimp only
    simp (disch := omega) only [show (3 : Int32) = ni 3 from rfl, ni_lt, ni_s]
    rw [if_neg (by omega), c_balance hC hW (by omega), b1_s]
    rfl
  · unfold LL_digest_L137
    dsimp only
    rw [if_pos (by decide)]
    rfl
theorem e_d0 {M : Mem} {A : Ab} (hM : RM M A) (hW : WF A) (hB : BS A) (v : Int64) : ∃ M', lpM (fun s M9 => MD_digest_L19 s.1 s.2 M9) FUEL (v, (0 : Int32)) M = some (dC0 A v, M') ∧ FS M M' := by
  have key : ∃ r M', lpM (fun s M9 => MD_digest_L19 s.1 s.2 M9) FUEL (v, (0 : Int32)) M = some (r, M') ∧ (r = dC0 A v ∧ FS M M') := by
    refine lpM_to 7 (by omega) (fun i s M' => s = (dS (fun j => (ni (nv A (j : Int))).toInt64) v i, ni (i : Int)) ∧ FS M M') _ ?_ ?_ ⟨rfl, FS.rfl'⟩
    · rintro i hi s M1 ⟨rfl, F⟩
      obtain ⟨M2, k1, k2⟩ := e_count (F.RM hM) hW hB (k := (i : Int)) (by omega)
      unfold MD_digest_L19
      dsimp only
      simp (disch := omega) only [show (7 : Int32) = ni 7 from rfl, ni_le, ni_s]
      rw [if_neg (by omega), k1, b2_s]
      exact ⟨_, M2, rfl, rfl, F.trans k2⟩
    · rintro s M1 ⟨rfl, F⟩
      unfold MD_digest_L19
      dsimp only
      rw [if_pos (by decide)]
      exact ⟨_, M1, rfl, rfl, F⟩
  obtain ⟨r, M', k1, rfl, k2⟩ := key
  exact ⟨M', k1, k2⟩
theorem e_d1 {M : Mem} {A : Ab} (hM : RM M A) (hW : WF A) (hB : BS A) (v : Int64) : ∃ M', lpM (fun s M9 => MD_digest_L44 s.1 s.2 M9) FUEL (v, (0 : Int32)) M = some (dC1 A v, M') ∧ FS M M' := by
  have hn := nn_bd hW.1
  have inner : ∀ (c : Nat) (u : Int64) (N : Mem), (c : Int) < nn A → RM N A → ∃ M', lpM (fun s M9 => MD_digest_L55 (ni (c : Int)) s.1 s.2 M9) FUEL (u, (0 : Int32)) N = some (dS (fun j => (ni (cv A (c : Int) (j : Int))).toInt64) u 6, M') ∧ FS N M' := by
    intro c u N hc hN
    have key : ∃ r M', lpM (fun s M9 => MD_digest_L55 (ni (c : Int)) s.1 s.2 M9) FUEL (u, (0 : Int32)) N = some (r, M') ∧ (r = dS (fun j => (ni (cv A (c : Int) (j : Int))).toInt64) u 6 ∧ FS N M') := by
      refine lpM_to 6 (by omega) (fun i s M' => s = (dS (fun j => (ni (cv A (c : Int) (j : Int))).toInt64) u i, ni (i : Int)) ∧ FS N M') _ ?_ ?_ ⟨rfl, FS.rfl'⟩
      · rintro i hi s M1 ⟨rfl, F⟩
        obtain ⟨M2, k1, k2⟩ := e_cell (F.RM hN) hW hB (c := (c : Int)) (k := (i : Int)) (by omega) hc (by omega)
        unfold MD_digest_L55
        dsimp only
        simp (disch := omega) only [show (6 : Int32) = ni 6 from rfl, ni_le, ni_s]
        rw [if_neg (by omega), k1, b2_s]
        exact ⟨_, M2, rfl, rfl, F.trans k2⟩
      · rintro s M1 ⟨rfl, F⟩
        unfold MD_digest_L55
        dsimp only
        rw [if_pos (by decide)]
        exact ⟨_, M1, rfl, rfl, F⟩
    obtain ⟨r, M', k1, rfl, k2⟩ := key
    exact ⟨M', k1, k2⟩
  have key : ∃ r M', lpM (fun s M9 => MD_digest_L44 s.1 s.2 M9) FUEL (v, (0 : Int32)) M = some (r, M') ∧ (r = dC1 A v ∧ FS M M') := by
    refine lpM_to (nn A).toNat (by omega) (fun i s M' => s = (dT (fun c v => dS (fun j => (ni (cv A (c : Int) (j : Int))).toInt64) v 6) v i, ni (i : Int)) ∧ FS M M') _ ?_ ?_ ⟨rfl, FS.rfl'⟩
    · rintro c hc s M1 ⟨rfl, F⟩
      obtain ⟨M2, k1, k2⟩ := inner c (dT (fun c v => dS (fun j => (ni (cv A (c : Int) (j : Int))).toInt64) v 6) v c) M1 (by omega) (F.RM hM)
      unfold MD_digest_L44
      dsimp only
      rw [e_many (F.RM hM)]
      simp (disch := omega) only [ni_le, ni_s]
      rw [if_neg (by omega), k1, b2_s]
      exact ⟨_, M2, rfl, rfl, F.trans k2⟩
    · rintro s M1 ⟨rfl, F⟩
      unfold MD_digest_L44
      dsimp only
      rw [e_many (F.RM hM)]
      simp (disch := omega) only [ni_le]
      rw [if_pos (by omega)]
      exact ⟨_, M1, rfl, rfl, F⟩
  obtain ⟨r, M', k1, rfl, k2⟩ := key
  exact ⟨M', k1, k2⟩
theorem e_d2 {M : Mem} {A : Ab} (hM : RM M A) (hW : WF A) (hB : BS A) (hO : OR M A) (v : Int64) : ∃ M', lpM (fun s M9 => MD_digest_L99 (ni (lown A 36)) s.1 s.2 M9) FUEL (v, (0 : Int32)) M = some (dC2 A v, M') ∧ FS M M' := by
  have hle := lown_le A 36
  have hl0 : 0 ≤ lown A 36 := lown_nonneg A 36
  have inner : ∀ (x : Nat) (u : Int64) (N : Mem), (x : Int) < lown A 36 → RM N A → OR N A → ∃ M', lpM (fun s M9 => MD_digest_L108 (ni (lown A 36)) (ni (x : Int)) s.1 s.2 M9) FUEL (u, (0 : Int32)) N = some (dS (fun j => (ni (kv A (pof A (x : Int)) (j : Int))).toInt64) u 10, M') ∧ FS N M' ∧ OR M' A := by
    intro x u N hx hN hON
    have key : ∃ r M', lpM (fun s M9 => MD_digest_L108 (ni (lown A 36)) (ni (x : Int)) s.1 s.2 M9) FUEL (u, (0 : Int32)) N = some (r, M') ∧ (r = dS (fun j => (ni (kv A (pof A (x : Int)) (j : Int))).toInt64) u 10 ∧ FS N M' ∧ OR M' A) := by
      refine lpM_to 10 (by omega) (fun i s M' => s = (dS (fun j => (ni (kv A (pof A (x : Int)) (j : Int))).toInt64) u i, ni (i : Int)) ∧ FS N M' ∧ OR M' A) _ ?_ ?_ ⟨rfl, FS.rfl', hON⟩
      · rintro i hi s M1 ⟨rfl, F, O1⟩
        obtain ⟨M2, k1, k2, k3⟩ := e_lake2 (F.RM hN) hW hB (x := (x : Int)) (j := (i : Int)) (by omega) hx (by omega)
        unfold MD_digest_L108
        dsimp only
        simp (disch := omega) only [show (10 : Int32) = ni 10 from rfl, ni_le, ni_s]
        rw [if_neg (by omega), k1, b2_s]
        exact ⟨_, M2, rfl, rfl, F.trans k2, k3⟩
      · rintro s M1 ⟨rfl, F, O1⟩
        unfold MD_digest_L108
        dsimp only
        rw [if_pos (by decide)]
        exact ⟨_, M1, rfl, rfl, F, O1⟩
    obtain ⟨r, M', k1, rfl, k2, k3⟩ := key
    exact ⟨M', k1, k2, k3⟩
  have key : ∃ r M', lpM (fun s M9 => MD_digest_L99 (ni (lown A 36)) s.1 s.2 M9) FUEL (v, (0 : Int32)) M = some (r, M') ∧ (r = dC2 A v ∧ FS M M') := by
    refine lpM_to (lown A 36).toNat (by omega) (fun i s M' => s = (dT (fun x v => dLk A (pof A (x : Int)) v) v i, ni (i : Int)) ∧ FS M M' ∧ OR M' A) _ ?_ ?_ ⟨rfl, FS.rfl', hO⟩
    · rintro x hx s M1 ⟨rfl, F, O1⟩
      obtain ⟨c, c1, c2, c3, c4, c5, c6, c7, c8⟩ := pof_in hW.2.1 (n := (x : Int)) (by omega) (by omega)
      obtain ⟨M2, k1, k2, k3⟩ := inner x (dT (fun x v => dLk A (pof A (x : Int)) v) v x) M1 (by omega) (F.RM hM) O1
      have F2 := F.trans k2
      obtain ⟨M3, l1, l2, l3⟩ := e_levelPart (F2.RM hM) hW (x := (x : Int)) (j := 0) (by omega) (by omega) (by omega)
      have F3 := F2.trans l2
      obtain ⟨M4, m1, m2, m3⟩ := e_levelPart (F3.RM hM) hW (x := (x : Int)) (j := 1) (by omega) (by omega) (by omega)
      have ho := k3.2 x (by omega)
      unfold MD_digest_L99
      dsimp only
      simp (disch := omega) only [ni_le, ni_s]
      rw [if_neg (by omega), k1, b2_s, ni_nat (by omega) (by omega), Int.toNat_natCast, ho, ni_inb (by omega) (by omega), ck_d (by omega), ixb 152 c5.1 (by omega) (152 : Int32) rfl, ck_t, ix 152 (by omega) c5.1 (by omega) (152 : Int32) rfl, RM_msk (F2.RM hM) c5.1 (by omega), show (0 : Int32) = ni 0 from rfl, l1, b2_s, show (1 : Int32) = ni 1 from rfl, m1, b2_s]
      exact ⟨_, M4, rfl, rfl, F3.trans m2, m3⟩
    · rintro s M1 ⟨rfl, F, O1⟩
      unfold MD_digest_L99
      dsimp only
      simp (disch := omega) only [ni_le]
      rw [if_pos (by omega)]
      exact ⟨_, M1, rfl, rfl, F⟩
  obtain ⟨r, M', k1, rfl, k2⟩ := key
  exact ⟨M', k1, k2⟩
theorem e_d3 {M : Mem} {A : Ab} (hM : RM M A) (hW : WF A) (v : Int64) : lpR (fun s => MD_digest_L189 s.1 s.2 M) FUEL (v, (0 : Int32)) = some (dC3 A v) := by
  refine lpR_to (fun i => (dS (fun j => balV A (j : Int)) v i, ni (i : Int))) _ 4 (by omega) ?_ ?_ rfl
  · intro i hi
    unfold MD_digest_L189
    dsimp only
    simp (disch := omega) only [show (4 : Int32) = ni 4 from rfl, ni_le, ni_s]
    rw [if_neg (by omega), e_balance hM hW (by omega), b1_s]
    rfl
  · unfold MD_digest_L189
    dsimp only
    rw [if_pos (by decide)]
    rfl
theorem sim26 : Sim26 Inv := by
  intro Mc Mm hI
  have hI0 := hI
  obtain ⟨A, hC, hM, hW, hw, hS, hT⟩ := hI
  obtain ⟨tl, tl0, t1, t2, t3⟩ := id hT
  obtain ⟨nx, cnt, S, s1, s2, s3, s4, s5, s6⟩ := id hS
  have hM1 : RM (sI Mm 0 4 (0 : Int32)) A := RM_of hM (fun k _ => rfl)
  obtain ⟨M2, a1, a2⟩ := e_d0 hM1 hW hw.2 (dmx (3049 : Int64) (ni tl).toInt64)
  have R2 := a2.RM hM1
  obtain ⟨M4, b1, b2'⟩ := e_d1 R2 hW hw.2 (dC0 A (dmx (3049 : Int64) (ni tl).toInt64))
  have F4 := a2.trans b2'
  have R4 := b2'.RM R2
  obtain ⟨M6, c1, c2, c3⟩ := e_orders R4 hW.1 hW.2.1
  have F6 := F4.trans (FrO_FS c2)
  have R6 := (FrO_FS c2).RM R4
  obtain ⟨M8, d1, d2⟩ := e_d2 R6 hW hw.2 c3 (dC1 A (dC0 A (dmx (3049 : Int64) (ni tl).toInt64)))
  have F8 := F6.trans d2
  have R8 := d2.RM R6
  have e3 : gI M8 0 3 = ni cnt := by rw [F8.2.1, sI_ne (by omega)]; exact s5
  refine ⟨dmx (dC3 A (dC2 A (dC1 A (dC0 A (dmx (3049 : Int64) (ni tl).toInt64))))) (ni cnt).toInt64, M8, ?_, ?_, Inv_FS (Inv_goes hI0 0) F8⟩
  · unfold LL_digest
    rw [t1, show LL_mix (3049 : Int64) (ni tl).toInt64 = dmx (3049 : Int64) (ni tl).toInt64 from rfl, c_d0 hC hW hw.2, b1_s, c_d1 hC hW hw.2, b1_s, c_total hC.1.2.2.2 hW.2.1, b1_s, c_d2 hC hM hW, b1_s, c_d3 hC hW, b1_s, s4]
    rfl
  · unfold MD_digest
    rw [sI_ne (by omega), t2, show MD_sums (3049 : Int64) (ni tl).toInt64 = dmx (3049 : Int64) (ni tl).toInt64 from rfl, a1, b2_s, b1, b2_s, c1, b2_s, c3.1, d1, b2_s, e_d3 R8 hW, b1_s, e3]
    rfl
theorem sim_all : SIM Inv := ⟨sim0, sim1, sim2, sim3, sim4, sim5, sim6, sim7, sim8, sim9, sim10, sim11, sim12, sim13, sim14, sim15, sim16, sim17, sim18, sim19, sim20, sim21, sim22, sim23, sim24, sim25, sim26⟩
