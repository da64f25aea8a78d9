/-! 98.parse: the two readings side by side -/
theorem e_entry {T : Nat → Int} {n p : Int} {M : Mem} {X : Ab} (h : PMx T n p M) (hT : TTx T n) (h0 : 0 ≤ p) (h1 : p < n) (hM : RM M X) (w : WFg X) : ∃ r M', MD_reads_L55 M = some (r, M') ∧ r = (if (enS T n p X).2.1 = -1 then (Sum.inl () : Unit ⊕ (Unit ⊕ Int32)) else Sum.inr (Sum.inr (0 : Int32))) ∧ MSx T n (enS T n p X) M' ∧ FX M M' := by
  have hn := hT.1
  have no : ∀ q M1 (X : Ab) (z : Int), 0 ≤ q → PMx T n q M1 → FX M M1 → ∃ r M', (some (Sum.inr (Sum.inr (0 : Int32)), M1) : Option ((Unit ⊕ (Unit ⊕ Int32)) × Mem)) = some (r, M') ∧ r = (if ((z, q, X) : Int × Int × Ab).2.1 = -1 then (Sum.inl () : Unit ⊕ (Unit ⊕ Int32)) else Sum.inr (Sum.inr (0 : Int32))) ∧ MSx T n (z, q, X) M' ∧ FX M M' := by
    intro q M1 X z q0 e1 e2
    rw [if_neg (show ¬ ((z, q, X) : Int × Int × Ab).2.1 = -1 by show ¬ q = -1; omega)]
    exact ⟨_, M1, rfl, rfl, MS_no e1 q0, e2⟩
  have fin : ∀ s M2, MSx T n s M2 → FX M M2 → ∃ r M', MD_reads_L55_J114 (bI (s.2.1 = -1)) M2 = some (r, M') ∧ r = (if s.2.1 = -1 then (Sum.inl () : Unit ⊕ (Unit ⊕ Int32)) else Sum.inr (Sum.inr (0 : Int32))) ∧ MSx T n s M' ∧ FX M M' := by
    intro s M2 e1 e2
    unfold MD_reads_L55_J114
    simp only [bI_n0]
    by_cases z : s.2.1 = -1
    · rw [if_pos z, if_pos z]; exact ⟨_, M2, rfl, rfl, e1, e2⟩
    · rw [if_neg z, if_neg z]; exact ⟨_, M2, rfl, rfl, e1, e2⟩
  unfold MD_reads_L55 MD_reads_L55_J113 enS
  rw [h.1, h.2.1]
  simp (disch := omega) only [ni_le]
  obtain ⟨M1, s1, s2, s3⟩ := e_passes (a := 59) h hT h0 (by omega) (by omega) (by omega)
  have R1 := s3.RM hM
  rw [if_neg (show ¬ n ≤ p by omega), show (59 : Int32) = ni 59 from rfl, s1, b2_s]
  simp only [bI_n0]
  by_cases q1 : tch T n p = 59
  · have i1 := tch_in hT h0 q1 (by omega)
    rw [if_pos q1] at s2
    obtain ⟨M2, t1, t2, t3⟩ := e_passes (a := 100) s2 hT (by omega) (by omega) (by omega) (by omega)
    have R2 := t3.RM R1
    rw [if_pos q1, if_pos q1, show (100 : Int32) = ni 100 from rfl, t1, b2_s]
    simp only [bI_z]
    by_cases q2 : tch T n (p + 1) = 100
    · have i2 := tch_in hT (by omega) q2 (by omega)
      rw [if_pos q2, show p + 1 + 1 = p + 2 by omega] at t2
      obtain ⟨M3, u1, u2, u3⟩ := e_drain t2 hT (by omega) (by omega) R2 w
      rw [if_neg (show ¬ ¬ tch T n (p + 1) = 100 from fun z => z q2), if_pos q2, u1, b2_s]
      exact fin _ M3 u2 ((s3.FX.trans t3.FX).trans u3)
    · rw [if_neg q2] at t2
      obtain ⟨M3, u1, u2, u3⟩ := e_passes (a := 103) t2 hT (by omega) (by omega) (by omega) (by omega)
      have R3 := u3.RM R2
      rw [if_pos q2, if_neg q2, show (103 : Int32) = ni 103 from rfl, u1, b2_s]
      simp only [bI_z]
      by_cases q3 : tch T n (p + 1) = 103
      · have i3 := tch_in hT (by omega) q3 (by omega)
        rw [if_pos q3, show p + 1 + 1 = p + 2 by omega] at u2
        obtain ⟨M4, x1, x2, x3⟩ := e_gate u2 hT (by omega) (by omega) R3 w
        rw [if_neg (show ¬ ¬ tch T n (p + 1) = 103 from fun z => z q3), if_pos q3, x1, b2_s]
        have e : (if bI ((gtS T n (p + 2) X).2.1 = -1) = 0 then (0 : Int32) else (1 : Int32)) = bI ((gtS T n (p + 2) X).2.1 = -1) := by
          by_cases z : (gtS T n (p + 2) X).2.1 = -1
          · rw [bI_t z]; rfl
          · rw [bI_f z]; rfl
        rw [e]
        exact fin _ M4 x2 (((s3.FX.trans t3.FX).trans u3.FX).trans x3)
      · rw [if_neg q3] at u2
        rw [if_pos q3, if_neg q3]
        unfold MD_reads_L55_J114
        rw [if_neg (by decide)]
        exact no (p + 1) M3 X p (by omega) u2 ((s3.FX.trans t3.FX).trans u3.FX)
  · rw [if_neg q1] at s2
    rw [if_neg q1, if_neg q1]
    exact no p M1 X p h0 s2 s3.FX
theorem e_entries {T : Nat → Int} {n : Int} {s : Int × Int × Ab} {M : Mem} (hT : TTx T n) (hs' : SKx n s) (h : MSx T n s M) (hf : s.2.1 = -1) : ∃ r M', lpM (fun s M9 => MD_reads_L55 M9) FUEL () M = some (r, M') ∧ r = (if (itS T n s 150).2.1 = -1 then (Sum.inl () : Unit ⊕ Int32) else Sum.inr (0 : Int32)) ∧ MSx T n (itS T n s 150) M' ∧ FX M M' := by
  have hn := hT.1
  obtain ⟨p1, p2⟩ := h.1 hf
  have st : ∀ i : Nat, i ≤ 150 → ¬ ((itS T n s i).2.1 = -1 ∧ (itS T n s i).1 < n) → itS T n s 150 = itS T n s i := by
    intro i hi z
    have := itS_stop z (150 - i)
    rw [show i + (150 - i) = 150 by omega] at this
    exact this
  refine lpM_wf (fun _ M' => ∃ i : Nat, (itS T n s i).2.1 = -1 ∧ (i : Int) ≤ (itS T n s i).1 ∧ PMx T n (itS T n s i).1 M' ∧ RM M' (itS T n s i).2.2 ∧ FX M M') (fun _ M' => (n - (gI M' 0 22).toInt).toNat) (fun r M' => r = (if (itS T n s 150).2.1 = -1 then (Sum.inl () : Unit ⊕ Int32) else Sum.inr (0 : Int32)) ∧ MSx T n (itS T n s 150) M' ∧ FX M M') ?_ FUEL () M ⟨0, hf, (hs'.2 hf).1.1, p1, p2, FX.rfl'⟩ ?_
  · rintro v M1 ⟨i, k1, k2, k3, k4, k5⟩
    have hk := itS_SK hT hs' i
    obtain ⟨⟨j1, j2⟩, j3, j4⟩ := hk.2 k1
    by_cases y : n ≤ (itS T n s i).1
    · have e := st i (by omega) (fun z => by have := z.2; omega)
      refine Or.inr ⟨Sum.inl (), M1, ?_, by rw [e, if_pos k1], by rw [e]; exact ⟨fun _ => ⟨k3, k4⟩, fun z => absurd k1 z⟩, k5⟩
      unfold MD_reads_L55
      rw [k3.1, k3.2.1]
      simp (disch := omega) only [ni_le]
      rw [if_pos y]
    · obtain ⟨r, M2, e1, e2, e3, e4⟩ := e_entry k3 hT j1 (by omega) k4 j3
      have hst : itS T n s (i + 1) = enS T n (itS T n s i).1 (itS T n s i).2.2 := by
        simp only [itS]
        rw [if_pos ⟨k1, by omega⟩]
      have pr := (enS_SK hT j1 j2 j3 j4).2
      rw [← hst] at e2 e3 pr
      have hk2 := itS_SK hT hs' (i + 1)
      by_cases z : (itS T n s (i + 1)).2.1 = -1
      · rw [if_pos z] at e2
        have pz := pr z
        refine Or.inl ⟨(), M2, by rw [e1, e2], ⟨i + 1, z, by omega, (e3.1 z).1, (e3.1 z).2, k5.trans e4⟩, ?_⟩
        show (n - (gI M2 0 22).toInt).toNat < (n - (gI M1 0 22).toInt).toNat
        have b2 := (hk2.2 z).1
        rw [(e3.1 z).1.2.1, k3.2.1, ni_toInt (by omega) (by omega), ni_toInt (by omega) (by omega)]
        omega
      · rw [if_neg z] at e2
        have e := st (i + 1) (by omega) (fun y => z y.1)
        refine Or.inr ⟨Sum.inr (0 : Int32), M2, by rw [e1, e2], by rw [e, if_neg z], by rw [e]; exact e3, k5.trans e4⟩
  · have b2 := (hs'.2 hf).1
    show (n - (gI M 0 22).toInt).toNat < 1000000000000
    rw [p1.2.1, ni_toInt (by omega) (by omega)]
    omega
theorem FrF_FX {M M' : Mem} (h : FrF M M') : FX M M' := ⟨by unfold gI; rw [h.1], by unfold gI; rw [h.1], by unfold gI; rw [h.1], fun q => by unfold gI; rw [h.1], fun q => h.2 3 q (by omega) (by omega), fun q => h.2 2 q (by omega) (by omega)⟩
theorem e_reads {T : Nat → Int} {n p : Int} {M : Mem} (hT : TTx T n) (h : PMx T n p M) : ∃ M', MD_reads M = some (bI ((rdS T n).2.1 = -1), M') ∧ MSx T n (rdS T n) M' ∧ FX M M' := by
  have hn := hT.1
  have h0 : PMx T n 0 (sI M 0 22 (0 : Int32)) := h.p 0
  have F0 : FX M (sI M 0 22 (0 : Int32)) := (FrN.rfl'.put (Or.inl rfl) _).FX
  unfold MD_reads rdS
  obtain ⟨M1, a1, a2, a3, a4⟩ := e_size h0 hT (by omega) (by omega)
  have F1 := F0.trans a4.FX
  rw [a1, b2_s]
  simp only [bI_n0]
  by_cases q1 : 49 ≤ tch T n 0 ∧ tch T n 0 ≤ 54
  · have i1 := tch_in hT (p := 0) (by omega) rfl (by omega)
    rw [if_pos q1, show (0 : Int) + 1 = 1 from rfl] at a2
    obtain ⟨M2, b1, b2', b3, b4⟩ := e_size a2 hT (by omega) (by omega)
    have F2 := F1.trans b4.FX
    rw [if_pos q1, if_pos q1, b1, b2_s]
    simp only [bI_n0]
    by_cases q2 : 49 ≤ tch T n 1 ∧ tch T n 1 ≤ 54
    · have i2 := tch_in hT (p := 1) (by omega) rfl (by omega)
      rw [if_pos q2, show (1 : Int) + 1 = 2 from rfl] at b2'
      have hW : 1 ≤ tch T n 0 - 48 ∧ tch T n 0 - 48 ≤ 6 := by omega
      have hH : 1 ≤ tch T n 1 - 48 ∧ tch T n 1 - 48 ≤ 6 := by omega
      obtain ⟨M3, c1, c2, c3⟩ := e_begins (M := M2) hW hH
      have x3 : PMx T n 2 M3 := b2'.fr (fun o q => by unfold gI; rw [c3.1])
      have F3 := F2.trans (FrF_FX c3)
      obtain ⟨M4, d1, d2, d3⟩ := e_passes (a := 58) x3 hT (by omega) (by omega) (by omega) (by omega)
      have R4 := d3.RM c2
      have F4 := F3.trans d3.FX
      rw [if_pos q2, if_pos q2, a3 q1, b3 q2, c1, b2_s, show (58 : Int32) = ni 58 from rfl, d1, b2_s]
      simp only [bI_z]
      by_cases q3 : tch T n 2 = 58
      · have i3 := tch_in hT (p := 2) (by omega) q3 (by omega)
        rw [if_pos q3, show (2 : Int) + 1 = 3 from rfl] at d2
        have w4 := fnd_WFg (G0_WFg hW hH)
        obtain ⟨M5, e1, e2, e3⟩ := e_heights d2 hT (by omega) (by omega) R4 w4 (fnd_LK _ _)
        rw [fnd_nn, G0_nn] at e1 e2
        have F5 := F4.trans e3
        have hk := hsS_SK hT (show (0 : Int) ≤ 3 by omega) (show 3 ≤ n by omega) w4 (fnd_LK _ _) ((tch T n 0 - 48) * (tch T n 1 - 48)).toNat (by rw [fnd_nn, G0_nn]; omega)
        rw [if_neg (show ¬ ¬ tch T n 2 = 58 from fun z => z q3), if_pos q3, e1, b2_s]
        simp only [bI_z, Classical.not_not]
        by_cases q4 : (hsS T n 3 (fnd (G0 (tch T n 0 - 48) (tch T n 1 - 48))) ((tch T n 0 - 48) * (tch T n 1 - 48)).toNat).2.1 = -1
        · obtain ⟨r, M6, f1, f2, f3, f4⟩ := e_entries hT hk.1 e2 q4
          rw [if_pos q4, f1, b2_s, f2]
          by_cases q5 : (itS T n (hsS T n 3 (fnd (G0 (tch T n 0 - 48) (tch T n 1 - 48))) ((tch T n 0 - 48) * (tch T n 1 - 48)).toNat) 150).2.1 = -1
          · rw [if_pos q5, bI_t q5]
            exact ⟨M6, rfl, f3, F5.trans f4⟩
          · rw [if_neg q5, bI_f q5]
            exact ⟨M6, rfl, f3, F5.trans f4⟩
        · have st := itS_stop (T := T) (n := n) (i := 0) (s := hsS T n 3 (fnd (G0 (tch T n 0 - 48) (tch T n 1 - 48))) ((tch T n 0 - 48) * (tch T n 1 - 48)).toNat) (fun z => q4 z.1) 150
          have st' : itS T n (hsS T n 3 (fnd (G0 (tch T n 0 - 48) (tch T n 1 - 48))) ((tch T n 0 - 48) * (tch T n 1 - 48)).toNat) 150 = hsS T n 3 (fnd (G0 (tch T n 0 - 48) (tch T n 1 - 48))) ((tch T n 0 - 48) * (tch T n 1 - 48)).toNat := st
          rw [if_neg q4, st', bI_f q4]
          exact ⟨M5, rfl, e2, F5⟩
      · rw [if_neg q3] at d2
        rw [if_pos q3, if_neg q3, bI_no (by omega)]
        exact ⟨M4, rfl, MS_no d2 (by omega), F4⟩
    · rw [if_neg q2] at b2'
      rw [if_neg q2, if_neg q2, bI_no (by omega)]
      exact ⟨M2, rfl, MS_no b2' (by omega), F2⟩
  · rw [if_neg q1] at a2
    rw [if_neg q1, if_neg q1, bI_no (by omega)]
    exact ⟨M1, rfl, MS_no a2 (by omega), F1⟩
theorem e_swap (M : Mem) : ∃ M', lpM (fun s M9 => MD_parse_L36 s M9) FUEL (0 : Int32) M = some ((), M') ∧ M'.1 = M.1 ∧ (∀ o q, o ≠ 1 → o ≠ 3 → M'.2 o q = M.2 o q) ∧ (∀ q, q < 513 → gL M' 1 q = gL M 3 q) ∧ ∀ q, q < 513 → gL M' 3 q = gL M 1 q := by
  have key : ∃ r M', lpM (fun s M9 => MD_parse_L36 s M9) FUEL (0 : Int32) M = some (r, M') ∧ (M'.1 = M.1 ∧ (∀ o q, o ≠ 1 → o ≠ 3 → M'.2 o q = M.2 o q) ∧ (∀ q, q < 513 → gL M' 1 q = gL M 3 q) ∧ ∀ q, q < 513 → gL M' 3 q = gL M 1 q) := by
    refine lpM_to 513 (by omega) (fun i s M' => s = ni (i : Int) ∧ M'.1 = M.1 ∧ (∀ o q, o ≠ 1 → o ≠ 3 → M'.2 o q = M.2 o q) ∧ (∀ q, q < i → gL M' 1 q = gL M 3 q) ∧ (∀ q, q < i → gL M' 3 q = gL M 1 q) ∧ (∀ q, i ≤ q → gL M' 1 q = gL M 1 q) ∧ ∀ q, i ≤ q → gL M' 3 q = gL M 3 q) _ ?_ ?_ ⟨rfl, rfl, fun _ _ _ _ => rfl, fun q hq => by omega, fun q hq => by omega, fun _ _ => rfl, fun _ _ => rfl⟩
    · rintro i hi s M1 ⟨rfl, f1, f2, f3, f4, f5, f6⟩
      unfold MD_parse_L36
      simp (disch := omega) only [show (513 : Int32) = ni 513 from rfl, ni_le, ni_inb, ni_nat, ni_s, Int.toNat_natCast]
      rw [if_neg (by omega), ck_d (by omega), ck_d (by omega), ck_d (by omega), ck_d (by omega), f5 i (by omega), f6 i (by omega)]
      refine ⟨_, _, rfl, rfl, f1, fun o q h1 h3 => ?_, fun q hq => ?_, fun q hq => ?_, fun q hq => ?_, fun q hq => ?_⟩
      · rw [← f2 o q h1 h3]; simp [sL, h1, h3]
      · by_cases z : q = i
        · simp [gL, sL, z]
        · have := f3 q (by omega)
          rw [← this]; simp [gL, sL, z]
      · by_cases z : q = i
        · simp [gL, sL, z]
        · have := f4 q (by omega)
          rw [← this]; simp [gL, sL, z]
      · have := f5 q (by omega)
        rw [← this]; simp [gL, sL, show q ≠ i by omega]
      · have := f6 q (by omega)
        rw [← this]; simp [gL, sL, show q ≠ i by omega]
    · rintro s M1 ⟨rfl, f1, f2, f3, f4, f5, f6⟩
      refine ⟨(), M1, ?_, f1, f2, f3, f4⟩
      unfold MD_parse_L36
      rw [if_pos (by decide)]
  obtain ⟨r, M', k1, k2⟩ := key
  exact ⟨M', k1, k2⟩
