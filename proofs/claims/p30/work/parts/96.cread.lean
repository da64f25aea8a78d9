/-! 96.cread: the class reads a landscape: heights, entries, the whole -/
theorem c_heights {T : Nat → Int} {n p : Int} {M : Mem} {X : Ab} (h : PCx T n p (-1) M) (hT : TTx T n) (h0 : 0 ≤ p) (h1 : p ≤ n) (hG : RG 48 M X) (w : WFg X) (l : LK0 X) : ∃ M', LT_readHeights 48 M = some ((), M') ∧ CSx T n (hsS T n p X (nn X).toNat) M' ∧ F48 M M' := by
  have hn := hT.1
  have hnn := nn_bd w
  have key : ∃ r M', lpM (fun s M9 => LT_readHeights_L2 48 s M9) FUEL (0 : Int32) M = some (r, M') ∧ (CSx T n (hsS T n p X (nn X).toNat) M' ∧ F48 M M') := by
    refine lpM_to (nn X).toNat (by omega) (fun i s M' => s = ni (i : Int) ∧ CSx T n (hsS T n p X i) M' ∧ gI M' 48 2 = ni (nn X) ∧ F48 M M') _ ?_ ?_ ⟨rfl, ⟨p, ⟨h0, h1⟩, h, fun _ => ⟨rfl, hG⟩⟩, hG.1.2.2.1, Fr.rfl'⟩
    · rintro i hi s M1 ⟨rfl, ⟨q, hq, p1, p2⟩, p3, p4⟩
      obtain ⟨⟨kb, k1⟩, k2⟩ := hsS_SK hT h0 h1 w l i (by omega)
      unfold LT_readHeights_L2 LT_readHeights_L2_J20
      rw [p3]
      simp (disch := omega) only [show (0 : Int32) = ni 0 from rfl, ni_le, ni_s]
      rw [if_neg (by omega)]
      -- after the sign
      have num : ∀ q f M2, 0 ≤ q → q ≤ n → -1 ≤ f → f ≤ n → PCx T n q f M2 → gI M2 48 2 = ni (nn X) → F48 M M2 → ∃ M3, LT_readNumber M2 = some (ni (if f = -1 then nmx T n q else 0), M3) ∧ PCx T n (if f = -1 then nmp T n q else q) (if f = -1 then (if nmo T n q then -1 else nmp T n q) else f) (fPutI 49 (ni (i : Int)) (ni (if f = -1 then nmx T n q else 0)) M3) ∧ gI (fPutI 49 (ni (i : Int)) (ni (if f = -1 then nmx T n q else 0)) M3) 48 2 = ni (nn X) ∧ F48 M (fPutI 49 (ni (i : Int)) (ni (if f = -1 then nmx T n q else 0)) M3) ∧ Fr (fun p => p = 94) M2 M3 := by
        intro q f M2 g0 g1 f0 f1 e1 e2 e3
        obtain ⟨M3, t1, t2, t3⟩ := c_num e1 hT g0 g1 f0 (by omega)
        have F : Fr (fun p => p = 50) M3 (fPutI 49 (ni (i : Int)) (ni (if f = -1 then nmx T n q else 0)) M3) := Fr.put rfl
        refine ⟨M3, t1, t2.fr F (by omega) (by omega), ?_, (Fr.trans e3 (F48_a t3)).trans (F.mono (fun p hp => by omega)), t3⟩
        rw [F.gI (by omega), t3.gI (by omega), e2]
      by_cases q1 : (hsS T n p X i).2.1 = -1
      · obtain ⟨⟨j1, j2⟩, j3, j4⟩ := k1 q1
        obtain ⟨rfl, G1⟩ := p2 q1
        rw [q1] at p1
        simp only [hsS]
        rw [if_pos q1]
        have hw := htS_SK (i := i) (by rw [k2]; omega) hT j1 j2 j3 j4
        by_cases y : i = 0
        · rw [if_pos (by omega)]
          obtain ⟨M3, n1, n2, n3, n4, n5⟩ := num _ _ M1 j1 j2 (by omega) (by omega) p1 p3 p4
          rw [if_pos rfl, if_pos rfl] at n2
          rw [if_pos rfl] at n1
          rw [if_pos rfl] at n3 n4
          have b := nmp_bd hT j1 j2
          rw [if_pos rfl] at n2
          rw [n1, b2_s]
          refine ⟨_, _, rfl, rfl, ?_, n3, n4⟩
          unfold htS
          rw [if_neg (fun z => z.1 y)]
          simp only [if_pos y]
          by_cases z : nmo T n (hsS T n p X i).1
          · rw [if_pos z] at n2
            rw [if_pos z]
            exact ⟨_, ⟨by omega, b.2⟩, n2, fun _ => ⟨rfl, RG_ht (g := 48) (RG_94 G1 n5) (sz_w (w := 47) (Or.inr (Or.inl rfl))).1 (by omega) (by omega) _⟩⟩
          · rw [if_neg z] at n2
            rw [if_neg z]
            exact CX_no n2 (by omega) b.2 (by omega)
        · obtain ⟨M2, s1, s2, s3⟩ := c_sign (a := 44) p1 hT j1 j2 (by omega) (by omega) (by omega) (by omega)
          rw [if_pos rfl] at s2
          rw [if_neg (by omega), show (44 : Int32) = ni 44 from rfl, s1, b2_s]
          have e2 : gI M2 48 2 = ni (nn X) := by rw [s3.gI (by omega), p3]
          have e3 : F48 M M2 := Fr.trans p4 (F48_a s3)
          by_cases c : tch T n (hsS T n p X i).1 = 44
          · have i3 := tch_in hT j1 c (by omega)
            rw [if_pos ⟨rfl, c⟩, if_pos c] at s2
            obtain ⟨M3, n1, n2, n3, n4, n5⟩ := num _ _ M2 (by omega) i3 (by omega) (by omega) s2 e2 e3
            rw [if_pos rfl, if_pos rfl] at n2
            rw [if_pos rfl] at n1
            rw [if_pos rfl] at n3 n4
            have b := nmp_bd hT (p := (hsS T n p X i).1 + 1) (by omega) i3
            rw [if_pos rfl] at n2
            rw [n1, b2_s]
            refine ⟨_, _, rfl, rfl, ?_, n3, n4⟩
            unfold htS
            rw [if_neg (fun z => z.2 c)]
            simp only [if_neg y]
            by_cases z : nmo T n ((hsS T n p X i).1 + 1)
            · rw [if_pos z] at n2
              rw [if_pos z]
              exact ⟨_, ⟨by omega, b.2⟩, n2, fun _ => ⟨rfl, RG_ht (g := 48) (RG_94 (RG_94 G1 s3) n5) (sz_w (w := 47) (Or.inr (Or.inl rfl))).1 (by omega) (by omega) _⟩⟩
            · rw [if_neg z] at n2
              rw [if_neg z]
              exact CX_no n2 (by omega) b.2 (by omega)
          · rw [if_neg (fun z => c z.2), if_neg c] at s2
            obtain ⟨M3, n1, n2, n3, n4, n5⟩ := num _ _ M2 j1 j2 (by omega) j2 s2 e2 e3
            rw [if_neg (by omega), if_neg (by omega)] at n2
            rw [if_neg (by omega)] at n1
            rw [if_neg (by omega)] at n3 n4
            rw [if_neg (by omega)] at n2
            rw [n1, b2_s]
            refine ⟨_, _, rfl, rfl, ?_, n3, n4⟩
            unfold htS
            rw [if_pos ⟨y, c⟩]
            exact CX_no n2 j1 j2 j1
      · simp only [hsS]
        rw [if_neg q1]
        have fin : ∀ M2, PCx T n q (hsS T n p X i).2.1 M2 → gI M2 48 2 = ni (nn X) → F48 M M2 → ∃ s' M', (b2 (LT_readNumber M2) fun x1 M2 => some (Sum.inl (ni ((i + 1 : Nat) : Int)), fPutI (48 + 1) (ni (i : Int)) x1 M2)) = (some (Sum.inl s', M') : Option ((Int32 ⊕ Unit) × Mem)) ∧ s' = ni ((i + 1 : Nat) : Int) ∧ CSx T n (hsS T n p X i) M' ∧ gI M' 48 2 = ni (nn X) ∧ F48 M M' := by
          intro M2 e1 e2 e3
          obtain ⟨M3, n1, n2, n3, n4, n5⟩ := num q _ M2 hq.1 hq.2 kb.1 kb.2 e1 e2 e3
          rw [if_neg q1, if_neg q1] at n2
          rw [if_neg q1] at n1
          rw [if_neg q1] at n3 n4
          rw [if_neg q1] at n2
          rw [n1, b2_s]
          exact ⟨_, _, rfl, rfl, ⟨q, hq, n2, fun z => absurd z q1⟩, n3, n4⟩
        by_cases y : i = 0
        · rw [if_pos (by omega)]
          exact fin M1 p1 p3 p4
        · obtain ⟨M2, s1, s2, s3⟩ := c_sign (a := 44) p1 hT hq.1 hq.2 kb.1 (by omega) (by omega) (by omega)
          rw [if_neg (fun z => q1 z.1), if_neg q1] at s2
          rw [if_neg (by omega), show (44 : Int32) = ni 44 from rfl, s1, b2_s]
          exact fin M2 s2 (by rw [s3.gI (by omega), p3]) (Fr.trans p4 (F48_a s3))
    · rintro s M1 ⟨rfl, p1, p3, p4⟩
      refine ⟨(), M1, ?_, p1, p4⟩
      unfold LT_readHeights_L2
      rw [p3]
      simp (disch := omega) only [ni_le]
      rw [if_pos (by omega)]
  obtain ⟨r, M', k1, k2, k3⟩ := key
  refine ⟨M', ?_, k2, k3⟩
  unfold LT_readHeights
  rw [k1, b2_s]
theorem c_entry {T : Nat → Int} {n p : Int} {M : Mem} {X : Ab} {i : Int32} (h : PCx T n p (-1) M) (hT : TTx T n) (h0 : 0 ≤ p) (h1 : p < n) (hG : RG 48 M X) (w : WFg X) : ∃ M', (b2 (LT_readSign (59 : Int32) M) fun x1 M2 => LT_readInto_L52_J99 48 i (if ¬ (LT_next M2) = (100 : Int32) then (0 : Int32) else (1 : Int32)) M2) = some (.inl (i + (1 : Int32)), M') ∧ CSx T n (enS T n p X) M' ∧ F48 M M' := by
  have hn := hT.1
  obtain ⟨M1, s1, s2, s3⟩ := c_sign (a := 59) h hT h0 (by omega) (by omega) (by omega) (by omega) (by omega)
  rw [if_pos rfl] at s2
  have G1 := RG_94 hG s3
  rw [show (59 : Int32) = ni 59 from rfl, s1, b2_s]
  unfold LT_readInto_L52_J99 enS
  by_cases q1 : tch T n p = 59
  · rw [if_pos ⟨rfl, q1⟩, if_pos q1] at s2
    rw [if_pos q1]
    have hb := tch_bd hT (p := p + 1) (by omega)
    rw [c_next s2 hT (by omega) (by omega), show (100 : Int32) = ni 100 from rfl]
    simp (disch := omega) only [ni_eq]
    by_cases q2 : tch T n (p + 1) = 100
    · have i2 := tch_in hT (by omega) q2 (by omega)
      obtain ⟨M2, t1, t2, t3⟩ := c_sign (a := 100) s2 hT (by omega) (by omega) (by omega) (by omega) (by omega) (by omega)
      rw [if_pos rfl, if_pos ⟨rfl, q2⟩, if_pos q2] at t2
      obtain ⟨M3, u1, u2, u3⟩ := c_drain t2 hT (by omega) (by omega) (RG_94 G1 t3) w
      rw [show p + 1 + 1 = p + 2 by omega] at u2
      rw [if_pos q2, if_neg (fun z => z q2), if_neg (by decide)]
      unfold LT_readInto_L52_J114
      rw [t1, b2_s, if_neg (by decide), u1, b2_s]
      exact ⟨M3, rfl, u2, Fr.trans (F48_a (s3.trans t3)) u3⟩
    · rw [if_neg q2, if_pos q2, if_pos rfl]
      unfold LT_readInto_L52_J114
      obtain ⟨M2, t1, t2, t3⟩ := c_sign (a := 103) s2 hT (by omega) (by omega) (by omega) (by omega) (by omega) (by omega)
      rw [if_pos rfl] at t2
      rw [show (103 : Int32) = ni 103 from rfl, t1, b2_s, if_pos rfl]
      by_cases q3 : tch T n (p + 1) = 103
      · have i3 := tch_in hT (by omega) q3 (by omega)
        rw [if_pos ⟨rfl, q3⟩, if_pos q3] at t2
        rw [if_pos q3]
        obtain ⟨M3, u1, u2, u3⟩ := c_gate t2 hT (by omega) (by omega) (RG_94 G1 t3) w
        rw [show p + 1 + 1 = p + 2 by omega] at u2
        rw [u1, b2_s]
        exact ⟨M3, rfl, u2, Fr.trans (F48_a (s3.trans t3)) u3⟩
      · rw [if_neg (fun z => q3 z.2), if_neg q3] at t2
        rw [if_neg q3]
        obtain ⟨M3, u1, u2, u3⟩ := c_gateF t2 hT (by omega) (by omega) (by omega) (by omega) (RG_94 G1 t3) w
        rw [u1, b2_s]
        exact ⟨M3, rfl, CX_no u2 (by omega) (by omega) (by omega), F48_a ((s3.trans t3).trans u3)⟩
  · rw [if_neg (fun z => q1 z.2), if_neg q1] at s2
    rw [if_neg q1]
    have hb := tch_bd hT h0
    rw [c_next s2 hT (by omega) (by omega), show (100 : Int32) = ni 100 from rfl]
    simp (disch := omega) only [ni_eq]
    unfold LT_readInto_L52_J114
    by_cases q2 : tch T n p = 100
    · obtain ⟨M2, t1, t2, t3⟩ := c_sign (a := 100) s2 hT (by omega) (by omega) (by omega) (by omega) (by omega) (by omega)
      rw [if_neg (by omega), if_neg (by omega)] at t2
      obtain ⟨M3, u1, u2, u3⟩ := c_drainF t2 hT (by omega) (by omega) (by omega) (by omega) (RG_94 G1 t3) w
      rw [if_neg (show ¬ ¬ tch T n p = 100 from fun z => z q2), if_neg (by decide), t1, b2_s, if_neg (by decide), u1, b2_s]
      exact ⟨M3, rfl, CX_no u2 (by omega) (by omega) (by omega), F48_a ((s3.trans t3).trans u3)⟩
    · obtain ⟨M2, t1, t2, t3⟩ := c_sign (a := 103) s2 hT (by omega) (by omega) (by omega) (by omega) (by omega) (by omega)
      rw [if_neg (fun z => by have := z.1; omega), if_neg (by omega)] at t2
      obtain ⟨M3, u1, u2, u3⟩ := c_gateF t2 hT (by omega) (by omega) (by omega) (by omega) (RG_94 G1 t3) w
      rw [if_pos q2, if_pos rfl, show (103 : Int32) = ni 103 from rfl, t1, b2_s, if_pos rfl, u1, b2_s]
      exact ⟨M3, rfl, CX_no u2 (by omega) (by omega) (by omega), F48_a ((s3.trans t3).trans u3)⟩
theorem c_entries {T : Nat → Int} {n : Int} {s : Int × Int × Ab} {M : Mem} (hT : TTx T n) (hs' : SKx n s) (h : CSx T n s M) : ∃ M', LT_readInto_J49 48 M = some (ni (itS T n s 150).2.1, M') ∧ CSx T n (itS T n s 150) M' ∧ F48 M M' := by
  have hn := hT.1
  have key : ∃ r M', lpM (fun s M9 => LT_readInto_L52 48 s M9) FUEL (0 : Int32) M = some (r, M') ∧ (CSx T n (itS T n s 150) M' ∧ F48 M M') := by
    refine lpM_wf (fun v M' => ∃ i : Nat, i ≤ 150 ∧ v = ni (i : Int) ∧ CSx T n (itS T n s i) M' ∧ F48 M M') (fun v _ => (150 - v.toInt).toNat) (fun _ M' => CSx T n (itS T n s 150) M' ∧ F48 M M') ?_ FUEL _ _ ⟨0, by omega, rfl, h, Fr.rfl'⟩ (by decide)
    rintro v M1 ⟨i, hi, rfl, hc, hf⟩
    have hk := itS_SK hT hs' i
    unfold LT_readInto_L52
    obtain ⟨q, hq, p1, p2⟩ := id hc
    rw [p1.1, p1.2.1, p1.2.2.1]
    have kb := hk.1
    simp (disch := omega) only [show (150 : Int32) = ni 150 from rfl, show (-1 : Int32) = ni (-1) from rfl, ni_le, ni_eq]
    have st : ¬ ((itS T n s i).2.1 = -1 ∧ (itS T n s i).1 < n) → itS T n s 150 = itS T n s i := by
      intro z
      have := itS_stop z (150 - i)
      rw [show i + (150 - i) = 150 by omega] at this
      exact this
    by_cases y1 : 150 ≤ (i : Int)
    · rw [if_pos y1]
      obtain rfl : i = 150 := by omega
      exact Or.inr ⟨(), M1, rfl, hc, hf⟩
    · rw [if_neg y1]
      by_cases y2 : (itS T n s i).2.1 = -1
      · rw [if_neg (fun z => z y2)]
        obtain ⟨rfl, G1⟩ := p2 y2
        by_cases y3 : n ≤ (itS T n s i).1
        · rw [if_pos y3]
          refine Or.inr ⟨(), M1, rfl, ?_, hf⟩
          rw [st (fun z => by have := z.2; omega)]
          exact hc
        · rw [if_neg y3]
          rw [y2] at p1
          obtain ⟨M2, e1, e2, e3⟩ := c_entry (i := ni (i : Int)) p1 hT hq.1 (by omega) G1 (hk.2 y2).2.1
          refine Or.inl ⟨_, M2, e1, ⟨i + 1, by omega, ni_s i, ?_, Fr.trans hf e3⟩, ?_⟩
          · simp only [itS]
            rw [if_pos ⟨y2, by omega⟩]
            exact e2
          · show (150 - (ni (i : Int) + (1 : Int32)).toInt).toNat < (150 - (ni (i : Int)).toInt).toNat
            rw [ni_s, ni_toInt (by omega) (by omega), ni_toInt (by omega) (by omega)]
            omega
      · rw [if_pos y2]
        refine Or.inr ⟨(), M1, rfl, ?_, hf⟩
        rw [st (fun z => y2 z.1)]
        exact hc
  obtain ⟨r, M', k1, k2, k3⟩ := key
  refine ⟨M', ?_, k2, k3⟩
  unfold LT_readInto_J49
  obtain ⟨q, hq, p1, p2⟩ := id k2
  rw [k1, b2_s, p1.2.2.1]
/-- the whole reading -/
noncomputable def rdS (T : Nat → Int) (n : Int) : Int × Int × Ab :=
  if 49 ≤ tch T n 0 ∧ tch T n 0 ≤ 54 then
    (if 49 ≤ tch T n 1 ∧ tch T n 1 ≤ 54 then
      (if tch T n 2 = 58 then itS T n (hsS T n 3 (fnd (G0 (tch T n 0 - 48) (tch T n 1 - 48))) ((tch T n 0 - 48) * (tch T n 1 - 48)).toNat) 150
      else (2, 2, G0 1 1))
    else (1, 1, G0 1 1))
  else (0, 0, G0 1 1)
theorem fnd_LK (W H : Int) : LK0 (fnd (G0 W H)) := ⟨rfl, rfl, rfl⟩
theorem c_readInto {T : Nat → Int} {n p f : Int} {M : Mem} (hT : TTx T n) (h : PCx T n p f M) : ∃ M', LT_readInto 48 M = some (ni (rdS T n).2.1, M') ∧ CSx T n (rdS T n) M' ∧ SKx n (rdS T n) ∧ F48 M M' := by
  have hn := hT.1
  have h0 : PCx T n 0 (-1) (sI (sI M 94 2 (0 : Int32)) 94 3 (-1 : Int32)) := (h.p 0).f (-1)
  have F0 : Fr (fun p => p = 94) M (sI (sI M 94 2 (0 : Int32)) 94 3 (-1 : Int32)) := (Fr.sI (P := fun p => p = 94) rfl).trans (Fr.sI rfl)
  have bad : ∀ q f M1, 0 ≤ q → q ≤ n → 0 ≤ f → f ≤ n → PCx T n q f M1 → Fr (fun p => p = 94) M M1 → ∃ M', LT_readInto_J49 48 M1 = some (ni f, M') ∧ CSx T n (f, f, G0 1 1) M' ∧ SKx n (f, f, G0 1 1) ∧ F48 M M' := by
    intro q f M1 q0 q1 f0 f1 e1 e2
    obtain ⟨M', k1, k2, k3⟩ := c_entries (s := (f, f, G0 1 1)) hT (SK_no f0 f1) (CX_no e1 q0 q1 f0)
    have st : itS T n (f, f, G0 1 1) 150 = (f, f, G0 1 1) := itS_stop (i := 0) (fun z => by have : f = -1 := z.1; omega) 150
    rw [st] at k1 k2
    exact ⟨M', k1, k2, SK_no f0 f1, Fr.trans (F48_a e2) k3⟩
  unfold LT_readInto rdS
  obtain ⟨M1, a1, a2, a3⟩ := c_size h0 hT (by omega) (by omega) (by omega) (by omega)
  rw [if_pos rfl] at a2
  rw [a1, b2_s]
  have F1 := F0.trans a3
  by_cases q1 : 49 ≤ tch T n 0 ∧ tch T n 0 ≤ 54
  · have i1 := tch_in hT (p := 0) (by omega) rfl (by omega)
    rw [if_pos ⟨rfl, q1⟩, if_pos q1, show (0 : Int) + 1 = 1 from rfl] at a2
    rw [if_pos q1]
    obtain ⟨M2, b1, b2', b3⟩ := c_size a2 hT (by omega) (by omega) (by omega) (by omega)
    rw [if_pos rfl] at b2'
    rw [b1, b2_s]
    have F2 := F1.trans b3
    by_cases q2 : 49 ≤ tch T n 1 ∧ tch T n 1 ≤ 54
    · have i2 := tch_in hT (p := 1) (by omega) rfl (by omega)
      rw [if_pos ⟨rfl, q2⟩, if_pos q2, show (1 : Int) + 1 = 2 from rfl] at b2'
      rw [if_pos q2]
      obtain ⟨M3, c1, c2, c3⟩ := c_sign (a := 58) b2' hT (by omega) (by omega) (by omega) (by omega) (by omega) (by omega)
      rw [if_pos rfl] at c2
      rw [show (58 : Int32) = ni 58 from rfl, c1, b2_s, c2.2.2.1]
      have F3 := F2.trans c3
      by_cases q3 : tch T n 2 = 58
      · have i3 := tch_in hT (p := 2) (by omega) q3 (by omega)
        rw [if_pos ⟨rfl, q3⟩, if_pos q3, show (2 : Int) + 1 = 3 from rfl] at c2
        rw [if_pos q3, if_pos q3, show (-1 : Int32) = ni (-1) from rfl, if_neg (fun z => z rfl)]
        have hW : 1 ≤ tch T n 0 - 48 ∧ tch T n 0 - 48 ≤ 6 := by omega
        have hH : 1 ≤ tch T n 1 - 48 ∧ tch T n 1 - 48 ≤ 6 := by omega
        obtain ⟨M4, d1, d2, d3⟩ := c_lay (g := 48) (sz_w (w := 47) (Or.inr (Or.inl rfl))).1 (M := M3) hW hH
        have G4 : RG 48 M4 (fnd (G0 (tch T n 0 - 48) (tch T n 1 - 48))) := (fnd_ge _).RG d2
        have w4 := fnd_WFg (G0_WFg hW hH)
        have x4 : PCx T n 3 (-1) M4 := c2.fr d3 (by omega) (by omega)
        obtain ⟨M5, e1, e2, e3⟩ := c_heights x4 hT (by omega) (by omega) G4 w4 (fnd_LK _ _)
        rw [fnd_nn, G0_nn] at e2
        have hk := hsS_SK hT (show (0 : Int) ≤ 3 by omega) (show 3 ≤ n by omega) w4 (fnd_LK _ _) ((tch T n 0 - 48) * (tch T n 1 - 48)).toNat (by rw [fnd_nn, G0_nn]; omega)
        obtain ⟨M6, f1, f2, f3⟩ := c_entries hT hk.1 e2
        rw [d1, b2_s, e1, b2_s, f1]
        exact ⟨M6, rfl, f2, itS_SK hT hk.1 150, ((Fr.trans (F48_a F3) (d3.mono (fun p hp => by omega))).trans e3).trans f3⟩
      · rw [if_neg (fun z => q3 z.2), if_neg q3] at c2
        rw [if_neg q3, if_neg q3, show (-1 : Int32) = ni (-1) from rfl]
        simp (disch := omega) only [ni_eq]
        rw [if_pos (by omega)]
        exact bad 2 2 M3 (by omega) (by omega) (by omega) (by omega) c2 F3
    · rw [if_neg (fun z => q2 z.2), if_neg q2] at b2'
      rw [if_neg q2]
      obtain ⟨M3, c1, c2, c3⟩ := c_sign (a := 58) b2' hT (by omega) (by omega) (by omega) (by omega) (by omega) (by omega)
      rw [if_neg (by omega), if_neg (by omega)] at c2
      rw [show (58 : Int32) = ni 58 from rfl, c1, b2_s, c2.2.2.1, show (-1 : Int32) = ni (-1) from rfl]
      simp (disch := omega) only [ni_eq]
      rw [if_pos (by omega)]
      exact bad 1 1 M3 (by omega) (by omega) (by omega) (by omega) c2 (F2.trans c3)
  · rw [if_neg (fun z => q1 z.2), if_neg q1] at a2
    rw [if_neg q1]
    obtain ⟨M2, b1, b2', b3⟩ := c_size a2 hT (by omega) (by omega) (by omega) (by omega)
    rw [if_neg (fun z => by have := z.1; omega), if_neg (by omega)] at b2'
    obtain ⟨M3, c1, c2, c3⟩ := c_sign (a := 58) b2' hT (by omega) (by omega) (by omega) (by omega) (by omega) (by omega)
    rw [if_neg (fun z => by have := z.1; omega), if_neg (by omega)] at c2
    rw [b1, b2_s, show (58 : Int32) = ni 58 from rfl, c1, b2_s, c2.2.2.1, show (-1 : Int32) = ni (-1) from rfl]
    simp (disch := omega) only [ni_eq]
    rw [if_pos (by omega)]
    exact bad 0 0 M3 (by omega) (by omega) (by omega) (by omega) c2 ((F1.trans b3).trans c3)
