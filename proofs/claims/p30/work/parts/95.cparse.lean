/-! 95.cparse: the class reads a landscape -/
theorem c_num {T : Nat → Int} {n p f : Int} {M : Mem} (h : PCx T n p f M) (hT : TTx T n) (h0 : 0 ≤ p) (h1 : p ≤ n) (f0 : -1 ≤ f) (f1 : f ≤ 150) : ∃ M', LT_readNumber M = some (ni (if f = -1 then nmx T n p else 0), M') ∧ PCx T n (if f = -1 then nmp T n p else p) (if f = -1 then (if nmo T n p then -1 else nmp T n p) else f) M' ∧ Fr (fun q => q = 94) M M' := c_number h hT h0 h1 f0 f1
theorem c_size {T : Nat → Int} {n p f : Int} {M : Mem} (h : PCx T n p f M) (hT : TTx T n) (h0 : 0 ≤ p) (h1 : p ≤ n) (f0 : -1 ≤ f) (f1 : f ≤ 150) : ∃ M', LT_readSize (6 : Int32) M = some (ni (tch T n p - 48), M') ∧ PCx T n (if f = -1 ∧ (49 ≤ tch T n p ∧ tch T n p ≤ 54) then p + 1 else p) (if f = -1 then (if 49 ≤ tch T n p ∧ tch T n p ≤ 54 then -1 else p) else f) M' ∧ Fr (fun q => q = 94) M M' := by
  have hb := tch_bd hT h0
  have hn := hT.1
  have jf : ∀ v : Int32, ∃ M', LT_readSize_J39 v M = some (v, M') ∧ PCx T n p (if f = -1 then p else f) M' ∧ Fr (fun q => q = 94) M M' := by
    intro v
    obtain ⟨M', e1, e2, e3⟩ := c_fail h p f0 f1
    refine ⟨M', ?_, e2, e3⟩
    unfold LT_readSize_J39
    rw [h.2.1, e1, b2_s]
  unfold LT_readSize
  rw [h.2.2.1, show (-1 : Int32) = ni (-1) from rfl]
  simp (disch := omega) only [ni_eq]
  rw [c_next h hT h0 h1, show (48 : Int32) = ni 48 from rfl, ni_sub, h.2.1]
  simp (disch := omega) only [show (1 : Int32) = ni 1 from rfl, show (6 : Int32) = ni 6 from rfl, ni_lt, ni_add]
  by_cases q : f = -1
  · rw [if_neg (fun z => z q), if_pos q]
    by_cases y : 49 ≤ tch T n p ∧ tch T n p ≤ 54
    · rw [if_neg (by omega), if_neg (by omega), if_pos ⟨q, y⟩, if_pos y]
      rw [q] at h
      exact ⟨_, rfl, h.p _, Fr.sI rfl⟩
    · obtain ⟨M', e1, e2, e3⟩ := jf (ni (tch T n p - 48))
      rw [if_pos q] at e2
      rw [if_neg (fun z : f = -1 ∧ (49 ≤ tch T n p ∧ tch T n p ≤ 54) => y z.2), if_neg y]
      refine ⟨M', ?_, e2, e3⟩
      by_cases z : tch T n p - 48 < 1
      · rw [if_pos z]; exact e1
      · rw [if_neg z, if_pos (by omega)]; exact e1
  · obtain ⟨M', e1, e2, e3⟩ := jf (ni (tch T n p - 48))
    rw [if_neg q] at e2
    rw [if_pos q, if_neg (fun z => q z.1), if_neg q]
    exact ⟨M', e1, e2, e3⟩
theorem c_gate58F {T : Nat → Int} {n p f : Int} {M : Mem} (h : PCx T n p f M) (hT : TTx T n) (h0 : 0 ≤ p) (h1 : p ≤ n) (f0 : 0 ≤ f) (f1 : f ≤ n) (a b : Int32) : ∃ M', LT_readGate_J58 48 a b M = some ((), M') ∧ PCx T n p f M' ∧ Fr (fun q => q = 94) M M' := by
  have hn := hT.1
  obtain ⟨M1, a1, a2, a3⟩ := c_sign (a := 44) h hT h0 h1 (by omega) (by omega) (by omega) (by omega)
  rw [if_neg (fun z => by have := z.1; omega), if_neg (by omega)] at a2
  obtain ⟨M2, b1, b2', b3⟩ := c_num a2 hT h0 h1 (by omega) (by omega)
  rw [if_neg (by omega), if_neg (by omega)] at b2'
  unfold LT_readGate_J58
  rw [show (44 : Int32) = ni 44 from rfl, a1, b2_s, b1, b2_s, b2'.2.2.1, show (-1 : Int32) = ni (-1) from rfl]
  simp (disch := omega) only [ni_eq]
  rw [if_pos (by omega)]
  exact ⟨M2, rfl, b2', a3.trans b3⟩
theorem c_gate23F {T : Nat → Int} {n p f : Int} {M : Mem} {X : Ab} (h : PCx T n p f M) (hT : TTx T n) (h0 : 0 ≤ p) (h1 : p ≤ n) (f0 : 0 ≤ f) (f1 : f ≤ n) (hG : RG 48 M X) (w : WFg X) {a : Int} (a0 : 0 ≤ a) (a1 : a ≤ 99) : ∃ M', LT_readGate_J23 48 (ni a) M = some ((), M') ∧ PCx T n p f M' ∧ Fr (fun q => q = 94) M M' := by
  have hn := hT.1
  have hnn := nn_bd w
  obtain ⟨M1, s1, s2, s3⟩ := c_sign (a := 44) h hT h0 h1 (by omega) (by omega) (by omega) (by omega)
  rw [if_neg (fun z => by have := z.1; omega), if_neg (by omega)] at s2
  obtain ⟨M2, t1, t2, t3⟩ := c_num s2 hT h0 h1 (by omega) (by omega)
  rw [if_neg (by omega), if_neg (by omega)] at t2
  rw [if_neg (by omega)] at t1
  have G2 : RG 48 M2 X := RG_94 hG (s3.trans t3)
  unfold LT_readGate_J23
  rw [show (44 : Int32) = ni 44 from rfl, s1, b2_s, t1, b2_s, c_sideTo G2 w (by omega) (by omega) (by omega) (by omega), b1_s]
  by_cases z : ni (if pair X a 0 then 4 * a + sd X a 0 else -1) = (-1 : Int32)
  · rw [if_neg (fun y => y z)]
    obtain ⟨M3, u1, u2, u3⟩ := c_fail t2 p (by omega) (by omega)
    rw [if_neg (by omega)] at u2
    obtain ⟨M4, v1, v2, v3⟩ := c_gate58F u2 hT h0 h1 f0 f1 (ni a) (ni 0)
    rw [s2.2.1, u1, b2_s, v1]
    exact ⟨M4, rfl, v2, ((s3.trans t3).trans u3).trans v3⟩
  · rw [if_pos z]
    obtain ⟨M4, v1, v2, v3⟩ := c_gate58F t2 hT h0 h1 f0 f1 (ni a) (ni 0)
    rw [v1]
    exact ⟨M4, rfl, v2, (s3.trans t3).trans v3⟩
theorem c_gateF {T : Nat → Int} {n p f : Int} {M : Mem} {X : Ab} (h : PCx T n p f M) (hT : TTx T n) (h0 : 0 ≤ p) (h1 : p ≤ n) (f0 : 0 ≤ f) (f1 : f ≤ n) (hG : RG 48 M X) (w : WFg X) : ∃ M', LT_readGate 48 M = some ((), M') ∧ PCx T n p f M' ∧ Fr (fun q => q = 94) M M' := by
  have hn := hT.1
  have hnn := nn_bd w
  obtain ⟨M2, t1, t2, t3⟩ := c_num h hT h0 h1 (by omega) (by omega)
  rw [if_neg (by omega), if_neg (by omega)] at t2
  rw [if_neg (by omega)] at t1
  have G2 : RG 48 M2 X := RG_94 hG t3
  obtain ⟨M3, u1, u2, u3⟩ := c_gate23F t2 hT h0 h1 f0 f1 G2 w (a := 0) (by omega) (by omega)
  unfold LT_readGate
  rw [t1, b2_s, c_exists G2 w (by omega) (by omega)]
  simp only [bI_n0]
  rw [if_pos (by omega)]
  exact ⟨M3, u1, u2, t3.trans u3⟩
theorem c_drainF {T : Nat → Int} {n p f : Int} {M : Mem} {X : Ab} (h : PCx T n p f M) (hT : TTx T n) (h0 : 0 ≤ p) (h1 : p ≤ n) (f0 : 0 ≤ f) (f1 : f ≤ n) (hG : RG 48 M X) (w : WFg X) : ∃ M', LT_readDrain 48 M = some ((), M') ∧ PCx T n p f M' ∧ Fr (fun q => q = 94) M M' := by
  have hn := hT.1
  have hnn := nn_bd w
  obtain ⟨M2, t1, t2, t3⟩ := c_num h hT h0 h1 (by omega) (by omega)
  rw [if_neg (by omega), if_neg (by omega)] at t2
  rw [if_neg (by omega)] at t1
  have G2 : RG 48 M2 X := RG_94 hG t3
  unfold LT_readDrain LT_readDrain_J23
  rw [t1, b2_s, c_exists G2 w (by omega) (by omega)]
  simp only [bI_n0]
  rw [if_pos (by omega), t2.2.2.1, show (-1 : Int32) = ni (-1) from rfl]
  simp (disch := omega) only [ni_eq]
  rw [if_pos (by omega)]
  exact ⟨M2, rfl, t2, t3⟩
theorem CX_no {T : Nat → Int} {n q p f : Int} {X : Ab} {M : Mem} (h : PCx T n q f M) (q0 : 0 ≤ q) (q1 : q ≤ n) (f0 : 0 ≤ f) : CSx T n (p, f, X) M := ⟨q, ⟨q0, q1⟩, h, fun z => absurd z (by show ¬ f = -1; omega)⟩
theorem c_drain {T : Nat → Int} {n p : Int} {M : Mem} {X : Ab} (h : PCx T n p (-1) M) (hT : TTx T n) (h0 : 0 ≤ p) (h1 : p ≤ n) (hG : RG 48 M X) (w : WFg X) : ∃ M', LT_readDrain 48 M = some ((), M') ∧ CSx T n (drS T n p X) M' ∧ F48 M M' := by
  have hn := hT.1
  have hnn := nn_bd w
  have b := nmp_bd hT h0 h1
  have bv := nmx_bd T n p
  obtain ⟨M2, t1, t2, t3⟩ := c_num h hT h0 h1 (by omega) (by omega)
  rw [if_pos rfl, if_pos rfl] at t2
  rw [if_pos rfl] at t1
  have G2 : RG 48 M2 X := RG_94 hG t3
  unfold LT_readDrain drS
  rw [t1, b2_s, c_exists G2 w (by omega) (by omega)]
  simp only [bI_n0]
  by_cases q1 : nmo T n p
  · rw [if_pos q1] at t2
    rw [if_pos q1]
    by_cases q2 : nmx T n p < nn X
    · rw [if_pos ⟨bv.1, q2⟩, if_pos q2]
      unfold LT_readDrain_J23 GR_putDrain
      rw [t2.2.2.1, show (-1 : Int32) = ni (-1) from rfl, if_neg (fun z => z rfl), if_neg (by decide), G2.1.2.2.2, LL_bit_eq, b2_s]
      have F : Fr (fun p => p = 48) M2 (sL M2 48 3 (drn X ||| sbit (nmx T n p))) := Fr.sL rfl
      exact ⟨_, rfl, ⟨_, ⟨by omega, b.2⟩, t2.fr F (by omega) (by omega), fun _ => ⟨rfl, RG_dr (g := 48) G2 _⟩⟩, (F48_a t3).trans (F.mono (fun p hp => by omega))⟩
    · rw [if_neg (fun z => q2 z.2), if_neg q2]
      obtain ⟨M3, u1, u2, u3⟩ := c_fail t2 p (by omega) (by omega)
      rw [if_pos rfl] at u2
      unfold LT_readDrain_J23
      rw [h.2.1, u1, b2_s, u2.2.2.1, show (-1 : Int32) = ni (-1) from rfl]
      simp (disch := omega) only [ni_eq]
      rw [if_pos (by omega)]
      exact ⟨M3, rfl, CX_no u2 (by omega) b.2 h0, F48_a (t3.trans u3)⟩
  · rw [if_neg q1] at t2
    rw [if_neg q1]
    have fin : ∀ M3, PCx T n (nmp T n p) (nmp T n p) M3 → F48 M M3 → ∃ M', LT_readDrain_J23 48 (ni (nmx T n p)) M3 = some ((), M') ∧ CSx T n (nmp T n p, nmp T n p, X) M' ∧ F48 M M' := by
      intro M3 u2 u3
      unfold LT_readDrain_J23
      rw [u2.2.2.1, show (-1 : Int32) = ni (-1) from rfl]
      simp (disch := omega) only [ni_eq]
      rw [if_pos (by omega)]
      exact ⟨M3, rfl, CX_no u2 (by omega) b.2 (by omega), u3⟩
    split
    · exact fin M2 t2 (F48_a t3)
    · obtain ⟨M3, u1, u2, u3⟩ := c_fail t2 p (by omega) (by omega)
      rw [if_neg (by omega)] at u2
      rw [h.2.1, u1, b2_s]
      exact fin M3 u2 (F48_a (t3.trans u3))
theorem c_gate {T : Nat → Int} {n p : Int} {M : Mem} {X : Ab} (h : PCx T n p (-1) M) (hT : TTx T n) (h0 : 0 ≤ p) (h1 : p ≤ n) (hG : RG 48 M X) (w : WFg X) : ∃ M', LT_readGate 48 M = some ((), M') ∧ CSx T n (gtS T n p X) M' ∧ F48 M M' := by
  have hn := hT.1
  have hnn := nn_bd w
  have b := nmp_bd hT h0 h1
  have bv := nmx_bd T n p
  obtain ⟨M2, t1, t2, t3⟩ := c_num h hT h0 h1 (by omega) (by omega)
  rw [if_pos rfl, if_pos rfl] at t2
  rw [if_pos rfl] at t1
  have G2 : RG 48 M2 X := RG_94 hG t3
  unfold LT_readGate gtS
  rw [t1, b2_s, c_exists G2 w (by omega) (by omega)]
  simp only [bI_n0]
  by_cases q1 : nmo T n p
  · rw [if_pos q1] at t2
    rw [if_pos q1]
    by_cases q2 : nmx T n p < nn X
    · rw [if_pos ⟨bv.1, q2⟩, if_pos q2]
      unfold LT_readGate_J23
      obtain ⟨M3, s1, s2, s3⟩ := c_sign (a := 44) t2 hT (by omega) b.2 (by omega) (by omega) (by omega) (by omega)
      rw [if_pos rfl] at s2
      rw [show (44 : Int32) = ni 44 from rfl, s1, b2_s]
      have G3 := RG_94 G2 s3
      by_cases q3 : tch T n (nmp T n p) = 44
      · have i3 := tch_in hT (by omega) q3 (by omega)
        have b2 := nmp_bd hT (p := nmp T n p + 1) (by omega) i3
        have bv2 := nmx_bd T n (nmp T n p + 1)
        rw [if_pos ⟨rfl, q3⟩, if_pos q3] at s2
        rw [if_pos q3]
        obtain ⟨M4, r1, r2, r3⟩ := c_num s2 hT (by omega) i3 (by omega) (by omega)
        rw [if_pos rfl, if_pos rfl] at r2
        rw [if_pos rfl] at r1
        have G4 := RG_94 G3 r3
        rw [r1, b2_s, c_sideTo G4 w (by omega) (by omega) (by omega) (by omega), b1_s, s2.2.1]
        by_cases q4 : nmo T n (nmp T n p + 1)
        · rw [if_pos q4] at r2
          rw [if_pos q4]
          by_cases q5 : pair X (nmx T n p) (nmx T n (nmp T n p + 1))
          · obtain ⟨sd1, _⟩ := sd_ok q5
            rw [if_pos q5, if_pos q5, show (-1 : Int32) = ni (-1) from rfl]
            simp (disch := omega) only [ni_eq]
            rw [if_pos (by omega)]
            unfold LT_readGate_J58
            obtain ⟨M5, u1, u2, u3⟩ := c_sign (a := 44) r2 hT (by omega) b2.2 (by omega) (by omega) (by omega) (by omega)
            rw [if_pos rfl] at u2
            rw [show (44 : Int32) = ni 44 from rfl, u1, b2_s]
            have G5 := RG_94 G4 u3
            by_cases q6 : tch T n (nmp T n (nmp T n p + 1)) = 44
            · have i6 := tch_in hT (by omega) q6 (by omega)
              have b3 := nmp_bd hT (p := nmp T n (nmp T n p + 1) + 1) (by omega) i6
              have bv3 := nmx_bd T n (nmp T n (nmp T n p + 1) + 1)
              rw [if_pos ⟨rfl, q6⟩, if_pos q6] at u2
              rw [if_pos q6]
              obtain ⟨M6, x1, x2, x3⟩ := c_num u2 hT (by omega) i6 (by omega) (by omega)
              rw [if_pos rfl, if_pos rfl] at x2
              rw [if_pos rfl] at x1
              have G6 := RG_94 G5 x3
              rw [x1, b2_s, x2.2.2.1]
              by_cases q7 : nmo T n (nmp T n (nmp T n p + 1) + 1)
              · rw [if_pos q7] at x2
                rw [if_pos q7, if_pos q7, show (-1 : Int32) = ni (-1) from rfl, if_neg (fun z => z rfl), c_putGate G6 w q5, b2_s]
                have F : Fr (fun p => p = 54) M6 (fPutI (48 + 5) (ni (4 * nmx T n (nmp T n p + 1) + sd X (nmx T n (nmp T n p + 1)) (nmx T n p))) (ni (nmx T n (nmp T n (nmp T n p + 1) + 1))) (fPutI (48 + 5) (ni (4 * nmx T n p + sd X (nmx T n p) (nmx T n (nmp T n p + 1)))) (ni (nmx T n (nmp T n (nmp T n p + 1) + 1))) M6)) := (Fr.put (P := fun p => p = 54) rfl).trans (Fr.put rfl)
                refine ⟨_, rfl, ⟨_, ⟨by omega, b3.2⟩, x2.fr F (by omega) (by omega), fun _ => ⟨rfl, RG_gate (g := 48) G6 (sz_w (w := 47) (Or.inr (Or.inl rfl))).1 w q5 (pair_sy w q5) _⟩⟩, ?_⟩
                exact (F48_a ((((t3.trans s3).trans r3).trans u3).trans x3)).trans (F.mono (fun p hp => by omega))
              · rw [if_neg q7] at x2
                rw [if_neg q7, if_neg q7, show (-1 : Int32) = ni (-1) from rfl]
                simp (disch := omega) only [ni_eq]
                rw [if_pos (by omega)]
                exact ⟨M6, rfl, CX_no x2 (by omega) b3.2 (by omega), F48_a ((((t3.trans s3).trans r3).trans u3).trans x3)⟩
            · rw [if_neg (fun z => q6 z.2), if_neg q6] at u2
              rw [if_neg q6]
              obtain ⟨M6, x1, x2, x3⟩ := c_num u2 hT (by omega) b2.2 (by omega) (by omega)
              rw [if_neg (by omega), if_neg (by omega)] at x2
              rw [x1, b2_s, x2.2.2.1, show (-1 : Int32) = ni (-1) from rfl]
              simp (disch := omega) only [ni_eq]
              rw [if_pos (by omega)]
              exact ⟨M6, rfl, CX_no x2 (by omega) b2.2 (by omega), F48_a ((((t3.trans s3).trans r3).trans u3).trans x3)⟩
          · rw [if_neg q5, if_neg q5, show (-1 : Int32) = ni (-1) from rfl, if_neg (fun z => z rfl)]
            obtain ⟨M5, u1, u2, u3⟩ := c_fail r2 (nmp T n p + 1) (by omega) (by omega)
            rw [if_pos rfl] at u2
            obtain ⟨M6, x1, x2, x3⟩ := c_gate58F u2 hT (by omega) b2.2 (by omega) (by omega) (ni (nmx T n p)) (ni (nmx T n (nmp T n p + 1)))
            rw [u1, b2_s, x1]
            exact ⟨M6, rfl, CX_no x2 (by omega) b2.2 (by omega), F48_a ((((t3.trans s3).trans r3).trans u3).trans x3)⟩
        · rw [if_neg q4] at r2
          rw [if_neg q4]
          by_cases z : ni (if pair X (nmx T n p) (nmx T n (nmp T n p + 1)) then 4 * (nmx T n p) + sd X (nmx T n p) (nmx T n (nmp T n p + 1)) else -1) = (-1 : Int32)
          · rw [if_neg (fun y => y z)]
            obtain ⟨M5, u1, u2, u3⟩ := c_fail r2 (nmp T n p + 1) (by omega) (by omega)
            rw [if_neg (by omega)] at u2
            obtain ⟨M6, x1, x2, x3⟩ := c_gate58F u2 hT (by omega) b2.2 (by omega) (by omega) (ni (nmx T n p)) (ni (nmx T n (nmp T n p + 1)))
            rw [u1, b2_s, x1]
            exact ⟨M6, rfl, CX_no x2 (by omega) b2.2 (by omega), F48_a ((((t3.trans s3).trans r3).trans u3).trans x3)⟩
          · rw [if_pos z]
            obtain ⟨M6, x1, x2, x3⟩ := c_gate58F r2 hT (by omega) b2.2 (by omega) (by omega) (ni (nmx T n p)) (ni (nmx T n (nmp T n p + 1)))
            rw [x1]
            exact ⟨M6, rfl, CX_no x2 (by omega) b2.2 (by omega), F48_a (((t3.trans s3).trans r3).trans x3)⟩
      · rw [if_neg (fun z => q3 z.2), if_neg q3] at s2
        rw [if_neg q3]
        obtain ⟨M4, r1, r2, r3⟩ := c_num s2 hT (by omega) b.2 (by omega) (by omega)
        rw [if_neg (by omega), if_neg (by omega)] at r2
        rw [if_neg (by omega)] at r1
        have G4 := RG_94 G3 r3
        rw [r1, b2_s, c_sideTo G4 w (by omega) (by omega) (by omega) (by omega), b1_s]
        by_cases z : ni (if pair X (nmx T n p) 0 then 4 * (nmx T n p) + sd X (nmx T n p) 0 else -1) = (-1 : Int32)
        · rw [if_neg (fun y => y z)]
          obtain ⟨M5, u1, u2, u3⟩ := c_fail r2 (nmp T n p) (by omega) (by omega)
          rw [if_neg (by omega)] at u2
          obtain ⟨M6, x1, x2, x3⟩ := c_gate58F u2 hT (by omega) b.2 (by omega) (by omega) (ni (nmx T n p)) (ni 0)
          rw [s2.2.1, u1, b2_s, x1]
          exact ⟨M6, rfl, CX_no x2 (by omega) b.2 (by omega), F48_a ((((t3.trans s3).trans r3).trans u3).trans x3)⟩
        · rw [if_pos z]
          obtain ⟨M6, x1, x2, x3⟩ := c_gate58F r2 hT (by omega) b.2 (by omega) (by omega) (ni (nmx T n p)) (ni 0)
          rw [x1]
          exact ⟨M6, rfl, CX_no x2 (by omega) b.2 (by omega), F48_a (((t3.trans s3).trans r3).trans x3)⟩
    · rw [if_neg (fun z => q2 z.2), if_neg q2]
      obtain ⟨M3, u1, u2, u3⟩ := c_fail t2 p (by omega) (by omega)
      rw [if_pos rfl] at u2
      obtain ⟨M4, x1, x2, x3⟩ := c_gate23F u2 hT (by omega) b.2 h0 h1 (RG_94 G2 u3) w bv.1 bv.2
      rw [h.2.1, u1, b2_s, x1]
      exact ⟨M4, rfl, CX_no x2 (by omega) b.2 h0, F48_a ((t3.trans u3).trans x3)⟩
  · rw [if_neg q1] at t2
    rw [if_neg q1]
    split
    · obtain ⟨M4, x1, x2, x3⟩ := c_gate23F t2 hT (by omega) b.2 (by omega) b.2 G2 w bv.1 bv.2
      rw [x1]
      exact ⟨M4, rfl, CX_no x2 (by omega) b.2 (by omega), F48_a (t3.trans x3)⟩
    · obtain ⟨M3, u1, u2, u3⟩ := c_fail t2 p (by omega) (by omega)
      rw [if_neg (by omega)] at u2
      obtain ⟨M4, x1, x2, x3⟩ := c_gate23F u2 hT (by omega) b.2 (by omega) b.2 (RG_94 G2 u3) w bv.1 bv.2
      rw [h.2.1, u1, b2_s, x1]
      exact ⟨M4, rfl, CX_no x2 (by omega) b.2 (by omega), F48_a ((t3.trans u3).trans x3)⟩
