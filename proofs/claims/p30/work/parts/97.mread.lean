/-! 97.mread: the model reads a landscape -/
theorem e_size {T : Nat → Int} {n p : Int} {M : Mem} (h : PMx T n p M) (hT : TTx T n) (h0 : 0 ≤ p) (h1 : p ≤ n) : ∃ M', MD_readsSize M = some (bI (49 ≤ tch T n p ∧ tch T n p ≤ 54), M') ∧ PMx T n (if 49 ≤ tch T n p ∧ tch T n p ≤ 54 then p + 1 else p) M' ∧ ((49 ≤ tch T n p ∧ tch T n p ≤ 54) → gI M' 0 23 = ni (tch T n p - 48)) ∧ FrN M M' := by
  have hb := tch_bd hT h0
  have hn := hT.1
  have no : ¬ (49 ≤ tch T n p ∧ tch T n p ≤ 54) → ∃ M', MD_readsSize_J38 (0 : Int32) M = some (bI (49 ≤ tch T n p ∧ tch T n p ≤ 54), M') ∧ PMx T n (if 49 ≤ tch T n p ∧ tch T n p ≤ 54 then p + 1 else p) M' ∧ ((49 ≤ tch T n p ∧ tch T n p ≤ 54) → gI M' 0 23 = ni (tch T n p - 48)) ∧ FrN M M' := by
    intro y
    unfold MD_readsSize_J38 MD_readsSize_J60
    rw [if_pos rfl, if_pos rfl, bI_f y, if_neg y, sI_ne (by omega), h.2.1, show (0 : Int32) = ni 0 from rfl, ni_add, Int.add_zero]
    exact ⟨_, rfl, (h.v _).p _, fun z => absurd z y, (FrN.rfl'.put (Or.inr rfl) _).put (Or.inl rfl) _⟩
  unfold MD_readsSize MD_readsSize_J37
  rw [h.1, h.2.1]
  simp (disch := omega) only [ni_le]
  by_cases q : p < n
  · obtain ⟨e1, e2⟩ := e_char h hT h0 q
    rw [if_neg (by omega), e1, e2, ck_t, ni_64 (by omega) (by omega), show (49 : Int64) = nl 49 from rfl, show (54 : Int64) = nl 54 from rfl, e_in (by omega) (by omega) (by omega) (by omega) (by omega) (by omega)]
    simp only [bI_z]
    by_cases y : 49 ≤ tch T n p ∧ tch T n p ≤ 54
    · rw [if_neg (show ¬ ¬ (49 ≤ tch T n p ∧ tch T n p ≤ 54) from fun z => z y)]
      unfold MD_readsSize_J38 MD_readsSize_J60
      rw [if_neg (by decide), if_neg (by decide), h.2.1, e1, e2, ck_t, bI_t y, if_pos y, sI_ne (by omega), h.2.1, show (48 : Int32) = ni 48 from rfl, ni_sub, show p + 1 = p + 1 from rfl, show ni p + (1 : Int32) = ni (p + 1) from by rw [show (1 : Int32) = ni 1 from rfl, ni_add]]
      refine ⟨_, rfl, (h.v _).p _, fun _ => ?_, (FrN.rfl'.put (Or.inr rfl) _).put (Or.inl rfl) _⟩
      rw [sI_ne (by omega), sI_eq]
    · rw [if_pos (show ¬ (49 ≤ tch T n p ∧ tch T n p ≤ 54) from y)]
      exact no y
  · rw [if_pos (by omega)]
    exact no (by unfold tch; rw [if_neg q]; omega)
theorem e_nmb {T : Nat → Int} {n p : Int} {M : Mem} (h : PMx T n p M) (hT : TTx T n) (h0 : 0 ≤ p) (h1 : p ≤ n) : ∃ M', MD_readsNumber M = some (bI (nmo T n p), M') ∧ PMx T n (nmp T n p) M' ∧ gI M' 0 23 = ni (nmx T n p) ∧ FrN M M' := e_number h hT h0 h1
theorem e_rcell {T : Nat → Int} {n p a : Int} {M : Mem} {X : Ab} (h : PMx T n p M) (hT : TTx T n) (h0 : 0 ≤ p) (h1 : p ≤ n) (hM : RM M X) (w : WFg X) (ha : a = -1 ∨ (0 ≤ a ∧ a < nn X)) : ∃ M', MD_readsCell (ni a) M = some (bI (nmo T n p ∧ nmx T n p < nn X ∧ (a = -1 ∨ pair X a (nmx T n p))), M') ∧ PMx T n (if nmo T n p ∧ ¬ (nmx T n p < nn X ∧ (a = -1 ∨ pair X a (nmx T n p))) then p else nmp T n p) M' ∧ gI M' 0 23 = ni (nmx T n p) ∧ FrN M M' := by
  have hn := hT.1
  have hnn := nn_bd w
  have bv := nmx_bd T n p
  obtain ⟨M1, a1, a2, a3, a4⟩ := e_nmb h hT h0 h1
  have R1 := a4.RM hM
  have fin : ∀ t : Prop, ∀ _ : Decidable t, ∃ M', MD_readsCell_J47 (ni p) (bI t) M1 = some (bI t, M') ∧ PMx T n (if t then nmp T n p else p) M' ∧ gI M' 0 23 = ni (nmx T n p) ∧ FrN M M' := by
    intro t dt
    unfold MD_readsCell_J47
    rw [bI_a, a2.2.1]
    simp only [bI_z]
    by_cases y : t
    · rw [if_neg (fun z => z y), if_pos y]
      exact ⟨_, rfl, a2.p _, by rw [sI_ne (by omega), a3], a4.put (Or.inl rfl) _⟩
    · rw [if_pos y, if_neg y]
      exact ⟨_, rfl, a2.p _, by rw [sI_ne (by omega), a3], a4.put (Or.inl rfl) _⟩
  have f0 := fin False inferInstance
  have f1 := fin True inferInstance
  rw [bI_f (fun z => z)] at f0
  rw [bI_t trivial] at f1
  rw [if_neg (fun z => z)] at f0
  rw [if_pos trivial] at f1
  unfold MD_readsCell MD_readsCell_J46 MD_readsCell_J42
  rw [a1, b2_s, a3, e_isCell R1 w (by omega) (by omega), h.2.1]
  simp only [bI_z, Classical.not_not]
  by_cases q1 : nmo T n p
  · rw [if_pos q1]
    by_cases q2 : nmx T n p < nn X
    · rw [if_neg (fun z => z ⟨bv.1, q2⟩), show (-1 : Int32) = ni (-1) from rfl]
      simp (disch := omega) only [ni_eq]
      by_cases q3 : a = -1
      · rw [if_pos q3, bI_t ⟨q1, q2, Or.inl q3⟩, if_neg (fun z => z.2 ⟨q2, Or.inl q3⟩)]
        exact f1
      · have hA : 0 ≤ a ∧ a < nn X := by
          rcases ha with z | z
          · exact absurd z q3
          · exact z
        rw [if_neg q3, e_are R1 w hA.1 hA.2 bv.1 q2, b1_s]
        simp only [bI_z]
        by_cases q4 : nb X a 0 = nmx T n p ∨ nb X a 1 = nmx T n p ∨ nb X a 2 = nmx T n p ∨ nb X a 3 = nmx T n p
        · rw [if_neg (fun z => z q4), bI_t ⟨q1, q2, Or.inr ⟨hA, ⟨bv.1, q2⟩, q4⟩⟩, if_neg (fun z => z.2 ⟨q2, Or.inr ⟨hA, ⟨bv.1, q2⟩, q4⟩⟩)]
          exact f1
        · have y : ¬ (nmx T n p < nn X ∧ (a = -1 ∨ pair X a (nmx T n p))) := fun z => by
            rcases z.2 with e | e
            · exact q3 e
            · exact q4 e.2.2
          rw [if_pos q4, bI_f (fun z => y z.2), if_pos ⟨q1, y⟩]
          exact f0
    · rw [if_pos (fun z => q2 z.2), bI_f (fun z => q2 z.2.1), if_pos ⟨q1, fun z => q2 z.1⟩]
      exact f0
  · rw [if_neg q1, bI_f (fun z => q1 z.1), if_neg (fun z => q1 z.1)]
    exact ⟨M1, rfl, a2, a3, a4⟩
theorem e_rcell1 {T : Nat → Int} {n p : Int} {M : Mem} {X : Ab} (h : PMx T n p M) (hT : TTx T n) (h0 : 0 ≤ p) (h1 : p ≤ n) (hM : RM M X) (w : WFg X) : ∃ M', MD_readsCell (ni (-1)) M = some (bI (nmo T n p ∧ nmx T n p < nn X), M') ∧ PMx T n (if nmo T n p ∧ ¬ nmx T n p < nn X then p else nmp T n p) M' ∧ gI M' 0 23 = ni (nmx T n p) ∧ FrN M M' := by
  obtain ⟨M', k1, k2, k3, k4⟩ := e_rcell (a := -1) h hT h0 h1 hM w (Or.inl rfl)
  refine ⟨M', ?_, ?_, k3, k4⟩
  · rw [k1]
    exact congrArg some (Prod.ext (bI_c ⟨fun z => ⟨z.1, z.2.1⟩, fun z => ⟨z.1, z.2, Or.inl rfl⟩⟩) rfl)
  · by_cases q : nmo T n p ∧ ¬ nmx T n p < nn X
    · rw [if_pos q]
      rw [if_pos ⟨q.1, fun z => q.2 z.1⟩] at k2
      exact k2
    · rw [if_neg q]
      rw [if_neg (fun z => q ⟨z.1, fun y => z.2 ⟨y, Or.inl rfl⟩⟩)] at k2
      exact k2
theorem MS_no {T : Nat → Int} {n p f : Int} {X : Ab} {M : Mem} (h : PMx T n f M) (f0 : 0 ≤ f) : MSx T n (p, f, X) M := ⟨fun z => absurd z (by show ¬ f = -1; omega), fun _ => h⟩
theorem MS_ok {T : Nat → Int} {n p : Int} {X : Ab} {M : Mem} (h : PMx T n p M) (r : RM M X) : MSx T n (p, -1, X) M := ⟨fun _ => ⟨h, r⟩, fun z => absurd rfl z⟩
theorem bI_no {p f : Int} {X : Ab} (f0 : 0 ≤ f) : bI (((p, f, X) : Int × Int × Ab).2.1 = -1) = 0 := bI_f (by show ¬ f = -1; omega)
theorem bI_ok {p : Int} {X : Ab} : bI (((p, -1, X) : Int × Int × Ab).2.1 = -1) = 1 := bI_t rfl
theorem e_drain {T : Nat → Int} {n p : Int} {M : Mem} {X : Ab} (h : PMx T n p M) (hT : TTx T n) (h0 : 0 ≤ p) (h1 : p ≤ n) (hM : RM M X) (w : WFg X) : ∃ M', MD_readsDrain M = some (bI ((drS T n p X).2.1 = -1), M') ∧ MSx T n (drS T n p X) M' ∧ FX M M' := by
  have hnn := nn_bd w
  have b := nmp_bd hT h0 h1
  obtain ⟨M1, a1, a2, a3, a4⟩ := e_rcell1 h hT h0 h1 hM w
  have R1 := a4.RM hM
  unfold MD_readsDrain drS
  rw [show (-1 : Int32) = ni (-1) from rfl, a1, b2_s, a3, bI_a]
  simp only [bI_z]
  by_cases q1 : nmo T n p
  · by_cases q2 : nmx T n p < nn X
    · have y : nmo T n p ∧ nmx T n p < nn X := ⟨q1, q2⟩
      rw [if_neg (fun z => z.2 y.2)] at a2
      rw [if_neg (fun z => z y), if_pos q1, if_pos q2, bI_ok, bI_t y, RM_dr R1]
      exact ⟨_, rfl, MS_ok (a2.s1 _ _ _) (RS_dr R1 _), a4.FX.trans (FX.s1 _ _)⟩
    · have y : ¬ (nmo T n p ∧ nmx T n p < nn X) := fun z => q2 z.2
      rw [if_pos ⟨q1, q2⟩] at a2
      rw [if_pos y, if_pos q1, if_neg q2, bI_no h0, bI_f y]
      exact ⟨_, rfl, MS_no (a2.s1 _ _ _) h0, a4.FX.trans (FX.s1 _ _)⟩
  · have y : ¬ (nmo T n p ∧ nmx T n p < nn X) := fun z => q1 z.1
    rw [if_neg (fun z => q1 z.1)] at a2
    rw [if_pos y, if_neg q1, bI_no (by omega), bI_f y]
    exact ⟨_, rfl, MS_no (a2.s1 _ _ _) (by omega), a4.FX.trans (FX.s1 _ _)⟩
theorem e_gate {T : Nat → Int} {n p : Int} {M : Mem} {X : Ab} (h : PMx T n p M) (hT : TTx T n) (h0 : 0 ≤ p) (h1 : p ≤ n) (hM : RM M X) (w : WFg X) : ∃ M', MD_readsGate M = some (bI ((gtS T n p X).2.1 = -1), M') ∧ MSx T n (gtS T n p X) M' ∧ FX M M' := by
  have hnn := nn_bd w
  have b := nmp_bd hT h0 h1
  have bv := nmx_bd T n p
  obtain ⟨M1, a1, a2, a3, a4⟩ := e_rcell1 h hT h0 h1 hM w
  have R1 := a4.RM hM
  unfold MD_readsGate gtS
  rw [show (-1 : Int32) = ni (-1) from rfl, a1, b2_s, a3]
  simp only [bI_z, Classical.not_not]
  by_cases q1 : nmo T n p
  · rw [if_pos q1]
    by_cases q2 : nmx T n p < nn X
    · have y : nmo T n p ∧ nmx T n p < nn X := ⟨q1, q2⟩
      rw [if_neg (fun z => z.2 y.2)] at a2
      rw [if_pos y, if_pos q2]
      obtain ⟨M2, s1, s2, s3⟩ := e_passes (a := 44) a2 hT (by omega) b.2 (by omega) (by omega)
      have R2 := s3.RM R1
      rw [show (44 : Int32) = ni 44 from rfl, s1, b2_s]
      simp only [bI_z]
      by_cases q3 : tch T n (nmp T n p) = 44
      · have i3 := tch_in hT (by omega) q3 (by omega)
        have b2 := nmp_bd hT (p := nmp T n p + 1) (by omega) i3
        have bv2 := nmx_bd T n (nmp T n p + 1)
        rw [if_pos q3] at s2
        obtain ⟨M3, t1, t2, t3, t4⟩ := e_rcell (a := nmx T n p) s2 hT (by omega) i3 R2 w (Or.inr ⟨bv.1, q2⟩)
        have R3 := t4.RM R2
        have e23 : gI M2 0 23 = gI M2 0 23 := rfl
        rw [if_neg (fun z => z q3), if_pos q3, t1, b2_s, t3]
        simp only [bI_n0]
        by_cases q4 : nmo T n (nmp T n p + 1)
        · rw [if_pos q4]
          by_cases q5 : pair X (nmx T n p) (nmx T n (nmp T n p + 1))
          · have y2 : nmo T n (nmp T n p + 1) ∧ nmx T n (nmp T n p + 1) < nn X ∧ (nmx T n p = -1 ∨ pair X (nmx T n p) (nmx T n (nmp T n p + 1))) := ⟨q4, q5.2.1.2, Or.inr q5⟩
            rw [if_neg (fun z => z.2 y2.2)] at t2
            rw [if_pos y2, if_pos q5]
            obtain ⟨M4, u1, u2, u3⟩ := e_passes (a := 44) t2 hT (by omega) b2.2 (by omega) (by omega)
            have R4 := u3.RM R3
            rw [u1, b2_s]
            simp only [bI_z]
            by_cases q6 : tch T n (nmp T n (nmp T n p + 1)) = 44
            · have i6 := tch_in hT (by omega) q6 (by omega)
              have b3 := nmp_bd hT (p := nmp T n (nmp T n p + 1) + 1) (by omega) i6
              have bv3 := nmx_bd T n (nmp T n (nmp T n p + 1) + 1)
              rw [if_pos q6] at u2
              obtain ⟨M5, x1, x2, x3, x4⟩ := e_nmb u2 hT (by omega) i6
              have R5 := x4.RM R4
              rw [if_neg (fun z => z q6), if_pos q6, x1, b2_s]
              simp only [bI_n0]
              by_cases q7 : nmo T n (nmp T n (nmp T n p + 1) + 1)
              · obtain ⟨g1, _⟩ := gta_val R5 w q5.1.1 q5.1.2 q5.2.1.1 q5.2.1.2
                rw [if_pos q7, if_pos q7, e_gateAt R5 w q5.1.1 q5.1.2 q5.2.1.1 q5.2.1.2, b1_s, ni_inb (by omega) (by omega), ck_d (by omega), ni_nat (by omega) (by omega), x3, ni_64 (by omega) (by omega), bI_ok]
                exact ⟨_, rfl, MS_ok (x2.s1 _ _ _) (RS_sgt R5 w q5 _), ((((a4.FX.trans s3.FX).trans t4.FX).trans u3.FX).trans x4.FX).trans (FX.s1 _ _)⟩
              · rw [if_neg q7, if_neg q7, bI_no (by omega)]
                exact ⟨_, rfl, MS_no x2 (by omega), (((a4.FX.trans s3.FX).trans t4.FX).trans u3.FX).trans x4.FX⟩
            · rw [if_neg q6] at u2
              rw [if_pos q6, if_neg q6, bI_no (by omega)]
              exact ⟨_, rfl, MS_no u2 (by omega), ((a4.FX.trans s3.FX).trans t4.FX).trans u3.FX⟩
          · have y2 : ¬ (nmo T n (nmp T n p + 1) ∧ nmx T n (nmp T n p + 1) < nn X ∧ (nmx T n p = -1 ∨ pair X (nmx T n p) (nmx T n (nmp T n p + 1)))) := fun z => by
              rcases z.2.2 with e | e
              · omega
              · exact q5 e
            rw [if_pos ⟨q4, fun z => y2 ⟨q4, z⟩⟩] at t2
            rw [if_neg y2, if_neg q5, bI_no (by omega)]
            exact ⟨_, rfl, MS_no t2 (by omega), (a4.FX.trans s3.FX).trans t4.FX⟩
        · rw [if_neg (fun z => q4 z.1)] at t2
          rw [if_neg (fun z => q4 z.1), if_neg q4, bI_no (by omega)]
          exact ⟨_, rfl, MS_no t2 (by omega), (a4.FX.trans s3.FX).trans t4.FX⟩
      · rw [if_neg q3] at s2
        rw [if_pos q3, if_neg q3, bI_no (by omega)]
        exact ⟨_, rfl, MS_no s2 (by omega), a4.FX.trans s3.FX⟩
    · rw [if_pos ⟨q1, q2⟩] at a2
      rw [if_neg (fun z => q2 z.2), if_neg q2, bI_no h0]
      exact ⟨_, rfl, MS_no a2 h0, a4.FX⟩
  · rw [if_neg (fun z => q1 z.1)] at a2
    rw [if_neg (fun z => q1 z.1), if_neg q1, bI_no (by omega)]
    exact ⟨_, rfl, MS_no a2 (by omega), a4.FX⟩
theorem e_height1 {T : Nat → Int} {n p : Int} {M : Mem} {X : Ab} {i : Nat} (h : PMx T n p M) (hT : TTx T n) (h0 : 0 ≤ p) (h1 : p ≤ n) (hM : RM M X) (w : WFg X) (hi : (i : Int) < nn X) : ∃ r M', MD_readsHeights_L2 (ni (i : Int)) M = some (r, M') ∧ r = (if (htS T n i p X).2.1 = -1 then .inl (ni ((i + 1 : Nat) : Int)) else .inr (.inr (0 : Int32))) ∧ MSx T n (htS T n i p X) M' ∧ FX M M' := by
  have hn := hT.1
  have hnn := nn_bd w
  -- the number at a place
  have num : ∀ q M1, 0 ≤ q → q ≤ n → PMx T n q M1 → RM M1 X → FX M M1 → ∃ r M', MD_readsHeights_L2_J23 (ni (i : Int)) M1 = some (r, M') ∧ r = (if nmo T n q then .inl (ni ((i + 1 : Nat) : Int)) else .inr (.inr (0 : Int32))) ∧ (nmo T n q → PMx T n (nmp T n q) M' ∧ RM M' (aI X 1 i (nmx T n q))) ∧ (¬ nmo T n q → PMx T n (nmp T n q) M') ∧ FX M M' := by
    intro q M1 q0 q1 e1 e2 e3
    have bv := nmx_bd T n q
    obtain ⟨M2, a1, a2, a3, a4⟩ := e_nmb e1 hT q0 q1
    have R2 := a4.RM e2
    unfold MD_readsHeights_L2_J23
    rw [a1, b2_s]
    simp only [bI_n0]
    by_cases y : nmo T n q
    · have hs := RS_ht R2 (c := (i : Int)) (by omega) (by omega) (nmx T n q)
      rw [if_pos y, if_pos y, show (8 : Int32) = ni 8 from rfl, ni_add, ni_inb (by omega) (by omega), ck_d (by omega), ni_nat (by omega) (by omega), show (8 + (i : Int)).toNat = 8 + (i : Int).toNat by omega, a3, ni_64 (by omega) (by omega), ni_s]
      exact ⟨_, _, rfl, rfl, fun _ => ⟨a2.s1 _ _ _, hs⟩, fun z => absurd y z, (e3.trans a4.FX).trans (FX.s1 _ _)⟩
    · rw [if_neg y, if_neg y]
      exact ⟨_, _, rfl, rfl, fun z => absurd z y, fun _ => a2, e3.trans a4.FX⟩
  unfold MD_readsHeights_L2
  rw [e_many hM]
  simp (disch := omega) only [show (0 : Int32) = ni 0 from rfl, ni_le]
  rw [if_neg (show ¬ nn X ≤ (i : Int) by omega)]
  by_cases y : i = 0
  · have e : htS T n i p X = (if nmo T n p then (nmp T n p, -1, aI X 1 i (nmx T n p)) else (p, nmp T n p, X)) := by
      unfold htS
      rw [if_neg (fun z : ¬ i = 0 ∧ ¬ tch T n p = 44 => z.1 y)]
      simp only [if_pos y]
    have b := nmp_bd hT h0 h1
    obtain ⟨r, M', k1, k2, k3, k4, k5⟩ := num p M h0 h1 h hM FX.rfl'
    rw [if_pos (show (i : Int) ≤ 0 by omega), e]
    refine ⟨r, M', k1, ?_, ?_, k5⟩
    · rw [k2]
      by_cases z : nmo T n p
      · rw [if_pos z, if_pos z, if_pos (show ((nmp T n p, -1, aI X 1 i (nmx T n p)) : Int × Int × Ab).2.1 = -1 from rfl)]
      · rw [if_neg z, if_neg z, if_neg (show ¬ ((p, nmp T n p, X) : Int × Int × Ab).2.1 = -1 by show ¬ nmp T n p = -1; omega)]; rfl
    · by_cases z : nmo T n p
      · rw [if_pos z]; exact MS_ok (k3 z).1 (k3 z).2
      · rw [if_neg z]; exact MS_no (k4 z) (by omega)
  · rw [if_neg (show ¬ (i : Int) ≤ 0 by omega)]
    obtain ⟨M1, s1, s2, s3⟩ := e_passes (a := 44) h hT h0 h1 (by omega) (by omega)
    rw [show (44 : Int32) = ni 44 from rfl, s1, b2_s]
    simp only [show ni 0 = (0 : Int32) from rfl, bI_z]
    by_cases c : tch T n p = 44
    · have i3 := tch_in hT h0 c (by omega)
      have e : htS T n i p X = (if nmo T n (p + 1) then (nmp T n (p + 1), -1, aI X 1 i (nmx T n (p + 1))) else (p, nmp T n (p + 1), X)) := by
        unfold htS
        rw [if_neg (fun z : ¬ i = 0 ∧ ¬ tch T n p = 44 => z.2 c)]
        simp only [if_neg y]
      rw [if_pos c] at s2
      have b := nmp_bd hT (p := p + 1) (by omega) i3
      obtain ⟨r, M', k1, k2, k3, k4, k5⟩ := num (p + 1) M1 (by omega) i3 s2 (s3.RM hM) s3.FX
      rw [if_neg (show ¬ ¬ tch T n p = 44 from fun z => z c), e]
      refine ⟨r, M', k1, ?_, ?_, k5⟩
      · rw [k2]
        by_cases z : nmo T n (p + 1)
        · rw [if_pos z, if_pos z, if_pos (show ((nmp T n (p + 1), -1, aI X 1 i (nmx T n (p + 1))) : Int × Int × Ab).2.1 = -1 from rfl)]
        · rw [if_neg z, if_neg z, if_neg (show ¬ ((p, nmp T n (p + 1), X) : Int × Int × Ab).2.1 = -1 by show ¬ nmp T n (p + 1) = -1; omega)]
      · by_cases z : nmo T n (p + 1)
        · rw [if_pos z]; exact MS_ok (k3 z).1 (k3 z).2
        · rw [if_neg z]; exact MS_no (k4 z) (by omega)
    · have e : htS T n i p X = (p, p, X) := by
        unfold htS
        rw [if_pos ⟨y, c⟩]
      rw [if_neg c] at s2
      rw [if_pos c, e, if_neg (show ¬ ((p, p, X) : Int × Int × Ab).2.1 = -1 by show ¬ p = -1; omega)]
      exact ⟨_, M1, rfl, rfl, MS_no s2 h0, s3.FX⟩
theorem e_heights {T : Nat → Int} {n p : Int} {M : Mem} {X : Ab} (h : PMx T n p M) (hT : TTx T n) (h0 : 0 ≤ p) (h1 : p ≤ n) (hM : RM M X) (w : WFg X) (l : LK0 X) : ∃ M', MD_readsHeights M = some (bI ((hsS T n p X (nn X).toNat).2.1 = -1), M') ∧ MSx T n (hsS T n p X (nn X).toNat) M' ∧ FX M M' := by
  have hn := hT.1
  have hnn := nn_bd w
  have key : ∃ r M', lpM (fun s M9 => MD_readsHeights_L2 s M9) FUEL (0 : Int32) M = some (r, M') ∧ (r = (if (hsS T n p X (nn X).toNat).2.1 = -1 then .inl () else .inr (0 : Int32)) ∧ MSx T n (hsS T n p X (nn X).toNat) M' ∧ FX M M') := by
    refine lpM_wf (fun v M' => ∃ i : Nat, (i : Int) ≤ nn X ∧ v = ni (i : Int) ∧ (hsS T n p X i).2.1 = -1 ∧ PMx T n (hsS T n p X i).1 M' ∧ RM M' (hsS T n p X i).2.2 ∧ FX M M') (fun v _ => (nn X - v.toInt).toNat) (fun r M' => r = (if (hsS T n p X (nn X).toNat).2.1 = -1 then (Sum.inl () : Unit ⊕ Int32) else Sum.inr (0 : Int32)) ∧ MSx T n (hsS T n p X (nn X).toNat) M' ∧ FX M M') ?_ FUEL (0 : Int32) M ⟨0, by omega, rfl, rfl, h, hM, FX.rfl'⟩ ?_
    · rintro v M1 ⟨i, hi, rfl, k1, k2, k3, k4⟩
      obtain ⟨ks, kn⟩ := hsS_SK hT h0 h1 w l i (by omega)
      obtain ⟨⟨j1, j2⟩, j3, j4⟩ := ks.2 k1
      by_cases y : nn X ≤ (i : Int)
      · obtain rfl : i = (nn X).toNat := by omega
        refine Or.inr ⟨Sum.inl (), M1, ?_, by rw [if_pos k1], ⟨fun _ => ⟨k2, k3⟩, fun z => absurd k1 z⟩, k4⟩
        unfold MD_readsHeights_L2
        rw [e_many k3, kn]
        simp (disch := omega) only [ni_le]
        rw [if_pos y]
      · obtain ⟨r, M2, e1, e2, e3, e4⟩ := e_height1 (i := i) k2 hT j1 j2 k3 j3 (by rw [kn]; omega)
        have hst : hsS T n p X (i + 1) = htS T n i (hsS T n p X i).1 (hsS T n p X i).2.2 := by
          simp only [hsS]
          rw [if_pos k1]
        rw [← hst] at e2 e3
        by_cases z : (hsS T n p X (i + 1)).2.1 = -1
        · rw [if_pos z] at e2
          refine Or.inl ⟨ni ((i + 1 : Nat) : Int), M2, by rw [e1, e2], ⟨i + 1, by omega, rfl, z, (e3.1 z).1, (e3.1 z).2, k4.trans e4⟩, ?_⟩
          show (nn X - (ni ((i + 1 : Nat) : Int)).toInt).toNat < (nn X - (ni (i : Int)).toInt).toNat
          rw [ni_toInt (by omega) (by omega), ni_toInt (by omega) (by omega)]
          omega
        · rw [if_neg z] at e2
          have hs9 := hsS_stop z ((nn X).toNat - (i + 1))
          rw [show i + 1 + ((nn X).toNat - (i + 1)) = (nn X).toNat by omega] at hs9
          refine Or.inr ⟨Sum.inr (0 : Int32), M2, by rw [e1, e2], ?_, ?_, k4.trans e4⟩
          · rw [hs9, if_neg z]
          · rw [hs9]; exact e3
    · show (nn X - (ni 0).toInt).toNat < 1000000000000
      rw [ni_toInt (by omega) (by omega)]
      omega
  obtain ⟨r, M', k1, k2, k3, k4⟩ := key
  refine ⟨M', ?_, k3, k4⟩
  unfold MD_readsHeights
  rw [k1, b2_s, k2]
  by_cases z : (hsS T n p X (nn X).toNat).2.1 = -1
  · rw [if_pos z, bI_t z]; rfl
  · rw [if_neg z, bI_f z]; rfl
