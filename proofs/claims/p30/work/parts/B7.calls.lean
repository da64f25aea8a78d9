/-! B7.calls: random, pour, evaporate, undo, amountFor -/
theorem k_random {M : Mem} {A : Ab} {nx cnt : Int} (h : IC M A nx cnt) {s v : Int} (hs' : 0 ≤ s ∧ s ≤ 999999) (hv : 0 ≤ v ∧ v ≤ 99) : ∃ M', LL_random (ni s) (ni v) M = some (.inl (ni (npt (scA A s (v + 1) (nn A).toNat))), M') ∧ IC M' (CH A (scA A s (v + 1) (nn A).toNat)) ((nx + 1) % 4) (cn cnt) ∧ GE (scA A s (v + 1) (nn A).toNat) (CH A (scA A s (v + 1) (nn A).toNat)) := by
  have hn := nn_bd h.2.1.1.1
  obtain ⟨M1, s1, s2, s3, s4⟩ := k_save h
  obtain ⟨M2, n1, n2, n3, n4⟩ := c_noteLakes (w := 1) (Or.inl rfl) s2.1.1 s2.2.1.1
  have G2 : RG 2 M2 A := RG_fr s2.1.1.1 n3 (by omega) (by omega) (by omega) (by omega)
  obtain ⟨M3, c1, c2, c3⟩ := c_scatter (g := 2) (sz_w (w := 1) (Or.inl rfl)).1 G2 h.2.1.1.1 hs' hv
  have gB := scA_WFg h.2.1.1.1 (s := s) (m := v + 1) (by omega) (nn A).toNat
  obtain ⟨a1, a2⟩ := scA_A A s (v + 1) (nn A).toNat
  obtain ⟨M4, r1, r2, r3, r4, r5, r6⟩ := k_renew (M3 := M3) (B := scA A s (v + 1) (nn A).toNat) (P := fun p => p = 1 ∨ p = 44 ∨ p = 46 ∨ p = 4) s2 ((n3.mono (fun p hp => by omega)).trans (c3.mono (fun p hp => by omega))) (fun p hp => by omega) c2 gB (nb_of (show (scA A s (v + 1) (nn A).toNat).1 0 = A.1 0 from a2 0 (by decide))).2 ⟨by show (scA A s (v + 1) (nn A).toNat).2 0 4 = A.2 0 4; rw [a1], by show (scA A s (v + 1) (nn A).toNat).2 0 2 = A.2 0 2; rw [a1], by show (scA A s (v + 1) (nn A).toNat).2 0 3 = A.2 0 3; rw [a1]⟩ (fun q => by rw [c3.gL (by omega), n4]) (CD_fr n2 c3 (by omega) (by omega) (by omega))
  refine ⟨M4, ?_, r2, r3⟩
  unfold LL_random
  rw [show (0 : Int32) = ni 0 from rfl, show (999999 : Int32) = ni 999999 from rfl, show (99 : Int32) = ni 99 from rfl, k_in (by omega) hs' (by omega) (by omega), bx_l, k_in (by omega) hv (by omega) (by omega), bx_l, s1, b2_s, n1, b2_s, c1, b2_s, r1, b2_s, r4]
theorem k_pour {M : Mem} {A : Ab} {nx cnt : Int} (h : IC M A nx cnt) {c x : Int} (c0 : 0 ≤ c) (c1 : c < nn A) (hx : 0 ≤ x ∧ x ≤ 100000) (hw : wat A + x ≤ 1000000) : ∃ r M', LL_pour (ni c) (ni x) M = some (.inl (ni r), M') ∧ (0 ≤ r ∧ r ≤ x) ∧ IC M' (PO A c x) ((nx + 1) % 4) (cn cnt) := by
  obtain ⟨M1, s1, s2, s3, s4⟩ := k_save h
  obtain ⟨g1, g2, g3, g4⟩ := GI_PO (c := c) h.2.1 hx.1 hw
  have RP := c_poured s2.1 (prd A + nl x)
  obtain ⟨w1, w2, w3⟩ := pG_WF (A := A) (prd A + nl x)
  have hnp : nn (pG A (prd A + nl x)) = nn A := ((pG_ge A (prd A + nl x)).nn).symm
  have hw0 := wat0 h.2.1.1
  obtain ⟨M3, p1, p2, p3, p4⟩ := c_pourAt (w := 1) (Or.inl rfl) RP (w1 h.2.1.1) c0 (by rw [hnp]; exact c1) hx.1 (by rw [w2]; omega)
  have fs : Fr (fun p => p = 1) M1 (sL M1 1 3 (prd A + nl x)) := Fr.sL rfl
  rw [w3] at p1 p2
  have F : Fr (fun p => 1 ≤ p ∧ p < 47) M1 M3 := (fs.mono (fun p hp => by omega)).trans (p3.mono (fun p hp => by unfold isLk at hp; omega))
  refine ⟨_, M3, ?_, g4, IC_fr s2 F (by omega) p2 g1⟩
  unfold LL_pour
  rw [k_is h c0 c1, bx_l, show (0 : Int32) = ni 0 from rfl, show (100000 : Int32) = ni 100000 from rfl, k_in (by omega) hx (by omega) (by omega), bx_l, c_needRoom h.1.1.2.2.2 h.2.1.1 (by omega) (by omega), if_pos hw, bx_l, s1, b2_s, ni_64 (by omega) (by omega), s2.1.2.1, p1, b2_s]
theorem k_evaporate {M : Mem} {A : Ab} {nx cnt : Int} (h : IC M A nx cnt) {r : Int} (hr : 0 ≤ r ∧ r ≤ 100) : ∃ M', LL_evaporate (ni r) M = some (.inl (ni (evS r.toNat A)), M') ∧ IC M' (EV A r.toNat) ((nx + 1) % 4) (cn cnt) ∧ RW (slot nx 0 0) M' A ∧ gI M' 94 1 = gI M 94 1 := by
  obtain ⟨M1, s1, s2, s3, s4⟩ := k_save h
  obtain ⟨M2, p1, p2, p3⟩ := c_dry (w := 1) (Or.inl rfl) s2.1 h.2.1.1 hr.1 hr.2
  have hsl : 97 ≤ slot nx 0 0 := by unfold slot; omega
  refine ⟨M2, ?_, IC_fr s2 p3 (by omega) p2 (GI_EV h.2.1 r.toNat).1, RW_fr s3 p3 (fun p x y z => by omega), by rw [p3.gI (by omega), s4.gI (by omega)]⟩
  unfold LL_evaporate
  rw [show (0 : Int32) = ni 0 from rfl, show (100 : Int32) = ni 100 from rfl, k_in (by omega) hr (by omega) (by omega), bx_l, s1, b2_s, p1, b2_s]
theorem k_undo {M : Mem} {A B : Ab} {nx cnt : Int} (h : IC M B ((nx + 1) % 4) cnt) (hn : 0 ≤ nx ∧ nx < 4) (hc : 0 < cnt) (hA : GI A) (hs' : RW (slot nx 0 0) M A) : ∃ M', LL_undo M = some (.inl (ni (cnt - 1)), M') ∧ IC M' A nx (cnt - 1) ∧ gI M' 94 1 = gI M 94 1 := by
  obtain ⟨hR, hG, hx, hcc, e5, e4⟩ := h
  have hnx : irm ((gI M 0 5 + (4 : Int32)) - (1 : Int32)) (4 : Int32) = ni nx := by
    rw [e5, show (4 : Int32) = ni 4 from rfl, show (1 : Int32) = ni 1 from rfl, ni_add, ni_sub, ni_irm (by omega) (by omega) (by omega) (by omega)]
    refine congrArg ni ?_; omega
  have hA' : gI (sI M 0 5 (ni nx)) 0 4 = ni cnt := by rw [sI_ne (by omega), e4]
  have hB : ∀ v, gI (sI (sI M 0 5 (ni nx)) 0 4 v) 0 5 = ni nx := fun v => by rw [sI_ne (by omega), sI_eq]
  have fs : Fr (fun p => p = 0) M (sI (sI M 0 5 (ni nx)) 0 4 (ni (cnt - 1))) := (Fr.sI (P := fun p => p = 0) rfl).trans (Fr.sI (P := fun p => p = 0) rfl)
  have hsb : 97 ≤ slot nx 0 0 := by unfold slot; omega
  obtain ⟨M2, p1, p2, p3⟩ := c_copy (Or.inl rfl) (slot_W nx 0 0) (Or.inl (by omega)) (RW_fr hs' fs (fun p x y z => by omega))
  have g4 : gI M2 0 4 = ni (cnt - 1) := by rw [p3.gI (by omega), sI_eq]
  refine ⟨M2, ?_, ⟨p2, hA, hn, by omega, by rw [p3.gI (by omega), hB], g4⟩, by rw [p3.gI (by omega), fs.gI (by omega)]⟩
  unfold LL_undo
  rw [hnx, hA', show (1 : Int32) = ni 1 from rfl, ni_sub, hB, fSavedAt_eq hn.1 hn.2, p1, b2_s, g4, if_pos]
  rw [e4, show (0 : Int32) = ni 0 from rfl, ni_lt (by omega) (by omega) (by omega) (by omega)]
  exact hc
theorem bsr_ok (p : Int → Bool) : ∀ (n : Nat) (l h : Int), l < h → p h = true → p (bsr p n l h) = true ∧ l < bsr p n l h ∧ bsr p n l h ≤ h := by
  intro n
  induction n with
  | zero => intro l h hl hp; exact ⟨hp, hl, Int.le_refl _⟩
  | succ n ih =>
    intro l h hl hp
    simp only [bsr]
    by_cases e : h - l ≤ 1
    · rw [if_pos e]; exact ⟨hp, hl, Int.le_refl _⟩
    · rw [if_neg e]
      by_cases q : p ((l + h) / 2) = true
      · rw [if_pos q]
        obtain ⟨a, b, c⟩ := ih l ((l + h) / 2) (by omega) q
        exact ⟨a, b, by omega⟩
      · rw [if_neg q]
        obtain ⟨a, b, c⟩ := ih ((l + h) / 2) h (by omega) hp
        exact ⟨a, by omega, c⟩
theorem wb_zero (A : Ab) (a b : Int) : wb A a b 0 = isw A b := by
  unfold wb
  rw [prl_zero]
theorem k_amount {M : Mem} {A : Ab} {nx cnt : Int} (h : IC M A nx cnt) {a b : Int} (a0 : 0 ≤ a) (a1 : a < nn A) (b0 : 0 ≤ b) (b1 : b < nn A) : ∃ r M', LL_amountFor (ni a) (ni b) M = some (.inl (ni r), M') ∧ IC M' A nx cnt ∧ (-1 ≤ r ∧ r ≤ 100000) ∧ (r = 0 ↔ isw A b = true) ∧ (0 < r → wb A a b r = true) := by
  have hw := h.2.1.2.1.1
  obtain ⟨M1, p1, p2, p3⟩ := c_would h.1 h.2.1.1 hw a0 a1 b0 b1 (x := 0) (by omega) (by omega)
  have I1 : IC M1 A nx cnt := IC_fr h p3 (by omega) p2 h.2.1
  have hL : LL_amountFor (ni a) (ni b) M = (if bI (wb A a b 0 = true) = 0 then b2 (LL_wouldBeWet (ni a) (100000 : Int32) (ni b) M1) fun x7 M8 => (if ¬ x7 = 0 then b2 (lpM (fun s M9 => LL_amountFor_L44 (ni a) (ni b) s.1 s.2.1 s.2.2 M9) FUEL ((0 : Int32), (100000 : Int32), (0 : Int32)) M8) <| fun e9 M10 => some (.inl e9, M10) else some (.inl (-1 : Int32), M8)) else some (.inl (0 : Int32), M1)) := by
    unfold LL_amountFor
    rw [k_is h a0 a1, bx_l, k_is h b0 b1, bx_l, show (0 : Int32) = ni 0 from rfl, p1, b2_s]
  rw [hL, wb_zero]
  by_cases q : isw A b = true
  · rw [bI_t q, if_neg (by decide)]
    exact ⟨0, M1, rfl, I1, by omega, ⟨fun _ => q, fun _ => rfl⟩, fun z => by omega⟩
  · rw [bI_f q, if_pos rfl]
    obtain ⟨M2, q1, q2, q3⟩ := c_would I1.1 h.2.1.1 hw a0 a1 b0 b1 (x := 100000) (by omega) (by omega)
    have I2 : IC M2 A nx cnt := IC_fr I1 q3 (by omega) q2 h.2.1
    rw [show (100000 : Int32) = ni 100000 from rfl, q1, b2_s]
    by_cases y : wb A a b 100000 = true
    · rw [bI_t y, if_pos (by decide)]
      obtain ⟨M3, z1, z2, z3⟩ := c_search I2.1 h.2.1.1 hw a0 a1 b0 b1
      have I3 : IC M3 A nx cnt := IC_fr I2 z3 (by omega) z2 h.2.1
      obtain ⟨b1', b2', b3'⟩ := bsr_ok (wb A a b) 100000 0 100000 (by omega) y
      rw [show ni 100000 = (100000 : Int32) from rfl, z1, b2_s]
      exact ⟨_, M3, rfl, I3, by omega, ⟨fun z => by omega, fun z => absurd z q⟩, fun _ => b1'⟩
    · rw [bI_f y, if_neg (by decide)]
      exact ⟨-1, M2, rfl, I2, by omega, ⟨fun z => by omega, fun z => absurd z q⟩, fun z => by omega⟩
