/-! C0.isRaised: the law's isRaised says 1 -/
theorem lsh_b (p : Bool) {c : Int} (c0 : 0 ≤ c) (c1 : c < 64) (d : Int) : hs (lsh (bI (p = true)).toInt64 (ni c)) d = (p && decide (c = d)) := by
  cases p with
  | false =>
    have e : lsh (bI (false = true)).toInt64 (ni c) = 0 := by
      show lsh 0 (ni c) = 0
      unfold lsh
      rw [← Int64.toBitVec_inj, Int64.toBitVec_shiftLeft]
      simp
    rw [e, hs_zero]
    rfl
  | true =>
    have e : lsh (bI (true = true)).toInt64 (ni c) = sbit c := rfl
    rw [e, hs_bit c0 c1]
    simp [eq_comm]
theorem r_18 {Q : Mem2} {A : Ab} {nx cnt : Int} (h : IC Q.1 A nx cnt) (a b : Int32) : ∃ W, lpQ (fun s M9 => LW_isRaised_L18 a b (ni (nn A)) s.1 s.2 M9) FUEL ((0 : Int64), (0 : Int32)) Q = some (W, Q) ∧ ∀ d : Int, 0 ≤ d → d < nn A → hs W d = isw A d := by
  have hn := nn_bd h.2.1.1.1
  obtain ⟨W, M', e, h1, rfl⟩ := lpQ_to (f := fun s M9 => LW_isRaised_L18 a b (ni (nn A)) s.1 s.2 M9) (nn A).toNat (by omega) (fun i s M => (s.2 = ni (i : Int) ∧ ∀ d : Int, 0 ≤ d → d < nn A → hs s.1 d = (decide (d < i) && isw A d)) ∧ M = Q) (fun r M => (∀ d : Int, 0 ≤ d → d < nn A → hs r d = isw A d) ∧ M = Q) (by
    rintro i hi ⟨s1, s2⟩ M ⟨⟨rfl, q⟩, rfl⟩
    refine ⟨(s1 ||| lsh (bI (isw A (i : Int) = true)).toInt64 (ni (i : Int)), ni (i : Int) + (1 : Int32)), _, ?_, ⟨?_, fun d d0 d1 => ?_⟩, rfl⟩
    · unfold LW_isRaised_L18
      dsimp only
      rw [if_neg (by rw [ni_le (by omega) (by omega) (by omega) (by omega)]; omega), (kc h (i : Int) (by omega) (by omega)).2.2.2.1, bo_s]
    · show ni (i : Int) + (1 : Int32) = _
      rw [show (1 : Int32) = ni 1 from rfl, ni_add]; rfl
    · show hs (s1 ||| lsh (bI (isw A (i : Int) = true)).toInt64 (ni (i : Int))) d = _
      rw [hs_or, q d d0 d1, lsh_b _ (by omega) (by omega)]
      by_cases z : (i : Int) = d
      · rw [← z]; simp
        intro y; omega
      · have e1 : decide ((i : Int) = d) = false := decide_eq_false z
        have e2 : decide (d < (i : Int)) = decide (d < ((i + 1 : Nat) : Int)) := by
          rw [decide_eq_decide]; omega
        rw [e1, e2]; simp) (by
    rintro ⟨s1, s2⟩ M ⟨⟨rfl, q⟩, rfl⟩
    refine ⟨s1, _, ?_, fun d d0 d1 => ?_, rfl⟩
    · unfold LW_isRaised_L18
      dsimp only
      rw [if_pos (by rw [ni_le (by omega) (by omega) (by omega) (by omega)]; omega)]
    · have := q d d0 d1
      rw [this, decide_eq_true (by omega)]
      rfl) (s := ((0 : Int64), (0 : Int32))) (M := Q) ⟨⟨rfl, fun d d0 d1 => by
        show hs 0 d = _
        rw [hs_zero, decide_eq_false (by omega)]
        rfl⟩, rfl⟩
  exact ⟨W, e, h1⟩
theorem r_115 {Q : Mem2} {B : Ab} {nx cnt : Int} (h : IC Q.1 B nx cnt) {W : Int64} (hw : ∀ d : Int, 0 ≤ d → d < nn B → hs W d = true → isw B d = true) : LW_isRaised_J115 (ni (nn B)) W (1 : Int32) Q = some ((1 : Int32), Q) := by
  have hn := nn_bd h.2.1.1.1
  obtain ⟨r, M', e, rfl, rfl⟩ := lpQ_to (f := fun s M9 => LW_isRaised_L120 (ni (nn B)) W s.1 s.2 M9) (nn B).toNat (by omega) (fun i s M => s = ((1 : Int32), ni (i : Int)) ∧ M = Q) (fun r M => r = (1 : Int32) ∧ M = Q) (by
    rintro i hi s M ⟨rfl, rfl⟩
    refine ⟨((1 : Int32), ni (i : Int) + (1 : Int32)), M, ?_, ?_, rfl⟩
    · unfold LW_isRaised_L120
      dsimp only
      rw [if_neg (by rw [ni_le (by omega) (by omega) (by omega) (by omega)]; omega), if_neg (by decide)]
      simp only [lsr0 _ (show (0 : Int) ≤ i by omega) (show (i : Int) < 64 by omega)]
      cases z : hs W (i : Int) with
      | false => rw [if_pos rfl]
      | true =>
        rw [if_neg (by simp), (kc h (i : Int) (by omega) (by omega)).2.2.2.1, bo_s, hw _ (by omega) (by omega) z]
        rfl
    · rw [show (1 : Int32) = ni 1 from rfl, ni_add]; rfl) (by
    rintro s M ⟨rfl, rfl⟩
    refine ⟨_, _, ?_, rfl, rfl⟩
    unfold LW_isRaised_L120
    dsimp only
    rw [if_pos (by rw [ni_le (by omega) (by omega) (by omega) (by omega)]; omega)]) (s := ((1 : Int32), (0 : Int32))) (M := Q) ⟨rfl, rfl⟩
  unfold LW_isRaised_J115
  rw [e, bq_s]
  rfl
theorem w_raised {Q : Mem2} {A : Ab} {nx cnt : Int} (h : IC Q.1 A nx cnt) {c x : Int} (c0 : 0 ≤ c) (c1 : c < nn A) (hx : 0 ≤ x ∧ x ≤ 100000) (hw : wat A + x ≤ 1000000) : ∃ M', LW_isRaised (ni c) (ni x) Q = some ((1 : Int32), (M', Q.2)) ∧ IC M' (PO A c x) ((nx + 1) % 4) (cn cnt) := by
  have hn := nn_bd h.2.1.1.1
  have hnn : ni (wd A) * ni (hg A) = ni (nn A) := by rw [ni_mul]; rfl
  obtain ⟨n0, n1, _⟩ := kn h
  obtain ⟨z0, z1, z2, z3⟩ := kb h
  obtain ⟨W, w1, w2⟩ := r_18 h (ni c) (ni x)
  obtain ⟨r, M1, p1, p2, p3⟩ := k_pour h c0 c1 hx hw
  obtain ⟨g1, g2, g3, g4⟩ := GI_PO (c := c) h.2.1 hx.1 hw
  have hnB : nn A = nn (PO A c x) := g2.1.nn
  obtain ⟨y0, y1, y2, y3⟩ := kb p3
  have hd := dep_mono h.2.1.1 g1.1 g2 c0 c1
  refine ⟨M1, ?_, p3⟩
  unfold LW_isRaised
  rw [n0, bo_s, n1, bo_s, hnn]
  rw [show ((Q.1, Q.2) : Mem2) = Q from rfl, w1, bq_s, k_depth h c0 c1, bo_s, z1, bo_s, z2, bo_s, p1, bo_s]
  rw [if_neg (by rw [show (0 : Int32) = ni 0 from rfl, ni_lt (by omega) (by omega) (by omega) (by omega)]; omega)]
  rw [y1, bo_s, y2, bo_s, ni_64 (by omega) (by omega), if_neg (not_not_intro g3), k_depth p3 c0 (by rw [← hnB]; exact c1), bo_s, if_neg hd, hnB]
  refine r_115 (Q := (M1, Q.2)) p3 (fun d d0 d1 z => ?_)
  rw [w2 d d0 (by rw [hnB]; exact d1)] at z
  exact isw_mono h.2.1.1.1 g2 d0 (by rw [hnB]; exact d1) z
