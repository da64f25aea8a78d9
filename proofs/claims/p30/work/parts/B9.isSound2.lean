/-! B9.isSound2: the law's isSound says 1 -/
theorem ni_bds {A : Ab} (hW : WF A) : (1 ≤ nn A ∧ nn A ≤ 36) ∧ (0 ≤ lown A 36 ∧ lown A 36 ≤ 36) ∧ (0 ≤ bnn A ∧ bnn A ≤ 36) ∧ (0 ≤ wta A ∧ wta A ≤ 36) ∧ (0 ≤ ct (nn A).toNat (fun c => decide (bas A c = -1)) ∧ ct (nn A).toNat (fun c => decide (bas A c = -1)) ≤ 36) := by
  have hn := nn_bd hW.1
  have h1 := lown_nonneg A 36
  have h2 := lown_le A 36
  have h3 := thn_le hW
  have h4 := hW.2.2.2.2.2.1
  have h5 := ct_bd (nn A).toNat (fun c => isw A (c : Int))
  have h6 := ct_bd (nn A).toNat (fun c => decide (bas A (c : Int) = -1))
  unfold wta
  refine ⟨hn, ⟨h1, by omega⟩, by omega, by omega, by omega⟩
theorem ends {A : Ab} (g : WFg A) {c : Int} (c0 : 0 ≤ c) (c1 : c < nn A) : ex (nn A).toNat (fun b => con A 36 c b && ipt A b) = decide (bsn A c ≠ -1) ∧ ex (nn A).toNat (fun b => con A 36 c b && hs (drn A) b) = decide (bsn A c = -1) := by
  obtain ⟨e1, e2⟩ := con_end g 36 c c0 c1 (lower_36 g c0 c1)
  have tr : ∀ p : Int → Bool, (ex (nn A).toNat (fun b => con A 36 c b && p b) = true) ↔ ∃ b, con A 36 c b = true ∧ p b = true := by
    intro p
    rw [ex_iff]
    constructor
    · rintro ⟨i, h1, h2⟩
      rw [Bool.and_eq_true] at h2
      exact ⟨i, h2.1, h2.2⟩
    · rintro ⟨b, h1, h2⟩
      obtain ⟨⟨r1, r2⟩, _⟩ := con_rg g 36 c b c0 c1 h1
      refine ⟨b.toNat, by omega, ?_⟩
      rw [Int.toNat_of_nonneg r1, h1, h2]
      rfl
  constructor
  · rw [Bool.eq_iff_iff, tr, e1, decide_eq_true_eq]
  · rw [Bool.eq_iff_iff, tr, e2, decide_eq_true_eq]
theorem cv_3 {A : Ab} (hG : GI A) {c : Int} (c0 : 0 ≤ c) (c1 : c < nn A) : (0 ≤ cv A c 3) = (bsn A c ≠ -1) ∧ (-1 ≤ cv A c 3 ∧ cv A c 3 ≤ 36) := by
  have hb := hG.2.1.2.2.1 c c0 c1
  have hl := hG.2.2.1 c c0 c1
  have h1 := lown_nonneg A (lo (msk A (lk A c))).toNat
  have e : cv A c 3 = if lk A c = -1 then -1 else lown A (lo (msk A (lk A c))).toNat := rfl
  rw [e]
  by_cases z : lk A c = -1
  · rw [if_pos z]
    refine ⟨?_, by omega⟩
    have : bsn A c = -1 := by rw [← hb]; exact hl.mp z
    simp [this]
  · rw [if_neg z]
    have hz : bsn A c ≠ -1 := fun y => z (hl.mpr (by rw [hb]; exact y))
    refine ⟨by simp [hz, h1], by omega, ?_⟩
    rcases lk_rg hG.1.2.1 c with y | y
    · exact absurd y z
    · have lo_ := low_of hG.1.1 hG.1.2.1 y.1 (by omega) y.2.2.1
      have hn := nn_bd hG.1.1
      have := lown_le A (lo (msk A (lk A c))).toNat
      omega
theorem s_102 {Q : Mem2} {A : Ab} {nx cnt : Int} (h : IC Q.1 A nx cnt) {c : Int} (c0 : 0 ≤ c) (c1 : c < nn A) : LW_isSound_L102 (ni (nn A)) (1 : Int32) (ni c) Q = some (.inl ((1 : Int32), ni c + (1 : Int32)), Q) := by
  have hn := nn_bd h.2.1.1.1
  have g := h.2.1.1.1
  obtain ⟨e1, e2⟩ := ends g c0 c1
  obtain ⟨v1, v2⟩ := cv_3 h.2.1 c0 c1
  have hb := h.2.1.2.1.2.2.1 c c0 c1
  unfold LW_isSound_L102
  rw [if_neg (by rw [ni_le (by omega) (by omega) (by omega) (by omega)]; omega), k_course h c0 c1, bo_s]
  rw [show ((Q.1, Q.2) : Mem2) = Q from rfl, s_123 h c0 c1, bq_s]
  dsimp only
  rw [if_neg (by decide), if_neg (by rw [lsr1 _ c0 (by omega), crs_hs, con_self (n := 35) g c0 c1]; simp), e1, e2]
  rw [if_neg (by by_cases z : bsn A c = -1 <;> simp [z] <;> decide), kc3 h c c0 c1, bo_s]
  unfold LW_isSound_L102_J295
  rw [show ((Q.1, Q.2) : Mem2) = Q from rfl]
  have q0 : (0 ≤ ni (cv A c 3)) = (bsn A c ≠ -1) := by
    rw [← v1, show (0 : Int32) = ni 0 from rfl, ni_le (by omega) (by omega) (by omega) (by omega)]
  simp only [q0]
  rw [if_neg (by by_cases z : bsn A c = -1 <;> simp [z] <;> decide), (kc h c c0 c1).2.2.2.2, bo_s]
  simp only [bB0]
  cases y : ipt A c with
  | false => rw [if_pos rfl]
  | true =>
    rw [if_neg (by simp), (kc h c c0 c1).2.2.1, bo_s]
    have hp := bsn_pit y
    have hld := ldn_bd A (lo (pl A c)).toNat
    have bb := bas_bd g h.2.1.2.1.2 c0 c1
    rw [if_neg (by rw [show (0 : Int32) = ni 0 from rfl, ni_lt (by omega) (by omega) (by omega) (by omega), hb, hp.2]; omega)]
theorem s_99 {Q : Mem2} {A : Ab} {nx cnt : Int} (h : IC Q.1 A nx cnt) : LW_isSound_J99 (ni (nn A)) (1 : Int32) Q = some ((1 : Int32), Q) := by
  have hn := nn_bd h.2.1.1.1
  obtain ⟨r, M', e, rfl, rfl⟩ := lpQ_to (f := fun s M9 => LW_isSound_L102 (ni (nn A)) s.1 s.2 M9) (nn A).toNat (by omega) (fun i s M => s = ((1 : Int32), ni (i : Int)) ∧ M = Q) (fun r M => r = (1 : Int32) ∧ M = Q) (by
    rintro i hi s M ⟨rfl, rfl⟩
    refine ⟨_, _, s_102 h (c := (i : Int)) (by omega) (by omega), ?_, rfl⟩
    rw [show (1 : Int32) = ni 1 from rfl, ni_add]; rfl) (by
    rintro s M ⟨rfl, rfl⟩
    refine ⟨_, _, ?_, rfl, rfl⟩
    unfold LW_isSound_L102
    dsimp only
    rw [if_pos (by rw [ni_le (by omega) (by omega) (by omega) (by omega)]; omega)]) (s := ((1 : Int32), (0 : Int32))) (M := Q) ⟨rfl, rfl⟩
  unfold LW_isSound_J99
  rw [e, bq_s]
  rfl
theorem w_sound {Q : Mem2} {A : Ab} {nx cnt : Int} (h : IC Q.1 A nx cnt) : LW_isSound Q = some ((1 : Int32), Q) := by
  obtain ⟨b1, b2, b3, b4, b5⟩ := ni_bds h.2.1.1
  have hnn : ni (wd A) * ni (hg A) = ni (nn A) := by rw [ni_mul]; rfl
  obtain ⟨n0, n1, n2, n3, n4, n5⟩ := kn h
  obtain ⟨z0, z1, z2, z3⟩ := kb h
  have l1 := lakes_le h.2.1.1
  have l2 := wet_sea h.2.1.1 h.2.1.2.2.1
  have l3 := deep_iff h.2.1.1
  have l4 := dps_bd (RM_gm A) h.2.1.1 (nn A).toNat (Nat.le_refl _)
  unfold LW_isSound
  rw [n0, bo_s, n1, bo_s, z0, bo_s, z1, bo_s, z2, bo_s, z3, bo_s, if_neg (not_not_intro h.2.1.2.2.2), n3, bo_s, n2, bo_s]
  rw [if_neg (by rw [ni_lt (by omega) (by omega) (by omega) (by omega)]; omega), n4, bo_s, n5, bo_s, hnn, ni_add]
  rw [if_neg (by rw [ni_lt (by omega) (by omega) (by omega) (by omega)]; omega), k_deepest h, b1_s]
  unfold LW_isSound_J78 LW_isSound_J91
  rw [n4, bo_s]
  have e1 : (0 ≤ ni (dps A (nn A).toNat).1) = (wta A ≠ 0) := by
    rw [show (0 : Int32) = ni 0 from rfl, ni_le (by omega) (by omega) (by omega) (by omega)]
    refine propext ⟨fun q z => ?_, fun q => ?_⟩
    · have := l3.mpr z; omega
    · by_cases y : (dps A (nn A).toNat).1 < 0
      · exact absurd (l3.mp y) q
      · omega
  have e2 : (ni (wta A) = 0) = (wta A = 0) := by rw [show (0 : Int32) = ni 0 from rfl, ni_eq (by omega) (by omega) (by omega) (by omega)]
  simp only [e1, e2]
  rw [if_neg (by simp)]
  exact s_99 h
