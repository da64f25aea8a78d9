/-! 59.measure: thresholds and the order of the cells, after a change -/
theorem c_measure1 {g : Nat} {M : Mem} {A : Ab} (hG : RG g M A) (w : WFg A) (zg : SzG g) : ∃ r M', lpM (fun s M9 => GR_measure_L2 g s M9) FUEL (0 : Int32) M = some (r, M') ∧ (Fr (fun p => p = g + 7 + 1) M M' ∧ ∀ j, 0 ≤ j → j < 4 * nn A → fAtI (g + 7) (ni j) M' = ni (ths A (j / 4) (j % 4))) := by
  have hn := nn_bd w
  refine lpM_to (4 * nn A).toNat (by omega) (fun i s M' => s = ni (i : Int) ∧ Fr (fun p => p = g + 7 + 1) M M' ∧ ∀ j, 0 ≤ j → j < (i : Int) → fAtI (g + 7) (ni j) M' = ni (ths A (j / 4) (j % 4))) _ ?_ ?_ ⟨rfl, Fr.rfl', fun j a b => by omega⟩
  · rintro i hi s M1 ⟨rfl, hF, hj⟩
    have hG1 := RG_fr hG hF (by omega) (by omega) (by omega) (by omega)
    have hc : 0 ≤ (i : Int) / 4 ∧ (i : Int) / 4 < nn A := by omega
    have hr := nb_rg (s := (i : Int) % 4) w hc.1 hc.2
    have hs1 := RG_sd hG1 (j := (i : Int)) (by omega) (by omega)
    have hh := ht_bd w hc.1 (show (i : Int) / 4 < 36 by omega)
    unfold GR_measure_L2 GR_measure_L2_J70
    rw [hG1.1.2.2.1, hs1]
    simp (disch := omega) only [show (4 : Int32) = ni 4 from rfl, ni_mul, ni_le, ni_div, ni_s, show (-1 : Int32) = ni (-1) from rfl, ni_eq]
    rw [if_neg (by omega), hG1.2.1 _ hc.1 (by omega)]
    have hv : (if ¬ nb A ((i : Int) / 4) ((i : Int) % 4) = -1 then JM_max (JM_max (ni (ht A ((i : Int) / 4))) (fAtI (g + 1) (ni (nb A ((i : Int) / 4) ((i : Int) % 4))) M1)) (fAtI (g + 5) (ni (i : Int)) M1) else (100 : Int32)) = ni (ths A ((i : Int) / 4) ((i : Int) % 4)) := by
      unfold ths
      by_cases e : nb A ((i : Int) / 4) ((i : Int) % 4) = -1
      · rw [if_neg (by simp [e]), if_pos e]; rfl
      · have hb : 0 ≤ nb A ((i : Int) / 4) ((i : Int) % 4) ∧ nb A ((i : Int) / 4) ((i : Int) % 4) < nn A := by omega
        have hg5 := hG1.2.2.2 ((i : Int) / 4) ((i : Int) % 4) hc.1 hc.2 (by omega) (by omega) e
        rw [show 4 * ((i : Int) / 4) + (i : Int) % 4 = (i : Int) by omega] at hg5
        have hhb := ht_bd w hb.1 (by omega)
        have hgb := gt_bd w hc.1 hc.2 hb.1 hb.2
        rw [if_pos e, if_neg e, hG1.2.1 _ hb.1 (by omega), hg5, JM_max_ni (by omega) (by omega) (by omega) (by omega), JM_max_ni (by split <;> omega) (by split <;> omega) (by omega) (by omega)]
        refine congrArg ni ?_
        unfold thr
        dsimp only
        (repeat' split) <;> omega
    refine ⟨_, _, rfl, rfl, hF.trans (Fr.put rfl), fun j a b => ?_⟩
    rw [fAtI_put zg.2.2.2.1 (by omega) (by omega) (by omega) (by omega) (by omega)]
    by_cases e : j = (i : Int)
    · subst e
      rw [if_pos ⟨rfl, rfl⟩]
      exact hv
    · rw [if_neg (fun z => e z.2)]
      exact hj j a (by omega)
  · rintro s M1 ⟨rfl, hF, hj⟩
    have hG1 := RG_fr hG hF (by omega) (by omega) (by omega) (by omega)
    refine ⟨(), M1, ?_, hF, fun j a b => hj j a (by omega)⟩
    unfold GR_measure_L2
    rw [hG1.1.2.2.1]
    simp (disch := omega) only [show (4 : Int32) = ni 4 from rfl, ni_mul, ni_le]
    rw [if_pos (by omega)]
theorem c_insert {g : Nat} {M : Mem} {A : Ab} (hG : RG g M A) (w : WFg A) (zg : SzG g) {i : Nat} (hi : (i : Int) < nn A) {σ : Int → Int} (so : SO A i σ) (ho : ∀ j, 0 ≤ j → j < (i : Int) → fAtI (g + 9) (ni j) M = ni (σ j)) :
    ∃ p M', lpM (fun s M9 => GR_measure_L91 g (ni (i : Int)) s M9) FUEL (ni (i : Int)) M = some (ni p, M') ∧ Fr (fun p => p = g + 9 + 1) M M' ∧ (0 ≤ p ∧ p ≤ i) ∧ (∀ j, 0 ≤ j → j < p → fAtI (g + 9) (ni j) M' = ni (σ j)) ∧ (∀ j, p < j → j ≤ i → fAtI (g + 9) (ni j) M' = ni (σ (j - 1))) ∧ (∀ j, p ≤ j → j < i → ht A i < ht A (σ j)) ∧ (p = 0 ∨ ht A (σ (p - 1)) ≤ ht A i) := by
  have hn := nn_bd w
  have key : ∃ r M', lpM (fun s M9 => GR_measure_L91 g (ni (i : Int)) s M9) FUEL (ni (i : Int)) M = some (r, M') ∧ ∃ p, r = ni p ∧ Fr (fun p => p = g + 9 + 1) M M' ∧ (0 ≤ p ∧ p ≤ i) ∧ (∀ j, 0 ≤ j → j < p → fAtI (g + 9) (ni j) M' = ni (σ j)) ∧ (∀ j, p < j → j ≤ i → fAtI (g + 9) (ni j) M' = ni (σ (j - 1))) ∧ (∀ j, p ≤ j → j < i → ht A i < ht A (σ j)) ∧ (p = 0 ∨ ht A (σ (p - 1)) ≤ ht A i) := by
    refine lpM_wf (fun s M' => ∃ p : Int, s = ni p ∧ Fr (fun p => p = g + 9 + 1) M M' ∧ (0 ≤ p ∧ p ≤ i) ∧ (∀ j, 0 ≤ j → j < p → fAtI (g + 9) (ni j) M' = ni (σ j)) ∧ (∀ j, p < j → j ≤ i → fAtI (g + 9) (ni j) M' = ni (σ (j - 1))) ∧ (∀ j, p ≤ j → j < i → ht A i < ht A (σ j))) (fun s _ => s.toInt.toNat) _ ?_ FUEL _ M ⟨i, rfl, Fr.rfl', by omega, ho, fun j a b => by omega, fun j a b => by omega⟩ ?_
    · rintro s M1 ⟨p, rfl, hF, ⟨p0, p1⟩, q1, q2, q3⟩
      have hG1 := RG_fr hG hF (by omega) (by omega) (by omega) (by omega)
      have hhi := ht_bd w (show 0 ≤ (i : Int) by omega) (by omega)
      unfold GR_measure_L91
      simp (disch := omega) only [show (0 : Int32) = ni 0 from rfl, show (1 : Int32) = ni 1 from rfl, ni_neg, ni_le, ni_sub, ni_add]
      by_cases e0 : p ≤ 0
      · right
        rw [if_pos e0]
        exact ⟨_, M1, rfl, p, rfl, hF, ⟨p0, p1⟩, q1, q2, q3, Or.inl (by omega)⟩
      · have hr := so.1 (p - 1) (by omega) (by omega)
        have hh := ht_bd w hr.1 (show σ (p - 1) < 36 by omega)
        rw [if_neg e0, q1 (p - 1) (by omega) (by omega), hG1.2.1 _ hr.1 (by omega), hG1.2.1 _ (by omega) (by omega)]
        simp (disch := omega) only [ni_le]
        by_cases e1 : ht A (σ (p - 1)) ≤ ht A i
        · right
          rw [if_pos e1]
          exact ⟨_, M1, rfl, p, rfl, hF, ⟨p0, p1⟩, q1, q2, q3, Or.inr e1⟩
        · left
          rw [if_neg e1]
          refine ⟨_, _, rfl, ⟨p - 1, rfl, hF.trans (Fr.put rfl), by omega, fun j a b => ?_, fun j a b => ?_, fun j a b => ?_⟩, ?_⟩
          · rw [fAtI_put zg.2.2.2.2 (by omega) (by omega) (by omega) (by omega) (by omega), if_neg (by omega)]
            exact q1 j a (by omega)
          · rw [fAtI_put zg.2.2.2.2 (by omega) (by omega) (by omega) (by omega) (by omega)]
            by_cases e : j = p
            · rw [if_pos ⟨rfl, e⟩, e]
            · rw [if_neg (fun z => e z.2)]
              exact q2 j (by omega) b
          · by_cases e : j = p - 1
            · rw [e]; omega
            · exact q3 j (by omega) b
          · rw [ni_toInt (by omega) (by omega), ni_toInt (by omega) (by omega)]
            omega
    · rw [ni_toInt (by omega) (by omega)]
      have := FUEL_big; omega
  obtain ⟨r, M', k1, p, rfl, k2⟩ := key
  exact ⟨p, M', k1, k2⟩
theorem SO_insert {A : Ab} {i : Nat} {σ : Int → Int} {p : Int} (so : SO A i σ) (p0 : 0 ≤ p) (p1 : p ≤ i) (q3 : ∀ j, p ≤ j → j < i → ht A i < ht A (σ j)) (q4 : p = 0 ∨ ht A (σ (p - 1)) ≤ ht A i) : SO A ((i + 1 : Nat) : Int) (fun j => if j < p then σ j else if j = p then (i : Int) else σ (j - 1)) := by
  have hlow : ∀ j, 0 ≤ j → j < p → ht A (σ j) ≤ ht A i := by
    intro j a b
    rcases q4 with q | q
    · omega
    · have := SO_ht so (i := j) (j := p - 1) a (by omega) (by omega)
      omega
  refine ⟨fun j a b => ?_, fun j k a b d => ?_, fun c a b => ?_⟩
  · dsimp only
    by_cases e : j < p
    · rw [if_pos e]; have := so.1 j a (by omega); omega
    · rw [if_neg e]
      by_cases e2 : j = p
      · rw [if_pos e2]; omega
      · rw [if_neg e2]; have := so.1 (j - 1) (by omega) (by omega); omega
  · dsimp only
    by_cases e : j < p
    · rw [if_pos e]
      have h1 := hlow j a e
      have h2 := so.1 j a (by omega)
      by_cases e2 : k < p
      · rw [if_pos e2]; exact so.2.1 j k a b (by omega)
      · rw [if_neg e2]
        by_cases e3 : k = p
        · rw [if_pos e3]; unfold kl; omega
        · rw [if_neg e3]; exact so.2.1 j (k - 1) a (by omega) (by omega)
    · rw [if_neg e, if_neg (show ¬ k < p by omega)]
      by_cases e2 : j = p
      · rw [if_pos e2, if_neg (by omega)]
        have := q3 (k - 1) (by omega) (by omega)
        unfold kl; omega
      · rw [if_neg e2, if_neg (by omega)]; exact so.2.1 (j - 1) (k - 1) (by omega) (by omega) (by omega)
  · by_cases e : c = (i : Int)
    · refine ⟨p, p0, by omega, ?_⟩
      simp [e]
    · obtain ⟨j, j0, j1, j2⟩ := so.2.2 c a (by omega)
      by_cases e2 : j < p
      · exact ⟨j, j0, by omega, by dsimp only; rw [if_pos e2]; exact j2⟩
      · refine ⟨j + 1, by omega, by omega, ?_⟩
        dsimp only
        rw [if_neg (by omega), if_neg (by omega), show j + 1 - 1 = j by omega]; exact j2
theorem c_measure {g : Nat} {M : Mem} {A : Ab} (hG : RG g M A) (w : WFg A) (zg : SzG g) : ∃ M', GR_measure g M = some ((), M') ∧ RT g M' A ∧ Fr (fun p => p = g + 7 + 1 ∨ p = g + 9 + 1) M M' := by
  have hn := nn_bd w
  obtain ⟨r1, M1, k1, f1, h1⟩ := c_measure1 hG w zg
  have hG1 := RG_fr hG f1 (by omega) (by omega) (by omega) (by omega)
  have key : ∃ r M', lpM (fun s M9 => GR_measure_L81 g s M9) FUEL (0 : Int32) M1 = some (r, M') ∧ (Fr (fun p => p = g + 9 + 1) M1 M' ∧ ∃ σ, SO A (nn A) σ ∧ ∀ j, 0 ≤ j → j < nn A → fAtI (g + 9) (ni j) M' = ni (σ j)) := by
    refine lpM_to (nn A).toNat (by omega) (fun i s M' => s = ni (i : Int) ∧ Fr (fun p => p = g + 9 + 1) M1 M' ∧ ∃ σ, SO A i σ ∧ ∀ j, 0 ≤ j → j < (i : Int) → fAtI (g + 9) (ni j) M' = ni (σ j)) _ ?_ ?_ ⟨rfl, Fr.rfl', fun j => j, ⟨fun i a b => by omega, fun i j a b d => by omega, fun c a b => by omega⟩, fun j a b => by omega⟩
    · rintro i hi s M2 ⟨rfl, hF, σ, so, ho⟩
      have hG2 := RG_fr hG1 hF (by omega) (by omega) (by omega) (by omega)
      obtain ⟨p, M3, k2, f2, ⟨p0, p1⟩, q1, q2, q3, q4⟩ := c_insert hG2 w zg (i := i) (by omega) so ho
      unfold GR_measure_L81
      rw [hG2.1.2.2.1]
      simp (disch := omega) only [ni_le]
      rw [if_neg (by omega), k2, b2_s, ni_s]
      refine ⟨_, _, rfl, rfl, (hF.trans f2).trans (Fr.put rfl), _, SO_insert so p0 p1 q3 q4, fun j a b => ?_⟩
      rw [fAtI_put zg.2.2.2.2 (by omega) (by omega) (by omega) (by omega) (by omega)]
      by_cases e : j = p
      · rw [if_pos ⟨rfl, e⟩, if_neg (by omega), if_pos e]
      · rw [if_neg (fun z => e z.2)]
        by_cases e2 : j < p
        · rw [if_pos e2]; exact q1 j a e2
        · rw [if_neg e2, if_neg e]; exact q2 j (by omega) (by omega)
    · rintro s M2 ⟨rfl, hF, σ, so, ho⟩
      have hG2 := RG_fr hG1 hF (by omega) (by omega) (by omega) (by omega)
      rw [Int.toNat_of_nonneg (by omega)] at so ho
      refine ⟨(), M2, ?_, hF, σ, so, ho⟩
      unfold GR_measure_L81
      rw [hG2.1.2.2.1]
      simp (disch := omega) only [ni_le]
      rw [if_pos (by omega)]
  obtain ⟨r2, M2, k2, f2, σ, so, ho⟩ := key
  refine ⟨M2, ?_, ⟨fun c s c0 c1 s0 s1 => ?_, σ, so, ho⟩, ?_⟩
  · unfold GR_measure
    rw [k1, b2_s, k2, b2_s]
  · rw [f2.at (by omega), h1 _ (by omega) (by omega), show (4 * c + s) / 4 = c by omega, show (4 * c + s) % 4 = s by omega]
  · exact (f1.mono (fun p hp => Or.inl hp)).trans (f2.mono (fun p hp => Or.inr hp))
