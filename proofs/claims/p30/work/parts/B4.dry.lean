/-! B4.dry: evaporation takes something where there is a wet cell, and only there -/
theorem vol_wet {A : Ab} (hW : WF A) {k : Int} (h0 : 0 ≤ k) (h1 : k < 72) (ht : there A k = 1) (hv : 0 < vol A k) : ∃ c, 0 ≤ c ∧ c < nn A ∧ isw A c = true := by
  obtain ⟨x, y, hL⟩ := LV_ex hW h0 h1 (hW.2.1.2.2.1 k h0 h1 ht)
  obtain ⟨e1, e2, e3⟩ := LV_pos hW.1 hv hL
  obtain ⟨c, c0, c1, c2⟩ := wet_some (A := A) (k := k) (by omega)
  refine ⟨c, c0, c1, ?_⟩
  have hm : hs (msk A k) c = true := by
    unfold wt at c2
    rw [Bool.and_eq_true] at c2
    exact c2.1
  have hl := lk_eq hW.2.1 h0 h1 ht hm
  unfold isw
  rw [hl, c2]
  simp
  omega
theorem wta_pos {A : Ab} (hW : WF A) {c : Int} (c0 : 0 ≤ c) (c1 : c < nn A) (h : isw A c = true) : 0 < wta A := by
  unfold wta
  exact ct_pos (p := fun c => isw A (c : Int)) (n := (nn A).toNat) (i := c.toNat) (by omega) (by rw [Int.toNat_of_nonneg c0]; exact h)
theorem wta_some {A : Ab} (h : 0 < wta A) : ∃ c, 0 ≤ c ∧ c < nn A ∧ isw A c = true := by
  by_cases q : ∃ i : Nat, i < (nn A).toNat ∧ isw A (i : Int) = true
  · obtain ⟨i, hi, q⟩ := q
    exact ⟨i, by omega, by omega, q⟩
  · exfalso
    have : wta A = 0 := ct_zero (fun i hi => by
      cases z : isw A (i : Int) with
      | false => rfl
      | true => exact absurd ⟨i, hi, z⟩ q)
    omega
theorem dry_wat {A : Ab} (hW : WF A) (h : wta A = 0) : wat A = 0 := by
  unfold wat
  refine sm_zero (fun i hi => ?_)
  split
  · rename_i t
    have hb := (hW.2.1.1 (i : Int) (by omega) (by omega)).2.2.2
    by_cases z : 0 < vol A (i : Int)
    · obtain ⟨c, c0, c1, c2⟩ := vol_wet hW (show (0 : Int) ≤ i by omega) (by omega) t z
      have := wta_pos hW c0 c1 c2
      omega
    · omega
  · rfl
theorem evS_rg {A : Ab} (hW : WF A) (r : Nat) : 0 ≤ evS r A ∧ evS r A ≤ wat A := by
  obtain ⟨e1, e2, e3, e4⟩ := evA_ok hW r
  have : 0 ≤ wat (evA r A) := (wat_bd e1.2.1 72 (by omega)).1
  omega
theorem dry_zero {A : Ab} (hW : WF A) (h : wta A = 0) (r : Nat) : evS r A = 0 := by
  have := evS_rg hW r
  have := dry_wat hW h
  omega
theorem pof_of {A : Ab} (hW : WF A) {k : Int} (h0 : 0 ≤ k) (h1 : k < 71) (ht : there A k = 1) : ∃ n : Nat, (n : Int) < lown A 36 ∧ pof A n = k := by
  have hn := nn_bd hW.1
  obtain ⟨l1, l2, l3, l4⟩ := low_of hW.1 hW.2.1 h0 (show k < 72 by omega) ht
  generalize hc : lo (msk A k) = c at l1 l2 l3 l4
  obtain ⟨m, rfl⟩ : ∃ m : Nat, c = m := ⟨c.toNat, by omega⟩
  have e1 := lown_succ A m
  rw [if_pos l1] at e1
  have e2 := lown_mono A (show m + 1 ≤ 36 by omega)
  have e3 := lown_nonneg A m
  refine ⟨(lown A m).toNat, by omega, ?_⟩
  rw [Int.toNat_of_nonneg e3, pof_low (by omega) l1, l2]
theorem dry_one {A : Ab} (hW : WF A) (h : 0 < wta A) : 0 < dryS A := by
  obtain ⟨c, c0, c1, c2⟩ := wta_some h
  obtain ⟨⟨k0, k1, k2⟩, hV, _, _⟩ := isw_num (RM_gm A) hW c0 c1 c2
  obtain ⟨a1, a2, a3⟩ := isw_iff.mp c2
  have ht : there A (lk A c) = 1 := by
    rcases lk_rg hW.2.1 c with z | z
    · exact absurd z a1
    · exact z.2.2.1
  obtain ⟨n, n0, n1⟩ := pof_of hW k0 k1 ht
  have hw : 0 < wtn A (msk A (lk A c)) := by
    unfold wtn
    exact ct_pos (p := fun d => hs (msk A (lk A c)) (d : Int) && isw A (d : Int)) (n := (nn A).toNat) (i := c.toNat) (by omega) (by rw [Int.toNat_of_nonneg c0, a2, c2]; rfl)
  have hm : 0 < am A n := by
    unfold am
    rw [n1]
    split <;> omega
  have hl := lown_nonneg A 36
  have : am A n ≤ dryS A := by
    unfold dryS
    exact sm_mem (fun i hi => (am_rg hW (n := i) (by omega)).1) (by omega)
  omega
theorem evS_mono {A : Ab} (hW : WF A) : ∀ r : Nat, dryS A ≤ evS (r + 1) A := by
  intro r
  induction r with
  | zero => show dryS A ≤ evS 0 A + dryS (evA 0 A); simp [evS, evA]
  | succ r ih =>
    have := dryS_rg (evA_ok hW (r + 1)).1
    show dryS A ≤ evS (r + 1) A + dryS (evA (r + 1) A)
    omega
