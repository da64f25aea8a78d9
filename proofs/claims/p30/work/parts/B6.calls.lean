/-! B6.calls: what each call answers, and the state behind it -/
def IC (M : Mem) (A : Ab) (nx cnt : Int) : Prop := RW 1 M A ∧ GI A ∧ (0 ≤ nx ∧ nx < 4) ∧ (0 ≤ cnt ∧ cnt ≤ 4) ∧ gI M 0 5 = ni nx ∧ gI M 0 4 = ni cnt
def cn (cnt : Int) : Int := if cnt = 4 then 4 else cnt + 1
theorem cn_bd {cnt : Int} (h : 0 ≤ cnt ∧ cnt ≤ 4) : (0 ≤ cn cnt ∧ cn cnt ≤ 4) ∧ (cnt ≤ cn cnt) ∧ (cnt < 4 → cn cnt = cnt + 1) := by
  unfold cn
  split <;> omega
theorem bI_one (p : Prop) [Decidable p] : bI p &&& 1 = bI p := by
  unfold bI
  split <;> decide
theorem k_in {M : Mem} {x a b : Int} (hx : -2147483648 ≤ x ∧ x < 2147483648) (h : a ≤ x ∧ x ≤ b) (ha : -1000000 ≤ a) (hb : b ≤ 1000000) : LL_needWithin (ni x) (ni a) (ni b) M = some (.inl (), M) := by
  rw [c_needWithin hx.1 hx.2 (by omega) (by omega) (by omega) (by omega), if_pos h]
theorem k_is {M : Mem} {A : Ab} {nx cnt : Int} (h : IC M A nx cnt) {c : Int} (c0 : 0 ≤ c) (c1 : c < nn A) : LL_needCell (ni c) M = some (.inl (), M) := by
  have hn := nn_bd h.2.1.1.1
  rw [c_needCell h.1.1.1 h.2.1.1.1 (by omega) (by omega), if_pos ⟨c0, c1⟩]
theorem k_cell {M : Mem} {A : Ab} {nx cnt : Int} (h : IC M A nx cnt) {c k : Int} (c0 : 0 ≤ c) (c1 : c < nn A) (k0 : 0 ≤ k ∧ k ≤ 5) : LL_cell (ni c) (ni k) M = some (.inl (ni (cv A c k)), M) := by
  unfold LL_cell
  rw [k_is h c0 c1, bx_l, show (0 : Int32) = ni 0 from rfl, show (5 : Int32) = ni 5 from rfl, k_in (by omega) k0 (by omega) (by omega), bx_l, c_cell h.1 h.2.1.1 h.2.1.2.1.2 c0 c1 k0, b1_s]
theorem k_count {M : Mem} {A : Ab} {nx cnt : Int} (h : IC M A nx cnt) {k : Int} (k0 : 0 ≤ k ∧ k ≤ 6) : LL_count (ni k) M = some (.inl (ni (nv A k)), M) := by
  unfold LL_count
  rw [show (0 : Int32) = ni 0 from rfl, show (6 : Int32) = ni 6 from rfl, k_in (by omega) k0 (by omega) (by omega), bx_l, c_count h.1 h.2.1.1 h.2.1.2.1.2 k0, b1_s]
theorem k_balance {M : Mem} {A : Ab} {nx cnt : Int} (h : IC M A nx cnt) {k : Int} (k0 : 0 ≤ k ∧ k ≤ 3) : LL_balance (ni k) M = some (.inl (balV A k), M) := by
  unfold LL_balance
  rw [show (0 : Int32) = ni 0 from rfl, show (3 : Int32) = ni 3 from rfl, k_in (by omega) k0 (by omega) (by omega), bx_l, c_balance h.1 h.2.1.1 k0, b1_s]
theorem k_course {M : Mem} {A : Ab} {nx cnt : Int} (h : IC M A nx cnt) {c : Int} (c0 : 0 ≤ c) (c1 : c < nn A) : LL_course (ni c) M = some (.inl (crs A 36 c 0), M) := by
  unfold LL_course
  rw [k_is h c0 c1, bx_l, c_course h.2.1.1.1 h.1.1.2.2.1.2.1 c0 c1, b1_s]
theorem k_depth {M : Mem} {A : Ab} {nx cnt : Int} (h : IC M A nx cnt) {c : Int} (c0 : 0 ≤ c) (c1 : c < nn A) : LL_depth (ni c) M = some (.inl (dep A c), M) := by
  unfold LL_depth
  rw [k_is h c0 c1, bx_l, c_depthValue h.1 (RM_gm A) h.2.1.1 c0 c1, b1_s]
theorem k_deepest {M : Mem} {A : Ab} {nx cnt : Int} (h : IC M A nx cnt) : LL_deepest M = some (ni (dps A (nn A).toNat).1) := c_deepest h.1 (RM_gm A) h.2.1.1
noncomputable def dgv (A : Ab) (t : Int64) : Int64 := dC3 A (dC2 A (dC1 A (dC0 A (LL_mix (3049 : Int64) t))))
theorem k_digest {M : Mem} {A : Ab} {nx cnt : Int} (h : IC M A nx cnt) : LL_digest M = some (LL_mix (dgv A (gI M 94 1).toInt64) ((gI M 0 4).toInt64)) := by
  have ht : LK_total 20 M = some (ni (lown A 36)) := c_total h.1.1.2.2.2 h.2.1.1.2.1
  unfold LL_digest
  rw [c_d0 h.1 h.2.1.1 h.2.1.2.1.2, b1_s, c_d1 h.1 h.2.1.1 h.2.1.2.1.2, b1_s, ht, b1_s, c_d2 h.1 (RM_gm A) h.2.1.1, b1_s, c_d3 h.1 h.2.1.1, b1_s]
  rfl
theorem k_save {M : Mem} {A : Ab} {nx cnt : Int} (h : IC M A nx cnt) : ∃ M', LL_save M = some ((), M') ∧ IC M' A ((nx + 1) % 4) (cn cnt) ∧ RW (slot nx 0 0) M' A ∧ Fr (fun p => p = 0 ∨ (97 ≤ p ∧ p < 281)) M M' := by
  obtain ⟨hR, hG, hn, hc, e5, e4⟩ := h
  obtain ⟨M', q1, R1, g5, g4, F1⟩ := c_save hR hn hc e5 e4
  have hsl : 97 ≤ slot nx 0 0 ∧ slot nx 0 0 ≤ 235 := by
    unfold slot
    have : (nx - 0 + 0) % 4 < 4 ∧ 0 ≤ (nx - 0 + 0) % 4 := by omega
    omega
  exact ⟨M', q1, ⟨RW_fr hR F1 (fun p x y z => by omega), hG, by omega, (cn_bd hc).1, g5, g4⟩, R1, F1.mono (fun p hp => by omega)⟩
theorem IC_fr {M M' : Mem} {A B : Ab} {nx cnt : Int} {P : Nat → Prop} (h : IC M A nx cnt) (f : Fr P M M') (h0 : ¬ P 0) (hR : RW 1 M' B) (hG : GI B) : IC M' B nx cnt :=
  ⟨hR, hG, h.2.2.1, h.2.2.2.1, by rw [f.gI h0]; exact h.2.2.2.2.1, by rw [f.gI h0]; exact h.2.2.2.2.2⟩
/-- the ground changes to B, and the water is poured anew -/
theorem k_renew {M M3 : Mem} {A B : Ab} {nx cnt : Int} (h : IC M A nx cnt) {P : Nat → Prop} (f : Fr P M M3) (hP : ∀ p, P p → 1 ≤ p ∧ p < 47) (hG : RG 2 M3 B) (hB : WFg B) (hn : nn B = nn A) (hl : prd B = prd A ∧ lst B = lst A ∧ gon B = gon A) (h3 : ∀ q, gL M3 1 q = gL M 1 q) (hD : CD 1 M3 (lown A 36) (npl A) (npv A)) : ∃ M4, WD_renew 1 M3 = some ((), M4) ∧ IC M4 (CH A B) nx cnt ∧ GE B (CH A B) ∧ gI M4 13 0 = ni (npt B) ∧ nl (wat (CH A B)) + lst (CH A B) = nl (wat A) + lst A ∧ Fr (fun p => 1 ≤ p ∧ p < 47) M M4 := by
  obtain ⟨p1, p2, p3, p4⟩ := CH_pre h.2.1.1 hn
  have h1 := h.2.1.2.1.1
  obtain ⟨M4, q1, R1, F1⟩ := c_renew (w := 1) (Or.inl rfl) hG hB (by rw [h3, h3, h3, hl.1, hl.2.1, hl.2.2]; exact h.1.2) p1 hD p2 p3 (by omega)
  have R1' : RW 1 M4 (CH A B) := R1
  obtain ⟨g1, g2, g3, g4⟩ := GI_CH h.2.1 hB hn hl
  have F9 : Fr (fun p => 1 ≤ p ∧ p < 47) M M4 := (f.mono hP).trans (F1.mono (fun p hp => by omega))
  exact ⟨M4, q1, IC_fr h F9 (by omega) R1' g1, g2, by rw [← g3]; exact R1'.1.2.2.1.1, g4, F9⟩
theorem k_setHeight {M : Mem} {A : Ab} {nx cnt : Int} (h : IC M A nx cnt) {c v : Int} (c0 : 0 ≤ c) (c1 : c < nn A) (hv : 0 ≤ v ∧ v ≤ 99) : ∃ M', LL_setHeight (ni c) (ni v) M = some (.inl (ni (ht A c)), M') ∧ IC M' (CH A (aI A 1 c v)) ((nx + 1) % 4) (cn cnt) ∧ GE (aI A 1 c v) (CH A (aI A 1 c v)) ∧ nl (wat (CH A (aI A 1 c v))) + lst (CH A (aI A 1 c v)) = nl (wat A) + lst A := by
  have hn := nn_bd h.2.1.1.1
  have h3 : fAtI 3 (ni c) M = ni (ht A c) := h.1.1.1.2.1 c c0 (by omega)
  obtain ⟨M1, s1, s2, s3, s4⟩ := k_save h
  obtain ⟨M2, n1, n2, n3, n4⟩ := c_noteLakes (w := 1) (Or.inl rfl) s2.1.1 s2.2.1.1
  have gB : WFg (aI A 1 c v) := by
    obtain ⟨w1, w2, w3, w4, w5⟩ := h.2.1.1.1
    refine ⟨by simpa [aI, wd] using w1, by simpa [aI, hg] using w2, fun d d0 d1 => ?_, fun d d0 d1 => by simpa [aI, grt] using w4 d d0 d1, fun d d0 d1 => by simpa [aI, gdn] using w5 d d0 d1⟩
    have := w3 d d0 d1
    simp only [aI, ht] at *
    split <;> omega
  have hnB : nn (aI A 1 c v) = nn A := (nb_of (show (aI A 1 c v).1 0 = A.1 0 from by funext j; simp [aI])).2
  have fp' : Fr (fun p => p = 4) M2 (fPutI 3 (ni c) (ni v) M2) := Fr.put rfl
  have G2 : RG 2 M2 A := RG_fr s2.1.1.1 n3 (by omega) (by omega) (by omega) (by omega)
  have G3 : RG 2 (fPutI 3 (ni c) (ni v) M2) (aI A 1 c v) := RG_ht (g := 2) G2 (sz_w (w := 1) (Or.inl rfl)).1 c0 (by omega) v
  obtain ⟨M4, r1, r2, r3, r4, r5, r6⟩ := k_renew (M3 := fPutI 3 (ni c) (ni v) M2) (B := aI A 1 c v) (P := fun p => p = 1 ∨ p = 44 ∨ p = 46 ∨ p = 4) s2 ((n3.mono (fun p hp => by omega)).trans (fp'.mono (fun p hp => by omega))) (fun p hp => by omega) G3 gB hnB (by simp [aI, prd, lst, gon]) (fun q => by rw [fp'.gL (by omega), n4]) (CD_fr n2 fp' (by omega) (by omega) (by omega))
  refine ⟨M4, ?_, r2, r3, r5⟩
  unfold LL_setHeight
  rw [k_is h c0 c1, bx_l, show (0 : Int32) = ni 0 from rfl, show (99 : Int32) = ni 99 from rfl, k_in (by omega) hv (by omega) (by omega), bx_l, s1, b2_s, n1, b2_s, r1, b2_s, h3]
theorem k_setDrain {M : Mem} {A : Ab} {nx cnt : Int} (h : IC M A nx cnt) {c : Int} (c0 : 0 ≤ c) (c1 : c < nn A) : ∃ M', LL_setDrain (ni c) (1 : Int32) M = some (.inl (bI (hs (drn A) c = true)), M') ∧ IC M' (CH A (aL A 0 0 (drn A ||| sbit c))) ((nx + 1) % 4) (cn cnt) ∧ GE (aL A 0 0 (drn A ||| sbit c)) (CH A (aL A 0 0 (drn A ||| sbit c))) := by
  have hn := nn_bd h.2.1.1.1
  obtain ⟨M1, s1, s2, s3, s4⟩ := k_save h
  obtain ⟨M2, n1, n2, n3, n4⟩ := c_noteLakes (w := 1) (Or.inl rfl) s2.1.1 s2.2.1.1
  have gB : WFg (aL A 0 0 (drn A ||| sbit c)) := by
    obtain ⟨w1, w2, w3, w4, w5⟩ := h.2.1.1.1
    exact ⟨w1, w2, w3, w4, w5⟩
  have hnB : nn (aL A 0 0 (drn A ||| sbit c)) = nn A := rfl
  have G2 : RG 2 M2 A := RG_fr s2.1.1.1 n3 (by omega) (by omega) (by omega) (by omega)
  have fp' : Fr (fun p => p = 2) M2 (sL M2 2 3 (drn A ||| sbit c)) := Fr.sL rfl
  have G3 : RG 2 (sL M2 2 3 (drn A ||| sbit c)) (aL A 0 0 (drn A ||| sbit c)) := RG_dr G2 _
  obtain ⟨M4, r1, r2, r3, r4, r5, r6⟩ := k_renew (M3 := sL M2 2 3 (drn A ||| sbit c)) (B := aL A 0 0 (drn A ||| sbit c)) (P := fun p => p = 1 ∨ p = 44 ∨ p = 46 ∨ p = 2) s2 ((n3.mono (fun p hp => by omega)).trans (fp'.mono (fun p hp => by omega))) (fun p hp => by omega) G3 gB hnB (by simp [aL, prd, lst, gon]) (fun q => by rw [fp'.gL (by omega), n4]) (CD_fr n2 fp' (by omega) (by omega) (by omega))
  refine ⟨M4, ?_, r2, r3⟩
  have hdr : gL M2 2 3 = drn A := G2.1.2.2.2
  have hd0 : gL M 2 3 = drn A := h.1.1.1.1.2.2.2
  unfold LL_setDrain
  rw [k_is h c0 c1, bx_l, s1, b2_s, n1, b2_s]
  unfold GR_putDrain
  rw [b2_s, if_neg (by decide), hdr, LL_bit_eq, r1, b2_s, hd0, LL_has_eq _ c0 (by omega), bI_one]
theorem k_begin {M : Mem} {A : Ab} {nx cnt : Int} (h : IC M A nx cnt) {W H : Int} (w : 1 ≤ W ∧ W ≤ 6) (z : 1 ≤ H ∧ H ≤ 6) : ∃ M', LL_begin (ni W) (ni H) M = some (.inl (ni (W * H)), M') ∧ IC M' (fnd (G0 W H)) ((nx + 1) % 4) (cn cnt) := by
  obtain ⟨M1, s1, s2, s3, s4⟩ := k_save h
  obtain ⟨Ma, a1, a2, a3⟩ := c_lay (g := 2) (sz_w (w := 1) (Or.inl rfl)).1 (M := M1) w z
  have wf := G0_WFg w z
  obtain ⟨M2, b1, b2, b3⟩ := c_restartW (w := 1) (Or.inl rfl) a2 wf (G0_lk W H)
  have F : Fr (fun p => 1 ≤ p ∧ p < 47) M1 M2 := (a3.mono (fun p hp => by omega)).trans (b3.mono (fun p hp => by omega))
  refine ⟨M2, ?_, IC_fr s2 F (by omega) b2 (GI_fnd wf (G0_lk W H))⟩
  have hcells : gI M2 2 2 = ni (W * H) := by
    rw [show gI M2 2 2 = ni (nn (fnd (G0 W H))) from b2.1.1.1.2.2.1, fnd_nn, G0_nn]
  unfold LL_begin
  rw [show (1 : Int32) = ni 1 from rfl, show (6 : Int32) = ni 6 from rfl, k_in (by omega) w (by omega) (by omega), bx_l, k_in (by omega) z (by omega) (by omega), bx_l, s1, b2_s, a1, b2_s, b1, b2_s, hcells]
