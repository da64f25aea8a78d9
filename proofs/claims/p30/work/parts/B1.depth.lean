/-! B1.depth: a memory that holds a state; wet cells stay wet, depths don't fall -/
def gm (A : Ab) : Mem := (fun _ _ => 0, fun _ q => if q = 0 then nl (wd A) else if q = 1 then nl (hg A) else if q = 2 then drn A else if q = 3 then lst A else if q = 4 then gon A else if q = 5 then prd A else if q = 6 then nl (bnn A) else if q < 44 then nl (ht A ((q : Int) - 8)) else if q < 80 then nl (grt A ((q : Int) - 44)) else if q < 116 then nl (gdn A ((q : Int) - 80)) else if q < 152 then nl (bas A ((q : Int) - 116)) else if q < 224 then msk A ((q : Int) - 152) else if q < 296 then nl (vol A ((q : Int) - 224)) else if q < 368 then nl (fst A ((q : Int) - 296)) else if q < 440 then nl (snd A ((q : Int) - 368)) else if q < 512 then nl (there A ((q : Int) - 440)) else pits A)
theorem RM_gm (A : Ab) : RM (gm A) A := by
  refine ⟨fun c h => ?_, fun c h => ?_, fun c h => ?_, fun c h => ?_, fun c h => ?_, fun c h => ?_, fun c h => ?_, fun c h => ?_, fun c h => ?_, rfl, rfl, rfl, rfl, rfl, rfl, rfl, rfl⟩
  · show (if 8 + c = 0 then _ else _) = _
    rw [if_neg (by omega), if_neg (by omega), if_neg (by omega), if_neg (by omega), if_neg (by omega), if_neg (by omega), if_neg (by omega), if_pos (by omega), show ((8 + c : Nat) : Int) - 8 = c by omega]
  · show (if 44 + c = 0 then _ else _) = _
    rw [if_neg (by omega), if_neg (by omega), if_neg (by omega), if_neg (by omega), if_neg (by omega), if_neg (by omega), if_neg (by omega), if_neg (by omega), if_pos (by omega), show ((44 + c : Nat) : Int) - 44 = c by omega]
  · show (if 80 + c = 0 then _ else _) = _
    rw [if_neg (by omega), if_neg (by omega), if_neg (by omega), if_neg (by omega), if_neg (by omega), if_neg (by omega), if_neg (by omega), if_neg (by omega), if_neg (by omega), if_pos (by omega), show ((80 + c : Nat) : Int) - 80 = c by omega]
  · show (if 116 + c = 0 then _ else _) = _
    rw [if_neg (by omega), if_neg (by omega), if_neg (by omega), if_neg (by omega), if_neg (by omega), if_neg (by omega), if_neg (by omega), if_neg (by omega), if_neg (by omega), if_neg (by omega), if_pos (by omega), show ((116 + c : Nat) : Int) - 116 = c by omega]
  · show (if 152 + c = 0 then _ else _) = _
    rw [if_neg (by omega), if_neg (by omega), if_neg (by omega), if_neg (by omega), if_neg (by omega), if_neg (by omega), if_neg (by omega), if_neg (by omega), if_neg (by omega), if_neg (by omega), if_neg (by omega), if_pos (by omega), show ((152 + c : Nat) : Int) - 152 = c by omega]
  · show (if 224 + c = 0 then _ else _) = _
    rw [if_neg (by omega), if_neg (by omega), if_neg (by omega), if_neg (by omega), if_neg (by omega), if_neg (by omega), if_neg (by omega), if_neg (by omega), if_neg (by omega), if_neg (by omega), if_neg (by omega), if_neg (by omega), if_pos (by omega), show ((224 + c : Nat) : Int) - 224 = c by omega]
  · show (if 296 + c = 0 then _ else _) = _
    rw [if_neg (by omega), if_neg (by omega), if_neg (by omega), if_neg (by omega), if_neg (by omega), if_neg (by omega), if_neg (by omega), if_neg (by omega), if_neg (by omega), if_neg (by omega), if_neg (by omega), if_neg (by omega), if_neg (by omega), if_pos (by omega), show ((296 + c : Nat) : Int) - 296 = c by omega]
  · show (if 368 + c = 0 then _ else _) = _
    rw [if_neg (by omega), if_neg (by omega), if_neg (by omega), if_neg (by omega), if_neg (by omega), if_neg (by omega), if_neg (by omega), if_neg (by omega), if_neg (by omega), if_neg (by omega), if_neg (by omega), if_neg (by omega), if_neg (by omega), if_neg (by omega), if_pos (by omega), show ((368 + c : Nat) : Int) - 368 = c by omega]
  · show (if 440 + c = 0 then _ else _) = _
    rw [if_neg (by omega), if_neg (by omega), if_neg (by omega), if_neg (by omega), if_neg (by omega), if_neg (by omega), if_neg (by omega), if_neg (by omega), if_neg (by omega), if_neg (by omega), if_neg (by omega), if_neg (by omega), if_neg (by omega), if_neg (by omega), if_neg (by omega), if_pos (by omega), show ((440 + c : Nat) : Int) - 440 = c by omega]
theorem LV_ex {A : Ab} (hW : WF A) {k : Int} (h0 : 0 ≤ k) (h1 : k < 72) (hz : msk A k ≠ 0) : ∃ x y, LV A (msk A k) (vol A k) x y := by
  obtain ⟨_, x, y, _, _, _, _, hL⟩ := e_levels (RM_gm A) hW.1 hW.2.1 h0 h1 hz
  exact ⟨x, y, hL⟩
theorem isw_iff {A : Ab} {c : Int} : isw A c = true ↔ lk A c ≠ -1 ∧ hs (msk A (lk A c)) c = true ∧ nd A (msk A (lk A c)) (ht A c) < vol A (lk A c) := by
  unfold isw wt
  simp [Bool.and_eq_true]
theorem gq_step {A : Ab} {m : Int64} {h q : Int} (q0 : 0 < q) : GQ A m (q * h + 1) q ≤ q * nd A m h + (nn A).toNat := by
  unfold GQ nd
  generalize (nn A).toNat = n
  induction n with
  | zero => simp [sm]
  | succ n ih =>
    simp only [sm]
    have : (if hs m (n : Int) = true ∧ q * ht A n < q * h + 1 then q * h + 1 - q * ht A n else 0) ≤ q * room A m h n + 1 := by
      unfold room
      by_cases z : hs m (n : Int) = true ∧ ht A n < h
      · rw [if_pos z, Int.mul_sub]
        split <;> have := Int.mul_lt_mul_of_pos_left z.2 q0 <;> omega
      · rw [if_neg z]
        split
        · rename_i y
          have y2 : ¬ ht A n < h := fun w => z ⟨y.1, w⟩
          have := Int.mul_le_mul_of_nonneg_left (Int.not_lt.mp y2) (Int.le_of_lt q0)
          omega
        · omega
    rw [Int.mul_add]
    omega
theorem isw_mono {A B : Ab} (g : WFg A) (h : RS A B) {c : Int} (c0 : 0 ≤ c) (c1 : c < nn A) (hi : isw A c = true) : isw B c = true := by
  have hn := nn_bd g
  obtain ⟨a1, a2, a3⟩ := isw_iff.mp hi
  have s1 := gq_step (A := A) (m := msk A (lk A c)) (h := ht A c) (q := nn A) (by omega)
  have s2 := Int.mul_le_mul_of_nonneg_left (show nd A (msk A (lk A c)) (ht A c) + 1 ≤ vol A (lk A c) by omega) (show 0 ≤ nn A by omega)
  rw [Int.mul_add] at s2
  obtain ⟨b1, b2⟩ := h.2.2 c (nn A * ht A c + 1) (nn A) c0 c1 (by omega) (by omega) a1 (by omega)
  have b3 : hs (msk B (lk B c)) c = true := by
    rcases lk_spec B c with z | z
    · exact absurd z.1 b1
    · exact z.2.2.2
  have e : ht A c = ht B c := h.1.ht c
  rw [e] at b2
  have s3 := gq_lt (A := B) (m := msk B (lk B c)) (p := nn A * ht B c + 1) (q := nn A) (T := ht B c) (by omega) (by omega) c0 (by rw [← h.1.nn]; exact c1) b3 (by omega)
  refine isw_iff.mpr ⟨b1, b3, ?_⟩
  exact Int.lt_of_mul_lt_mul_left (Int.lt_of_lt_of_le s3 b2) (by omega)
theorem sm_lin (n : Nat) (w : Nat → Bool) (f : Nat → Int) (a b : Int) : sm n (fun d => if w d = true then a - b * f d else 0) = a * ct n w - b * sm n (fun d => if w d = true then f d else 0) := by
  induction n with
  | zero => simp [sm, ct]
  | succ n ih =>
    rw [ct_succ]
    simp only [sm]
    rw [ih, Int.mul_add, Int.mul_add]
    split
    · rw [Int.mul_one]; omega
    · rw [Int.mul_zero, Int.mul_zero]; omega
theorem gq_level {A : Ab} (hW : WF A) {c : Int} (c0 : 0 ≤ c) (c1 : c < nn A) (hi : isw A c = true) : GQ A (msk A (lk A c)) (vol A (lk A c) + wS A (lk A c)) (wB A (lk A c)) = wB A (lk A c) * vol A (lk A c) ∧ wB A (lk A c) * ht A c < vol A (lk A c) + wS A (lk A c) := by
  obtain ⟨⟨k0, k1, k2⟩, hV, _, _⟩ := isw_num (RM_gm A) hW c0 c1 hi
  obtain ⟨x, y, hL⟩ := LV_ex hW k0 (show lk A c < 72 by omega) k2
  obtain ⟨e1, e2, e3⟩ := LV_pos hW.1 hV hL
  have wet : ∀ d : Int, 0 ≤ d → d < nn A → hs (msk A (lk A c)) d = true → (wB A (lk A c) * ht A d < vol A (lk A c) + wS A (lk A c)) = (nd A (msk A (lk A c)) (ht A d) < vol A (lk A c)) := by
    intro d d0 d1 hd
    have := LV_wet hW.1 (by omega) hL d0 d1 hd
    rw [e1, e2] at this
    exact this
  obtain ⟨i1, i2, i3⟩ := isw_iff.mp hi
  refine ⟨?_, by rw [wet c c0 c1 i2]; exact i3⟩
  have e : GQ A (msk A (lk A c)) (vol A (lk A c) + wS A (lk A c)) (wB A (lk A c)) = sm (nn A).toNat (fun d => if wt A (lk A c) (d : Int) = true then (vol A (lk A c) + wS A (lk A c)) - wB A (lk A c) * ht A d else 0) := by
    unfold GQ
    refine sm_congr (fun d hd => ?_)
    by_cases z : hs (msk A (lk A c)) (d : Int) = true
    · have w := wet d (by omega) (by omega) z
      unfold wt
      rw [z]
      simp only [Bool.true_and, decide_eq_true_eq, true_and]
      by_cases y : nd A (msk A (lk A c)) (ht A d) < vol A (lk A c)
      · rw [if_pos y, if_pos (by rw [w]; exact y)]
      · rw [if_neg y, if_neg (by rw [w]; exact y)]
    · unfold wt
      simp only [Bool.not_eq_true] at z
      rw [z]
      simp
  rw [e, sm_lin _ (fun d => wt A (lk A c) (d : Int)) (fun d => ht A d)]
  show (vol A (lk A c) + wS A (lk A c)) * wB A (lk A c) - wB A (lk A c) * wS A (lk A c) = _
  rw [Int.add_mul, Int.mul_comm (wS A (lk A c)), Int.mul_comm (vol A (lk A c))]
  omega
theorem gq_scale (A : Ab) (m : Int64) (p q s : Int) (hs0 : 0 < s) : GQ A m (s * p) (s * q) = s * GQ A m p q := by
  unfold GQ
  generalize (nn A).toNat = n
  induction n with
  | zero => simp [sm]
  | succ n ih =>
    simp only [sm]
    rw [ih, Int.mul_add]
    have e : s * q * ht A (n : Int) = s * (q * ht A n) := Int.mul_assoc _ _ _
    have l : (s * q * ht A (n : Int) < s * p) = (q * ht A n < p) := by
      rw [e]
      exact propext ⟨fun z => Int.lt_of_mul_lt_mul_left z (by omega), fun z => Int.mul_lt_mul_of_pos_left z hs0⟩
    by_cases z : hs m (n : Int) = true ∧ q * ht A n < p
    · rw [if_pos z, if_pos ⟨z.1, by rw [l]; exact z.2⟩, Int.mul_sub, e]
    · rw [if_neg z, if_neg (fun y => z ⟨y.1, by rw [← l]; exact y.2⟩), Int.mul_zero]
theorem gq_strict {A : Ab} {m : Int64} {p p' q : Int} (hp : p < p') {c : Int} (c0 : 0 ≤ c) (c1 : c < nn A) (hc : hs m c = true) (hq : q * ht A c < p') : GQ A m p q < GQ A m p' q := by
  obtain ⟨n, rfl⟩ : ∃ n : Nat, c = n := ⟨c.toNat, by omega⟩
  unfold GQ
  refine sm_lt (k := n) (fun i _ => ?_) (by omega) ?_
  · by_cases z : hs m (i : Int) = true ∧ q * ht A i < p
    · rw [if_pos z, if_pos ⟨z.1, by omega⟩]; omega
    · rw [if_neg z]
      split <;> omega
  · rw [if_pos (show hs m (n : Int) = true ∧ q * ht A n < p' from ⟨hc, hq⟩)]
    split <;> omega
theorem dep_mono {A B : Ab} (hA : WF A) (hB : WF B) (h : RS A B) {c : Int} (c0 : 0 ≤ c) (c1 : c < nn A) : ¬ dcl (dep B c) (dep A c) < 0 := by
  have c2 : c < nn B := by rw [← h.1.nn]; exact c1
  have le9 : ∀ {p q p' q' : Int}, 0 < p → p ≤ 1300000 → 0 < q → q ≤ 36 → 0 ≤ p' → p' ≤ 1300000 → 0 < q' → q' ≤ 36 → p' * q ≤ p * q' → ¬ dcl (frac p.toNat q.toNat) (frac p'.toNat q'.toNat) < 0 := by
    intro p q p' q' h1 h2 h3 h4 h5 h6 h7 h8 h9 z
    have e := dcl_frac (p := p.toNat) (q := q.toNat) (p' := p'.toNat) (q' := q'.toNat) (by omega) (by omega) (by omega) (by omega) (by omega) (by omega)
    have z2 : dcl (frac p.toNat q.toNat) (frac p'.toNat q'.toNat) ≤ 0 := Int32.le_of_lt z
    rw [e] at z2
    rw [← Int.ofNat_le, Int.natCast_mul, Int.natCast_mul, Int.toNat_of_nonneg (by omega), Int.toNat_of_nonneg (by omega), Int.toNat_of_nonneg (by omega), Int.toNat_of_nonneg (by omega)] at z2
    have eq : p.toNat * q'.toNat = p'.toNat * q.toNat := by
      have : p * q' = p' * q := by omega
      rw [← Int.ofNat_inj, Int.natCast_mul, Int.natCast_mul, Int.toNat_of_nonneg (by omega), Int.toNat_of_nonneg (by omega), Int.toNat_of_nonneg (by omega), Int.toNat_of_nonneg (by omega)]
      exact this
    rw [frac_cg (by omega) (by omega) eq, dcl_self (frac_nn (by omega))] at z
    exact absurd z (by decide)
  unfold dep
  by_cases i : isw A c = true
  · have j := isw_mono hA.1 h c0 c1 i
    rw [if_pos i, if_pos j]
    obtain ⟨_, hV, n1, d1⟩ := isw_num (RM_gm A) hA c0 c1 i
    obtain ⟨_, hV', n2, d2⟩ := isw_num (RM_gm B) hB c0 c2 j
    refine le9 n2.1 n2.2 d2.1 d2.2 (by omega) n1.2 d1.1 d1.2 ?_
    obtain ⟨g1, g2⟩ := gq_level hA c0 c1 i
    obtain ⟨g3, g4⟩ := gq_level hB c0 c2 j
    have e : ht A c = ht B c := h.1.ht c
    unfold dD at d1 d2
    obtain ⟨m1, m2⟩ := h.2.2 c _ _ c0 c1 d1.1 g2 (isw_iff.mp i).1 (by rw [g1]; exact Int.le_refl _)
    unfold dN dD
    rw [e] at g2 ⊢
    generalize vol A (lk A c) + wS A (lk A c) = a at *
    generalize wB A (lk A c) = b at *
    generalize vol B (lk B c) + wS B (lk B c) = a' at *
    generalize wB B (lk B c) = b' at *
    generalize et : ht B c = t at *
    have key : a * b' ≤ a' * b := by
      by_cases z : a * b' ≤ a' * b
      · exact z
      · exfalso
        have s1 := gq_scale B (msk B (lk B c)) a' b' b d1.1
        have s2 := gq_scale B (msk B (lk B c)) a b b' d2.1
        have s3 : b' * b = b * b' := Int.mul_comm _ _
        have s4 : b * a' < b' * a := by rw [Int.mul_comm b a', Int.mul_comm b' a]; omega
        rw [s3] at s2
        have s5 := gq_strict (A := B) (m := msk B (lk B c)) (p := b * a') (p' := b' * a) (q := b * b') s4 c0 c2 (isw_iff.mp j).2.1 (by
          rw [← s3, Int.mul_assoc]
          show b' * (b * _) < b' * a
          exact Int.mul_lt_mul_of_pos_left (by rw [et]; exact g2) d2.1)
        rw [s1, s2, g3] at s5
        have s6 := Int.mul_le_mul_of_nonneg_left m2 (show 0 ≤ b' by omega)
        have s7 : b' * (b * vol B (lk B c)) = b * (b' * vol B (lk B c)) := by rw [← Int.mul_assoc, ← Int.mul_assoc, s3]
        omega
    have p1 : (a - b * t) * b' = a * b' - b * b' * t := by rw [Int.sub_mul, Int.mul_assoc b t b', Int.mul_comm t b', ← Int.mul_assoc]
    have p2 : (a' - b' * t) * b = a' * b - b * b' * t := by rw [Int.sub_mul, Int.mul_assoc b' t b, Int.mul_comm t b, ← Int.mul_assoc, Int.mul_comm b' b]
    rw [p1, p2]
    omega
  · rw [if_neg i]
    by_cases j : isw B c = true
    · rw [if_pos j, frac_zero]
      obtain ⟨_, hV', n2, d2⟩ := isw_num (RM_gm B) hB c0 c2 j
      exact le9 (p' := 0) (q' := 1) n2.1 n2.2 d2.1 d2.2 (by omega) (by omega) (by omega) (by omega) (by omega)
    · rw [if_neg j, frac_zero, dcl_self (frac_nn (by omega))]
      decide
