/-! 42.mprim: the other side's small methods -/
def bI (p : Prop) [Decidable p] : Int32 := if p then 1 else 0
theorem bI_z {p : Prop} [Decidable p] : (bI p = 0) = ¬ p := by unfold bI; by_cases h : p <;> simp [h]
theorem bI_a {p : Prop} [Decidable p] : bI p &&& 1 = bI p := by unfold bI; by_cases h : p <;> simp [h]
theorem bI_n {p : Prop} [Decidable p] : (if p then (0 : Int32) else (1 : Int32)) = bI (¬ p) := by unfold bI; by_cases h : p <;> simp [h]
theorem bI_c {p q : Prop} [Decidable p] [Decidable q] (h : p ↔ q) : bI p = bI q := by unfold bI; by_cases e : p <;> simp [e, ← h]
theorem bI_t {p : Prop} [Decidable p] (h : p) : bI p = 1 := by simp [bI, h]
theorem bI_f {p : Prop} [Decidable p] (h : ¬ p) : bI p = 0 := by simp [bI, h]
theorem e_in {a b c : Int} (h1 : -9223372036854775808 ≤ a) (h2 : a < 9223372036854775808) (h3 : -9223372036854775808 ≤ b) (h4 : b < 9223372036854775808) (h5 : -9223372036854775808 ≤ c) (h6 : c < 9223372036854775808) : MD_in (nl a) (nl b) (nl c) = bI (b ≤ a ∧ a ≤ c) := by
  unfold MD_in bI
  simp only [nl_lt h1 h2 h3 h4, nl_lt h5 h6 h1 h2]
  (repeat' split) <;> first | rfl | omega
theorem e_many {M : Mem} {A : Ab} (h : RM M A) : MD_many M = ni (nn A) := by
  unfold MD_many
  rw [RM_W h, RM_H h, nl_mul, nl_32]
  rfl
theorem e_isCell {M : Mem} {A : Ab} (h : RM M A) (g : WFg A) {x : Int} (h1 : -2147483648 ≤ x) (h2 : x < 2147483648) : MD_isCell (ni x) M = bI (0 ≤ x ∧ x < nn A) := by
  have := nn_bd g
  unfold MD_isCell
  rw [e_many h, ni_64 h1 h2, ni_64 (by omega) (by omega), show (0 : Int64) = nl 0 from rfl, show (1 : Int64) = nl 1 from rfl, nl_sub, e_in (by omega) (by omega) (by omega) (by omega) (by omega) (by omega), bI_a]
  exact bI_c (by omega)
theorem e_height {M : Mem} {A : Ab} (h : RM M A) {c : Int} (h0 : 0 ≤ c) (h1 : c < 36) : MD_height (ni c) M = some (ni (ht A c)) := by
  unfold MD_height
  rw [show (8 : Int32) = ni 8 from rfl, ni_add, ni_inb (by omega) (by omega), ck_d (by omega), ni_nat (by omega) (by omega), show (8 + c).toNat = 8 + c.toNat by omega, RM_ht h h0 h1, nl_32]
theorem e_neighbor {M : Mem} {A : Ab} (h : RM M A) (g : WFg A) {c s : Int} (h0 : 0 ≤ c) (h1 : c < nn A) (s0 : 0 ≤ s) (s1 : s < 4) : MD_neighbor (ni c) (ni s) M = some (ni (nb A c s)) := by
  have hn := nn_bd g
  have hw := g.1
  have hm : 0 ≤ c % wd A ∧ c % wd A < wd A := ⟨Int.emod_nonneg _ (by omega), Int.emod_lt_of_pos _ (by omega)⟩
  unfold MD_neighbor nb
  simp only [RM_W h, nl_32, e_many h, nlits]
  rw [ni_irm h0 (by omega) (by omega) (by omega)]
  simp (disch := omega) only [ni_eq, ni_lt, ni_le, ni_add, ni_sub]
  rw [ck_d (by omega), ck_d (by omega)]
  (repeat' split) <;> first | rfl | omega
theorem e_are {M : Mem} {A : Ab} (h : RM M A) (g : WFg A) {a b : Int} (h0 : 0 ≤ a) (h1 : a < nn A) (h2 : 0 ≤ b) (h3 : b < nn A) : MD_areNeighbors (ni a) (ni b) M = some (bI (nb A a 0 = b ∨ nb A a 1 = b ∨ nb A a 2 = b ∨ nb A a 3 = b)) := by
  have hn := nn_bd g
  have hr := fun s => nb_rg (s := s) g h0 h1
  have key : lpR (fun s => MD_areNeighbors_L5 (ni a) (ni b) s.1 s.2 M) FUEL ((0 : Int32), (0 : Int32)) = some (bI (nb A a 0 = b ∨ nb A a 1 = b ∨ nb A a 2 = b ∨ nb A a 3 = b)) := by
    refine lpR_to (fun i => (bI ((1 ≤ i ∧ nb A a 0 = b) ∨ (2 ≤ i ∧ nb A a 1 = b) ∨ (3 ≤ i ∧ nb A a 2 = b) ∨ (4 ≤ i ∧ nb A a 3 = b)), ni (i : Int))) _ 4 (by omega) ?_ ?_ ?_
    · intro i hi
      unfold MD_areNeighbors_L5
      dsimp only
      have hh := hr i
      simp (disch := omega) only [show (4 : Int32) = ni 4 from rfl, show (1 : Int32) = ni 1 from rfl, ni_le, bI_z, e_neighbor h g h0 h1 (by omega : 0 ≤ (i : Int)) (by omega : (i : Int) < 4), b1_s, ni_add, ni_eq]
      rw [if_neg (by omega)]
      obtain e | e | e | e : i = 0 ∨ i = 1 ∨ i = 2 ∨ i = 3 := by omega
      all_goals
        subst e
        simp only [Int.natCast_zero, Int.natCast_one, Int.cast_ofNat_Int] at *
        split
        · rename_i q
          simp only [Classical.not_not] at q
          refine congrArg some (congrArg Sum.inl (Prod.ext ?_ rfl))
          exact (bI_t (by omega)).symm
        · rename_i q
          simp only [Classical.not_not] at q
          refine congrArg some (congrArg Sum.inl (Prod.ext ?_ rfl))
          dsimp only
          rw [show ni 1 = (1 : Int32) from rfl, bI_n]
          exact bI_c (by omega)
    · unfold MD_areNeighbors_L5
      dsimp only
      simp (disch := omega) only [show (4 : Int32) = ni 4 from rfl, ni_le]
      rw [if_pos (by omega)]
      congr 2
      exact bI_c (by omega)
    · rw [bI_f (by omega)]; rfl
  unfold MD_areNeighbors
  rw [key, b1_s, bI_a]
theorem e_isPair {M : Mem} {A : Ab} (h : RM M A) (g : WFg A) {a b : Int} (h1 : -2147483648 ≤ a) (h2 : a < 2147483648) (h3 : -2147483648 ≤ b) (h4 : b < 2147483648) : MD_isPair (ni a) (ni b) M = some (bI ((0 ≤ a ∧ a < nn A) ∧ (0 ≤ b ∧ b < nn A) ∧ (nb A a 0 = b ∨ nb A a 1 = b ∨ nb A a 2 = b ∨ nb A a 3 = b))) := by
  unfold MD_isPair
  simp only [e_isCell h g h1 h2, e_isCell h g h3 h4, bI_z]
  by_cases q1 : 0 ≤ a ∧ a < nn A
  · by_cases q2 : 0 ≤ b ∧ b < nn A
    · rw [if_neg (by omega), if_neg (by omega), e_are h g q1.1 q1.2 q2.1 q2.2, b1_s]
      simp only [bI_z, bI_n, bI_a, Classical.not_not]
      exact congrArg some (bI_c (by omega))
    · rw [if_neg (by omega), if_pos (by omega), bI_f (by omega)]
  · rw [if_pos (by omega), bI_f (by omega)]
def gta (A : Ab) (a b : Int) : Int := if mor2 a b = nb A (lsr2 a b) 2 then 44 + lsr2 a b else 80 + lsr2 a b
theorem e_gateAt {M : Mem} {A : Ab} (h : RM M A) (g : WFg A) {a b : Int} (h0 : 0 ≤ a) (h1 : a < nn A) (h2 : 0 ≤ b) (h3 : b < nn A) : MD_gateAt (ni a) (ni b) M = some (ni (gta A a b)) := by
  have hn := nn_bd g
  have e1 : (if ni b ≤ ni a then ni b else ni a) = ni (lsr2 a b) := by
    simp (disch := omega) only [ni_le]; unfold lsr2; split <;> rfl
  have e2 : (if ni b ≤ ni a then ni a else ni b) = ni (mor2 a b) := by
    simp (disch := omega) only [ni_le]; unfold mor2; split <;> rfl
  have r1 : 0 ≤ lsr2 a b ∧ lsr2 a b < nn A := by unfold lsr2; split <;> omega
  have r2 : 0 ≤ mor2 a b ∧ mor2 a b < nn A := by unfold mor2; split <;> omega
  have r3 := nb_rg (s := 2) g r1.1 r1.2
  unfold MD_gateAt MD_gateAt_J10 MD_gateAt_J21
  rw [e1, e2, show (2 : Int32) = ni 2 from rfl, e_neighbor h g r1.1 r1.2 (by omega) (by omega), b1_s, show (80 : Int32) = ni 80 from rfl, show (44 : Int32) = ni 44 from rfl, ni_add, ni_add]
  simp (disch := omega) only [ni_eq]
  unfold gta
  by_cases e : mor2 a b = nb A (lsr2 a b) 2
  · rw [if_neg (by simp [e]), if_pos e]
  · rw [if_pos e, if_neg e]
theorem gta_val {M : Mem} {A : Ab} (h : RM M A) (g : WFg A) {a b : Int} (h0 : 0 ≤ a) (h1 : a < nn A) (h2 : 0 ≤ b) (h3 : b < nn A) : (0 ≤ gta A a b ∧ gta A a b < 513) ∧ gL M 1 (gta A a b).toNat = nl (gt A a b) := by
  have hn := nn_bd g
  have r1 : 0 ≤ lsr2 a b ∧ lsr2 a b < nn A := by unfold lsr2; split <;> omega
  unfold gta gt
  split
  · refine ⟨by omega, ?_⟩
    rw [show (44 + lsr2 a b).toNat = 44 + (lsr2 a b).toNat by omega, RM_gr h r1.1 (by omega)]
  · refine ⟨by omega, ?_⟩
    rw [show (80 + lsr2 a b).toNat = 80 + (lsr2 a b).toNat by omega, RM_gd h r1.1 (by omega)]
theorem e_threshold {M : Mem} {A : Ab} (h : RM M A) (g : WFg A) {a b : Int} (h0 : 0 ≤ a) (h1 : a < nn A) (h2 : 0 ≤ b) (h3 : b < nn A) : MD_threshold (ni a) (ni b) M = some (ni (thr A a b)) := by
  have hn := nn_bd g
  obtain ⟨q1, q2⟩ := gta_val h g h0 h1 h2 h3
  have b1 := ht_bd g h0 (by omega)
  have b2 := ht_bd g h2 (by omega)
  have b3 := gt_bd g h0 h1 h2 h3
  have e1 : gL M 1 ((8 : Int32) + ni a).toNatClampNeg = nl (ht A a) := by
    rw [show (8 : Int32) = ni 8 from rfl, ni_add, ni_nat (by omega) (by omega), show (8 + a).toNat = 8 + a.toNat by omega, RM_ht h h0 (by omega)]
  have e2 : gL M 1 ((8 : Int32) + ni b).toNatClampNeg = nl (ht A b) := by
    rw [show (8 : Int32) = ni 8 from rfl, ni_add, ni_nat (by omega) (by omega), show (8 + b).toNat = 8 + b.toNat by omega, RM_ht h h2 (by omega)]
  have e3 : inb ((8 : Int32) + ni a) 513 = true := by
    rw [show (8 : Int32) = ni 8 from rfl, ni_add, ni_inb (by omega) (by omega)]; exact decide_eq_true (by omega)
  have e4 : inb ((8 : Int32) + ni b) 513 = true := by
    rw [show (8 : Int32) = ni 8 from rfl, ni_add, ni_inb (by omega) (by omega)]; exact decide_eq_true (by omega)
  have e5 : ∀ m, 0 ≤ m → m < 100 → MD_threshold_J43 (ni a) (ni b) (nl m) M = some (ni (if gt A a b ≤ m then m else gt A a b)) := by
    intro m m0 m1
    unfold MD_threshold_J43
    rw [e_gateAt h g h0 h1 h2 h3, b1_s, ni_inb (by omega) (by omega), ck_d (by omega), ni_nat (by omega) (by omega), q2, nl_32, nl_32]
    simp (disch := omega) only [nl_le]
    split <;> rfl
  unfold MD_threshold
  rw [e3, e4, e1, e2, ck_t, ck_t, ck_t, ck_t, e5 _ (by omega) (by omega), e5 _ (by omega) (by omega)]
  simp (disch := omega) only [nl_le]
  unfold thr
  dsimp only
  split <;> rfl
theorem e_runs {M : Mem} {A : Ab} (h : RM M A) (g : WFg A) {a b : Int} (h0 : 0 ≤ a) (h1 : a < nn A) (h2 : 0 ≤ b) (h3 : b < nn A) : MD_runs (ni a) (ni b) M = some (bI (thr A a b = ht A a)) := by
  have hn := nn_bd g
  have b1 := ht_bd g h0 (by omega)
  have b2 := thr_bd g h0 h1 h2 h3
  unfold MD_runs
  rw [e_threshold h g h0 h1 h2 h3, b1_s, e_height h h0 (by omega), b1_s]
  simp (disch := omega) only [ni_eq, bI_n, bI_a, Classical.not_not]
