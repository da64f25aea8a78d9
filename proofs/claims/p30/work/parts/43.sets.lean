/-! 43.sets: sets of cells as the bits of a long -/
def hs (x : Int64) (c : Int) : Bool := decide (0 ≤ c) && x.toBitVec.getLsbD c.toNat
def sbit (c : Int) : Int64 := lsh (1 : Int64) (ni c)
theorem hs_nat (x : Int64) (c : Nat) : hs x (c : Int) = x.toBitVec.getLsbD c := by simp [hs]
theorem hs_ext {x y : Int64} (h : ∀ c, 0 ≤ c → c < 64 → hs x c = hs y c) : x = y := by
  apply Int64.toBitVec_inj.mp
  apply BitVec.eq_of_getLsbD_eq
  intro i hi
  have := h (i : Int) (by omega) (by omega)
  rwa [hs_nat, hs_nat] at this
theorem hs_lt {x : Int64} {c : Int} (h : hs x c = true) : 0 ≤ c ∧ c < 64 := by
  unfold hs at h
  simp only [Bool.and_eq_true, decide_eq_true_eq] at h
  refine ⟨h.1, ?_⟩
  have := BitVec.lt_of_getLsbD h.2
  omega
theorem hs_zero (c : Int) : hs 0 c = false := by simp [hs]
theorem hs_or (x y : Int64) (c : Int) : hs (x ||| y) c = (hs x c || hs y c) := by
  simp [hs, Bool.and_or_distrib_left]
theorem hs_and (x y : Int64) (c : Int) : hs (x &&& y) c = (hs x c && hs y c) := by
  unfold hs
  rw [Int64.toBitVec_and, BitVec.getLsbD_and]
  cases decide (0 ≤ c) <;> simp
theorem hs_not (x : Int64) {c : Int} (h0 : 0 ≤ c) (h1 : c < 64) : hs (x ^^^ (-1 : Int64)) c = !hs x c := by
  unfold hs
  rw [Int64.toBitVec_xor, BitVec.getLsbD_xor, show (-1 : Int64).toBitVec = BitVec.allOnes 64 from rfl, BitVec.getLsbD_allOnes]
  simp [h0, show c.toNat < 64 by omega]
theorem sh_arg : ∀ c : Fin 64, ((nl ((c.val : Nat) : Int)) &&& (63 : Int64)).toBitVec.smod 64 = BitVec.ofNat 64 c.val := by decide +kernel
theorem sbit_all : ∀ c : Fin 64, (sbit ((c.val : Nat) : Int)).toBitVec = BitVec.twoPow 64 c.val := by decide +kernel
theorem hs_bit {c : Int} (h0 : 0 ≤ c) (h1 : c < 64) (d : Int) : hs (sbit c) d = decide (d = c) := by
  obtain ⟨m, rfl⟩ : ∃ m : Nat, c = m := ⟨c.toNat, by omega⟩
  have := sbit_all ⟨m, by omega⟩
  unfold hs
  rw [this, BitVec.getLsbD_twoPow]
  by_cases e : d = (m : Int)
  · subst e; simp; omega
  · simp [e]; omega
theorem one_and (y : BitVec 64) : (y &&& 1#64 = 0#64) = (y.getLsbD 0 = false) := by
  rw [BitVec.and_one_eq_setWidth_ofBool_getLsbD]
  cases y.getLsbD 0 <;> simp
theorem one_and1 (y : BitVec 64) : (y &&& 1#64 = 1#64) = (y.getLsbD 0 = true) := by
  rw [BitVec.and_one_eq_setWidth_ofBool_getLsbD]
  cases y.getLsbD 0 <;> simp
theorem sh_bit (x : Int64) {c : Int} (h0 : 0 ≤ c) (h1 : c < 64) : (lsr x (ni c)).toBitVec.getLsbD 0 = hs x c := by
  obtain ⟨m, rfl⟩ : ∃ m : Nat, c = m := ⟨c.toNat, by omega⟩
  unfold lsr
  rw [ni_64 (by omega) (by omega), Int64.toBitVec_shiftRight, sh_arg ⟨m, by omega⟩, BitVec.sshiftRight_eq', BitVec.getLsbD_sshiftRight, hs_nat]
  have : (BitVec.ofNat 64 m).toNat = m := by simp; omega
  simp [this]
  omega
theorem LL_has_eq (x : Int64) {c : Int} (h0 : 0 ≤ c) (h1 : c < 64) : LL_has x (ni c) = bI (hs x c = true) := by
  have e : ((lsr x (ni c)) &&& (1 : Int64) = (0 : Int64)) = (hs x c = false) := by
    rw [← sh_bit x h0 h1, ← one_and, ← Int64.toBitVec_inj]
    rfl
  unfold LL_has
  simp only [e]
  unfold bI
  cases hs x c <;> simp
theorem MD_has_eq (x : Int64) {c : Int} (h0 : 0 ≤ c) (h1 : c < 64) : MD_has x (ni c) = bI (hs x c = true) := by
  have e : ((lsr x (ni c)) &&& (1 : Int64) = (1 : Int64)) = (hs x c = true) := by
    rw [← sh_bit x h0 h1, ← one_and1, ← Int64.toBitVec_inj]
    rfl
  unfold MD_has
  simp only [e, bI_n, Classical.not_not]
theorem LL_bit_eq (c : Int) : LL_bit (ni c) = sbit c := rfl
/-- the lowest of a set -/
def lo (x : Int64) : Int := ff 64 (fun i => hs x i)
theorem lo_zero : lo 0 = -1 := by decide +kernel
theorem lo_spec {x : Int64} (h : x ≠ 0) : (0 ≤ lo x ∧ lo x < 64) ∧ hs x (lo x) = true ∧ ∀ c, c < lo x → hs x c = false := by
  rcases ff_spec 64 (fun i => hs x i) with ⟨_, e⟩ | ⟨k, k1, k2, k3, k4⟩
  · exact absurd (hs_ext (fun c h0 h1 => by
      have := e c.toNat (by omega)
      rw [hs_zero]
      rwa [Int.toNat_of_nonneg h0] at this)) h
  · unfold lo
    rw [k2]
    refine ⟨by omega, k3, fun c hc => ?_⟩
    by_cases c0 : 0 ≤ c
    · have := k4 c.toNat (by omega)
      rwa [Int.toNat_of_nonneg c0] at this
    · unfold hs; simp [c0]
theorem lo_eq {x : Int64} {c : Int} (h : hs x c = true) (h2 : ∀ d, 0 ≤ d → d < c → hs x d = false) : lo x = c := by
  have := hs_lt h
  have e := ff_eq (n := 64) (p := fun i => hs x i) (k := c.toNat) (by omega) (by rw [Int.toNat_of_nonneg this.1]; exact h) (fun i hi => h2 i (by omega) (by omega))
  unfold lo
  rw [e]; omega
theorem lo_ge {x : Int64} : -1 ≤ lo x ∧ lo x < 64 := by
  by_cases h : x = 0
  · subst h; rw [lo_zero]; omega
  · have := (lo_spec h).1; omega
theorem ne_zero {x : Int64} {c : Int} (h : hs x c = true) : x ≠ 0 := by
  intro e; subst e; rw [hs_zero] at h; cases h
theorem neg_bit {x : Int64} (i : Nat) (hi : i < 64) : (-x).toBitVec.getLsbD i = (x.toBitVec.getLsbD i ^^ decide (∃ j < i, x.toBitVec.getLsbD j = true)) := by
  rw [Int64.toBitVec_neg, BitVec.getLsbD_neg]
  simp [hi]
theorem low_and {x : Int64} (h : x ≠ 0) : x &&& -x = sbit (lo x) := by
  obtain ⟨⟨l0, l1⟩, l2, l3⟩ := lo_spec h
  apply hs_ext
  intro c h0 h1
  obtain ⟨m, rfl⟩ : ∃ m : Nat, c = m := ⟨c.toNat, by omega⟩
  rw [hs_and, hs_bit l0 l1, hs_nat, hs_nat, neg_bit m (by omega)]
  rw [hs] at l2
  simp only [l0, decide_true, Bool.true_and] at l2
  rcases Int.lt_trichotomy (m : Int) (lo x) with q | q | q
  · have := l3 m q
    rw [hs_nat] at this
    rw [this]; simp; omega
  · have e : (lo x).toNat = m := by omega
    rw [e] at l2
    have : ¬ ∃ j < m, x.toBitVec.getLsbD j = true := by
      rintro ⟨j, j1, j2⟩
      have := l3 j (by omega)
      rw [hs_nat, j2] at this; cases this
    simp [l2, this, q]
  · have : ∃ j < m, x.toBitVec.getLsbD j = true := ⟨(lo x).toNat, by omega, l2⟩
    have t : decide (∃ j < m, x.toBitVec.getLsbD j = true) = true := decide_eq_true this
    rw [t]
    have e : ¬ ((m : Int) = lo x) := by omega
    simp [e]
theorem low_clear {x : Int64} (h : x ≠ 0) {c : Int} (h0 : 0 ≤ c) (h1 : c < 64) : hs (x &&& (x - (1 : Int64))) c = (hs x c && !decide (c = lo x)) := by
  obtain ⟨⟨l0, l1⟩, l2, l3⟩ := lo_spec h
  obtain ⟨m, rfl⟩ : ∃ m : Nat, c = m := ⟨c.toNat, by omega⟩
  have en : (x - (1 : Int64)).toBitVec = ~~~ (-x).toBitVec := by
    rw [Int64.toBitVec_sub, Int64.toBitVec_neg, BitVec.not_neg]; rfl
  rw [hs_and, hs_nat, hs_nat, en, BitVec.getLsbD_not, neg_bit m (by omega)]
  rw [hs] at l2
  simp only [l0, decide_true, Bool.true_and] at l2
  rcases Int.lt_trichotomy (m : Int) (lo x) with q | q | q
  · have := l3 m q
    rw [hs_nat] at this
    rw [this]; simp
  · have e : (lo x).toNat = m := by omega
    rw [e] at l2
    have : ¬ ∃ j < m, x.toBitVec.getLsbD j = true := by
      rintro ⟨j, j1, j2⟩
      have := l3 j (by omega)
      rw [hs_nat, j2] at this; cases this
    simp [l2, this, q]
  · have : ∃ j < m, x.toBitVec.getLsbD j = true := ⟨(lo x).toNat, by omega, l2⟩
    have t : decide (∃ j < m, x.toBitVec.getLsbD j = true) = true := decide_eq_true this
    rw [t]
    have e : ¬ ((m : Int) = lo x) := by omega
    simp [e, show m < 64 by omega]
theorem low_all : ∀ c : Fin 64, JL_bitCount (sbit ((c.val : Nat) : Int) - (1 : Int64)) = ni ((c.val : Nat) : Int) := by decide +kernel
theorem LL_lowestIn_eq (x : Int64) : LL_lowestIn x = ni (lo x) := by
  unfold LL_lowestIn
  by_cases h : x = 0
  · subst h; rw [if_neg (by simp), lo_zero]; rfl
  · rw [if_pos h, low_and h]
    have := lo_spec h
    have e := low_all ⟨(lo x).toNat, by omega⟩
    dsimp only at e
    rwa [Int.toNat_of_nonneg this.1.1] at e
theorem MD_lowest_eq {x : Int64} (h : x ≠ 0) : MD_lowest x = some (ni (lo x)) := by
  obtain ⟨⟨l0, l1⟩, l2, l3⟩ := lo_spec h
  have key : lpR (fun s => MD_lowest_L2 x s) FUEL (0 : Int32) = some (ni (lo x)) := by
    refine lpR_to (fun i => ni (i : Int)) (ni (lo x)) (lo x).toNat (by omega) ?_ ?_ rfl
    · intro i hi
      unfold MD_lowest_L2
      simp only [MD_has_eq x (show 0 ≤ (i : Int) by omega) (by omega), bI_z, l3 i (by omega)]
      rw [if_neg (by simp), show (1 : Int32) = ni 1 from rfl, ni_add]
      rfl
    · unfold MD_lowest_L2
      rw [Int.toNat_of_nonneg l0]
      simp only [MD_has_eq x l0 l1, bI_z, l2]
      rw [if_pos (by simp)]
  unfold MD_lowest
  rw [key, b1_s]
