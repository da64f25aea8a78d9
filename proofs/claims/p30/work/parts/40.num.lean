/-! 40.num: numbers of the machine as whole numbers; loops; sets -/
def ni (x : Int) : Int32 := Int32.ofInt x
def nl (x : Int) : Int64 := Int64.ofInt x
theorem ni_add (x y : Int) : ni x + ni y = ni (x + y) := (Int32.ofInt_add x y).symm
theorem ni_sub (x y : Int) : ni x - ni y = ni (x - y) := (Int32.ofInt_sub x y).symm
theorem ni_mul (x y : Int) : ni x * ni y = ni (x * y) := (Int32.ofInt_mul x y).symm
theorem nl_add (x y : Int) : nl x + nl y = nl (x + y) := (Int64.ofInt_add x y).symm
theorem nl_sub (x y : Int) : nl x - nl y = nl (x - y) := (Int64.ofInt_sub x y).symm
theorem nl_mul (x y : Int) : nl x * nl y = nl (x * y) := (Int64.ofInt_mul x y).symm
theorem ni_toInt {x : Int} (h1 : -2147483648 ≤ x) (h2 : x < 2147483648) : (ni x).toInt = x := Int32.toInt_ofInt_of_le (by omega) (by omega)
theorem nl_toInt {x : Int} (h1 : -9223372036854775808 ≤ x) (h2 : x < 9223372036854775808) : (nl x).toInt = x := Int64.toInt_ofInt_of_le (by omega) (by omega)
theorem ni_of (v : Int32) : v = ni v.toInt := (Int32.ofInt_toInt v).symm
theorem nl_of (v : Int64) : v = nl v.toInt := (Int64.ofInt_toInt v).symm
theorem ni_le {x y : Int} (h1 : -2147483648 ≤ x) (h2 : x < 2147483648) (h3 : -2147483648 ≤ y) (h4 : y < 2147483648) : (ni x ≤ ni y) = (x ≤ y) := by
  rw [Int32.le_iff_toInt_le, ni_toInt h1 h2, ni_toInt h3 h4]
theorem ni_lt {x y : Int} (h1 : -2147483648 ≤ x) (h2 : x < 2147483648) (h3 : -2147483648 ≤ y) (h4 : y < 2147483648) : (ni x < ni y) = (x < y) := by
  rw [Int32.lt_iff_toInt_lt, ni_toInt h1 h2, ni_toInt h3 h4]
theorem ni_eq {x y : Int} (h1 : -2147483648 ≤ x) (h2 : x < 2147483648) (h3 : -2147483648 ≤ y) (h4 : y < 2147483648) : (ni x = ni y) = (x = y) := by
  rw [← Int32.toInt_inj, ni_toInt h1 h2, ni_toInt h3 h4]
theorem nl_le {x y : Int} (h1 : -9223372036854775808 ≤ x) (h2 : x < 9223372036854775808) (h3 : -9223372036854775808 ≤ y) (h4 : y < 9223372036854775808) : (nl x ≤ nl y) = (x ≤ y) := by
  rw [Int64.le_iff_toInt_le, nl_toInt h1 h2, nl_toInt h3 h4]
theorem nl_lt {x y : Int} (h1 : -9223372036854775808 ≤ x) (h2 : x < 9223372036854775808) (h3 : -9223372036854775808 ≤ y) (h4 : y < 9223372036854775808) : (nl x < nl y) = (x < y) := by
  rw [Int64.lt_iff_toInt_lt, nl_toInt h1 h2, nl_toInt h3 h4]
theorem nl_eq {x y : Int} (h1 : -9223372036854775808 ≤ x) (h2 : x < 9223372036854775808) (h3 : -9223372036854775808 ≤ y) (h4 : y < 9223372036854775808) : (nl x = nl y) = (x = y) := by
  rw [← Int64.toInt_inj, nl_toInt h1 h2, nl_toInt h3 h4]
theorem ni_nat {x : Int} (h1 : 0 ≤ x) (h2 : x < 2147483648) : (ni x).toNatClampNeg = x.toNat := by
  rw [show ni x = Int32.ofInt x from rfl, Int32.toNatClampNeg_ofInt_of_le (by omega) (by omega)]
theorem ni_64 {x : Int} (h1 : -2147483648 ≤ x) (h2 : x < 2147483648) : (ni x).toInt64 = nl x := Int32.toInt64_ofInt (by have : Int32.minValue.toInt = -2147483648 := rfl; omega) (by have : Int32.maxValue.toInt = 2147483647 := rfl; omega)
theorem nl_32 (x : Int) : (nl x).toInt32 = ni x := Int64.toInt32_ofInt
theorem ni_div {x y : Int} (h1 : 0 ≤ x) (h2 : x < 2147483648) (h3 : 0 < y) (h4 : y < 2147483648) : ni x / ni y = ni (x / y) := by
  have e : Int32.minValue.toInt = -2147483648 := rfl
  have e' : Int32.maxValue.toInt = 2147483647 := rfl
  rw [show x / y = x.tdiv y from (Int.tdiv_eq_ediv_of_nonneg h1).symm]
  exact (Int32.ofInt_tdiv (by omega) (by omega) (by omega) (by omega)).symm
theorem nl_div {x y : Int} (h1 : 0 ≤ x) (h2 : x < 9223372036854775808) (h3 : 0 < y) (h4 : y < 9223372036854775808) : nl x / nl y = nl (x / y) := by
  have e : Int64.minValue.toInt = -9223372036854775808 := rfl
  have e' : Int64.maxValue.toInt = 9223372036854775807 := rfl
  rw [show x / y = x.tdiv y from (Int.tdiv_eq_ediv_of_nonneg h1).symm]
  exact (Int64.ofInt_tdiv (by omega) (by omega) (by omega) (by omega)).symm
theorem ni_irm {x y : Int} (h1 : 0 ≤ x) (h2 : x < 2147483648) (h3 : 0 < y) (h4 : y < 2147483648) : irm (ni x) (ni y) = ni (x % y) := by
  rw [irm, ni_div h1 h2 h3 h4, ni_mul, ni_sub, Int.emod_def, Int.mul_comm]
theorem nl_lrm {x y : Int} (h1 : 0 ≤ x) (h2 : x < 9223372036854775808) (h3 : 0 < y) (h4 : y < 9223372036854775808) : lrm (nl x) (nl y) = nl (x % y) := by
  rw [lrm, nl_div h1 h2 h3 h4, nl_mul, nl_sub, Int.emod_def, Int.mul_comm]
theorem ni_inb {x : Int} {n : Nat} (h1 : -2147483648 ≤ x) (h2 : x < 2147483648) : inb (ni x) n = decide (0 ≤ x ∧ x < n) := by
  have e : (inb (ni x) n = true) ↔ (0 ≤ x ∧ x < n) := by
    rw [inb_iff, show (0 : Int32) = ni 0 from rfl, ni_lt h1 h2 (by omega) (by omega)]
    constructor
    · rintro ⟨a, b⟩
      rw [ni_nat (by omega) h2] at b
      omega
    · rintro ⟨a, b⟩
      rw [ni_nat a h2]
      omega
  by_cases h : (0 ≤ x ∧ x < n)
  · rw [e.mpr h, decide_eq_true h]
  · rw [decide_eq_false h]
    exact Bool.eq_false_iff.mpr (fun q => h (e.mp q))
theorem nlits : ((-10 : Int32) = ni (-10)) ∧ ((-1 : Int32) = ni (-1)) ∧ ((0 : Int32) = ni (0)) ∧ ((1 : Int32) = ni (1)) ∧ ((2 : Int32) = ni (2)) ∧ ((3 : Int32) = ni (3)) ∧ ((4 : Int32) = ni (4)) ∧ ((5 : Int32) = ni (5)) ∧ ((6 : Int32) = ni (6)) ∧ ((7 : Int32) = ni (7)) ∧ ((8 : Int32) = ni (8)) ∧ ((9 : Int32) = ni (9)) ∧ ((10 : Int32) = ni (10)) ∧ ((16 : Int32) = ni (16)) ∧ ((32 : Int32) = ni (32)) ∧ ((36 : Int32) = ni (36)) ∧ ((40 : Int32) = ni (40)) ∧ ((44 : Int32) = ni (44)) ∧ ((48 : Int32) = ni (48)) ∧ ((57 : Int32) = ni (57)) ∧ ((58 : Int32) = ni (58)) ∧ ((59 : Int32) = ni (59)) ∧ ((71 : Int32) = ni (71)) ∧ ((72 : Int32) = ni (72)) ∧ ((80 : Int32) = ni (80)) ∧ ((99 : Int32) = ni (99)) ∧ ((100 : Int32) = ni (100)) ∧ ((103 : Int32) = ni (103)) ∧ ((116 : Int32) = ni (116)) ∧ ((127 : Int32) = ni (127)) ∧ ((150 : Int32) = ni (150)) ∧ ((152 : Int32) = ni (152)) ∧ ((224 : Int32) = ni (224)) ∧ ((296 : Int32) = ni (296)) ∧ ((368 : Int32) = ni (368)) ∧ ((440 : Int32) = ni (440)) ∧ ((513 : Int32) = ni (513)) ∧ ((1000 : Int32) = ni (1000)) ∧ ((1539 : Int32) = ni (1539)) ∧ ((100000 : Int32) = ni (100000)) ∧ ((999999 : Int32) = ni (999999)) ∧ ((1000000 : Int32) = ni (1000000)) ∧ ((-1 : Int64) = nl (-1)) ∧ ((0 : Int64) = nl (0)) ∧ ((1 : Int64) = nl (1)) ∧ ((3 : Int64) = nl (3)) ∧ ((5 : Int64) = nl (5)) ∧ ((6 : Int64) = nl (6)) ∧ ((9 : Int64) = nl (9)) ∧ ((31 : Int64) = nl (31)) ∧ ((48 : Int64) = nl (48)) ∧ ((49 : Int64) = nl (49)) ∧ ((54 : Int64) = nl (54)) ∧ ((57 : Int64) = nl (57)) ∧ ((99 : Int64) = nl (99)) ∧ ((100 : Int64) = nl (100)) ∧ ((127 : Int64) = nl (127)) ∧ ((1000 : Int64) = nl (1000)) ∧ ((3049 : Int64) = nl (3049)) ∧ ((12345 : Int64) = nl (12345)) ∧ ((65536 : Int64) = nl (65536)) ∧ ((100000 : Int64) = nl (100000)) ∧ ((999999 : Int64) = nl (999999)) ∧ ((1000000 : Int64) = nl (1000000)) ∧ ((1103515245 : Int64) = nl (1103515245)) ∧ ((2147483648 : Int64) = nl (2147483648)) := by
  refine ⟨rfl, rfl, rfl, rfl, rfl, rfl, rfl, rfl, rfl, rfl, rfl, rfl, rfl, rfl, rfl, rfl, rfl, rfl, rfl, rfl, rfl, rfl, rfl, rfl, rfl, rfl, rfl, rfl, rfl, rfl, rfl, rfl, rfl, rfl, rfl, rfl, rfl, rfl, rfl, rfl, rfl, rfl, rfl, rfl, rfl, rfl, rfl, rfl, rfl, rfl, rfl, rfl, rfl, rfl, rfl, rfl, rfl, rfl, rfl, rfl, rfl, rfl, rfl, rfl, rfl, rfl⟩
theorem ck_t {β : Type} {x : Option β} : ck true x = x := rfl
theorem ck_d {β : Type} {p : Prop} [Decidable p] (h : p) {x : Option β} : ck (decide p) x = x := by simp [ck, h]
theorem b1_s {α β : Type} (a : α) (f : α → Option β) : b1 (some a) f = f a := rfl
theorem b2_s {α β : Type} (a : α) (M : Mem) (f : α → Mem → Option β) : b2 (some (a, M)) f = f a M := rfl
/-- loops that count -/
theorem lpR_count {σ ρ : Type} {f : σ → Option (σ ⊕ ρ)} (st : Nat → σ) (r : ρ) (n : Nat) (h1 : ∀ i, i < n → f (st i) = some (.inl (st (i + 1)))) (h2 : f (st n) = some (.inr r)) : ∀ k i fuel, i + k = n → k < fuel → lpR f fuel (st i) = some r := by
  intro k
  induction k with
  | zero =>
    intro i fuel hi hf
    obtain ⟨m, rfl⟩ : ∃ m, fuel = m + 1 := ⟨fuel - 1, by omega⟩
    have : i = n := by omega
    subst this
    simp [lpR, h2]
  | succ k ih =>
    intro i fuel hi hf
    obtain ⟨m, rfl⟩ : ∃ m, fuel = m + 1 := ⟨fuel - 1, by omega⟩
    simp [lpR, h1 i (by omega), ih (i + 1) m (by omega) (by omega)]
theorem lpR_to {σ ρ : Type} {f : σ → Option (σ ⊕ ρ)} (st : Nat → σ) (r : ρ) (n : Nat) (hn : n < 100000000) (h1 : ∀ i, i < n → f (st i) = some (.inl (st (i + 1)))) (h2 : f (st n) = some (.inr r)) {s0 : σ} (h0 : s0 = st 0) : lpR f FUEL s0 = some r := by
  subst h0
  exact lpR_count st r n h1 h2 n 0 FUEL (by omega) (by have := FUEL_big; omega)
/-- loops with a measure -/
theorem lpR_wf {σ ρ : Type} {f : σ → Option (σ ⊕ ρ)} (I : σ → Prop) (μ : σ → Nat) (Q : ρ → Prop) (h : ∀ s, I s → (∃ s', f s = some (.inl s') ∧ I s' ∧ μ s' < μ s) ∨ (∃ r, f s = some (.inr r) ∧ Q r)) : ∀ fuel s, I s → μ s < fuel → ∃ r, lpR f fuel s = some r ∧ Q r := by
  intro fuel
  induction fuel with
  | zero => intro s _ h0; omega
  | succ m ih =>
    intro s hs hm
    rcases h s hs with ⟨s', h1, h2, h3⟩ | ⟨r, h1, h2⟩
    · obtain ⟨r, h4, h5⟩ := ih s' h2 (by omega)
      exact ⟨r, by simp [lpR, h1, h4], h5⟩
    · exact ⟨r, by simp [lpR, h1], h2⟩
theorem lpM_wf {σ ρ : Type} {f : σ → Mem → Option ((σ ⊕ ρ) × Mem)} (I : σ → Mem → Prop) (μ : σ → Mem → Nat) (Q : ρ → Mem → Prop) (h : ∀ s M, I s M → (∃ s' M', f s M = some (.inl s', M') ∧ I s' M' ∧ μ s' M' < μ s M) ∨ (∃ r M', f s M = some (.inr r, M') ∧ Q r M')) : ∀ fuel s M, I s M → μ s M < fuel → ∃ r M', lpM f fuel s M = some (r, M') ∧ Q r M' := by
  intro fuel
  induction fuel with
  | zero => intro s M _ h0; omega
  | succ m ih =>
    intro s M hs hm
    rcases h s M hs with ⟨s', M', h1, h2, h3⟩ | ⟨r, M', h1, h2⟩
    · obtain ⟨r, M2, h4, h5⟩ := ih s' M' h2 (by omega)
      exact ⟨r, M2, by simp [lpM, h1, h4], h5⟩
    · exact ⟨r, M', by simp [lpM, h1], h2⟩
/-- loops that count from 0 to n, with what holds at each count -/
theorem lpM_to {σ ρ : Type} {f : σ → Mem → Option ((σ ⊕ ρ) × Mem)} (n : Nat) (hn : n < 100000000) (I : Nat → σ → Mem → Prop) (Q : ρ → Mem → Prop) (h1 : ∀ i, i < n → ∀ s M, I i s M → ∃ s' M', f s M = some (.inl s', M') ∧ I (i + 1) s' M') (h2 : ∀ s M, I n s M → ∃ r M', f s M = some (.inr r, M') ∧ Q r M') {s : σ} {M : Mem} (h0 : I 0 s M) : ∃ r M', lpM f FUEL s M = some (r, M') ∧ Q r M' := by
  have key : ∀ k i fuel s M, i + k = n → k < fuel → I i s M → ∃ r M', lpM f fuel s M = some (r, M') ∧ Q r M' := by
    intro k
    induction k with
    | zero =>
      intro i fuel s M hi hf hI
      obtain ⟨m, rfl⟩ : ∃ m, fuel = m + 1 := ⟨fuel - 1, by omega⟩
      have : i = n := by omega
      subst this
      obtain ⟨r, M', e, q⟩ := h2 s M hI
      exact ⟨r, M', by simp [lpM, e], q⟩
    | succ k ih =>
      intro i fuel s M hi hf hI
      obtain ⟨m, rfl⟩ : ∃ m, fuel = m + 1 := ⟨fuel - 1, by omega⟩
      obtain ⟨s', M', e, q⟩ := h1 i (by omega) s M hI
      obtain ⟨r, M2, e2, q2⟩ := ih (i + 1) m s' M' (by omega) (by omega) q
      exact ⟨r, M2, by simp [lpM, e, e2], q2⟩
  exact key n 0 FUEL s M (by omega) (by have := FUEL_big; omega) h0
/-- sums, numbers of hits, the first hit, over 0 .. n - 1 -/
def sm : Nat → (Nat → Int) → Int
  | 0, _ => 0
  | n + 1, f => sm n f + f n
def ct (n : Nat) (p : Nat → Bool) : Int := sm n (fun i => if p i = true then 1 else 0)
def ff : Nat → (Nat → Bool) → Int
  | 0, _ => -1
  | n + 1, p => if ff n p = -1 then (if p n = true then (n : Int) else -1) else ff n p
theorem sm_congr {n : Nat} {f g : Nat → Int} (h : ∀ i, i < n → f i = g i) : sm n f = sm n g := by
  induction n with
  | zero => rfl
  | succ n ih => simp only [sm]; rw [ih (fun i hi => h i (by omega)), h n (by omega)]
theorem sm_add (n : Nat) (f g : Nat → Int) : sm n (fun i => f i + g i) = sm n f + sm n g := by
  induction n with
  | zero => rfl
  | succ n ih => simp only [sm]; omega
theorem sm_nonneg {n : Nat} {f : Nat → Int} (h : ∀ i, i < n → 0 ≤ f i) : 0 ≤ sm n f := by
  induction n with
  | zero => simp [sm]
  | succ n ih => simp only [sm]; have := ih (fun i hi => h i (by omega)); have := h n (by omega); omega
theorem sm_le {n : Nat} {f g : Nat → Int} (h : ∀ i, i < n → f i ≤ g i) : sm n f ≤ sm n g := by
  induction n with
  | zero => simp [sm]
  | succ n ih => simp only [sm]; have := ih (fun i hi => h i (by omega)); have := h n (by omega); omega
theorem sm_bd {n : Nat} {f : Nat → Int} {b : Int} (h : ∀ i, i < n → f i ≤ b) : sm n f ≤ n * b := by
  induction n with
  | zero => simp [sm]
  | succ n ih =>
    simp only [sm]
    have h1 := ih (fun i hi => h i (by omega))
    have h2 := h n (by omega)
    have h3 : ((n + 1 : Nat) : Int) * b = n * b + b := by rw [Int.natCast_add, Int.add_mul]; simp
    omega
theorem sm_zero {n : Nat} {f : Nat → Int} (h : ∀ i, i < n → f i = 0) : sm n f = 0 := by
  induction n with
  | zero => rfl
  | succ n ih => simp only [sm]; rw [ih (fun i hi => h i (by omega)), h n (by omega)]; rfl
theorem sm_single {n : Nat} {f : Nat → Int} {k : Nat} (hk : k < n) (h : ∀ i, i < n → i ≠ k → f i = 0) : sm n f = f k := by
  induction n with
  | zero => omega
  | succ n ih =>
    simp only [sm]
    by_cases e : k = n
    · subst e
      rw [sm_zero (fun i hi => h i (by omega) (by omega))]; omega
    · rw [ih (by omega) (fun i hi => h i (by omega)), h n (by omega) (by omega)]; omega
theorem sm_mem {n : Nat} {f : Nat → Int} (h0 : ∀ i, i < n → 0 ≤ f i) {k : Nat} (hk : k < n) : f k ≤ sm n f := by
  induction n with
  | zero => omega
  | succ n ih =>
    simp only [sm]
    have h1 : 0 ≤ sm n f := sm_nonneg (fun i hi => h0 i (by omega))
    have h2 := h0 n (by omega)
    by_cases e : k = n
    · subst e; omega
    · have := ih (fun i hi => h0 i (by omega)) (by omega); omega
theorem sm_ext {n m : Nat} {f : Nat → Int} (hnm : n ≤ m) (h : ∀ i, n ≤ i → i < m → f i = 0) : sm m f = sm n f := by
  induction m with
  | zero => obtain rfl : n = 0 := by omega
            rfl
  | succ m ih =>
    by_cases e : n = m + 1
    · rw [e]
    · simp only [sm]
      rw [ih (by omega) (fun i hi hi' => h i hi (by omega)), h m (by omega) (by omega)]; omega
/-- one place of a sum changed -/
theorem sm_set {n : Nat} {f g : Nat → Int} {k : Nat} (hk : k < n) (h : ∀ i, i < n → i ≠ k → f i = g i) : sm n f = sm n g + f k - g k := by
  have e : sm n f = sm n (fun i => g i + (if i = k then f k - g k else 0)) := sm_congr (fun i hi => by
    by_cases q : i = k
    · subst q; simp; omega
    · simp [q, h i hi q])
  rw [e, sm_add, sm_single (f := fun i => if i = k then f k - g k else 0) hk (fun i _ q => by simp [q])]
  simp; omega
theorem ff_spec (n : Nat) (p : Nat → Bool) : (ff n p = -1 ∧ ∀ i, i < n → p i = false) ∨ (∃ k, k < n ∧ ff n p = (k : Int) ∧ p k = true ∧ ∀ i, i < k → p i = false) := by
  induction n with
  | zero => left; exact ⟨rfl, fun i hi => by omega⟩
  | succ n ih =>
    rcases ih with ⟨h1, h2⟩ | ⟨k, h1, h2, h3, h4⟩
    · cases hp : p n with
      | false =>
        left
        refine ⟨by simp [ff, h1, hp], fun i hi => ?_⟩
        by_cases e : i = n
        · rw [e, hp]
        · exact h2 i (by omega)
      | true =>
        right
        exact ⟨n, by omega, by simp [ff, h1, hp], hp, h2⟩
    · right
      refine ⟨k, by omega, ?_, h3, h4⟩
      simp only [ff]
      rw [if_neg (by omega), h2]
theorem ff_eq {n : Nat} {p : Nat → Bool} {k : Nat} (h1 : k < n) (h2 : p k = true) (h3 : ∀ i, i < k → p i = false) : ff n p = k := by
  rcases ff_spec n p with ⟨_, h⟩ | ⟨j, hj, e, h5, h6⟩
  · rw [h k h1] at h2; cases h2
  · have : j = k := by
      rcases Nat.lt_trichotomy j k with h | h | h
      · rw [h3 j h] at h5; cases h5
      · exact h
      · rw [h6 k h] at h2; cases h2
    rw [e, this]
theorem ff_congr {n : Nat} {p q : Nat → Bool} (h : ∀ i, i < n → p i = q i) : ff n p = ff n q := by
  induction n with
  | zero => rfl
  | succ n ih => simp only [ff]; rw [ih (fun i hi => h i (by omega)), h n (by omega)]

