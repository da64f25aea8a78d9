/-! 53.wet2: wet cells of a world, the lowest cell of a lake, levels in lowest terms -/
theorem c_wetLake {l g : Nat} {M : Mem} {A : Ab} (hG : RG g M A) (hT : RT g M A) (hL : RLs l M A) (w : WFg A) (b : WFb A) (zl : SzL l) {k : Int} (h0 : -1 ≤ k) (h1 : k < 71) (hz : k = -1 ∨ msk A k ≠ 0) : ∃ x, LK_wetCells l g (ni k) M = some x ∧ ∀ c, hs x c = (!decide (k = -1) && wt A k c) := by
  by_cases e : k = -1
  · subst e
    obtain ⟨x, e1, e2⟩ := c_wetCells (k := -1) (m := 0) (V := -1) hG hT w (fAtL_out zl.1 (by omega) (by omega) (by omega)) (fAtI_out zl.2.1 (by omega) (by omega) (by omega)) (by omega)
    refine ⟨x, e1, fun c => ?_⟩
    rw [e2]; simp [wtc, hs_zero]
  · have hz' : msk A k ≠ 0 := hz.resolve_left e
    have hV := (b.1 k (by omega) (by omega)).2.2.2
    obtain ⟨x, e1, e2⟩ := c_wetCells (k := k) hG hT w (hL.1 k (by omega) h1) ((hL.2.1 k (by omega) h1 hz').1) (by omega)
    refine ⟨x, e1, fun c => ?_⟩
    rw [e2]
    unfold wtc wt
    simp only [e, decide_false, Bool.not_false, Bool.true_and]
    cases q : hs (msk A k) c with
    | false => simp
    | true =>
      have := b.2.1 k c (by omega) (by omega) q
      simp [this]
theorem c_isWet {w : Nat} {M : Mem} {A : Ab} (hG : RG (w + 1) M A) (hT : RT (w + 1) M A) (hL : RLs (w + 19) M A) (g : WFg A) (b : WFb A) (zl : SzL (w + 19)) {c : Int} (h0 : 0 ≤ c) (h1 : c < 36) : WD_isWet w (ni c) M = some (bI (isw A c = true)) := by
  have hk := hL.2.2 c h0 h1
  have hr := lk_rg b c
  obtain ⟨x, e1, e2⟩ := c_wetLake hG hT hL g b zl (k := lk A c) (by omega) (by omega) (by
    rcases hr with e | ⟨_, _, _, _, e⟩
    · exact Or.inl e
    · exact Or.inr e)
  unfold WD_isWet
  rw [show w + 36 = w + 19 + 17 from rfl, hk, e1, b1_s, LL_has_eq x h0 (by omega), bI_a, e2]
  rfl
theorem c_wetTotal {w : Nat} {M : Mem} {A : Ab} (hG : RG (w + 1) M A) (hT : RT (w + 1) M A) (hL : RLs (w + 19) M A) (g : WFg A) (b : WFb A) (zl : SzL (w + 19)) : WD_wetTotal w M = some (ni (wta A)) := by
  have hn := nn_bd g
  have key : lpR (fun s => WD_wetTotal_L4 w s.1 s.2 M) FUEL ((0 : Int32), (0 : Int32)) = some (ni (wta A)) := by
    refine lpR_to (fun c => (ni (ct c (fun c => isw A c)), ni (c : Int))) _ (nn A).toNat (by omega) ?_ ?_ rfl
    · intro c hc
      unfold WD_wetTotal_L4
      dsimp only
      rw [hG.1.2.2.1, c_isWet hG hT hL g b zl (by omega) (by omega), b1_s, ni_s]
      simp (disch := omega) only [ni_le, bI_z]
      rw [if_neg (by omega)]
      refine congrArg some (congrArg Sum.inl (Prod.ext ?_ rfl))
      simp only [ct_succ]
      cases isw A (c : Int) with
      | false => simp
      | true => simp; rw [show (1 : Int32) = ni 1 from rfl, ni_add]
    · unfold WD_wetTotal_L4
      dsimp only
      rw [hG.1.2.2.1]
      simp (disch := omega) only [ni_le]
      rw [if_pos (by omega)]
      rfl
  unfold WD_wetTotal
  rw [key, b1_s]
theorem pc_ct {A : Ab} (g : WFg A) {x : Int64} {p : Int → Bool} (h : ∀ c, hs x c = p c) (ho : ∀ c, p c = true → 0 ≤ c ∧ c < nn A) : pc x = ct (nn A).toNat (fun c => p c) := by
  have hn := nn_bd g
  unfold pc
  have : ct 64 (fun i => hs x i) = ct 64 (fun c => p c) := ct_congr (fun i _ => h i)
  rw [this]
  refine sm_ext (by omega) (fun i h1 h2 => ?_)
  cases q : p (i : Int) with
  | false => simp [q]
  | true => have := ho i q; omega
theorem wt_in {A : Ab} (b : WFb A) {k : Int} (h0 : 0 ≤ k) (h1 : k < 72) {c : Int} (h : wt A k c = true) : 0 ≤ c ∧ c < nn A := by
  unfold wt at h
  rw [Bool.and_eq_true] at h
  exact b.2.1 k c h0 h1 h.1
theorem wtn_lake {A : Ab} (b : WFb A) {k : Int} (h0 : 0 ≤ k) (h1 : k < 72) (h2 : there A k = 1) : wtn A (msk A k) = ct (nn A).toNat (fun c => wt A k c) := by
  apply ct_congr
  intro i _
  cases q : hs (msk A k) (i : Int) with
  | false => unfold wt; rw [q]; simp
  | true =>
    have := lk_eq b h0 h1 h2 q
    unfold isw
    rw [this]
    have : ¬ k = -1 := by omega
    simp [this]
theorem c_heightSum {g : Nat} {M : Mem} {A : Ab} (hG : RG g M A) (w : WFg A) (x : Int64) : GR_heightSum g x M = some (ni (sm (nn A).toNat (fun c => if hs x c = true then ht A c else 0))) := by
  have hn := nn_bd w
  have key : lpR (fun s => GR_heightSum_L5 g x s.1 s.2 M) FUEL ((0 : Int32), (0 : Int32)) = some (ni (sm (nn A).toNat (fun c => if hs x c = true then ht A c else 0))) := by
    refine lpR_to (fun c => (ni (sm c (fun c => if hs x c = true then ht A c else 0)), ni (c : Int))) _ (nn A).toNat (by omega) ?_ ?_ rfl
    · intro c hc
      unfold GR_heightSum_L5
      dsimp only
      rw [hG.1.2.2.1, hG.2.1 c (by omega) (by omega), ni_s]
      simp (disch := omega) only [ni_le, LL_has_eq, bI_z]
      rw [if_neg (by omega)]
      refine congrArg some (congrArg Sum.inl (Prod.ext ?_ rfl))
      simp only [sm]
      cases hs x (c : Int) with
      | false => simp
      | true => simp; rw [ni_add]
    · unfold GR_heightSum_L5
      dsimp only
      rw [hG.1.2.2.1]
      simp (disch := omega) only [ni_le]
      rw [if_pos (by omega)]
  unfold GR_heightSum
  rw [key, b1_s]
/-- the lowest cell of a set: the first among the lowest -/
def lpf (A : Ab) (m : Int64) : Nat → Int
  | 0 => -1
  | c + 1 => if hs m c = true ∧ (lpf A m c = -1 ∨ ht A c < ht A (lpf A m c)) then (c : Int) else lpf A m c
def lp (A : Ab) (m : Int64) : Int := lpf A m (nn A).toNat
theorem lpf_spec (A : Ab) (m : Int64) (n : Nat) : (lpf A m n = -1 ∧ ∀ c : Nat, c < n → hs m c = false) ∨ (0 ≤ lpf A m n ∧ lpf A m n < n ∧ hs m (lpf A m n) = true ∧ ∀ c : Nat, c < n → hs m c = true → (c : Int) ≠ lpf A m n → kl A (lpf A m n) c) := by
  induction n with
  | zero => left; exact ⟨rfl, fun c hc => by omega⟩
  | succ n ih =>
    simp only [lpf]
    split
    · rename_i h
      right
      refine ⟨by omega, by omega, h.1, fun c hc hm hne => ?_⟩
      rcases ih with ⟨a, q⟩ | ⟨a, a1, a2, q⟩
      · rw [q c (by omega)] at hm; cases hm
      · have h2 : ht A (n : Int) < ht A (lpf A m n) := by rcases h.2 with z | z <;> omega
        by_cases e : (c : Int) = lpf A m n
        · rw [e]; left; exact h2
        · have := q c (by omega) hm e
          unfold kl at *; omega
    · rename_i h
      rcases ih with ⟨a, q⟩ | ⟨a, a1, a2, q⟩
      · left
        refine ⟨a, fun c hc => ?_⟩
        by_cases e : c = n
        · subst e
          cases z : hs m (c : Int) with
          | false => rfl
          | true => exact absurd ⟨z, Or.inl a⟩ h
        · exact q c (by omega)
      · right
        refine ⟨a, by omega, a2, fun c hc hm hne => ?_⟩
        by_cases e : c = n
        · subst e
          by_cases z : ht A (c : Int) < ht A (lpf A m c)
          · exact absurd ⟨hm, Or.inr z⟩ h
          · unfold kl; omega
        · exact q c (by omega) hm hne
theorem lp_spec {A : Ab} (g : WFg A) {m : Int64} (hm : ∀ c, hs m c = true → 0 ≤ c ∧ c < nn A) (hz : m ≠ 0) : (0 ≤ lp A m ∧ lp A m < nn A) ∧ hs m (lp A m) = true ∧ ∀ c, hs m c = true → c ≠ lp A m → kl A (lp A m) c := by
  have hn := nn_bd g
  obtain ⟨l1, l2, l3⟩ := lo_spec hz
  rcases lpf_spec A m (nn A).toNat with ⟨a, q⟩ | ⟨a, a1, a2, q⟩
  · have h := hm _ l2
    have := q (lo m).toNat (by omega)
    rw [Int.toNat_of_nonneg h.1, l2] at this; cases this
  · refine ⟨⟨a, by unfold lp; omega⟩, a2, fun c hc hne => ?_⟩
    have h := hm c hc
    have := q c.toNat (by omega) (by rw [Int.toNat_of_nonneg h.1]; exact hc) (by rw [Int.toNat_of_nonneg h.1]; exact hne)
    rwa [Int.toNat_of_nonneg h.1] at this
theorem c_lowestPlace {l g : Nat} {M : Mem} {A : Ab} (hG : RG g M A) (hT : RT g M A) (w : WFg A) {k : Int} {m : Int64} (hm : fAtL (l + 1) (ni k) M = m) (hin : ∀ c, hs m c = true → 0 ≤ c ∧ c < nn A) (hz : m ≠ 0) : LK_lowestPlace l g (ni k) M = some (ni (lp A m)) := by
  have hn := nn_bd w
  obtain ⟨q1, q2, q3⟩ := lp_spec w hin hz
  obtain ⟨σ, so, ho⟩ := hT.2
  obtain ⟨i, i0, i1, i2⟩ := so.2.2 _ q1.1 q1.2
  have key : lpR (fun s => LK_lowestPlace_L2 l g (ni k) s M) FUEL (0 : Int32) = some (.inr (ni (lp A m))) := by
    refine lpR_to (fun i => ni (i : Int)) _ i.toNat (by omega) ?_ ?_ rfl
    · intro j hj
      have hr := so.1 j (by omega) (by omega)
      have hk := so.2.1 j i (by omega) (by omega) i1
      have hj' : hs m (σ j) = false := by
        cases z : hs m (σ j) with
        | false => rfl
        | true =>
          rw [i2] at hk
          have hne : σ j ≠ lp A m := by intro e; rw [e] at hk; unfold kl at hk; omega
          have := q3 _ z hne
          unfold kl at hk this; omega
      unfold LK_lowestPlace_L2
      rw [hG.1.2.2.1, hm, ho j (by omega) (by omega), ni_s]
      simp (disch := omega) only [ni_le, LL_has_eq, bI_z, hj']
      rw [if_neg (by omega), if_pos (by simp)]
    · rw [Int.toNat_of_nonneg i0]
      unfold LK_lowestPlace_L2
      rw [hG.1.2.2.1, hm, ho i i0 i1, i2]
      simp (disch := omega) only [ni_le, LL_has_eq, bI_z, q2]
      rw [if_neg (by omega), if_neg (by simp)]
  unfold LK_lowestPlace
  rw [key, b1_s]
  rfl
/-- common divisors -/
theorem c_commonDivisor {x y : Int} (hx : 0 ≤ x) (hx1 : x < 2147483648) (hy : 0 < y) (hy1 : y ≤ 36) : LL_commonDivisor (ni x) (ni y) = some (ni (Int.gcd x y : Nat)) := by
  have hg : 0 < Int.gcd x y := by
    rcases Nat.eq_zero_or_pos (Int.gcd x y) with h | h
    · rw [Int.gcd_eq_zero_iff] at h; omega
    · exact h
  have hd1 : ((Int.gcd x y : Nat) : Int) ∣ x := Int.gcd_dvd_left ..
  have hd2 : ((Int.gcd x y : Nat) : Int) ∣ y := Int.gcd_dvd_right ..
  have hle : ((Int.gcd x y : Nat) : Int) ≤ y := Int.le_of_dvd hy hd2
  have hmax : ∀ d : Int, 0 < d → x % d = 0 → y % d = 0 → d ≤ (Int.gcd x y : Nat) := by
    intro d h0 h1 h2
    have e1 : d ∣ x := Int.dvd_of_emod_eq_zero h1
    have e2 : d ∣ y := Int.dvd_of_emod_eq_zero h2
    have := Int.dvd_coe_gcd e1 e2
    exact Int.le_of_dvd (by omega) this
  generalize hgg : ((Int.gcd x y : Nat) : Int) = G at *
  have hG0 : 0 < G := by omega
  have step : ∀ i : Nat, G < 36 - (i : Int) → LL_commonDivisor_L3 (ni x) (ni y) (ni (36 - i)) = some (.inl (ni (36 - ((i + 1 : Nat) : Int)))) := by
    intro i hi
    unfold LL_commonDivisor_L3
    simp (disch := omega) only [show (1 : Int32) = ni 1 from rfl, show (0 : Int32) = ni 0 from rfl, ni_neg, ni_le, ni_irm, ni_eq, ni_add]
    rw [if_neg (by omega), ck_d (by omega), ck_d (by omega)]
    rw [show 36 - (i : Int) + -1 = 36 - ((i + 1 : Nat) : Int) by omega]
    have em := Int.emod_nonneg x (show 36 - (i : Int) ≠ 0 by omega)
    have em' := Int.emod_lt_of_pos x (show 0 < 36 - (i : Int) by omega)
    have en := Int.emod_nonneg y (show 36 - (i : Int) ≠ 0 by omega)
    have en' := Int.emod_lt_of_pos y (show 0 < 36 - (i : Int) by omega)
    simp (disch := omega) only [ni_eq]
    by_cases q : x % (36 - (i : Int)) = 0
    · rw [if_neg (by simp [q])]
      by_cases r : y % (36 - (i : Int)) = 0
      · have := hmax _ (by omega) q r; omega
      · rw [if_pos r]
    · rw [if_pos q]
  unfold LL_commonDivisor
  by_cases h1 : G = 1
  · have key : lpR (fun s => LL_commonDivisor_L3 (ni x) (ni y) s) FUEL (36 : Int32) = some (.inl ()) := by
      refine lpR_to (fun i => ni (36 - (i : Int))) _ 35 (by omega) (fun i hi => step i (by omega)) ?_ rfl
      unfold LL_commonDivisor_L3
      rw [if_pos (by decide)]
    rw [key, b1_s, h1]; rfl
  · have key : lpR (fun s => LL_commonDivisor_L3 (ni x) (ni y) s) FUEL (36 : Int32) = some (.inr (ni G)) := by
      refine lpR_to (fun i => ni (36 - (i : Int))) _ (36 - G).toNat (by omega) (fun i hi => step i (by omega)) ?_ rfl
      rw [show 36 - (((36 - G).toNat : Nat) : Int) = G by omega]
      unfold LL_commonDivisor_L3
      have z1 : x % G = 0 := Int.emod_eq_zero_of_dvd hd1
      have z2 : y % G = 0 := Int.emod_eq_zero_of_dvd hd2
      simp (disch := omega) only [show (1 : Int32) = ni 1 from rfl, show (0 : Int32) = ni 0 from rfl, ni_neg, ni_le, ni_irm, ni_eq, ni_add, z1, z2]
      rw [if_neg (by omega), ck_d (by omega), ck_d (by omega)]
      simp
    rw [key, b1_s]; rfl
theorem gcd_step {a b : Int} (ha : 0 ≤ a) (hb : 0 ≤ b) : Int.gcd b (a % b) = Int.gcd a b := by
  obtain ⟨p, rfl⟩ := Int.eq_ofNat_of_zero_le ha
  obtain ⟨q, rfl⟩ := Int.eq_ofNat_of_zero_le hb
  show Nat.gcd q (p % q) = Nat.gcd p q
  rw [Nat.gcd_comm p q, Nat.gcd_rec q p, Nat.gcd_comm]
theorem e_divisor {x y : Int} (hx : 0 ≤ x) (hx1 : x < 9223372036854775808) (hy : 0 ≤ y) (hy1 : y < 1000000) : MD_divisor (nl x) (nl y) = some (nl (Int.gcd x y : Nat)) := by
  have key : ∃ r, lpR (fun s => MD_divisor_L6 s.1 s.2) FUEL (nl x, nl y) = some r ∧ r = nl (Int.gcd x y : Nat) := by
    refine lpR_wf (fun s => ∃ a b : Int, s = (nl a, nl b) ∧ (0 ≤ a ∧ a < 9223372036854775808) ∧ (0 ≤ b ∧ b < 1000000) ∧ Int.gcd a b = Int.gcd x y) (fun s => s.2.toInt.toNat) _ ?_ FUEL _ ⟨x, y, rfl, ⟨hx, hx1⟩, ⟨hy, hy1⟩, rfl⟩ ?_
    · rintro s ⟨a, b, rfl, ⟨a0, a1⟩, ⟨b0, b1⟩, e⟩
      unfold MD_divisor_L6
      dsimp only
      simp (disch := omega) only [show (0 : Int64) = nl 0 from rfl, nl_eq]
      by_cases q : b = 0
      · right
        rw [if_pos q]
        refine ⟨_, rfl, ?_⟩
        subst q
        rw [Int.gcd_zero_right] at e
        rw [← e]
        congr 1
        omega
      · left
        have em := Int.emod_nonneg a q
        have em' := Int.emod_lt_of_pos a (show 0 < b by omega)
        rw [if_neg q, ck_d (by simpa using q), nl_lrm a0 a1 (by omega) (by omega)]
        refine ⟨_, rfl, ⟨b, a % b, rfl, ⟨b0, by omega⟩, ⟨em, by omega⟩, ?_⟩, ?_⟩
        · rw [← e, gcd_step a0 b0]
        · dsimp only
          rw [nl_toInt (by omega) (by omega), nl_toInt (by omega) (by omega)]
          omega
    · dsimp only
      rw [nl_toInt (by omega) (by omega)]
      have := FUEL_big; omega
  obtain ⟨r, k1, rfl⟩ := key
  unfold MD_divisor
  rw [k1, b1_s]
theorem c_reduced {x d : Int} (hx : 0 ≤ x) (hx1 : x < 2147483648) (hd : 0 < d) (hd1 : d < 2147483648) : LL_reduced (ni x) (ni d) = some (ni (x / d)) := by
  unfold LL_reduced
  simp (disch := omega) only [show (1 : Int32) = ni 1 from rfl, show (0 : Int32) = ni 0 from rfl, ni_le, ni_eq, ni_div]
  by_cases q : d ≤ 1
  · have : d = 1 := by omega
    subst this
    rw [if_pos (by omega), Int.ediv_one]
  · rw [if_neg q, ck_d (by omega)]
