/-! 52.wet: wet cells on both sides -/
theorem e_isWet {M : Mem} {A : Ab} (h : RM M A) (g : WFg A) (b : WFb A) {c : Int} (h0 : 0 ≤ c) (h1 : c < nn A) : ∃ M', MD_isWet (ni c) M = some (bI (isw A c = true), M') ∧ FrL M M' := by
  have hn := nn_bd g
  unfold MD_isWet
  rw [e_lakeOf h b h0 (by omega), b1_s]
  rcases lk_rg b c with e | ⟨r0, r1, r2, r3, r4⟩
  · rw [e, if_neg (by simp; rfl)]
    refine ⟨M, ?_, FrL.rfl'⟩
    rw [bI_f]
    unfold isw
    rw [e]; simp
  · obtain ⟨M1, x, y, e1, e2, e3, e4, e5⟩ := e_levels h g b r0 (by omega) r4
    have hh := ht_bd g h0 (by omega)
    have hV := (b.1 _ r0 (by omega)).2.2.2
    have hw := LV_wet g hV.1 e5 h0 h1 r3
    have hyb : 0 ≤ y ∧ y ≤ 36 := by
      obtain ⟨v, _, _, rfl, _⟩ := e5
      exact bl_bd g _ v
    have hxb : 0 ≤ x ∧ x ≤ 100000000 := by
      obtain ⟨v, _, rfl, _, _⟩ := e5
      have := hv_bd g (msk A (lk A c)) v
      omega
    have hp : 0 ≤ y * ht A c ∧ y * ht A c ≤ 3600 := by
      refine ⟨Int.mul_nonneg hyb.1 hh.1, ?_⟩
      have := Int.mul_le_mul hyb.2 hh.2 hh.1 (by omega : (0 : Int) ≤ 36)
      omega
    simp (disch := omega) only [show (1 : Int32) = ni 1 from rfl, ni_neg, ni_eq]
    rw [if_pos (by omega), e1, b2_s, e_height (e2.RM h) h0 (by omega), b1_s, e3, e4, ni_64 (by omega) (by omega), nl_mul]
    simp (disch := omega) only [nl_le]
    refine ⟨M1, ?_, e2⟩
    by_cases q : x ≤ y * ht A c
    · rw [if_pos q, bI_f]
      unfold isw wt
      rw [r3]
      have : ¬ nd A (msk A (lk A c)) (ht A c) < vol A (lk A c) := by rw [← hw]; omega
      simp [this]
    · rw [if_neg q, bI_t]; rfl
      unfold isw wt
      rw [r3]
      have : nd A (msk A (lk A c)) (ht A c) < vol A (lk A c) := by rw [← hw]; omega
      simp [this]; omega
def wtn (A : Ab) (m : Int64) : Int := ct (nn A).toNat (fun c => hs m c && isw A c)
theorem e_wetOf {M : Mem} {A : Ab} (h : RM M A) (g : WFg A) (b : WFb A) (m : Int64) : ∃ M', MD_wetOf m M = some (ni (wtn A m), M') ∧ FrL M M' := by
  have hn := nn_bd g
  have key : ∃ r M', lpM (fun s M9 => MD_wetOf_L5 m s.1 s.2 M9) FUEL ((0 : Int32), (0 : Int32)) M = some (r, M') ∧ (r = ni (wtn A m) ∧ FrL M M') := by
    refine lpM_to (nn A).toNat (by omega) (fun c s M' => s = (ni (ct c (fun c => hs m c && isw A c)), ni (c : Int)) ∧ FrL M M') _ ?_ ?_ ⟨rfl, FrL.rfl'⟩
    · rintro c hc s M1 ⟨rfl, hF⟩
      have hR := hF.RM h
      obtain ⟨M2, e1, e2⟩ := e_isWet hR g b (c := (c : Int)) (by omega) (by omega)
      unfold MD_wetOf_L5
      dsimp only
      rw [e_many hR, e1, b2_s, ni_s]
      simp (disch := omega) only [ni_le, MD_has_eq, bI_z]
      rw [if_neg (by omega)]
      by_cases q : hs m (c : Int) = true
      · rw [if_neg (by simp [q])]
        refine ⟨_, _, rfl, Prod.ext ?_ rfl, hF.trans e2⟩
        simp only [ct_succ, q]
        cases isw A (c : Int) with
        | false => simp
        | true => simp; rw [show (1 : Int32) = ni 1 from rfl, ni_add]
      · rw [if_pos q]
        refine ⟨_, _, rfl, Prod.ext ?_ rfl, hF⟩
        simp only [ct_succ]
        simp [q]
    · rintro s M1 ⟨rfl, hF⟩
      refine ⟨_, M1, ?_, rfl, hF⟩
      unfold MD_wetOf_L5
      dsimp only
      rw [e_many (hF.RM h)]
      simp (disch := omega) only [ni_le]
      rw [if_pos (by omega)]
      rfl
  obtain ⟨r, M', e, rfl, hF⟩ := key
  refine ⟨M', ?_, hF⟩
  unfold MD_wetOf
  rw [e, b2_s]
theorem all_set : ∀ n : Fin 37, ∀ c : Fin 64, hs ((lsh (1 : Int64) (ni ((n.val : Nat) : Int))) - (1 : Int64)) ((c.val : Nat) : Int) = decide (c.val < n.val) := by decide +kernel
def wta (A : Ab) : Int := ct (nn A).toNat (fun c => isw A c)
theorem e_wet {M : Mem} {A : Ab} (h : RM M A) (g : WFg A) (b : WFb A) : ∃ M', MD_wet M = some (ni (wta A), M') ∧ FrL M M' := by
  have hn := nn_bd g
  obtain ⟨M', e, hF⟩ := e_wetOf h g b ((lsh (1 : Int64) (ni (nn A))) - (1 : Int64))
  refine ⟨M', ?_, hF⟩
  unfold MD_wet
  rw [e_many h, e, b2_s]
  have : wtn A ((lsh (1 : Int64) (ni (nn A))) - (1 : Int64)) = wta A := by
    apply ct_congr
    intro i hi
    have := all_set ⟨(nn A).toNat, by omega⟩ ⟨i, by omega⟩
    dsimp only at this
    rw [Int.toNat_of_nonneg (by omega)] at this
    rw [this, decide_eq_true hi]
    simp
  rw [this]
/-- sums along an order -/
theorem sm_perm {A : Ab} {n : Nat} {σ : Int → Int} (s : SO A n σ) (f : Int → Int) : sm n (fun j => f (σ j)) = sm n (fun c => f c) := by
  have e1 : sm n (fun j => f (σ j)) = sm n (fun j => sm n (fun c => if σ j = (c : Int) then f c else 0)) := by
    apply sm_congr
    intro j hj
    have hr := s.1 j (by omega) (by omega)
    rw [sm_single (k := (σ j).toNat) (by omega)]
    · rw [Int.toNat_of_nonneg hr.1, if_pos rfl]
    · intro c hc hne
      rw [if_neg (by omega)]
  rw [e1, sm_swap]
  apply sm_congr
  intro c hc
  obtain ⟨i, i0, i1, i2⟩ := s.2.2 c (by omega) (by omega)
  rw [sm_single (k := i.toNat) (by omega)]
  · rw [Int.toNat_of_nonneg i0, if_pos i2]
  · intro j hj hne
    rw [if_neg]
    intro e
    rcases Int.lt_trichotomy (j : Int) i with q | q | q
    · have := s.2.1 j i (by omega) q i1
      rw [e, i2] at this
      unfold kl at this; omega
    · omega
    · have := s.2.1 i j i0 q (by omega)
      rw [e, i2] at this
      unfold kl at this; omega
theorem SO_ht {A : Ab} {m : Int} {σ : Int → Int} (s : SO A m σ) {i j : Int} (h0 : 0 ≤ i) (h1 : i ≤ j) (h2 : j < m) : ht A (σ i) ≤ ht A (σ j) := by
  by_cases e : i = j
  · subst e; omega
  · have := s.2.1 i j h0 (by omega) h2
    unfold kl at this; omega
theorem sm_pre {n m : Nat} {f g : Nat → Int} (hnm : n ≤ m) (h1 : ∀ i, i < n → f i ≤ g i) (h2 : ∀ i, n ≤ i → i < m → 0 ≤ g i) : sm n f ≤ sm m g := by
  induction m with
  | zero => obtain rfl : n = 0 := by omega
            simp [sm]
  | succ m ih =>
    by_cases e : n = m + 1
    · subst e; exact sm_le h1
    · have := ih (by omega) (fun i a b => h2 i a (by omega))
      have := h2 m (by omega) (by omega)
      simp only [sm]; omega
/-- what one cell needs, summed along the order -/
theorem nd_pre {A : Ab} {m : Int64} {σ : Int → Int} (s : SO A (nn A) σ) (hn : 0 ≤ nn A) {i : Nat} (hi : (i : Int) < nn A) : nd A m (ht A (σ i)) = sm i (fun j => if hs m (σ j) = true then ht A (σ i) - ht A (σ j) else 0) := by
  unfold nd
  rw [← sm_perm (n := (nn A).toNat) (by rw [Int.toNat_of_nonneg hn]; exact s) (fun c => room A m (ht A (σ i)) c)]
  rw [sm_ext (n := i) (by omega)]
  · apply sm_congr
    intro j hj
    have := SO_ht s (i := (j : Int)) (j := (i : Int)) (by omega) (by omega) hi
    unfold room
    by_cases q : hs m (σ j) = true
    · simp only [q, true_and, if_true]
      split <;> omega
    · simp [q]
  · intro j h1 h2
    have := SO_ht s (i := (i : Int)) (j := (j : Int)) (by omega) (by omega) (by omega)
    unfold room
    rw [if_neg]
    rintro ⟨_, z⟩
    omega
def wtc (A : Ab) (m : Int64) (V c : Int) : Bool := hs m c && decide (nd A m (ht A c) < V)
theorem wet_test {A : Ab} {m : Int64} {V : Int} {σ : Int → Int} (s : SO A (nn A) σ) (hn : 0 ≤ nn A) {i : Nat} (hi : (i : Int) < nn A) : (sm i (fun j => if wtc A m V (σ j) = true then ht A (σ i) - ht A (σ j) else 0) < V) = (nd A m (ht A (σ i)) < V) := by
  have hle : ∀ j : Nat, j < i → ht A (σ j) ≤ ht A (σ i) := fun j hj => SO_ht s (by omega) (by omega) hi
  rw [nd_pre s hn hi]
  rcases ff_spec i (fun j => hs m (σ j) && !decide (nd A m (ht A (σ j)) < V)) with ⟨-, h⟩ | ⟨k, k1, -, k2, k3⟩
  · have : sm i (fun j => if wtc A m V (σ j) = true then ht A (σ i) - ht A (σ j) else 0) = sm i (fun j => if hs m (σ j) = true then ht A (σ i) - ht A (σ j) else 0) := by
      apply sm_congr
      intro j hj
      have hj' := h j hj
      unfold wtc
      cases q : hs m (σ j) with
      | false => simp
      | true =>
        rw [q] at hj'
        simp only [Bool.true_and, Bool.not_eq_false', decide_eq_true_eq] at hj'
        simp [hj']
    rw [this]
  · simp only [Bool.and_eq_true, Bool.not_eq_true', decide_eq_false_iff_not] at k2
    have e0 := nd_pre (m := m) s hn (i := k) (by omega)
    have e1 : sm k (fun j => if hs m (σ j) = true then ht A (σ k) - ht A (σ j) else 0) ≤ sm i (fun j => if wtc A m V (σ j) = true then ht A (σ i) - ht A (σ j) else 0) := by
      apply sm_pre (by omega)
      · intro j hj
        have hk3 := k3 j hj
        have h1 := hle k k1
        have h2 := hle j (by omega)
        unfold wtc
        cases q : hs m (σ j) with
        | false => simp
        | true =>
          rw [q] at hk3
          simp only [Bool.true_and, Bool.not_eq_false', decide_eq_true_eq] at hk3
          simp [hk3]; omega
      · intro j a1 a2
        have := hle j a2
        split <;> omega
    have e2 : sm k (fun j => if hs m (σ j) = true then ht A (σ k) - ht A (σ j) else 0) ≤ sm i (fun j => if hs m (σ j) = true then ht A (σ i) - ht A (σ j) else 0) := by
      apply sm_pre (by omega)
      · intro j hj
        have h1 := hle k k1
        split <;> omega
      · intro j a1 a2
        have := hle j a2
        split <;> omega
    have : V ≤ sm k (fun j => if hs m (σ j) = true then ht A (σ k) - ht A (σ j) else 0) := by rw [← e0]; omega
    apply propext
    constructor <;> intro <;> omega
theorem c_wetCells {l g : Nat} {M : Mem} {A : Ab} {k : Int} {m : Int64} {V : Int} (hG : RG g M A) (hT : RT g M A) (w : WFg A) (hm : fAtL (l + 1) (ni k) M = m) (hv' : fAtI (l + 3) (ni k) M = ni V) (hV : -1 ≤ V ∧ V ≤ 100000000) : ∃ x, LK_wetCells l g (ni k) M = some x ∧ ∀ c, hs x c = (decide (0 ≤ c ∧ c < nn A) && wtc A m V c) := by
  have hn := nn_bd w
  obtain ⟨σ, so, ho⟩ := hT.2
  let wx : Nat → Int64 := fun i => Nat.rec (0 : Int64) (fun j x => if wtc A m V (σ (j : Int)) = true then x ||| sbit (σ (j : Int)) else x) i
  have wxs : ∀ j : Nat, wx (j + 1) = if wtc A m V (σ (j : Int)) = true then wx j ||| sbit (σ (j : Int)) else wx j := fun j => rfl
  let cn : Nat → Int := fun i => ct i (fun j => wtc A m V (σ (j : Int)))
  let su : Nat → Int := fun i => sm i (fun j => if wtc A m V (σ (j : Int)) = true then ht A (σ (j : Int)) else 0)
  have hdiff : ∀ i x, cn i * x - su i = sm i (fun j => if wtc A m V (σ (j : Int)) = true then x - ht A (σ (j : Int)) else 0) := by
    intro i x
    induction i with
    | zero => simp [cn, su, ct, sm]
    | succ i ih =>
      have e1 : cn (i + 1) = cn i + if wtc A m V (σ (i : Int)) = true then 1 else 0 := rfl
      have e2 : su (i + 1) = su i + if wtc A m V (σ (i : Int)) = true then ht A (σ (i : Int)) else 0 := rfl
      rw [e1, e2, Int.add_mul]
      simp only [sm]
      rw [← ih]
      split <;> omega
  refine ⟨wx (nn A).toNat, ?_, ?_⟩
  · have key : lpR (fun s => LK_wetCells_L21 l g (ni k) (fAtL (l + 1) (ni k) M) s.1 s.2.1 s.2.2.1 s.2.2.2 M) FUEL ((0 : Int64), (0 : Int32), (0 : Int32), (0 : Int32)) = some (wx (nn A).toNat) := by
      rw [hm]
      refine lpR_to (fun i => (wx i, ni (cn i), ni (su i), ni (i : Int))) _ (nn A).toNat (by omega) ?_ ?_ rfl
      · intro i hi
        have hr := so.1 i (by omega) (by omega)
        have h9 := ho i (by omega) (by omega)
        have h1 := hG.2.1 (σ i) hr.1 (by omega)
        have hh := ht_bd w hr.1 (show σ (i : Int) < 36 by omega)
        have ht' := wet_test (m := m) (V := V) so (by omega) (i := i) (by omega)
        rw [← hdiff] at ht'
        have hb : 0 ≤ cn i * ht A (σ (i : Int)) - su i ∧ cn i * ht A (σ (i : Int)) - su i ≤ 3600 := by
          rw [hdiff]
          have hle : ∀ j : Nat, j < i → 0 ≤ ht A (σ j) ∧ ht A (σ j) ≤ ht A (σ i) := fun j hj => ⟨by
            have := so.1 j (by omega) (by omega)
            exact (ht_bd w this.1 (by omega)).1, SO_ht so (by omega) (by omega) (by omega)⟩
          refine ⟨sm_nonneg (fun j hj => by have := hle j hj; split <;> omega), ?_⟩
          have := sm_bd (n := i) (f := fun j => if wtc A m V (σ (j : Int)) = true then ht A (σ i) - ht A (σ (j : Int)) else 0) (b := 100) (fun j hj => by have := hle j hj; split <;> omega)
          omega
        unfold LK_wetCells_L21
        dsimp only
        rw [hG.1.2.2.1, h9, h1, hv', ni_mul, ni_sub, LL_bit_eq]
        simp (disch := omega) only [ni_le, LL_has_eq, bI_z]
        rw [if_neg (by omega)]
        have e1 : cn (i + 1) = cn i + if wtc A m V (σ (i : Int)) = true then 1 else 0 := rfl
        have e2 : su (i + 1) = su i + if wtc A m V (σ (i : Int)) = true then ht A (σ (i : Int)) else 0 := rfl
        rw [e1, e2, wxs]
        have ew : wtc A m V (σ (i : Int)) = (hs m (σ (i : Int)) && decide (cn i * ht A (σ (i : Int)) - su i < V)) := by
          unfold wtc
          simp only [ht']
        rw [ew]
        refine congrArg some (congrArg Sum.inl ?_)
        rw [ni_s]
        cases hs m (σ (i : Int)) with
        | false => simp
        | true =>
          by_cases q : V ≤ cn i * ht A (σ (i : Int)) - su i
          · simp [q, show ¬ cn i * ht A (σ (i : Int)) - su i < V by omega]
          · simp [q, show cn i * ht A (σ (i : Int)) - su i < V by omega, show (1 : Int32) = ni 1 from rfl, ni_add]
      · unfold LK_wetCells_L21
        dsimp only
        rw [hG.1.2.2.1]
        simp (disch := omega) only [ni_le]
        rw [if_pos (by omega)]
    unfold LK_wetCells
    rw [key, b1_s]
  · intro c
    have gen : ∀ i : Nat, (i : Int) ≤ nn A → (hs (wx i) c = true ↔ ∃ j : Int, 0 ≤ j ∧ j < i ∧ σ j = c ∧ wtc A m V c = true) := by
      intro i
      induction i with
      | zero => intro _; constructor
                · intro hh; rw [show wx 0 = 0 from rfl, hs_zero] at hh; cases hh
                · rintro ⟨j, a, b, _⟩; omega
      | succ i ih =>
        intro hi
        have hr := so.1 i (by omega) (by omega)
        have ih' := ih (by omega)
        rw [wxs]
        by_cases q : wtc A m V (σ (i : Int)) = true
        · rw [if_pos q, hs_or, Bool.or_eq_true, hs_bit hr.1 (by omega), ih']
          constructor
          · rintro (⟨j, a, b, d, e⟩ | e)
            · exact ⟨j, a, by omega, d, e⟩
            · have e' : c = σ (i : Int) := by simpa using e
              exact ⟨i, by omega, by omega, e'.symm, by rw [e']; exact q⟩
          · rintro ⟨j, a, b, d, e⟩
            by_cases z : j = (i : Int)
            · right; subst z; simp [d]
            · left; exact ⟨j, a, by omega, d, e⟩
        · rw [if_neg q, ih']
          constructor
          · rintro ⟨j, a, b, d, e⟩; exact ⟨j, a, by omega, d, e⟩
          · rintro ⟨j, a, b, d, e⟩
            by_cases z : j = (i : Int)
            · subst z; rw [d] at q; exact absurd e q
            · exact ⟨j, a, by omega, d, e⟩
    have := gen (nn A).toNat (by omega)
    rw [Bool.eq_iff_iff, this]
    simp only [Bool.and_eq_true, decide_eq_true_eq]
    constructor
    · rintro ⟨j, a, bb, d, e⟩
      have := so.1 j a (by omega)
      rw [d] at this
      exact ⟨this, e⟩
    · rintro ⟨⟨a, bb⟩, e⟩
      obtain ⟨j, j0, j1, j2⟩ := so.2.2 c a bb
      exact ⟨j, j0, by omega, j2, e⟩
