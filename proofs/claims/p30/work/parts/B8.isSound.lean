/-! B8.isSound: the law's isSound says 1 -/
theorem bo_s {α β : Type} (v : α) (M : Mem) (f : α → Mem → Option β) : bo (some (.inl v, M)) f = f v M := rfl
theorem bq_s {α β : Type} (v : α) (Q : Mem2) (f : α → Mem2 → Option β) : bq (some (v, Q)) f = f v Q := rfl
theorem lpQ_to {σ ρ : Type} {f : σ → Mem2 → Option ((σ ⊕ ρ) × Mem2)} (n : Nat) (hn : n < 100000000) (I : Nat → σ → Mem2 → Prop) (Q : ρ → Mem2 → Prop) (h1 : ∀ i, i < n → ∀ s M, I i s M → ∃ s' M', f s M = some (.inl s', M') ∧ I (i + 1) s' M') (h2 : ∀ s M, I n s M → ∃ r M', f s M = some (.inr r, M') ∧ Q r M') {s : σ} {M : Mem2} (h0 : I 0 s M) : ∃ r M', lpQ f FUEL s M = some (r, M') ∧ Q r M' := by
  have key : ∀ k i fuel s M, i + k = n → k < fuel → I i s M → ∃ r M', lpQ f fuel s M = some (r, M') ∧ Q r M' := by
    intro k
    induction k with
    | zero =>
      intro i fuel s M hi hf hI
      obtain ⟨m, rfl⟩ : ∃ m, fuel = m + 1 := ⟨fuel - 1, by omega⟩
      have : i = n := by omega
      subst this
      obtain ⟨r, M', e, q⟩ := h2 s M hI
      exact ⟨r, M', by simp [lpQ, e], q⟩
    | succ k ih =>
      intro i fuel s M hi hf hI
      obtain ⟨m, rfl⟩ : ∃ m, fuel = m + 1 := ⟨fuel - 1, by omega⟩
      obtain ⟨s', M', e, q⟩ := h1 i (by omega) s M hI
      obtain ⟨r, M2, e2, q2⟩ := ih (i + 1) m s' M' (by omega) (by omega) q
      exact ⟨r, M2, by simp [lpQ, e, e2], q2⟩
  exact key n 0 FUEL s M (by omega) (by have := FUEL_big; omega) h0
theorem lsr1 (x : Int64) {c : Int} (h0 : 0 ≤ c) (h1 : c < 64) : ((lsr x (ni c)) &&& (1 : Int64) = (1 : Int64)) = (hs x c = true) := by
  rw [← sh_bit x h0 h1, ← one_and1, ← Int64.toBitVec_inj]
  rfl
theorem lsr0 (x : Int64) {c : Int} (h0 : 0 ≤ c) (h1 : c < 64) : ((lsr x (ni c)) &&& (1 : Int64) = (0 : Int64)) = (hs x c = false) := by
  rw [← sh_bit x h0 h1, ← one_and, ← Int64.toBitVec_inj]
  rfl
def ex : Nat → (Nat → Bool) → Bool
  | 0, _ => false
  | n + 1, p => ex n p || p n
theorem ex_iff (n : Nat) (p : Nat → Bool) : ex n p = true ↔ ∃ i, i < n ∧ p i = true := by
  induction n with
  | zero => simp [ex]
  | succ n ih =>
    simp only [ex, Bool.or_eq_true, ih]
    constructor
    · rintro (⟨i, h1, h2⟩ | h)
      · exact ⟨i, by omega, h2⟩
      · exact ⟨n, by omega, h⟩
    · rintro ⟨i, h1, h2⟩
      by_cases e : i = n
      · rw [e] at h2; exact Or.inr h2
      · exact Or.inl ⟨i, by omega, h2⟩
theorem bB1 (p : Bool) : (if ¬ bI (p = true) = (1 : Int32) then (0 : Int32) else (1 : Int32)) = bI (p = true) := by
  cases p <;> decide
theorem bB0 (p : Bool) : (bI (p = true) = 0) = (p = false) := by
  cases p <;> simp <;> decide
theorem cv_0 (A : Ab) (c : Int) : cv A c 0 = ht A c := rfl
theorem cv_1 (A : Ab) (c : Int) : ni (cv A c 1) = bI (hs (drn A) c = true) := by
  show ni (if hs (drn A) c = true then 1 else 0) = _
  cases hs (drn A) c <;> decide
theorem cv_2 (A : Ab) (c : Int) : cv A c 2 = bas A c := rfl
theorem cv_4 (A : Ab) (c : Int) : ni (cv A c 4) = bI (isw A c = true) := by
  show ni (if isw A c = true then 1 else 0) = _
  cases isw A c <;> decide
theorem cv_5 (A : Ab) (c : Int) : ni (cv A c 5) = bI (ipt A c = true) := by
  show ni (if ipt A c = true then 1 else 0) = _
  cases ipt A c <;> decide
theorem kc {M : Mem} {A : Ab} {nx cnt : Int} (h : IC M A nx cnt) (c : Int) (c0 : 0 ≤ c) (c1 : c < nn A) : LL_cell (ni c) (0 : Int32) M = some (.inl (ni (ht A c)), M) ∧ LL_cell (ni c) (1 : Int32) M = some (.inl (bI (hs (drn A) c = true)), M) ∧ LL_cell (ni c) (2 : Int32) M = some (.inl (ni (bas A c)), M) ∧ LL_cell (ni c) (4 : Int32) M = some (.inl (bI (isw A c = true)), M) ∧ LL_cell (ni c) (5 : Int32) M = some (.inl (bI (ipt A c = true)), M) :=
  ⟨k_cell h c0 c1 (k := 0) (by omega), by rw [← cv_1]; exact k_cell h c0 c1 (k := 1) (by omega), k_cell h c0 c1 (k := 2) (by omega), by rw [← cv_4]; exact k_cell h c0 c1 (k := 4) (by omega), by rw [← cv_5]; exact k_cell h c0 c1 (k := 5) (by omega)⟩
theorem kc3 {M : Mem} {A : Ab} {nx cnt : Int} (h : IC M A nx cnt) (c : Int) (c0 : 0 ≤ c) (c1 : c < nn A) : LL_cell (ni c) (3 : Int32) M = some (.inl (ni (cv A c 3)), M) := k_cell h c0 c1 (k := 3) (by omega)
theorem kn {M : Mem} {A : Ab} {nx cnt : Int} (h : IC M A nx cnt) : LL_count (0 : Int32) M = some (.inl (ni (wd A)), M) ∧ LL_count (1 : Int32) M = some (.inl (ni (hg A)), M) ∧ LL_count (2 : Int32) M = some (.inl (ni (bnn A)), M) ∧ LL_count (3 : Int32) M = some (.inl (ni (lown A 36)), M) ∧ LL_count (4 : Int32) M = some (.inl (ni (wta A)), M) ∧ LL_count (5 : Int32) M = some (.inl (ni (ct (nn A).toNat (fun c => decide (bas A c = -1)))), M) :=
  ⟨k_count h (k := 0) (by omega), k_count h (k := 1) (by omega), k_count h (k := 2) (by omega), k_count h (k := 3) (by omega), k_count h (k := 4) (by omega), k_count h (k := 5) (by omega)⟩
theorem kb {M : Mem} {A : Ab} {nx cnt : Int} (h : IC M A nx cnt) : LL_balance (0 : Int32) M = some (.inl (prd A), M) ∧ LL_balance (1 : Int32) M = some (.inl (nl (wat A)), M) ∧ LL_balance (2 : Int32) M = some (.inl (lst A), M) ∧ LL_balance (3 : Int32) M = some (.inl (gon A), M) :=
  ⟨k_balance h (k := 0) (by omega), k_balance h (k := 1) (by omega), k_balance h (k := 2) (by omega), k_balance h (k := 3) (by omega)⟩
theorem s_202 {Q : Mem2} {A : Ab} {nx cnt : Int} (h : IC Q.1 A nx cnt) {b c : Int} (b0 : 0 ≤ b) (b1 : b < nn A) (c0 : 0 ≤ c) (c1 : c < nn A) (on : Bool) (hc : on = true → ht A b ≤ ht A c ∧ bas A b = bas A c) (v1 : Int32) (K : Int64) (pit t0 : Int32) : LW_isSound_L123_J202 v1 (1 : Int32) (ni c) K pit (ni b) (bI (on = true)) t0 Q = some (.inl ((1 : Int32), pit, t0, ni b + (1 : Int32)), Q) := by
  have hn := nn_bd h.2.1.1.1
  unfold LW_isSound_L123_J202
  rw [if_neg (by decide)]
  simp only [bB0]
  cases on with
  | false => rw [if_pos rfl]
  | true =>
    obtain ⟨e1, e2⟩ := hc rfl
    rw [if_neg (by decide)]
    have B1 := ht_bd h.2.1.1.1 b0 (show b < 36 by omega)
    have B2 := ht_bd h.2.1.1.1 c0 (show c < 36 by omega)
    rw [(kc h b b0 b1).1, bo_s, (kc h c c0 c1).1, bo_s]
    rw [if_neg (by rw [ni_lt (by omega) (by omega) (by omega) (by omega)]; omega), (kc h b b0 b1).2.2.1, bo_s, (kc h c c0 c1).2.2.1, bo_s, e2, if_neg (by simp)]
theorem s_174 {Q : Mem2} {A : Ab} {nx cnt : Int} (h : IC Q.1 A nx cnt) {b c : Int} (b0 : 0 ≤ b) (b1 : b < nn A) (c0 : 0 ≤ c) (c1 : c < nn A) (on d : Bool) (hc : on = true → ht A b ≤ ht A c ∧ bas A b = bas A c) (v1 : Int32) (K : Int64) (pit : Int32) : LW_isSound_L123_J174 v1 (1 : Int32) (ni c) K (bI (d = true)) (ni b) (bI (on = true)) pit Q = some (.inl ((1 : Int32), pit, bI ((d || (on && hs (drn A) b)) = true), ni b + (1 : Int32)), Q) := by
  unfold LW_isSound_L123_J174 LW_isSound_L123_J197 LW_isSound_L123_J201
  simp only [bB0]
  cases d with
  | true =>
    rw [if_pos (by decide), s_202 h b0 b1 c0 c1 on hc]
    simp [bI]
  | false =>
    rw [if_neg (by decide)]
    cases on with
    | false =>
      rw [if_pos rfl, s_202 h b0 b1 c0 c1 false hc]
      simp [bI]
    | true =>
      rw [if_neg (by decide), (kc h b b0 b1).2.1, bo_s, bB1]
      refine (s_202 h b0 b1 c0 c1 true hc v1 K pit (bI (hs (drn A) b = true))).trans ?_
      simp
theorem s_146 {Q : Mem2} {A : Ab} {nx cnt : Int} (h : IC Q.1 A nx cnt) {b c : Int} (b0 : 0 ≤ b) (b1 : b < nn A) (c0 : 0 ≤ c) (c1 : c < nn A) (on p d : Bool) (hc : on = true → ht A b ≤ ht A c ∧ bas A b = bas A c) (v1 : Int32) (K : Int64) : LW_isSound_L123_J146 v1 (1 : Int32) (ni c) K (bI (p = true)) (bI (d = true)) (ni b) (bI (on = true)) Q = some (.inl ((1 : Int32), bI ((p || (on && ipt A b)) = true), bI ((d || (on && hs (drn A) b)) = true), ni b + (1 : Int32)), Q) := by
  unfold LW_isSound_L123_J146 LW_isSound_L123_J169 LW_isSound_L123_J173
  simp only [bB0]
  cases p with
  | true =>
    rw [if_pos (by decide), s_174 h b0 b1 c0 c1 on d hc]
    simp [bI]
  | false =>
    rw [if_neg (by decide)]
    cases on with
    | false =>
      rw [if_pos rfl, s_174 h b0 b1 c0 c1 false d hc]
      simp [bI]
    | true =>
      rw [if_neg (by decide), (kc h b b0 b1).2.2.2.2, bo_s, bB1]
      refine (s_174 h b0 b1 c0 c1 true d hc v1 K (bI (ipt A b = true))).trans ?_
      simp
theorem s_123 {Q : Mem2} {A : Ab} {nx cnt : Int} (h : IC Q.1 A nx cnt) {c : Int} (c0 : 0 ≤ c) (c1 : c < nn A) : lpQ (fun s M9 => LW_isSound_L123 (ni (nn A)) (ni c) (crs A 36 c 0) s.1 s.2.1 s.2.2.1 s.2.2.2 M9) FUEL ((1 : Int32), (0 : Int32), (0 : Int32), (0 : Int32)) Q = some (((1 : Int32), bI (ex (nn A).toNat (fun b => con A 36 c b && ipt A b) = true), bI (ex (nn A).toNat (fun b => con A 36 c b && hs (drn A) b) = true)), Q) := by
  have hn := nn_bd h.2.1.1.1
  obtain ⟨r, M', e, rfl, rfl⟩ := lpQ_to (f := fun s M9 => LW_isSound_L123 (ni (nn A)) (ni c) (crs A 36 c 0) s.1 s.2.1 s.2.2.1 s.2.2.2 M9) (nn A).toNat (by omega) (fun i s M => s = ((1 : Int32), bI (ex i (fun b => con A 36 c b && ipt A b) = true), bI (ex i (fun b => con A 36 c b && hs (drn A) b) = true), ni (i : Int)) ∧ M = Q) (fun r M => r = ((1 : Int32), bI (ex (nn A).toNat (fun b => con A 36 c b && ipt A b) = true), bI (ex (nn A).toNat (fun b => con A 36 c b && hs (drn A) b) = true)) ∧ M = Q) (by
    rintro i hi s M ⟨rfl, rfl⟩
    refine ⟨_, _, ?_, rfl, rfl⟩
    unfold LW_isSound_L123
    dsimp only
    have hon : con A 36 c (i : Int) = true → ht A i ≤ ht A c ∧ bas A i = bas A c := fun z => by
      obtain ⟨⟨r1, r2⟩, r3, r4⟩ := con_rg h.2.1.1.1 36 c i c0 c1 z
      exact ⟨r3, by rw [h.2.1.2.1.2.2.1 _ r1 r2, h.2.1.2.1.2.2.1 _ c0 c1, r4]⟩
    rw [if_neg (by rw [ni_le (by omega) (by omega) (by omega) (by omega)]; omega)]
    have key := s_146 h (b := (i : Int)) (by omega) (by omega) c0 c1 (con A 36 c i) (ex i (fun b => con A 36 c b && ipt A b)) (ex i (fun b => con A 36 c b && hs (drn A) b)) hon (ni (nn A)) (crs A 36 c 0)
    have hone : ni (i : Int) + (1 : Int32) = ni ((i + 1 : Nat) : Int) := by rw [show (1 : Int32) = ni 1 from rfl, ni_add]; rfl
    rw [hone] at key
    simp only [lsr1 _ (show (0 : Int) ≤ i by omega) (show (i : Int) < 64 by omega), crs_hs]
    cases q : con A 36 c (i : Int) with
    | true =>
      rw [if_neg (by simp)]
      rw [q] at key
      simp only [ex, q]
      exact key
    | false =>
      rw [if_pos (by simp)]
      rw [q] at key
      simp only [ex, q]
      exact key) (by
    rintro s M ⟨rfl, rfl⟩
    refine ⟨_, _, ?_, rfl, rfl⟩
    unfold LW_isSound_L123
    dsimp only
    rw [if_pos (by rw [ni_le (by omega) (by omega) (by omega) (by omega)]; omega)]) (s := ((1 : Int32), (0 : Int32), (0 : Int32), (0 : Int32))) (M := Q) ⟨rfl, rfl⟩
  exact e
