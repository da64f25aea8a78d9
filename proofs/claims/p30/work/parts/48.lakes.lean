/-! 48.lakes: which lake a cell belongs to, the numbers of the lakes -/
def lkf (A : Ab) (c : Int) : Nat → Int
  | 0 => -1
  | k + 1 => if there A k = 1 ∧ hs (msk A k) c = true then (k : Int) else lkf A c k
def lk (A : Ab) (c : Int) : Int := lkf A c 72
/-- bounds of what the forest's places hold; what lies in the sets -/
def WFb (A : Ab) : Prop := (∀ k, 0 ≤ k → k < 72 → (there A k = 0 ∨ there A k = 1) ∧ (0 ≤ fst A k ∧ fst A k < 72) ∧ (0 ≤ snd A k ∧ snd A k < 72) ∧ (0 ≤ vol A k ∧ vol A k ≤ 1200000)) ∧ (∀ k c, 0 ≤ k → k < 72 → hs (msk A k) c = true → 0 ≤ c ∧ c < nn A) ∧ (∀ k, 0 ≤ k → k < 72 → there A k = 1 → msk A k ≠ 0) ∧ (∀ k j c, 0 ≤ k → k < 72 → 0 ≤ j → j < 72 → there A k = 1 → there A j = 1 → hs (msk A k) c = true → hs (msk A j) c = true → k = j) ∧ msk A 71 = 0
theorem lkf_spec (A : Ab) (c : Int) (n : Nat) : (lkf A c n = -1 ∧ ∀ k : Nat, k < n → ¬ (there A k = 1 ∧ hs (msk A k) c = true)) ∨ (0 ≤ lkf A c n ∧ lkf A c n < n ∧ there A (lkf A c n) = 1 ∧ hs (msk A (lkf A c n)) c = true) := by
  induction n with
  | zero => left; exact ⟨rfl, fun k hk => by omega⟩
  | succ n ih =>
    simp only [lkf]
    split
    · rename_i h
      right; exact ⟨by omega, by omega, h.1, h.2⟩
    · rename_i h
      rcases ih with ⟨a, b⟩ | ⟨a, b, d⟩
      · left
        refine ⟨a, fun k hk => ?_⟩
        by_cases e : k = n
        · subst e; exact h
        · exact b k (by omega)
      · right; exact ⟨a, by omega, d⟩
theorem lk_spec (A : Ab) (c : Int) : (lk A c = -1 ∧ ∀ k, 0 ≤ k → k < 72 → ¬ (there A k = 1 ∧ hs (msk A k) c = true)) ∨ (0 ≤ lk A c ∧ lk A c < 72 ∧ there A (lk A c) = 1 ∧ hs (msk A (lk A c)) c = true) := by
  rcases lkf_spec A c 72 with ⟨a, b⟩ | h
  · left
    refine ⟨a, fun k h0 h1 => ?_⟩
    have := b k.toNat (by omega)
    rwa [Int.toNat_of_nonneg h0] at this
  · right; exact h
theorem lk_eq {A : Ab} (b : WFb A) {k c : Int} (h0 : 0 ≤ k) (h1 : k < 72) (h2 : there A k = 1) (h3 : hs (msk A k) c = true) : lk A c = k := by
  rcases lk_spec A c with ⟨_, q⟩ | ⟨q0, q1, q2, q3⟩
  · exact absurd ⟨h2, h3⟩ (q k h0 h1)
  · exact b.2.2.2.1 _ _ c q0 q1 h0 h1 q2 h2 q3 h3
theorem lk_rg {A : Ab} (b : WFb A) (c : Int) : lk A c = -1 ∨ (0 ≤ lk A c ∧ lk A c < 71 ∧ there A (lk A c) = 1 ∧ hs (msk A (lk A c)) c = true ∧ msk A (lk A c) ≠ 0) := by
  rcases lk_spec A c with ⟨h, _⟩ | ⟨h0, h1, h2, h3⟩
  · left; exact h
  · right
    refine ⟨h0, ?_, h2, h3, ne_zero h3⟩
    by_cases e : lk A c = 71
    · rw [e, b.2.2.2.2, hs_zero] at h3; cases h3
    · omega
theorem lk_out {A : Ab} (b : WFb A) {c : Int} (h : c < 0 ∨ nn A ≤ c) : lk A c = -1 := by
  rcases lk_spec A c with ⟨h, _⟩ | ⟨h0, h1, h2, h3⟩
  · exact h
  · have := b.2.1 _ c h0 h1 h3; omega
theorem e_lakeOf {M : Mem} {A : Ab} (h : RM M A) (b : WFb A) {c : Int} (h0 : 0 ≤ c) (h1 : c < 64) : MD_lakeOf (ni c) M = some (ni (lk A c)) := by
  have key : lpR (fun s => MD_lakeOf_L4 (ni c) s.1 s.2 M) FUEL ((-1 : Int32), (0 : Int32)) = some (ni (lk A c)) := by
    refine lpR_to (fun k => (ni (lkf A c k), ni (k : Int))) _ 72 (by omega) ?_ ?_ rfl
    · intro k hk
      have ht := (b.1 k (by omega) (by omega)).1
      unfold MD_lakeOf_L4
      try dsimp only
      simp (disch := omega) only [show (72 : Int32) = ni 72 from rfl, show (1 : Int32) = ni 1 from rfl, show (440 : Int32) = ni 440 from rfl, show (152 : Int32) = ni 152 from rfl, show (1 : Int64) = nl 1 from rfl, ni_le, ni_add, ni_inb, ni_nat, MD_has_eq, bI_z, show (440 + (k : Int)).toNat = 440 + (k : Int).toNat by omega, show (152 + (k : Int)).toNat = 152 + (k : Int).toNat by omega, RM_thr h, RM_msk h, nl_eq]
      rw [if_neg (by omega), ck_d (by omega), ck_d (by omega)]
      by_cases q : there A (k : Int) = 1
      · rw [if_neg (by omega)]
        refine congrArg some (congrArg Sum.inl (Prod.ext ?_ rfl))
        dsimp only [lkf]
        cases hs (msk A (k : Int)) c with
        | false => simp
        | true => simp [q]
      · rw [if_pos q]
        refine congrArg some (congrArg Sum.inl (Prod.ext ?_ rfl))
        dsimp only [lkf]
        rw [if_neg (fun z => q z.1)]
    · unfold MD_lakeOf_L4
      try dsimp only
      rw [if_pos (by decide)]
      rfl
  unfold MD_lakeOf
  rw [key, b1_s]
/-- the cells at which lakes are numbered -/
def low (A : Ab) (c : Int) : Bool := !decide (lk A c = -1) && decide (lo (msk A (lk A c)) = c)
def lown (A : Ab) (n : Nat) : Int := ct n (fun c => low A c)
def pof (A : Ab) (n : Int) : Int :=
  let c := ff 36 (fun c => low A c && decide (lown A c = n))
  if c = -1 then -1 else lk A c
theorem low_iff {A : Ab} {c : Int} : low A c = true ↔ lk A c ≠ -1 ∧ lo (msk A (lk A c)) = c := by
  unfold low; simp
theorem low_out {A : Ab} (b : WFb A) {c : Int} (h : c < 0 ∨ nn A ≤ c) : low A c = false := by
  unfold low; rw [lk_out b h]; simp
theorem lown_succ (A : Ab) (n : Nat) : lown A (n + 1) = lown A n + (if low A n = true then 1 else 0) := rfl
theorem lown_mono (A : Ab) {n m : Nat} (h : n ≤ m) : lown A n ≤ lown A m := by
  induction m with
  | zero => obtain rfl : n = 0 := by omega
            exact Int.le_refl _
  | succ m ih =>
    by_cases e : n = m + 1
    · subst e; exact Int.le_refl _
    · have := ih (by omega)
      rw [lown_succ]
      split <;> omega
theorem lown_nonneg (A : Ab) (n : Nat) : 0 ≤ lown A n := lown_mono A (Nat.zero_le n)
theorem lown_le (A : Ab) (n : Nat) : lown A n ≤ n := by
  induction n with
  | zero => exact Int.le_refl _
  | succ n ih => rw [lown_succ]; split <;> omega
theorem lown_out {A : Ab} (g : WFg A) (b : WFb A) : lown A 36 = lown A (nn A).toNat := by
  have := nn_bd g
  exact sm_ext (by omega) (fun i h1 h2 => by simp [low_out b (show (i : Int) < 0 ∨ nn A ≤ (i : Int) by omega)])
theorem pof_low {A : Ab} {c : Nat} (hc : c < 36) (h : low A c = true) : pof A (lown A c) = lk A c := by
  have e : ff 36 (fun i => low A i && decide (lown A i = lown A c)) = c := by
    refine ff_eq hc (by simp [h]) (fun i hi => ?_)
    cases q : low A i with
    | false => simp
    | true =>
      have h1 := lown_mono A (show i + 1 ≤ c by omega)
      rw [lown_succ, q] at h1
      simp at h1
      simp
      omega
  unfold pof
  rw [e]
  simp
/-- numbers and cells: a number below the count has its cell -/
theorem pof_cell {A : Ab} {n : Int} (h0 : 0 ≤ n) (m : Nat) (h1 : n < lown A m) : ∃ c : Nat, c < m ∧ low A c = true ∧ lown A c = n := by
  induction m with
  | zero => have : lown A 0 = 0 := rfl
            omega
  | succ m ih =>
    by_cases e : n < lown A m
    · obtain ⟨c, a, b⟩ := ih e
      exact ⟨c, by omega, b⟩
    · rw [lown_succ] at h1
      by_cases q : low A m = true
      · rw [if_pos q] at h1
        exact ⟨m, by omega, q, by omega⟩
      · rw [if_neg q] at h1; omega
theorem pof_out {A : Ab} {n : Int} (h : n < 0 ∨ lown A 36 ≤ n) : pof A n = -1 := by
  unfold pof
  rcases ff_spec 36 (fun i => low A i && decide (lown A i = n)) with ⟨e, _⟩ | ⟨k, k1, k2, k3, k4⟩
  · rw [e]; rfl
  · exfalso
    simp only [Bool.and_eq_true, decide_eq_true_eq] at k3
    have h1 := lown_nonneg A k
    have h2 := lown_mono A (show k + 1 ≤ 36 by omega)
    rw [lown_succ, k3.1, if_pos rfl] at h2
    omega
theorem pof_in {A : Ab} (b : WFb A) {n : Int} (h0 : 0 ≤ n) (h1 : n < lown A 36) : ∃ c : Nat, c < 36 ∧ low A c = true ∧ lown A c = n ∧ pof A n = lk A c ∧ (0 ≤ pof A n ∧ pof A n < 71) ∧ there A (pof A n) = 1 ∧ msk A (pof A n) ≠ 0 ∧ lo (msk A (pof A n)) = c := by
  obtain ⟨c, a, q, e⟩ := pof_cell h0 36 h1
  have hp := pof_low a q
  rw [e] at hp
  have ⟨l1, l2⟩ := low_iff.mp q
  rcases lk_rg b c with h | ⟨r0, r1, r2, r3, r4⟩
  · exact absurd h l1
  · exact ⟨c, a, q, e, hp, by rw [hp]; exact ⟨r0, r1⟩, by rw [hp]; exact r2, by rw [hp]; exact r4, by rw [hp]; exact l2⟩
/-- a lake that is there has its number -/
theorem low_of {A : Ab} (g : WFg A) (b : WFb A) {k : Int} (h0 : 0 ≤ k) (h1 : k < 72) (h2 : there A k = 1) : low A (lo (msk A k)) = true ∧ lk A (lo (msk A k)) = k ∧ 0 ≤ lo (msk A k) ∧ lo (msk A k) < nn A := by
  have hz := b.2.2.1 k h0 h1 h2
  obtain ⟨l1, l2, l3⟩ := lo_spec hz
  have hk := lk_eq b h0 h1 h2 l2
  have := b.2.1 k _ h0 h1 l2
  refine ⟨low_iff.mpr ⟨by omega, by rw [hk]⟩, hk, this⟩
/-- the other side's list of the lakes -/
def FrO (M M' : Mem) : Prop := M'.2 = M.2 ∧ ∀ o q, o ≠ 7 → ¬ (o = 0 ∧ q = 12) → M'.1 o q = M.1 o q
theorem FrO.L {M M' : Mem} (h : FrO M M') (o k : Nat) : gL M' o k = gL M o k := by unfold gL; rw [h.1]
theorem FrO.RM {M M' : Mem} {A : Ab} (h : FrO M M') (r : RM M A) : RM M' A := RM_of r (fun k _ => h.L 1 k)
def OR (M : Mem) (A : Ab) : Prop := gI M 0 12 = ni (lown A 36) ∧ ∀ i : Nat, (i : Int) < lown A 36 → gI M 7 i = ni (pof A i)
theorem e_orders {M : Mem} {A : Ab} (h : RM M A) (g : WFg A) (b : WFb A) : ∃ M', MD_orders M = some ((), M') ∧ FrO M M' ∧ OR M' A := by
  have hn := nn_bd g
  have key : ∃ r M', lpM (fun s M9 => MD_orders_L7 s M9) FUEL (0 : Int32) (sI M 0 12 (0 : Int32)) = some (r, M') ∧ (FrO M M' ∧ gI M' 0 12 = ni (lown A (nn A).toNat) ∧ ∀ i : Nat, (i : Int) < lown A (nn A).toNat → gI M' 7 i = ni (pof A i)) := by
    refine lpM_to (nn A).toNat (by omega) (fun c s M' => s = ni (c : Int) ∧ FrO M M' ∧ gI M' 0 12 = ni (lown A c) ∧ ∀ i : Nat, (i : Int) < lown A c → gI M' 7 i = ni (pof A i)) _ ?_ ?_ ⟨rfl, ?_, ?_, ?_⟩
    · rintro c hc s M1 ⟨rfl, hF, h12, h7⟩
      have hR := hF.RM h
      have hl := lown_le A c
      have hl0 := lown_nonneg A c
      unfold MD_orders_L7
      rw [e_many hR, e_lakeOf hR b (by omega) (by omega), b1_s]
      simp (disch := omega) only [ni_le]
      rw [if_neg (by omega)]
      have stay : low A c = false → FrO M M1 ∧ gI M1 0 12 = ni (lown A (c + 1)) ∧ ∀ i : Nat, (i : Int) < lown A (c + 1) → gI M1 7 i = ni (pof A i) := by
        intro q
        rw [lown_succ, q]
        simp only [Bool.false_eq_true, if_false, Int.add_zero]
        exact ⟨hF, h12, h7⟩
      rcases lk_rg b c with e | ⟨r0, r1, r2, r3, r4⟩
      · rw [e, if_pos (show ni (-1) = (-1 : Int32) from rfl), show (1 : Int32) = ni 1 from rfl, ni_add]
        exact ⟨_, _, rfl, rfl, stay (by unfold low; rw [e]; simp)⟩
      · have hlo := lo_ge (x := msk A (lk A c))
        simp (disch := omega) only [show (1 : Int32) = ni 1 from rfl, ni_neg, ni_eq, show (152 : Int32) = ni 152 from rfl, ni_add, ni_inb, ni_nat, show (152 + lk A (c : Int)).toNat = 152 + (lk A (c : Int)).toNat by omega, RM_msk hR]
        rw [if_neg (by omega), ck_d (by omega), MD_lowest_eq r4, b1_s]
        simp (disch := omega) only [ni_eq]
        by_cases q : lo (msk A (lk A (c : Int))) = c
        · have hlow : low A c = true := low_iff.mpr ⟨by omega, q⟩
          rw [if_neg (by simp [q]), h12, ni_inb (by omega) (by omega), ck_d (by omega), ni_nat (by omega) (by omega)]
          have e12 : gI (sI M1 7 (lown A c).toNat (ni (lk A c))) 0 12 = ni (lown A c) := by
            rw [← h12]; simp [gI, sI]
          rw [e12, ni_add]
          refine ⟨_, _, rfl, rfl, ⟨hF.1, fun o r h1 h2 => ?_⟩, ?_, ?_⟩
          · rw [← hF.2 o r h1 h2]
            unfold sI
            try dsimp only
            rw [if_neg (by omega), if_neg (by omega)]
          · rw [lown_succ, hlow, if_pos rfl]
            simp [gI, sI]
          · intro i hi
            rw [lown_succ, hlow, if_pos rfl] at hi
            by_cases e : (i : Int) = lown A c
            · have ei : i = (lown A c).toNat := by omega
              rw [e, pof_low (by omega) hlow, ei]
              simp [gI, sI]
            · have ei : i ≠ (lown A c).toNat := by omega
              rw [← h7 i (by omega)]
              simp [gI, sI, ei]
        · rw [if_pos q]
          exact ⟨_, _, rfl, rfl, stay (by
            cases z : low A c with
            | false => rfl
            | true => exact absurd (low_iff.mp z).2 q)⟩
    · rintro s M1 ⟨rfl, hF, h12, h7⟩
      refine ⟨(), M1, ?_, hF, h12, h7⟩
      unfold MD_orders_L7
      rw [e_many (hF.RM h)]
      simp (disch := omega) only [ni_le]
      rw [if_pos (by omega)]
    · refine ⟨rfl, fun o r h1 h2 => ?_⟩
      unfold sI
      try dsimp only
      rw [if_neg h2]
    · simp [gI, sI]; rfl
    · intro i hi
      have : lown A 0 = 0 := rfl
      omega
  obtain ⟨r, M', e, hF, h12, h7⟩ := key
  refine ⟨M', ?_, hF, ?_, ?_⟩
  · unfold MD_orders; rw [e, b2_s]
  · rw [lown_out g b]; exact h12
  · rw [lown_out g b]; exact h7
theorem e_numberOf {M : Mem} {A : Ab} (g : WFg A) (b : WFb A) (o : OR M A) {k : Int} (h0 : 0 ≤ k) (h1 : k < 72) (h2 : there A k = 1) : MD_numberOf (ni k) M = some (ni (lown A (lo (msk A k)).toNat)) := by
  have hn := nn_bd g
  obtain ⟨l1, l2, l3, l4⟩ := low_of g b h0 h1 h2
  obtain ⟨c, hc⟩ : ∃ c : Nat, lo (msk A k) = c := ⟨(lo (msk A k)).toNat, by omega⟩
  rw [hc] at l1 l2 l3 l4 ⊢
  have c36 : c < 36 := by omega
  have hp := pof_low c36 l1
  have hm := lown_mono A (show c + 1 ≤ 36 by omega)
  rw [lown_succ, l1, if_pos rfl] at hm
  have hl0 := lown_nonneg A c
  have hle := lown_le A 36
  simp only [Int.toNat_natCast]
  have key : lpR (fun s => MD_numberOf_L2 (ni k) s M) FUEL (0 : Int32) = some (ni (lown A c)) := by
    refine lpR_to (fun i => ni (i : Int)) _ (lown A c).toNat (by omega) ?_ ?_ rfl
    · intro i hi
      have ho := o.2 i (by omega)
      obtain ⟨d, d1, d2, d3, d4, d5, d6, d7, d8⟩ := pof_in b (n := (i : Int)) (by omega) (by omega)
      unfold MD_numberOf_L2
      simp (disch := omega) only [ni_inb, ni_nat, Int.toNat_natCast, ho, ni_eq, show (1 : Int32) = ni 1 from rfl, ni_add]
      rw [ck_d (by omega), if_neg]
      · rfl
      · intro e
        rw [e, hc] at d8
        have : c = d := by omega
        subst this
        omega
    · have ho := o.2 (lown A c).toNat (by omega)
      rw [Int.toNat_of_nonneg hl0] at ho ⊢
      unfold MD_numberOf_L2
      simp (disch := omega) only [ni_inb, ni_nat, ho]
      rw [ck_d (by omega), if_pos (by rw [hp, l2])]
  unfold MD_numberOf
  rw [key, b1_s]
/-- sums over the lakes, by their lowest cells or by their places -/
theorem sm_swap (n m : Nat) (f : Nat → Nat → Int) : sm n (fun i => sm m (fun j => f i j)) = sm m (fun j => sm n (fun i => f i j)) := by
  induction n with
  | zero => simp only [sm]; exact (sm_zero (fun _ _ => rfl)).symm
  | succ n ih => simp only [sm]; rw [ih, ← sm_add]
theorem lakes_sum {A : Ab} (g : WFg A) (b : WFb A) (f : Int → Int) : sm 36 (fun c => if low A c = true then f (lk A c) else 0) = sm 72 (fun k => if there A k = 1 then f k else 0) := by
  have hn := nn_bd g
  have e1 : sm 36 (fun c => if low A c = true then f (lk A c) else 0) = sm 36 (fun c => sm 72 (fun k => if there A k = 1 ∧ lo (msk A k) = (c : Int) then f k else 0)) := by
    apply sm_congr
    intro c hc
    by_cases q : low A c = true
    · have ⟨l1, l2⟩ := low_iff.mp q
      rcases lk_rg b c with h | ⟨r0, r1, r2, r3, r4⟩
      · exact absurd h l1
      · rw [if_pos q, sm_single (k := (lk A c).toNat) (by omega)]
        · rw [Int.toNat_of_nonneg r0, if_pos ⟨r2, l2⟩]
        · intro k hk hne
          try dsimp only
          rw [if_neg]
          rintro ⟨a1, a2⟩
          have := lo_spec (b.2.2.1 k (by omega) (by omega) a1)
          rw [a2] at this
          have := lk_eq b (by omega) (by omega) a1 this.2.1
          omega
    · rw [if_neg q, sm_zero]
      intro k hk
      try dsimp only
      rw [if_neg]
      rintro ⟨a1, a2⟩
      have := (low_of g b (by omega) (by omega) a1).1
      rw [a2] at this
      exact q this
  rw [e1, sm_swap]
  apply sm_congr
  intro k hk
  by_cases q : there A k = 1
  · obtain ⟨l1, l2, l3, l4⟩ := low_of g b (by omega) (by omega) q
    rw [if_pos q, sm_single (k := (lo (msk A k)).toNat) (by omega)]
    · try dsimp only
      rw [Int.toNat_of_nonneg l3, if_pos ⟨q, rfl⟩]
    · intro c hc hne
      try dsimp only
      rw [if_neg]
      rintro ⟨a1, a2⟩
      omega
  · rw [if_neg q, sm_zero]
    intro c hc
    try dsimp only
    rw [if_neg (fun z => q z.1)]
def wat (A : Ab) : Int := sm 72 (fun k => if there A k = 1 then vol A k else 0)
theorem wat_bd {A : Ab} (b : WFb A) (n : Nat) (hn : n ≤ 72) : 0 ≤ sm n (fun k => if there A k = 1 then vol A k else 0) ∧ sm n (fun k => if there A k = 1 then vol A k else 0) ≤ 86400000 := by
  constructor
  · exact sm_nonneg (fun i hi => by have := (b.1 i (by omega) (by omega)).2.2.2; split <;> omega)
  · have := sm_bd (n := n) (f := fun k => if there A k = 1 then vol A k else 0) (b := 1200000) (fun i hi => by have := (b.1 i (by omega) (by omega)).2.2.2; split <;> omega)
    omega
theorem e_water {M : Mem} {A : Ab} (h : RM M A) (b : WFb A) : MD_water M = some (nl (wat A)) := by
  have key : lpR (fun s => MD_water_L4 s.1 s.2 M) FUEL ((0 : Int64), (0 : Int32)) = some (nl (wat A)) := by
    refine lpR_to (fun k => (nl (sm k (fun k => if there A k = 1 then vol A k else 0)), ni (k : Int))) _ 72 (by omega) ?_ ?_ rfl
    · intro k hk
      have ht := (b.1 k (by omega) (by omega)).1
      unfold MD_water_L4
      try dsimp only
      simp (disch := omega) only [show (72 : Int32) = ni 72 from rfl, show (1 : Int32) = ni 1 from rfl, show (440 : Int32) = ni 440 from rfl, show (224 : Int32) = ni 224 from rfl, show (1 : Int64) = nl 1 from rfl, show (0 : Int64) = nl 0 from rfl, ni_le, ni_add, nl_add, ni_inb, ni_nat, show (440 + (k : Int)).toNat = 440 + (k : Int).toNat by omega, show (224 + (k : Int)).toNat = 224 + (k : Int).toNat by omega, RM_thr h, RM_vol h, nl_eq]
      rw [if_neg (by omega), ck_d (by omega), ck_d (by omega)]
      by_cases q : there A (k : Int) = 1
      · rw [if_neg (by omega)]
        refine congrArg some (congrArg Sum.inl (Prod.ext ?_ rfl))
        simp only [sm]
        rw [if_pos q]
      · rw [if_pos q]
        refine congrArg some (congrArg Sum.inl (Prod.ext ?_ rfl))
        simp only [sm]
        rw [if_neg q]
    · unfold MD_water_L4
      try dsimp only
      rw [if_pos (by decide)]
      rfl
  unfold MD_water
  rw [key, b1_s]
