/-! 49.clakes: the lakes of one side as it keeps them -/
theorem ni_s (i : Nat) : ni (i : Int) + (1 : Int32) = ni ((i + 1 : Nat) : Int) := by
  rw [show (1 : Int32) = ni 1 from rfl, ni_add]; rfl
def fp (A : Ab) (c : Int) : Bool := hs (pits A) c && decide (ff c.toNat (fun b => hs (pits A) b && decide (bas A b = bas A c)) = -1)
def bct (A : Ab) (m : Int64) : Int := ct (nn A).toNat (fun c => hs m c && fp A c)
def fa (A : Ab) (k : Int) : Int := if lo (msk A (fst A k)) < lo (msk A (snd A k)) then fst A k else snd A k
def sa (A : Ab) (k : Int) : Int := if lo (msk A (fst A k)) < lo (msk A (snd A k)) then snd A k else fst A k
def RLk (l : Nat) (M : Mem) (A : Ab) (k : Int) : Prop :=
  fAtI (l + 3) (ni k) M = ni (vol A k) ∧ fAtI (l + 5) (ni k) M = ni (cap A (msk A k)) ∧ fAtI (l + 7) (ni k) M = ni (ps A (msk A k)) ∧ fAtI (l + 9) (ni k) M = ni (lvol A k) ∧ fAtI (l + 11) (ni k) M = ni (bct A (msk A k)) ∧ (fst A k ≠ snd A k → fAtI (l + 13) (ni k) M = ni (fa A k) ∧ fAtI (l + 15) (ni k) M = ni (sa A k))
def RLs (l : Nat) (M : Mem) (A : Ab) : Prop :=
  (∀ k, 0 ≤ k → k < 71 → fAtL (l + 1) (ni k) M = msk A k) ∧
  (∀ k, 0 ≤ k → k < 71 → msk A k ≠ 0 → RLk l M A k) ∧
  (∀ c, 0 ≤ c → c < 36 → fAtI (l + 17) (ni c) M = ni (lk A c))
theorem RLs_fr {l : Nat} {M M' : Mem} {A : Ab} {P : Nat → Prop} (h : RLs l M A) (f : Fr P M M') (h1 : ¬ P (l + 1 + 1)) (h3 : ¬ P (l + 3 + 1)) (h5 : ¬ P (l + 5 + 1)) (h7 : ¬ P (l + 7 + 1)) (h9 : ¬ P (l + 9 + 1)) (h11 : ¬ P (l + 11 + 1)) (h13 : ¬ P (l + 13 + 1)) (h15 : ¬ P (l + 15 + 1)) (h17 : ¬ P (l + 17 + 1)) : RLs l M' A := by
  unfold RLs RLk at *
  simp only [f.atL h1, f.at h3, f.at h5, f.at h7, f.at h9, f.at h11, f.at h13, f.at h15, f.at h17]
  exact h
theorem c_isLow {l : Nat} {M : Mem} {A : Ab} (h : RLs l M A) (b : WFb A) {c : Int} (h0 : 0 ≤ c) (h1 : c < 36) : LK_isLowestOfLake l (ni c) M = bI (low A c = true) := by
  unfold LK_isLowestOfLake
  rw [h.2.2 c h0 h1]
  rcases lk_rg b c with e | ⟨r0, r1, r2, r3, r4⟩
  · rw [e, if_pos (show ni (-1) = (-1 : Int32) from rfl), bI_f]
    unfold low; rw [e]; simp
  · have hlo := lo_ge (x := msk A (lk A c))
    rw [h.1 _ r0 r1, LL_lowestIn_eq]
    simp (disch := omega) only [show (1 : Int32) = ni 1 from rfl, ni_neg, ni_eq]
    rw [if_neg (by omega)]
    by_cases q : lo (msk A (lk A c)) = c
    · rw [if_neg (by simp [q]), bI_t (low_iff.mpr ⟨by omega, q⟩)]; rfl
    · rw [if_pos q, bI_f (fun z => q (low_iff.mp z).2)]
theorem c_isFull {l : Nat} {M : Mem} {A : Ab} (h : RLs l M A) (g : WFg A) (b : WFb A) {k : Int} (h0 : 0 ≤ k) (h1 : k < 71) (hz : msk A k ≠ 0) : LK_isFull l (ni k) M = bI (vol A k = cap A (msk A k)) := by
  obtain ⟨q1, q2, q3, q4⟩ := h.2.1 k h0 h1 hz
  have hcb := cap_bd g (msk A k)
  have hps := cap_ps g (msk A k)
  have hpr := ps_rg g (msk A k)
  have hn := nn_bd g
  have hv := (b.1 k h0 (by omega)).2.2.2
  unfold LK_isFull
  rw [q1, q2, q3]
  simp (disch := omega) only [show (1 : Int32) = ni 1 from rfl, ni_neg, ni_eq]
  by_cases e : ps A (msk A k) = -1
  · rw [if_pos e, bI_f (by omega)]
  · rw [if_neg e]
    by_cases q : vol A k = cap A (msk A k)
    · rw [if_neg (by simp [q]), bI_t q]; rfl
    · rw [if_pos q, bI_f q]
theorem c_total {l : Nat} {M : Mem} {A : Ab} (h : RLs l M A) (b : WFb A) : LK_total l M = some (ni (lown A 36)) := by
  have key : lpR (fun s => LK_total_L4 l s.1 s.2 M) FUEL ((0 : Int32), (0 : Int32)) = some (ni (lown A 36)) := by
    refine lpR_to (fun c => (ni (lown A c), ni (c : Int))) _ 36 (by omega) ?_ ?_ rfl
    · intro c hc
      have hl := lown_le A c
      have hl0 := lown_nonneg A c
      unfold LK_total_L4
      dsimp only
      rw [c_isLow h b (by omega) (by omega)]
      simp (disch := omega) only [show (36 : Int32) = ni 36 from rfl, ni_le, bI_z]
      rw [if_neg (by omega)]
      refine congrArg some (congrArg Sum.inl (Prod.ext ?_ (ni_s _)))
      dsimp only
      rw [lown_succ]
      cases low A c with
      | false => simp
      | true => simp; rw [show (1 : Int32) = ni 1 from rfl, ni_add]
    · unfold LK_total_L4
      dsimp only
      rw [if_pos (by decide)]
  unfold LK_total
  rw [key, b1_s]
theorem c_numberAt {l : Nat} {M : Mem} {A : Ab} (h : RLs l M A) (b : WFb A) (g : WFg A) {c : Int} (h0 : 0 ≤ c) (h1 : c < 36) : LK_numberAt l (ni c) M = some (ni (if lk A c = -1 then -1 else lown A (lo (msk A (lk A c))).toNat)) := by
  have hn := nn_bd g
  unfold LK_numberAt
  rw [h.2.2 c h0 h1]
  rcases lk_rg b c with e | ⟨r0, r1, r2, r3, r4⟩
  · rw [e, if_neg (by simp; rfl), if_pos rfl]; rfl
  · obtain ⟨l1, l2, l3, l4⟩ := low_of g b r0 (by omega) r2
    rw [h.1 _ r0 r1, LL_lowestIn_eq]
    simp (disch := omega) only [show (-1 : Int32) = ni (-1) from rfl, ni_eq]
    rw [if_pos (by omega), if_neg (by omega)]
    generalize hd : lo (msk A (lk A c)) = d at *
    have key : lpR (fun s => LK_numberAt_L34 l (ni d) s.1 s.2 M) FUEL ((0 : Int32), (0 : Int32)) = some (ni (lown A d.toNat)) := by
      refine lpR_to (fun i => (ni (lown A i), ni (i : Int))) _ d.toNat (by omega) ?_ ?_ rfl
      · intro i hi
        unfold LK_numberAt_L34
        dsimp only
        rw [c_isLow h b (by omega) (by omega)]
        simp (disch := omega) only [ni_le, bI_z]
        rw [if_neg (by omega)]
        refine congrArg some (congrArg Sum.inl (Prod.ext ?_ (ni_s _)))
        dsimp only
        rw [lown_succ]
        cases low A i with
        | false => simp
        | true => simp; rw [show (1 : Int32) = ni 1 from rfl, ni_add]
      · unfold LK_numberAt_L34
        dsimp only
        simp (disch := omega) only [ni_le]
        rw [if_pos (by omega)]
    rw [key, b1_s]
theorem ni_wrap (x : Int) : ni (x + 4294967296) = ni x := by
  rw [← ni_add, show ni 4294967296 = 0 from rfl]; simp
theorem ni_z {x : Int} (h1 : -4294967296 < x) (h2 : x < 2147483648) : (ni x = 0) = (x = 0) := by
  by_cases h : -2147483648 ≤ x
  · rw [show (0 : Int32) = ni 0 from rfl, ni_eq h h2 (by omega) (by omega)]
  · rw [← ni_wrap, show (0 : Int32) = ni 0 from rfl, ni_eq (by omega) (by omega) (by omega) (by omega)]
    apply propext; omega
theorem c_placeOf {l : Nat} {M : Mem} {A : Ab} (h : RLs l M A) (b : WFb A) {n : Int} (h0 : -2147483648 ≤ n) (h1 : n < 2147483648) : LK_placeOf l (ni n) M = some (ni (pof A n)) := by
  have key : ∃ r, lpR (fun s => LK_placeOf_L4 l s.1 s.2 M) FUEL (ni n, (0 : Int32)) = some r ∧ (r.elim (fun _ => some (-1 : Int32)) (fun r8 => some r8)) = some (ni (pof A n)) := by
    by_cases hin : 0 ≤ n ∧ n < lown A 36
    · obtain ⟨c, c1, c2, c3, c4, -⟩ := pof_in b hin.1 hin.2
      have hlk := (lk_rg b c)
      refine ⟨.inr (ni (lk A c)), ?_, by rw [c4]; rfl⟩
      refine lpR_to (fun i => (ni (n - lown A i), ni (i : Int))) _ c (by omega) ?_ ?_ ?_
      · intro i hi
        have hm := lown_mono A (show i + 1 ≤ c by omega)
        have hl0 := lown_nonneg A i
        rw [lown_succ] at hm
        unfold LK_placeOf_L4
        dsimp only
        rw [c_isLow h b (by omega) (by omega)]
        simp (disch := omega) only [show (36 : Int32) = ni 36 from rfl, ni_le, bI_z]
        rw [if_neg (by omega)]
        cases q : low A i with
        | false =>
          rw [if_pos (by simp), lown_succ, q]
          simp [show (1 : Int32) = ni 1 from rfl, ni_add]
        | true =>
          rw [q, if_pos rfl] at hm
          rw [if_neg (by simp), lown_succ, q, if_pos rfl]
          simp (disch := omega) only [ni_z]
          rw [if_pos (by omega), show (-1 : Int32) = ni (-1) from rfl, ni_add, show (1 : Int32) = ni 1 from rfl, ni_add, show n - lown A i + -1 = n - (lown A i + 1) by omega]
          rfl
      · unfold LK_placeOf_L4
        dsimp only
        rw [c_isLow h b (by omega) (by omega), h.2.2 _ (by omega) (by omega)]
        simp (disch := omega) only [show (36 : Int32) = ni 36 from rfl, ni_le, bI_z]
        rw [if_neg (by omega), if_neg (by simp [c2]), if_neg (by rw [c3]; simp [show ni 0 = 0 from rfl])]
      · rw [show lown A 0 = 0 from rfl]; simp; rfl
    · rw [pof_out (by omega)]
      refine ⟨.inl (), ?_, rfl⟩
      refine lpR_to (fun i => (ni (n - lown A i), ni (i : Int))) _ 36 (by omega) ?_ ?_ ?_
      · intro i hi
        have hm := lown_mono A (show i + 1 ≤ 36 by omega)
        have hl0 := lown_nonneg A i
        have hl1 := lown_le A i
        rw [lown_succ] at hm
        unfold LK_placeOf_L4
        dsimp only
        rw [c_isLow h b (by omega) (by omega)]
        simp (disch := omega) only [show (36 : Int32) = ni 36 from rfl, ni_le, bI_z]
        rw [if_neg (by omega)]
        cases q : low A i with
        | false =>
          rw [if_pos (by simp), lown_succ, q]
          simp [show (1 : Int32) = ni 1 from rfl, ni_add]
        | true =>
          rw [q, if_pos rfl] at hm
          rw [if_neg (by simp), lown_succ, q, if_pos rfl]
          simp (disch := omega) only [ni_z]
          rw [if_pos (by omega), show (-1 : Int32) = ni (-1) from rfl, ni_add, show (1 : Int32) = ni 1 from rfl, ni_add, show n - lown A i + -1 = n - (lown A i + 1) by omega]
          rfl
      · unfold LK_placeOf_L4
        dsimp only
        rw [if_pos (by decide)]
      · rw [show lown A 0 = 0 from rfl]; simp; rfl
  obtain ⟨r, k1, k2⟩ := key
  unfold LK_placeOf
  rw [k1, b1_s]
  exact k2
theorem c_water {l : Nat} {M : Mem} {A : Ab} (h : RLs l M A) (b : WFb A) (g : WFg A) : LK_water l M = some (ni (wat A)) := by
  have hs : ∀ n, sm n (fun c => if low A c = true then vol A (lk A c) else 0) = sm n (fun c => if low A c = true then vol A (lk A c) else 0) := fun _ => rfl
  have key : lpR (fun s => LK_water_L4 l s.1 s.2 M) FUEL ((0 : Int32), (0 : Int32)) = some (ni (wat A)) := by
    unfold wat
    rw [← lakes_sum g b]
    refine lpR_to (fun c => (ni (sm c (fun c => if low A c = true then vol A (lk A c) else 0)), ni (c : Int))) _ 36 (by omega) ?_ ?_ rfl
    · intro c hc
      unfold LK_water_L4
      dsimp only
      rw [c_isLow h b (by omega) (by omega), h.2.2 _ (by omega) (by omega)]
      simp (disch := omega) only [show (36 : Int32) = ni 36 from rfl, ni_le, bI_z]
      rw [if_neg (by omega)]
      refine congrArg some (congrArg Sum.inl (Prod.ext ?_ (ni_s _)))
      simp only [sm]
      cases q : low A c with
      | false => simp
      | true =>
        have ⟨l1, l2⟩ := low_iff.mp q
        rcases lk_rg b c with e | ⟨r0, r1, r2, r3, r4⟩
        · exact absurd e l1
        · rw [(h.2.1 _ r0 r1 r4).1]
          simp [ni_add]
    · unfold LK_water_L4
      dsimp only
      rw [if_pos (by decide)]
  unfold LK_water
  rw [key, b1_s]
def ful (A : Ab) : Int := sm 72 (fun k => if there A k = 1 then (if vol A k = cap A (msk A k) then 1 else 0) else 0)
theorem c_fullTotal {l : Nat} {M : Mem} {A : Ab} (h : RLs l M A) (b : WFb A) (g : WFg A) : LK_fullTotal l M = some (ni (ful A)) := by
  have key : lpR (fun s => LK_fullTotal_L4 l s.1 s.2 M) FUEL ((0 : Int32), (0 : Int32)) = some (ni (ful A)) := by
    unfold ful
    rw [← lakes_sum g b (fun k => if vol A k = cap A (msk A k) then 1 else 0)]
    refine lpR_to (fun c => (ni (sm c (fun c => if low A c = true then (if vol A (lk A c) = cap A (msk A (lk A c)) then 1 else 0) else 0)), ni (c : Int))) _ 36 (by omega) ?_ ?_ rfl
    · intro c hc
      unfold LK_fullTotal_L4
      dsimp only
      rw [c_isLow h b (by omega) (by omega), h.2.2 _ (by omega) (by omega)]
      simp (disch := omega) only [show (36 : Int32) = ni 36 from rfl, ni_le, bI_z]
      rw [if_neg (by omega)]
      refine congrArg some (congrArg Sum.inl (Prod.ext ?_ (ni_s _)))
      simp only [sm]
      cases q : low A c with
      | false => simp
      | true =>
        have ⟨l1, l2⟩ := low_iff.mp q
        rcases lk_rg b c with e | ⟨r0, r1, r2, r3, r4⟩
        · exact absurd e l1
        · rw [c_isFull h g b r0 r1 r4]
          simp only [bI_z]
          by_cases z : vol A (lk A c) = cap A (msk A (lk A c))
          · simp [z, show (1 : Int32) = ni 1 from rfl, ni_add]
          · simp [z]
    · unfold LK_fullTotal_L4
      dsimp only
      rw [if_pos (by decide)]
  unfold LK_fullTotal
  rw [key, b1_s]
theorem e_fulls {M : Mem} {A : Ab} (h : RM M A) (g : WFg A) (b : WFb A) : ∃ M', lpM (fun s M9 => MD_countOf_L88 s.1 s.2 M9) FUEL ((0 : Int32), (0 : Int32)) M = some (ni (ful A), M') ∧ FrP M M' := by
  have key : ∃ r M', lpM (fun s M9 => MD_countOf_L88 s.1 s.2 M9) FUEL ((0 : Int32), (0 : Int32)) M = some (r, M') ∧ (r = ni (ful A) ∧ FrP M M') := by
    refine lpM_to 72 (by omega) (fun k s M' => s = (ni (sm k (fun k => if there A k = 1 then (if vol A k = cap A (msk A k) then 1 else 0) else 0)), ni (k : Int)) ∧ FrP M M') _ ?_ ?_ ⟨rfl, FrP.rfl'⟩
    · rintro k hk s M1 ⟨rfl, hF⟩
      have hR := hF.RM h
      have ht := (b.1 k (by omega) (by omega))
      obtain ⟨M2, c1, p1⟩ := e_isFull hR g (k := (k : Int)) (by omega) (by omega) (by omega)
      unfold MD_countOf_L88
      dsimp only
      simp (disch := omega) only [show (72 : Int32) = ni 72 from rfl, show (1 : Int32) = ni 1 from rfl, show (0 : Int32) = ni 0 from rfl, show (440 : Int32) = ni 440 from rfl, show (1 : Int64) = nl 1 from rfl, ni_le, ni_add, ni_inb, ni_nat, show (440 + (k : Int)).toNat = 440 + (k : Int).toNat by omega, RM_thr hR, nl_eq]
      rw [if_neg (by omega), ck_d (by omega)]
      by_cases q : there A (k : Int) = 1
      · rw [if_neg (by omega), c1, b2_s]
        refine ⟨_, M2, rfl, ?_, hF.trans p1.1⟩
        refine Prod.ext ?_ rfl
        simp only [sm]
        rw [if_pos q]
        simp only [← show (0 : Int32) = ni 0 from rfl, bI_z]
        by_cases z : vol A (k : Int) = cap A (msk A (k : Int))
        · simp [z, ni_add]
        · simp [z]
      · rw [if_pos q]
        refine ⟨_, M1, rfl, ?_, hF⟩
        refine Prod.ext ?_ rfl
        simp only [sm]
        rw [if_neg q]
    · rintro s M1 ⟨rfl, hF⟩
      refine ⟨_, M1, ?_, rfl, hF⟩
      unfold MD_countOf_L88
      dsimp only
      rw [if_pos (by decide)]
      rfl
  obtain ⟨r, M', e, rfl, hF⟩ := key
  exact ⟨M', e, hF⟩
