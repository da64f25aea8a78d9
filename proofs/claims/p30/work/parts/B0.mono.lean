/-! B0.mono: what pouring keeps: which cells have a lake, and that levels don't fall -/
/-- q times what a lake of the cells m holds when its level is p / q -/
def GQ (A : Ab) (m : Int64) (p q : Int) : Int := sm (nn A).toNat (fun c => if hs m c = true ∧ q * ht A c < p then p - q * ht A c else 0)
def MO (A B : Ab) : Prop := ∀ c p q : Int, 0 ≤ c → c < nn A → 0 < q → q * ht A c < p → lk A c ≠ -1 → GQ A (msk A (lk A c)) p q ≤ q * vol A (lk A c) → lk B c ≠ -1 ∧ GQ B (msk B (lk B c)) p q ≤ q * vol B (lk B c)
def RS (A B : Ab) : Prop := GE A B ∧ (∀ c, lk A c = -1 ↔ lk B c = -1) ∧ MO A B
theorem gq_ge {A B : Ab} (h : GE A B) (m : Int64) (p q : Int) : GQ A m p q = GQ B m p q := by
  unfold GQ
  rw [h.nn]
  refine sm_congr (fun i _ => ?_)
  rw [show ht A (i : Int) = ht B i from h.ht i]
theorem RS.refl (A : Ab) : RS A A := ⟨GE.refl A, fun _ => Iff.rfl, fun c p q _ _ _ _ h1 h2 => ⟨h1, h2⟩⟩
theorem RS.trans {A B C : Ab} (h : RS A B) (k : RS B C) : RS A C := by
  refine ⟨h.1.trans k.1, fun c => (h.2.1 c).trans (k.2.1 c), fun c p q c0 c1 q0 hc h1 h2 => ?_⟩
  obtain ⟨g1, g2⟩ := h.2.2 c p q c0 c1 q0 hc h1 h2
  refine k.2.2 c p q c0 (by rw [← h.1.nn]; exact c1) q0 ?_ g1 g2
  rw [show ht B c = ht A c from (h.1.ht c).symm]; exact hc
/-- the same lakes, none with less -/
theorem RS_of {A B : Ab} (ge : GE A B) (hl : ∀ c, lk B c = lk A c) (hm : ∀ k, msk B k = msk A k) (hv : ∀ k, vol A k ≤ vol B k) : RS A B := by
  refine ⟨ge, fun c => by rw [hl], fun c p q c0 c1 q0 hc h1 h2 => ⟨by rw [hl]; exact h1, ?_⟩⟩
  rw [← gq_ge ge, hl, hm]
  have := Int.mul_le_mul_of_nonneg_left (hv (lk A c)) (Int.le_of_lt q0)
  omega
theorem RS_fil {A : Ab} {k x : Int} (h : 0 ≤ adm A k x) : RS A (fil A k x) := by
  refine RS_of (fil_ge A k x) (fun c => fil_lk A k x c) (fun j => fil_msk A k x j) (fun j => ?_)
  rw [fil_vol]
  split
  · rename_i e; rw [e]; omega
  · exact Int.le_refl _
theorem gq_or {A : Ab} {a b : Int64} {p q : Int} : GQ A (a ||| b) p q ≤ GQ A a p q + GQ A b p q := by
  unfold GQ
  rw [← sm_add]
  refine sm_le (fun i _ => ?_)
  rw [hs_or]
  cases hs a i <;> cases hs b i <;> simp <;> split <;> omega
theorem gq_le {A : Ab} {m : Int64} {p q T : Int} (q0 : 0 < q) (hp : p ≤ q * T) : GQ A m p q ≤ q * nd A m T := by
  have e : q * nd A m T = sm (nn A).toNat (fun c => q * room A m T c) := by
    unfold nd
    generalize (nn A).toNat = n
    induction n with
    | zero => simp [sm]
    | succ n ih => simp only [sm]; rw [Int.mul_add, ih]
  rw [e]
  unfold GQ
  refine sm_le (fun i _ => ?_)
  unfold room
  by_cases h1 : hs m i = true ∧ q * ht A i < p
  · rw [if_pos h1]
    have h2 : ht A i < T := by
      by_cases z : ht A i < T
      · exact z
      · have := Int.mul_le_mul_of_nonneg_left (Int.not_lt.mp z) (Int.le_of_lt q0)
        omega
    rw [if_pos ⟨h1.1, h2⟩, Int.mul_sub]
    omega
  · rw [if_neg h1]
    split
    · rename_i z
      have := Int.mul_pos q0 (show 0 < T - ht A i by omega)
      omega
    · omega
theorem gq_lt {A : Ab} {m : Int64} {p q T : Int} (q0 : 0 < q) (hp : q * T < p) {c : Int} (c0 : 0 ≤ c) (c1 : c < nn A) (hc : hs m c = true) (hq : q * ht A c < p) : q * nd A m T < GQ A m p q := by
  have e : q * nd A m T = sm (nn A).toNat (fun c => q * room A m T c) := by
    unfold nd
    generalize (nn A).toNat = n
    induction n with
    | zero => simp [sm]
    | succ n ih => simp only [sm]; rw [Int.mul_add, ih]
  rw [e]
  unfold GQ
  have one : ∀ i : Int, q * room A m T i ≤ (if hs m i = true ∧ q * ht A i < p then p - q * ht A i else 0) := by
    intro i
    unfold room
    by_cases h1 : hs m i = true ∧ ht A i < T
    · have h2 : q * ht A i < q * T := Int.mul_lt_mul_of_pos_left h1.2 q0
      rw [if_pos h1, if_pos ⟨h1.1, by omega⟩, Int.mul_sub]
      omega
    · rw [if_neg h1]
      split <;> omega
  obtain ⟨n, rfl⟩ : ∃ n : Nat, c = n := ⟨c.toNat, by omega⟩
  refine sm_lt (k := n) (fun i _ => one i) (by omega) ?_
  rw [if_pos ⟨hc, hq⟩]
  unfold room
  by_cases h1 : hs m (n : Int) = true ∧ ht A n < T
  · rw [if_pos h1, Int.mul_sub]; omega
  · rw [if_neg h1]; omega
theorem cap_nd {A : Ab} {m : Int64} (h : ps A m ≠ -1) : cap A m = nd A m (pth A (ps A m)) := by
  unfold cap nd pth
  rw [if_neg h, if_neg h]
/-- two full lakes of one threshold become one -/
theorem RS_jn {A : Ab} (hW : WF A) {m x y : Int} (o : JOk A m x y) (vx : vol A x = cap A (msk A x)) (vy : vol A y = cap A (msk A y)) : RS A (jn A m x y) := by
  have lkx : ∀ c, hs (msk A x) c = true → lk A c = x := fun c h => lk_eq hW.2.1 o.2.1.1 o.2.1.2 o.2.2.2.2.2.1 h
  have lky : ∀ c, hs (msk A y) c = true → lk A c = y := fun c h => lk_eq hW.2.1 o.2.2.1.1 o.2.2.1.2 o.2.2.2.2.2.2.1 h
  have ge := jn_ge A m x y
  refine ⟨ge, fun c => ?_, fun c p q c0 c1 q0 hc h1 h2 => ?_⟩
  · rw [jn_lk hW o c, hs_or]
    have hm := o.1
    by_cases z : (hs (msk A x) c || hs (msk A y) c) = true
    · rw [if_pos z]
      rw [Bool.or_eq_true] at z
      constructor
      · intro e
        rcases z with z | z
        · have := lkx c z; have := o.2.1; omega
        · have := lky c z; have := o.2.2.1; omega
      · intro e; omega
    · rw [if_neg z]
  · have T := o.2.2.2.2.2.2.2.2.2
    rw [jn_lk hW o c, hs_or, ← gq_ge ge]
    have key : ∀ u w : Int, lk A c = u → hs (msk A u) c = true → vol A u = q * 0 + nd A (msk A u) (pth A (ps A (msk A x))) → vol A w = nd A (msk A w) (pth A (ps A (msk A x))) → GQ A (msk A u) p q + GQ A (msk A w) p q ≤ q * (vol A u + vol A w) := by
      intro u w e1 e2 e3 e4
      rw [e1] at h2
      have hp : p ≤ q * pth A (ps A (msk A x)) := by
        by_cases z : p ≤ q * pth A (ps A (msk A x))
        · exact z
        · have := gq_lt (A := A) (m := msk A u) q0 (Int.not_le.mp z) c0 c1 e2 hc
          rw [e3] at h2
          have e5 : q * (q * 0 + nd A (msk A u) (pth A (ps A (msk A x)))) = q * nd A (msk A u) (pth A (ps A (msk A x))) := by rw [Int.mul_zero, Int.zero_add]
          omega
      have g2 := gq_le (A := A) (m := msk A w) q0 hp
      rw [Int.mul_add, e4]
      omega
    have ex : vol A x = q * 0 + nd A (msk A x) (pth A (ps A (msk A x))) := by rw [vx, cap_nd o.2.2.2.2.2.2.2.1]; omega
    have ey : vol A y = nd A (msk A y) (pth A (ps A (msk A x))) := by rw [vy, cap_nd o.2.2.2.2.2.2.2.2.1, ← T]
    by_cases z : (hs (msk A x) c || hs (msk A y) c) = true
    · rw [if_pos z]
      have hm := o.1
      refine ⟨by omega, ?_⟩
      rw [jn_msk, if_pos rfl, jn_vol, if_pos rfl]
      refine Int.le_trans gq_or ?_
      rw [Bool.or_eq_true] at z
      rcases z with z | z
      · exact key x y (lkx c z) z ex ey
      · have := key y x (lky c z) z (by rw [ey]; omega) (by rw [ex]; omega)
        rw [Int.add_comm (vol A x), Int.add_comm (GQ A (msk A x) p q)]
        exact this
    · rw [if_neg z]
      refine ⟨h1, ?_⟩
      have hne : lk A c ≠ m := by
        intro e
        rcases lk_rg hW.2.1 c with h | h
        · exact h1 h
        · have := h.2.2.2.2
          rw [e] at this
          exact this o.2.2.2.1
      rw [jn_msk, if_neg hne, jn_vol, if_neg hne]
      exact h2
theorem RS_pr : ∀ n : Nat, ∀ A k x, WF A → PK A k → 0 ≤ x → wat A + x ≤ 1200000 → (k = -1 ∨ mu A k < n) → 0 < n → RS A (pr n A k x).1 := by
  intro n
  induction n with
  | zero => intro A k x _ _ _ _ _ h; omega
  | succ n ih =>
    intro A k x hW hk hx hwt hmu _
    simp only [pr]
    by_cases e0 : x ≤ 0
    · rw [if_pos e0]; exact RS.refl A
    · rw [if_neg e0]
      by_cases e1 : k = -1
      · rw [if_pos e1]; exact RS.refl A
      · rw [if_neg e1]
        have hk' := hk.resolve_left e1
        obtain ⟨c1, c2, c3, c4⟩ := pr_cases hW hk'.1.1 (by omega) hk'.2 (by omega) hwt
        obtain ⟨a1, a2, a3, a4⟩ := adm_bd hW hk'.1.1 (by omega) hk'.2 hx
        have rf : RS A (fil A k x) := RS_fil a1
        by_cases e2 : x - adm A k x ≤ 0
        · rw [if_pos e2]; exact rf
        · rw [if_neg e2, fil_nxt]
          obtain ⟨d1, d2⟩ := c4 (by omega)
          by_cases e3 : nxt A k = -1
          · rw [if_pos e3]; exact rf
          · rw [if_neg e3]
            obtain ⟨o0, o1, o2, o3, o4⟩ := d2.resolve_left e3
            have hmu' := hmu.resolve_left e1
            have hfu := (a3 (by omega)).2
            rw [fil_vol, if_neg o1]
            by_cases e4 : vol A (nxt A k) = cap A (msk A (nxt A k)) ∧ pth A (ps A (msk A (nxt A k))) = pth A (ps A (msk A k))
            · rw [if_pos e4]
              obtain ⟨j1, j2⟩ := o3 e4
              have hj := jn_WF c1 j1
              have hmb := mu_bd hj.1 (fre (fil A k x))
              have hpk : PK (jn (fil A k x) (fre (fil A k x)) k (nxt A k)) (fre (fil A k x)) := by
                right
                refine ⟨j1.1, ?_⟩
                have tz : ∀ i, there (fil A k x) i = 1 → 0 ≤ i → i < 72 → i ≠ fre (fil A k x) := by
                  intro i t a b z
                  have := c1.2.1.2.2.1 i a b t
                  rw [z] at this
                  exact this j1.2.2.2.1
                rw [jn_there, if_neg, if_neg, if_pos rfl]
                · exact fun z => tz k j1.2.2.2.2.2.1 hk'.1.1 (by omega) z.symm
                · exact fun z => tz _ j1.2.2.2.2.2.2.1 o0.1 (by omega) z.symm
              have hjr : RS (fil A k x) (jn (fil A k x) (fre (fil A k x)) k (nxt A k)) := RS_jn c1 j1 (by rw [fil_vol, if_pos rfl, fil_msk, ← (fil_ge A k x).cap]; exact hfu) (by rw [fil_vol, if_neg o1, fil_msk, ← (fil_ge A k x).cap]; exact e4.1)
              exact rf.trans (hjr.trans (ih _ (fre (fil A k x)) (x - adm A k x) hj.1 hpk (by omega) (by rw [hj.2.1]; omega) (Or.inr (by omega)) (by omega)))
            · rw [if_neg e4]
              have hmb := mu_bd c1 (nxt A k)
              exact rf.trans (ih (fil A k x) (nxt A k) (x - adm A k x) c1 (Or.inr ⟨o0, by rw [fil_there]; exact o2⟩) (by omega) (by omega) (Or.inr (by have := o4 e4; omega)) (by have := o4 e4; omega))
theorem RS_long {A B : Ab} (h1 : B.1 = A.1) (h2 : ∀ j, msk B j = msk A j) (h3 : drn B = drn A) (h4 : pits B = pits A) : RS A B := by
  have hl := (WF_long h1 h2 h3 h4).2.2
  refine RS_of ?_ hl h2 (fun k => by show A.1 4 k ≤ B.1 4 k; rw [h1]; exact Int.le_refl _)
  exact ⟨by show A.1 0 0 = B.1 0 0; rw [h1], by show A.1 0 1 = B.1 0 1; rw [h1], by show A.1 1 = B.1 1; rw [h1], by show A.1 2 = B.1 2; rw [h1], by show A.1 3 = B.1 3; rw [h1], h3.symm⟩
theorem RS_prl {A : Ab} (hW : WF A) {k x : Int} (hk : PK A k) (hx : 0 ≤ x) (hw : wat A + x ≤ 1200000) : RS A (prl prN A k x) := by
  have hm := mu_bd hW k
  have h1 := RS_pr prN A k x hW hk hx hw (by unfold prN; omega) (by decide)
  refine h1.trans (RS_long (prl_1 prN A k x) (prl_msk prN A k x) ?_ ?_)
  · simp [prl, aL, drn]
  · simp [prl, aL, pits]
