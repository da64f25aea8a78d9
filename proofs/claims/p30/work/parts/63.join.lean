/-! 63.join: a lake filled; two lakes joined -/
theorem aI_same (A : Ab) (f : Nat) (k v : Int) : (aI A f k v).1 f k = v := by simp [aI]
theorem GE_vol (A : Ab) (k v : Int) : GE A (aI A 4 k v) := by refine GE_of ?_ ?_ ?_ ?_ ?_ <;> simp [aI]
theorem GE_fst (A : Ab) (k v : Int) : GE A (aI A 5 k v) := by refine GE_of ?_ ?_ ?_ ?_ ?_ <;> simp [aI]
theorem GE_snd (A : Ab) (k v : Int) : GE A (aI A 6 k v) := by refine GE_of ?_ ?_ ?_ ?_ ?_ <;> simp [aI]
theorem GE_there (A : Ab) (k v : Int) : GE A (aI A 7 k v) := by refine GE_of ?_ ?_ ?_ ?_ ?_ <;> simp [aI]
theorem GE_msk (A : Ab) (k : Int) (v : Int64) : GE A (aL A 1 k v) := by refine GE_of ?_ ?_ ?_ ?_ ?_ <;> simp [aL]
theorem sm_one {n : Nat} {f g : Nat → Int} {k : Int} (h0 : 0 ≤ k) (h1 : k < n) (h : ∀ i : Nat, i < n → (i : Int) ≠ k → f i = g i) : sm n f = sm n g + f k.toNat - g k.toNat :=
  sm_set (by omega) (fun i hi hne => h i hi (by omega))
theorem thn_set {A : Ab} {k : Int} (h0 : 0 ≤ k) (h1 : k < 72) (v : Int) : thn (aI A 7 k v) = thn A + (if v = 1 then 1 else 0) - (if there A k = 1 then 1 else 0) := by
  unfold thn
  simp only [ct]
  rw [sm_one (g := fun i => if decide (there A (i : Int) = 1) = true then 1 else 0) h0 h1 (fun i _ hne => by simp [aI, there, hne])]
  simp only [Int.toNat_of_nonneg h0]
  simp [aI, there]
theorem wat_set7 {A : Ab} {k : Int} (h0 : 0 ≤ k) (h1 : k < 72) (v : Int) : wat (aI A 7 k v) = wat A + (if v = 1 then vol A k else 0) - (if there A k = 1 then vol A k else 0) := by
  unfold wat
  rw [sm_one (g := fun i => if there A (i : Int) = 1 then vol A i else 0) h0 h1 (fun i _ hne => by simp [aI, there, vol, hne])]
  simp only [Int.toNat_of_nonneg h0]
  simp [aI, there, vol]
theorem wat_set4 {A : Ab} {k : Int} (h0 : 0 ≤ k) (h1 : k < 72) (v : Int) : wat (aI A 4 k v) = wat A + (if there A k = 1 then v - vol A k else 0) := by
  unfold wat
  rw [sm_one (g := fun i => if there A (i : Int) = 1 then vol A i else 0) h0 h1 (fun i _ hne => by simp [aI, there, vol, hne])]
  simp only [Int.toNat_of_nonneg h0]
  simp [aI, there, vol]
  split <;> omega
theorem wat_mem {A : Ab} (b : WFb A) {k : Int} (h0 : 0 ≤ k) (h1 : k < 72) (h2 : there A k = 1) : vol A k ≤ wat A := by
  have := sm_mem (n := 72) (f := fun i => if there A (i : Int) = 1 then vol A i else 0) (fun i hi => by have := (b.1 i (by omega) (by omega)).2.2.2; split <;> omega) (k := k.toNat) (by omega)
  simp only [Int.toNat_of_nonneg h0] at this
  rw [if_pos h2] at this
  exact this
/-- a lake's water changed -/
theorem fill_WF {A : Ab} (h : WF A) {k : Int} (h0 : 0 ≤ k) (h1 : k < 72) {v : Int} (v0 : 0 ≤ v) (v1 : v ≤ 1200000) (v2 : there A k = 1 → cap A (msk A k) ≠ -1 → v ≤ cap A (msk A k)) : WF (aI A 4 k v) := by
  have ge := GE_vol A k v
  obtain ⟨g, b, f⟩ := h
  have et : ∀ j, there (aI A 4 k v) j = there A j := fun j => by simp [aI, there]
  have ef : ∀ j, fst (aI A 4 k v) j = fst A j := fun j => by simp [aI, fst]
  have es : ∀ j, snd (aI A 4 k v) j = snd A j := fun j => by simp [aI, snd]
  have em : ∀ j, msk (aI A 4 k v) j = msk A j := fun j => by simp [aI, msk]
  have ev : ∀ j, vol (aI A 4 k v) j = if j = k then v else vol A j := fun j => by simp [aI, vol]
  have eb : ∀ m, bct (aI A 4 k v) m = bct A m := fun m => by
    unfold bct fp; rw [← ge.nn]; simp [aI, pits, bas]
  have en : bnn (aI A 4 k v) = bnn A := by simp [aI, bnn]
  refine ⟨ge.WFg g, ⟨fun j a c => ?_, fun j c a d => ?_, fun j a c => ?_, fun j i c => ?_, ?_⟩, ?_, ?_, ?_, ?_, fun j a c => ?_, ?_, ?_⟩
  · rw [et, ef, es, ev]
    have := b.1 j a c
    refine ⟨this.1, this.2.1, this.2.2.1, ?_⟩
    split
    · omega
    · exact this.2.2.2
  · rw [em, ← ge.nn]; exact b.2.1 j c a d
  · rw [et, em]; exact b.2.2.1 j a c
  · rw [et, et, em, em]; exact b.2.2.2.1 j i c
  · rw [em]; exact b.2.2.2.2
  · unfold isJ; simp only [em, ef, es, et, ← ge.cap]; exact f.1
  · unfold isJ; simp only [em, ef, es]; exact f.2.1
  · have e1 : usd (aI A 4 k v) = usd A := by unfold usd; simp only [em]
    have e2 : thn (aI A 4 k v) = thn A := by unfold thn; simp only [et]
    rw [e1, e2, en]; exact f.2.2.1
  · rw [en]; exact f.2.2.2.1
  · rw [et, em, ev, ← ge.cap]
    intro t q
    split
    · rename_i e; subst e; exact v2 t q
    · exact f.2.2.2.2.1 j a c t q
  · unfold isJ; simp only [em, ef, es, eb]; exact f.2.2.2.2.2.1
  · simp only [em, eb]; exact f.2.2.2.2.2.2
/-- two lakes joined at a free place -/
def jn (A : Ab) (m x y : Int) : Ab := aI (aI (aI (aI (aI (aI (aL A 1 m (msk A x ||| msk A y)) 4 m (vol A x + vol A y)) 5 m x) 6 m y) 7 m 1) 7 x 0) 7 y 0
theorem jn_msk (A : Ab) (m x y k : Int) : msk (jn A m x y) k = if k = m then msk A x ||| msk A y else msk A k := by simp [jn, aI, aL, msk]
theorem jn_vol (A : Ab) (m x y k : Int) : vol (jn A m x y) k = if k = m then vol A x + vol A y else vol A k := by simp [jn, aI, aL, vol]
theorem jn_fst (A : Ab) (m x y k : Int) : fst (jn A m x y) k = if k = m then x else fst A k := by simp [jn, aI, aL, fst]
theorem jn_snd (A : Ab) (m x y k : Int) : snd (jn A m x y) k = if k = m then y else snd A k := by simp [jn, aI, aL, snd]
theorem jn_there (A : Ab) (m x y k : Int) : there (jn A m x y) k = if k = y then 0 else if k = x then 0 else if k = m then 1 else there A k := by simp [jn, aI, aL, there]
theorem jn_ge (A : Ab) (m x y : Int) : GE A (jn A m x y) := by refine GE_of ?_ ?_ ?_ ?_ ?_ <;> simp [jn, aI, aL]
theorem jn_bnn (A : Ab) (m x y : Int) : bnn (jn A m x y) = bnn A := by simp [jn, aI, aL, bnn]
theorem jn_bct (A : Ab) (m x y : Int) (s : Int64) : bct (jn A m x y) s = bct A s := by
  unfold bct fp
  rw [← (jn_ge A m x y).nn]
  simp [jn, aI, aL, pits, bas]
def JOk (A : Ab) (m x y : Int) : Prop := (0 ≤ m ∧ m < 71) ∧ (0 ≤ x ∧ x < 72) ∧ (0 ≤ y ∧ y < 72) ∧ msk A m = 0 ∧ x ≠ y ∧ there A x = 1 ∧ there A y = 1 ∧ ps A (msk A x) ≠ -1 ∧ ps A (msk A y) ≠ -1 ∧ pth A (ps A (msk A x)) = pth A (ps A (msk A y))
theorem ps_min {A : Ab} (g : WFg A) {m : Int64} {j : Int} (h0 : 0 ≤ j) (h1 : j < 4 * nn A) (he : eg A m j = true) : ps A m ≠ -1 ∧ th A (ps A m) ≤ th A j := by
  have := psf_min A m (4 * nn A).toNat j.toNat (by omega) (by rw [Int.toNat_of_nonneg h0]; exact he)
  rw [Int.toNat_of_nonneg h0] at this
  exact this
theorem cap_union {A : Ab} (g : WFg A) {a b : Int64} (ha : ps A a ≠ -1) (hb : ps A b ≠ -1) (hp : pth A (ps A a) = pth A (ps A b)) (hd : ∀ c, ¬ (hs a c = true ∧ hs b c = true)) : cap A (a ||| b) = -1 ∨ cap A a + cap A b ≤ cap A (a ||| b) := by
  have hn := nn_bd g
  by_cases q : cap A (a ||| b) = -1
  · left; exact q
  · right
    have hq : ps A (a ||| b) ≠ -1 := fun z => q ((cap_ps g _).mpr z)
    rcases ps_rg g (a ||| b) with z | ⟨p0, p1, p2⟩
    · exact absurd z hq
    · have e := eg_rg p2
      have hpa : pth A (ps A a) = th A (ps A a) := by unfold pth; rw [if_neg ha]
      have hpb : pth A (ps A b) = th A (ps A b) := by unfold pth; rw [if_neg hb]
      have ht' : th A (ps A a) ≤ th A (ps A (a ||| b)) := by
        rw [hs_or, Bool.or_eq_true] at e
        rw [hs_or, Bool.or_eq_false_iff] at e
        rcases e.1 with z | z
        · exact (ps_min g p0 p1 (by unfold eg; rw [z, e.2.2.1]; simp [e.2.1])).2
        · have := (ps_min g p0 p1 (m := b) (by unfold eg; rw [z, e.2.2.2]; simp [e.2.1])).2
          omega
      unfold cap
      rw [if_neg ha, if_neg hb, if_neg hq, ← sm_add]
      have hpab : th A (ps A b) = th A (ps A a) := by omega
      rw [hpab]
      apply sm_le
      intro i _
      unfold room
      have hdi := hd i
      rw [hs_or]
      by_cases z1 : hs a (i : Int) = true
      · have z2 : hs b (i : Int) = false := by
          cases z : hs b (i : Int) with
          | false => rfl
          | true => exact absurd ⟨z1, z⟩ hdi
        simp only [z1, z2, Bool.or_false, true_and, Bool.false_eq_true, false_and, if_false]
        split <;> split <;> omega
      · have z1' : hs a (i : Int) = false := by simpa using z1
        simp only [z1', Bool.false_or, Bool.false_eq_true, false_and, if_false]
        by_cases z2 : hs b (i : Int) = true
        · simp only [z2, true_and]
          split <;> split <;> omega
        · have z2' : hs b (i : Int) = false := by simpa using z2
          simp [z2']
theorem bct_or {A : Ab} {a b : Int64} (hd : ∀ c, ¬ (hs a c = true ∧ hs b c = true)) : bct A (a ||| b) = bct A a + bct A b := by
  unfold bct
  simp only [ct]
  rw [← sm_add]
  apply sm_congr
  intro i _
  simp only [hs_or]
  have hdi := hd i
  by_cases z1 : hs a (i : Int) = true
  · have z2 : hs b (i : Int) = false := by
      cases z : hs b (i : Int) with
      | false => rfl
      | true => exact absurd ⟨z1, z⟩ hdi
    simp [z1, z2]
  · simp [z1]
theorem jn_WF {A : Ab} (h : WF A) {m x y : Int} (o : JOk A m x y) : WF (jn A m x y) ∧ wat (jn A m x y) = wat A ∧ thn (jn A m x y) = thn A - 1 := by
  have ge := jn_ge A m x y
  obtain ⟨g, b, f⟩ := h
  obtain ⟨⟨m0, m1⟩, ⟨x0, x1⟩, ⟨y0, y1⟩, hm, hxy, tx, ty, px, py, pxy⟩ := o
  have mx := b.2.2.1 x x0 x1 tx
  have my := b.2.2.1 y y0 y1 ty
  have hmx : x ≠ m := fun e => mx (by rw [e]; exact hm)
  have hmy : y ≠ m := fun e => my (by rw [e]; exact hm)
  have tm : there A m = 0 := by
    rcases (b.1 m m0 (by omega)).1 with z | z
    · exact z
    · exact absurd hm (b.2.2.1 m m0 (by omega) z)
  have hd : ∀ c, ¬ (hs (msk A x) c = true ∧ hs (msk A y) c = true) := fun c z => hxy (b.2.2.2.1 x y c x0 x1 y0 y1 tx ty z.1 z.2)
  have cx : cap A (msk A x) ≠ -1 := fun z => px ((cap_ps g _).mp z)
  have cy : cap A (msk A y) ≠ -1 := fun z => py ((cap_ps g _).mp z)
  have vx := f.2.2.2.2.1 x x0 x1 tx cx
  have vy := f.2.2.2.2.1 y y0 y1 ty cy
  have bx := cap_bd g (msk A x)
  have by' := cap_bd g (msk A y)
  have hor : msk A x ||| msk A y ≠ 0 := by
    have := (lo_spec mx).2.1
    exact ne_zero (c := lo (msk A x)) (by rw [hs_or, this]; rfl)
  have ht : thn (jn A m x y) = thn A - 1 := by
    unfold jn
    rw [thn_set y0 y1, thn_set x0 x1, thn_set m0 (by omega)]
    have e0 : thn (aI (aI (aI (aL A 1 m (msk A x ||| msk A y)) 4 m (vol A x + vol A y)) 5 m x) 6 m y) = thn A := by unfold thn; simp [aI, aL, there]
    rw [e0]
    simp [aI, aL, there, hmx, hmy, hxy, Ne.symm hxy]
    simp only [there] at tx ty tm
    simp [tx, ty, tm]
  have hu : usd (jn A m x y) = usd A + 1 := by
    unfold usd
    simp only [ct]
    rw [sm_one (g := fun i => if (!decide (msk A (i : Int) = 0)) = true then 1 else 0) m0 (show m < 72 by omega) (fun i _ hne => by simp only [jn_msk, if_neg hne])]
    simp only [Int.toNat_of_nonneg m0]
    simp [jn_msk, hm, hor]
  refine ⟨⟨ge.WFg g, ⟨fun k a c => ?_, fun k c a d => ?_, fun k a c => ?_, fun k j c a1 a2 a3 a4 => ?_, ?_⟩, fun k a c hj => ?_, fun k j a c d e hk hj hne => ?_, ?_, ?_, fun k a c => ?_, fun k a c hj => ?_, fun k a c => ?_⟩, ?_, ht⟩
  · rw [jn_there, jn_fst, jn_snd, jn_vol]
    have := b.1 k a c
    have hvx := (b.1 x x0 x1).2.2.2
    have hvy := (b.1 y y0 y1).2.2.2
    refine ⟨?_, ?_, ?_, ?_⟩
    · split
      · omega
      · split
        · omega
        · split
          · omega
          · exact this.1
    · split <;> omega
    · split <;> omega
    · split <;> omega
  · rw [jn_msk, ← ge.nn]
    split
    · rw [hs_or, Bool.or_eq_true]
      rintro (z | z)
      · exact b.2.1 x c x0 x1 z
      · exact b.2.1 y c y0 y1 z
    · exact b.2.1 k c a d
  · rw [jn_there, jn_msk]
    intro t
    split
    · exact hor
    · rename_i q
      by_cases e1 : k = y
      · rw [if_pos e1] at t; omega
      · by_cases e2 : k = x
        · rw [if_neg e1, if_pos e2] at t; omega
        · rw [if_neg e1, if_neg e2, if_neg q] at t
          exact b.2.2.1 k a c t
  · rw [jn_there, jn_there, jn_msk, jn_msk]
    intro t1 t2 q1 q2
    have key : ∀ i, 0 ≤ i → i < 72 → (if i = y then (0 : Int) else if i = x then 0 else if i = m then 1 else there A i) = 1 → i = m ∨ (i ≠ x ∧ i ≠ y ∧ i ≠ m ∧ there A i = 1) := by
      intro i _ _ ti
      by_cases e1 : i = y
      · rw [if_pos e1] at ti; omega
      · by_cases e2 : i = x
        · rw [if_neg e1, if_pos e2] at ti; omega
        · by_cases e3 : i = m
          · left; exact e3
          · rw [if_neg e1, if_neg e2, if_neg e3] at ti
            right; exact ⟨e2, e1, e3, ti⟩
    rcases key k a1 a2 t1 with e | ⟨e1, e2, e3, e4⟩
    · rcases key j a3 a4 t2 with e' | ⟨e1', e2', e3', e4'⟩
      · omega
      · exfalso
        rw [if_pos e, hs_or, Bool.or_eq_true] at q1
        rw [if_neg e3'] at q2
        rcases q1 with z | z
        · exact e1' (b.2.2.2.1 j x c a3 a4 x0 x1 e4' tx q2 z)
        · exact e2' (b.2.2.2.1 j y c a3 a4 y0 y1 e4' ty q2 z)
    · rw [if_neg e3] at q1
      rcases key j a3 a4 t2 with e' | ⟨e1', e2', e3', e4'⟩
      · exfalso
        rw [if_pos e', hs_or, Bool.or_eq_true] at q2
        rcases q2 with z | z
        · exact e1 (b.2.2.2.1 k x c a1 a2 x0 x1 e4 tx q1 z)
        · exact e2 (b.2.2.2.1 k y c a1 a2 y0 y1 e4 ty q1 z)
      · rw [if_neg e3'] at q2
        exact b.2.2.2.1 k j c a1 a2 a3 a4 e4 e4' q1 q2
  · rw [jn_msk, if_neg (by omega)]; exact b.2.2.2.2
  · by_cases e : k = m
    · subst e
      rw [jn_fst, jn_snd, if_pos rfl, if_pos rfl]
      simp only [jn_msk, jn_there, if_pos rfl, if_neg hmx, if_neg hmy]
      refine ⟨mx, my, ?_, ?_, hmx, hmy, fun c => hs_or _ _ _, hd, ?_, ?_⟩
      · rw [if_neg hxy]; simp
      · simp
      · rw [← ge.cap]; exact cx
      · rw [← ge.cap]; exact cy
    · have hj' : isJ A k := by
        unfold isJ at hj ⊢
        rw [jn_msk, jn_fst, jn_snd, if_neg e, if_neg e, if_neg e] at hj
        exact hj
      obtain ⟨q1, q2, q3, q4, q5, q6, q7, q8, q9, q10⟩ := f.1 k a c hj'
      have n1 : fst A k ≠ m := fun z => q1 (by rw [z]; exact hm)
      have n2 : snd A k ≠ m := fun z => q2 (by rw [z]; exact hm)
      rw [jn_fst, jn_snd, if_neg e, if_neg e]
      simp only [jn_msk, jn_there, if_neg n1, if_neg n2, if_neg e, ← ge.cap]
      refine ⟨q1, q2, ?_, ?_, q5, q6, q7, q8, q9, q10⟩
      · split
        · rfl
        · split
          · rfl
          · exact q3
      · split
        · rfl
        · split
          · rfl
          · exact q4
  · have old : ∀ i, i ≠ m → isJ (jn A m x y) i → isJ A i := by
      intro i hi z
      unfold isJ at z ⊢
      rw [jn_msk, jn_fst, jn_snd, if_neg hi, if_neg hi, if_neg hi] at z
      exact z
    simp only [jn_fst, jn_snd]
    have nx : ∀ i, 0 ≤ i → i < 72 → isJ A i → fst A i ≠ x ∧ fst A i ≠ y ∧ snd A i ≠ x ∧ snd A i ≠ y := by
      intro i i0 i1 z
      have q := f.1 i i0 i1 z
      refine ⟨fun w => ?_, fun w => ?_, fun w => ?_, fun w => ?_⟩
      · rw [w] at q; omega
      · rw [w] at q; omega
      · rw [w] at q; omega
      · rw [w] at q; omega
    by_cases e1 : k = m
    · have e2 : j ≠ m := fun z => hne (by omega)
      rw [if_pos e1, if_pos e1, if_neg e2, if_neg e2]
      have := nx j d e (old j e2 hj)
      exact ⟨this.1.symm, this.2.2.1.symm, this.2.2.2.symm⟩
    · rw [if_neg e1, if_neg e1]
      have hk' := old k e1 hk
      by_cases e2 : j = m
      · rw [if_pos e2, if_pos e2]
        have := nx k a c hk'
        exact ⟨this.1, this.2.1, this.2.2.2⟩
      · rw [if_neg e2, if_neg e2]
        exact f.2.1 k j a c d e hk' (old j e2 hj) hne
  · rw [hu, ht, jn_bnn]
    have := f.2.2.1
    omega
  · rw [jn_bnn]; exact f.2.2.2.1
  · rw [jn_there, jn_msk, jn_vol, ← ge.cap]
    intro t q
    by_cases e : k = m
    · rw [if_pos e] at q ⊢
      rw [if_pos e]
      rcases cap_union g px py pxy hd with z | z
      · exact absurd z q
      · omega
    · rw [if_neg e] at q ⊢
      rw [if_neg e]
      by_cases e1 : k = y
      · rw [if_pos e1] at t; omega
      · by_cases e2 : k = x
        · rw [if_neg e1, if_pos e2] at t; omega
        · rw [if_neg e1, if_neg e2, if_neg e] at t
          exact f.2.2.2.2.1 k a c t q
  · simp only [jn_bct]
    by_cases e : k = m
    · subst e
      rw [jn_fst, jn_snd, if_pos rfl, if_pos rfl]
      simp only [jn_msk, if_pos rfl, if_neg hmx, if_neg hmy]
      exact bct_or hd
    · have hj' : isJ A k := by
        unfold isJ at hj ⊢
        rw [jn_msk, jn_fst, jn_snd, if_neg e, if_neg e, if_neg e] at hj
        exact hj
      obtain ⟨q1, q2, _⟩ := f.1 k a c hj'
      have n1 : fst A k ≠ m := fun z => q1 (by rw [z]; exact hm)
      have n2 : snd A k ≠ m := fun z => q2 (by rw [z]; exact hm)
      rw [jn_fst, jn_snd, if_neg e, if_neg e]
      simp only [jn_msk, if_neg n1, if_neg n2, if_neg e]
      exact f.2.2.2.2.2.1 k a c hj'
  · simp only [jn_bct, jn_msk]
    intro z
    by_cases e : k = m
    · rw [if_pos e, bct_or hd]
      have h1 := f.2.2.2.2.2.2 x x0 x1 mx
      have h2 := f.2.2.2.2.2.2 y y0 y1 my
      omega
    · rw [if_neg e] at z ⊢
      exact f.2.2.2.2.2.2 k a c z
  · unfold jn
    rw [wat_set7 y0 y1, wat_set7 x0 x1, wat_set7 m0 (by omega)]
    have e0 : wat (aI (aI (aI (aL A 1 m (msk A x ||| msk A y)) 4 m (vol A x + vol A y)) 5 m x) 6 m y) = wat A := by
      have e1 : wat (aI (aI (aI (aL A 1 m (msk A x ||| msk A y)) 4 m (vol A x + vol A y)) 5 m x) 6 m y) = wat (aI A 4 m (vol A x + vol A y)) := by unfold wat; simp [aI, aL, there, vol]
      rw [e1, wat_set4 m0 (by omega), tm]; simp
    rw [e0]
    simp [aI, aL, there, vol, hmx, hmy, hxy, Ne.symm hxy]
    simp only [there] at tx ty tm
    simp [tx, ty, tm]
    omega
