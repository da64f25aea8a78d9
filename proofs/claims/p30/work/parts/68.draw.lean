/-! 68.draw: taking water out, as both sides do it -/
def ptn (A : Ab) (k : Int) : Ab := aI (aI (aI (aI (aI (aI (aI (aI (aL A 1 k 0) 4 k 0) 5 k 0) 6 k 0) 7 k 0) 4 (fst A k) (cap A (msk A (fst A k)))) 4 (snd A k) (cap A (msk A (snd A k)))) 7 (fst A k) 1) 7 (snd A k) 1
theorem ptn_msk (A : Ab) (k j : Int) : msk (ptn A k) j = if j = k then 0 else msk A j := by simp [ptn, aI, aL, msk]
theorem ptn_vol (A : Ab) (k j : Int) : vol (ptn A k) j = if j = snd A k then cap A (msk A (snd A k)) else if j = fst A k then cap A (msk A (fst A k)) else if j = k then 0 else vol A j := by simp [ptn, aI, aL, vol]
theorem ptn_fst (A : Ab) (k j : Int) : fst (ptn A k) j = if j = k then 0 else fst A j := by simp [ptn, aI, aL, fst]
theorem ptn_snd (A : Ab) (k j : Int) : snd (ptn A k) j = if j = k then 0 else snd A j := by simp [ptn, aI, aL, snd]
theorem ptn_there (A : Ab) (k j : Int) : there (ptn A k) j = if j = snd A k then 1 else if j = fst A k then 1 else if j = k then 0 else there A j := by simp [ptn, aI, aL, there]
theorem ptn_ge (A : Ab) (k : Int) : GE A (ptn A k) := by refine GE_of ?_ ?_ ?_ ?_ ?_ <;> simp [ptn, aI, aL]
theorem KP_ptn (A : Ab) (k : Int) : KP A (ptn A k) := ⟨ptn_ge A k, by simp [ptn, aI, aL, bnn], by funext c; simp [ptn, aI, aL, bas], by simp [ptn, aI, aL, pits], by simp [ptn, aI, aL, lst], by simp [ptn, aI, aL, gon], by simp [ptn, aI, aL, prd]⟩
theorem KP.bct {A B : Ab} (h : KP A B) : bct B = bct A := by
  funext m
  unfold Jvm.Pilot.CLakeLevelsLaw_law_r3285_cc1abe.bct fp
  rw [← h.1.nn, h.2.2.1, h.2.2.2.1]
theorem ptn_ok {A : Ab} (h : WF A) {k : Int} (h0 : 0 ≤ k) (h1 : k < 72) (ht : there A k = 1) (hj : isJ A k) : WF (ptn A k) ∧ wat (ptn A k) = wat A - vol A k + lvol A k := by
  have ge := ptn_ge A k
  have eb := (KP_ptn A k).bct
  obtain ⟨g, b, f⟩ := h
  obtain ⟨mx, my, tx, ty, xk, yk, hor, hd, cx, cy⟩ := f.1 k h0 h1 hj
  have hb := b.1 k h0 h1
  have hxy : fst A k ≠ snd A k := hj.2
  have bx := cap_bd g (msk A (fst A k))
  have by' := cap_bd g (msk A (snd A k))
  have rng := hb.2
  have em := ptn_msk A k
  have ev := ptn_vol A k
  have ef := ptn_fst A k
  have es := ptn_snd A k
  have et := ptn_there A k
  generalize hx : fst A k = x at *
  generalize hy : snd A k = y at *
  have tcase : ∀ j, (if j = y then (1 : Int) else if j = x then 1 else if j = k then 0 else there A j) = 1 → j = y ∨ j = x ∨ (j ≠ y ∧ j ≠ x ∧ j ≠ k ∧ there A j = 1) := by
    intro j q
    by_cases e1 : j = y
    · left; exact e1
    · by_cases e2 : j = x
      · right; left; exact e2
      · by_cases e3 : j = k
        · rw [if_neg e1, if_neg e2, if_pos e3] at q; omega
        · rw [if_neg e1, if_neg e2, if_neg e3] at q
          right; right; exact ⟨e1, e2, e3, q⟩
  have child : ∀ j, 0 ≤ j → j < 72 → j ≠ k → isJ (ptn A k) j → isJ A j ∧ fst A j ≠ k ∧ snd A j ≠ k ∧ fst A j ≠ x ∧ fst A j ≠ y ∧ snd A j ≠ x ∧ snd A j ≠ y := by
    intro j a c hne q
    have q' : isJ A j := by
      unfold isJ at q ⊢
      rw [em, ef, es, if_neg hne, if_neg hne, if_neg hne] at q
      exact q
    have qf := f.1 j a c q'
    have u1 := f.2.1 j k a c h0 h1 q' hj hne
    have u2 := f.2.1 k j h0 h1 a c hj q' (Ne.symm hne)
    rw [hx, hy] at u1 u2
    refine ⟨q', fun z => ?_, fun z => ?_, u1.1, u1.2.1, fun z => u2.2.1 z.symm, u1.2.2⟩
    · rw [z] at qf; omega
    · rw [z] at qf; omega
  refine ⟨⟨ge.WFg g, ⟨fun j a c => ?_, fun j c a d => ?_, fun j a c => ?_, fun j i c a1 a2 a3 a4 => ?_, ?_⟩, fun j a c q => ?_, fun j i a c d e q r hne => ?_, ?_, ?_, fun j a c => ?_, fun j a c q => ?_, fun j a c => ?_⟩, ?_⟩
  · rw [et, ef, es, ev]
    have := b.1 j a c
    refine ⟨?_, ?_, ?_, ?_⟩
    · split
      · omega
      · split
        · omega
        · split
          · omega
          · exact this.1
    · split <;> omega
    · split <;> omega
    · split
      · omega
      · split
        · omega
        · split <;> omega
  · rw [em, ← ge.nn]
    split
    · intro z; rw [hs_zero] at z; cases z
    · exact b.2.1 j c a d
  · rw [et, em]
    intro q
    rcases tcase j q with e | e | ⟨_, _, e, e2⟩
    · rw [e, if_neg yk]; exact my
    · rw [e, if_neg xk]; exact mx
    · rw [if_neg e]; exact b.2.2.1 j a c e2
  · rw [et, et, em, em]
    intro q r s1 s2
    have inK : ∀ c, hs (msk A x) c = true ∨ hs (msk A y) c = true → hs (msk A k) c = true := by
      intro c z
      rw [hor c]
      rcases z with z | z <;> simp [z]
    rcases tcase j q with e | e | ⟨e1, e2, e3, e4⟩
    · rw [e, if_neg yk] at s1
      rcases tcase i r with e' | e' | ⟨e1', e2', e3', e4'⟩
      · omega
      · rw [e', if_neg xk] at s2; exact absurd ⟨s2, s1⟩ (hd c)
      · rw [if_neg e3'] at s2
        exact absurd (b.2.2.2.1 i k c a3 a4 h0 h1 e4' ht s2 (inK c (Or.inr s1))) e3'
    · rw [e, if_neg xk] at s1
      rcases tcase i r with e' | e' | ⟨e1', e2', e3', e4'⟩
      · rw [e', if_neg yk] at s2; exact absurd ⟨s1, s2⟩ (hd c)
      · omega
      · rw [if_neg e3'] at s2
        exact absurd (b.2.2.2.1 i k c a3 a4 h0 h1 e4' ht s2 (inK c (Or.inl s1))) e3'
    · rw [if_neg e3] at s1
      rcases tcase i r with e' | e' | ⟨e1', e2', e3', e4'⟩
      · rw [e', if_neg yk] at s2
        exact absurd (b.2.2.2.1 j k c a1 a2 h0 h1 e4 ht s1 (inK c (Or.inr s2))) e3
      · rw [e', if_neg xk] at s2
        exact absurd (b.2.2.2.1 j k c a1 a2 h0 h1 e4 ht s1 (inK c (Or.inl s2))) e3
      · rw [if_neg e3'] at s2
        exact b.2.2.2.1 j i c a1 a2 a3 a4 e4 e4' s1 s2
  · rw [em]
    split
    · rfl
    · exact b.2.2.2.2
  · by_cases e : j = k
    · exfalso
      unfold isJ at q
      rw [em, if_pos e] at q
      exact q.1 rfl
    · obtain ⟨q', n1, n2, n3, n4, n5, n6⟩ := child j a c e q
      have qf := f.1 j a c q'
      rw [ef, es, if_neg e, if_neg e]
      simp only [em, et, if_neg n1, if_neg n2, if_neg n3, if_neg n4, if_neg n5, if_neg n6, if_neg e, ← ge.cap]
      exact qf
  · by_cases e1 : j = k
    · exfalso; unfold isJ at q; rw [em, if_pos e1] at q; exact q.1 rfl
    · by_cases e2 : i = k
      · exfalso; unfold isJ at r; rw [em, if_pos e2] at r; exact r.1 rfl
      · rw [ef, ef, es, es, if_neg e1, if_neg e2, if_neg e1, if_neg e2]
        exact f.2.1 j i a c d e (child j a c e1 q).1 (child i d e e2 r).1 hne
  · have hu : usd (ptn A k) = usd A - 1 := by
      unfold usd
      simp only [ct]
      rw [sm_one (g := fun i => if (!decide (msk A (i : Int) = 0)) = true then 1 else 0) h0 h1 (fun i _ hne => by simp only [em, if_neg hne])]
      simp only [Int.toNat_of_nonneg h0]
      simp [em, hj.1]
    have htn : thn (ptn A k) = thn A + 1 := by
      unfold ptn
      rw [hx, hy, thn_set rng.2.1.1 rng.2.1.2, thn_set rng.1.1 rng.1.2]
      have e0 : thn (aI (aI (aI (aI (aI (aI (aL A 1 k 0) 4 k 0) 5 k 0) 6 k 0) 7 k 0) 4 x (cap A (msk A x))) 4 y (cap A (msk A y))) = thn (aI A 7 k 0) := by unfold thn; simp [aI, aL, there]
      rw [e0, thn_set h0 h1, if_pos ht]
      simp only [there] at tx ty
      simp [aI, aL, there, xk, yk, Ne.symm xk, Ne.symm yk, hxy, Ne.symm hxy, tx, ty]
    rw [hu, htn, (KP_ptn A k).2.1]
    have := f.2.2.1
    omega
  · rw [(KP_ptn A k).2.1]; exact f.2.2.2.1
  · rw [et, em, ev, ← ge.cap]
    intro q r
    rcases tcase j q with e | e | ⟨e1, e2, e3, e4⟩
    · rw [if_pos e, e, if_neg yk]; exact Int.le_refl _
    · rw [e, if_neg hxy, if_pos rfl, if_neg xk]; exact Int.le_refl _
    · rw [if_neg e3] at r ⊢
      rw [if_neg e1, if_neg e2, if_neg e3]
      exact f.2.2.2.2.1 j a c e4 r
  · by_cases e : j = k
    · exfalso; unfold isJ at q; rw [em, if_pos e] at q; exact q.1 rfl
    · obtain ⟨q', n1, n2, _⟩ := child j a c e q
      rw [ef, es, if_neg e, if_neg e, em, em, em, if_neg e, if_neg n1, if_neg n2, eb]
      exact f.2.2.2.2.2.1 j a c q'
  · rw [em, eb]
    intro z
    by_cases e : j = k
    · rw [if_pos e] at z; exact absurd rfl z
    · rw [if_neg e] at z ⊢
      exact f.2.2.2.2.2.2 j a c z
  · unfold ptn lvol
    rw [hx, hy, if_neg hxy, wat_set7 rng.2.1.1 rng.2.1.2, wat_set7 rng.1.1 rng.1.2]
    have e0 : wat (aI (aI (aI (aI (aI (aI (aL A 1 k 0) 4 k 0) 5 k 0) 6 k 0) 7 k 0) 4 x (cap A (msk A x))) 4 y (cap A (msk A y))) = wat (aI (aI (aI (aI A 4 k 0) 7 k 0) 4 x (cap A (msk A x))) 4 y (cap A (msk A y))) := by unfold wat; simp [aI, aL, there, vol]
    rw [e0, wat_set4 rng.2.1.1 rng.2.1.2, wat_set4 rng.1.1 rng.1.2, wat_set7 h0 h1, wat_set4 h0 h1]
    simp only [there] at tx ty ht
    simp [aI, aL, there, vol, xk, yk, Ne.symm xk, Ne.symm yk, hxy, Ne.symm hxy, tx, ty, ht]
    omega
/-- the size of what a lake is made of -/
def szn (A : Ab) (k : Int) : Int := 2 * bct A (msk A k) - 1
def dwf (A : Ab) (k a : Int) : Int := if cap A (msk A (fa A k)) < lvol A k - (vol A k - a) then cap A (msk A (fa A k)) else lvol A k - (vol A k - a)
def dw : Nat → Ab → Int → Int → Ab
  | 0, A, _, _ => A
  | n + 1, A, k, a =>
    if lvol A k ≤ vol A k - a then aI A 4 k (vol A k - a)
    else dw n (dw n (ptn A k) (fa A k) (dwf A k a)) (sa A k) (lvol A k - (vol A k - a) - dwf A k a)
/-- what holds where a lake must part -/
theorem dw_part {A : Ab} (h : WF A) {k a : Int} (h0 : 0 ≤ k) (h1 : k < 72) (ht : there A k = 1) (a0 : 0 ≤ a) (a1 : a ≤ vol A k) (hp : ¬ lvol A k ≤ vol A k - a) :
    isJ A k ∧ WF (ptn A k) ∧ wat (ptn A k) = wat A - vol A k + lvol A k ∧ ((fa A k = fst A k ∧ sa A k = snd A k) ∨ (fa A k = snd A k ∧ sa A k = fst A k)) ∧ (0 ≤ fa A k ∧ fa A k < 71) ∧ (0 ≤ sa A k ∧ sa A k < 71) ∧ fa A k ≠ sa A k ∧ fa A k ≠ k ∧ sa A k ≠ k ∧
    there (ptn A k) (fa A k) = 1 ∧ there (ptn A k) (sa A k) = 1 ∧ vol (ptn A k) (fa A k) = cap A (msk A (fa A k)) ∧ vol (ptn A k) (sa A k) = cap A (msk A (sa A k)) ∧ lvol A k = cap A (msk A (fa A k)) + cap A (msk A (sa A k)) ∧
    (0 ≤ dwf A k a ∧ dwf A k a ≤ vol (ptn A k) (fa A k)) ∧ (0 ≤ lvol A k - (vol A k - a) - dwf A k a ∧ lvol A k - (vol A k - a) - dwf A k a ≤ vol (ptn A k) (sa A k)) ∧
    szn (ptn A k) (fa A k) + szn (ptn A k) (sa A k) = szn A k - 1 ∧ 1 ≤ szn (ptn A k) (fa A k) ∧ 1 ≤ szn (ptn A k) (sa A k) ∧
    (∀ c, hs (msk A k) c = (hs (msk A (fa A k)) c || hs (msk A (sa A k)) c)) ∧ (∀ c, ¬ (hs (msk A (fa A k)) c = true ∧ hs (msk A (sa A k)) c = true)) ∧ msk A (fa A k) ≠ 0 ∧ msk A (sa A k) ≠ 0 ∧ there A (fa A k) = 0 ∧ there A (sa A k) = 0 := by
  have hz := h.2.1.2.2.1 k h0 h1 ht
  have hfs : fst A k ≠ snd A k := by
    intro e
    apply hp
    unfold lvol
    rw [if_pos e]; omega
  have hj : isJ A k := ⟨hz, hfs⟩
  obtain ⟨mx, my, tx, ty, xk, yk, hor, hd, cx, cy⟩ := h.2.2.1 k h0 h1 hj
  have hb := h.2.1.1 k h0 h1
  have p := ptn_ok h h0 h1 ht hj
  have hlv : lvol A k = cap A (msk A (fst A k)) + cap A (msk A (snd A k)) := by unfold lvol; rw [if_neg hfs]
  have bx := cap_bd h.1 (msk A (fst A k))
  have by' := cap_bd h.1 (msk A (snd A k))
  have x71 : fst A k ≠ 71 := fun z => mx (by rw [z]; exact h.2.1.2.2.2.2)
  have y71 : snd A k ≠ 71 := fun z => my (by rw [z]; exact h.2.1.2.2.2.2)
  have hbc := h.2.2.2.2.2.2.2.1 k h0 h1 hj
  have b1 := h.2.2.2.2.2.2.2.2 (fst A k) hb.2.1.1 hb.2.1.2 mx
  have b2 := h.2.2.2.2.2.2.2.2 (snd A k) hb.2.2.1.1 hb.2.2.1.2 my
  have tf : there (ptn A k) (fst A k) = 1 := by rw [ptn_there, if_neg hfs, if_pos rfl]
  have ts : there (ptn A k) (snd A k) = 1 := by rw [ptn_there, if_pos rfl]
  have vf : vol (ptn A k) (fst A k) = cap A (msk A (fst A k)) := by rw [ptn_vol, if_neg hfs, if_pos rfl]
  have vs : vol (ptn A k) (snd A k) = cap A (msk A (snd A k)) := by rw [ptn_vol, if_pos rfl]
  have sf : szn (ptn A k) (fst A k) = 2 * bct A (msk A (fst A k)) - 1 := by unfold szn; rw [ptn_msk, if_neg xk, (KP_ptn A k).bct]
  have ss : szn (ptn A k) (snd A k) = 2 * bct A (msk A (snd A k)) - 1 := by unfold szn; rw [ptn_msk, if_neg yk, (KP_ptn A k).bct]
  have sk : szn A k = 2 * bct A (msk A k) - 1 := rfl
  by_cases q : lo (msk A (fst A k)) < lo (msk A (snd A k))
  · have e1 : fa A k = fst A k := by unfold fa; rw [if_pos q]
    have e2 : sa A k = snd A k := by unfold sa; rw [if_pos q]
    unfold dwf
    rw [e1, e2]
    refine ⟨hj, p.1, p.2, Or.inl ⟨rfl, rfl⟩, by omega, by omega, hfs, xk, yk, tf, ts, vf, vs, hlv, ?_, ?_, by omega, by omega, by omega, hor, hd, mx, my, tx, ty⟩
    · rw [vf]; split <;> omega
    · rw [vs]; split <;> omega
  · have e1 : fa A k = snd A k := by unfold fa; rw [if_neg q]
    have e2 : sa A k = fst A k := by unfold sa; rw [if_neg q]
    unfold dwf
    rw [e1, e2]
    refine ⟨hj, p.1, p.2, Or.inr ⟨rfl, rfl⟩, by omega, by omega, Ne.symm hfs, yk, xk, ts, tf, vs, vf, by omega, ?_, ?_, by omega, by omega, by omega, fun c => by rw [hor c, Bool.or_comm], fun c z => hd c ⟨z.2, z.1⟩, my, mx, ty, tx⟩
    · rw [vs]; split <;> omega
    · rw [vf]; split <;> omega
def nod (A : Ab) (j : Int) : Int × Int × Int × Int × Int64 := (vol A j, fst A j, snd A j, there A j, msk A j)
theorem nod_vol {A B : Ab} {j : Int} (h : nod A j = nod B j) : vol A j = vol B j := congrArg (fun q => q.1) h
theorem nod_fst {A B : Ab} {j : Int} (h : nod A j = nod B j) : fst A j = fst B j := congrArg (fun q => q.2.1) h
theorem nod_snd {A B : Ab} {j : Int} (h : nod A j = nod B j) : snd A j = snd B j := congrArg (fun q => q.2.2.1) h
theorem nod_there {A B : Ab} {j : Int} (h : nod A j = nod B j) : there A j = there B j := congrArg (fun q => q.2.2.2.1) h
theorem nod_msk {A B : Ab} {j : Int} (h : nod A j = nod B j) : msk A j = msk B j := congrArg (fun q => q.2.2.2.2) h
def Inn (A : Ab) (k j : Int) : Prop := msk A j ≠ 0 ∧ ∀ c, hs (msk A j) c = true → hs (msk A k) c = true
theorem ptn_nod {A : Ab} {k j : Int} (h1 : j ≠ k) (h2 : j ≠ fst A k) (h3 : j ≠ snd A k) : nod (ptn A k) j = nod A j := by
  unfold nod
  rw [ptn_vol, ptn_fst, ptn_snd, ptn_there, ptn_msk, if_neg h1, if_neg h2, if_neg h3, if_neg h1, if_neg h1, if_neg h3, if_neg h2, if_neg h1, if_neg h1]
theorem dw_ok : ∀ n : Nat, ∀ (A : Ab) (k a : Int), WF A → 0 ≤ k → k < 72 → there A k = 1 → 0 ≤ a → a ≤ vol A k → szn A k ≤ n → WF (dw n A k a) ∧ wat (dw n A k a) = wat A - a ∧ KP A (dw n A k a) ∧ ∀ j, ¬ Inn A k j → nod (dw n A k a) j = nod A j := by
  intro n
  induction n with
  | zero =>
    intro A k a h h0 h1 ht _ _ hs'
    have := h.2.2.2.2.2.2.2.2 k h0 h1 (h.2.1.2.2.1 k h0 h1 ht)
    unfold szn at hs'; omega
  | succ n ih =>
    intro A k a h h0 h1 ht a0 a1 hs'
    have hz := h.2.1.2.2.1 k h0 h1 ht
    simp only [dw]
    by_cases e : lvol A k ≤ vol A k - a
    · rw [if_pos e]
      have hv := (h.2.1.1 k h0 h1).2.2.2
      refine ⟨fill_WF h h0 h1 (by omega) (by omega) (fun t q => by have := h.2.2.2.2.2.2.1 k h0 h1 t q; omega), ?_, ⟨GE_vol A k _, by simp [aI, bnn], by funext c; simp [aI, bas], by simp [aI, pits], by simp [aI, lst], by simp [aI, gon], by simp [aI, prd]⟩, fun j hj => ?_⟩
      · rw [wat_set4 h0 h1, if_pos ht]; omega
      · have : j ≠ k := fun z => hj (by rw [z]; exact ⟨hz, fun c q => q⟩)
        simp [nod, aI, vol, fst, snd, there, msk, this]
    · rw [if_neg e]
      obtain ⟨hj, pw, pwat, pc, f0, s0, fs, fk, sk, tf, ts, vf, vs, lv, r1, r2, z1, z2, z3, hor, hd, mf, ms, tf0, ts0⟩ := dw_part h h0 h1 ht a0 a1 e
      obtain ⟨w1, w2, w3, w4⟩ := ih (ptn A k) (fa A k) (dwf A k a) pw f0.1 (by omega) tf r1.1 r1.2 (by omega)
      have pm : ∀ j, j ≠ k → msk (ptn A k) j = msk A j := fun j hj => by rw [ptn_msk, if_neg hj]
      have sNot : ¬ Inn (ptn A k) (fa A k) (sa A k) := by
        rintro ⟨_, q⟩
        obtain ⟨_, l2, _⟩ := lo_spec ms
        have := q _ (by rw [pm _ sk]; exact l2)
        rw [pm _ fk] at this
        exact hd _ ⟨this, l2⟩
      have hns := w4 _ sNot
      have tS : there (dw n (ptn A k) (fa A k) (dwf A k a)) (sa A k) = 1 := (nod_there hns).trans ts
      have vS : vol (dw n (ptn A k) (fa A k) (dwf A k a)) (sa A k) = vol (ptn A k) (sa A k) := nod_vol hns
      have mS : msk (dw n (ptn A k) (fa A k) (dwf A k a)) (sa A k) = msk (ptn A k) (sa A k) := nod_msk hns
      have zS : szn (dw n (ptn A k) (fa A k) (dwf A k a)) (sa A k) = szn (ptn A k) (sa A k) := by unfold szn; rw [mS, w3.bct]
      obtain ⟨u1, u2, u3, u4⟩ := ih _ (sa A k) (lvol A k - (vol A k - a) - dwf A k a) w1 s0.1 (by omega) tS r2.1 (by rw [vS]; exact r2.2) (by omega)
      refine ⟨u1, by omega, (KP_ptn A k).trans (w3.trans u3), fun j hjn => ?_⟩
      have jk : j ≠ k := fun z => hjn (by rw [z]; exact ⟨hz, fun c q => q⟩)
      have jf : j ≠ fa A k := fun z => hjn (by rw [z]; exact ⟨mf, fun c q => by rw [hor c, q]; rfl⟩)
      have js : j ≠ sa A k := fun z => hjn (by rw [z]; exact ⟨ms, fun c q => by rw [hor c, q]; simp⟩)
      have n1 : ¬ Inn (ptn A k) (fa A k) j := by
        rintro ⟨q1, q2⟩
        rw [pm j jk] at q1
        refine hjn ⟨q1, fun c q => ?_⟩
        have := q2 c (by rw [pm j jk]; exact q)
        rw [pm _ fk] at this
        rw [hor c, this]; rfl
      have e1 := w4 j n1
      have mj : msk (dw n (ptn A k) (fa A k) (dwf A k a)) j = msk (ptn A k) j := nod_msk e1
      have n2 : ¬ Inn (dw n (ptn A k) (fa A k) (dwf A k a)) (sa A k) j := by
        rintro ⟨q1, q2⟩
        rw [mj, pm j jk] at q1
        refine hjn ⟨q1, fun c q => ?_⟩
        have := q2 c (by rw [mj, pm j jk]; exact q)
        rw [mS, pm _ sk] at this
        rw [hor c, this]; simp
      rw [u4 j n2, e1]
      rcases pc with ⟨p1, p2⟩ | ⟨p1, p2⟩
      · exact ptn_nod jk (by rw [← p1]; exact jf) (by rw [← p2]; exact js)
      · exact ptn_nod jk (by rw [← p2]; exact js) (by rw [← p1]; exact jf)
