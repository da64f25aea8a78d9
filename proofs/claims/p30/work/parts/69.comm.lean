/-! 69.comm: what is drawn from two lakes may be drawn in either order -/
def NF (A B : Ab) : Prop := (∀ f k, f ≠ 4 → f ≠ 5 → f ≠ 6 → f ≠ 7 → B.1 f k = A.1 f k) ∧ ∀ f k, f ≠ 1 → B.2 f k = A.2 f k
theorem NF.refl (A : Ab) : NF A A := ⟨fun _ _ _ _ _ _ => rfl, fun _ _ _ => rfl⟩
theorem NF.trans {A B C : Ab} (h : NF A B) (h' : NF B C) : NF A C := ⟨fun f k a b c d => (h'.1 f k a b c d).trans (h.1 f k a b c d), fun f k a => (h'.2 f k a).trans (h.2 f k a)⟩
theorem NF_ptn (A : Ab) (k : Int) : NF A (ptn A k) := ⟨fun f j a b c d => by simp [ptn, aI, aL, a, b, c, d], fun f j a => by simp [ptn, aI, aL, a]⟩
theorem dw_NF : ∀ n : Nat, ∀ (A : Ab) (k a : Int), NF A (dw n A k a) := by
  intro n
  induction n with
  | zero => intro A k a; exact NF.refl A
  | succ n ih =>
    intro A k a
    simp only [dw]
    split
    · exact ⟨fun f j a _ _ _ => by simp [aI, a], fun f j _ => by simp [aI]⟩
    · exact (NF_ptn A k).trans ((ih _ _ _).trans (ih _ _ _))
theorem Ab_ext {A B C : Ab} (h1 : NF A B) (h2 : NF A C) (h : ∀ j, nod B j = nod C j) : B = C := by
  refine Prod.ext ?_ ?_
  · funext f j
    by_cases e4 : f = 4
    · rw [e4]; exact nod_vol (h j)
    · by_cases e5 : f = 5
      · rw [e5]; exact nod_fst (h j)
      · by_cases e6 : f = 6
        · rw [e6]; exact nod_snd (h j)
        · by_cases e7 : f = 7
          · rw [e7]; exact nod_there (h j)
          · rw [h1.1 f j e4 e5 e6 e7, h2.1 f j e4 e5 e6 e7]
  · funext f j
    by_cases e1 : f = 1
    · rw [e1]; exact nod_msk (h j)
    · rw [h1.2 f j e1, h2.2 f j e1]
theorem dw_fuel : ∀ n : Nat, ∀ (m : Nat) (A : Ab) (k a : Int), WF A → 0 ≤ k → k < 72 → there A k = 1 → 0 ≤ a → a ≤ vol A k → szn A k ≤ n → n ≤ m → dw m A k a = dw n A k a := by
  intro n
  induction n with
  | zero =>
    intro m A k a h h0 h1 ht _ _ hs' _
    have := h.2.2.2.2.2.2.2.2 k h0 h1 (h.2.1.2.2.1 k h0 h1 ht)
    unfold szn at hs'; omega
  | succ n ih =>
    intro m A k a h h0 h1 ht a0 a1 hs' hm
    obtain ⟨m, rfl⟩ : ∃ m', m = m' + 1 := ⟨m - 1, by omega⟩
    simp only [dw]
    by_cases e : lvol A k ≤ vol A k - a
    · rw [if_pos e, if_pos e]
    · rw [if_neg e, if_neg e]
      obtain ⟨hj, pw, pwat, pc, f0, s0, fs, fk, sk, tf, ts, vf, vs, lv, r1, r2, z1, z2, z3, hor, hd, mf, ms, tf0, ts0⟩ := dw_part h h0 h1 ht a0 a1 e
      have e1 := ih m (ptn A k) (fa A k) (dwf A k a) pw f0.1 (by omega) tf r1.1 r1.2 (by omega) (by omega)
      rw [e1]
      obtain ⟨w1, w2, w3, w4⟩ := dw_ok n (ptn A k) (fa A k) (dwf A k a) pw f0.1 (by omega) tf r1.1 r1.2 (by omega)
      have sNot : ¬ Inn (ptn A k) (fa A k) (sa A k) := by
        rintro ⟨_, q⟩
        obtain ⟨_, l2, _⟩ := lo_spec ms
        have := q _ (by rw [ptn_msk, if_neg sk]; exact l2)
        rw [ptn_msk, if_neg fk] at this
        exact hd _ ⟨this, l2⟩
      have hns := w4 _ sNot
      refine ih m _ (sa A k) _ w1 s0.1 (by omega) ((nod_there hns).trans ts) r2.1 (by rw [nod_vol hns]; exact r2.2) ?_ (by omega)
      unfold szn at *
      rw [nod_msk hns, w3.bct]; omega
theorem ptn_nod_eq {A B : Ab} {k j : Int} (ge : GE A B) (hf : fst A k = fst B k) (hs' : snd A k = snd B k) (m1 : msk A (fst A k) = msk B (fst A k)) (m2 : msk A (snd A k) = msk B (snd A k)) (h : nod A j = nod B j) : nod (ptn A k) j = nod (ptn B k) j := by
  unfold nod
  rw [ptn_vol, ptn_vol, ptn_fst, ptn_fst, ptn_snd, ptn_snd, ptn_there, ptn_there, ptn_msk, ptn_msk, ← hf, ← hs', ← m1, ← m2, ge.cap, nod_vol h, nod_fst h, nod_snd h, nod_there h, nod_msk h]
theorem dw_local : ∀ n : Nat, ∀ (A B : Ab) (k a : Int), WF A → WF B → 0 ≤ k → k < 72 → there A k = 1 → 0 ≤ a → a ≤ vol A k → szn A k ≤ n → KP A B → (∀ j, Inn A k j → nod A j = nod B j) → ∀ j, Inn A k j → nod (dw n A k a) j = nod (dw n B k a) j := by
  intro n
  induction n with
  | zero =>
    intro A B k a h _ h0 h1 ht _ _ hs' _ _ j _
    have := h.2.2.2.2.2.2.2.2 k h0 h1 (h.2.1.2.2.1 k h0 h1 ht)
    unfold szn at hs'; omega
  | succ n ih =>
    intro A B k a h hB h0 h1 ht a0 a1 hs' kp hag j hjn
    have hz := h.2.1.2.2.1 k h0 h1 ht
    have hkk : Inn A k k := ⟨hz, fun c q => q⟩
    have nk := hag k hkk
    have htB : there B k = 1 := by rw [← nod_there nk]; exact ht
    have ef := nod_fst nk
    have es := nod_snd nk
    have ev := nod_vol nk
    have em := nod_msk nk
    have elv : lvol A k = lvol B k ∧ (fst A k ≠ snd A k → msk A (fst A k) = msk B (fst A k) ∧ msk A (snd A k) = msk B (snd A k)) := by
      unfold lvol
      rw [← ef, ← es]
      by_cases q : fst A k = snd A k
      · rw [if_pos q, if_pos q]; exact ⟨rfl, fun z => absurd q z⟩
      · obtain ⟨mx, my, tx, ty, xk, yk, hor, hd, cx, cy⟩ := h.2.2.1 k h0 h1 ⟨hz, q⟩
        have i1 : Inn A k (fst A k) := ⟨mx, fun c z => by rw [hor c, z]; rfl⟩
        have i2 : Inn A k (snd A k) := ⟨my, fun c z => by rw [hor c, z]; simp⟩
        have m1 := nod_msk (hag _ i1)
        have m2 := nod_msk (hag _ i2)
        rw [if_neg q, if_neg q, ← m1, ← m2, kp.1.cap]
        exact ⟨rfl, fun _ => ⟨rfl, rfl⟩⟩
    simp only [dw]
    rw [← elv.1, ← ev]
    by_cases e : lvol A k ≤ vol A k - a
    · rw [if_pos e, if_pos e]
      have nj := hag j hjn
      unfold nod at nj ⊢
      have x1 := nod_vol (hag j hjn)
      have x2 := nod_fst (hag j hjn)
      have x3 := nod_snd (hag j hjn)
      have x4 := nod_there (hag j hjn)
      have x5 := nod_msk (hag j hjn)
      simp only [vol, fst, snd, there, msk] at x1 x2 x3 x4 x5
      simp [aI, vol, fst, snd, there, msk, x1, x2, x3, x4, x5]
    · rw [if_neg e, if_neg e]
      obtain ⟨hj, pw, pwat, pc, f0, s0, fs, fk, sk, tf, ts, vf, vs, lv, r1, r2, z1, z2, z3, hor, hd, mf, ms, tf0, ts0⟩ := dw_part h h0 h1 ht a0 a1 e
      obtain ⟨m1, m2⟩ := elv.2 hj.2
      have efa : fa B k = fa A k := by unfold fa; rw [← ef, ← es, ← m1, ← m2]
      have esa : sa B k = sa A k := by unfold sa; rw [← ef, ← es, ← m1, ← m2]
      have inFA : Inn A k (fa A k) := ⟨mf, fun c q => by rw [hor c, q]; rfl⟩
      have inSA : Inn A k (sa A k) := ⟨ms, fun c q => by rw [hor c, q]; simp⟩
      have edw : dwf B k a = dwf A k a := by
        unfold dwf
        rw [efa, ← elv.1, ← ev, ← nod_msk (hag _ inFA), kp.1.cap]
      have eB : ¬ lvol B k ≤ vol B k - a := by rw [← elv.1, ← ev]; exact e
      obtain ⟨hjB, pwB, pwatB, pcB, f0B, s0B, fsB, fkB, skB, tfB, tsB, vfB, vsB, lvB, r1B, r2B, z1B, z2B, z3B, horB, hdB, mfB, msB, tf0B, ts0B⟩ := dw_part hB h0 h1 htB a0 (by rw [← ev]; exact a1) eB
      rw [efa, esa] at *
      rw [edw] at *
      have hp : ∀ i, Inn A k i → nod (ptn A k) i = nod (ptn B k) i := fun i hi => ptn_nod_eq kp.1 ef es m1 m2 (hag i hi)
      have pm : ∀ i, i ≠ k → msk (ptn A k) i = msk A i := fun i hi => by rw [ptn_msk, if_neg hi]
      have up1 : ∀ i, Inn (ptn A k) (fa A k) i → Inn A k i := by
        rintro i ⟨q1, q2⟩
        have ik : i ≠ k := fun z => q1 (by rw [ptn_msk, if_pos z])
        rw [pm i ik] at q1
        refine ⟨q1, fun c q => ?_⟩
        have := q2 c (by rw [pm i ik]; exact q)
        rw [pm _ fk] at this
        rw [hor c, this]; rfl
      have kpP : KP (ptn A k) (ptn B k) := by
        have a1' := KP_ptn A k
        have a2' := KP_ptn B k
        exact ⟨a1'.1.symm.trans (kp.1.trans a2'.1), a2'.2.1.trans (kp.2.1.trans a1'.2.1.symm), a2'.2.2.1.trans (kp.2.2.1.trans a1'.2.2.1.symm), a2'.2.2.2.1.trans (kp.2.2.2.1.trans a1'.2.2.2.1.symm), a2'.2.2.2.2.1.trans (kp.2.2.2.2.1.trans a1'.2.2.2.2.1.symm), a2'.2.2.2.2.2.1.trans (kp.2.2.2.2.2.1.trans a1'.2.2.2.2.2.1.symm), a2'.2.2.2.2.2.2.trans (kp.2.2.2.2.2.2.trans a1'.2.2.2.2.2.2.symm)⟩
      have l1 := ih (ptn A k) (ptn B k) (fa A k) (dwf A k a) pw pwB f0.1 (by omega) tf r1.1 r1.2 (by omega) kpP (fun i hi => hp i (up1 i hi))
      obtain ⟨w1, w2, w3, w4⟩ := dw_ok n (ptn A k) (fa A k) (dwf A k a) pw f0.1 (by omega) tf r1.1 r1.2 (by omega)
      have szB : szn (ptn B k) (fa A k) ≤ n := by
        have : szn (ptn B k) (fa A k) = szn (ptn A k) (fa A k) := by
          unfold szn
          rw [← nod_msk (hp _ inFA), kpP.bct]
        omega
      obtain ⟨w1B, w2B, w3B, w4B⟩ := dw_ok n (ptn B k) (fa A k) (dwf A k a) pwB f0.1 (by omega) tfB r1B.1 r1B.2 szB
      have E1 : ∀ i, Inn A k i → nod (dw n (ptn A k) (fa A k) (dwf A k a)) i = nod (dw n (ptn B k) (fa A k) (dwf A k a)) i := by
        intro i hi
        by_cases q : Inn (ptn A k) (fa A k) i
        · exact l1 i q
        · have q' : ¬ Inn (ptn B k) (fa A k) i := by
            rintro ⟨y1, y2⟩
            apply q
            have n1 := nod_msk (hp i hi)
            have n2 := nod_msk (hp _ inFA)
            unfold Inn
            rw [n1, n2]
            exact ⟨y1, y2⟩
          rw [w4 i q, w4B i q', hp i hi]
      have sNot : ¬ Inn (ptn A k) (fa A k) (sa A k) := by
        rintro ⟨_, q⟩
        obtain ⟨_, l2, _⟩ := lo_spec ms
        have := q _ (by rw [pm _ sk]; exact l2)
        rw [pm _ fk] at this
        exact hd _ ⟨this, l2⟩
      have hns := w4 _ sNot
      have kpC : KP (dw n (ptn A k) (fa A k) (dwf A k a)) (dw n (ptn B k) (fa A k) (dwf A k a)) := by
        have a1' := w3
        have a2' := w3B
        exact ⟨a1'.1.symm.trans (kpP.1.trans a2'.1), a2'.2.1.trans (kpP.2.1.trans a1'.2.1.symm), a2'.2.2.1.trans (kpP.2.2.1.trans a1'.2.2.1.symm), a2'.2.2.2.1.trans (kpP.2.2.2.1.trans a1'.2.2.2.1.symm), a2'.2.2.2.2.1.trans (kpP.2.2.2.2.1.trans a1'.2.2.2.2.1.symm), a2'.2.2.2.2.2.1.trans (kpP.2.2.2.2.2.1.trans a1'.2.2.2.2.2.1.symm), a2'.2.2.2.2.2.2.trans (kpP.2.2.2.2.2.2.trans a1'.2.2.2.2.2.2.symm)⟩
      have outA : ∀ i, ¬ Inn A k i → nod (dw n (ptn A k) (fa A k) (dwf A k a)) i = nod A i := by
        intro i hi
        have ik : i ≠ k := fun z => hi (by rw [z]; exact hkk)
        have jf : i ≠ fa A k := fun z => hi (by rw [z]; exact inFA)
        have js : i ≠ sa A k := fun z => hi (by rw [z]; exact inSA)
        rw [w4 i (fun z => hi (up1 i z))]
        rcases pc with ⟨p1, p2⟩ | ⟨p1, p2⟩
        · exact ptn_nod ik (by rw [← p1]; exact jf) (by rw [← p2]; exact js)
        · exact ptn_nod ik (by rw [← p2]; exact js) (by rw [← p1]; exact jf)
      have mSA : msk (dw n (ptn A k) (fa A k) (dwf A k a)) (sa A k) = msk A (sa A k) := by rw [nod_msk hns, pm _ sk]
      have up2 : ∀ i, Inn (dw n (ptn A k) (fa A k) (dwf A k a)) (sa A k) i → Inn A k i := by
        intro i hi
        by_cases q : Inn A k i
        · exact q
        · exfalso
          apply q
          have := outA i q
          obtain ⟨y1, y2⟩ := hi
          rw [nod_msk this] at y1
          refine ⟨y1, fun c z => ?_⟩
          have := y2 c (by rw [nod_msk this]; exact z)
          rw [mSA] at this
          rw [hor c, this]; simp
      have l2 := ih _ _ (sa A k) (lvol A k - (vol A k - a) - dwf A k a) w1 w1B s0.1 (by omega) ((nod_there hns).trans ts) r2.1 (by rw [nod_vol hns]; exact r2.2) (by unfold szn at *; rw [nod_msk hns, w3.bct]; omega) kpC (fun i hi => E1 i (up2 i hi))
      by_cases q : Inn (dw n (ptn A k) (fa A k) (dwf A k a)) (sa A k) j
      · exact l2 j q
      · have szC : szn (dw n (ptn A k) (fa A k) (dwf A k a)) (sa A k) ≤ n := by unfold szn at *; rw [nod_msk hns, w3.bct]; omega
        obtain ⟨_, _, _, u4⟩ := dw_ok n _ (sa A k) (lvol A k - (vol A k - a) - dwf A k a) w1 s0.1 (by omega) ((nod_there hns).trans ts) r2.1 (by rw [nod_vol hns]; exact r2.2) szC
        have ns2 := E1 _ inSA
        have szD : szn (dw n (ptn B k) (fa A k) (dwf A k a)) (sa A k) ≤ n := by unfold szn at *; rw [← nod_msk ns2, kpC.bct]; exact szC
        obtain ⟨_, _, _, u4B⟩ := dw_ok n _ (sa A k) (lvol A k - (vol A k - a) - dwf A k a) w1B s0.1 (by omega) (by rw [← nod_there ns2]; exact (nod_there hns).trans ts) r2.1 (by rw [← nod_vol ns2, nod_vol hns]; exact r2.2) szD
        have q' : ¬ Inn (dw n (ptn B k) (fa A k) (dwf A k a)) (sa A k) j := by
          rintro ⟨y1, y2⟩
          apply q
          have n1 := nod_msk (E1 j hjn)
          unfold Inn
          rw [n1, nod_msk ns2]
          exact ⟨y1, y2⟩
        rw [u4 j q, u4B j q', E1 j hjn]
theorem dw_msk0 : ∀ n : Nat, ∀ (A : Ab) (k a j : Int), msk (dw n A k a) j = msk A j ∨ msk (dw n A k a) j = 0 := by
  intro n
  induction n with
  | zero => intro A k a j; left; rfl
  | succ n ih =>
    intro A k a j
    simp only [dw]
    split
    · left; simp [aI, msk]
    · rcases ih (dw n (ptn A k) (fa A k) (dwf A k a)) (sa A k) (lvol A k - (vol A k - a) - dwf A k a) j with e | e
      · rw [e]
        rcases ih (ptn A k) (fa A k) (dwf A k a) j with e2 | e2
        · rw [e2, ptn_msk]
          split
          · right; rfl
          · left; rfl
        · right; exact e2
      · right; exact e
theorem dw_comm {A : Ab} (h : WF A) (n : Nat) {x y a b : Int} (x0 : 0 ≤ x) (x1 : x < 72) (y0 : 0 ≤ y) (y1 : y < 72) (tx : there A x = 1) (ty : there A y = 1) (hxy : x ≠ y) (a0 : 0 ≤ a) (a1 : a ≤ vol A x) (b0 : 0 ≤ b) (b1 : b ≤ vol A y) (sx : szn A x ≤ n) (sy : szn A y ≤ n) : dw n (dw n A x a) y b = dw n (dw n A y b) x a := by
  have mx := h.2.1.2.2.1 x x0 x1 tx
  have my := h.2.1.2.2.1 y y0 y1 ty
  have hd : ∀ c, ¬ (hs (msk A x) c = true ∧ hs (msk A y) c = true) := fun c z => hxy (h.2.1.2.2.2.1 x y c x0 x1 y0 y1 tx ty z.1 z.2)
  have disj : ∀ j, Inn A x j → ¬ Inn A y j := by
    rintro j ⟨p1, p2⟩ ⟨_, q2⟩
    obtain ⟨_, l2, _⟩ := lo_spec p1
    exact hd _ ⟨p2 _ l2, q2 _ l2⟩
  obtain ⟨wx1, wx2, wx3, wx4⟩ := dw_ok n A x a h x0 x1 tx a0 a1 sx
  obtain ⟨wy1, wy2, wy3, wy4⟩ := dw_ok n A y b h y0 y1 ty b0 b1 sy
  have ny := wx4 y (fun z => disj y z ⟨my, fun c q => q⟩)
  have nx := wy4 x (fun z => disj x ⟨mx, fun c q => q⟩ z)
  have szy : szn (dw n A x a) y ≤ n := by unfold szn at *; rw [nod_msk ny, wx3.bct]; exact sy
  have szx : szn (dw n A y b) x ≤ n := by unfold szn at *; rw [nod_msk nx, wy3.bct]; exact sx
  obtain ⟨_, _, _, v4⟩ := dw_ok n (dw n A x a) y b wx1 y0 y1 (by rw [nod_there ny]; exact ty) b0 (by rw [nod_vol ny]; exact b1) szy
  obtain ⟨_, _, _, u4⟩ := dw_ok n (dw n A y b) x a wy1 x0 x1 (by rw [nod_there nx]; exact tx) a0 (by rw [nod_vol nx]; exact a1) szx
  have lx := dw_local n A (dw n A y b) x a h wy1 x0 x1 tx a0 a1 sx wy3 (fun j hj => (wy4 j (disj j hj)).symm)
  have ly := dw_local n A (dw n A x a) y b h wx1 y0 y1 ty b0 b1 sy wx3 (fun j hj => (wx4 j (fun z => disj j z hj)).symm)
  have iy : ∀ j, Inn (dw n A x a) y j ↔ Inn A y j := by
    intro j
    constructor
    · rintro ⟨p1, p2⟩
      rcases dw_msk0 n A x a j with e | e
      · rw [e] at p1 p2; rw [nod_msk ny] at p2; exact ⟨p1, p2⟩
      · exact absurd e p1
    · intro q
      have e := nod_msk (wx4 j (fun z => disj j z q))
      unfold Inn
      rw [e, nod_msk ny]
      exact q
  have ix' : ∀ j, Inn (dw n A y b) x j ↔ Inn A x j := by
    intro j
    constructor
    · rintro ⟨p1, p2⟩
      rcases dw_msk0 n A y b j with e | e
      · rw [e] at p1 p2; rw [nod_msk nx] at p2; exact ⟨p1, p2⟩
      · exact absurd e p1
    · intro q
      have e := nod_msk (wy4 j (disj j q))
      unfold Inn
      rw [e, nod_msk nx]
      exact q
  refine Ab_ext ((dw_NF n A x a).trans (dw_NF n _ y b)) ((dw_NF n A y b).trans (dw_NF n _ x a)) (fun j => ?_)
  by_cases q : Inn A x j
  · rw [v4 j (fun z => disj j q ((iy j).mp z)), lx j q]
  · by_cases r : Inn A y j
    · rw [u4 j (fun z => q ((ix' j).mp z)), ← ly j r]
    · rw [v4 j (fun z => r ((iy j).mp z)), u4 j (fun z => q ((ix' j).mp z)), wx4 j q, wy4 j r]
