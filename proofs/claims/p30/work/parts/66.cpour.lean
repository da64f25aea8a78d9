/-! 66.cpour: one side pours -/
theorem at_ne {o o' : Nat} {i j v : Int32} {M : Mem} (h : o ≠ o') : fAtI o i (fPutI o' j v M) = fAtI o i M := by
  have : Fr (fun p => p = o' + 1) M (fPutI o' j v M) := Fr.put rfl
  exact this.at (by omega) i
theorem atL_ne {o o' : Nat} {i j : Int32} {v : Int64} {M : Mem} (h : o ≠ o') : fAtL o i (fPutL o' j v M) = fAtL o i M := by
  have : Fr (fun p => p = o' + 1) M (fPutL o' j v M) := Fr.putL rfl
  exact this.atL (by omega) i
theorem at_eq {o n : Nat} {M : Mem} {d : Int} {v : Int32} (hn : nC (o + 1) = n) (h3 : 0 ≤ d) (h4 : d < n) (h5 : d < 2147483648) : fAtI o (ni d) (fPutI o (ni d) v M) = v := by
  rw [fAtI_put hn (by omega) h5 h3 h4 h5, if_pos ⟨rfl, rfl⟩]
theorem at_x {o n : Nat} {M : Mem} {c d : Int} {v : Int32} (hn : nC (o + 1) = n) (h1 : -2147483648 ≤ c) (h2 : c < 2147483648) (h3 : 0 ≤ d) (h4 : d < n) (h5 : d < 2147483648) (h6 : c ≠ d) : fAtI o (ni c) (fPutI o (ni d) v M) = fAtI o (ni c) M := by
  rw [fAtI_put hn h1 h2 h3 h4 h5, if_neg (fun z => h6 z.2)]
theorem atL_eq {o n : Nat} {M : Mem} {d : Int} {v : Int64} (hn : nC (o + 1) = n) (h3 : 0 ≤ d) (h4 : d < n) (h5 : d < 2147483648) : fAtL o (ni d) (fPutL o (ni d) v M) = v := by
  rw [fAtL_put hn (by omega) h5 h3 h4 h5, if_pos ⟨rfl, rfl⟩]
theorem atL_x {o n : Nat} {M : Mem} {c d : Int} {v : Int64} (hn : nC (o + 1) = n) (h1 : -2147483648 ≤ c) (h2 : c < 2147483648) (h3 : 0 ≤ d) (h4 : d < n) (h5 : d < 2147483648) (h6 : c ≠ d) : fAtL o (ni c) (fPutL o (ni d) v M) = fAtL o (ni c) M := by
  rw [fAtL_put hn h1 h2 h3 h4 h5, if_neg (fun z => h6 z.2)]
theorem fil_lvol (A : Ab) (k x j : Int) : lvol (fil A k x) j = lvol A j := by
  unfold lvol
  rw [← (fil_ge A k x).cap]
  simp [fil, aI, fst, snd, msk]
theorem fil_bct (A : Ab) (k x : Int) (s : Int64) : bct (fil A k x) s = bct A s := by
  unfold bct fp
  rw [← (fil_ge A k x).nn]
  simp [fil, aI, pits, bas]
theorem c_fill {l : Nat} {M : Mem} {A : Ab} (hL : RLs l M A) (h : WF A) (zl : SzL l) {k x : Int} (h0 : 0 ≤ k) (h1 : k < 71) (ht : there A k = 1) (hx : 0 < x) (hw : x ≤ 1200000) : LK_fill l (ni k) (ni x) M = some (ni (adm A k x), fPutI (l + 3) (ni k) (ni (vol A k + adm A k x)) M) ∧ RLs l (fPutI (l + 3) (ni k) (ni (vol A k + adm A k x)) M) (fil A k x) := by
  have hz := h.2.1.2.2.1 k h0 (by omega) ht
  have hk := hL.2.1 k h0 h1 hz
  have hcb := cap_bd h.1 (msk A k)
  have hv := (h.2.1.1 k h0 (by omega)).2.2.2
  have hcp := cap_ps h.1 (msk A k)
  have hpr := ps_rg h.1 (msk A k)
  have hn := nn_bd h.1
  constructor
  · unfold LK_fill LK_fill_J39
    rw [hk.1, hk.2.1, hk.2.2.1, ni_sub, JM_min_ni (by omega) (by omega) (by omega) (by omega)]
    have : (if ¬ ni (ps A (msk A k)) = (-1 : Int32) then ni (if cap A (msk A k) - vol A k < x then cap A (msk A k) - vol A k else x) else ni x) = ni (adm A k x) := by
      unfold adm
      simp (disch := omega) only [show (-1 : Int32) = ni (-1) from rfl, ni_eq]
      by_cases e : ps A (msk A k) = -1
      · rw [if_neg (by simp [e]), if_pos (hcp.mpr e)]
      · rw [if_pos e, if_neg (fun z => e (hcp.mp z))]
        by_cases e2 : cap A (msk A k) - vol A k < x
        · rw [if_pos e2, if_neg (by omega)]
        · rw [if_neg e2]
          by_cases e3 : x < cap A (msk A k) - vol A k
          · rw [if_pos e3]
          · rw [if_neg e3]; congr 1; omega
    rw [this, ni_add]
  · refine ⟨fun j a b => ?_, fun j a b hz' => ?_, fun c a b => ?_⟩
    · rw [atL_putI, fil_msk]; exact hL.1 j a b
    · rw [fil_msk] at hz'
      have hj := hL.2.1 j a b hz'
      unfold RLk at hj ⊢
      simp (disch := omega) only [at_ne]
      rw [fil_msk, ← (fil_ge A k x).cap, ← (fil_ge A k x).ps, fil_lvol, fil_bct, fil_vol]
      refine ⟨?_, hj.2.1, hj.2.2.1, hj.2.2.2.1, hj.2.2.2.2.1, ?_⟩
      · by_cases e : j = k
        · rw [e, at_eq zl.2.1 h0 (by omega) (by omega), if_pos rfl]
        · rw [at_x zl.2.1 (by omega) (by omega) h0 (by omega) (by omega) e, if_neg e]; exact hj.1
      · have := hj.2.2.2.2.2
        unfold fa sa at *
        simp only [fil_msk]
        simpa [fil, aI, fst, snd, msk] using this
    · rw [at_ne (by omega), fil_lk]; exact hL.2.2 c a b
theorem c_claim {l : Nat} {M : Mem} (zl : SzL l) {k : Int} {m : Int64} (hm : fAtL (l + 1) (ni k) M = m) : ∃ M', LK_claimCells l (ni k) M = some ((), M') ∧ Fr (fun p => p = l + 17 + 1) M M' ∧ ∀ c, 0 ≤ c → c < 36 → fAtI (l + 17) (ni c) M' = if hs m c = true then ni k else fAtI (l + 17) (ni c) M := by
  have key : ∃ r M', lpM (fun s M9 => LK_claimCells_L2 l (ni k) s M9) FUEL (0 : Int32) M = some (r, M') ∧ (Fr (fun p => p = l + 17 + 1) M M' ∧ ∀ c, 0 ≤ c → c < 36 → fAtI (l + 17) (ni c) M' = if hs m c = true then ni k else fAtI (l + 17) (ni c) M) := by
    refine lpM_to 36 (by omega) (fun i s M' => s = ni (i : Int) ∧ Fr (fun p => p = l + 17 + 1) M M' ∧ ∀ c, 0 ≤ c → c < 36 → fAtI (l + 17) (ni c) M' = if hs m c = true ∧ c < (i : Int) then ni k else fAtI (l + 17) (ni c) M) _ ?_ ?_ ⟨rfl, Fr.rfl', fun c a b => by rw [if_neg (by omega)]⟩
    · rintro i hi s M1 ⟨rfl, hF, hc⟩
      unfold LK_claimCells_L2
      rw [hF.atL (by omega), hm, ni_s]
      simp (disch := omega) only [show (36 : Int32) = ni 36 from rfl, ni_le, LL_has_eq, bI_z]
      rw [if_neg (by omega)]
      cases q : hs m (i : Int) with
      | false =>
        rw [if_pos (by simp)]
        refine ⟨_, M1, rfl, rfl, hF, fun c a b => ?_⟩
        rw [hc c a b]
        by_cases e : c = (i : Int)
        · rw [e, q]; simp
        · by_cases z : c < (i : Int)
          · simp [z, show c < (i : Int) + 1 by omega]
          · simp [z, show ¬ c < (i : Int) + 1 by omega]
      | true =>
        rw [if_neg (by simp)]
        refine ⟨_, _, rfl, rfl, hF.trans (Fr.put rfl), fun c a b => ?_⟩
        by_cases e : c = (i : Int)
        · rw [e, at_eq zl.2.2.2.2.2.2.2.2.1 (by omega) (by omega) (by omega), if_pos ⟨q, by omega⟩]
        · rw [at_x zl.2.2.2.2.2.2.2.2.1 (by omega) (by omega) (by omega) (by omega) (by omega) e, hc c a b]
          by_cases z : c < (i : Int)
          · simp [z, show c < (i : Int) + 1 by omega]
          · simp [z, show ¬ c < (i : Int) + 1 by omega]
    · rintro s M1 ⟨rfl, hF, hc⟩
      refine ⟨(), M1, ?_, hF, fun c a b => ?_⟩
      · unfold LK_claimCells_L2
        rw [if_pos (by decide)]
      · rw [hc c a b]
        simp [b]
  obtain ⟨r, M', k1, k2⟩ := key
  refine ⟨M', ?_, k2⟩
  unfold LK_claimCells
  rw [k1, b2_s]
theorem c_freePlace {l : Nat} {M : Mem} {A : Ab} (hL : RLs l M A) {m : Int} (m0 : 0 ≤ m) (m1 : m < 71) (hm : msk A m = 0) (hmin : ∀ i : Nat, (i : Int) < m → msk A i ≠ 0) : LK_freePlace l M = some (ni m) := by
  have key : lpR (fun s => LK_freePlace_L2 l s M) FUEL (0 : Int32) = some (.inr (ni m)) := by
    refine lpR_to (fun i => ni (i : Int)) _ m.toNat (by omega) ?_ ?_ rfl
    · intro i hi
      unfold LK_freePlace_L2
      rw [hL.1 (i : Int) (by omega) (by omega), ni_s]
      simp (disch := omega) only [show (71 : Int32) = ni 71 from rfl, ni_le]
      rw [if_neg (by omega), if_pos (hmin i (by omega))]
    · rw [Int.toNat_of_nonneg m0]
      unfold LK_freePlace_L2
      rw [hL.1 m m0 m1]
      simp (disch := omega) only [show (71 : Int32) = ni 71 from rfl, ni_le]
      rw [if_neg (by omega), if_neg (by simp [hm])]
  unfold LK_freePlace
  rw [key, b1_s]; rfl
theorem jn_lk {A : Ab} (h : WF A) {m x y : Int} (o : JOk A m x y) (c : Int) : lk (jn A m x y) c = if hs (msk A x ||| msk A y) c = true then m else lk A c := by
  have hj := jn_WF h o
  obtain ⟨⟨m0, m1⟩, ⟨x0, x1⟩, ⟨y0, y1⟩, hm, hxy, tx, ty, px, py, pxy⟩ := o
  have mx := h.2.1.2.2.1 x x0 x1 tx
  have my := h.2.1.2.2.1 y y0 y1 ty
  have hmx : x ≠ m := fun e => mx (by rw [e]; exact hm)
  have hmy : y ≠ m := fun e => my (by rw [e]; exact hm)
  by_cases q : hs (msk A x ||| msk A y) c = true
  · rw [if_pos q]
    refine lk_eq hj.1.2.1 m0 (by omega) ?_ ?_
    · rw [jn_there, if_neg (Ne.symm hmy), if_neg (Ne.symm hmx), if_pos rfl]
    · rw [jn_msk, if_pos rfl]; exact q
  · rw [if_neg q]
    have qx : ¬ hs (msk A x) c = true := fun z => q (by rw [hs_or, z]; rfl)
    have qy : ¬ hs (msk A y) c = true := fun z => q (by rw [hs_or, z]; simp)
    rcases lk_spec A c with ⟨e, no⟩ | ⟨k0, k1, k2, k3⟩
    · rcases lk_spec (jn A m x y) c with ⟨e', _⟩ | ⟨j0, j1, j2, j3⟩
      · rw [e, e']
      · exfalso
        by_cases z : lk (jn A m x y) c = m
        · rw [z, jn_msk, if_pos rfl] at j3; exact q j3
        · rw [jn_msk, if_neg z] at j3
          rw [jn_there] at j2
          by_cases z1 : lk (jn A m x y) c = y
          · rw [z1] at j3; exact qy j3
          · by_cases z2 : lk (jn A m x y) c = x
            · rw [z2] at j3; exact qx j3
            · rw [if_neg z1, if_neg z2, if_neg z] at j2
              exact no _ j0 j1 ⟨j2, j3⟩
    · have z1 : lk A c ≠ x := fun z => qx (by rw [← z]; exact k3)
      have z2 : lk A c ≠ y := fun z => qy (by rw [← z]; exact k3)
      have z3 : lk A c ≠ m := fun z => by rw [z, hm, hs_zero] at k3; cases k3
      refine lk_eq hj.1.2.1 k0 k1 ?_ ?_
      · rw [jn_there, if_neg z2, if_neg z1, if_neg z3]; exact k2
      · rw [jn_msk, if_neg z3]; exact k3
theorem c_join {w : Nat} {M : Mem} {A : Ab} (hG : RG (w + 1) M A) (hT : RT (w + 1) M A) (hL : RLs (w + 19) M A) (h : WF A) (zl : SzL (w + 19)) (zg : SzG (w + 1)) {m x y : Int} (o : JOk A m x y) (x71 : x < 71) (y71 : y < 71) (hmin : ∀ i : Nat, (i : Int) < m → msk A i ≠ 0) :
    ∃ M', LK_join (w + 19) (w + 1) (ni x) (ni y) M = some (ni m, M') ∧ RLs (w + 19) M' (jn A m x y) ∧ Fr (isLk (w + 19)) M M' := by
  have hj := jn_WF h o
  have hlk := jn_lk h o
  obtain ⟨⟨m0, m1⟩, ⟨x0, x1⟩, ⟨y0, y1⟩, hm, hxy, tx, ty, px, py, pxy⟩ := o
  have ge := jn_ge A m x y
  have mx := h.2.1.2.2.1 x x0 x1 tx
  have my := h.2.1.2.2.1 y y0 y1 ty
  have hmx : x ≠ m := fun e => mx (by rw [e]; exact hm)
  have hmy : y ≠ m := fun e => my (by rw [e]; exact hm)
  have hd : ∀ c, ¬ (hs (msk A x) c = true ∧ hs (msk A y) c = true) := fun c z => hxy (h.2.1.2.2.2.1 x y c x0 x1 y0 y1 tx ty z.1 z.2)
  have hx := hL.2.1 x x0 x71 mx
  have hy := hL.2.1 y y0 y71 my
  have hlx := lo_ge (x := msk A x)
  have hly := lo_ge (x := msk A y)
  -- the memory after the first puts
  obtain ⟨F, hF⟩ : ∃ F, (if lo (msk A x) < lo (msk A y) then x else y) = F := ⟨_, rfl⟩
  obtain ⟨S, hS⟩ : ∃ S, (if lo (msk A x) < lo (msk A y) then y else x) = S := ⟨_, rfl⟩
  obtain ⟨M6, hM6⟩ : ∃ M6, fPutI (w + 19 + 11) (ni m) (ni (bct A (msk A x) + bct A (msk A y))) (fPutI (w + 19 + 9) (ni m) (ni (cap A (msk A x) + cap A (msk A y))) (fPutI (w + 19 + 3) (ni m) (ni (vol A x + vol A y)) (fPutL (w + 19 + 1) (ni m) (msk A x ||| msk A y) (fPutI (w + 19 + 15) (ni m) (ni S) (fPutI (w + 19 + 13) (ni m) (ni F) M))))) = M6 := ⟨_, rfl⟩
  have f6 : Fr (isLk (w + 19)) M M6 := by
    rw [← hM6]
    exact (((((Fr.put (by unfold isLk; omega)).trans (Fr.put (by unfold isLk; omega))).trans (Fr.putL (by unfold isLk; omega))).trans (Fr.put (by unfold isLk; omega))).trans (Fr.put (by unfold isLk; omega))).trans (Fr.put (by unfold isLk; omega))
  have fG : ∀ M', Fr (isLk (w + 19)) M M' → RG (w + 1) M' A := fun M' f => RG_fr hG f (by unfold isLk; omega) (by unfold isLk; omega) (by unfold isLk; omega) (by unfold isLk; omega)
  have fT : ∀ M', Fr (isLk (w + 19)) M M' → RT (w + 1) M' A := fun M' f => RT_fr hT f (by unfold isLk; omega) (by unfold isLk; omega)
  have mm : fAtL (w + 19 + 1) (ni m) M6 = msk A x ||| msk A y := by
    rw [← hM6]
    simp (disch := omega) only [atL_putI, atL_eq zl.1]
  obtain ⟨mn, hmn⟩ : ∃ mn : Nat, m = mn := ⟨m.toNat, by omega⟩
  subst hmn
  have e1 := c_findPass (l := w + 19) (k := mn) (fG _ f6) (fT _ f6) h.1 mm
  obtain ⟨M7, hM7⟩ : ∃ M7, fPutI (w + 19 + 7) (ni (mn : Int)) (ni (ps A (msk A x ||| msk A y))) M6 = M7 := ⟨_, rfl⟩
  have f7 : Fr (isLk (w + 19)) M M7 := by rw [← hM7]; exact f6.trans (Fr.put (by unfold isLk; omega))
  have e2 := c_findCapacity (l := w + 19) (k := mn) (fG _ f7) (fT _ f7) h.1 (m := msk A x ||| msk A y) (by rw [← hM7, atL_putI]; exact mm) (by rw [← hM7]; exact at_eq zl.2.2.2.1 (by omega) (by omega) (by omega)) zg
  obtain ⟨M8, hM8⟩ : ∃ M8, fPutI (w + 19 + 5) (ni (mn : Int)) (ni (cap A (msk A x ||| msk A y))) M7 = M8 := ⟨_, rfl⟩
  have f8 : Fr (isLk (w + 19)) M M8 := by rw [← hM8]; exact f7.trans (Fr.put (by unfold isLk; omega))
  obtain ⟨M9, e3, f9, h9⟩ := c_claim (M := M8) (k := (mn : Int)) zl (show fAtL (w + 19 + 1) (ni (mn : Int)) M8 = msk A x ||| msk A y by rw [← hM8, ← hM7]; simp only [atL_putI]; exact mm)
  have f9' : Fr (isLk (w + 19)) M M9 := f8.trans (f9.mono (fun p hp => by unfold isLk; omega))
  refine ⟨M9, ?_, ⟨fun k a b => ?_, fun k a b hz => ?_, fun c a b => ?_⟩, f9'⟩
  · unfold LK_join
    rw [c_freePlace hL m0 m1 hm hmin, b1_s, hL.1 x x0 x71, hL.1 y y0 y71, LL_lowestIn_eq, LL_lowestIn_eq]
    simp (disch := omega) only [ni_le]
    unfold LK_join_J36 LK_join_J54 LK_join_J73
    have hf1 : (if (if lo (msk A y) ≤ lo (msk A x) then (0 : Int32) else (1 : Int32)) = 0 then ni y else ni x) = ni F := by
      rw [← hF]
      by_cases q : lo (msk A y) ≤ lo (msk A x)
      · simp only [q, if_true, show ¬ lo (msk A x) < lo (msk A y) by omega, if_false]
      · simp only [q, if_false, show lo (msk A x) < lo (msk A y) by omega, if_true]
        rw [if_neg (by decide)]
    have hs1 : (if (if lo (msk A y) ≤ lo (msk A x) then (0 : Int32) else (1 : Int32)) = 0 then ni x else ni y) = ni S := by
      rw [← hS]
      by_cases q : lo (msk A y) ≤ lo (msk A x)
      · simp only [q, if_true, show ¬ lo (msk A x) < lo (msk A y) by omega, if_false]
      · simp only [q, if_false, show lo (msk A x) < lo (msk A y) by omega, if_true]
        rw [if_neg (by decide)]
    rw [hf1, hs1]
    simp (disch := omega) only [atL_putI, atI_putL, at_ne, hL.1 x x0 x71, hL.1 y y0 y71, hx.1, hy.1, ni_add, hx.2.1, hy.2.1, hx.2.2.2.2.1, hy.2.2.2.2.1]
    rw [hM6, e1, b2_s, hM7, e2, b2_s, hM8, e3, b2_s]
  · rw [f9.atL (by omega), ← hM8, ← hM7, ← hM6, jn_msk]
    simp only [atL_putI]
    by_cases q : k = (mn : Int)
    · rw [q, atL_eq zl.1 (by omega) (by omega) (by omega), if_pos rfl]
    · rw [atL_x zl.1 (by omega) (by omega) (by omega) (by omega) (by omega) q, if_neg q]
      simp only [atL_putI]
      exact hL.1 k a b
  · rw [jn_msk] at hz
    unfold RLk
    simp (disch := omega) only [f9.at]
    rw [← hM8, ← hM7, ← hM6]
    simp (disch := omega) only [at_ne, atI_putL]
    rw [jn_msk, jn_vol, jn_bct, ← ge.cap, ← ge.ps, jn_fst, jn_snd]
    unfold lvol fa sa
    simp only [jn_fst, jn_snd, jn_msk]
    by_cases q : k = (mn : Int)
    · subst q
      simp (disch := omega) only [at_eq zl.2.1, at_eq zl.2.2.1, at_eq zl.2.2.2.1, at_eq zl.2.2.2.2.1, at_eq zl.2.2.2.2.2.1, at_eq zl.2.2.2.2.2.2.1, at_eq zl.2.2.2.2.2.2.2.1, at_ne, if_true, if_neg hmx, if_neg hmy, if_neg hxy, hF, hS, bct_or hd, ← ge.cap]
      exact ⟨trivial, trivial, trivial, trivial, trivial, fun _ => ⟨trivial, trivial⟩⟩
    · rw [if_neg q] at hz
      have hk := hL.2.1 k a b hz
      unfold RLk lvol fa sa at hk
      simp (disch := omega) only [at_x zl.2.1, at_x zl.2.2.1, at_x zl.2.2.2.1, at_x zl.2.2.2.2.1, at_x zl.2.2.2.2.2.1, at_x zl.2.2.2.2.2.2.1, at_x zl.2.2.2.2.2.2.2.1, at_ne, atI_putL, if_neg q]
      by_cases e : fst A k = snd A k
      · simp only [e, if_true, ne_eq, not_true, false_implies, and_true] at hk ⊢
        exact hk
      · have hf := h.2.2.1 k a (by omega) ⟨hz, e⟩
        have n1 : fst A k ≠ (mn : Int) := fun z => hf.1 (by rw [z]; exact hm)
        have n2 : snd A k ≠ (mn : Int) := fun z => hf.2.1 (by rw [z]; exact hm)
        simp only [if_neg n1, if_neg n2, ← ge.cap]
        exact hk
  · rw [h9 c a b, hlk]
    by_cases q : hs (msk A x ||| msk A y) c = true
    · rw [if_pos q, if_pos q]
    · rw [if_neg q, if_neg q, ← hM8, ← hM7, ← hM6]
      simp (disch := omega) only [at_ne, atI_putL]
      exact hL.2.2 c a b
