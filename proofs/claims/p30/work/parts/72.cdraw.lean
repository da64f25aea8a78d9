/-! 72.cdraw: one side draws -/
theorem ptn_lk {A : Ab} (h : WF A) {k a : Int} (h0 : 0 ≤ k) (h1 : k < 72) (ht : there A k = 1) (a0 : 0 ≤ a) (a1 : a ≤ vol A k) (e : ¬ lvol A k ≤ vol A k - a) (c : Int) : lk (ptn A k) c = if hs (msk A (sa A k)) c = true then sa A k else if hs (msk A (fa A k)) c = true then fa A k else lk A c := by
  obtain ⟨hj, pw, pwat, pc, f0, s0, fs, fk, sk, tf, ts, vf, vs, lv, r1, r2, z1, z2, z3, hor, hd, mf, ms, tf0, ts0⟩ := dw_part h h0 h1 ht a0 a1 e
  by_cases q1 : hs (msk A (sa A k)) c = true
  · rw [if_pos q1]
    exact lk_eq pw.2.1 s0.1 (by omega) ts (by rw [ptn_msk, if_neg sk]; exact q1)
  · rw [if_neg q1]
    by_cases q2 : hs (msk A (fa A k)) c = true
    · rw [if_pos q2]
      exact lk_eq pw.2.1 f0.1 (by omega) tf (by rw [ptn_msk, if_neg fk]; exact q2)
    · rw [if_neg q2]
      have hck : ¬ hs (msk A k) c = true := by rw [hor c]; simp [q1, q2]
      have hth : ∀ j, j ≠ k → j ≠ fa A k → j ≠ sa A k → there (ptn A k) j = there A j := by
        intro j y1 y2 y3
        have : nod (ptn A k) j = nod A j := by
          rcases pc with ⟨p1, p2⟩ | ⟨p1, p2⟩
          · exact ptn_nod y1 (by rw [← p1]; exact y2) (by rw [← p2]; exact y3)
          · exact ptn_nod y1 (by rw [← p2]; exact y3) (by rw [← p1]; exact y2)
        exact nod_there this
      rcases lk_spec A c with ⟨z, no⟩ | ⟨j0, j1, j2, j3⟩
      · rcases lk_spec (ptn A k) c with ⟨z', _⟩ | ⟨i0, i1, i2, i3⟩
        · rw [z, z']
        · exfalso
          have ik : lk (ptn A k) c ≠ k := fun w => by rw [w, ptn_msk, if_pos rfl, hs_zero] at i3; cases i3
          rw [ptn_msk, if_neg ik] at i3
          have i4 : lk (ptn A k) c ≠ fa A k := fun w => by rw [w] at i3; exact q2 i3
          have i5 : lk (ptn A k) c ≠ sa A k := fun w => by rw [w] at i3; exact q1 i3
          rw [hth _ ik i4 i5] at i2
          exact no _ i0 i1 ⟨i2, i3⟩
      · have jk : lk A c ≠ k := fun w => by rw [w] at j3; exact hck j3
        have j4 : lk A c ≠ fa A k := fun w => by rw [w] at j2; omega
        have j5 : lk A c ≠ sa A k := fun w => by rw [w] at j2; omega
        exact lk_eq pw.2.1 j0 j1 (by rw [hth _ jk j4 j5]; exact j2) (by rw [ptn_msk, if_neg jk]; exact j3)
def isP (l p : Nat) : Prop := p = l + 1 + 1 ∨ p = l + 3 + 1 ∨ p = l + 17 + 1
theorem c_partLake {l : Nat} {M : Mem} {A : Ab} (hL : RLs l M A) (h : WF A) (zl : SzL l) {k a : Int} (h0 : 0 ≤ k) (h1 : k < 71) (ht : there A k = 1) (a0 : 0 ≤ a) (a1 : a ≤ vol A k) (e : ¬ lvol A k ≤ vol A k - a) : ∃ M', LK_partLake l (ni k) M = some ((), M') ∧ RLs l M' (ptn A k) ∧ Fr (isP l) M M' := by
  obtain ⟨hj, pw, pwat, pc, f0, s0, fs, fk, sk, tf, ts, vf, vs, lv, r1, r2, z1, z2, z3, hor, hd, mf, ms, tf0, ts0⟩ := dw_part h h0 (by omega) ht a0 a1 e
  have hz := h.2.1.2.2.1 k h0 (by omega) ht
  have hk := hL.2.1 k h0 h1 hz
  obtain ⟨k1, k2⟩ := hk.2.2.2.2.2 hj.2
  have hf := hL.2.1 (fa A k) f0.1 f0.2 mf
  have hs' := hL.2.1 (sa A k) s0.1 s0.2 ms
  obtain ⟨M1, hM1⟩ : ∃ M1, fPutI (l + 3) (ni (sa A k)) (ni (cap A (msk A (sa A k)))) (fPutI (l + 3) (ni (fa A k)) (ni (cap A (msk A (fa A k)))) M) = M1 := ⟨_, rfl⟩
  have f1 : Fr (fun p => p = l + 3 + 1) M M1 := by rw [← hM1]; exact (Fr.put (P := fun p => p = l + 3 + 1) rfl).trans (Fr.put rfl)
  have cl1 : ∀ j, fAtL (l + 1) j M1 = fAtL (l + 1) j M := fun j => f1.atL (by omega) j
  obtain ⟨M2, q2, f2, c2⟩ := c_claim (M := M1) zl (k := fa A k) (m := msk A (fa A k)) (by rw [cl1]; exact hL.1 _ f0.1 f0.2)
  obtain ⟨M3, q3, f3, c3⟩ := c_claim (M := M2) zl (k := sa A k) (m := msk A (sa A k)) (by rw [f2.atL (by omega), cl1]; exact hL.1 _ s0.1 s0.2)
  have hstep : LK_partLake l (ni k) M = some ((), fPutL (l + 1) (ni k) (0 : Int64) M3) := by
    unfold LK_partLake
    rw [k1, k2]
    simp (disch := omega) only [at_ne, hf.2.1, hs'.2.1]
    rw [hM1, q2, b2_s]
    have : fAtI (l + 15) (ni k) M2 = ni (sa A k) := by rw [f2.at (by omega), f1.at (by omega)]; exact k2
    first | rw [this, q3, b2_s] | rw [q3, b2_s]
  have f4 : Fr (isP l) M (fPutL (l + 1) (ni k) (0 : Int64) M3) := ((f1.mono (fun p hp => by unfold isP; omega)).trans ((f2.mono (fun p hp => by unfold isP; omega)).trans (f3.mono (fun p hp => by unfold isP; omega)))).trans (Fr.putL (by unfold isP; omega))
  refine ⟨_, hstep, ⟨fun j x y => ?_, fun j x y hzj => ?_, fun c x y => ?_⟩, f4⟩
  · rw [ptn_msk]
    by_cases q : j = k
    · rw [q, atL_eq zl.1 h0 (by omega) (by omega), if_pos rfl]
    · rw [atL_x zl.1 (by omega) (by omega) h0 (by omega) (by omega) q, if_neg q, f3.atL (by omega), f2.atL (by omega), cl1]
      exact hL.1 j x y
  · rw [ptn_msk] at hzj
    by_cases q : j = k
    · rw [if_pos q] at hzj; exact absurd rfl hzj
    · rw [if_neg q] at hzj
      have hj' := hL.2.1 j x y hzj
      have lvj : lvol (ptn A k) j = lvol A j ∧ (fst A j ≠ snd A j → fa (ptn A k) j = fa A j ∧ sa (ptn A k) j = sa A j) := by
        unfold lvol fa sa
        rw [ptn_fst, ptn_snd, if_neg q, if_neg q]
        by_cases w : fst A j = snd A j
        · rw [if_pos w, if_pos w]; exact ⟨rfl, fun z => absurd w z⟩
        · have hc := h.2.2.1 j x (by omega) ⟨hzj, w⟩
          have n1 : fst A j ≠ k := fun z => by rw [z] at hc; omega
          have n2 : snd A j ≠ k := fun z => by rw [z] at hc; omega
          rw [if_neg w, if_neg w, ptn_msk, ptn_msk, if_neg n1, if_neg n2, ← (ptn_ge A k).cap]
          exact ⟨rfl, fun _ => ⟨rfl, rfl⟩⟩
      have fr5 : ∀ o, o ≠ l + 1 → o ≠ l + 3 → o ≠ l + 17 → fAtI o (ni j) (fPutL (l + 1) (ni k) (0 : Int64) M3) = fAtI o (ni j) M := by
        intro o y1 y2 y3
        exact f4.at (by unfold isP; omega) _
      unfold RLk at hj' ⊢
      rw [fr5 (l + 5) (by omega) (by omega) (by omega), fr5 (l + 7) (by omega) (by omega) (by omega), fr5 (l + 9) (by omega) (by omega) (by omega), fr5 (l + 11) (by omega) (by omega) (by omega), fr5 (l + 13) (by omega) (by omega) (by omega), fr5 (l + 15) (by omega) (by omega) (by omega), ptn_msk, if_neg q, ← (ptn_ge A k).cap, ← (ptn_ge A k).ps, lvj.1, (KP_ptn A k).bct, ptn_fst, ptn_snd, if_neg q, if_neg q]
      refine ⟨?_, hj'.2.1, hj'.2.2.1, hj'.2.2.2.1, hj'.2.2.2.2.1, fun w => ?_⟩
      · rw [atI_putL, f3.at (by omega), f2.at (by omega), ← hM1, fAtI_put zl.2.1 (by omega) (by omega) s0.1 (by omega) (by omega), fAtI_put zl.2.1 (by omega) (by omega) f0.1 (by omega) (by omega)]
        by_cases w1 : j = sa A k
        · rw [if_pos ⟨rfl, w1⟩, w1, vs]
        · rw [if_neg (fun z => w1 z.2)]
          by_cases w2 : j = fa A k
          · rw [if_pos ⟨rfl, w2⟩, w2, vf]
          · rw [if_neg (fun z => w2 z.2), hj'.1]
            have : nod (ptn A k) j = nod A j := by
              rcases pc with ⟨p1, p2⟩ | ⟨p1, p2⟩
              · exact ptn_nod q (by rw [← p1]; exact w2) (by rw [← p2]; exact w1)
              · exact ptn_nod q (by rw [← p2]; exact w1) (by rw [← p1]; exact w2)
            rw [nod_vol this]
      · rw [(lvj.2 w).1, (lvj.2 w).2]; exact hj'.2.2.2.2.2 w
  · rw [atI_putL, c3 c x y, c2 c x y, f1.at (by omega), hL.2.2 c x y, ptn_lk h h0 (by omega) ht a0 a1 e]
    split
    · rfl
    · split <;> rfl
/-- the stack of this side -/
def StC (l : Nat) (M : Mem) : List (Int × Int) → Prop
  | [] => True
  | q :: L => fAtI (l + 19) (ni (L.length : Int)) M = ni q.1 ∧ fAtI (l + 21) (ni (L.length : Int)) M = ni q.2 ∧ StC l M L
theorem StC_fr {l : Nat} {M M' : Mem} {L : List (Int × Int)} (h : StC l M L) (h5 : ∀ i : Nat, i < L.length → fAtI (l + 19) (ni (i : Int)) M' = fAtI (l + 19) (ni (i : Int)) M) (h6 : ∀ i : Nat, i < L.length → fAtI (l + 21) (ni (i : Int)) M' = fAtI (l + 21) (ni (i : Int)) M) : StC l M' L := by
  induction L with
  | nil => trivial
  | cons q L ih =>
    refine ⟨?_, ?_, ih h.2.2 (fun i hi => h5 i (by simp; omega)) (fun i hi => h6 i (by simp; omega))⟩
    · rw [h5 _ (by simp)]; exact h.1
    · rw [h6 _ (by simp)]; exact h.2.1
theorem RLs_put {l o : Nat} {M : Mem} {A : Ab} {i v : Int32} (h : RLs l M A) (ho : l + 18 < o) : RLs l (fPutI o i v M) A :=
  RLs_fr (P := fun p => p = o + 1) h (Fr.put rfl) (by omega) (by omega) (by omega) (by omega) (by omega) (by omega) (by omega) (by omega) (by omega)
theorem RLs_vol {l : Nat} {M : Mem} {A : Ab} (hL : RLs l M A) (zl : SzL l) {k v : Int} (h0 : 0 ≤ k) (h1 : k < 71) : RLs l (fPutI (l + 3) (ni k) (ni v) M) (aI A 4 k v) := by
  have ge := GE_vol A k v
  have em : ∀ j, msk (aI A 4 k v) j = msk A j := fun j => by simp [aI, msk]
  have el : ∀ j, lk (aI A 4 k v) j = lk A j := fun j => lkf_congr (fun i => by simp [aI, there]) em j 72
  refine ⟨fun j a b => ?_, fun j a b hz' => ?_, fun c a b => ?_⟩
  · rw [atL_putI, em]; exact hL.1 j a b
  · rw [em] at hz'
    have hj := hL.2.1 j a b hz'
    have elv : lvol (aI A 4 k v) j = lvol A j := by unfold lvol; rw [← ge.cap]; simp [aI, fst, snd, msk]
    have eb : bct (aI A 4 k v) (msk A j) = bct A (msk A j) := by unfold bct fp; rw [← ge.nn]; simp [aI, pits, bas]
    unfold RLk at hj ⊢
    simp (disch := omega) only [at_ne]
    rw [em, ← ge.cap, ← ge.ps, elv, eb]
    refine ⟨?_, hj.2.1, hj.2.2.1, hj.2.2.2.1, hj.2.2.2.2.1, ?_⟩
    · by_cases e : j = k
      · rw [e, at_eq zl.2.1 h0 (by omega) (by omega)]; simp [aI, vol]
      · rw [at_x zl.2.1 (by omega) (by omega) h0 (by omega) (by omega) e, hj.1]; simp [aI, vol, e]
    · have := hj.2.2.2.2.2
      unfold fa sa at *
      simpa [aI, fst, snd, msk] using this
  · rw [at_ne (by omega), el]; exact hL.2.2 c a b
theorem c_draw_loop {l : Nat} (zl : SzL l) : ∀ s : Nat, ∀ (A : Ab) (L : List (Int × Int)) (st : Int) (M : Mem), WF A → OkL A L → szL A L ≤ s → 0 ≤ st → st + szL A L ≤ 71 → RLs l M A → StC l M L → ∀ fuel, s < fuel → ∃ r M', lpM (fun s M9 => LK_draw_L23 l s.1 s.2 M9) fuel (ni (L.length : Int), ni st) M = some (r, M') ∧ RLs l M' (rnL A L) ∧ Fr (isLk l) M M' := by
  intro s
  induction s with
  | zero =>
    intro A L st M hW hL hs' hst _ hR hS fuel hf
    obtain ⟨m, rfl⟩ : ∃ m, fuel = m + 1 := ⟨fuel - 1, by omega⟩
    have := szL_len hW hL
    obtain rfl : L = [] := List.eq_nil_of_length_eq_zero (by omega)
    refine ⟨(), M, ?_, hR, Fr.rfl'⟩
    have : LK_draw_L23 l (ni 0) (ni st) M = some (.inr (), M) := by
      unfold LK_draw_L23
      split
      · rfl
      · rw [if_pos (by decide)]
    simp [lpM, this]
  | succ s ih =>
    intro A L st M hW hL hs' hst h71 hR hS fuel hf
    obtain ⟨m, rfl⟩ : ∃ m, fuel = m + 1 := ⟨fuel - 1, by omega⟩
    cases L with
    | nil =>
      refine ⟨(), M, ?_, hR, Fr.rfl'⟩
      have : LK_draw_L23 l (ni 0) (ni st) M = some (.inr (), M) := by
        unfold LK_draw_L23
        split
        · rfl
        · rw [if_pos (by decide)]
      simp [lpM, this]
    | cons q L =>
      obtain ⟨k, a⟩ := q
      have hlen := szL_len hW hL
      have hL0 := hL
      obtain ⟨⟨⟨h0, h1⟩, ht, a0, a1, hne⟩, hL'⟩ := hL
      dsimp only at h0 h1 ht a0 a1 hne
      obtain ⟨s1, s2, s3⟩ := hS
      dsimp only at s1 s2
      simp only [List.length_cons] at hlen ⊢
      have hv := (hW.2.1.1 k h0 (by omega)).2.2.2
      have hz := hW.2.1.2.2.1 k h0 (by omega) ht
      have hsk := sz_bd hW h0 (show k < 72 by omega) hz
      have hk := hR.2.1 k h0 h1 hz
      have hlb : 0 - 2 ≤ lvol A k ∧ lvol A k ≤ 7200 := by
        have b1 := cap_bd hW.1 (msk A (fst A k))
        have b2 := cap_bd hW.1 (msk A (snd A k))
        unfold lvol
        split <;> omega
      have hsz1 : 1 ≤ szL A ((k, a) :: L) := by omega
      have hdue : ni ((L.length + 1 : Nat) : Int) + (-1 : Int32) = ni (L.length : Int) := by
        rw [show (-1 : Int32) = ni (-1) from rfl, ni_add]; refine congrArg ni ?_; omega
      have hst1 : ni st + (1 : Int32) = ni (st + 1) := by rw [show (1 : Int32) = ni 1 from rfl, ni_add]
      by_cases e : lvol A k ≤ vol A k - a
      · obtain ⟨w1, w2, w3, w4⟩ := stk_leaf hW hL0 e
        have hstep : LK_draw_L23 l (ni ((L.length + 1 : Nat) : Int)) (ni st) M = some (.inl (ni (L.length : Int), ni (st + 1)), fPutI (l + 3) (ni k) (ni (vol A k - a)) M) := by
          unfold LK_draw_L23
          rw [hdue, s1, s2, hk.2.2.2.1, hk.1, hst1]
          simp (disch := omega) only [show (71 : Int32) = ni 71 from rfl, show (0 : Int32) = ni 0 from rfl, ni_le, ni_sub]
          rw [if_neg (by omega), if_neg (by omega), if_pos (by omega)]
        have R3 := RLs_vol hR zl h0 h1 (v := vol A k - a)
        obtain ⟨r, M', q5, R5, F5⟩ := ih _ L (st + 1) (fPutI (l + 3) (ni k) (ni (vol A k - a)) M) w1 w2 (by omega) (by omega) (by omega) R3 (StC_fr s3 (fun i hi => at_ne (by omega)) (fun i hi => at_ne (by omega))) m (by omega)
        refine ⟨r, M', ?_, by rw [w4]; exact R5, (Fr.put (by unfold isLk; omega)).trans F5⟩
        simp only [lpM, hstep, Option.bind_some]
        exact q5
      · obtain ⟨⟨-, w1⟩, ⟨-, w2⟩, -, w3⟩ := stk_part hW hL0 e
        obtain ⟨hj, pw, pwat, pc, f0, s0, fs, fk, sk, tf, ts, vf, vs, lv, r1, r2, z1, z2, z3, hor, hd, mf, ms, tf0, ts0⟩ := dw_part hW h0 (by omega) ht a0 a1 e
        obtain ⟨M2, q2, R2, F2⟩ := c_partLake hR hW zl h0 h1 ht a0 a1 e
        obtain ⟨k1, k2⟩ := hk.2.2.2.2.2 hj.2
        have k1' : fAtI (l + 13) (ni k) M2 = ni (fa A k) := by rw [F2.at (by unfold isP; omega)]; exact k1
        have k2' : fAtI (l + 15) (ni k) M2 = ni (sa A k) := by rw [F2.at (by unfold isP; omega)]; exact k2
        have vf' : fAtI (l + 3) (ni (fa A k)) M2 = ni (cap A (msk A (fa A k))) := by
          have := (R2.2.1 (fa A k) f0.1 f0.2 (by rw [ptn_msk, if_neg fk]; exact mf)).1
          rw [vf] at this; exact this
        have hcb1 := cap_bd hW.1 (msk A (fa A k))
        have hmin : JM_min (ni (lvol A k - (vol A k - a))) (ni (cap A (msk A (fa A k)))) = ni (dwf A k a) := by
          rw [JM_min_ni (by omega) (by omega) (by omega) (by omega)]; rfl
        have hp1 : ni (L.length : Int) + (1 : Int32) = ni ((L.length + 1 : Nat) : Int) := ni_s _
        have hp2 : ni (L.length : Int) + (2 : Int32) = ni ((L.length + 2 : Nat) : Int) := by
          rw [show (2 : Int32) = ni 2 from rfl, ni_add]; rfl
        obtain ⟨M5, hM5⟩ : ∃ M5, fPutI (l + 21) (ni ((L.length + 1 : Nat) : Int)) (ni (lvol A k - (vol A k - a) - dwf A k a)) (fPutI (l + 19) (ni ((L.length + 1 : Nat) : Int)) (ni (sa A k)) (fPutI (l + 21) (ni (L.length : Int)) (ni (dwf A k a)) (fPutI (l + 19) (ni (L.length : Int)) (ni (fa A k)) M2))) = M5 := ⟨_, rfl⟩
        have hstep : LK_draw_L23 l (ni ((L.length + 1 : Nat) : Int)) (ni st) M = some (.inl (ni ((L.length + 2 : Nat) : Int), ni (st + 1)), M5) := by
          unfold LK_draw_L23
          rw [hdue, s1, s2, hk.2.2.2.1, hk.1, hst1, hp1, hp2]
          simp (disch := omega) only [show (71 : Int32) = ni 71 from rfl, show (0 : Int32) = ni 0 from rfl, ni_le, ni_sub]
          rw [if_neg (by omega), if_neg (by omega), if_neg (by omega), q2, b2_s]
          simp (disch := omega) only [at_ne, k1', k2', vf', hmin, ni_sub]
          rw [hM5]
        have R5 : RLs l M5 (ptn A k) := by
          rw [← hM5]
          exact RLs_put (RLs_put (RLs_put (RLs_put R2 (by omega)) (by omega)) (by omega)) (by omega)
        have F5 : Fr (isLk l) M M5 := by
          rw [← hM5]
          exact ((((F2.mono (fun p hp => by unfold isP at hp; unfold isLk; omega)).trans (Fr.put (by unfold isLk; omega))).trans (Fr.put (by unfold isLk; omega))).trans (Fr.put (by unfold isLk; omega))).trans (Fr.put (by unfold isLk; omega))
        have S5 : StC l M5 ((sa A k, lvol A k - (vol A k - a) - dwf A k a) :: (fa A k, dwf A k a) :: L) := by
          rw [← hM5]
          have hl : (L.length : Int) + 1 < 71 := by
            have := szL_len pw w1
            simp only [List.length_cons] at this
            omega
          have c1 : ((L.length + 1 : Nat) : Int) = (L.length : Int) + 1 := by omega
          refine ⟨?_, ?_, ?_, ?_, StC_fr s3 (fun i hi => ?_) (fun i hi => ?_)⟩
          · show fAtI (l + 19) (ni ((L.length + 1 : Nat) : Int)) _ = _
            rw [at_ne (by omega), at_eq zl.2.2.2.2.2.2.2.2.2.1 (by omega) (by omega) (by omega)]
          · show fAtI (l + 21) (ni ((L.length + 1 : Nat) : Int)) _ = _
            rw [at_eq zl.2.2.2.2.2.2.2.2.2.2 (by omega) (by omega) (by omega)]
          · show fAtI (l + 19) (ni (L.length : Int)) _ = _
            rw [at_ne (by omega), at_x zl.2.2.2.2.2.2.2.2.2.1 (by omega) (by omega) (by omega) (by omega) (by omega) (by omega), at_ne (by omega), at_eq zl.2.2.2.2.2.2.2.2.2.1 (by omega) (by omega) (by omega)]
          · show fAtI (l + 21) (ni (L.length : Int)) _ = _
            rw [at_x zl.2.2.2.2.2.2.2.2.2.2 (by omega) (by omega) (by omega) (by omega) (by omega) (by omega), at_ne (by omega), at_eq zl.2.2.2.2.2.2.2.2.2.2 (by omega) (by omega) (by omega)]
          · rw [at_ne (by omega), at_x zl.2.2.2.2.2.2.2.2.2.1 (by omega) (by omega) (by omega) (by omega) (by omega) (by omega), at_ne (by omega), at_x zl.2.2.2.2.2.2.2.2.2.1 (by omega) (by omega) (by omega) (by omega) (by omega) (by omega), F2.at (by unfold isP; omega)]
          · rw [at_x zl.2.2.2.2.2.2.2.2.2.2 (by omega) (by omega) (by omega) (by omega) (by omega) (by omega), at_ne (by omega), at_x zl.2.2.2.2.2.2.2.2.2.2 (by omega) (by omega) (by omega) (by omega) (by omega) (by omega), at_ne (by omega), F2.at (by unfold isP; omega)]
        obtain ⟨r, M', q5, R6, F6⟩ := ih (ptn A k) ((sa A k, lvol A k - (vol A k - a) - dwf A k a) :: (fa A k, dwf A k a) :: L) (st + 1) M5 pw w1 (by omega) (by omega) (by omega) R5 S5 m (by omega)
        refine ⟨r, M', ?_, by rw [w3]; exact R6, F5.trans F6⟩
        simp only [lpM, hstep, Option.bind_some]
        exact q5
theorem c_draw {l : Nat} (zl : SzL l) {M : Mem} {A : Ab} (hR : RLs l M A) (hW : WF A) {k a : Int} (h0 : 0 ≤ k) (h1 : k < 71) (ht : there A k = 1) (a0 : 0 ≤ a) (a1 : a ≤ vol A k) : ∃ M', LK_draw l (ni k) (ni a) M = some ((), M') ∧ RLs l M' (DW A k a) ∧ Fr (isLk l) M M' := by
  have hz := hW.2.1.2.2.1 k h0 (by omega) ht
  have hsk := sz_bd hW h0 (show k < 72 by omega) hz
  have hL : OkL A [(k, a)] := by simp only [OkL]; exact ⟨⟨⟨h0, h1⟩, ht, a0, a1, fun e he => by cases he⟩, trivial⟩
  have hs' : szL A [(k, a)] = szn A k := by simp [szL]
  obtain ⟨r, M', q, R, F⟩ := c_draw_loop zl 71 A [(k, a)] 0 (fPutI (l + 21) (0 : Int32) (ni a) (fPutI (l + 19) (0 : Int32) (ni k) M)) hW hL (by omega) (by omega) (by omega) (RLs_put (RLs_put hR (by omega)) (by omega)) ⟨by
    show fAtI (l + 19) (ni 0) (fPutI (l + 21) (ni 0) (ni a) (fPutI (l + 19) (ni 0) (ni k) M)) = ni k
    rw [at_ne (by omega), at_eq zl.2.2.2.2.2.2.2.2.2.1 (by omega) (by omega) (by omega)], by
    show fAtI (l + 21) (ni 0) (fPutI (l + 21) (ni 0) (ni a) (fPutI (l + 19) (ni 0) (ni k) M)) = ni a
    rw [at_eq zl.2.2.2.2.2.2.2.2.2.2 (by omega) (by omega) (by omega)], trivial⟩ FUEL (by have := FUEL_big; omega)
  refine ⟨M', ?_, R, ((Fr.put (by unfold isLk; omega)).trans (Fr.put (by unfold isLk; omega))).trans F⟩
  unfold LK_draw
  rw [show ((1 : Int32), (0 : Int32)) = (ni (([(k, a)] : List (Int × Int)).length : Int), ni 0) from rfl, q, b2_s]
