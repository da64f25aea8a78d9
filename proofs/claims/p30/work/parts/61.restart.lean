/-! 61.restart: lakes begin anew, on one side; what holds of a forest -/
theorem mk_ne {A : Ab} (g : WFg A) {k : Int} (h0 : 0 ≤ k) (h1 : k < npt A) : mk A k ≠ 0 := by
  have hn := nn_bd g
  -- the leader with this number
  have : ∃ c : Nat, c < (nn A).toNat ∧ ldr A c = true ∧ ldn A c = k := by
    have key : ∀ m : Nat, k < ldn A m → ∃ c : Nat, c < m ∧ ldr A c = true ∧ ldn A c = k := by
      intro m
      induction m with
      | zero => intro h; have : ldn A 0 = 0 := rfl
                omega
      | succ m ih =>
        intro h
        by_cases e : k < ldn A m
        · obtain ⟨c, a, b⟩ := ih e
          exact ⟨c, by omega, b⟩
        · rw [ldn_succ] at h
          by_cases q : ldr A m = true
          · rw [if_pos q] at h
            exact ⟨m, by omega, q, by omega⟩
          · rw [if_neg q] at h; omega
    exact key _ h1
  obtain ⟨c, c1, c2, c3⟩ := this
  have hi := ldr_iff.mp c2
  refine ne_zero (c := (c : Int)) ((mk_hs g k c).mpr ⟨h0, by omega, by omega, ?_⟩)
  rw [(bsn_pit hi.1).2, hi.2]
  exact c3
theorem mk_z {A : Ab} (g : WFg A) {k : Int} (h : ¬ (0 ≤ k ∧ k < npt A)) : mk A k = 0 := by
  apply hs_ext
  intro c _ _
  rw [hs_zero]
  cases q : hs (mk A k) c with
  | false => rfl
  | true =>
    have := (mk_hs g k c).mp q
    have := bsn_rg g this.2.1 this.2.2.1
    omega
theorem fnd_there (A : Ab) (k : Int) : there (fnd A) k = if 0 ≤ k ∧ k < npt A then 1 else 0 := by simp [fnd, there]
theorem fnd_msk (A : Ab) (k : Int) : msk (fnd A) k = mk A k := by simp [fnd, msk]
theorem fnd_vol (A : Ab) (k : Int) : vol (fnd A) k = 0 := by simp [fnd, vol]
theorem fnd_fst (A : Ab) (k : Int) : fst (fnd A) k = 0 := by simp [fnd, fst]
theorem fnd_snd (A : Ab) (k : Int) : snd (fnd A) k = 0 := by simp [fnd, snd]
theorem fnd_bnn (A : Ab) : bnn (fnd A) = npt A := by simp [fnd, bnn]
theorem fnd_bas (A : Ab) {c : Int} (h0 : 0 ≤ c) (h1 : c < nn A) : bas (fnd A) c = bsn A c := by simp [fnd, bas, h0, h1]
theorem fnd_pits (A : Ab) : pits (fnd A) = pts A := by simp [fnd, pits]
theorem fnd_WFg {A : Ab} (g : WFg A) : WFg (fnd A) := (fnd_ge A).WFg g
theorem fnd_nn (A : Ab) : nn (fnd A) = nn A := ((fnd_ge A).nn).symm
theorem fnd_WFb {A : Ab} (g : WFg A) : WFb (fnd A) := by
  have hn := nn_bd g
  have hp := npt_bd g
  refine ⟨fun k h0 h1 => ⟨?_, ?_, ?_, ?_⟩, fun k c h0 h1 hh => ?_, fun k h0 h1 hh => ?_, fun k j c h0 h1 h2 h3 t1 t2 q1 q2 => ?_, ?_⟩
  · rw [fnd_there]; split <;> omega
  · rw [fnd_fst]; omega
  · rw [fnd_snd]; omega
  · rw [fnd_vol]; omega
  · rw [fnd_msk] at hh
    rw [fnd_nn]
    have := (mk_hs g k c).mp hh
    omega
  · rw [fnd_there] at hh
    rw [fnd_msk]
    split at hh
    · rename_i q; exact mk_ne g q.1 q.2
    · omega
  · rw [fnd_msk] at q1 q2
    have a1 := (mk_hs g k c).mp q1
    have a2 := (mk_hs g j c).mp q2
    omega
  · rw [fnd_msk]; exact mk_z g (by omega)
theorem fnd_lk {A : Ab} (g : WFg A) {c : Int} (h0 : 0 ≤ c) (h1 : c < 36) : lk (fnd A) c = if c < nn A then bsn A c else -1 := by
  have hn := nn_bd g
  have hp := npt_bd g
  by_cases q : c < nn A
  · rw [if_pos q]
    rcases bsn_rg g h0 q with e | ⟨a, b, _⟩
    · rcases lk_spec (fnd A) c with ⟨z, _⟩ | ⟨z0, z1, z2, z3⟩
      · rw [z, e]
      · rw [fnd_msk] at z3
        have := (mk_hs g _ c).mp z3
        omega
    · refine lk_eq (fnd_WFb g) a (by omega) ?_ ?_
      · rw [fnd_there, if_pos ⟨a, b⟩]
      · rw [fnd_msk]; exact (mk_hs g _ c).mpr ⟨a, h0, q, rfl⟩
  · rw [if_neg q]
    exact lk_out (fnd_WFb g) (by rw [fnd_nn]; omega)
theorem fnd_fp {A : Ab} (g : WFg A) {c : Int} (h0 : 0 ≤ c) (h1 : c < nn A) : fp (fnd A) c = ldr A c := by
  have hn := nn_bd g
  have hb : ∀ b : Nat, (b : Int) < c → (hs (pits (fnd A)) (b : Int) && decide (bas (fnd A) b = bas (fnd A) c)) = (ipt A b && decide (bsn A b = bsn A c)) := by
    intro b hb
    rw [fnd_pits, fnd_bas A (by omega) (by omega), fnd_bas A h0 h1]
    congr 1
    rw [Bool.eq_iff_iff, pts_hs g]
    constructor
    · rintro ⟨_, _, z⟩; exact z
    · intro z; exact ⟨by omega, by omega, z⟩
  have e1 : ff c.toNat (fun b => hs (pits (fnd A)) (b : Int) && decide (bas (fnd A) b = bas (fnd A) c)) = ff c.toNat (fun b => ipt A b && decide (bsn A b = bsn A c)) := ff_congr (fun i hi => hb i (by omega))
  have e2 : hs (pits (fnd A)) c = ipt A c := by
    rw [fnd_pits, Bool.eq_iff_iff, pts_hs g]
    exact ⟨fun z => z.2.2, fun z => ⟨h0, h1, z⟩⟩
  unfold fp
  rw [e1, e2]
  cases hi : ipt A c with
  | false => unfold ldr; rw [hi]; rfl
  | true =>
    obtain ⟨l0, l1, l2, l3⟩ := pit_ldr g h0 h1 hi
    have hlo := lo_spec (pl_ne g h0 h1)
    have hle : lo (pl A c) ≤ c := by
      by_cases q : lo (pl A c) ≤ c
      · exact q
      · have := hlo.2.2 c (by omega)
        rw [pl_self g h0 h1] at this; cases this
    unfold ldr
    rw [hi, Bool.true_and, Bool.true_and]
    rcases ff_spec c.toNat (fun b => ipt A b && decide (bsn A b = bsn A c)) with ⟨e, hno⟩ | ⟨k, k1, k2, k3, k4⟩
    · rw [e]
      by_cases q : lo (pl A c) = c
      · simp [q]
      · exfalso
        have := hno (lo (pl A c)).toNat (by omega)
        rw [Int.toNat_of_nonneg l0] at this
        have i1 := (ldr_iff.mp l2).1
        have e3 : bsn A (lo (pl A c)) = bsn A c := by rw [(bsn_pit i1).2, (bsn_pit hi).2, l3]
        rw [i1, e3] at this
        simp at this
    · rw [k2]
      simp only [Bool.and_eq_true, decide_eq_true_eq] at k3
      have hk := pit_ldr g (show 0 ≤ (k : Int) by omega) (by omega) k3.1
      have hkb := (bsn_pit k3.1).2
      have hcb := (bsn_pit hi).2
      have := ldn_inj (A := A) (i := (lo (pl A (k : Int))).toNat) (j := (lo (pl A c)).toNat) (by rw [Int.toNat_of_nonneg hk.1]; exact hk.2.2.1) (by rw [Int.toNat_of_nonneg l0]; exact l2) (by rw [← hkb, ← hcb]; exact k3.2)
      have hlok := lo_spec (pl_ne g (show 0 ≤ (k : Int) by omega) (by omega))
      have hlek : lo (pl A (k : Int)) ≤ k := by
        by_cases q : lo (pl A (k : Int)) ≤ k
        · exact q
        · have := hlok.2.2 (k : Int) (by omega)
          rw [pl_self g (by omega) (by omega)] at this; cases this
      have : ¬ lo (pl A c) = c := by omega
      have h' : ¬ ((k : Int) = -1) := by omega
      simp [this, h']
theorem fnd_bct {A : Ab} (g : WFg A) {k : Int} (h0 : 0 ≤ k) (h1 : k < npt A) : bct (fnd A) (mk A k) = 1 := by
  have hn := nn_bd g
  obtain ⟨l1, l2, l3⟩ := lo_spec (mk_ne g h0 h1)
  have hm := (mk_hs g k _).mp l2
  have hi : ipt A (fin A (lo (mk A k))) = true := by
    rcases bsn_rg g hm.2.1 hm.2.2.1 with e | ⟨_, _, e⟩
    · omega
    · exact e
  obtain ⟨f0, f1, f2⟩ := fin_rg g hm.2.1 hm.2.2.1
  obtain ⟨p0, p1, p2, p3⟩ := pit_ldr g f0 f1 hi
  have hk : ldn A (lo (pl A (fin A (lo (mk A k))))).toNat = k := by
    have := hm.2.2.2
    unfold bsn at this
    rw [if_pos hi] at this
    exact this
  generalize hr : lo (pl A (fin A (lo (mk A k)))) = r at *
  have hrb : bsn A r = k := by
    have i1 := (ldr_iff.mp p2)
    rw [(bsn_pit i1.1).2, i1.2]; exact hk
  unfold bct
  simp only [ct]
  rw [fnd_nn, sm_single (k := r.toNat) (by omega)]
  · simp only [Int.toNat_of_nonneg p0, (mk_hs g k r).mpr ⟨h0, p0, p1, hrb⟩, fnd_fp g p0 p1, p2]; rfl
  · intro i hi' hne
    rw [if_neg]
    simp only [Bool.and_eq_true]
    rintro ⟨a, b⟩
    rw [fnd_fp g (by omega) (by omega)] at b
    have a' := (mk_hs g k i).mp a
    have i1 := ldr_iff.mp b
    have e : ldn A i = k := by
      have := a'.2.2.2
      rw [(bsn_pit i1.1).2, i1.2] at this
      exact this
    have := ldn_inj (A := A) (i := i) (j := r.toNat) b (by rw [Int.toNat_of_nonneg p0]; exact p2) (by rw [e, hk])
    exact hne this
theorem cpy_at {o a n : Nat} {M : Mem} {c : Int} (hn : nC (o + 1) = n) (hn' : nC (a + 1) = n) (h0 : 0 ≤ c) (h1 : c < n) (h2 : c < 2147483648) : fAtI o (ni c) (fCpyI o a M) = fAtI a (ni c) M := by
  rw [fAtI_in hn h0 h1 h2, fAtI_in hn' h0 h1 h2]
  unfold fCpyI cpyI gI
  dsimp only
  rw [if_pos ⟨rfl, by rw [hn, hn']; simp; omega⟩]
theorem cpyL_at {o a n : Nat} {M : Mem} {c : Int} (hn : nC (o + 1) = n) (hn' : nC (a + 1) = n) (h0 : 0 ≤ c) (h1 : c < n) (h2 : c < 2147483648) : fAtL o (ni c) (fCpyL o a M) = fAtL a (ni c) M := by
  rw [fAtL_in hn h0 h1 h2, fAtL_in hn' h0 h1 h2]
  unfold fCpyL cpyL gL
  dsimp only
  rw [if_pos ⟨rfl, by rw [hn, hn']; simp; omega⟩]
theorem Fr.cpy {o a : Nat} {M : Mem} {P : Nat → Prop} (hp : P (o + 1)) : Fr P M (fCpyI o a M) := by
  intro p hq
  have : p ≠ o + 1 := fun e => hq (e ▸ hp)
  exact ⟨fun k => by simp [fCpyI, cpyI, this], fun k => rfl⟩
theorem Fr.cpyL {o a : Nat} {M : Mem} {P : Nat → Prop} (hp : P (o + 1)) : Fr P M (fCpyL o a M) := by
  intro p hq
  have : p ≠ o + 1 := fun e => hq (e ▸ hp)
  exact ⟨fun k => rfl, fun k => by simp [fCpyL, _root_.Jvm.Pilot.CLakeLevelsLaw_law_r3285_cc1abe.cpyL, this]⟩
/-- the cells of the lakes' rows -/
def isLk (l p : Nat) : Prop := l + 2 ≤ p ∧ p ≤ l + 22
theorem c_restart {w : Nat} {M : Mem} {A : Ab} (hG : RG (w + 1) M A) (hT : RT (w + 1) M A) (hY : RY (w + 12) M A (npt A) (bsn A)) (g : WFg A) (zg : SzG (w + 1)) (zy : SzY (w + 12)) (zl : SzL (w + 19)) : ∃ M', LK_restart (w + 19) (w + 1) (w + 12) M = some ((), M') ∧ RLs (w + 19) M' (fnd A) ∧ Fr (isLk (w + 19)) M M' := by
  have hn := nn_bd g
  have hp := npt_bd g
  have f0 : Fr (isLk (w + 19)) M (fCpyI (w + 19 + 17) (w + 12 + 5) (fFillL (w + 19 + 1) (0 : Int64) M)) := (Fr.fillL (show isLk _ _ by unfold isLk; omega)).trans (Fr.cpy (show isLk _ _ by unfold isLk; omega))
  have fG : ∀ M', Fr (isLk (w + 19)) M M' → RG (w + 1) M' A := fun M' f => RG_fr hG f (by unfold isLk; omega) (by unfold isLk; omega) (by unfold isLk; omega) (by unfold isLk; omega)
  have fT : ∀ M', Fr (isLk (w + 19)) M M' → RT (w + 1) M' A := fun M' f => RT_fr hT f (by unfold isLk; omega) (by unfold isLk; omega)
  have l1 : ∃ r M1, lpM (fun s M9 => LK_restart_L21 (w + 19) (w + 1) (w + 12) s M9) FUEL (0 : Int32) (fCpyI (w + 19 + 17) (w + 12 + 5) (fFillL (w + 19 + 1) (0 : Int64) M)) = some (r, M1) ∧ (Fr (isLk (w + 19)) M M1 ∧ (∀ k, 0 ≤ k → k < 71 → fAtL (w + 19 + 1) (ni k) M1 = mk A k) ∧ ∀ c, 0 ≤ c → c < 36 → fAtI (w + 19 + 17) (ni c) M1 = ni (if c < nn A then bsn A c else -1)) := by
    refine lpM_to (nn A).toNat (by omega) (fun i s M' => s = ni (i : Int) ∧ Fr (isLk (w + 19)) M M' ∧ (∀ k, 0 ≤ k → k < 71 → fAtL (w + 19 + 1) (ni k) M' = mks (fun b => decide (0 ≤ k ∧ (b : Int) < nn A ∧ bsn A b = k)) i) ∧ ∀ c, 0 ≤ c → c < 36 → fAtI (w + 19 + 17) (ni c) M' = ni (if c < nn A then bsn A c else -1)) _ ?_ ?_ ⟨rfl, f0, fun k a b => ?_, fun c a b => ?_⟩
    · rintro i hi s M1 ⟨rfl, hF, hk, hc⟩
      have hG1 := fG M1 hF
      have hb := bsn_rg g (show 0 ≤ (i : Int) by omega) (by omega)
      unfold LK_restart_L21
      rw [hG1.1.2.2.1, hc (i : Int) (by omega) (by omega), if_pos (show (i : Int) < nn A by omega), LL_bit_eq, ni_s]
      simp (disch := omega) only [ni_le]
      rw [if_neg (by omega)]
      refine ⟨_, _, rfl, rfl, hF.trans (Fr.putL (by unfold isLk; omega)), fun k a b => ?_, fun c a b => ?_⟩
      · simp only [mks]
        rcases hb with e | ⟨b0, b1, b2⟩
        · rw [show ni (bsn A (i : Int)) = ni (-1) by rw [e], putL_out zl.1 (by omega) (by omega) (by omega), hk k a b, if_neg]
          simp only [decide_eq_true_eq]
          omega
        · rw [fAtL_put zl.1 (by omega) (by omega) b0 (by omega) (by omega)]
          by_cases q : k = bsn A i
          · rw [if_pos ⟨rfl, q⟩, if_pos (by simp; omega), ← q, hk k a b]
          · rw [if_neg (fun z => q z.2), if_neg (by simp; omega), hk k a b]
      · rw [atI_putL]; exact hc c a b
    · rintro s M1 ⟨rfl, hF, hk, hc⟩
      have hG1 := fG M1 hF
      refine ⟨(), M1, ?_, hF, fun k a b => ?_, hc⟩
      · unfold LK_restart_L21
        rw [hG1.1.2.2.1]
        simp (disch := omega) only [ni_le]
        rw [if_pos (by omega)]
      · rw [hk k a b]
        unfold mk
        exact (mks_cut _ (by omega) (by omega) (fun j h1 h2 => by simp; intros; omega)).symm
    · rw [(Fr.cpy (P := fun p => p = w + 19 + 17 + 1) rfl).atL (by omega), fillL_at zl.1 a b (by omega)]; rfl
    · rw [cpy_at zl.2.2.2.2.2.2.2.2.1 zy.2.2 a b (by omega), (Fr.fillL (P := fun p => p = w + 19 + 1 + 1) rfl).at (by omega)]
      exact hY.2.2 c a b
  obtain ⟨r1, M1, k1, f1, hk1, hc1⟩ := l1
  have hy1 : ∀ M', Fr (isLk (w + 19)) M M' → gI M' (w + 12) 0 = ni (npt A) := fun M' f => by rw [f.gI (by unfold isLk; omega)]; exact hY.1
  have l2 : ∃ r M2, lpM (fun s M9 => LK_restart_L70 (w + 19) (w + 1) (w + 12) s M9) FUEL (0 : Int32) M1 = some (r, M2) ∧ (Fr (isLk (w + 19)) M M2 ∧ (∀ k, 0 ≤ k → k < 71 → fAtL (w + 19 + 1) (ni k) M2 = mk A k) ∧ (∀ c, 0 ≤ c → c < 36 → fAtI (w + 19 + 17) (ni c) M2 = ni (if c < nn A then bsn A c else -1)) ∧ ∀ k, 0 ≤ k → k < npt A → RLk (w + 19) M2 (fnd A) k) := by
    refine lpM_to (npt A).toNat (by omega) (fun i s M' => s = ni (i : Int) ∧ Fr (isLk (w + 19)) M M' ∧ (∀ k, 0 ≤ k → k < 71 → fAtL (w + 19 + 1) (ni k) M' = mk A k) ∧ (∀ c, 0 ≤ c → c < 36 → fAtI (w + 19 + 17) (ni c) M' = ni (if c < nn A then bsn A c else -1)) ∧ ∀ k, 0 ≤ k → k < (i : Int) → RLk (w + 19) M' (fnd A) k) _ ?_ ?_ ⟨rfl, f1, hk1, hc1, fun k a b => by omega⟩
    · rintro i hi s M2 ⟨rfl, hF, hk, hc, hR⟩
      -- the rows that are put first
      have fp1 : Fr (isLk (w + 19)) M2 (fPutI (w + 19 + 15) (ni (i : Int)) (-1 : Int32) (fPutI (w + 19 + 13) (ni (i : Int)) (-1 : Int32) (fPutI (w + 19 + 11) (ni (i : Int)) (1 : Int32) (fPutI (w + 19 + 9) (ni (i : Int)) (0 : Int32) (fPutI (w + 19 + 3) (ni (i : Int)) (0 : Int32) M2))))) :=
        ((((Fr.put (by unfold isLk; omega)).trans (Fr.put (by unfold isLk; omega))).trans (Fr.put (by unfold isLk; omega))).trans (Fr.put (by unfold isLk; omega))).trans (Fr.put (by unfold isLk; omega))
      have hF3 := hF.trans fp1
      have hm3 : fAtL (w + 19 + 1) (ni (i : Int)) (fPutI (w + 19 + 15) (ni (i : Int)) (-1 : Int32) (fPutI (w + 19 + 13) (ni (i : Int)) (-1 : Int32) (fPutI (w + 19 + 11) (ni (i : Int)) (1 : Int32) (fPutI (w + 19 + 9) (ni (i : Int)) (0 : Int32) (fPutI (w + 19 + 3) (ni (i : Int)) (0 : Int32) M2))))) = mk A i := by
        simp only [atL_putI]; exact hk _ (by omega) (by omega)
      have e1 := c_findPass (l := w + 19) (k := i) (fG _ hF3) (fT _ hF3) g hm3
      have hF4 := hF3.trans (Fr.put (P := isLk (w + 19)) (o := w + 19 + 7) (i := ni (i : Int)) (v := ni (ps A (mk A i))) (M := (fPutI (w + 19 + 15) (ni (i : Int)) (-1 : Int32) (fPutI (w + 19 + 13) (ni (i : Int)) (-1 : Int32) (fPutI (w + 19 + 11) (ni (i : Int)) (1 : Int32) (fPutI (w + 19 + 9) (ni (i : Int)) (0 : Int32) (fPutI (w + 19 + 3) (ni (i : Int)) (0 : Int32) M2)))))) (by unfold isLk; omega))
      have e2 := c_findCapacity (l := w + 19) (k := i) (fG _ hF4) (fT _ hF4) g (m := mk A i) (by rw [atL_putI]; exact hm3) (by rw [fAtI_put zl.2.2.2.1 (by omega) (by omega) (by omega) (by omega) (by omega), if_pos ⟨rfl, rfl⟩]) zg
      unfold LK_restart_L70
      rw [hy1 M2 hF, ni_s]
      simp (disch := omega) only [ni_le]
      rw [if_neg (by omega), e1, b2_s, e2, b2_s]
      refine ⟨_, _, rfl, rfl, hF4.trans (Fr.put (by unfold isLk; omega)), fun k a b => ?_, fun c a b => ?_, fun k a b => ?_⟩
      · simp only [atL_putI]; exact hk k a b
      · simp (disch := omega) only [fAtI_put zl.2.2.1, fAtI_put zl.2.2.2.1, fAtI_put zl.2.1, fAtI_put zl.2.2.2.2.1, fAtI_put zl.2.2.2.2.2.1, fAtI_put zl.2.2.2.2.2.2.1, fAtI_put zl.2.2.2.2.2.2.2.1]
        simp
        exact hc c a b
      · unfold RLk
        simp (disch := omega) only [fAtI_put zl.2.2.1, fAtI_put zl.2.2.2.1, fAtI_put zl.2.1, fAtI_put zl.2.2.2.2.1, fAtI_put zl.2.2.2.2.2.1, fAtI_put zl.2.2.2.2.2.2.1, fAtI_put zl.2.2.2.2.2.2.2.1]
        by_cases q : k = (i : Int)
        · subst q
          have hlv : lvol (fnd A) (i : Int) = 0 := by unfold lvol; rw [fnd_fst, fnd_snd]; simp
          rw [fnd_vol, fnd_msk, ← (fnd_ge A).cap, ← (fnd_ge A).ps, hlv, fnd_bct g (by omega) (by omega), fnd_fst, fnd_snd]
          simp
          exact ⟨rfl, rfl⟩
        · have h := hR k a (by omega)
          unfold RLk at h
          simp [q]
          exact h
    · rintro s M2 ⟨rfl, hF, hk, hc, hR⟩
      refine ⟨(), M2, ?_, hF, hk, hc, fun k a b => hR k a (by omega)⟩
      unfold LK_restart_L70
      rw [hy1 M2 hF]
      simp (disch := omega) only [ni_le]
      rw [if_pos (by omega)]
  obtain ⟨r2, M2, k2, f2, hk2, hc2, hR2⟩ := l2
  refine ⟨M2, ?_, ⟨fun k a b => ?_, fun k a b hz => ?_, fun c a b => ?_⟩, f2⟩
  · unfold LK_restart
    rw [k1, b2_s, k2, b2_s]
  · rw [fnd_msk]; exact hk2 k a b
  · rw [fnd_msk] at hz
    by_cases q : k < npt A
    · exact hR2 k a q
    · exact absurd (mk_z g (by omega)) hz
  · rw [fnd_lk g a b]; exact hc2 c a b
