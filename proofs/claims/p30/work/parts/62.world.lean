/-! 62.world: all that a world holds; what holds of the forest -/
def RW0 (w : Nat) (M : Mem) (A : Ab) : Prop := RG (w + 1) M A ∧ RT (w + 1) M A ∧ RY (w + 12) M A (bnn A) (bas A) ∧ RLs (w + 19) M A
def RW (w : Nat) (M : Mem) (A : Ab) : Prop := RW0 w M A ∧ gL M w 3 = prd A ∧ gL M w 4 = lst A ∧ gL M w 5 = gon A
theorem RY_fr {y : Nat} {M M' : Mem} {A : Ab} {n : Int} {f : Int → Int} {P : Nat → Prop} (h : RY y M A n f) (fr : Fr P M M') (h0 : ¬ P y) (h1 : ¬ P (y + 1 + 1)) (h3 : ¬ P (y + 3 + 1)) (h5 : ¬ P (y + 5 + 1)) : RY y M' A n f := by
  unfold RY at *
  simp only [fr.gI h0, fr.atL h1, fr.at h3, fr.at h5]
  exact h
theorem RW0_fr {w : Nat} {M M' : Mem} {A : Ab} {P : Nat → Prop} (h : RW0 w M A) (f : Fr P M M') (hP : ∀ p, w ≤ p → p < w + 46 → ¬ P p) : RW0 w M' A :=
  ⟨RG_fr h.1 f (hP _ (by omega) (by omega)) (hP _ (by omega) (by omega)) (hP _ (by omega) (by omega)) (hP _ (by omega) (by omega)),
   RT_fr h.2.1 f (hP _ (by omega) (by omega)) (hP _ (by omega) (by omega)),
   RY_fr h.2.2.1 f (hP _ (by omega) (by omega)) (hP _ (by omega) (by omega)) (hP _ (by omega) (by omega)) (hP _ (by omega) (by omega)),
   RLs_fr h.2.2.2 f (hP _ (by omega) (by omega)) (hP _ (by omega) (by omega)) (hP _ (by omega) (by omega)) (hP _ (by omega) (by omega)) (hP _ (by omega) (by omega)) (hP _ (by omega) (by omega)) (hP _ (by omega) (by omega)) (hP _ (by omega) (by omega)) (hP _ (by omega) (by omega))⟩
theorem RW_fr {w : Nat} {M M' : Mem} {A : Ab} {P : Nat → Prop} (h : RW w M A) (f : Fr P M M') (hP : ∀ p, w ≤ p → p < w + 46 → ¬ P p) : RW w M' A := by
  refine ⟨RW0_fr h.1 f hP, ?_, ?_, ?_⟩
  · rw [f.gL (hP _ (by omega) (by omega))]; exact h.2.1
  · rw [f.gL (hP _ (by omega) (by omega))]; exact h.2.2.1
  · rw [f.gL (hP _ (by omega) (by omega))]; exact h.2.2.2
theorem c_findAnew {w : Nat} {M : Mem} {A : Ab} (hw : IsW w) (hG : RG (w + 1) M A) (g : WFg A) : ∃ M', WD_findAnew w M = some ((), M') ∧ RW0 w M' (fnd A) ∧ Fr (fun p => w + 8 ≤ p ∧ p ≤ w + 41) M M' := by
  obtain ⟨zg, zy, zl, -, -⟩ := sz_w hw
  obtain ⟨M1, k1, t1, f1⟩ := c_measure hG g zg
  have G1 := RG_fr hG f1 (by omega) (by omega) (by omega) (by omega)
  obtain ⟨M2, k2, y2, f2⟩ := c_find G1 t1 g zy
  have G2 := RG_fr G1 f2 (by omega) (by omega) (by omega) (by omega)
  have T2 := RT_fr t1 f2 (by omega) (by omega)
  obtain ⟨M3, k3, l3, f3⟩ := c_restart G2 T2 y2 g zg zy zl
  have nl : ∀ p, p ≤ w + 20 → ¬ isLk (w + 19) p := fun p hp => by unfold isLk; omega
  refine ⟨M3, ?_, ⟨(fnd_ge A).RG (RG_fr G2 f3 (nl _ (by omega)) (nl _ (by omega)) (nl _ (by omega)) (nl _ (by omega))), (fnd_ge A).RT (RT_fr T2 f3 (nl _ (by omega)) (nl _ (by omega))), ?_, l3⟩, ?_⟩
  · unfold WD_findAnew
    rw [k1, b2_s, k2, b2_s, k3, b2_s]
  · have y3 := RY_fr y2 f3 (nl _ (by omega)) (nl _ (by omega)) (nl _ (by omega)) (nl _ (by omega))
    unfold RY at *
    rw [fnd_bnn, fnd_nn, ← (fnd_ge A).pl, ← (fnd_ge A).tg]
    refine ⟨y3.1, y3.2.1, fun c a b => ?_⟩
    rw [y3.2.2 c a b]
    by_cases q : c < nn A
    · rw [if_pos q, if_pos q, fnd_bas A a q]
    · rw [if_neg q, if_neg q]
  · exact ((f1.mono (fun p hp => by omega)).trans (f2.mono (fun p hp => by omega))).trans (f3.mono (fun p hp => by unfold isLk at hp; omega))
/-- what holds of the forest -/
def isJ (A : Ab) (k : Int) : Prop := msk A k ≠ 0 ∧ fst A k ≠ snd A k
def usd (A : Ab) : Int := ct 72 (fun k => !decide (msk A k = 0))
def thn (A : Ab) : Int := ct 72 (fun k => decide (there A k = 1))
def WFf (A : Ab) : Prop :=
  (∀ k, 0 ≤ k → k < 72 → isJ A k → msk A (fst A k) ≠ 0 ∧ msk A (snd A k) ≠ 0 ∧ there A (fst A k) = 0 ∧ there A (snd A k) = 0 ∧ fst A k ≠ k ∧ snd A k ≠ k ∧ (∀ c, hs (msk A k) c = (hs (msk A (fst A k)) c || hs (msk A (snd A k)) c)) ∧ (∀ c, ¬ (hs (msk A (fst A k)) c = true ∧ hs (msk A (snd A k)) c = true)) ∧ cap A (msk A (fst A k)) ≠ -1 ∧ cap A (msk A (snd A k)) ≠ -1) ∧
  (∀ k j, 0 ≤ k → k < 72 → 0 ≤ j → j < 72 → isJ A k → isJ A j → k ≠ j → fst A k ≠ fst A j ∧ fst A k ≠ snd A j ∧ snd A k ≠ snd A j) ∧
  usd A + thn A = 2 * bnn A ∧ bnn A ≤ 36 ∧
  (∀ k, 0 ≤ k → k < 72 → there A k = 1 → cap A (msk A k) ≠ -1 → vol A k ≤ cap A (msk A k)) ∧
  (∀ k, 0 ≤ k → k < 72 → isJ A k → bct A (msk A k) = bct A (msk A (fst A k)) + bct A (msk A (snd A k))) ∧
  (∀ k, 0 ≤ k → k < 72 → msk A k ≠ 0 → 1 ≤ bct A (msk A k))
def WF (A : Ab) : Prop := WFg A ∧ WFb A ∧ WFf A
theorem fnd_WF {A : Ab} (g : WFg A) : WF (fnd A) := by
  have hn := nn_bd g
  have hp := npt_bd g
  have nj : ∀ k, ¬ isJ (fnd A) k := fun k h => h.2 (by rw [fnd_fst, fnd_snd])
  refine ⟨fnd_WFg g, fnd_WFb g, fun k a b h => absurd h (nj k), fun k j a b d e h => absurd h (nj k), ?_, ?_, fun k a b _ h => ?_, fun k a b h => absurd h (nj k), fun k a b h => ?_⟩
  · have e1 : usd (fnd A) = npt A := by
      unfold usd
      have : ct 72 (fun k => !decide (msk (fnd A) k = 0)) = ct 72 (fun k => decide ((k : Int) < npt A)) := by
        apply ct_congr
        intro i _
        rw [fnd_msk]
        by_cases q : (i : Int) < npt A
        · simp [mk_ne g (show 0 ≤ (i : Int) by omega) q, q]
        · simp [mk_z g (k := (i : Int)) (by omega), q]
      rw [this]
      have : ct 72 (fun k => decide ((k : Int) < npt A)) = ct (npt A).toNat (fun k => decide ((k : Int) < npt A)) := sm_ext (by omega) (fun i h1 h2 => by simp; omega)
      rw [this]
      have key : ∀ n : Nat, (n : Int) ≤ npt A → ct n (fun k => decide ((k : Int) < npt A)) = n := by
        intro n
        induction n with
        | zero => intro _; rfl
        | succ n ih =>
          intro h
          rw [ct_succ, ih (by omega)]
          simp; omega
      rw [key _ (by omega)]; omega
    have e2 : thn (fnd A) = usd (fnd A) := by
      unfold thn usd
      apply ct_congr
      intro i _
      rw [fnd_msk, fnd_there]
      by_cases q : (i : Int) < npt A
      · simp [mk_ne g (show 0 ≤ (i : Int) by omega) q, q]
      · simp [mk_z g (k := (i : Int)) (by omega), q]
    rw [e2, e1, fnd_bnn]; omega
  · rw [fnd_bnn]; omega
  · rw [fnd_vol]
    have := cap_bd (fnd_WFg g) (msk (fnd A) k)
    omega
  · rw [fnd_msk] at h ⊢
    by_cases q : 0 ≤ k ∧ k < npt A
    · rw [fnd_bct g q.1 q.2]; omega
    · exact absurd (mk_z g q) h
theorem thn_le {A : Ab} (h : WF A) : 0 ≤ thn A ∧ thn A ≤ bnn A ∧ thn A ≤ usd A ∧ usd A + thn A = 2 * bnn A := by
  have h1 : thn A ≤ usd A := by
    apply sm_le
    intro i hi
    by_cases q : there A (i : Int) = 1
    · have := h.2.1.2.2.1 (i : Int) (by omega) (by omega) q
      simp [q, this]
    · simp [q]; split <;> omega
  have h2 := h.2.2.2.2.1
  have := (ct_bd 72 (fun k => decide (there A k = 1))).1
  unfold thn at *
  omega
