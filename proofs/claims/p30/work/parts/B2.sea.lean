/-! B2.sea: drawing keeps which cells have a lake; pouring anew too -/
def SE (A B : Ab) : Prop := ∀ c, lk A c = -1 ↔ lk B c = -1
theorem SE.refl (A : Ab) : SE A A := fun _ => Iff.rfl
theorem SE.trans {A B C : Ab} (h : SE A B) (k : SE B C) : SE A C := fun c => (h c).trans (k c)
theorem SE_vol (A : Ab) (k v : Int) : SE A (aI A 4 k v) := fun c => by
  rw [show lk (aI A 4 k v) c = lk A c from lkf_congr (fun j => by simp [aI, there]) (fun j => by simp [aI, msk]) c 72]
theorem SE_ptn {A : Ab} (h : WF A) {k a : Int} (h0 : 0 ≤ k) (h1 : k < 72) (ht : there A k = 1) (a0 : 0 ≤ a) (a1 : a ≤ vol A k) (e : ¬ lvol A k ≤ vol A k - a) : SE A (ptn A k) := by
  intro c
  obtain ⟨hj, pw, pwat, pc, f0, s0, fs, fk, sk, tf, ts, vf, vs, lv, r1, r2, z1, z2, z3, hor, hd, mf, ms, tf0, ts0⟩ := dw_part h h0 h1 ht a0 a1 e
  rw [ptn_lk h h0 h1 ht a0 a1 e c]
  have hk : hs (msk A k) c = true → lk A c = k := fun q => lk_eq h.2.1 h0 h1 ht q
  by_cases z1 : hs (msk A (sa A k)) c = true
  · rw [if_pos z1]
    have := hk (by rw [hor c, z1]; simp)
    constructor <;> intro q <;> omega
  · rw [if_neg z1]
    by_cases z2 : hs (msk A (fa A k)) c = true
    · rw [if_pos z2]
      have := hk (by rw [hor c, z2]; simp)
      constructor <;> intro q <;> omega
    · rw [if_neg z2]
theorem SE_dw : ∀ n : Nat, ∀ (A : Ab) (k a : Int), WF A → 0 ≤ k → k < 72 → there A k = 1 → 0 ≤ a → a ≤ vol A k → szn A k ≤ n → SE A (dw n A k a) := by
  intro n
  induction n with
  | zero => intro A k a h h0 h1 ht _ _ hs'; exact SE.refl A
  | succ n ih =>
    intro A k a h h0 h1 ht a0 a1 hs'
    have hz := h.2.1.2.2.1 k h0 h1 ht
    simp only [dw]
    by_cases e : lvol A k ≤ vol A k - a
    · rw [if_pos e]; exact SE_vol A k _
    · rw [if_neg e]
      obtain ⟨hj, pw, pwat, pc, f0, s0, fs, fk, sk, tf, ts, vf, vs, lv, r1, r2, z1, z2, z3, hor, hd, mf, ms, tf0, ts0⟩ := dw_part h h0 h1 ht a0 a1 e
      obtain ⟨w1, w2, w3, w4⟩ := dw_ok n (ptn A k) (fa A k) (dwf A k a) pw f0.1 (by omega) tf r1.1 r1.2 (by omega)
      have pm : ∀ j, j ≠ k → msk (ptn A k) j = msk A j := fun j hj => by rw [ptn_msk, if_neg hj]
      have sNot : ¬ Inn (ptn A k) (fa A k) (sa A k) := by
        rintro ⟨_, q⟩
        obtain ⟨_, l2, _⟩ := lo_spec ms
        have := q _ (by rw [pm _ sk]; exact l2)
        rw [pm _ fk] at this
        exact hd _ ⟨this, l2⟩
      have hns := w4 _ sNot
      have tS : there (dw n (ptn A k) (fa A k) (dwf A k a)) (sa A k) = 1 := (nod_there hns).trans ts
      have vS : vol (dw n (ptn A k) (fa A k) (dwf A k a)) (sa A k) = vol (ptn A k) (sa A k) := nod_vol hns
      have mS : msk (dw n (ptn A k) (fa A k) (dwf A k a)) (sa A k) = msk (ptn A k) (sa A k) := nod_msk hns
      have zS : szn (dw n (ptn A k) (fa A k) (dwf A k a)) (sa A k) = szn (ptn A k) (sa A k) := by unfold szn; rw [mS, w3.bct]
      exact (SE_ptn h h0 h1 ht a0 a1 e).trans ((ih (ptn A k) (fa A k) (dwf A k a) pw f0.1 (by omega) tf r1.1 r1.2 (by omega)).trans (ih _ (sa A k) (lvol A k - (vol A k - a) - dwf A k a) w1 s0.1 (by omega) tS r2.1 (by rw [vS]; exact r2.2) (by omega)))
theorem SE_DW {A : Ab} (hW : WF A) {k a : Int} (h0 : 0 ≤ k) (h1 : k < 71) (ht : there A k = 1) (a0 : 0 ≤ a) (a1 : a ≤ vol A k) : SE A (DW A k a) := by
  refine SE_dw 71 A k a hW h0 (by omega) ht a0 a1 ?_
  have := sz_bd hW h0 (show k < 72 by omega) (hW.2.1.2.2.1 k h0 (by omega) ht)
  omega
theorem SE_dsq {A : Ab} (h : WF A) : ∀ n : Nat, (n : Int) ≤ lown A 36 → SE A (dsq A n) := by
  intro n
  induction n with
  | zero => intro _; exact SE.refl A
  | succ n ih =>
    intro hn
    obtain ⟨d1, d2, d3, d4⟩ := dsq_ok h n (by omega)
    have hnod := d4 n (Nat.le_refl _) (by omega)
    obtain ⟨_, _, _, _, _, ⟨p0, p1⟩, p2, _, _⟩ := pof_in h.2.1 (show (0 : Int) ≤ n by omega) (show (n : Int) < lown A 36 by omega)
    have ar := am_rg h (show (n : Int) < lown A 36 by omega)
    exact (ih (by omega)).trans (SE_DW d1 p0 p1 ((nod_there hnod).trans p2) ar.1 (by rw [nod_vol hnod]; exact ar.2))
theorem SE_evA {A : Ab} (h : WF A) : ∀ r : Nat, SE A (evA r A) := by
  intro r
  induction r with
  | zero => exact SE.refl A
  | succ r ih =>
    obtain ⟨e1, e2, e3, e4⟩ := evA_ok h r
    refine ih.trans ?_
    show SE (evA r A) (dsq (evA r A) (lown (evA r A) 36).toNat)
    refine SE_dsq e1 _ ?_
    have := lown_nonneg (evA r A) 36
    omega
theorem RS_rep {f v : Nat → Int} {B : Ab} (hB : WF B) : ∀ n : Nat, (∀ i, i < n → 0 ≤ v i) → wat B + sm n v ≤ 1200000 → RS B (rep f v n B) := by
  intro n
  induction n with
  | zero => intro _ _; exact RS.refl B
  | succ n ih =>
    intro hv hw
    have h0 : 0 ≤ v n := hv n (by omega)
    have e : sm (n + 1) v = sm n v + v n := rfl
    obtain ⟨r1, r2, _⟩ := rep_ok (f := f) hB n (fun i hi => hv i (by omega)) (by omega)
    exact (ih (fun i hi => hv i (by omega)) (by omega)).trans (RS_prl r1 (PK_lk r1 _) h0 (by omega))
/-- the sea: no lake where there is no basin -/
def SEA (A : Ab) : Prop := ∀ c, 0 ≤ c → c < nn A → (lk A c = -1 ↔ bas A c = -1)
theorem SEA_of {A B : Ab} (hn : nn B = nn A) (hb : bas B = bas A) (hs' : SE A B) (h : SEA A) : SEA B := fun c c0 c1 => by
  rw [← hs' c, h c c0 (by rw [← hn]; exact c1), hb]
theorem SEA_fnd {A : Ab} (g : WFg A) : SEA (fnd A) := fun c c0 c1 => by
  have hn := nn_bd g
  have c2 : c < nn A := by rw [← fnd_nn A]; exact c1
  rw [fnd_lk g c0 (by omega), if_pos c2, fnd_bas A c0 c2]
