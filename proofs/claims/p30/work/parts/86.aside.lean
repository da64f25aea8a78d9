/-! 86.aside: what-if questions -/
def FX (M M' : Mem) : Prop := gI M' 0 4 = gI M 0 4 ∧ gI M' 0 3 = gI M 0 3 ∧ gI M' 0 21 = gI M 0 21 ∧ (∀ q, gI M' 12 q = gI M 12 q) ∧ (∀ q, gL M' 3 q = gL M 3 q) ∧ ∀ q, gL M' 2 q = gL M 2 q
theorem FX.rfl' {M : Mem} : FX M M := ⟨rfl, rfl, rfl, fun _ => rfl, fun _ => rfl, fun _ => rfl⟩
theorem FX.trans {M M' M'' : Mem} (h : FX M M') (k : FX M' M'') : FX M M'' := ⟨k.1.trans h.1, k.2.1.trans h.2.1, k.2.2.1.trans h.2.2.1, fun q => (k.2.2.2.1 q).trans (h.2.2.2.1 q), fun q => (k.2.2.2.2.1 q).trans (h.2.2.2.2.1 q), fun q => (k.2.2.2.2.2 q).trans (h.2.2.2.2.2 q)⟩
theorem FX.ofA {M M' : Mem} (h : FrA M M') : FX M M' := ⟨h.1 0 4 (by omega), h.1 0 3 (by omega), h.1 0 21 (by omega), fun q => h.1 12 q (by omega), fun q => h.2 3 q (by omega), fun q => h.2 2 q (by omega)⟩
theorem FX.ofC {M M' : Mem} (h : FrC M M') : FX M M' := ⟨h.1 0 4 (by omega), h.1 0 3 (by omega), h.1 0 21 (by omega), fun q => h.1 12 q (by omega), fun q => h.2 3 q (by omega) (by omega), fun q => h.2 2 q (by omega) (by omega)⟩
theorem FX.ofR {M M' : Mem} (h : FrR M M') : FX M M' := ⟨h.1 0 4 (by omega) (by omega) (by omega), h.1 0 3 (by omega) (by omega) (by omega), h.1 0 21 (by omega) (by omega) (by omega), fun q => h.1 12 q (by omega) (by omega) (by omega), fun q => h.2 3 q (by omega), fun q => h.2 2 q (by omega)⟩
theorem FX.ofO {M M' : Mem} (h : FrO M M') : FX M M' := ⟨h.2 0 4 (by omega) (by omega), h.2 0 3 (by omega) (by omega), h.2 0 21 (by omega) (by omega), fun q => h.2 12 q (by omega) (by omega), fun q => by unfold gL; rw [h.1], fun q => by unfold gL; rw [h.1]⟩
theorem FX.ofL {M M' : Mem} (h : FrL M M') : FX M M' := ⟨by unfold gI; rw [h.1], by unfold gI; rw [h.1], by unfold gI; rw [h.1], fun q => by unfold gI; rw [h.1], fun q => h.2 3 q (by omega), fun q => h.2 2 q (by omega)⟩
theorem FX.s1 {M : Mem} (q : Nat) (x : Int64) : FX M (sL M 1 q x) := ⟨rfl, rfl, rfl, fun _ => rfl, fun j => by simp [gL, sL], fun j => by simp [gL, sL]⟩
theorem e_lays (M : Mem) : ∃ M', MD_lays M = some ((), M') ∧ M'.1 = M.1 ∧ (∀ o q, o ≠ 3 → M'.2 o q = M.2 o q) ∧ ∀ q, q < 513 → gL M' 3 q = gL M 1 q := by
  have key : ∃ r M', lpM (fun s M9 => MD_lays_L2 s M9) FUEL (0 : Int32) M = some (r, M') ∧ (M'.1 = M.1 ∧ (∀ o q, o ≠ 3 → M'.2 o q = M.2 o q) ∧ ∀ q, q < 513 → gL M' 3 q = gL M 1 q) := by
    refine lpM_to 513 (by omega) (fun i s M' => s = ni (i : Int) ∧ M'.1 = M.1 ∧ (∀ o q, o ≠ 3 → M'.2 o q = M.2 o q) ∧ ∀ q, q < i → gL M' 3 q = gL M 1 q) _ ?_ ?_ ⟨rfl, rfl, fun _ _ _ => rfl, fun q hq => by omega⟩
    · rintro i hi s M1 ⟨rfl, f1, f2, f3⟩
      have hv : gL M1 1 i = gL M 1 i := f2 1 i (by omega)
      unfold MD_lays_L2
      simp (disch := omega) only [show (513 : Int32) = ni 513 from rfl, ni_le, ni_inb, ni_nat, ni_s, Int.toNat_natCast]
      rw [if_neg (by omega), ck_d (by omega), ck_d (by omega), hv]
      refine ⟨_, _, rfl, rfl, f1, fun o q ho => ?_, fun q hq => ?_⟩
      · rw [← f2 o q ho]; simp [sL, ho]
      · by_cases z : q = i
        · simp [gL, sL, z]
        · have := f3 q (by omega)
          rw [← this]; simp [gL, sL, z]
    · rintro s M1 ⟨rfl, f1, f2, f3⟩
      refine ⟨(), M1, ?_, f1, f2, f3⟩
      unfold MD_lays_L2
      rw [if_pos (by decide)]
  obtain ⟨r, M', k1, k2⟩ := key
  refine ⟨M', ?_, k2⟩
  unfold MD_lays
  rw [k1, b2_s]
theorem e_takesBack (M : Mem) : ∃ M', MD_takesBack M = some ((), M') ∧ M'.1 = M.1 ∧ (∀ o q, o ≠ 1 → M'.2 o q = M.2 o q) ∧ ∀ q, q < 513 → gL M' 1 q = gL M 3 q := by
  have key : ∃ r M', lpM (fun s M9 => MD_takesBack_L2 s M9) FUEL (0 : Int32) M = some (r, M') ∧ (M'.1 = M.1 ∧ (∀ o q, o ≠ 1 → M'.2 o q = M.2 o q) ∧ ∀ q, q < 513 → gL M' 1 q = gL M 3 q) := by
    refine lpM_to 513 (by omega) (fun i s M' => s = ni (i : Int) ∧ M'.1 = M.1 ∧ (∀ o q, o ≠ 1 → M'.2 o q = M.2 o q) ∧ ∀ q, q < i → gL M' 1 q = gL M 3 q) _ ?_ ?_ ⟨rfl, rfl, fun _ _ _ => rfl, fun q hq => by omega⟩
    · rintro i hi s M1 ⟨rfl, f1, f2, f3⟩
      have hv : gL M1 3 i = gL M 3 i := f2 3 i (by omega)
      unfold MD_takesBack_L2
      simp (disch := omega) only [show (513 : Int32) = ni 513 from rfl, ni_le, ni_inb, ni_nat, ni_s, Int.toNat_natCast]
      rw [if_neg (by omega), ck_d (by omega), ck_d (by omega), hv]
      refine ⟨_, _, rfl, rfl, f1, fun o q ho => ?_, fun q hq => ?_⟩
      · rw [← f2 o q ho]; simp [sL, ho]
      · by_cases z : q = i
        · simp [gL, sL, z]
        · have := f3 q (by omega)
          rw [← this]; simp [gL, sL, z]
    · rintro s M1 ⟨rfl, f1, f2, f3⟩
      refine ⟨(), M1, ?_, f1, f2, f3⟩
      unfold MD_takesBack_L2
      rw [if_pos (by decide)]
  obtain ⟨r, M', k1, k2⟩ := key
  refine ⟨M', ?_, k2⟩
  unfold MD_takesBack
  rw [k1, b2_s]
/-- laid aside, something done, taken back -/
theorem aside {M M1 M2 M3 : Mem} (a1 : M1.1 = M.1) (a2 : ∀ o q, o ≠ 3 → M1.2 o q = M.2 o q) (a3 : ∀ q, q < 513 → gL M1 3 q = gL M 1 q) (f : FX M1 M2) (b1' : M3.1 = M2.1) (b2' : ∀ o q, o ≠ 1 → M3.2 o q = M2.2 o q) (b3 : ∀ q, q < 513 → gL M3 1 q = gL M2 3 q) : FS M M3 := by
  have i1 : ∀ o q, gI M1 o q = gI M o q := fun o q => by unfold gI; rw [a1]
  have i3 : ∀ o q, gI M3 o q = gI M2 o q := fun o q => by unfold gI; rw [b1']
  refine ⟨?_, ?_, ?_, fun q => ?_, fun q hq => ?_, fun q => ?_⟩
  · rw [i3, f.1, i1]
  · rw [i3, f.2.1, i1]
  · rw [i3, f.2.2.1, i1]
  · rw [i3, f.2.2.2.1, i1]
  · rw [b3 q hq, f.2.2.2.2.1, a3 q hq]
  · have e1 : gL M3 2 q = gL M2 2 q := b2' 2 q (by omega)
    have e2 : gL M1 2 q = gL M 2 q := a2 2 q (by omega)
    rw [e1, f.2.2.2.2.2, e2]
theorem lays_RM {M M1 : Mem} {A : Ab} (h : RM M A) (a2 : ∀ o q, o ≠ 3 → M1.2 o q = M.2 o q) : RM M1 A := RM_of h (fun k _ => a2 1 k (by omega))
/-- would it be wet -/
def wb (A : Ab) (a b x : Int) : Bool := isw (prl prN A (lk A a) x) b
theorem prl_zero (A : Ab) (k : Int) : prl prN A k 0 = A := by
  have e0 : ∀ n, pr (n + 1) A k 0 = (A, 0) := by
    intro n
    simp only [pr]
    exact if_pos (by omega)
  have e : pr prN A k 0 = (A, 0) := e0 399999
  unfold prl
  rw [e]
  show aL A 0 2 (lst A + nl 0) = A
  rw [show nl 0 = 0 from rfl, Int64.add_zero]
  exact aL_id A 0 2
theorem c_would {Mc : Mem} {A : Ab} (hC : RW 1 Mc A) (hW : WF A) (hw : wat A ≤ 1000000) {a b x : Int} (a0 : 0 ≤ a) (a1 : a < nn A) (b0 : 0 ≤ b) (b1 : b < nn A) (x0 : 0 ≤ x) (x1 : x ≤ 100000) : ∃ M', LL_wouldBeWet (ni a) (ni x) (ni b) Mc = some (bI (wb A a b x = true), M') ∧ RW 1 M' A ∧ Fr (fun p => 47 ≤ p ∧ p < 93) Mc M' := by
  have hn := nn_bd hW.1
  obtain ⟨M1, q1, R1, F1⟩ := c_copy (o := 47) (a := 1) (Or.inr (Or.inl rfl)) (Or.inl rfl) (Or.inr (by omega)) hC
  obtain ⟨M2, q2, R2, F2, _⟩ := c_pourAt (w := 47) (Or.inr (Or.inl rfl)) R1 hW a0 a1 x0 (by omega)
  obtain ⟨w1, w2, w3, w4, _⟩ := prl_WF hW (PK_lk hW a) x0 (show wat A + x ≤ 1200000 by omega)
  have zl := (sz_w (w := 47) (Or.inr (Or.inl rfl))).2.2.1
  have q3 := c_isWet (w := 47) R2.1.1 R2.1.2.1 R2.1.2.2.2 w1.1 w1.2.1 zl b0 (show b < 36 by omega)
  have FF : Fr (fun p => 47 ≤ p ∧ p < 93) Mc M2 := (F1.mono (fun p hp => by omega)).trans (F2.mono (fun p hp => by unfold isLk at hp; omega))
  refine ⟨M2, ?_, RW_fr hC FF (fun p x y z => by omega), FF⟩
  unfold LL_wouldBeWet
  rw [q1, b2_s, q2, b2_s, q3, b1_s, bI_a]
  rfl
theorem e_wets {M : Mem} {A : Ab} (hM : RM M A) (hW : WF A) (hw : wat A ≤ 1000000) {a b x : Int} (a0 : 0 ≤ a) (a1 : a < nn A) (b0 : 0 ≤ b) (b1 : b < nn A) (x0 : 0 ≤ x) (x1 : x ≤ 100000) : ∃ M', MD_wets (ni a) (ni b) (ni x) M = some (bI (wb A a b x = true), M') ∧ FS M M' := by
  obtain ⟨M1, q1, f1, f2, f3⟩ := e_lays M
  obtain ⟨M2, q2, R2, F2⟩ := e_pours (lays_RM hM f2) hW a0 a1 x0 (show wat A + x ≤ 1200000 by omega)
  obtain ⟨w1, w2, w3, w4, _⟩ := prl_WF hW (PK_lk hW a) x0 (show wat A + x ≤ 1200000 by omega)
  obtain ⟨M3, q3, F3⟩ := e_isWet R2 w1.1 w1.2.1 b0 (show b < nn (prl prN A (lk A a) x) by rw [← w4.nn]; exact b1)
  obtain ⟨M4, q4, g1, g2, g3⟩ := e_takesBack M3
  refine ⟨M4, ?_, aside f1 f2 f3 ((FX.ofA F2).trans (FX.ofL F3)) g1 g2 g3⟩
  unfold MD_wets
  rw [q1, b2_s, ni_64 (by omega) (by omega), q2, b2_s, q3, b2_s, q4, b2_s, bI_a]
  rfl
/-- the search between two amounts -/
def bsr (p : Int → Bool) : Nat → Int → Int → Int
  | 0, _, h => h
  | n + 1, l, h => if h - l ≤ 1 then h else if p ((l + h) / 2) = true then bsr p n l ((l + h) / 2) else bsr p n ((l + h) / 2) h
theorem bsr_more (p : Int → Bool) : ∀ n m : Nat, ∀ l h : Int, h - l ≤ n → n ≤ m → bsr p m l h = bsr p n l h := by
  intro n
  induction n with
  | zero =>
    intro m l h hl _
    cases m with
    | zero => rfl
    | succ m => simp only [bsr]; rw [if_pos (by omega)]
  | succ n ih =>
    intro m l h hl hm
    obtain ⟨m', rfl⟩ : ∃ m', m = m' + 1 := ⟨m - 1, by omega⟩
    simp only [bsr]
    by_cases e : h - l ≤ 1
    · rw [if_pos e, if_pos e]
    · rw [if_neg e, if_neg e, ih m' l ((l + h) / 2) (by omega) (by omega), ih m' ((l + h) / 2) h (by omega) (by omega)]
theorem bsr_step (p : Int → Bool) {l h : Int} (e : ¬ h - l ≤ 1) : bsr p (h - l).toNat l h = if p ((l + h) / 2) = true then bsr p ((l + h) / 2 - l).toNat l ((l + h) / 2) else bsr p (h - (l + h) / 2).toNat ((l + h) / 2) h := by
  obtain ⟨m, hm⟩ : ∃ m, (h - l).toNat = m + 1 := ⟨(h - l).toNat - 1, by omega⟩
  rw [hm]
  simp only [bsr]
  rw [if_neg e, bsr_more p ((l + h) / 2 - l).toNat m l ((l + h) / 2) (by omega) (by omega), bsr_more p (h - (l + h) / 2).toNat m ((l + h) / 2) h (by omega) (by omega)]
theorem c_search {Mc : Mem} {A : Ab} (hC : RW 1 Mc A) (hW : WF A) (hw : wat A ≤ 1000000) {a b : Int} (a0 : 0 ≤ a) (a1 : a < nn A) (b0 : 0 ≤ b) (b1 : b < nn A) : ∃ M', lpM (fun s M9 => LL_amountFor_L44 (ni a) (ni b) s.1 s.2.1 s.2.2 M9) FUEL ((0 : Int32), (100000 : Int32), (0 : Int32)) Mc = some (ni (bsr (wb A a b) 100000 0 100000), M') ∧ RW 1 M' A ∧ Fr (fun p => 47 ≤ p ∧ p < 93) Mc M' := by
  have key : ∃ r M', lpM (fun s M9 => LL_amountFor_L44 (ni a) (ni b) s.1 s.2.1 s.2.2 M9) FUEL ((0 : Int32), (100000 : Int32), (0 : Int32)) Mc = some (r, M') ∧ (r = ni (bsr (wb A a b) 100000 0 100000) ∧ RW 1 M' A ∧ Fr (fun p => 47 ≤ p ∧ p < 93) Mc M') := by
    refine lpM_wf (fun s M' => ∃ l h i : Int, s = (ni l, ni h, ni i) ∧ 0 ≤ l ∧ l < h ∧ h ≤ 100000 ∧ 0 ≤ i ∧ i + (h - l) ≤ 100000 ∧ bsr (wb A a b) (h - l).toNat l h = bsr (wb A a b) 100000 0 100000 ∧ RW 1 M' A ∧ Fr (fun p => 47 ≤ p ∧ p < 93) Mc M') (fun s _ => (s.2.1.toInt - s.1.toInt).toNat) _ ?_ FUEL _ _ ⟨0, 100000, 0, rfl, by omega, by omega, by omega, by omega, by omega, rfl, hC, Fr.rfl'⟩ ?_
    · rintro s M1 ⟨l, h, i, rfl, l0, l1, h1, i0, i1, hb, R1, F1⟩
      unfold LL_amountFor_L44
      dsimp only
      simp (disch := omega) only [show (100000 : Int32) = ni 100000 from rfl, show (1 : Int32) = ni 1 from rfl, show (2 : Int32) = ni 2 from rfl, ni_le, ni_sub, ni_add, ni_div]
      rw [if_neg (by omega)]
      by_cases e : h - l ≤ 1
      · right
        rw [if_pos e]
        refine ⟨_, M1, rfl, ?_, R1, F1⟩
        rw [← hb, show (h - l).toNat = 0 + 1 by omega]
        simp only [bsr]
        rw [if_pos e]
      · left
        rw [if_neg e]
        obtain ⟨M2, q2, R2, F2⟩ := c_would R1 hW hw a0 a1 b0 b1 (x := (l + h) / 2) (by omega) (by omega)
        rw [q2, b2_s]
        rw [bsr_step _ e] at hb
        simp only [bI_z]
        by_cases z : wb A a b ((l + h) / 2) = true
        · rw [if_pos z] at hb
          rw [if_neg (fun y => y z), if_neg (fun y => y z)]
          refine ⟨_, M2, rfl, ⟨l, (l + h) / 2, i + 1, rfl, by omega, by omega, by omega, by omega, by omega, hb, R2, F1.trans F2⟩, ?_⟩
          show ((ni ((l + h) / 2)).toInt - (ni l).toInt).toNat < ((ni h).toInt - (ni l).toInt).toNat
          rw [ni_toInt (by omega) (by omega), ni_toInt (by omega) (by omega), ni_toInt (by omega) (by omega)]
          omega
        · rw [if_neg z] at hb
          rw [if_pos z, if_pos z]
          refine ⟨_, M2, rfl, ⟨(l + h) / 2, h, i + 1, rfl, by omega, by omega, by omega, by omega, by omega, hb, R2, F1.trans F2⟩, ?_⟩
          show ((ni h).toInt - (ni ((l + h) / 2)).toInt).toNat < ((ni h).toInt - (ni l).toInt).toNat
          rw [ni_toInt (by omega) (by omega), ni_toInt (by omega) (by omega), ni_toInt (by omega) (by omega)]
          omega
    · show ((100000 : Int32).toInt - (0 : Int32).toInt).toNat < FUEL
      decide +kernel
  obtain ⟨r, M', k1, rfl, k2⟩ := key
  exact ⟨M', k1, k2⟩
theorem e_search {M : Mem} {A : Ab} (hM : RM M A) (hW : WF A) (hw : wat A ≤ 1000000) {a b : Int} (a0 : 0 ≤ a) (a1 : a < nn A) (b0 : 0 ≤ b) (b1 : b < nn A) : ∃ M', lpM (fun s M9 => MD_amountFor_L63 (ni a) (ni b) s.1 s.2 M9) FUEL ((0 : Int32), (100000 : Int32)) M = some (ni (bsr (wb A a b) 100000 0 100000), M') ∧ FS M M' := by
  have key : ∃ r M', lpM (fun s M9 => MD_amountFor_L63 (ni a) (ni b) s.1 s.2 M9) FUEL ((0 : Int32), (100000 : Int32)) M = some (r, M') ∧ (r = ni (bsr (wb A a b) 100000 0 100000) ∧ FS M M') := by
    refine lpM_wf (fun s M' => ∃ l h : Int, s = (ni l, ni h) ∧ 0 ≤ l ∧ l < h ∧ h ≤ 100000 ∧ bsr (wb A a b) (h - l).toNat l h = bsr (wb A a b) 100000 0 100000 ∧ FS M M') (fun s _ => (s.2.toInt - s.1.toInt).toNat) _ ?_ FUEL _ _ ⟨0, 100000, rfl, by omega, by omega, by omega, rfl, FS.rfl'⟩ ?_
    · rintro s M1 ⟨l, h, rfl, l0, l1, h1, hb, F1⟩
      unfold MD_amountFor_L63 MD_amountFor_L63_J101
      dsimp only
      simp (disch := omega) only [show (1 : Int32) = ni 1 from rfl, show (2 : Int32) = ni 2 from rfl, ni_le, ni_sub, ni_add, ni_div]
      by_cases e : h - l ≤ 1
      · right
        rw [if_pos e]
        refine ⟨_, M1, rfl, ?_, F1⟩
        rw [← hb, show (h - l).toNat = 0 + 1 by omega]
        simp only [bsr]
        rw [if_pos e]
      · left
        rw [if_neg e, Int.add_comm h l]
        obtain ⟨M2, q2, F2⟩ := e_wets (F1.RM hM) hW hw a0 a1 b0 b1 (x := (l + h) / 2) (by omega) (by omega)
        rw [q2, b2_s]
        rw [bsr_step _ e] at hb
        simp only [bI_z]
        by_cases z : wb A a b ((l + h) / 2) = true
        · rw [if_pos z] at hb
          rw [if_neg (fun y => y z), if_neg (fun y => y z)]
          refine ⟨_, M2, rfl, ⟨l, (l + h) / 2, rfl, by omega, by omega, by omega, hb, F1.trans F2⟩, ?_⟩
          show ((ni ((l + h) / 2)).toInt - (ni l).toInt).toNat < ((ni h).toInt - (ni l).toInt).toNat
          rw [ni_toInt (by omega) (by omega), ni_toInt (by omega) (by omega), ni_toInt (by omega) (by omega)]
          omega
        · rw [if_neg z] at hb
          rw [if_pos z, if_pos z]
          refine ⟨_, M2, rfl, ⟨(l + h) / 2, h, rfl, by omega, by omega, by omega, hb, F1.trans F2⟩, ?_⟩
          show ((ni h).toInt - (ni ((l + h) / 2)).toInt).toNat < ((ni h).toInt - (ni l).toInt).toNat
          rw [ni_toInt (by omega) (by omega), ni_toInt (by omega) (by omega), ni_toInt (by omega) (by omega)]
          omega
    · show ((100000 : Int32).toInt - (0 : Int32).toInt).toNat < FUEL
      decide +kernel
  obtain ⟨r, M', k1, rfl, k2⟩ := key
  exact ⟨M', k1, k2⟩
theorem Inv_spare {Mc Mc' Mm Mm' : Mem} {A : Ab} (hC : RW 1 Mc A) (hM : RM Mm A) (hW : WF A) (hw : WB A) (hS : SVI Mc Mm) (hT : TXI Mc Mm) (F : Fr (fun p => 47 ≤ p ∧ p < 93) Mc Mc') (f : FS Mm Mm') : Inv Mc' Mm' := by
  refine ⟨A, RW_fr hC F (fun p x y z => by omega), f.RM hM, hW, hw, ?_, ?_⟩
  · exact SVI_fr hS F (fun p hp => by omega) f.2.1 f.2.2.2.2.2
  · exact TXI_fr hT F (fun p hp => by omega) f.2.2.1 f.2.2.2.1
theorem SVI_goes {Mc Mm : Mem} (h : SVI Mc Mm) (v : Int32) : SVI Mc (sI Mm 0 4 v) := SVI_fr (P := fun _ => False) h Fr.rfl' (fun p z => z.elim) (FS_goes Mm v).1 (FS_goes Mm v).2.2.2.2
theorem TXI_goes {Mc Mm : Mem} (h : TXI Mc Mm) (v : Int32) : TXI Mc (sI Mm 0 4 v) := TXI_fr (P := fun _ => False) h Fr.rfl' (fun p z => z.elim) (FS_goes Mm v).2.1 (FS_goes Mm v).2.2.1
theorem sim19 : Sim19 Inv := by
  intro Mc Mm a0 a1 hI
  have hI0 := hI
  obtain ⟨A, hC, hM, hW, hw, hS, hT⟩ := hI
  have hn := nn_bd hW.1
  obtain ⟨a, ha, rfl⟩ := i32 a0
  obtain ⟨b, hb, rfl⟩ := i32 a1
  have hr : (if (MD_isCell (ni a) Mm) = 0 then (0 : Int32) else (if (MD_isCell (ni b) Mm) = 0 then (0 : Int32) else (1 : Int32))) = bI ((0 ≤ a ∧ a < nn A) ∧ (0 ≤ b ∧ b < nn A)) := by
    rw [e_isCell hM hW.1 ha.1 ha.2, e_isCell hM hW.1 hb.1 hb.2]
    simp only [bI_z]
    by_cases y1 : 0 ≤ a ∧ a < nn A
    · by_cases y2 : 0 ≤ b ∧ b < nn A
      · rw [if_neg (fun z => z y1), if_neg (fun z => z y2), bI_t ⟨y1, y2⟩]
      · rw [if_neg (fun z => z y1), if_pos y2, bI_f (fun z => y2 z.2)]
    · rw [if_pos y1, bI_f (fun z => y1 z.1)]
  have hg := e_goes (p := (0 ≤ a ∧ a < nn A) ∧ (0 ≤ b ∧ b < nn A)) (q := True) (r := True) Mm
  rw [← one_bI] at hg
  unfold MD_amountFor MD_amountFor_J22 LL_amountFor
  rw [hr, hg, b2_s, c_needCell hC.1.1 hW.1 ha.1 ha.2]
  simp only [bI_n0]
  by_cases q1 : 0 ≤ a ∧ a < nn A
  · rw [if_pos q1, bx_l, c_needCell hC.1.1 hW.1 hb.1 hb.2]
    by_cases q2 : 0 ≤ b ∧ b < nn A
    · rw [if_pos q2, bx_l, if_pos ⟨⟨q1, q2⟩, trivial, trivial⟩]
      have hM0 : RM (sI Mm 0 4 (ni (gz ((0 ≤ a ∧ a < nn A) ∧ (0 ≤ b ∧ b < nn A)) True True))) A := RM_of hM (fun k _ => rfl)
      have hS0 := SVI_goes hS (ni (gz ((0 ≤ a ∧ a < nn A) ∧ (0 ≤ b ∧ b < nn A)) True True))
      have hT0 := TXI_goes hT (ni (gz ((0 ≤ a ∧ a < nn A) ∧ (0 ≤ b ∧ b < nn A)) True True))
      have e4 : gI (sI Mm 0 4 (ni (gz ((0 ≤ a ∧ a < nn A) ∧ (0 ≤ b ∧ b < nn A)) True True))) 0 4 = 0 := by
        rw [sI_eq]; unfold gz; rw [if_pos ⟨q1, q2⟩, if_pos trivial, if_pos trivial]; rfl
      obtain ⟨Mc1, c1, R1, F1⟩ := c_would hC hW hw.1 q1.1 q1.2 q2.1 q2.2 (x := 0) (by omega) (by omega)
      obtain ⟨Mm1, d1, G1⟩ := e_isWet hM0 hW.1 hW.2.1 q2.1 q2.2
      have hz : wb A a b 0 = isw A b := by unfold wb; rw [prl_zero]
      rw [hz] at c1
      rw [show (0 : Int32) = ni 0 from rfl, c1, b2_s, d1, b2_s]
      simp only [show ni 0 = (0 : Int32) from rfl, bI_z]
      by_cases q3 : isw A b = true
      · rw [if_neg (fun z => z q3), if_neg (fun z => z q3)]
        refine ⟨_, _, _, _, rfl, rfl, Inv_spare hC hM0 hW hw hS0 hT0 F1 (FrL_FS G1), Or.inl ⟨_, rfl, (FrL_FS G1).1.trans e4, rfl⟩⟩
      · rw [if_pos q3, if_pos q3]
        obtain ⟨Mc2, c2, R2, F2⟩ := c_would R1 hW hw.1 q1.1 q1.2 q2.1 q2.2 (x := 100000) (by omega) (by omega)
        obtain ⟨Mm2, d2, G2⟩ := e_wets ((FrL_FS G1).RM hM0) hW hw.1 q1.1 q1.2 q2.1 q2.2 (x := 100000) (by omega) (by omega)
        rw [show (100000 : Int32) = ni 100000 from rfl, c2, d2, b2_s, b2_s]
        simp only [bI_n0]
        by_cases q4 : wb A a b 100000 = true
        · rw [if_pos q4, if_pos q4]
          obtain ⟨Mc3, c3, R3, F3⟩ := c_search R2 hW hw.1 q1.1 q1.2 q2.1 q2.2
          obtain ⟨Mm3, d3, G3⟩ := e_search (G2.RM ((FrL_FS G1).RM hM0)) hW hw.1 q1.1 q1.2 q2.1 q2.2
          rw [show (100000 : Int32) = ni 100000 from rfl] at c3 d3
          rw [c3, d3, b2_s, b2_s]
          refine ⟨_, _, _, _, rfl, rfl, Inv_spare hC hM0 hW hw hS0 hT0 ((F1.trans F2).trans F3) (((FrL_FS G1).trans G2).trans G3), Or.inl ⟨_, rfl, (((FrL_FS G1).trans G2).trans G3).1.trans e4, rfl⟩⟩
        · rw [if_neg q4, if_neg q4]
          refine ⟨_, _, _, _, rfl, rfl, Inv_spare hC hM0 hW hw hS0 hT0 (F1.trans F2) ((FrL_FS G1).trans G2), Or.inl ⟨_, rfl, ((FrL_FS G1).trans G2).1.trans e4, rfl⟩⟩
    · rw [if_neg q2, bx_r, if_neg (fun z => q2 z.1.2)]
      refine ⟨_, _, _, _, rfl, rfl, Inv_goes hI0 _, Or.inr ⟨rfl, ?_⟩⟩
      rw [sI_eq]; unfold gz; rw [if_neg (fun z => q2 z.2)]; rfl
  · rw [if_neg q1, bx_r, if_neg (fun z => q1 z.1.1)]
    refine ⟨_, _, _, _, rfl, rfl, Inv_goes hI0 _, Or.inr ⟨rfl, ?_⟩⟩
    rw [sI_eq]; unfold gz; rw [if_neg (fun z => q1 z.1)]; rfl
