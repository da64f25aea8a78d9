/-! 51.mlevel: the other side's levels and wet cells -/
def FrL (M M' : Mem) : Prop := M'.1 = M.1 ∧ ∀ o q, ¬ (o = 0 ∧ (q = 13 ∨ q = 14)) → M'.2 o q = M.2 o q
theorem FrL.rfl' {M : Mem} : FrL M M := ⟨rfl, fun _ _ _ => rfl⟩
theorem FrL.trans {M M' M'' : Mem} (h : FrL M M') (h' : FrL M' M'') : FrL M M'' := ⟨h'.1.trans h.1, fun o q hq => (h'.2 o q hq).trans (h.2 o q hq)⟩
theorem FrL.I {M M' : Mem} (h : FrL M M') (o k : Nat) : gI M' o k = gI M o k := by unfold gI; rw [h.1]
theorem FrL.L {M M' : Mem} (h : FrL M M') {o k : Nat} (ho : o ≠ 0) : gL M' o k = gL M o k := h.2 o k (fun q => ho q.1)
theorem FrL.RM {M M' : Mem} {A : Ab} (h : FrL M M') (r : RM M A) : RM M' A := RM_of r (fun k _ => h.L (by omega))
theorem FrL_sL {M M' : Mem} (h : FrL M M') {q : Nat} (hq : q = 13 ∨ q = 14) (v : Int64) : FrL M (sL M' 0 q v) := by
  refine ⟨h.1, fun o r hr => ?_⟩
  rw [← h.2 o r hr]
  unfold sL
  dsimp only
  rw [if_neg]
  rintro ⟨rfl, rfl⟩
  exact hr ⟨rfl, hq⟩
theorem gL_s14 (M : Mem) (v : Int64) : gL (sL M 0 14 v) 0 14 = v := by simp [gL, sL]
theorem ct_bd (n : Nat) (p : Nat → Bool) : 0 ≤ ct n p ∧ ct n p ≤ n := by
  constructor
  · exact sm_nonneg (fun i _ => by split <;> omega)
  · have := sm_bd (n := n) (f := fun i => if p i = true then 1 else 0) (b := 1) (fun i _ => by split <;> omega)
    simp only [ct]; omega
theorem ct_succ (n : Nat) (p : Nat → Bool) : ct (n + 1) p = ct n p + if p n = true then 1 else 0 := rfl
theorem ct_congr {n : Nat} {p q : Nat → Bool} (h : ∀ i, i < n → p i = q i) : ct n p = ct n q := sm_congr (fun i hi => by rw [h i hi])
theorem ct_zero {n : Nat} {p : Nat → Bool} (h : ∀ i, i < n → p i = false) : ct n p = 0 := sm_zero (fun i hi => by rw [h i hi]; simp)
theorem bl_step {A : Ab} (m : Int64) (v : Int) (n : Nat) : ct n (fun c => hs m c && decide (ht A c ≤ v)) = ct n (fun c => hs m c && decide (ht A c ≤ v - 1)) + ct n (fun c => hs m c && decide (ht A c = v)) := by
  induction n with
  | zero => rfl
  | succ n ih =>
    rw [ct_succ, ct_succ, ct_succ, ih]
    by_cases h : hs m (n : Int) = true
    · rcases Int.lt_trichotomy (ht A (n : Int)) v with q | q | q
      · simp [h, show ht A (n : Int) ≤ v by omega, show ht A (n : Int) ≤ v - 1 by omega, show ¬ ht A (n : Int) = v by omega]; omega
      · simp [h, q, show ¬ v ≤ v - 1 by omega]; omega
      · simp [h, show ¬ ht A (n : Int) ≤ v by omega, show ¬ ht A (n : Int) ≤ v - 1 by omega, show ¬ ht A (n : Int) = v by omega]
    · simp [h]
theorem hv_step {A : Ab} (m : Int64) (v : Int) (n : Nat) : sm n (fun c => if hs m c = true ∧ ht A c ≤ v then ht A c else 0) = sm n (fun c => if hs m c = true ∧ ht A c ≤ v - 1 then ht A c else 0) + sm n (fun c => if hs m c = true ∧ ht A c = v then v else 0) := by
  induction n with
  | zero => rfl
  | succ n ih =>
    simp only [sm]
    rw [ih]
    by_cases h : hs m (n : Int) = true
    · rcases Int.lt_trichotomy (ht A (n : Int)) v with q | q | q
      · simp [h, show ht A (n : Int) ≤ v by omega, show ht A (n : Int) ≤ v - 1 by omega, show ¬ ht A (n : Int) = v by omega]; omega
      · simp [h, q, show ¬ v ≤ v - 1 by omega]; omega
      · simp [h, show ¬ ht A (n : Int) ≤ v by omega, show ¬ ht A (n : Int) ≤ v - 1 by omega, show ¬ ht A (n : Int) = v by omega]
    · simp [h]
theorem lev_step {M : Mem} {A : Ab} (h : RM M A) (g : WFg A) (m : Int64) {v : Int} (v0 : 0 ≤ v) (v1 : v < 100) (S : Int64) (mo : Bool) {c : Nat} (hc : (c : Int) < nn A) :
    MD_levels_L52 m (ni v) S (bI (mo = true)) (ni (c : Int)) M = some (.inl (S + (if (hs m c && decide (ht A c = v)) = true then nl v else 0), bI ((mo || (hs m c && decide (v < ht A c))) = true), ni ((c + 1 : Nat) : Int)), sL M 0 14 (gL M 0 14 + (if (hs m c && decide (ht A c = v)) = true then 1 else 0))) := by
  have hn := nn_bd g
  have hh := ht_bd g (show 0 ≤ (c : Int) by omega) (by omega)
  unfold MD_levels_L52 MD_levels_L52_J85 MD_levels_L52_J86 MD_levels_L52_J113 MD_levels_L52_J117 MD_levels_L52_J118 MD_levels_L52_J135
  rw [e_many h, e_height h (by omega) (by omega), b1_s, b1_s, ni_s, ni_64 (by omega) (by omega)]
  simp (disch := omega) only [MD_has_eq, ni_le, ni_eq, bI_z, b1_s]
  rw [if_neg (by omega)]
  cases hs m (c : Int) with
  | false => cases mo <;> simp [bI]
  | true =>
    by_cases r : ht A (c : Int) = v
    · cases mo <;> simp [bI, r]
    · by_cases y : v < ht A (c : Int)
      · cases mo <;> simp [bI, r, y, show ¬ ht A (c : Int) ≤ v by omega]
      · cases mo <;> simp [bI, r, y, show ht A (c : Int) ≤ v by omega]
/-- one height of levels() -/
theorem e_lev52 {M : Mem} {A : Ab} (h : RM M A) (g : WFg A) (m : Int64) {v : Int} (v0 : 0 ≤ v) (v1 : v < 100) {S B : Int} (hS : 0 ≤ S ∧ S ≤ 100000000) (hB : 0 ≤ B ∧ B ≤ 100) (h14 : gL M 0 14 = nl B) :
    ∃ M', lpM (fun s M9 => MD_levels_L52 m (ni v) s.1 s.2.1 s.2.2 M9) FUEL (nl S, (0 : Int32), (0 : Int32)) M = some ((nl (S + sm (nn A).toNat (fun c => if hs m c = true ∧ ht A c = v then v else 0)), bI (0 < mr A m v)), M') ∧ FrL M M' ∧ gL M' 0 14 = nl (B + ct (nn A).toNat (fun c => hs m c && decide (ht A c = v))) := by
  have hn := nn_bd g
  have key : ∃ r M', lpM (fun s M9 => MD_levels_L52 m (ni v) s.1 s.2.1 s.2.2 M9) FUEL (nl S, (0 : Int32), (0 : Int32)) M = some (r, M') ∧ (r = (nl (S + sm (nn A).toNat (fun c => if hs m c = true ∧ ht A c = v then v else 0)), bI (0 < mr A m v)) ∧ FrL M M' ∧ gL M' 0 14 = nl (B + ct (nn A).toNat (fun c => hs m c && decide (ht A c = v)))) := by
    refine lpM_to (nn A).toNat (by omega) (fun c s M' => s = (nl (S + sm c (fun c => if hs m c = true ∧ ht A c = v then v else 0)), bI (0 < ct c (fun c => hs m c && decide (v < ht A c))), ni (c : Int)) ∧ FrL M M' ∧ gL M' 0 14 = nl (B + ct c (fun c => hs m c && decide (ht A c = v)))) _ ?_ ?_ ⟨?_, FrL.rfl', ?_⟩
    · rintro c hc s M1 ⟨rfl, hF, hb⟩
      have hR := hF.RM h
      have st := lev_step hR g m v0 v1 (nl (S + sm c (fun c => if hs m c = true ∧ ht A c = v then v else 0))) (decide (0 < ct c (fun c => hs m c && decide (v < ht A c)))) (c := c) (by omega)
      simp only [decide_eq_true_eq] at st
      refine ⟨_, _, st, ?_, FrL_sL hF (by omega) _, ?_⟩
      · refine Prod.ext ?_ (Prod.ext ?_ rfl)
        · simp only [sm]
          by_cases r : hs m (c : Int) = true ∧ ht A (c : Int) = v
          · rw [if_pos r, if_pos (by simp [r]), nl_add, Int.add_assoc]
          · rw [if_neg r, if_neg (by simpa using r)]; simp
        · simp only [ct_succ]
          have hcc := ct_bd c (fun c => hs m c && decide (v < ht A c))
          apply bI_c
          simp only [Bool.or_eq_true, decide_eq_true_eq]
          split
          · rename_i z; simp only [z, or_true, true_iff]; omega
          · rename_i z; simp only [z]; simp
      · rw [gL_s14, hb]
        simp only [ct_succ]
        split
        · rw [show (1 : Int64) = nl 1 from rfl, nl_add, Int.add_assoc]
        · simp
    · rintro s M1 ⟨rfl, hF, hb⟩
      refine ⟨_, M1, ?_, rfl, hF, hb⟩
      unfold MD_levels_L52
      dsimp only
      rw [e_many (hF.RM h)]
      simp (disch := omega) only [ni_le]
      rw [if_pos (by omega)]
      rfl
    · rw [show ct 0 (fun c => hs m c && decide (v < ht A c)) = 0 from rfl]
      simp [sm, bI]; rfl
    · rw [h14]; simp [ct, sm]
  obtain ⟨r, M', e, rfl, hF, hb⟩ := key
  exact ⟨M', e, hF, hb⟩
theorem e_levels {M : Mem} {A : Ab} (h : RM M A) (g : WFg A) (b : WFb A) {k : Int} (h0 : 0 ≤ k) (h1 : k < 72) (hz : msk A k ≠ 0) : ∃ M' x y, MD_levels (ni k) M = some ((), M') ∧ FrL M M' ∧ gL M' 0 13 = nl x ∧ gL M' 0 14 = nl y ∧ LV A (msk A k) (vol A k) x y := by
  have hn := nn_bd g
  have hvl := (b.1 k h0 h1).2.2.2
  have hm := fun c => b.2.1 k c h0 h1
  have c1 : inb ((152 : Int32) + ni k) 513 = true := by
    rw [show (152 : Int32) = ni 152 from rfl, ni_add, ni_inb (by omega) (by omega)]; exact decide_eq_true (by omega)
  have c2 : inb ((224 : Int32) + ni k) 513 = true := by
    rw [show (224 : Int32) = ni 224 from rfl, ni_add, ni_inb (by omega) (by omega)]; exact decide_eq_true (by omega)
  have c3 : gL M 1 ((152 : Int32) + ni k).toNatClampNeg = msk A k := by
    rw [show (152 : Int32) = ni 152 from rfl, ni_add, ni_nat (by omega) (by omega), show (152 + k).toNat = 152 + k.toNat by omega, RM_msk h h0 h1]
  have c4 : gL M 1 ((224 : Int32) + ni k).toNatClampNeg = nl (vol A k) := by
    rw [show (224 : Int32) = ni 224 from rfl, ni_add, ni_nat (by omega) (by omega), show (224 + k).toNat = 224 + k.toNat by omega, RM_vol h h0 h1]
  generalize hmk : msk A k = m at *
  generalize hV : vol A k = V at *
  obtain ⟨l1, l2, l3⟩ := lo_spec hz
  have hl := hm _ l2
  have hstop : stp A m V 99 := by
    have hh := ht_bd g hl.1 (by omega)
    refine ⟨?_, Or.inl ?_⟩
    · have := bl_pos g hl.1 hl.2 l2
      have := bl_mono (A := A) (m := m) hh.2
      omega
    · apply ct_zero
      intro i hi
      have := ht_bd g (show 0 ≤ (i : Int) by omega) (by omega)
      simp; intro _; omega
  have key : ∃ r M', lpM (fun s M9 => MD_levels_L34 m s.1 s.2.1 s.2.2 M9) FUEL (nl V, (0 : Int32), (0 : Int32)) (sL M 0 14 (0 : Int64)) = some (r, M') ∧ (FrL M M' ∧ ∃ v, (0 ≤ v ∧ v ≤ 99) ∧ r = nl (V + hv A m v) ∧ gL M' 0 14 = nl (bl A m v) ∧ stp A m V v ∧ ∀ u, 0 ≤ u → u < v → ¬ stp A m V u) := by
    refine lpM_wf (fun s M' => ∃ v d : Int, (0 ≤ v ∧ v ≤ 100) ∧ s = (nl (V + hv A m (v - 1)), ni d, ni v) ∧ FrL M M' ∧ gL M' 0 14 = nl (bl A m (v - 1)) ∧ ((d = 0 ∧ ∀ u, 0 ≤ u → u < v → ¬ stp A m V u) ∨ (d = 1 ∧ 1 ≤ v ∧ stp A m V (v - 1) ∧ ∀ u, 0 ≤ u → u < v - 1 → ¬ stp A m V u))) (fun s _ => 100 - s.2.2.toInt.toNat) _ ?_ FUEL _ _ ?_ ?_
    · rintro s M1 ⟨v, d, ⟨v0, v1⟩, rfl, hF, h14, hd⟩
      have hR := hF.RM h
      rcases hd with ⟨rfl, hu⟩ | ⟨rfl, hv1, hs1, hu⟩
      · left
        have v99 : v ≤ 99 := by
          by_cases e : v = 100
          · exact absurd hstop (hu 99 (by omega) (by omega))
          · omega
        have hvb := hv_bd g m (v - 1)
        have hbb := bl_bd g m (v - 1)
        have hvb' := hv_bd g m v
        have hbb' := bl_bd g m v
        obtain ⟨M2, e1, e2, e3⟩ := e_lev52 hR g m v0 (by omega) (S := V + hv A m (v - 1)) (B := bl A m (v - 1)) (by omega) (by omega) h14
        have es : V + hv A m (v - 1) + sm (nn A).toNat (fun c => if hs m c = true ∧ ht A c = v then v else 0) = V + hv A m v := by
          have := hv_step (A := A) m v (nn A).toNat
          simp only [hv]
          rw [this, Int.add_assoc]
        have eb : bl A m (v - 1) + ct (nn A).toNat (fun c => hs m c && decide (ht A c = v)) = bl A m v := by
          have := bl_step (A := A) m v (nn A).toNat
          simp only [bl]
          rw [this]
        rw [es] at e1
        rw [eb] at e3
        have nx := nd_next A m v
        have mn := mr_nonneg A m v
        have ndb := nd_bd g m (x := v + 1) (by omega)
        have ndn := nd_nonneg A m (v + 1)
        unfold MD_levels_L34
        dsimp only
        rw [show (100 : Int32) = ni 100 from rfl, if_neg (by rw [ni_le (by omega) (by omega) (by omega) (by omega)]; omega), if_neg (by simp; rfl), e1, b2_s, e3]
        simp (disch := omega) only [show (1 : Int32) = ni 1 from rfl, ni_add, show (0 : Int64) = nl 0 from rfl, show (1 : Int64) = nl 1 from rfl, nl_le, nl_add, ni_64, nl_mul]
        have eb2 : bl A m v * (v + 1) = nd A m (v + 1) + hv A m v := by omega
        rw [eb2]
        simp (disch := omega) only [nl_lt, bI_z]
        have hmeas : ∀ x y, (100 - ((x, y, ni (v + 1)) : Int64 × Int32 × Int32).2.2.toInt.toNat) < 100 - ((nl (V + hv A m (v - 1)), ni 0, ni v) : Int64 × Int32 × Int32).2.2.toInt.toNat := by
          intro x y
          dsimp only
          rw [ni_toInt (by omega) (by omega), ni_toInt (by omega) (by omega)]
          omega
        by_cases q : bl A m v ≤ 0
        · rw [if_pos q]
          refine ⟨_, M2, rfl, ⟨v + 1, 0, by omega, ?_, hF.trans e2, ?_, Or.inl ⟨rfl, ?_⟩⟩, hmeas _ _⟩
          · rw [show v + 1 - 1 = v by omega]; rfl
          · rw [show v + 1 - 1 = v by omega]; exact e3
          · intro u u0 u1
            by_cases e : u = v
            · subst e; intro z; have := z.1; omega
            · exact hu u u0 (by omega)
        · rw [if_neg q]
          by_cases r : 0 < mr A m v
          · rw [if_neg (by omega)]
            by_cases z : nd A m (v + 1) + hv A m v < V + hv A m v
            · rw [if_pos z]
              refine ⟨_, M2, rfl, ⟨v + 1, 0, by omega, ?_, hF.trans e2, ?_, Or.inl ⟨rfl, ?_⟩⟩, hmeas _ _⟩
              · rw [show v + 1 - 1 = v by omega]; rfl
              · rw [show v + 1 - 1 = v by omega]; exact e3
              · intro u u0 u1
                by_cases e : u = v
                · subst e; intro y; rcases y.2 with y | y <;> omega
                · exact hu u u0 (by omega)
            · rw [if_neg z]
              refine ⟨_, M2, rfl, ⟨v + 1, 1, by omega, ?_, hF.trans e2, ?_, Or.inr ⟨rfl, by omega, ?_, ?_⟩⟩, hmeas _ _⟩
              · rw [show v + 1 - 1 = v by omega]
              · rw [show v + 1 - 1 = v by omega]; exact e3
              · rw [show v + 1 - 1 = v by omega]; exact ⟨by omega, Or.inr (by omega)⟩
              · rw [show v + 1 - 1 = v by omega]; exact hu
          · rw [if_pos r]
            refine ⟨_, M2, rfl, ⟨v + 1, 1, by omega, ?_, hF.trans e2, ?_, Or.inr ⟨rfl, by omega, ?_, ?_⟩⟩, hmeas _ _⟩
            · rw [show v + 1 - 1 = v by omega]
            · rw [show v + 1 - 1 = v by omega]; exact e3
            · rw [show v + 1 - 1 = v by omega]; exact ⟨by omega, Or.inl (by omega)⟩
            · rw [show v + 1 - 1 = v by omega]; exact hu
      · right
        refine ⟨nl (V + hv A m (v - 1)), M1, ?_, hF, v - 1, by omega, rfl, h14, hs1, hu⟩
        unfold MD_levels_L34
        dsimp only
        split
        · rfl
        · rw [if_pos (by decide)]
    · refine ⟨0, 0, by omega, ?_, FrL_sL FrL.rfl' (by omega) _, ?_, Or.inl ⟨rfl, fun u u0 u1 => by omega⟩⟩
      · have : hv A m (0 - 1) = 0 := by
          apply sm_zero
          intro i hi
          have := ht_bd g (show 0 ≤ (i : Int) by omega) (by omega)
          rw [if_neg]
          rintro ⟨_, z⟩
          omega
        rw [this, Int.add_zero]; rfl
      · have : bl A m (0 - 1) = 0 := by
          apply ct_zero
          intro i hi
          have := ht_bd g (show 0 ≤ (i : Int) by omega) (by omega)
          simp; intro _; omega
        rw [gL_s14, this]; rfl
    · have := FUEL_big; omega
  obtain ⟨r, M', e, hF, v, hv', rfl, h14, hs1, hu⟩ := key
  refine ⟨sL M' 0 13 (nl (V + hv A m v)), V + hv A m v, bl A m v, ?_, FrL_sL hF (by omega) _, ?_, ?_, ⟨v, hv', rfl, rfl, hs1, hu⟩⟩
  · unfold MD_levels
    rw [c1, c2, ck_t, ck_t, c3, c4, e, b2_s]
  · simp [gL, sL]
  · rw [← h14]; simp [gL, sL]
