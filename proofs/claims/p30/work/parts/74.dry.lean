/-! 74.dry: evaporation on both sides -/
theorem ptn_g (A : Ab) (g : Int64) (k : Int) : ptn (aL A 0 3 g) k = aL (ptn A k) 0 3 g := by
  have hc : cap (aL A 0 3 g) = cap A := ((show GE A (aL A 0 3 g) by refine GE_of ?_ ?_ ?_ ?_ ?_ <;> simp [aL]).cap).symm
  refine Prod.ext ?_ ?_
  · unfold ptn
    simp only [hc]
    simp [aI, aL, fst, snd, msk]
  · funext f j
    simp [ptn, aI, aL]
    by_cases e : f = 1
    · subst e; simp
    · simp [e]
theorem dw_g : ∀ n : Nat, ∀ (A : Ab) (g : Int64) (k a : Int), dw n (aL A 0 3 g) k a = aL (dw n A k a) 0 3 g := by
  intro n
  induction n with
  | zero => intro A g k a; rfl
  | succ n ih =>
    intro A g k a
    have hc : cap (aL A 0 3 g) = cap A := ((show GE A (aL A 0 3 g) by refine GE_of ?_ ?_ ?_ ?_ ?_ <;> simp [aL]).cap).symm
    have hm : ∀ j, msk (aL A 0 3 g) j = msk A j := fun j => by simp [aL, msk]
    have hf : ∀ j, fst (aL A 0 3 g) j = fst A j := fun j => rfl
    have hs' : ∀ j, snd (aL A 0 3 g) j = snd A j := fun j => rfl
    have hv : ∀ j, vol (aL A 0 3 g) j = vol A j := fun j => rfl
    have hl : lvol (aL A 0 3 g) k = lvol A k := by unfold lvol; rw [hc]; simp only [hm, hf, hs']
    have hfa : fa (aL A 0 3 g) k = fa A k := by unfold fa; simp only [hm, hf, hs']
    have hsa : sa (aL A 0 3 g) k = sa A k := by unfold sa; simp only [hm, hf, hs']
    have hd : dwf (aL A 0 3 g) k a = dwf A k a := by unfold dwf; rw [hl, hfa, hc, hm, hv]
    simp only [dw]
    rw [hl, hv, hfa, hsa, hd, ptn_g, ih, ih]
    split
    · refine Prod.ext rfl rfl
    · rfl
def am (A : Ab) (n : Nat) : Int := if vol A (pof A n) < wtn A (msk A (pof A n)) then vol A (pof A n) else wtn A (msk A (pof A n))
def dsq (A : Ab) : Nat → Ab
  | 0 => A
  | n + 1 => DW (dsq A n) (pof A n) (am A n)
def dryn (A : Ab) : Ab := dsq A (lown A 36).toNat
def dryS (A : Ab) : Int := sm (lown A 36).toNat (am A)
theorem am_rg {A : Ab} (h : WF A) {n : Nat} (hn : (n : Int) < lown A 36) : 0 ≤ am A n ∧ am A n ≤ vol A (pof A n) := by
  have hv := npv_rg h hn
  unfold npv at hv
  have hw := (ct_bd (nn A).toNat (fun c => hs (msk A (pof A n)) c && isw A c)).1
  unfold am wtn
  split <;> omega
theorem pof_inj {A : Ab} (b : WFb A) {n m : Nat} (hn : (n : Int) < lown A 36) (hm : (m : Int) < lown A 36) (h : pof A n = pof A m) : n = m := by
  obtain ⟨c, c1, c2, c3, c4, c5, c6, c7, c8⟩ := pof_in b (n := (n : Int)) (by omega) hn
  obtain ⟨d, d1, d2, d3, d4, d5, d6, d7, d8⟩ := pof_in b (n := (m : Int)) (by omega) hm
  rw [h, d8] at c8
  have : c = d := by omega
  subst this
  omega
theorem dsq_ok {A : Ab} (h : WF A) : ∀ n : Nat, (n : Int) ≤ lown A 36 → WF (dsq A n) ∧ wat (dsq A n) = wat A - sm n (am A) ∧ KP A (dsq A n) ∧ ∀ m : Nat, n ≤ m → (m : Int) < lown A 36 → nod (dsq A n) (pof A m) = nod A (pof A m) := by
  intro n
  induction n with
  | zero => intro _; exact ⟨h, by simp [sm, dsq], KP.refl A, fun m _ _ => rfl⟩
  | succ n ih =>
    intro hn
    obtain ⟨i1, i2, i3, i4⟩ := ih (by omega)
    obtain ⟨c, c1, c2, c3, c4, c5, c6, c7, c8⟩ := pof_in h.2.1 (n := (n : Int)) (by omega) (by omega)
    have nk := i4 n (by omega) (by omega)
    have ha := am_rg h (n := n) (by omega)
    have ht : there (dsq A n) (pof A n) = 1 := by rw [nod_there nk]; exact c6
    have hz := sz_bd i1 c5.1 (show pof A (n : Int) < 72 by omega) (by rw [nod_msk nk]; exact c7)
    obtain ⟨w1, w2, w3, w4⟩ := dw_ok 71 (dsq A n) (pof A n) (am A n) i1 c5.1 (by omega) ht ha.1 (by rw [nod_vol nk]; exact ha.2) (by omega)
    refine ⟨w1, ?_, i3.trans w3, fun m hm1 hm2 => ?_⟩
    · show wat (dw 71 (dsq A n) (pof A n) (am A n)) = _
      simp only [sm]; omega
    · have nm := i4 m (by omega) hm2
      rw [← nm]
      apply w4
      rintro ⟨q1, q2⟩
      obtain ⟨d, d1, d2, d3, d4, d5, d6, d7, d8⟩ := pof_in h.2.1 (n := (m : Int)) (by omega) hm2
      have hne : pof A (m : Int) ≠ pof A (n : Int) := fun z => by have := pof_inj h.2.1 hm2 (by omega) z; omega
      rw [nod_msk nm] at q1 q2
      rw [nod_msk nk] at q2
      have hl := (lo_spec d7).2.1
      exact hne (h.2.1.2.2.2.1 _ _ _ d5.1 (by omega) c5.1 (by omega) d6 c6 hl (q2 _ hl))
theorem dryS_rg {A : Ab} (h : WF A) : 0 ≤ dryS A ∧ dryS A ≤ wat A := by
  have hl := lown_le A 36
  have hl0 := lown_nonneg A 36
  have := dsq_ok h (lown A 36).toNat (by omega)
  have hw := (wat_bd this.1.2.1 72 (by omega)).1
  have hw' : 0 ≤ wat (dsq A (lown A 36).toNat) := hw
  unfold dryS
  exact ⟨sm_nonneg (fun i hi => (am_rg h (by omega)).1), by omega⟩
/-- rounds -/
def evA : Nat → Ab → Ab
  | 0, A => A
  | r + 1, A => dryn (evA r A)
def evS : Nat → Ab → Int
  | 0, _ => 0
  | r + 1, A => evS r A + dryS (evA r A)
theorem evA_ok {A : Ab} (h : WF A) : ∀ r : Nat, WF (evA r A) ∧ wat (evA r A) = wat A - evS r A ∧ KP A (evA r A) ∧ 0 ≤ evS r A := by
  intro r
  induction r with
  | zero => exact ⟨h, by simp [evA, evS], KP.refl A, by simp [evS]⟩
  | succ r ih =>
    obtain ⟨i1, i2, i3, i4⟩ := ih
    have hl := lown_le (evA r A) 36
    have hl0 := lown_nonneg (evA r A) 36
    obtain ⟨d1, d2, d3, _⟩ := dsq_ok i1 (lown (evA r A) 36).toNat (by omega)
    have hs' := dryS_rg i1
    refine ⟨d1, ?_, i3.trans d3, ?_⟩
    · show wat (dsq (evA r A) (lown (evA r A) 36).toNat) = wat A - (evS r A + dryS (evA r A))
      unfold dryS
      omega
    · show 0 ≤ evS r A + dryS (evA r A)
      omega
/-- with what has gone -/
def dG (A : Ab) (g : Int64) : Ab := aL A 0 3 g
theorem dG_WF {A : Ab} (g : Int64) : (WF A → WF (dG A g)) ∧ wat (dG A g) = wat A ∧ ∀ j, lk (dG A g) j = lk A j := WF_long rfl (fun j => by simp [dG, aL, msk]) (by simp [dG, aL, drn]) (by simp [dG, aL, pits])
theorem dG_nod (A : Ab) (g : Int64) (j : Int) : nod (dG A g) j = nod A j := by simp [nod, dG, aL, vol, fst, snd, there, msk]
theorem dG_ge (A : Ab) (g : Int64) : GE A (dG A g) := by refine GE_of ?_ ?_ ?_ ?_ ?_ <;> simp [dG, aL]
theorem dG_pof (A : Ab) (g : Int64) (n : Int) : pof (dG A g) n = pof A n ∧ ∀ m : Nat, lown (dG A g) m = lown A m := by
  have hl : ∀ c, low (dG A g) c = low A c := fun c => by unfold low; rw [(dG_WF g).2.2, nod_msk (dG_nod A g _)]
  have hn : ∀ m : Nat, lown (dG A g) m = lown A m := fun m => by unfold lown; exact ct_congr (fun i _ => hl i)
  refine ⟨?_, hn⟩
  unfold pof
  rw [ff_congr (q := fun c => low A c && decide (lown A c = n)) (fun i _ => by rw [hl, hn])]
  simp only [(dG_WF g).2.2]
theorem dG_isw (A : Ab) (g : Int64) (c : Int) : isw (dG A g) c = isw A c := by
  unfold isw wt
  rw [(dG_WF g).2.2, nod_msk (dG_nod A g _), nod_vol (dG_nod A g _), ← (dG_ge A g).nd]
  rfl
theorem dG_am (A : Ab) (g : Int64) (n : Nat) : am (dG A g) n = am A n := by
  unfold am wtn
  rw [(dG_pof A g n).1, nod_vol (dG_nod A g _), nod_msk (dG_nod A g _), ← (dG_ge A g).nn]
  simp only [dG_isw]
theorem dG_dsq (A : Ab) (g : Int64) : ∀ n : Nat, dsq (dG A g) n = dG (dsq A n) g := by
  intro n
  induction n with
  | zero => rfl
  | succ n ih =>
    simp only [dsq]
    rw [ih, (dG_pof A g n).1, dG_am]
    exact dw_g 71 _ g _ _
theorem dG_dG (A : Ab) (g g' : Int64) : dG (dG A g) g' = dG A g' := by
  refine Prod.ext rfl ?_
  funext f j
  simp only [dG, aL]
  split <;> rfl
/-- the other side's round -/
def FrE (M M' : Mem) : Prop := (∀ o q, o ≠ 5 → o ≠ 7 → o ≠ 10 → ¬ (o = 0 ∧ (q = 6 ∨ q = 7 ∨ q = 8 ∨ q = 12)) → M'.1 o q = M.1 o q) ∧ ∀ o q, o ≠ 1 → o ≠ 6 → o ≠ 11 → ¬ (o = 0 ∧ (q = 13 ∨ q = 14)) → M'.2 o q = M.2 o q
theorem FrE.refl (M : Mem) : FrE M M := ⟨fun _ _ _ _ _ _ => rfl, fun _ _ _ _ _ _ => rfl⟩
theorem FrE.trans {M M' M'' : Mem} (h : FrE M M') (h' : FrE M' M'') : FrE M M'' := ⟨fun o q a b c d => (h'.1 o q a b c d).trans (h.1 o q a b c d), fun o q a b c d => (h'.2 o q a b c d).trans (h.2 o q a b c d)⟩
theorem FrE.ofT {M M' : Mem} (h : FrT M M') : FrE M M' := ⟨fun o q a _ _ d => h.1 o q a (fun z => d ⟨z.1, by omega⟩), fun o q a b _ _ => h.2 o q a b⟩
theorem FrE.ofO {M M' : Mem} (h : FrO M M') : FrE M M' := ⟨fun o q _ b _ d => h.2 o q b (fun z => d ⟨z.1, by omega⟩), fun o q _ _ _ _ => by rw [h.1]⟩
theorem FrE.ofL {M M' : Mem} (h : FrL M M') : FrE M M' := ⟨fun o q _ _ _ _ => by rw [h.1], fun o q _ _ _ d => h.2 o q d⟩
theorem e_evaporates {M : Mem} {A : Ab} (h : RM M A) (hW : WF A) : ∃ M', MD_evaporates M = some ((), M') ∧ RM M' (dG (dryn A) (gon A + nl (dryS A))) ∧ FrE M M' := by
  have hnn := nn_bd hW.1
  have hle := lown_le A 36
  have hl0 := lown_nonneg A 36
  obtain ⟨M1, q1, F1, O1⟩ := e_orders h hW.1 hW.2.1
  have R1 := F1.RM h
  have k1 : ∃ r M', lpM (fun s M9 => MD_evaporates_L11 (ni (lown A 36)) s M9) FUEL (0 : Int32) M1 = some (r, M') ∧ (RM M' A ∧ FrE M M' ∧ ∀ n : Nat, (n : Int) < lown A 36 → gI M' 10 n = ni (pof A n) ∧ gL M' 11 n = nl (am A n)) := by
    refine lpM_to (lown A 36).toNat (by omega) (fun i s M' => s = ni (i : Int) ∧ RM M' A ∧ FrE M M' ∧ OR M' A ∧ ∀ n : Nat, n < i → gI M' 10 n = ni (pof A n) ∧ gL M' 11 n = nl (am A n)) _ ?_ ?_ ⟨rfl, R1, FrE.ofO F1, O1, fun n hn => by omega⟩
    · rintro i hi s M2 ⟨rfl, R2, F2, O2, hd⟩
      obtain ⟨c, c1, c2, c3, c4, c5, c6, c7, c8⟩ := pof_in hW.2.1 (n := (i : Int)) (by omega) (by omega)
      have ho := O2.2 i (by omega)
      have hnat : (ni (i : Int)).toNatClampNeg = i := by rw [ni_nat (by omega) (by omega)]; omega
      obtain ⟨M3, q3, F3⟩ := e_wetOf R2 hW.1 hW.2.1 (msk A (pof A i))
      have R3 := F3.RM R2
      have ho3 : gI M3 7 i = ni (pof A i) := by rw [F3.I]; exact ho
      have hv := (hW.2.1.1 _ c5.1 (show pof A (i : Int) < 72 by omega)).2.2.2
      have hwb := ct_bd (nn A).toNat (fun c => hs (msk A (pof A i)) c && isw A c)
      unfold MD_evaporates_L11
      rw [hnat, ho, ixb 152 c5.1 (by omega) (152 : Int32) rfl, ix 152 (by omega) c5.1 (by omega) (152 : Int32) rfl, RM_msk R2 c5.1 (by omega), q3, b2_s, ho3, ixb 224 c5.1 (by omega) (224 : Int32) rfl, ix 224 (by omega) c5.1 (by omega) (224 : Int32) rfl, RM_vol R3 c5.1 (by omega), ni_s, ni_64 (by unfold wtn; omega) (by unfold wtn; omega)]
      simp (disch := first | omega | (unfold wtn; omega)) only [ni_le, ni_inb, nl_le]
      rw [if_neg (by omega)]
      simp only [ck_d (show 0 ≤ (i : Int) ∧ (i : Int) < ((36 : Nat) : Int) by omega), ck_t]
      have fin : ∀ v, v = am A i → ∃ s' M'', some ((Sum.inl (ni ((i + 1 : Nat) : Int)) : Int32 ⊕ Unit), sL (sI M3 10 i (ni (pof A i))) 11 i (nl v)) = some (Sum.inl s', M'') ∧ s' = ni ((i + 1 : Nat) : Int) ∧ RM M'' A ∧ FrE M M'' ∧ OR M'' A ∧ ∀ n : Nat, n < i + 1 → gI M'' 10 n = ni (pof A n) ∧ gL M'' 11 n = nl (am A n) := by
        rintro v rfl
        refine ⟨_, _, rfl, rfl, RM_of R3 (fun k _ => by simp [gL, sL, sI]), (F2.trans (FrE.ofL F3)).trans ⟨fun o q _ _ c _ => by simp [sI, sL, c], fun o q _ _ c _ => by simp [sI, sL, c]⟩, ⟨?_, fun n hn => ?_⟩, fun n hn => ?_⟩
        · rw [← O2.1, ← F3.I]; simp [gI, sI, sL]
        · rw [← O2.2 n hn, ← F3.I]; simp [gI, sI, sL]
        · by_cases e : n = i
          · subst e; simp [gI, gL, sI, sL]
          · have := hd n (by omega)
            rw [← this.1, ← this.2, ← F3.I, ← F3.L (o := 11) (k := n) (by omega)]
            simp [gI, gL, sI, sL, e]
      by_cases z : vol A (pof A i) ≤ wtn A (msk A (pof A i))
      · rw [if_pos z]
        apply fin
        unfold am
        split <;> omega
      · rw [if_neg z]
        apply fin
        unfold am
        split <;> omega
    · rintro s M2 ⟨rfl, R2, F2, O2, hd⟩
      refine ⟨(), M2, ?_, R2, F2, fun n hn => hd n (by omega)⟩
      unfold MD_evaporates_L11
      simp (disch := omega) only [ni_le]
      rw [if_pos (by omega)]
  obtain ⟨r1, M2, p1, R2, F2, hd⟩ := k1
  have k2 : ∃ r M', lpM (fun s M9 => MD_evaporates_L93 (ni (lown A 36)) s M9) FUEL (0 : Int32) M2 = some (r, M') ∧ (RM M' (dG (dsq A (lown A 36).toNat) (gon A + nl (sm (lown A 36).toNat (am A)))) ∧ FrE M M') := by
    refine lpM_to (lown A 36).toNat (by omega) (fun i s M' => s = ni (i : Int) ∧ RM M' (dG (dsq A i) (gon A + nl (sm i (am A)))) ∧ FrE M M' ∧ ∀ n : Nat, (n : Int) < lown A 36 → gI M' 10 n = ni (pof A n) ∧ gL M' 11 n = nl (am A n)) _ ?_ ?_ ⟨rfl, ?_, F2, hd⟩
    · rintro i hi s M3 ⟨rfl, R3, F3, hd3⟩
      obtain ⟨c, c1, c2, c3, c4, c5, c6, c7, c8⟩ := pof_in hW.2.1 (n := (i : Int)) (by omega) (by omega)
      have hnat : (ni (i : Int)).toNatClampNeg = i := by rw [ni_nat (by omega) (by omega)]; omega
      obtain ⟨w1, w2, w3, w4⟩ := dsq_ok hW i (by omega)
      have nk := w4 i (by omega) (by omega)
      have ha := am_rg hW (n := i) (by omega)
      obtain ⟨M4, q4, R4, F4⟩ := e_takes R3 ((dG_WF _).1 w1) c5.1 c5.2 (by rw [nod_there (dG_nod _ _ _), nod_there nk]; exact c6) ha.1 (by rw [nod_vol (dG_nod _ _ _), nod_vol nk]; exact ha.2)
      have eq1 : DWg (dG (dsq A i) (gon A + nl (sm i (am A)))) (pof A i) (am A i) = dG (dsq A (i + 1)) (gon A + nl (sm (i + 1) (am A))) := by
        have e1 : DW (dG (dsq A i) (gon A + nl (sm i (am A)))) (pof A i) (am A i) = dG (dsq A (i + 1)) (gon A + nl (sm i (am A))) := dw_g 71 _ _ _ _
        unfold DWg
        rw [e1]
        have e2 : gon (dG (dsq A i) (gon A + nl (sm i (am A)))) = gon A + nl (sm i (am A)) := by simp [dG, aL, gon]
        rw [e2]
        have e3 : gon A + nl (sm i (am A)) + nl (am A i) = gon A + nl (sm (i + 1) (am A)) := by
          rw [Int64.add_assoc, nl_add]; rfl
        rw [e3]
        exact dG_dG _ _ _
      rw [eq1] at R4
      unfold MD_evaporates_L93
      rw [hnat, (hd3 i (by omega)).1, (hd3 i (by omega)).2, q4, b2_s, ni_s]
      simp (disch := omega) only [ni_le, ni_inb]
      rw [if_neg (by omega), ck_d (by omega), ck_d (by omega)]
      refine ⟨_, M4, rfl, rfl, R4, F3.trans (FrE.ofT F4), fun n hn => ?_⟩
      have := hd3 n hn
      rw [← this.1, ← this.2]
      exact ⟨F4.1 10 n (by omega) (by omega), F4.2 11 n (by omega) (by omega)⟩
    · rintro s M3 ⟨rfl, R3, F3, hd3⟩
      refine ⟨(), M3, ?_, R3, F3⟩
      unfold MD_evaporates_L93
      simp (disch := omega) only [ni_le]
      rw [if_pos (by omega)]
    · have : dG (dsq A 0) (gon A + nl (sm 0 (am A))) = A := by
        simp only [dsq, sm]
        rw [show nl 0 = 0 from rfl, Int64.add_zero]
        exact aL_id A 0 3
      rw [this]; exact R2
  obtain ⟨r2, M3, p2, R3, F3⟩ := k2
  refine ⟨M3, ?_, R3, F3⟩
  unfold MD_evaporates
  rw [q1, b2_s, O1.1, p1, b2_s, p2, b2_s]
/-- this side's round -/
theorem c_dryOnce {w : Nat} (hw : IsW w) {M : Mem} {A : Ab} (hR : RW0 w M A) (hW : WF A) : ∃ M', WD_dryOnce w M = some (ni (dryS A), M') ∧ RW0 w M' (dryn A) ∧ Fr (fun p => w ≤ p ∧ p < w + 46) M M' ∧ (∀ q, gL M' w q = gL M w q) := by
  obtain ⟨zg, zy, zl, z42, z44⟩ := sz_w hw
  have hle := lown_le A 36
  have hl0 := lown_nonneg A 36
  have k1 : ∃ r M', lpM (fun s M9 => WD_dryOnce_L15 w (0 : Int32) s M9) FUEL (0 : Int32) (sI M w 8 (ni (lown A 36))) = some (r, M') ∧ (Fr (fun p => p = w ∨ p = w + 42 + 1 ∨ p = w + 44 + 1) M M' ∧ (∀ q, gL M' w q = gL M w q) ∧ CD w M' (lown A 36) (fun n => pof A n) (am A)) := by
    refine lpM_to (lown A 36).toNat (by omega) (fun i s M' => s = ni (i : Int) ∧ Fr (fun p => p = w ∨ p = w + 42 + 1 ∨ p = w + 44 + 1) M M' ∧ (∀ q, gL M' w q = gL M w q) ∧ gI M' w 8 = ni (lown A 36) ∧ ∀ n : Nat, n < i → fAtI (w + 42) (ni (n : Int)) M' = ni (pof A n) ∧ fAtI (w + 44) (ni (n : Int)) M' = ni (am A n)) _ ?_ ?_ ⟨rfl, Fr.sI (Or.inl rfl), fun _ => rfl, by simp [gI, sI], fun n hn => by omega⟩
    · rintro i hi s M2 ⟨rfl, F2, L2, e8, hd⟩
      have G2 := RG_fr hR.1 F2 (by omega) (by omega) (by omega) (by omega)
      have T2 := RT_fr hR.2.1 F2 (by omega) (by omega)
      have K2 := RLs_fr hR.2.2.2 F2 (by omega) (by omega) (by omega) (by omega) (by omega) (by omega) (by omega) (by omega) (by omega)
      obtain ⟨c, c1, c2, c3, c4, c5, c6, c7, c8⟩ := pof_in hW.2.1 (n := (i : Int)) (by omega) (by omega)
      have hvol := (K2.2.1 _ c5.1 c5.2 c7).1
      have hv := (hW.2.1.1 _ c5.1 (show pof A (i : Int) < 72 by omega)).2.2.2
      obtain ⟨x, e1, e2⟩ := c_wetLake G2 T2 K2 hW.1 hW.2.1 zl (k := pof A i) (by omega) c5.2 (Or.inr c7)
      have hpc : pc x = wtn A (msk A (pof A i)) := by
        rw [wtn_lake hW.2.1 c5.1 (by omega) c6]
        exact pc_ct hW.1 (p := fun c => wt A (pof A i) c) (fun c => by rw [e2]; have : ¬ pof A (i : Int) = -1 := (by omega); simp [this]) (fun c hc => wt_in hW.2.1 c5.1 (by omega) hc)
      have hpb := pc_bd x
      unfold WD_dryOnce_L15
      rw [e8, c_placeOf K2 hW.2.1 (by omega) (by omega), b1_s, e1, b1_s, ni_s, show w + 22 = w + 19 + 3 from rfl, at_ne (by omega), hvol, JL_bitCount_eq, JM_min_ni (by omega) (by omega) (by omega) (by omega), hpc]
      simp (disch := omega) only [ni_le]
      rw [if_neg (by omega)]
      refine ⟨_, _, rfl, rfl, (F2.trans (Fr.put (Or.inr (Or.inl rfl)))).trans (Fr.put (Or.inr (Or.inr rfl))), fun q => ?_, ?_, fun n hn => ?_⟩
      · rw [← L2 q]
        rw [(Fr.put (P := fun p => p = w + 44 + 1) rfl).gL (by omega), (Fr.put (P := fun p => p = w + 42 + 1) rfl).gL (by omega)]
      · rw [← e8]
        rw [(Fr.put (P := fun p => p = w + 44 + 1) rfl).gI (by omega), (Fr.put (P := fun p => p = w + 42 + 1) rfl).gI (by omega)]
      · by_cases e : n = i
        · subst e
          rw [at_ne (by omega), at_eq z42 (by omega) (by omega) (by omega), at_eq z44 (by omega) (by omega) (by omega)]
          exact ⟨rfl, rfl⟩
        · rw [at_ne (by omega), at_x z42 (by omega) (by omega) (by omega) (by omega) (by omega) (by omega), at_x z44 (by omega) (by omega) (by omega) (by omega) (by omega) (by omega), at_ne (by omega)]
          exact hd n (by omega)
    · rintro s M2 ⟨rfl, F2, L2, e8, hd⟩
      refine ⟨(), M2, ?_, F2, L2, e8, fun n hn => hd n (by omega)⟩
      unfold WD_dryOnce_L15
      rw [e8]
      simp (disch := omega) only [ni_le]
      rw [if_pos (by omega)]
  obtain ⟨r1, M1, p1, F1, L1, D1⟩ := k1
  have G1 := RG_fr hR.1 F1 (by omega) (by omega) (by omega) (by omega)
  have T1 := RT_fr hR.2.1 F1 (by omega) (by omega)
  have Y1 := RY_fr hR.2.2.1 F1 (by omega) (by omega) (by omega) (by omega)
  have K1 := RLs_fr hR.2.2.2 F1 (by omega) (by omega) (by omega) (by omega) (by omega) (by omega) (by omega) (by omega) (by omega)
  have k2 : ∃ r M', lpM (fun s M9 => WD_dryOnce_L90 w s.1 s.2 M9) FUEL ((0 : Int32), (0 : Int32)) M1 = some (r, M') ∧ (r = ni (dryS A) ∧ RLs (w + 19) M' (dryn A) ∧ Fr (isLk (w + 19)) M1 M') := by
    refine lpM_to (lown A 36).toNat (by omega) (fun i s M' => s = (ni (sm i (am A)), ni (i : Int)) ∧ RLs (w + 19) M' (dsq A i) ∧ Fr (isLk (w + 19)) M1 M') _ ?_ ?_ ⟨rfl, K1, Fr.rfl'⟩
    · rintro i hi s M2 ⟨rfl, K2, F2⟩
      obtain ⟨c, c1, c2, c3, c4, c5, c6, c7, c8⟩ := pof_in hW.2.1 (n := (i : Int)) (by omega) (by omega)
      obtain ⟨w1, w2, w3, w4⟩ := dsq_ok hW i (by omega)
      have nk := w4 i (by omega) (by omega)
      have ha := am_rg hW (n := i) (by omega)
      have e8 : gI M2 w 8 = ni (lown A 36) := by rw [F2.gI (by unfold isLk; omega)]; exact D1.1
      have e42 : fAtI (w + 42) (ni (i : Int)) M2 = ni (pof A i) := by rw [F2.at (by unfold isLk; omega)]; exact (D1.2 i (by omega)).1
      have e44 : ∀ M', Fr (isLk (w + 19)) M1 M' → fAtI (w + 44) (ni (i : Int)) M' = ni (am A i) := fun M' f => by rw [f.at (by unfold isLk; omega)]; exact (D1.2 i (by omega)).2
      obtain ⟨M3, q3, K3, F3⟩ := c_draw zl K2 w1 c5.1 c5.2 (by rw [nod_there nk]; exact c6) ha.1 (by rw [nod_vol nk]; exact ha.2)
      unfold WD_dryOnce_L90
      dsimp only
      rw [e8, e42, e44 M2 F2, q3, b2_s, e44 M3 (F2.trans F3), ni_s, ni_add]
      simp (disch := omega) only [ni_le]
      rw [if_neg (by omega)]
      exact ⟨_, M3, rfl, rfl, K3, F2.trans F3⟩
    · rintro s M2 ⟨rfl, K2, F2⟩
      have e8 : gI M2 w 8 = ni (lown A 36) := by rw [F2.gI (by unfold isLk; omega)]; exact D1.1
      refine ⟨_, M2, ?_, rfl, K2, F2⟩
      unfold WD_dryOnce_L90
      dsimp only
      rw [e8]
      simp (disch := omega) only [ni_le]
      rw [if_pos (by omega)]
      rfl
  obtain ⟨r2, M2, p2, rfl, K2, F2⟩ := k2
  have hk := (dsq_ok hW (lown A 36).toNat (by omega)).2.2.1
  have nl' : ∀ p, p ≤ w + 20 → ¬ isLk (w + 19) p := fun p hp => by unfold isLk; omega
  refine ⟨M2, ?_, ⟨hk.1.RG (RG_fr G1 F2 (nl' _ (by omega)) (nl' _ (by omega)) (nl' _ (by omega)) (nl' _ (by omega))), hk.1.RT (RT_fr T1 F2 (nl' _ (by omega)) (nl' _ (by omega))), ?_, K2⟩, (F1.mono (fun p hp => by omega)).trans (F2.mono (fun p hp => by unfold isLk at hp; omega)), fun q => ?_⟩
  · unfold WD_dryOnce
    rw [c_total hR.2.2.2 hW.2.1, b1_s, p1, b2_s, p2, b2_s]
  · have y2 := RY_fr Y1 F2 (nl' _ (by omega)) (nl' _ (by omega)) (nl' _ (by omega)) (nl' _ (by omega))
    have hb : bnn (dryn A) = bnn A := hk.2.1
    have hbas : bas (dryn A) = bas A := hk.2.2.1
    have hge : GE A (dryn A) := hk.1
    rw [hb, hbas]
    unfold RY at *
    rw [← hge.nn, ← hge.pl, ← hge.tg]
    exact y2
  · rw [← L1 q]; exact F2.gL (nl' w (by omega))
