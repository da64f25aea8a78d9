/-! 73.renew: the lakes are noted, and poured anew over a changed landscape -/
theorem pof_sum (A : Ab) (f : Int → Int) : ∀ c : Nat, c ≤ 36 → sm (lown A c).toNat (fun n => f (pof A n)) = sm c (fun c => if low A c = true then f (lk A c) else 0) := by
  intro c
  induction c with
  | zero => intro _; rfl
  | succ c ih =>
    intro hc
    have h0 := lown_nonneg A c
    simp only [sm]
    rw [lown_succ, ← ih (by omega)]
    by_cases q : low A c = true
    · rw [if_pos q, if_pos q, show (lown A c + 1).toNat = (lown A c).toNat + 1 by omega]
      simp only [sm]
      rw [Int.toNat_of_nonneg h0, pof_low (by omega) q]
    · rw [if_neg q, if_neg q, Int.add_zero, Int.add_zero]
theorem pof_wat {A : Ab} (g : WFg A) (b : WFb A) : sm (lown A 36).toNat (fun n => vol A (pof A n)) = wat A := by
  rw [pof_sum A (fun k => vol A k) 36 (by omega), lakes_sum g b]; rfl
/-- where, and how much -/
def npl (A : Ab) (n : Nat) : Int := lp A (msk A (pof A n))
def npv (A : Ab) (n : Nat) : Int := vol A (pof A n)
def rep (f v : Nat → Int) : Nat → Ab → Ab
  | 0, B => B
  | n + 1, B => prl prN (rep f v n B) (lk (rep f v n B) (f n)) (v n)
theorem PK_lk {A : Ab} (h : WF A) (c : Int) : PK A (lk A c) := by
  rcases lk_rg h.2.1 c with z | ⟨r0, r1, r2, _⟩
  · left; exact z
  · right; exact ⟨⟨r0, r1⟩, r2⟩
theorem rep_ok {f v : Nat → Int} {B : Ab} (hB : WF B) : ∀ n : Nat, (∀ i, i < n → 0 ≤ v i) → wat B + sm n v ≤ 1200000 → WF (rep f v n B) ∧ wat (rep f v n B) ≤ wat B + sm n v ∧ GE B (rep f v n B) ∧ bnn (rep f v n B) = bnn B ∧ bas (rep f v n B) = bas B ∧ pits (rep f v n B) = pits B ∧ gon (rep f v n B) = gon B ∧ prd (rep f v n B) = prd B := by
  intro n
  induction n with
  | zero => intro _ _; exact ⟨hB, by simp [sm, rep], GE.refl B, rfl, rfl, rfl, rfl, rfl⟩
  | succ n ih =>
    intro h0 h1
    simp only [sm] at h1 ⊢
    have hv := h0 n (by omega)
    obtain ⟨i1, i2, i3, i4, i5, i6, i7, i8⟩ := ih (fun i hi => h0 i (by omega)) (by omega)
    obtain ⟨pw, pwat, pb, pge, pbn, pbas, ppit, plst, pgon, pprd⟩ := prl_WF i1 (PK_lk i1 (f n)) hv (by omega)
    exact ⟨pw, by show wat (prl prN (rep f v n B) (lk (rep f v n B) (f n)) (v n)) ≤ _; omega, i3.trans pge, pbn.trans i4, pbas.trans i5, ppit.trans i6, pgon.trans i7, pprd.trans i8⟩
theorem npl_rg {A : Ab} (h : WF A) {n : Nat} (hn : (n : Int) < lown A 36) : 0 ≤ npl A n ∧ npl A n < nn A := by
  obtain ⟨c, c1, c2, c3, c4, c5, c6, c7, c8⟩ := pof_in h.2.1 (n := (n : Int)) (by omega) hn
  exact (lp_spec h.1 (fun c hc => h.2.1.2.1 _ c c5.1 (by omega) hc) c7).1
theorem npv_rg {A : Ab} (h : WF A) {n : Nat} (hn : (n : Int) < lown A 36) : 0 ≤ npv A n ∧ npv A n ≤ 1200000 := by
  obtain ⟨c, c1, c2, c3, c4, c5, c6, c7, c8⟩ := pof_in h.2.1 (n := (n : Int)) (by omega) hn
  exact (h.2.1.1 _ c5.1 (by omega)).2.2.2
/-- the other side remembers -/
def FrR (M M' : Mem) : Prop := (∀ o q, o ≠ 7 → o ≠ 9 → ¬ (o = 0 ∧ (q = 12 ∨ q = 17)) → M'.1 o q = M.1 o q) ∧ ∀ o q, o ≠ 8 → M'.2 o q = M.2 o q
theorem FrR.ofO {M M' : Mem} (h : FrO M M') : FrR M M' := ⟨fun o q a _ c => h.2 o q a (fun z => c ⟨z.1, Or.inl z.2⟩), fun o q _ => by rw [h.1]⟩
theorem FrR.trans {M M' M'' : Mem} (h : FrR M M') (h' : FrR M' M'') : FrR M M'' := ⟨fun o q a b c => (h'.1 o q a b c).trans (h.1 o q a b c), fun o q a => (h'.2 o q a).trans (h.2 o q a)⟩
theorem FrR.RM {M M' : Mem} {A : Ab} (h : FrR M M') (r : RM M A) : RM M' A := RM_of r (fun k _ => h.2 1 k (by omega))
def PD (M : Mem) (N : Int) (f v : Nat → Int) : Prop := gI M 0 17 = ni N ∧ ∀ n : Nat, (n : Int) < N → gI M 9 n = ni (f n) ∧ gL M 8 n = nl (v n)
theorem e_lowest47 {M : Mem} {A : Ab} (h : RM M A) (g : WFg A) {k : Int} (h0 : 0 ≤ k) (h1 : k < 72) {n : Nat} (hn : n < 36) (ho : gI M 7 n = ni k) : lpR (fun s => MD_remembers_L47 (ni (n : Int)) s.1 s.2 M) FUEL ((-1 : Int32), (0 : Int32)) = some (ni (lp A (msk A k))) := by
  have hnn := nn_bd g
  have hnat : (ni (n : Int)).toNatClampNeg = n := by rw [ni_nat (by omega) (by omega)]; omega
  refine lpR_to (fun c => (ni (lpf A (msk A k) c), ni (c : Int))) _ (nn A).toNat (by omega) ?_ ?_ rfl
  · intro c hc
    have hh := ht_bd g (show 0 ≤ (c : Int) by omega) (by omega)
    unfold MD_remembers_L47
    dsimp only
    rw [e_many h, hnat, ho, ixb 152 h0 (by omega) (152 : Int32) rfl, ix 152 (by omega) h0 (by omega) (152 : Int32) rfl, RM_msk h h0 h1, e_height h (by omega) (by omega), b1_s, ni_s]
    simp (disch := omega) only [ni_le, ni_inb, MD_has_eq, bI_z]
    rw [if_neg (by omega), ck_d (by omega), ck_t]
    simp only [lpf]
    cases q : hs (msk A k) (c : Int) with
    | false => simp
    | true =>
      rcases lpf_spec A (msk A k) c with ⟨e, _⟩ | ⟨e0, e1, e2, _⟩
      · rw [e, if_neg (by simp), if_pos (show ni (-1) = (-1 : Int32) from rfl), if_pos ⟨rfl, Or.inl rfl⟩]
      · have hl := ht_bd g e0 (by omega)
        rw [if_neg (by simp), if_neg (by rw [show (-1 : Int32) = ni (-1) from rfl, ni_eq (by omega) (by omega) (by omega) (by omega)]; omega), e_height h e0 (by omega), b1_s]
        simp (disch := omega) only [ni_le]
        by_cases z : ht A (lpf A (msk A k) c) ≤ ht A (c : Int)
        · rw [if_pos z, if_neg]
          rintro ⟨_, y | y⟩ <;> omega
        · rw [if_neg z, if_pos ⟨trivial, Or.inr (by omega)⟩]
  · unfold MD_remembers_L47
    dsimp only
    rw [e_many h]
    simp (disch := omega) only [ni_le]
    rw [if_pos (by omega)]
    rfl
theorem e_remembers {M : Mem} {A : Ab} (h : RM M A) (hW : WF A) : ∃ M', MD_remembers M = some ((), M') ∧ FrR M M' ∧ PD M' (lown A 36) (npl A) (npv A) := by
  have hnn := nn_bd hW.1
  have hle := lown_le A 36
  have hl0 := lown_nonneg A 36
  obtain ⟨M1, q1, F1, O1⟩ := e_orders h hW.1 hW.2.1
  have R1 := F1.RM h
  have key : ∃ r M', lpM (fun s M9 => MD_remembers_L14 s M9) FUEL (0 : Int32) (sI M1 0 17 (gI M1 0 12)) = some (r, M') ∧ (FrR M M' ∧ PD M' (lown A 36) (npl A) (npv A)) := by
    refine lpM_to (lown A 36).toNat (by omega) (fun i s M' => s = ni (i : Int) ∧ FrR M M' ∧ OR M' A ∧ gI M' 0 17 = ni (lown A 36) ∧ ∀ n : Nat, n < i → gI M' 9 n = ni (npl A n) ∧ gL M' 8 n = nl (npv A n)) _ ?_ ?_ ⟨rfl, ?_, ?_, ?_, fun n hn => by omega⟩
    · rintro i hi s M2 ⟨rfl, F2, O2, e17, hd⟩
      have R2 := F2.RM h
      obtain ⟨c, c1, c2, c3, c4, c5, c6, c7, c8⟩ := pof_in hW.2.1 (n := (i : Int)) (by omega) (by omega)
      have ho := O2.2 i (by omega)
      have hnat : (ni (i : Int)).toNatClampNeg = i := by rw [ni_nat (by omega) (by omega)]; omega
      have hv := RM_vol R2 c5.1 (show pof A (i : Int) < 72 by omega)
      have R3 : RM (sL M2 8 i (nl (vol A (pof A i)))) A := RM_of R2 (fun k _ => by simp [gL, sL])
      have e47 := e_lowest47 R3 hW.1 c5.1 (show pof A (i : Int) < 72 by omega) (n := i) (by omega) (show gI (sL M2 8 i (nl (vol A (pof A i)))) 7 i = ni (pof A i) from ho)
      unfold MD_remembers_L14
      rw [O2.1, hnat, ho, ixb 224 c5.1 (by omega) (224 : Int32) rfl, ix 224 (by omega) c5.1 (by omega) (224 : Int32) rfl, hv, e47, b1_s, ni_s]
      simp (disch := omega) only [ni_le, ni_inb]
      rw [if_neg (by omega), ck_d (by omega), ck_t, ck_d (by omega), ck_d (by omega)]
      refine ⟨_, _, rfl, rfl, F2.trans ⟨fun o q _ b _ => by simp [sI, sL, b], fun o q a => by simp [sI, sL, a]⟩, ⟨?_, fun n hn => ?_⟩, ?_, fun n hn => ?_⟩
      · rw [← O2.1]; simp [gI, sI, sL]
      · rw [← O2.2 n hn]; simp [gI, sI, sL]
      · rw [← e17]; simp [gI, sI, sL]
      · by_cases e : n = i
        · subst e
          simp [gI, gL, sI, sL, npl, npv]
        · have := hd n (by omega)
          rw [← this.1, ← this.2]
          simp [gI, gL, sI, sL, e]
    · rintro s M2 ⟨rfl, F2, O2, e17, hd⟩
      refine ⟨(), M2, ?_, F2, e17, fun n hn => hd n (by omega)⟩
      unfold MD_remembers_L14
      rw [O2.1]
      simp (disch := omega) only [ni_le]
      rw [if_pos (by omega)]
    · exact (FrR.ofO F1).trans ⟨fun o q _ _ c => by
        have : ¬ (o = 0 ∧ q = 17) := fun z => c ⟨z.1, Or.inr z.2⟩
        simp [sI, this], fun _ _ _ => rfl⟩
    · exact ⟨by rw [← O1.1]; simp [gI, sI], fun n hn => by rw [← O1.2 n hn]; simp [gI, sI]⟩
    · rw [← O1.1]; simp [gI, sI]
  obtain ⟨r, M', k1, k2⟩ := key
  refine ⟨M', ?_, k2⟩
  unfold MD_remembers
  rw [q1, b2_s, k1, b2_s]
def FrC (M M' : Mem) : Prop := (∀ o q, ¬ (o = 0 ∧ (q = 6 ∨ q = 7 ∨ q = 8)) → M'.1 o q = M.1 o q) ∧ ∀ o q, o ≠ 1 → o ≠ 4 → M'.2 o q = M.2 o q
theorem FrC.trans {M M' M'' : Mem} (h : FrC M M') (h' : FrC M' M'') : FrC M M'' := ⟨fun o q a => (h'.1 o q a).trans (h.1 o q a), fun o q a b => (h'.2 o q a b).trans (h.2 o q a b)⟩
theorem e_changes {M : Mem} {B : Ab} (h : RM M B) (g : WFg B) {N : Int} {f v : Nat → Int} (hN : 0 ≤ N ∧ N ≤ 36) (hP : PD M N f v) (hf : ∀ n : Nat, (n : Int) < N → 0 ≤ f n ∧ f n < nn B) (hv : ∀ n : Nat, (n : Int) < N → 0 ≤ v n) (hs' : sm N.toNat v ≤ 1200000) : ∃ M', MD_changes M = some ((), M') ∧ RM M' (rep f v N.toNat (fnd B)) ∧ FrC M M' := by
  obtain ⟨M1, q1, R1, F1⟩ := e_finds h g
  have hW := fnd_WF g
  have hw0 : wat (fnd B) = 0 := by
    unfold wat
    exact sm_zero (fun i _ => by rw [fnd_vol]; split <;> rfl)
  have key : ∃ r M', lpM (fun s M9 => MD_changes_L6 s M9) FUEL (0 : Int32) M1 = some (r, M') ∧ (RM M' (rep f v N.toNat (fnd B)) ∧ FrC M M') := by
    refine lpM_to N.toNat (by omega) (fun i s M' => s = ni (i : Int) ∧ RM M' (rep f v i (fnd B)) ∧ FrC M M') _ ?_ ?_ ⟨rfl, R1, ⟨fun o q _ => by rw [F1.1], fun o q a b => F1.2 o q a b⟩⟩
    · rintro i hi s M2 ⟨rfl, R2, F2⟩
      have hsi : sm (i + 1) v ≤ 1200000 := by
        have : sm (i + 1) v ≤ sm N.toNat v := sm_pre (by omega) (fun j _ => Int.le_refl _) (fun j a b => hv j (by omega))
        omega
      have hsn : sm (i + 1) v = sm i v + v i := rfl
      obtain ⟨w1, w2, w3, _⟩ := rep_ok (f := f) (v := v) hW i (fun j hj => hv j (by omega)) (by rw [hw0]; have := hv i (by omega); omega)
      have hfi := hf i (by omega)
      have hvi := hv i (by omega)
      have hnat : (ni (i : Int)).toNatClampNeg = i := by rw [ni_nat (by omega) (by omega)]; omega
      have e17 : gI M2 0 17 = ni N := by
        have := F2.1 0 17 (by omega)
        unfold gI; rw [this]; exact hP.1
      have e9 : gI M2 9 i = ni (f i) := by
        have := F2.1 9 i (by omega)
        unfold gI; rw [this]; exact (hP.2 i (by omega)).1
      have e8 : gL M2 8 i = nl (v i) := by
        have := F2.2 8 i (by omega) (by omega)
        unfold gL; rw [this]; exact (hP.2 i (by omega)).2
      have hnn : nn (rep f v i (fnd B)) = nn B := by rw [← w3.nn, fnd_nn]
      obtain ⟨M3, q3, R3, F3⟩ := e_pours R2 w1 hfi.1 (by rw [hnn]; exact hfi.2) hvi (by rw [hw0] at w2; omega)
      unfold MD_changes_L6
      rw [e17, hnat, e9, e8, q3, b2_s, ni_s]
      simp (disch := omega) only [ni_le, ni_inb]
      rw [if_neg (by omega), ck_d (by omega), ck_d (by omega)]
      exact ⟨_, M3, rfl, rfl, R3, F2.trans ⟨F3.1, fun o q a _ => F3.2 o q a⟩⟩
    · rintro s M2 ⟨rfl, R2, F2⟩
      refine ⟨(), M2, ?_, R2, F2⟩
      have e17 : gI M2 0 17 = ni N := by
        have := F2.1 0 17 (by omega)
        unfold gI; rw [this]; exact hP.1
      unfold MD_changes_L6
      rw [e17]
      simp (disch := omega) only [ni_le]
      rw [if_pos (by omega)]
  obtain ⟨r, M', k1, k2⟩ := key
  refine ⟨M', ?_, k2⟩
  unfold MD_changes
  rw [q1, b2_s, k1, b2_s]
/-- this side notes -/
def CD (w : Nat) (M : Mem) (N : Int) (f v : Nat → Int) : Prop := gI M w 8 = ni N ∧ ∀ n : Nat, (n : Int) < N → fAtI (w + 42) (ni (n : Int)) M = ni (f n) ∧ fAtI (w + 44) (ni (n : Int)) M = ni (v n)
theorem c_noteLakes {w : Nat} (hw : IsW w) {M : Mem} {A : Ab} (hR : RW0 w M A) (hW : WF A) : ∃ M', WD_noteLakes w M = some ((), M') ∧ CD w M' (lown A 36) (npl A) (npv A) ∧ Fr (fun p => p = w ∨ p = w + 42 + 1 ∨ p = w + 44 + 1) M M' ∧ (∀ q, gL M' w q = gL M w q) := by
  obtain ⟨zg, zy, zl, z42, z44⟩ := sz_w hw
  have hle := lown_le A 36
  have hl0 := lown_nonneg A 36
  have key : ∃ r M', lpM (fun s M9 => WD_noteLakes_L13 w s M9) FUEL (0 : Int32) (sI M w 8 (ni (lown A 36))) = some (r, M') ∧ (Fr (fun p => p = w ∨ p = w + 42 + 1 ∨ p = w + 44 + 1) M M' ∧ (∀ q, gL M' w q = gL M w q) ∧ CD w M' (lown A 36) (npl A) (npv A)) := by
    refine lpM_to (lown A 36).toNat (by omega) (fun i s M' => s = ni (i : Int) ∧ Fr (fun p => p = w ∨ p = w + 42 + 1 ∨ p = w + 44 + 1) M M' ∧ (∀ q, gL M' w q = gL M w q) ∧ gI M' w 8 = ni (lown A 36) ∧ ∀ n : Nat, n < i → fAtI (w + 42) (ni (n : Int)) M' = ni (npl A n) ∧ fAtI (w + 44) (ni (n : Int)) M' = ni (npv A n)) _ ?_ ?_ ⟨rfl, Fr.sI (Or.inl rfl), fun _ => rfl, by simp [gI, sI], fun n hn => by omega⟩
    · rintro i hi s M2 ⟨rfl, F2, L2, e8, hd⟩
      have G2 := RG_fr hR.1 F2 (by omega) (by omega) (by omega) (by omega)
      have T2 := RT_fr hR.2.1 F2 (by omega) (by omega)
      have K2 := RLs_fr hR.2.2.2 F2 (by omega) (by omega) (by omega) (by omega) (by omega) (by omega) (by omega) (by omega) (by omega)
      obtain ⟨c, c1, c2, c3, c4, c5, c6, c7, c8⟩ := pof_in hW.2.1 (n := (i : Int)) (by omega) (by omega)
      have hvol := (K2.2.1 _ c5.1 c5.2 c7).1
      unfold WD_noteLakes_L13
      rw [e8, c_placeOf K2 hW.2.1 (by omega) (by omega), b1_s, c_lowestPlace G2 T2 hW.1 (K2.1 _ c5.1 c5.2) (fun c hc => hW.2.1.2.1 _ c c5.1 (by omega) hc) c7, b1_s, ni_s, show w + 22 = w + 19 + 3 from rfl, at_ne (by omega), hvol]
      simp (disch := omega) only [ni_le]
      rw [if_neg (by omega)]
      refine ⟨_, _, rfl, rfl, (F2.trans (Fr.put (Or.inr (Or.inl rfl)))).trans (Fr.put (Or.inr (Or.inr rfl))), fun q => ?_, ?_, fun n hn => ?_⟩
      · rw [← L2 q]
        rw [(Fr.put (P := fun p => p = w + 44 + 1) rfl).gL (by omega), (Fr.put (P := fun p => p = w + 42 + 1) rfl).gL (by omega)]
      · rw [← e8]
        rw [(Fr.put (P := fun p => p = w + 44 + 1) rfl).gI (by omega), (Fr.put (P := fun p => p = w + 42 + 1) rfl).gI (by omega)]
      · by_cases e : n = i
        · subst e
          rw [at_ne (by omega), at_eq z42 (by omega) (by omega) (by omega), at_eq z44 (by omega) (by omega) (by omega)]
          exact ⟨rfl, rfl⟩
        · rw [at_ne (by omega), at_x z42 (by omega) (by omega) (by omega) (by omega) (by omega) (by omega), at_x z44 (by omega) (by omega) (by omega) (by omega) (by omega) (by omega), at_ne (by omega)]
          exact hd n (by omega)
    · rintro s M2 ⟨rfl, F2, L2, e8, hd⟩
      refine ⟨(), M2, ?_, F2, L2, e8, fun n hn => hd n (by omega)⟩
      unfold WD_noteLakes_L13
      rw [e8]
      simp (disch := omega) only [ni_le]
      rw [if_pos (by omega)]
  obtain ⟨r, M', k1, k2, k3, k4⟩ := key
  refine ⟨M', ?_, k4, k2, k3⟩
  unfold WD_noteLakes
  rw [c_total hR.2.2.2 hW.2.1, b1_s, k1, b2_s]
theorem c_renew {w : Nat} (hw : IsW w) {M : Mem} {B : Ab} (hG : RG (w + 1) M B) (g : WFg B) (hl : gL M w 3 = prd B ∧ gL M w 4 = lst B ∧ gL M w 5 = gon B) {N : Int} {f v : Nat → Int} (hN : 0 ≤ N ∧ N ≤ 36) (hP : CD w M N f v) (hf : ∀ n : Nat, (n : Int) < N → 0 ≤ f n ∧ f n < nn B) (hv : ∀ n : Nat, (n : Int) < N → 0 ≤ v n) (hs' : sm N.toNat v ≤ 1200000) : ∃ M', WD_renew w M = some ((), M') ∧ RW w M' (rep f v N.toNat (fnd B)) ∧ Fr (fun p => w ≤ p ∧ p < w + 46) M M' := by
  obtain ⟨zg, zy, zl, z42, z44⟩ := sz_w hw
  obtain ⟨M1, q1, R1, F1⟩ := c_findAnew hw hG g
  have hW := fnd_WF g
  have hw0 : wat (fnd B) = 0 := by
    unfold wat
    exact sm_zero (fun i _ => by rw [fnd_vol]; split <;> rfl)
  have L1 : RW w M1 (fnd B) := by
    refine ⟨R1, ?_, ?_, ?_⟩
    · rw [F1.gL (by omega)]; rw [hl.1]; simp [fnd, prd]
    · rw [F1.gL (by omega)]; rw [hl.2.1]; simp [fnd, lst]
    · rw [F1.gL (by omega)]; rw [hl.2.2]; simp [fnd, gon]
  have key : ∃ r M', lpM (fun s M9 => WD_renew_L6 w s M9) FUEL (0 : Int32) M1 = some (r, M') ∧ (RW w M' (rep f v N.toNat (fnd B)) ∧ Fr (fun p => w ≤ p ∧ p < w + 46) M M') := by
    refine lpM_to N.toNat (by omega) (fun i s M' => s = ni (i : Int) ∧ RW w M' (rep f v i (fnd B)) ∧ Fr (fun p => p = w ∨ (w + 8 ≤ p ∧ p ≤ w + 41)) M M' ∧ gI M' w 8 = ni N) _ ?_ ?_ ⟨rfl, L1, F1.mono (fun p hp => Or.inr hp), by rw [F1.gI (by omega)]; exact hP.1⟩
    · rintro i hi s M2 ⟨rfl, R2, F2, e8⟩
      have hsi : sm (i + 1) v ≤ 1200000 := by
        have : sm (i + 1) v ≤ sm N.toNat v := sm_pre (by omega) (fun j _ => Int.le_refl _) (fun j a b => hv j (by omega))
        omega
      have hsn : sm (i + 1) v = sm i v + v i := rfl
      obtain ⟨w1, w2, w3, _⟩ := rep_ok (f := f) (v := v) hW i (fun j hj => hv j (by omega)) (by rw [hw0]; have := hv i (by omega); omega)
      have hfi := hf i (by omega)
      have hvi := hv i (by omega)
      have hnn : nn (rep f v i (fnd B)) = nn B := by rw [← w3.nn, fnd_nn]
      obtain ⟨M3, q3, R3, F3, e8'⟩ := c_pourAt hw R2 w1 hfi.1 (by rw [hnn]; exact hfi.2) hvi (by rw [hw0] at w2; omega)
      have e42 : fAtI (w + 42) (ni (i : Int)) M2 = ni (f i) := by rw [F2.at (by omega)]; exact (hP.2 i (by omega)).1
      have e44 : fAtI (w + 44) (ni (i : Int)) M2 = ni (v i) := by rw [F2.at (by omega)]; exact (hP.2 i (by omega)).2
      unfold WD_renew_L6
      rw [e8, e42, e44, q3, b2_s, ni_s]
      simp (disch := omega) only [ni_le]
      rw [if_neg (by omega)]
      exact ⟨_, M3, rfl, rfl, R3, F2.trans (F3.mono (fun p hp => by unfold isLk at hp; omega)), by rw [e8']; exact e8⟩
    · rintro s M2 ⟨rfl, R2, F2, e8⟩
      refine ⟨(), M2, ?_, R2, F2.mono (fun p hp => by omega)⟩
      unfold WD_renew_L6
      rw [e8]
      simp (disch := omega) only [ni_le]
      rw [if_pos (by omega)]
  obtain ⟨r, M', k1, k2, k3⟩ := key
  refine ⟨M', ?_, k2, k3⟩
  unfold WD_renew
  rw [q1, b2_s, k1, b2_s]
