/-! 75.rain: rounds of evaporation, rain -/
theorem c_dry {w : Nat} (hw : IsW w) {M : Mem} {A : Ab} (hR : RW w M A) (hW : WF A) {r : Int} (r0 : 0 ≤ r) (r1 : r ≤ 100) : ∃ M', WD_dry w (ni r) M = some (ni (evS r.toNat A), M') ∧ RW w M' (dG (evA r.toNat A) (gon A + nl (evS r.toNat A))) ∧ Fr (fun p => w ≤ p ∧ p < w + 46) M M' := by
  have key : ∃ q M', lpM (fun s M9 => WD_dry_L4 w (ni r) s.1 s.2 M9) FUEL ((0 : Int32), (0 : Int32)) M = some (q, M') ∧ (q = ni (evS r.toNat A) ∧ RW0 w M' (evA r.toNat A) ∧ Fr (fun p => w ≤ p ∧ p < w + 46) M M' ∧ (∀ q, gL M' w q = gL M w q)) := by
    refine lpM_to r.toNat (by omega) (fun i s M' => s = (ni (evS i A), ni (i : Int)) ∧ RW0 w M' (evA i A) ∧ Fr (fun p => w ≤ p ∧ p < w + 46) M M' ∧ (∀ q, gL M' w q = gL M w q)) _ ?_ ?_ ⟨rfl, hR.1, Fr.rfl', fun _ => rfl⟩
    · rintro i hi s M2 ⟨rfl, R2, F2, L2⟩
      obtain ⟨M3, q3, R3, F3, L3⟩ := c_dryOnce hw R2 (evA_ok hW i).1
      unfold WD_dry_L4
      dsimp only
      rw [q3, b2_s, ni_s, ni_add]
      simp (disch := omega) only [ni_le]
      rw [if_neg (by omega)]
      exact ⟨_, M3, rfl, rfl, R3, F2.trans F3, fun q => (L3 q).trans (L2 q)⟩
    · rintro s M2 ⟨rfl, R2, F2, L2⟩
      refine ⟨_, M2, ?_, rfl, R2, F2, L2⟩
      unfold WD_dry_L4
      dsimp only
      simp (disch := omega) only [ni_le]
      rw [if_pos (by omega)]
  obtain ⟨q, M1, k1, rfl, R1, F1, L1⟩ := key
  obtain ⟨e1, e2, e3, e4⟩ := evA_ok hW r.toNat
  have hwv : 0 ≤ wat (evA r.toNat A) := (wat_bd e1.2.1 72 (by omega)).1
  have hwa : wat A ≤ 86400000 := (wat_bd hW.2.1 72 (by omega)).2
  have ge := dG_ge (evA r.toNat A) (gon A + nl (evS r.toNat A))
  have hs' : Fr (fun p => p = w) M1 (sL M1 w 5 ((gL M1 w 5) + (ni (evS r.toNat A)).toInt64)) := Fr.sL rfl
  refine ⟨_, ?_, ⟨⟨ge.RG (RG_fr R1.1 hs' (by omega) (by omega) (by omega) (by omega)), ge.RT (RT_fr R1.2.1 hs' (by omega) (by omega)), ?_, RLs_long (A := evA r.toNat A) rfl (fun j => by simp [dG, aL, msk]) (by simp [dG, aL, drn]) (by simp [dG, aL, pits]) (RLs_fr R1.2.2.2 hs' (by omega) (by omega) (by omega) (by omega) (by omega) (by omega) (by omega) (by omega) (by omega))⟩, ?_, ?_, ?_⟩, F1.trans (hs'.mono (fun p hp => by omega))⟩
  · unfold WD_dry
    rw [k1, b2_s]
  · have y2 := RY_fr R1.2.2.1 hs' (by omega) (by omega) (by omega) (by omega)
    show RY (w + 12) _ _ (bnn (evA r.toNat A)) (bas (evA r.toNat A))
    unfold RY at *
    rw [← ge.nn, ← ge.pl, ← ge.tg]
    exact y2
  · have : prd (dG (evA r.toNat A) (gon A + nl (evS r.toNat A))) = prd (evA r.toNat A) := by simp [dG, aL, prd]
    rw [this, e3.2.2.2.2.2.2, ← hR.2.1, ← L1]; simp [gL, sL]
  · have : lst (dG (evA r.toNat A) (gon A + nl (evS r.toNat A))) = lst (evA r.toNat A) := by simp [dG, aL, lst]
    rw [this, e3.2.2.2.2.1, ← hR.2.2.1, ← L1]; simp [gL, sL]
  · have : gon (dG (evA r.toNat A) (gon A + nl (evS r.toNat A))) = gon A + nl (evS r.toNat A) := by simp [dG, aL, gon]
    rw [this, ← hR.2.2.2, ← L1, ni_64 (by omega) (by omega)]; simp [gL, sL]
theorem e_rounds {M : Mem} {A : Ab} (h : RM M A) (hW : WF A) {r : Int} (r0 : 0 ≤ r) (r1 : r ≤ 100) (x9 : Int64) : ∃ q M', lpM (fun s M9 => MD_evaporate_L34 (ni r) x9 s M9) FUEL (0 : Int32) M = some (q, M') ∧ RM M' (dG (evA r.toNat A) (gon A + nl (evS r.toNat A))) ∧ FrE M M' := by
  have key : ∃ q M', lpM (fun s M9 => MD_evaporate_L34 (ni r) x9 s M9) FUEL (0 : Int32) M = some (q, M') ∧ (RM M' (dG (evA r.toNat A) (gon A + nl (evS r.toNat A))) ∧ FrE M M') := by
    refine lpM_to r.toNat (by omega) (fun i s M' => s = ni (i : Int) ∧ RM M' (dG (evA i A) (gon A + nl (evS i A))) ∧ FrE M M') _ ?_ ?_ ⟨rfl, ?_, FrE.refl M⟩
    · rintro i hi s M2 ⟨rfl, R2, F2⟩
      obtain ⟨M3, q3, R3, F3⟩ := e_evaporates R2 ((dG_WF _).1 (evA_ok hW i).1)
      have e1 : dryn (dG (evA i A) (gon A + nl (evS i A))) = dG (dryn (evA i A)) (gon A + nl (evS i A)) := by
        unfold dryn
        rw [(dG_pof _ _ 0).2, dG_dsq]
      have e2 : dryS (dG (evA i A) (gon A + nl (evS i A))) = dryS (evA i A) := by
        unfold dryS
        rw [(dG_pof _ _ 0).2]
        exact sm_congr (fun j _ => dG_am _ _ j)
      have e3 : gon (dG (evA i A) (gon A + nl (evS i A))) = gon A + nl (evS i A) := by simp [dG, aL, gon]
      rw [e1, e2, e3, dG_dG, Int64.add_assoc, nl_add] at R3
      unfold MD_evaporate_L34
      rw [q3, b2_s, ni_s]
      simp (disch := omega) only [ni_le]
      rw [if_neg (by omega)]
      exact ⟨_, M3, rfl, rfl, R3, F2.trans F3⟩
    · rintro s M2 ⟨rfl, R2, F2⟩
      refine ⟨(), M2, ?_, R2, F2⟩
      unfold MD_evaporate_L34
      simp (disch := omega) only [ni_le]
      rw [if_pos (by omega)]
    · have : dG (evA 0 A) (gon A + nl (evS 0 A)) = A := by
        simp only [evA, evS]
        rw [show nl 0 = 0 from rfl, Int64.add_zero]
        exact aL_id A 0 3
      rw [this]; exact h
  obtain ⟨q, M', k1, k2, k3⟩ := key
  exact ⟨q, M', k1, k2, k3⟩
/-- what is lost -/
def rls (f v : Nat → Int) : Nat → Ab → Int
  | 0, _ => 0
  | n + 1, B => rls f v n B + (pr prN (rep f v n B) (lk (rep f v n B) (f n)) (v n)).2
theorem rls_ok {f v : Nat → Int} {B : Ab} (hB : WF B) : ∀ n : Nat, (∀ i, i < n → 0 ≤ v i) → wat B + sm n v ≤ 1200000 → lst (rep f v n B) = lst B + nl (rls f v n B) ∧ wat (rep f v n B) + rls f v n B = wat B + sm n v ∧ 0 ≤ rls f v n B := by
  intro n
  induction n with
  | zero => intro _ _; exact ⟨by simp [rep, rls, show nl 0 = 0 from rfl], by simp [rep, rls, sm], by simp [rls]⟩
  | succ n ih =>
    intro h0 h1
    simp only [sm] at h1 ⊢
    have hv := h0 n (by omega)
    obtain ⟨i1, i2, i3⟩ := ih (fun i hi => h0 i (by omega)) (by omega)
    obtain ⟨j1, j2, _⟩ := rep_ok (f := f) (v := v) hB n (fun i hi => h0 i (by omega)) (by omega)
    obtain ⟨pw, pwat, pb, pge, pbn, pbas, ppit, plst, pgon, pprd⟩ := prl_WF j1 (PK_lk j1 (f n)) hv (by omega)
    simp only [rls]
    refine ⟨?_, ?_, ?_⟩
    · show lst (prl prN (rep f v n B) (lk (rep f v n B) (f n)) (v n)) = _
      rw [plst, i1, Int64.add_assoc, nl_add]
    · show wat (prl prN (rep f v n B) (lk (rep f v n B) (f n)) (v n)) + _ = _
      omega
    · omega
theorem c_pourAtAll {w : Nat} (hw : IsW w) {M : Mem} {A : Ab} (hR : RW w M A) (hW : WF A) {x : Int} (x0 : 0 ≤ x) (x1 : x ≤ 1000) (hwt : wat A + x * nn A ≤ 1200000) : ∃ M', WD_pourAtAll w (ni x) M = some (ni (rls (fun c => (c : Int)) (fun _ => x) (nn A).toNat A), M') ∧ RW w M' (rep (fun c => (c : Int)) (fun _ => x) (nn A).toNat A) ∧ Fr (fun p => w ≤ p ∧ p < w + 46) M M' := by
  have hnn := nn_bd hW.1
  have hsm : ∀ n : Nat, sm n (fun _ => x) = x * n := by
    intro n
    induction n with
    | zero => simp [sm]
    | succ n ih => simp only [sm]; rw [ih]; push_cast; rw [Int.mul_add]; omega
  have hle : ∀ n : Nat, (n : Int) ≤ nn A → sm n (fun _ => x) ≤ x * nn A := by
    intro n hn
    rw [hsm]
    exact Int.mul_le_mul_of_nonneg_left hn x0
  have key : ∃ q M', lpM (fun s M9 => WD_pourAtAll_L4 w (ni x) s.1 s.2 M9) FUEL ((0 : Int32), (0 : Int32)) M = some (q, M') ∧ (q = ni (rls (fun c => (c : Int)) (fun _ => x) (nn A).toNat A) ∧ RW w M' (rep (fun c => (c : Int)) (fun _ => x) (nn A).toNat A) ∧ Fr (fun p => w ≤ p ∧ p < w + 46) M M') := by
    refine lpM_to (nn A).toNat (by omega) (fun i s M' => s = (ni (rls (fun c => (c : Int)) (fun _ => x) i A), ni (i : Int)) ∧ RW w M' (rep (fun c => (c : Int)) (fun _ => x) i A) ∧ Fr (fun p => w ≤ p ∧ p < w + 46) M M') _ ?_ ?_ ⟨rfl, hR, Fr.rfl'⟩
    · rintro i hi s M2 ⟨rfl, R2, F2⟩
      have hh := hle (i + 1) (by omega)
      have hsn : sm (i + 1) (fun _ => x) = sm i (fun _ => x) + x := rfl
      obtain ⟨j1, j2, j3, _⟩ := rep_ok (f := fun c => (c : Int)) (v := fun _ => x) hW i (fun i hi => x0) (by omega)
      have hnr : nn (rep (fun c => (c : Int)) (fun _ => x) i A) = nn A := j3.nn.symm
      obtain ⟨M3, q3, R3, F3, _⟩ := c_pourAt hw R2 j1 (c := (i : Int)) (by omega) (by rw [hnr]; omega) x0 (by omega)
      unfold WD_pourAtAll_L4
      dsimp only
      rw [R2.1.1.1.2.2.1, hnr, q3, b2_s, ni_s, ni_add]
      simp (disch := omega) only [ni_le]
      rw [if_neg (by omega)]
      exact ⟨_, M3, rfl, rfl, R3, F2.trans (F3.mono (fun p hp => by unfold isLk at hp; omega))⟩
    · rintro s M2 ⟨rfl, R2, F2⟩
      obtain ⟨j1, j2, j3, _⟩ := rep_ok (f := fun c => (c : Int)) (v := fun _ => x) hW (nn A).toNat (fun i hi => x0) (by have := hle (nn A).toNat (by omega); omega)
      refine ⟨_, M2, ?_, rfl, R2, F2⟩
      unfold WD_pourAtAll_L4
      dsimp only
      rw [R2.1.1.1.2.2.1, ← j3.nn]
      simp (disch := omega) only [ni_le]
      rw [if_pos (by omega)]
  obtain ⟨q, M', k1, rfl, k2⟩ := key
  refine ⟨M', ?_, k2⟩
  unfold WD_pourAtAll
  rw [k1, b2_s]
/-- the sum poured plays no part -/
def pG (A : Ab) (g : Int64) : Ab := aL A 0 4 g
theorem pG_ge (A : Ab) (g : Int64) : GE A (pG A g) := by refine GE_of ?_ ?_ ?_ ?_ ?_ <;> simp [pG, aL]
theorem pG_msk (A : Ab) (g : Int64) (j : Int) : msk (pG A g) j = msk A j := by simp [pG, aL, msk]
theorem pG_WF {A : Ab} (g : Int64) : (WF A → WF (pG A g)) ∧ wat (pG A g) = wat A ∧ ∀ j, lk (pG A g) j = lk A j := WF_long rfl (pG_msk A g) (by simp [pG, aL, drn]) (by simp [pG, aL, pits])
theorem pG_fil (A : Ab) (g : Int64) (k x : Int) : fil (pG A g) k x = pG (fil A k x) g ∧ adm (pG A g) k x = adm A k x := by
  have ha : adm (pG A g) k x = adm A k x := by
    unfold adm; rw [← (pG_ge A g).cap, pG_msk]; rfl
  refine ⟨?_, ha⟩
  unfold fil
  rw [ha]
  exact Prod.ext rfl rfl
theorem pG_jn (A : Ab) (g : Int64) (m x y : Int) : jn (pG A g) m x y = pG (jn A m x y) g := by
  refine Prod.ext rfl ?_
  funext f j
  simp [jn, pG, aI, aL, msk]
  by_cases e : f = 1
  · subst e; simp
  · simp [e]
theorem pG_pr : ∀ n : Nat, ∀ (A : Ab) (g : Int64) (k x : Int), pr n (pG A g) k x = (pG (pr n A k x).1 g, (pr n A k x).2) := by
  intro n
  induction n with
  | zero => intro A g k x; rfl
  | succ n ih =>
    intro A g k x
    have hn : nxt (pG (fil A k x) g) k = nxt (fil A k x) k := by
      unfold nxt
      rw [(pG_WF g).2.2, pG_msk, ← (pG_ge _ g).psb, ← (pG_ge _ g).ps]
    have hf : fre (pG (fil A k x) g) = fre (fil A k x) := by unfold fre; simp only [pG_msk]
    have hv : ∀ j, vol (pG (fil A k x) g) j = vol (fil A k x) j := fun j => rfl
    simp only [pr]
    rw [(pG_fil A g k x).1, (pG_fil A g k x).2, hn, hf, hv]
    simp only [pG_msk]
    rw [← (pG_ge A g).cap, ← (pG_ge A g).pth, ← (pG_ge A g).ps, pG_jn, ih, ih]
    split
    · rfl
    · split
      · rfl
      · split
        · rfl
        · split
          · rfl
          · split <;> rfl
theorem pG_prl (n : Nat) (A : Ab) (g : Int64) (k x : Int) : prl n (pG A g) k x = pG (prl n A k x) g := by
  unfold prl
  rw [pG_pr]
  have : lst (pG A g) = lst A := by simp [pG, aL, lst]
  rw [this]
  refine Prod.ext rfl ?_
  funext f j
  simp only [pG, aL]
  by_cases e : f = 0
  · subst e
    by_cases e2 : j = 2
    · subst e2; simp
    · simp [e2]
  · simp [e]
theorem pG_rep (f v : Nat → Int) (A : Ab) (g : Int64) : ∀ n : Nat, rep f v n (pG A g) = pG (rep f v n A) g ∧ rls f v n (pG A g) = rls f v n A := by
  intro n
  induction n with
  | zero => exact ⟨rfl, rfl⟩
  | succ n ih =>
    simp only [rep, rls]
    rw [ih.1, ih.2, (pG_WF g).2.2, pG_prl, pG_pr]
    exact ⟨rfl, rfl⟩
theorem pG_pG (A : Ab) (g g' : Int64) : pG (pG A g) g' = pG A g' := by
  refine Prod.ext rfl ?_
  funext f j
  simp only [pG, aL]
  split <;> rfl
theorem e_rain {M : Mem} {A : Ab} (h : RM M A) (hW : WF A) {x : Int} (x0 : 0 ≤ x) (x1 : x ≤ 1000) (hwt : wat A + x * nn A ≤ 1200000) (x9 : Int64) : ∃ q M', lpM (fun s M9 => MD_rain_L58 (ni x) x9 s M9) FUEL (0 : Int32) M = some (q, M') ∧ RM M' (pG (rep (fun c => (c : Int)) (fun _ => x) (nn A).toNat A) (prd A + nl (x * nn A))) ∧ FrA M M' := by
  have hnn := nn_bd hW.1
  have hsm : ∀ n : Nat, sm n (fun _ => x) = x * n := by
    intro n
    induction n with
    | zero => simp [sm]
    | succ n ih => simp only [sm]; rw [ih]; push_cast; rw [Int.mul_add]; omega
  have hle : ∀ n : Nat, (n : Int) ≤ nn A → sm n (fun _ => x) ≤ x * nn A := by
    intro n hn
    rw [hsm]
    exact Int.mul_le_mul_of_nonneg_left hn x0
  have key : ∃ q M', lpM (fun s M9 => MD_rain_L58 (ni x) x9 s M9) FUEL (0 : Int32) M = some (q, M') ∧ (RM M' (pG (rep (fun c => (c : Int)) (fun _ => x) (nn A).toNat A) (prd A + nl (x * nn A))) ∧ FrA M M') := by
    refine lpM_to (nn A).toNat (by omega) (fun i s M' => s = ni (i : Int) ∧ RM M' (pG (rep (fun c => (c : Int)) (fun _ => x) i A) (prd A + nl (x * i))) ∧ FrA M M') _ ?_ ?_ ⟨rfl, ?_, FrA.refl M⟩
    · rintro i hi s M2 ⟨rfl, R2, F2⟩
      have hh := hle (i + 1) (by omega)
      have hsn : sm (i + 1) (fun _ => x) = sm i (fun _ => x) + x := rfl
      obtain ⟨j1, j2, j3, _⟩ := rep_ok (f := fun c => (c : Int)) (v := fun _ => x) hW i (fun i hi => x0) (by omega)
      have hnr : nn (rep (fun c => (c : Int)) (fun _ => x) i A) = nn A := j3.nn.symm
      have hnp : nn (pG (rep (fun c => (c : Int)) (fun _ => x) i A) (prd A + nl (x * i))) = nn A := by rw [← (pG_ge _ _).nn]; exact hnr
      have R3 := RS_pour R2 (prd A + nl (x * ((i + 1 : Nat) : Int)))
      have e1 : aL (pG (rep (fun c => (c : Int)) (fun _ => x) i A) (prd A + nl (x * i))) 0 4 (prd A + nl (x * ((i + 1 : Nat) : Int))) = pG (rep (fun c => (c : Int)) (fun _ => x) i A) (prd A + nl (x * ((i + 1 : Nat) : Int))) := pG_pG _ _ _
      rw [e1] at R3
      obtain ⟨M4, q4, R4, F4⟩ := e_pours R3 ((pG_WF _).1 j1) (c := (i : Int)) (by omega) (by rw [← (pG_ge _ _).nn, hnr]; omega) x0 (by rw [(pG_WF _).2.1]; omega)
      rw [(pG_WF _).2.2, pG_prl] at R4
      have e2 : gL M2 1 5 + nl x = prd A + nl (x * ((i + 1 : Nat) : Int)) := by
        rw [RM_pour R2]
        have : prd (pG (rep (fun c => (c : Int)) (fun _ => x) i A) (prd A + nl (x * i))) = prd A + nl (x * i) := by simp [pG, aL, prd]
        rw [this, Int64.add_assoc, nl_add]
        push_cast
        rw [Int.mul_add, Int.mul_one]
      unfold MD_rain_L58
      rw [e_many R2, hnp, ni_64 (by omega) (by omega), e2, q4, b2_s, ni_s]
      simp (disch := omega) only [ni_le]
      rw [if_neg (by omega)]
      exact ⟨_, M4, rfl, rfl, R4, (F2.trans (FrA.s1 _ _ _)).trans F4⟩
    · rintro s M2 ⟨rfl, R2, F2⟩
      obtain ⟨j1, j2, j3, _⟩ := rep_ok (f := fun c => (c : Int)) (v := fun _ => x) hW (nn A).toNat (fun i hi => x0) (by have := hle (nn A).toNat (by omega); omega)
      rw [Int.toNat_of_nonneg (by omega)] at R2
      refine ⟨(), M2, ?_, R2, F2⟩
      unfold MD_rain_L58
      rw [e_many R2, ← (pG_ge _ _).nn, ← j3.nn]
      simp (disch := omega) only [ni_le]
      rw [if_pos (by omega)]
    · have : pG (rep (fun c => (c : Int)) (fun _ => x) 0 A) (prd A + nl (x * ((0 : Nat) : Int))) = A := by
        simp only [rep]
        rw [show x * ((0 : Nat) : Int) = 0 by simp, show nl 0 = 0 from rfl, Int64.add_zero]
        exact aL_id A 0 4
      rw [this]; exact h
  obtain ⟨q, M', k1, k2, k3⟩ := key
  exact ⟨q, M', k1, k2, k3⟩
