/-! 76.save: worlds copied; states saved -/
theorem cp_eq {o a : Nat} {M : Mem} (h : nC (o + 1) = nC (a + 1)) (i : Int32) : fAtI o i (fCpyI o a M) = fAtI a i M := by
  unfold fAtI
  rw [h]
  by_cases e : inb i (nC (a + 1)) = true
  · rw [if_pos e, if_pos e]
    have := (inb_iff.mp e).2
    unfold fCpyI cpyI gI
    dsimp only
    rw [if_pos ⟨rfl, by rw [h]; simp; exact this⟩]
  · rw [if_neg e, if_neg e]
theorem cpL_eq {o a : Nat} {M : Mem} (h : nC (o + 1) = nC (a + 1)) (i : Int32) : fAtL o i (fCpyL o a M) = fAtL a i M := by
  unfold fAtL
  rw [h]
  by_cases e : inb i (nC (a + 1)) = true
  · rw [if_pos e, if_pos e]
    have := (inb_iff.mp e).2
    unfold fCpyL cpyL gL
    dsimp only
    rw [if_pos ⟨rfl, by rw [h]; simp; exact this⟩]
  · rw [if_neg e, if_neg e]
theorem cp_ne {p o a : Nat} {M : Mem} (h : p ≠ o) (i : Int32) : fAtI p i (fCpyI o a M) = fAtI p i M := (Fr.cpy (P := fun q => q = o + 1) rfl).at (by omega) i
theorem cpL_ne {p o a : Nat} {M : Mem} (h : p ≠ o) (i : Int32) : fAtL p i (fCpyL o a M) = fAtL p i M := (Fr.cpyL (P := fun q => q = o + 1) rfl).atL (by omega) i
theorem cp_L {p o a : Nat} {M : Mem} (i : Int32) : fAtL p i (fCpyI o a M) = fAtL p i M := rfl
theorem cpL_I {p o a : Nat} {M : Mem} (i : Int32) : fAtI p i (fCpyL o a M) = fAtI p i M := rfl
theorem cp_g {p o a k : Nat} {M : Mem} (h : p ≠ o + 1) : gI (fCpyI o a M) p k = gI M p k := (Fr.cpy (P := fun q => q = o + 1) rfl).gI (by omega)
theorem cp_gL {p o a k : Nat} {M : Mem} : gL (fCpyI o a M) p k = gL M p k := rfl
theorem cpL_g {p o a k : Nat} {M : Mem} : gI (fCpyL o a M) p k = gI M p k := rfl
theorem cpL_gL {p o a k : Nat} {M : Mem} (h : p ≠ o + 1) : gL (fCpyL o a M) p k = gL M p k := (Fr.cpyL (P := fun q => q = o + 1) rfl).gL (by omega)
theorem sI_eq (M : Mem) (p k : Nat) (v : Int32) : gI (sI M p k v) p k = v := by simp [gI, sI]
theorem sI_ne {M : Mem} {p k q j : Nat} {v : Int32} (h : q ≠ p ∨ j ≠ k) : gI (sI M p k v) q j = gI M q j := by
  unfold gI sI
  dsimp only
  rw [if_neg (by omega)]
theorem sI_L (M : Mem) (p k q j : Nat) (v : Int32) : gL (sI M p k v) q j = gL M q j := rfl
theorem sL_eq (M : Mem) (p k : Nat) (v : Int64) : gL (sL M p k v) p k = v := by simp [gL, sL]
theorem sL_ne {M : Mem} {p k q j : Nat} {v : Int64} (h : q ≠ p ∨ j ≠ k) : gL (sL M p k v) q j = gL M q j := by
  unfold gL sL
  dsimp only
  rw [if_neg (by omega)]
theorem sL_I (M : Mem) (p k q j : Nat) (v : Int64) : gI (sL M p k v) q j = gI M q j := rfl
theorem at_sI {M : Mem} {p k o : Nat} {v : Int32} (h : o + 1 ≠ p) (i : Int32) : fAtI o i (sI M p k v) = fAtI o i M := (Fr.sI (P := fun q => q = p) rfl).at (by omega) i
theorem at_sL {M : Mem} {p k o : Nat} {v : Int64} (i : Int32) : fAtI o i (sL M p k v) = fAtI o i M := rfl
theorem atL_sI {M : Mem} {p k o : Nat} {v : Int32} (i : Int32) : fAtL o i (sI M p k v) = fAtL o i M := rfl
theorem atL_sL {M : Mem} {p k o : Nat} {v : Int64} (h : o + 1 ≠ p) (i : Int32) : fAtL o i (sL M p k v) = fAtL o i M := (Fr.sL (P := fun q => q = p) rfl).atL (by omega) i

theorem c_groundCopy {o a : Nat} (ho : IsW o) (ha : IsW a) (hd : o + 46 ≤ a ∨ a + 46 ≤ o) {M : Mem} {A : Ab} (hR : RG (a + 1) M A) : ∃ M', GR_copyFrom (o + 1) (a + 1) M = some ((), M') ∧ RG (o + 1) M' A ∧ Fr (fun p => o + 1 ≤ p ∧ p ≤ o + 11) M M' ∧ (RT (a + 1) M A → RT (o + 1) M' A) := by
  obtain ⟨g1, -, -, -, -⟩ := sz_w ho
  obtain ⟨g2, -, -, -, -⟩ := sz_w ha
  obtain ⟨a1, a3, a5, a7, a9⟩ := g1
  obtain ⟨b1, b3, b5, b7, b9⟩ := g2
  refine ⟨_, rfl, ?_, ?_, ?_⟩
  · unfold RG at *
    simp (disch := omega) only [cp_ne, cpL_ne, cp_L, cpL_I, cp_g, cp_gL, cpL_g, cpL_gL, sI_eq, sI_ne, sI_L, sL_eq, sL_ne, sL_I, at_sI, at_sL, atL_sI, atL_sL, cp_eq (a1.trans b1.symm), cp_eq (a3.trans b3.symm), cp_eq (a5.trans b5.symm)]
    exact hR
  · refine ((((((((Fr.sI (by omega)).trans (Fr.sI (by omega))).trans (Fr.sI (by omega))).trans (Fr.sL (by omega))).trans (Fr.cpy (by omega))).trans (Fr.cpy (by omega))).trans (Fr.cpy (by omega))).trans (Fr.cpy (by omega))).trans (Fr.cpy (by omega))
  · intro hT
    unfold RT at *
    simp (disch := omega) only [cp_ne, cpL_ne, cp_L, cpL_I, cp_g, cp_gL, cpL_g, cpL_gL, sI_eq, sI_ne, sI_L, sL_eq, sL_ne, sL_I, at_sI, at_sL, atL_sI, atL_sL, cp_eq (a7.trans b7.symm), cp_eq (a9.trans b9.symm)]
    exact hT
theorem c_waysCopy {o a : Nat} (ho : IsW o) (ha : IsW a) (hd : o + 46 ≤ a ∨ a + 46 ≤ o) {M : Mem} {A : Ab} {n : Int} {f : Int → Int} (hR : RY (a + 12) M A n f) : ∃ M', WY_copyFrom (o + 12) (a + 12) M = some ((), M') ∧ RY (o + 12) M' A n f ∧ Fr (fun p => o + 12 ≤ p ∧ p ≤ o + 18) M M' := by
  obtain ⟨-, g1, -, -, -⟩ := sz_w ho
  obtain ⟨-, g2, -, -, -⟩ := sz_w ha
  obtain ⟨a1, a3, a5⟩ := g1
  obtain ⟨b1, b3, b5⟩ := g2
  refine ⟨_, rfl, ?_, ?_⟩
  · unfold RY at *
    simp (disch := omega) only [cp_ne, cpL_ne, cp_L, cpL_I, cp_g, cp_gL, cpL_g, cpL_gL, sI_eq, sI_ne, sI_L, sL_eq, sL_ne, sL_I, at_sI, at_sL, atL_sI, atL_sL, cpL_eq (a1.trans b1.symm), cp_eq (a3.trans b3.symm), cp_eq (a5.trans b5.symm)]
    exact hR
  · exact ((((Fr.sI (by omega)).trans (Fr.cpyL (by omega))).trans (Fr.cpy (by omega))).trans (Fr.cpy (by omega)))
theorem c_lakesCopy {o a : Nat} (ho : IsW o) (ha : IsW a) (hd : o + 46 ≤ a ∨ a + 46 ≤ o) {M : Mem} {A : Ab} (hR : RLs (a + 19) M A) : ∃ M', LK_copyFrom (o + 19) (a + 19) M = some ((), M') ∧ RLs (o + 19) M' A ∧ Fr (fun p => o + 19 ≤ p ∧ p ≤ o + 37) M M' := by
  obtain ⟨-, -, g1, -, -⟩ := sz_w ho
  obtain ⟨-, -, g2, -, -⟩ := sz_w ha
  obtain ⟨a1, a3, a5, a7, a9, a11, a13, a15, a17, -, -⟩ := g1
  obtain ⟨b1, b3, b5, b7, b9, b11, b13, b15, b17, -, -⟩ := g2
  refine ⟨_, rfl, ?_, ?_⟩
  · unfold RLs RLk at *
    simp (disch := omega) only [cp_ne, cpL_ne, cp_L, cpL_I, cp_g, cp_gL, cpL_g, cpL_gL, sI_eq, sI_ne, sI_L, sL_eq, sL_ne, sL_I, at_sI, at_sL, atL_sI, atL_sL, cpL_eq (a1.trans b1.symm), cp_eq (a3.trans b3.symm), cp_eq (a5.trans b5.symm), cp_eq (a7.trans b7.symm), cp_eq (a9.trans b9.symm), cp_eq (a11.trans b11.symm), cp_eq (a13.trans b13.symm), cp_eq (a15.trans b15.symm), cp_eq (a17.trans b17.symm)]
    exact hR
  · exact ((((((((Fr.cpyL (by omega)).trans (Fr.cpy (by omega))).trans (Fr.cpy (by omega))).trans (Fr.cpy (by omega))).trans (Fr.cpy (by omega))).trans (Fr.cpy (by omega))).trans (Fr.cpy (by omega))).trans (Fr.cpy (by omega))).trans (Fr.cpy (by omega))
theorem c_copy {o a : Nat} (ho : IsW o) (ha : IsW a) (hd : o + 46 ≤ a ∨ a + 46 ≤ o) {M : Mem} {A : Ab} (hR : RW a M A) : ∃ M', WD_copyFrom o a M = some ((), M') ∧ RW o M' A ∧ Fr (fun p => o ≤ p ∧ p < o + 46) M M' := by
  obtain ⟨⟨hG, hT, hY, hL⟩, h3, h4, h5⟩ := hR
  obtain ⟨M1, q1, G1, F1, T1⟩ := c_groundCopy ho ha hd hG
  obtain ⟨M2, q2, Y2, F2⟩ := c_waysCopy ho ha hd (RY_fr hY F1 (by omega) (by omega) (by omega) (by omega))
  obtain ⟨M3, q3, L3, F3⟩ := c_lakesCopy ho ha hd (RLs_fr (RLs_fr hL F1 (by omega) (by omega) (by omega) (by omega) (by omega) (by omega) (by omega) (by omega) (by omega)) F2 (by omega) (by omega) (by omega) (by omega) (by omega) (by omega) (by omega) (by omega) (by omega))
  have F123 : Fr (fun p => o + 1 ≤ p ∧ p ≤ o + 37) M M3 := ((F1.mono (fun p hp => by omega)).trans (F2.mono (fun p hp => by omega))).trans (F3.mono (fun p hp => by omega))
  have hs3 : ∀ q, gL M3 a q = gL M a q := fun q => F123.gL (by omega)
  have f4 : Fr (fun p => p = o) M3 (sL (sL (sL M3 o 3 (gL M3 a 3)) o 4 (gL (sL M3 o 3 (gL M3 a 3)) a 4)) o 5 (gL (sL (sL M3 o 3 (gL M3 a 3)) o 4 (gL (sL M3 o 3 (gL M3 a 3)) a 4)) a 5)) := ((Fr.sL (P := fun p => p = o) rfl).trans (Fr.sL (P := fun p => p = o) rfl)).trans (Fr.sL (P := fun p => p = o) rfl)
  refine ⟨_, ?_, ⟨⟨RG_fr (RG_fr (RG_fr G1 F2 (by omega) (by omega) (by omega) (by omega)) F3 (by omega) (by omega) (by omega) (by omega)) f4 (by omega) (by omega) (by omega) (by omega), RT_fr (RT_fr (RT_fr (T1 hT) F2 (by omega) (by omega)) F3 (by omega) (by omega)) f4 (by omega) (by omega), RY_fr (RY_fr Y2 F3 (by omega) (by omega) (by omega) (by omega)) f4 (by omega) (by omega) (by omega) (by omega), RLs_fr L3 f4 (by omega) (by omega) (by omega) (by omega) (by omega) (by omega) (by omega) (by omega) (by omega)⟩, ?_, ?_, ?_⟩, (F123.mono (fun p hp => by omega)).trans (f4.mono (fun p hp => by omega))⟩
  · unfold WD_copyFrom
    rw [q1, b2_s, q2, b2_s, q3, b2_s]
  · simp (disch := omega) only [sL_eq, sL_ne, hs3]; exact h3
  · simp (disch := omega) only [sL_eq, sL_ne, hs3]; exact h4
  · simp (disch := omega) only [sL_eq, sL_ne, hs3]; exact h5
/-- the saved states -/
def RMo (M : Mem) (i : Nat) (A : Ab) : Prop := RMa (fun q => gL M 2 (513 * i + q)) A
def slot (nx cnt i : Int) : Nat := 97 + 46 * ((nx - cnt + i) % 4).toNat
def SVI (Mc Mm : Mem) : Prop := ∃ (nx cnt : Int) (S : Nat → Ab), (0 ≤ nx ∧ nx < 4) ∧ (0 ≤ cnt ∧ cnt ≤ 4) ∧ gI Mc 0 5 = ni nx ∧ gI Mc 0 4 = ni cnt ∧ gI Mm 0 3 = ni cnt ∧ ∀ i : Nat, (i : Int) < cnt → RW (slot nx cnt i) Mc (S i) ∧ RMo Mm i (S i) ∧ WF (S i) ∧ WB (S i)
theorem slot_W (nx cnt i : Int) : IsW (slot nx cnt i) := by
  unfold slot IsW
  have : (nx - cnt + i) % 4 = 0 ∨ (nx - cnt + i) % 4 = 1 ∨ (nx - cnt + i) % 4 = 2 ∨ (nx - cnt + i) % 4 = 3 := by omega
  rcases this with e | e | e | e <;> rw [e] <;> simp
theorem fSavedAt_eq {nx : Int} (h0 : 0 ≤ nx) (h1 : nx < 4) : fSavedAt (ni nx) = slot nx 0 0 := by
  unfold fSavedAt slot
  rw [ni_inb (by omega) (by omega), if_pos (decide_eq_true (by omega)), ni_nat h0 (by omega)]
  congr 2; omega
theorem RMo_of {M M' : Mem} {i j : Nat} {A : Ab} (h : RMo M i A) (e : ∀ q, q < 513 → gL M' 2 (513 * j + q) = gL M 2 (513 * i + q)) : RMo M' j A := by
  unfold RMo RMa at *
  obtain ⟨q0, q1, q2, q3, q4, q5, q6, q7, q8, q9, q10, q11, q12, q13, q14, q15, q16⟩ := h
  exact ⟨fun c hc => (e _ (by omega)).trans (q0 c hc), fun c hc => (e _ (by omega)).trans (q1 c hc), fun c hc => (e _ (by omega)).trans (q2 c hc), fun c hc => (e _ (by omega)).trans (q3 c hc), fun c hc => (e _ (by omega)).trans (q4 c hc), fun c hc => (e _ (by omega)).trans (q5 c hc), fun c hc => (e _ (by omega)).trans (q6 c hc), fun c hc => (e _ (by omega)).trans (q7 c hc), fun c hc => (e _ (by omega)).trans (q8 c hc), (e _ (by omega)).trans q9, (e _ (by omega)).trans q10, (e _ (by omega)).trans q11, (e _ (by omega)).trans q12, (e _ (by omega)).trans q13, (e _ (by omega)).trans q14, (e _ (by omega)).trans q15, (e _ (by omega)).trans q16⟩
theorem RMo_all {M M' : Mem} {j : Nat} {A : Ab} (h : RM M A) (e : ∀ q, q < 513 → gL M' 2 (513 * j + q) = gL M 1 q) : RMo M' j A := by
  unfold RMo
  unfold RM at h
  unfold RMa at *
  obtain ⟨q0, q1, q2, q3, q4, q5, q6, q7, q8, q9, q10, q11, q12, q13, q14, q15, q16⟩ := h
  exact ⟨fun c hc => (e _ (by omega)).trans (q0 c hc), fun c hc => (e _ (by omega)).trans (q1 c hc), fun c hc => (e _ (by omega)).trans (q2 c hc), fun c hc => (e _ (by omega)).trans (q3 c hc), fun c hc => (e _ (by omega)).trans (q4 c hc), fun c hc => (e _ (by omega)).trans (q5 c hc), fun c hc => (e _ (by omega)).trans (q6 c hc), fun c hc => (e _ (by omega)).trans (q7 c hc), fun c hc => (e _ (by omega)).trans (q8 c hc), (e _ (by omega)).trans q9, (e _ (by omega)).trans q10, (e _ (by omega)).trans q11, (e _ (by omega)).trans q12, (e _ (by omega)).trans q13, (e _ (by omega)).trans q14, (e _ (by omega)).trans q15, (e _ (by omega)).trans q16⟩
theorem RM_back {M M' : Mem} {j : Nat} {A : Ab} (h : RMo M j A) (e : ∀ q, q < 513 → gL M' 1 q = gL M 2 (513 * j + q)) : RM M' A := by
  unfold RMo at h
  unfold RM
  unfold RMa at *
  obtain ⟨q0, q1, q2, q3, q4, q5, q6, q7, q8, q9, q10, q11, q12, q13, q14, q15, q16⟩ := h
  exact ⟨fun c hc => (e _ (by omega)).trans (q0 c hc), fun c hc => (e _ (by omega)).trans (q1 c hc), fun c hc => (e _ (by omega)).trans (q2 c hc), fun c hc => (e _ (by omega)).trans (q3 c hc), fun c hc => (e _ (by omega)).trans (q4 c hc), fun c hc => (e _ (by omega)).trans (q5 c hc), fun c hc => (e _ (by omega)).trans (q6 c hc), fun c hc => (e _ (by omega)).trans (q7 c hc), fun c hc => (e _ (by omega)).trans (q8 c hc), (e _ (by omega)).trans q9, (e _ (by omega)).trans q10, (e _ (by omega)).trans q11, (e _ (by omega)).trans q12, (e _ (by omega)).trans q13, (e _ (by omega)).trans q14, (e _ (by omega)).trans q15, (e _ (by omega)).trans q16⟩
