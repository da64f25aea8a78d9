/-! 77.save2: both sides save; the state of both -/
theorem c_save {Mc : Mem} {A : Ab} {nx cnt : Int} (hR : RW 1 Mc A) (hn : 0 ≤ nx ∧ nx < 4) (hc : 0 ≤ cnt ∧ cnt ≤ 4) (e5 : gI Mc 0 5 = ni nx) (e4 : gI Mc 0 4 = ni cnt) : ∃ M', LL_save Mc = some ((), M') ∧ RW (slot nx 0 0) M' A ∧ gI M' 0 5 = ni ((nx + 1) % 4) ∧ gI M' 0 4 = ni (if cnt = 4 then 4 else cnt + 1) ∧ Fr (fun p => p = 0 ∨ (slot nx 0 0 ≤ p ∧ p < slot nx 0 0 + 46)) Mc M' := by
  have hsl : 97 ≤ slot nx 0 0 := by unfold slot; omega
  obtain ⟨M1, q1, R1, F1⟩ := c_copy (slot_W nx 0 0) (Or.inl rfl) (Or.inr (by omega)) hR
  have f5 : gI M1 0 5 = ni nx := by rw [F1.gI (by omega)]; exact e5
  have f4 : gI M1 0 4 = ni cnt := by rw [F1.gI (by omega)]; exact e4
  have hr : irm (ni nx + (1 : Int32)) (4 : Int32) = ni ((nx + 1) % 4) := by
    rw [show (1 : Int32) = ni 1 from rfl, ni_add, show (4 : Int32) = ni 4 from rfl, ni_irm (by omega) (by omega) (by omega) (by omega)]
  have hm : JM_min (ni cnt + (1 : Int32)) (4 : Int32) = ni (if cnt = 4 then 4 else cnt + 1) := by
    rw [show (1 : Int32) = ni 1 from rfl, ni_add, show (4 : Int32) = ni 4 from rfl, JM_min_ni (by omega) (by omega) (by omega) (by omega)]
    refine congrArg ni ?_
    split <;> split <;> omega
  have fs : Fr (fun p => p = 0) M1 (sI (sI M1 0 5 (ni ((nx + 1) % 4))) 0 4 (ni (if cnt = 4 then 4 else cnt + 1))) := (Fr.sI (P := fun p => p = 0) rfl).trans (Fr.sI (P := fun p => p = 0) rfl)
  refine ⟨sI (sI M1 0 5 (ni ((nx + 1) % 4))) 0 4 (ni (if cnt = 4 then 4 else cnt + 1)), ?_, RW_fr R1 fs (fun p a b => by omega), ?_, ?_, (F1.mono (fun p hp => Or.inr hp)).trans (fs.mono (fun p hp => Or.inl hp))⟩
  · unfold LL_save
    rw [e5, fSavedAt_eq hn.1 hn.2, q1, b2_s, f5, hr, sI_ne (by omega), f4, hm]
  · rw [sI_ne (by omega), sI_eq]
  · rw [sI_eq]
def FrV (M M' : Mem) : Prop := (∀ o q, ¬ (o = 0 ∧ q = 3) → M'.1 o q = M.1 o q) ∧ ∀ o q, o ≠ 2 → M'.2 o q = M.2 o q
theorem gL_s2 (M : Mem) (i j : Nat) (v : Int64) : gL (sL M 2 i v) 2 j = if j = i then v else gL M 2 j := by simp [gL, sL]
theorem gL_s21 (M : Mem) (i j : Nat) (v : Int64) : gL (sL M 2 i v) 1 j = gL M 1 j := by simp [gL, sL]
theorem e_save49 {M : Mem} {cnt : Int} (hc : 0 ≤ cnt ∧ cnt ≤ 3) (e3 : gI M 0 3 = ni cnt) : ∃ M', MD_save_J49 M = some ((), M') ∧ FrV M M' ∧ gI M' 0 3 = ni (cnt + 1) ∧ (∀ q, q < 513 → gL M' 2 (513 * cnt.toNat + q) = gL M 1 q) ∧ (∀ q, q < 513 * cnt.toNat → gL M' 2 q = gL M 2 q) := by
  have key : ∃ r M', lpM (fun s M9 => MD_save_L51 s M9) FUEL (0 : Int32) M = some (r, M') ∧ (M'.1 = M.1 ∧ (∀ o q, o ≠ 2 → M'.2 o q = M.2 o q) ∧ (∀ q, q < 513 → gL M' 2 (513 * cnt.toNat + q) = gL M 1 q) ∧ (∀ q, q < 513 * cnt.toNat → gL M' 2 q = gL M 2 q)) := by
    refine lpM_to 513 (by omega) (fun i s M' => s = ni (i : Int) ∧ M'.1 = M.1 ∧ (∀ o q, o ≠ 2 → M'.2 o q = M.2 o q) ∧ (∀ q, q < i → gL M' 2 (513 * cnt.toNat + q) = gL M 1 q) ∧ (∀ q, q < 513 * cnt.toNat → gL M' 2 q = gL M 2 q)) _ ?_ ?_ ⟨rfl, rfl, fun _ _ _ => rfl, fun q hq => by omega, fun _ _ => rfl⟩
    · rintro i hi s M1 ⟨rfl, f1, f2, f3, f4⟩
      have e : gI M1 0 3 = ni cnt := by unfold gI; rw [f1]; exact e3
      have hv : gL M1 1 i = gL M 1 i := f2 1 i (by omega)
      unfold MD_save_L51
      rw [e]
      simp (disch := omega) only [show (513 : Int32) = ni 513 from rfl, ni_mul, ni_add, ni_le, ni_inb, ni_nat, ni_s, Int.toNat_natCast]
      rw [if_neg (by omega), ck_d (by omega), ck_d (by omega), show (513 * cnt + (i : Int)).toNat = 513 * cnt.toNat + i by omega, hv]
      refine ⟨_, _, rfl, rfl, f1, fun o q ho => ?_, fun q hq => ?_, fun q hq => ?_⟩
      · rw [← f2 o q ho]; simp [sL, ho]
      · rw [gL_s2]
        by_cases z : q = i
        · rw [if_pos (by omega), z]
        · rw [if_neg (by omega)]; exact f3 q (by omega)
      · rw [gL_s2, if_neg (by omega)]; exact f4 q hq
    · rintro s M1 ⟨rfl, f1, f2, f3, f4⟩
      refine ⟨(), M1, ?_, f1, f2, f3, f4⟩
      unfold MD_save_L51
      rw [if_pos (by decide)]
  obtain ⟨r, M1, k1, f1, f2, f3, f4⟩ := key
  have e : gI M1 0 3 = ni cnt := by unfold gI; rw [f1]; exact e3
  refine ⟨sI M1 0 3 (ni (cnt + 1)), ?_, ⟨fun o q hq => ?_, fun o q ho => f2 o q ho⟩, by simp [gI, sI], f3, f4⟩
  · unfold MD_save_J49
    rw [k1, b2_s, e, show (1 : Int32) = ni 1 from rfl, ni_add]
  · rw [← f1]; simp [sI, hq]
theorem e_save {M : Mem} {A : Ab} {cnt : Int} {S : Nat → Ab} (hR : RM M A) (hc : 0 ≤ cnt ∧ cnt ≤ 4) (e3 : gI M 0 3 = ni cnt) (hS : ∀ i : Nat, (i : Int) < cnt → RMo M i (S i)) : ∃ M', MD_save M = some ((), M') ∧ FrV M M' ∧ gI M' 0 3 = ni (if cnt = 4 then 4 else cnt + 1) ∧ RM M' A ∧ (cnt < 4 → (∀ i : Nat, (i : Int) < cnt → RMo M' i (S i)) ∧ RMo M' cnt.toNat A) ∧ (cnt = 4 → (∀ i : Nat, i < 3 → RMo M' i (S (i + 1))) ∧ RMo M' 3 A) := by
  by_cases h4 : cnt = 4
  · have key : ∃ r M', lpM (fun s M9 => MD_save_L10 s M9) FUEL (0 : Int32) M = some (r, M') ∧ (M'.1 = M.1 ∧ (∀ o q, o ≠ 2 → M'.2 o q = M.2 o q) ∧ (∀ q, q < 1539 → gL M' 2 q = gL M 2 (q + 513))) := by
      refine lpM_to 1539 (by omega) (fun i s M' => s = ni (i : Int) ∧ M'.1 = M.1 ∧ (∀ o q, o ≠ 2 → M'.2 o q = M.2 o q) ∧ (∀ q, q < i → gL M' 2 q = gL M 2 (q + 513)) ∧ (∀ q, i ≤ q → gL M' 2 q = gL M 2 q)) _ ?_ ?_ ⟨rfl, rfl, fun _ _ _ => rfl, fun q hq => by omega, fun _ _ => rfl⟩
      · rintro i hi s M1 ⟨rfl, f1, f2, f3, f4⟩
        unfold MD_save_L10
        simp (disch := omega) only [show (1539 : Int32) = ni 1539 from rfl, show (513 : Int32) = ni 513 from rfl, ni_add, ni_le, ni_inb, ni_nat, ni_s, Int.toNat_natCast]
        rw [if_neg (by omega), ck_d (by omega), ck_d (by omega), show ((i : Int) + 513).toNat = i + 513 by omega, f4 (i + 513) (by omega)]
        refine ⟨_, _, rfl, rfl, f1, fun o q ho => ?_, fun q hq => ?_, fun q hq => ?_⟩
        · rw [← f2 o q ho]; simp [sL, ho]
        · rw [gL_s2]
          by_cases z : q = i
          · rw [if_pos z, z]
          · rw [if_neg z]; exact f3 q (by omega)
        · rw [gL_s2, if_neg (by omega)]; exact f4 q (by omega)
      · rintro s M1 ⟨rfl, f1, f2, f3, f4⟩
        refine ⟨(), M1, ?_, f1, f2, f3⟩
        unfold MD_save_L10
        rw [if_pos (by decide)]
    obtain ⟨r, M1, k1, f1, f2, f3⟩ := key
    have e : gI M1 0 3 = ni 4 := by unfold gI; rw [f1, ← h4]; exact e3
    have R1 : RM (sI M1 0 3 (ni 3)) A := RM_of hR (fun k _ => f2 1 k (by omega))
    obtain ⟨M2, q2, F2, e2, a2, b2⟩ := e_save49 (M := sI M1 0 3 (ni 3)) (cnt := 3) (by omega) (by simp [gI, sI])
    refine ⟨M2, ?_, ⟨fun o q hq => ?_, fun o q ho => ?_⟩, by rw [if_pos h4]; exact e2, RM_of R1 (fun k _ => F2.2 1 k (by omega)), fun z => by omega, fun _ => ⟨fun i hi => ?_, ?_⟩⟩
    · unfold MD_save
      rw [e3, h4, if_neg (by simp; rfl), k1, b2_s, e, show (1 : Int32) = ni 1 from rfl, ni_sub]
      exact q2
    · rw [F2.1 o q hq, ← f1]; simp [sI, hq]
    · rw [F2.2 o q ho]; exact f2 o q ho
    · refine RMo_of (hS (i + 1) (by omega)) (fun q hq => ?_)
      rw [b2 _ (by have : (3 : Int).toNat = 3 := rfl; omega)]
      show gL M1 2 (513 * i + q) = _
      rw [f3 _ (by omega), show 513 * i + q + 513 = 513 * (i + 1) + q by omega]
    · refine RMo_all R1 (fun q hq => ?_)
      exact a2 q hq
  · obtain ⟨M2, q2, F2, e2, a2, b2⟩ := e_save49 (M := M) (cnt := cnt) (by omega) e3
    refine ⟨M2, ?_, F2, by rw [if_neg h4]; exact e2, RM_of hR (fun k _ => F2.2 1 k (by omega)), fun _ => ⟨fun i hi => ?_, ?_⟩, fun z => absurd z h4⟩
    · unfold MD_save
      rw [e3]
      simp (disch := omega) only [show (4 : Int32) = ni 4 from rfl, ni_eq]
      rw [if_pos h4]; exact q2
    · exact RMo_of (hS i hi) (fun q hq => b2 _ (by omega))
    · exact RMo_all hR (fun q hq => a2 q hq)
/-- the text of both -/
def TXI (Mc Mm : Mem) : Prop := ∃ tl : Int, (0 ≤ tl ∧ tl ≤ 150) ∧ gI Mc 94 1 = ni tl ∧ gI Mm 0 21 = ni tl ∧ ∀ i : Nat, (i : Int) < tl → ∃ v : Int, (0 ≤ v ∧ v ≤ 127) ∧ fAtI 95 (ni (i : Int)) Mc = ni v ∧ gI Mm 12 i = ni v
def Inv (Mc Mm : Mem) : Prop := ∃ A : Ab, RW 1 Mc A ∧ RM Mm A ∧ WF A ∧ WB A ∧ SVI Mc Mm ∧ TXI Mc Mm
/-- a call of this side alters the world, or the spare one: what of the rest stays -/
theorem SVI_fr {Mc Mc' Mm Mm' : Mem} {P : Nat → Prop} (h : SVI Mc Mm) (f : Fr P Mc Mc') (hP : ∀ p, P p → p ≠ 0 ∧ p < 97) (h3 : gI Mm' 0 3 = gI Mm 0 3) (h2 : ∀ q, gL Mm' 2 q = gL Mm 2 q) : SVI Mc' Mm' := by
  obtain ⟨nx, cnt, S, hn, hc, e5, e4, e3, hS⟩ := h
  refine ⟨nx, cnt, S, hn, hc, ?_, ?_, by rw [h3]; exact e3, fun i hi => ?_⟩
  · rw [f.gI (fun z => (hP _ z).1 rfl)]; exact e5
  · rw [f.gI (fun z => (hP _ z).1 rfl)]; exact e4
  · obtain ⟨a, b, c, d⟩ := hS i hi
    refine ⟨RW_fr a f (fun p x y z => ?_), RMo_of b (fun q _ => h2 _), c, d⟩
    have := (hP p z).2
    unfold slot at x
    omega
theorem TXI_fr {Mc Mc' Mm Mm' : Mem} {P : Nat → Prop} (h : TXI Mc Mm) (f : Fr P Mc Mc') (hP : ∀ p, P p → p < 94 ∨ 97 ≤ p) (h1 : gI Mm' 0 21 = gI Mm 0 21) (h2 : ∀ q, gI Mm' 12 q = gI Mm 12 q) : TXI Mc' Mm' := by
  obtain ⟨tl, ht, a, b, c⟩ := h
  refine ⟨tl, ht, ?_, by rw [h1]; exact b, fun i hi => ?_⟩
  · rw [f.gI (fun z => by have := hP _ z; omega)]; exact a
  · obtain ⟨v, v1, v2, v3⟩ := c i hi
    exact ⟨v, v1, by rw [f.at (fun z => by have := hP _ z; omega)]; exact v2, by rw [h2]; exact v3⟩
/-- both save -/
theorem both_save {Mc Mm : Mem} {A : Ab} (hC : RW 1 Mc A) (hM : RM Mm A) (hW : WF A) (hw : WB A) (hS : SVI Mc Mm) (hT : TXI Mc Mm) : ∃ Mc' Mm', LL_save Mc = some ((), Mc') ∧ MD_save Mm = some ((), Mm') ∧ RW 1 Mc' A ∧ RM Mm' A ∧ SVI Mc' Mm' ∧ TXI Mc' Mm' ∧ FrV Mm Mm' ∧ Fr (fun p => p = 0 ∨ (97 ≤ p ∧ p < 281)) Mc Mc' := by
  obtain ⟨nx, cnt, S, hn, hc, e5, e4, e3, hs⟩ := hS
  obtain ⟨Mc', q1, R1, g5, g4, F1⟩ := c_save hC hn hc e5 e4
  obtain ⟨Mm', q2, F2, g3, R2, s1, s2⟩ := e_save hM hc e3 (fun i hi => (hs i hi).2.1)
  have hsl : 97 ≤ slot nx 0 0 ∧ slot nx 0 0 ≤ 235 := by
    unfold slot
    have : (nx - 0 + 0) % 4 < 4 ∧ 0 ≤ (nx - 0 + 0) % 4 := by omega
    omega
  have old : ∀ nx' cnt' : Int, ∀ i j : Nat, (i : Int) < cnt → slot nx' cnt' j = slot nx cnt i → slot nx cnt i ≠ slot nx 0 0 → RW (slot nx' cnt' j) Mc' (S i) := by
    intro nx' cnt' i j hi he hne
    rw [he]
    refine RW_fr (hs i hi).1 F1 (fun p x y z => ?_)
    unfold slot at x y z hne
    omega
  refine ⟨Mc', Mm', q1, q2, RW_fr hC F1 (fun p x y z => by omega), R2, ?_, TXI_fr hT F1 (fun p hp => by omega) (F2.1 0 21 (by omega)) (fun q => F2.1 12 q (by omega)), F2, F1.mono (fun p hp => by omega)⟩
  by_cases h4 : cnt = 4
  · obtain ⟨t1, t2⟩ := s2 h4
    rw [if_pos h4] at g4 g3
    refine ⟨(nx + 1) % 4, 4, fun i => if i < 3 then S (i + 1) else A, by omega, by omega, g5, g4, g3, fun i hi => ?_⟩
    by_cases z : i < 3
    · simp only [z, if_true]
      refine ⟨old _ _ (i + 1) i (by omega) ?_ ?_, t1 i z, (hs (i + 1) (by omega)).2.2.1, (hs (i + 1) (by omega)).2.2.2⟩
      · unfold slot; omega
      · unfold slot; omega
    · have hi3 : i = 3 := by omega
      simp only [z, if_false]
      refine ⟨?_, by rw [hi3]; exact t2, hW, hw⟩
      have : slot ((nx + 1) % 4) 4 (i : Int) = slot nx 0 0 := by unfold slot; omega
      rw [this]; exact R1
  · obtain ⟨t1, t2⟩ := s1 (by omega)
    rw [if_neg h4] at g4 g3
    refine ⟨(nx + 1) % 4, cnt + 1, fun i => if (i : Int) < cnt then S i else A, by omega, by omega, g5, g4, g3, fun i hi => ?_⟩
    by_cases z : (i : Int) < cnt
    · simp only [z, if_true]
      refine ⟨old _ _ i i z ?_ ?_, t1 i z, (hs i z).2.2.1, (hs i z).2.2.2⟩
      · unfold slot; omega
      · unfold slot; omega
    · have hi3 : i = cnt.toNat := by omega
      simp only [z, if_false]
      refine ⟨?_, by rw [hi3]; exact t2, hW, hw⟩
      have : slot ((nx + 1) % 4) (cnt + 1) (i : Int) = slot nx 0 0 := by unfold slot; omega
      rw [this]; exact R1
