/-! 87.sims6: rain that joins lakes; a gate left out -/
theorem lown_thn {A : Ab} (g : WFg A) (b : WFb A) : lown A 36 = thn A := by
  have h := lakes_sum g b (fun _ => 1)
  unfold thn lown ct
  rw [h]
  exact sm_congr (fun i _ => by simp only [decide_eq_true_eq])
theorem thn_sm (A : Ab) : thn A = sm 72 (fun k => if there A k = 1 then 1 else 0) := by
  unfold thn ct
  exact sm_congr (fun i _ => by simp only [decide_eq_true_eq])
theorem some_thn {A : Ab} : (∃ j, 0 ≤ j ∧ j < 72 ∧ there A j = 1) ↔ 1 ≤ thn A := by
  rw [thn_sm]
  constructor
  · rintro ⟨j, j0, j1, hj⟩
    have h1 := sm_mem (n := 72) (f := fun k : Nat => if there A k = 1 then (1 : Int) else 0) (fun i _ => by split <;> omega) (k := j.toNat) (by omega)
    have h2 : (if there A ((j.toNat : Nat) : Int) = 1 then (1 : Int) else 0) = 1 := by
      rw [Int.toNat_of_nonneg j0, if_pos hj]
    have h3 : (if there A ((j.toNat : Nat) : Int) = 1 then (1 : Int) else 0) ≤ sm 72 (fun k => if there A k = 1 then 1 else 0) := h1
    omega
  · intro h
    by_cases q : ∃ j, 0 ≤ j ∧ j < 72 ∧ there A j = 1
    · exact q
    · exfalso
      have := sm_zero (n := 72) (f := fun k : Nat => if there A k = 1 then (1 : Int) else 0) (fun i hi => by
        rw [if_neg]
        intro z
        exact q ⟨i, by omega, by omega, z⟩)
      omega
theorem pr_some : ∀ n : Nat, ∀ A k x, WF A → PK A k → 0 ≤ x → wat A + x ≤ 1200000 → (k = -1 ∨ mu A k < n) → 0 < n → (∃ j, 0 ≤ j ∧ j < 72 ∧ there A j = 1) → ∃ j, 0 ≤ j ∧ j < 72 ∧ there (pr n A k x).1 j = 1 := by
  intro n
  induction n with
  | zero => intro A k x _ _ _ _ _ h; omega
  | succ n ih =>
    intro A k x hW hk hx hwt hmu _ hs'
    simp only [pr]
    by_cases e0 : x ≤ 0
    · rw [if_pos e0]; exact hs'
    · rw [if_neg e0]
      by_cases e1 : k = -1
      · rw [if_pos e1]; exact hs'
      · rw [if_neg e1]
        have hk' := hk.resolve_left e1
        obtain ⟨c1, c2, c3, c4⟩ := pr_cases hW hk'.1.1 (by omega) hk'.2 (by omega) hwt
        have hf : ∃ j, 0 ≤ j ∧ j < 72 ∧ there (fil A k x) j = 1 := by
          obtain ⟨j, j0, j1, j2⟩ := hs'
          exact ⟨j, j0, j1, by rw [fil_there]; exact j2⟩
        by_cases e2 : x - adm A k x ≤ 0
        · rw [if_pos e2]; exact hf
        · rw [if_neg e2, fil_nxt]
          obtain ⟨d1, d2⟩ := c4 (by omega)
          by_cases e3 : nxt A k = -1
          · rw [if_pos e3]; exact hf
          · rw [if_neg e3]
            obtain ⟨o0, o1, o2, o3, o4⟩ := d2.resolve_left e3
            have hmu' := hmu.resolve_left e1
            rw [fil_vol, if_neg o1]
            by_cases e4 : vol A (nxt A k) = cap A (msk A (nxt A k)) ∧ pth A (ps A (msk A (nxt A k))) = pth A (ps A (msk A k))
            · rw [if_pos e4]
              obtain ⟨j1, j2⟩ := o3 e4
              have hj := jn_WF c1 j1
              have hmb := mu_bd hj.1 (fre (fil A k x))
              have hth : there (jn (fil A k x) (fre (fil A k x)) k (nxt A k)) (fre (fil A k x)) = 1 := by
                have tz : ∀ i, there (fil A k x) i = 1 → 0 ≤ i → i < 72 → i ≠ fre (fil A k x) := by
                  intro i t a b z
                  have := c1.2.1.2.2.1 i a b t
                  rw [z] at this
                  exact this j1.2.2.2.1
                rw [jn_there, if_neg, if_neg, if_pos rfl]
                · exact fun z => tz k j1.2.2.2.2.2.1 hk'.1.1 (by omega) z.symm
                · exact fun z => tz _ j1.2.2.2.2.2.2.1 o0.1 (by omega) z.symm
              exact ih _ (fre (fil A k x)) (x - adm A k x) hj.1 (Or.inr ⟨j1.1, hth⟩) (by omega) (by rw [hj.2.1]; omega) (Or.inr (by omega)) (by omega) ⟨_, j1.1.1, by have := j1.1.2; omega, hth⟩
            · rw [if_neg e4]
              have hmb := mu_bd c1 (nxt A k)
              exact ih (fil A k x) (nxt A k) (x - adm A k x) c1 (Or.inr ⟨o0, by rw [fil_there]; exact o2⟩) (by omega) (by omega) (Or.inr (by have := o4 e4; omega)) (by have := o4 e4; omega) hf
theorem prl_some {A : Ab} (hW : WF A) {k x : Int} (hk : PK A k) (hx : 0 ≤ x) (hw : wat A + x ≤ 1200000) (h : 1 ≤ thn A) : 1 ≤ thn (prl prN A k x) := by
  have hmb := mu_bd hW k
  obtain ⟨j, j0, j1, j2⟩ := pr_some prN A k x hW hk hx hw (Or.inr (by unfold prN; omega)) (by unfold prN; omega) (some_thn.mpr h)
  refine some_thn.mp ⟨j, j0, j1, ?_⟩
  show (prl prN A k x).1 7 j = 1
  rw [prl_1]
  exact j2
theorem rep_some {f v : Nat → Int} {B : Ab} (hB : WF B) (h : 1 ≤ thn B) : ∀ n : Nat, (∀ i, i < n → 0 ≤ v i) → wat B + sm n v ≤ 1200000 → 1 ≤ thn (rep f v n B) := by
  intro n
  induction n with
  | zero => intro _ _; exact h
  | succ n ih =>
    intro hv' hw
    have hs1 : sm (n + 1) v = sm n v + v n := rfl
    have h0 := hv' n (by omega)
    obtain ⟨j1, j2, _⟩ := rep_ok (f := f) (v := v) hB n (fun i hi => hv' i (by omega)) (by omega)
    exact prl_some j1 (PK_lk j1 _) h0 (by omega) (ih (fun i hi => hv' i (by omega)) (by omega))
/-- the lakes after rain -/
def la (A : Ab) (x : Int) : Int := lown (rep (fun c => (c : Int)) (fun _ => x) (nn A).toNat A) 36
theorem rain_bd {A : Ab} (w : WFg A) {x : Int} (x0 : 0 ≤ x) (x1 : x ≤ 40) (n : Nat) (hn : (n : Int) ≤ nn A) : sm n (fun _ => x) ≤ 1440 ∧ 0 ≤ sm n (fun _ => x) := by
  have hnn := nn_bd w
  have hsm : ∀ n : Nat, sm n (fun _ => x) = x * n := by
    intro n
    induction n with
    | zero => simp [sm]
    | succ n ih => simp only [sm]; rw [ih]; push_cast; rw [Int.mul_add]; omega
  rw [hsm]
  have h1 : x * (n : Int) ≤ 40 * 36 := Int.mul_le_mul x1 (by omega) (by omega) (by omega)
  exact ⟨by omega, Int.mul_nonneg x0 (by omega)⟩
theorem e_lakesAfter {M : Mem} {A : Ab} (h : RM M A) (hW : WF A) (hw : wat A ≤ 1000000) {x : Int} (x0 : 0 ≤ x) (x1 : x ≤ 40) : ∃ M', MD_lakesAfter (ni x) M = some (ni (la A x), M') ∧ FS M M' := by
  have hnn := nn_bd hW.1
  obtain ⟨M1, q1, f1, f2, f3⟩ := e_lays M
  have key : ∃ q M', lpM (fun s M9 => MD_lakesAfter_L6 (ni x) s M9) FUEL (0 : Int32) M1 = some (q, M') ∧ (RM M' (rep (fun c => (c : Int)) (fun _ => x) (nn A).toNat A) ∧ FrA M1 M') := by
    refine lpM_to (nn A).toNat (by omega) (fun i s M' => s = ni (i : Int) ∧ RM M' (rep (fun c => (c : Int)) (fun _ => x) i A) ∧ FrA M1 M') _ ?_ ?_ ⟨rfl, lays_RM h f2, FrA.refl M1⟩
    · rintro i hi s M2 ⟨rfl, R2, F2⟩
      have hb := rain_bd hW.1 x0 x1 i (by omega)
      have hb2 := rain_bd hW.1 x0 x1 (i + 1) (by omega)
      obtain ⟨j1, j2, j3, _⟩ := rep_ok (f := fun c => (c : Int)) (v := fun _ => x) hW i (fun i hi => x0) (by omega)
      have hnr : nn (rep (fun c => (c : Int)) (fun _ => x) i A) = nn A := j3.nn.symm
      obtain ⟨M4, q4, R4, F4⟩ := e_pours R2 j1 (c := (i : Int)) (by omega) (by rw [hnr]; omega) x0 (by omega)
      unfold MD_lakesAfter_L6
      rw [e_many R2, hnr, ni_64 (by omega) (by omega), q4, b2_s, ni_s]
      simp (disch := omega) only [ni_le]
      rw [if_neg (by omega)]
      exact ⟨_, M4, rfl, rfl, R4, F2.trans F4⟩
    · rintro s M2 ⟨rfl, R2, F2⟩
      have hb := rain_bd hW.1 x0 x1 (nn A).toNat (by omega)
      obtain ⟨j1, j2, j3, _⟩ := rep_ok (f := fun c => (c : Int)) (v := fun _ => x) hW (nn A).toNat (fun i hi => x0) (by omega)
      refine ⟨(), M2, ?_, R2, F2⟩
      unfold MD_lakesAfter_L6
      rw [e_many R2, ← j3.nn]
      simp (disch := omega) only [ni_le]
      rw [if_pos (by omega)]
  obtain ⟨q, M2, k1, R2, F2⟩ := key
  have hb := rain_bd hW.1 x0 x1 (nn A).toNat (by omega)
  obtain ⟨j1, j2, j3, _⟩ := rep_ok (f := fun c => (c : Int)) (v := fun _ => x) hW (nn A).toNat (fun i hi => x0) (by omega)
  obtain ⟨M3, p1, p2, p3⟩ := e_orders R2 j1.1 j1.2.1
  obtain ⟨M4, t1, g1, g2, g3⟩ := e_takesBack M3
  refine ⟨M4, ?_, aside f1 f2 f3 ((FX.ofA F2).trans (FX.ofO p2)) g1 g2 g3⟩
  unfold MD_lakesAfter
  rw [q1, b2_s, k1, b2_s, p1, b2_s, t1, b2_s, p3.1]
  rfl
theorem c_lakesAfter {Mc : Mem} {A : Ab} (hC : RW 1 Mc A) (hW : WF A) (hw : wat A ≤ 1000000) {x : Int} (x0 : 0 ≤ x) (x1 : x ≤ 40) : ∃ M1 M2, WD_copyFrom 47 1 Mc = some ((), M1) ∧ (∃ r, WD_pourAtAll 47 (ni x) M1 = some (r, M2)) ∧ LK_total 66 M2 = some (ni (la A x)) ∧ RW 1 M2 A ∧ Fr (fun p => 47 ≤ p ∧ p < 93) Mc M2 := by
  have hnn := nn_bd hW.1
  have hb := rain_bd hW.1 x0 x1 (nn A).toNat (by omega)
  have hxn : x * nn A ≤ 40 * 36 := Int.mul_le_mul x1 (by omega) (by omega) (by omega)
  obtain ⟨M1, q1, R1, F1⟩ := c_copy (o := 47) (a := 1) (Or.inr (Or.inl rfl)) (Or.inl rfl) (Or.inr (by omega)) hC
  obtain ⟨M2, q2, R2, F2⟩ := c_pourAtAll (w := 47) (Or.inr (Or.inl rfl)) R1 hW x0 (show x ≤ 1000 by omega) (by omega)
  obtain ⟨j1, j2, j3, _⟩ := rep_ok (f := fun c => (c : Int)) (v := fun _ => x) hW (nn A).toNat (fun i hi => x0) (by omega)
  have FF : Fr (fun p => 47 ≤ p ∧ p < 93) Mc M2 := (F1.mono (fun p hp => by omega)).trans (F2.mono (fun p hp => by omega))
  exact ⟨M1, M2, q1, ⟨_, q2⟩, c_total R2.1.2.2.2 j1.2.1, RW_fr hC FF (fun p x y z => by omega), FF⟩
/-- the first amount that joins -/
def rj (A : Ab) : Nat → Int → Int
  | 0, _ => -1
  | n + 1, x => if lown A 36 ≤ la A x then rj A n (x + 1) else x
theorem rj_s (A : Ab) (n : Nat) (x : Int) : rj A (n + 1) x = if lown A 36 ≤ la A x then rj A n (x + 1) else x := rfl
theorem e_rainToJoin {M : Mem} {A : Ab} (h : RM M A) (hW : WF A) (hw : wat A ≤ 1000000) : ∃ r M', lpM (fun s M9 => MD_rainToJoin_L16 (ni (lown A 36)) s M9) FUEL (1 : Int32) M = some (r, M') ∧ r.elim (fun _ => some ((-1 : Int32), M')) (fun r8 => some (r8, M')) = some (ni (rj A 40 1), M') ∧ FS M M' := by
  have hle := lown_le A 36
  have hl0 := lown_nonneg A 36
  have hll := fun x => lown_le (rep (fun c => (c : Int)) (fun _ => x) (nn A).toNat A) 36
  have hlz := fun x => lown_nonneg (rep (fun c => (c : Int)) (fun _ => x) (nn A).toNat A) 36
  refine lpM_wf (fun s M' => ∃ i : Nat, i ≤ 40 ∧ s = ni ((i : Int) + 1) ∧ rj A (40 - i) ((i : Int) + 1) = rj A 40 1 ∧ FS M M') (fun s _ => (41 - s.toInt).toNat) _ ?_ FUEL _ _ ⟨0, by omega, rfl, rfl, FS.rfl'⟩ ?_
  · rintro s M1 ⟨i, hi, rfl, hr, F1⟩
    unfold MD_rainToJoin_L16
    simp (disch := omega) only [show (40 : Int32) = ni 40 from rfl, show (1 : Int32) = ni 1 from rfl, ni_lt, ni_add]
    by_cases e : i = 40
    · right
      rw [if_pos (by omega)]
      refine ⟨_, M1, rfl, ?_, F1⟩
      rw [e] at hr
      show some ((-1 : Int32), M1) = some (ni (rj A 40 1), M1)
      rw [← hr]; rfl
    · rw [if_neg (by omega)]
      obtain ⟨M2, q2, F2⟩ := e_lakesAfter (F1.RM h) hW hw (x := (i : Int) + 1) (by omega) (by omega)
      have h1 := hll ((i : Int) + 1)
      have h2 := hlz ((i : Int) + 1)
      have hla : 0 ≤ la A ((i : Int) + 1) ∧ la A ((i : Int) + 1) ≤ 36 := ⟨h2, h1⟩
      rw [q2, b2_s]
      simp (disch := omega) only [ni_le]
      rw [show 40 - i = (40 - (i + 1)) + 1 by omega] at hr
      rw [rj_s] at hr
      by_cases z : lown A 36 ≤ la A ((i : Int) + 1)
      · left
        rw [if_pos z]
        rw [if_pos z] at hr
        refine ⟨_, M2, rfl, ⟨i + 1, by omega, rfl, hr, F1.trans F2⟩, ?_⟩
        rw [ni_toInt (by omega) (by omega), ni_toInt (by omega) (by omega)]
        omega
      · right
        rw [if_neg z]
        rw [if_neg z] at hr
        refine ⟨_, M2, rfl, ?_, F1.trans F2⟩
        rw [← hr]; rfl
  · decide +kernel
theorem c_rainToJoin {Mc : Mem} {A : Ab} (hC : RW 1 Mc A) (hW : WF A) (hw : wat A ≤ 1000000) : ∃ r M', lpM (fun s M9 => LL_rainToJoin_L13 (ni (lown A 36)) s M9) FUEL (1 : Int32) Mc = some (r, M') ∧ r.elim (fun _ => some ((-1 : Int32), M')) (fun r8 => some (r8, M')) = some (ni (if lown A 36 ≤ 1 then -1 else rj A 40 1), M') ∧ Fr (fun p => 47 ≤ p ∧ p < 93) Mc M' := by
  have hle := lown_le A 36
  have hl0 := lown_nonneg A 36
  have hll := fun x => lown_le (rep (fun c => (c : Int)) (fun _ => x) (nn A).toNat A) 36
  have hlz := fun x => lown_nonneg (rep (fun c => (c : Int)) (fun _ => x) (nn A).toNat A) 36
  refine lpM_wf (fun s M' => ∃ i : Nat, i ≤ 40 ∧ s = ni ((i : Int) + 1) ∧ rj A (40 - i) ((i : Int) + 1) = rj A 40 1 ∧ RW 1 M' A ∧ Fr (fun p => 47 ≤ p ∧ p < 93) Mc M') (fun s _ => (41 - s.toInt).toNat) _ ?_ FUEL _ _ ⟨0, by omega, rfl, rfl, hC, Fr.rfl'⟩ ?_
  · rintro s M1 ⟨i, hi, rfl, hr, R1, F1⟩
    unfold LL_rainToJoin_L13
    simp (disch := omega) only [show (40 : Int32) = ni 40 from rfl, show (1 : Int32) = ni 1 from rfl, ni_lt, ni_le, ni_add]
    by_cases e1 : lown A 36 ≤ 1
    · right
      rw [if_pos e1]
      refine ⟨_, M1, rfl, ?_, F1⟩
      rw [if_pos e1]; rfl
    rw [if_neg e1, if_neg e1]
    by_cases e : i = 40
    · right
      rw [if_pos (by omega)]
      refine ⟨_, M1, rfl, ?_, F1⟩
      rw [e] at hr
      show some ((-1 : Int32), M1) = some (ni (rj A 40 1), M1)
      rw [← hr]; rfl
    · rw [if_neg (by omega)]
      obtain ⟨M2, M3, q2, ⟨r3, q3⟩, q4, R3, F3⟩ := c_lakesAfter R1 hW hw (x := (i : Int) + 1) (by omega) (by omega)
      have h1 := hll ((i : Int) + 1)
      have h2 := hlz ((i : Int) + 1)
      have hla : 0 ≤ la A ((i : Int) + 1) ∧ la A ((i : Int) + 1) ≤ 36 := ⟨h2, h1⟩
      rw [q2, b2_s, q3, b2_s, q4, b1_s]
      simp (disch := omega) only [ni_le]
      rw [show 40 - i = (40 - (i + 1)) + 1 by omega] at hr
      rw [rj_s] at hr
      by_cases z : lown A 36 ≤ la A ((i : Int) + 1)
      · left
        rw [if_pos z]
        rw [if_pos z] at hr
        refine ⟨_, M3, rfl, ⟨i + 1, by omega, rfl, hr, R3, F1.trans F3⟩, ?_⟩
        rw [ni_toInt (by omega) (by omega), ni_toInt (by omega) (by omega)]
        omega
      · right
        rw [if_neg z]
        rw [if_neg z] at hr
        refine ⟨_, M3, rfl, ?_, F1.trans F3⟩
        rw [← hr]; rfl
  · decide +kernel
theorem rj_one {A : Ab} (hW : WF A) (hw : wat A ≤ 1000000) (h : lown A 36 ≤ 1) : ∀ n : Nat, ∀ x : Int, 0 ≤ x → x + n ≤ 41 → rj A n x = -1 := by
  have hnn := nn_bd hW.1
  intro n
  induction n with
  | zero => intro _ _ _; rfl
  | succ n ih =>
    intro x x0 x1
    simp only [rj]
    have hb := rain_bd hW.1 x0 (show x ≤ 40 by omega) (nn A).toNat (by omega)
    obtain ⟨j1, j2, j3, _⟩ := rep_ok (f := fun c => (c : Int)) (v := fun _ => x) hW (nn A).toNat (fun i hi => x0) (by omega)
    have hl0 := lown_nonneg (rep (fun c => (c : Int)) (fun _ => x) (nn A).toNat A) 36
    have key : lown A 36 ≤ la A x := by
      unfold la
      by_cases z : lown A 36 = 1
      · rw [lown_thn hW.1 hW.2.1] at z
        have := rep_some (f := fun c => (c : Int)) (v := fun _ => x) hW (by omega) (nn A).toNat (fun i hi => x0) (by omega)
        rw [lown_thn hW.1 hW.2.1, lown_thn j1.1 j1.2.1]
        omega
      · omega
    rw [if_pos key]
    exact ih (x + 1) (by omega) (by omega)
theorem sim20 : Sim20 Inv := by
  intro Mc Mm hI
  obtain ⟨A, hC, hM, hW, hw, hS, hT⟩ := hI
  have hM0 : RM (sI Mm 0 4 (0 : Int32)) A := RM_of hM (fun k _ => rfl)
  obtain ⟨M1, p1, p2, p3⟩ := e_orders hM0 hW.1 hW.2.1
  obtain ⟨r, M2, k1, k2, k3⟩ := e_rainToJoin ((FrO_FS p2).RM hM0) hW hw.1
  obtain ⟨r', M3, l1, l2, l3⟩ := c_rainToJoin hC hW hw.1
  have e : (if lown A 36 ≤ 1 then -1 else rj A 40 1) = rj A 40 1 := by
    split
    · rename_i z
      exact (rj_one hW hw.1 z 40 1 (by omega) (by omega)).symm
    · rfl
  rw [e] at l2
  refine ⟨ni (rj A 40 1), M3, M2, ?_, ?_, Inv_spare hC hM0 hW hw (SVI_goes hS _) (TXI_goes hT _) l3 ((FrO_FS p2).trans k3)⟩
  · have ht : LK_total 20 Mc = some (ni (lown A 36)) := c_total hC.1.2.2.2 hW.2.1
    unfold LL_rainToJoin
    rw [ht, b1_s, l1, b2_s, ← l2]
  · unfold MD_rainToJoin
    rw [p1, b2_s, p3.1, k1, b2_s, ← k2]
