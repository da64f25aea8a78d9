/-! B3.sound: courses, counts, the deepest cell -/
theorem bsn_in {A : Ab} (g : WFg A) {c b : Int} (h0 : 0 ≤ c) (h1 : c < nn A) (h : hs (pl A c) b = true) : bsn A b = bsn A c := by
  obtain ⟨b0, b1, _⟩ := pl_in g h0 h1 h
  have e := tg_pl g h0 h1 h
  by_cases z : tg A c = -1
  · have f1 := fin_stop z
    have f2 := fin_stop (e.trans z)
    unfold bsn
    rw [f1, f2, ipt_pl g h0 h1 h, pl_eq g h0 h1 h]
  · have f1 := fin_next g h0 h1 z
    have f2 := fin_next g b0 b1 (by rw [e]; exact z)
    unfold bsn
    rw [f1, f2, e]
theorem bsn_tg {A : Ab} (g : WFg A) {c : Int} (h0 : 0 ≤ c) (h1 : c < nn A) (h : tg A c ≠ -1) : bsn A (tg A c) = bsn A c := by
  unfold bsn
  rw [fin_next g h0 h1 h]
/-- b is on the course of c -/
noncomputable def con (A : Ab) : Nat → Int → Int → Bool
  | 0, _, _ => false
  | n + 1, c, b => if c = -1 then false else hs (pl A c) b || con A n (tg A c) b
theorem crs_con (A : Ab) : ∀ (n : Nat) (c b : Int) (v : Int64), hs (crs A n c v) b = (hs v b || con A n c b) := by
  intro n
  induction n with
  | zero => intro c b v; simp [crs, con]
  | succ n ih =>
    intro c b v
    simp only [crs, con]
    by_cases z : c = -1
    · rw [if_pos z, if_pos z]; simp
    · rw [if_neg z, if_neg z, ih, hs_or, Bool.or_assoc]
theorem con_rg {A : Ab} (g : WFg A) : ∀ (n : Nat) (c b : Int), 0 ≤ c → c < nn A → con A n c b = true → (0 ≤ b ∧ b < nn A) ∧ ht A b ≤ ht A c ∧ bsn A b = bsn A c := by
  intro n
  induction n with
  | zero => intro c b _ _ h; simp [con] at h
  | succ n ih =>
    intro c b h0 h1 h
    simp only [con] at h
    rw [if_neg (by omega), Bool.or_eq_true] at h
    rcases h with h | h
    · obtain ⟨b0, b1, b2⟩ := pl_in g h0 h1 h
      exact ⟨⟨b0, b1⟩, by omega, bsn_in g h0 h1 h⟩
    · rcases tg_rg g h0 h1 with z | ⟨t0, t1, t2⟩
      · rw [z] at h
        cases n with
        | zero => simp [con] at h
        | succ n => simp [con] at h
      · obtain ⟨i1, i2, i3⟩ := ih _ b t0 t1 h
        exact ⟨i1, by omega, by rw [i3, bsn_tg g h0 h1 (by omega)]⟩
theorem con_self {A : Ab} (g : WFg A) {n : Nat} {c : Int} (h0 : 0 ≤ c) (h1 : c < nn A) : con A (n + 1) c c = true := by
  simp only [con]
  rw [if_neg (by omega), pl_self g h0 h1]
  rfl
theorem bsn_ne {A : Ab} {c : Int} (h : ipt A (fin A c) = true) : 0 ≤ bsn A c := by
  unfold bsn
  rw [if_pos h]
  exact (ldn_bd A _).1
theorem con_end {A : Ab} (g : WFg A) : ∀ (n : Nat) (c : Int), 0 ≤ c → c < nn A → lower A c < n → ((∃ b, con A n c b = true ∧ ipt A b = true) ↔ bsn A c ≠ -1) ∧ ((∃ b, con A n c b = true ∧ hs (drn A) b = true) ↔ bsn A c = -1) := by
  intro n
  induction n with
  | zero =>
    intro c h0 h1 h
    have : 0 ≤ lower A c := (ct_bd _ _).1
    omega
  | succ n ih =>
    intro c h0 h1 hl
    by_cases z : tg A c = -1
    · have hcon : ∀ b, con A (n + 1) c b = hs (pl A c) b := by
        intro b
        simp only [con]
        rw [if_neg (by omega), z]
        cases n <;> simp [con]
      have hf := fin_stop z
      by_cases y : pl A c &&& drn A = 0
      · have hi : ipt A c = true := ipt_iff.mpr ⟨z, y⟩
        have hb : 0 ≤ bsn A c := bsn_ne (by rw [hf]; exact hi)
        refine ⟨⟨fun _ => by omega, fun _ => ⟨c, by rw [hcon]; exact pl_self g h0 h1, hi⟩⟩, ⟨fun ⟨b, p1, p2⟩ => ?_, fun q => by omega⟩⟩
        rw [hcon] at p1
        have : hs (pl A c &&& drn A) b = true := by rw [hs_and, p1, p2]; rfl
        rw [y, hs_zero] at this
        exact absurd this (by simp)
      · have hi : ipt A c = false := by
          cases q : ipt A c with
          | false => rfl
          | true => exact absurd (ipt_iff.mp q).2 y
        have hb : bsn A c = -1 := by
          unfold bsn
          rw [hf, hi]
          rfl
        refine ⟨⟨fun ⟨b, p1, p2⟩ => ?_, fun q => absurd hb q⟩, ⟨fun _ => hb, fun _ => ?_⟩⟩
        · rw [hcon] at p1
          rw [ipt_pl g h0 h1 p1, hi] at p2
          exact absurd p2 (by simp)
        · obtain ⟨_, l2, _⟩ := lo_spec y
          rw [hs_and, Bool.and_eq_true] at l2
          exact ⟨_, by rw [hcon]; exact l2.1, l2.2⟩
    · rcases tg_rg g h0 h1 with w | ⟨t0, t1, t2⟩
      · exact absurd w z
      · have y : pl A c &&& drn A = 0 := by
          by_cases q : pl A c &&& drn A = 0
          · exact q
          · exfalso
            apply z
            unfold tg
            rw [if_neg q]
        have hcon : ∀ b, con A (n + 1) c b = (hs (pl A c) b || con A n (tg A c) b) := by
          intro b
          simp only [con]
          rw [if_neg (by omega)]
        obtain ⟨i1, i2⟩ := ih _ t0 t1 (by have := lower_lt (A := A) (c := c) t0 t1 t2; omega)
        rw [bsn_tg g h0 h1 z] at i1 i2
        refine ⟨⟨fun ⟨b, p1, p2⟩ => ?_, fun q => ?_⟩, ⟨fun ⟨b, p1, p2⟩ => ?_, fun q => ?_⟩⟩
        · rw [hcon, Bool.or_eq_true] at p1
          rcases p1 with p1 | p1
          · have := (ipt_iff.mp p2).1
            rw [tg_pl g h0 h1 p1] at this
            exact absurd this z
          · exact i1.mp ⟨b, p1, p2⟩
        · obtain ⟨b, p1, p2⟩ := i1.mpr q
          exact ⟨b, by rw [hcon, p1]; simp, p2⟩
        · rw [hcon, Bool.or_eq_true] at p1
          rcases p1 with p1 | p1
          · have : hs (pl A c &&& drn A) b = true := by rw [hs_and, p1, p2]; rfl
            rw [y, hs_zero] at this
            exact absurd this (by simp)
          · exact i2.mp ⟨b, p1, p2⟩
        · obtain ⟨b, p1, p2⟩ := i2.mpr q
          exact ⟨b, by rw [hcon, p1]; simp, p2⟩
theorem crs_hs {A : Ab} (c b : Int) : hs (crs A 36 c 0) b = con A 36 c b := by
  rw [crs_con, hs_zero, Bool.false_or]
theorem lower_36 {A : Ab} (g : WFg A) {c : Int} (h0 : 0 ≤ c) (h1 : c < nn A) : lower A c < 36 := by
  have hn := nn_bd g
  obtain ⟨n, rfl⟩ : ∃ n : Nat, c = n := ⟨c.toNat, by omega⟩
  unfold lower
  have h : ct (nn A).toNat (fun d => decide (ht A (d : Int) < ht A (n : Int))) < sm (nn A).toNat (fun _ => 1) := by
    unfold ct
    refine sm_lt (k := n) (fun i _ => ?_) (by omega) ?_
    · split <;> omega
    · simp
  have h2 : sm (nn A).toNat (fun _ => 1) ≤ (nn A).toNat * 1 := sm_bd (fun _ _ => Int.le_refl 1)
  omega
/-- counts -/
theorem ct_apart (n : Nat) (p q : Nat → Bool) (h : ∀ i, i < n → p i = true → q i = false) : ct n p + ct n q ≤ n := by
  induction n with
  | zero => simp [ct, sm]
  | succ n ih =>
    rw [ct_succ, ct_succ]
    have := ih (fun i hi => h i (by omega))
    by_cases z : p n = true
    · rw [if_pos z, h n (by omega) z]; simp; omega
    · rw [if_neg z]; split <;> omega
theorem wet_sea {A : Ab} (hW : WF A) (hs' : SEA A) : wta A + ct (nn A).toNat (fun c => decide (bas A c = -1)) ≤ nn A := by
  have hn := nn_bd hW.1
  have := ct_apart (nn A).toNat (fun c => isw A (c : Int)) (fun c => decide (bas A (c : Int) = -1)) (fun i hi z => by
    have l := (isw_iff.mp z).1
    have := hs' i (by omega) (by omega)
    exact decide_eq_false (fun y => l (this.mpr y)))
  unfold wta
  omega
theorem lakes_le {A : Ab} (hW : WF A) : lown A 36 ≤ bnn A := by
  rw [lown_thn hW.1 hW.2.1]
  exact (thn_le hW).2.1
theorem dps_wet {A : Ab} (hW : WF A) : ∀ i : Nat, i ≤ (nn A).toNat → ((dps A i).1 = -1 ∧ ∀ j : Nat, j < i → isw A j = false) ∨ (0 ≤ (dps A i).1 ∧ (dps A i).1 < nn A ∧ isw A (dps A i).1 = true) := by
  have hn := nn_bd hW.1
  intro i
  induction i with
  | zero => intro _; exact Or.inl ⟨rfl, fun j hj => by omega⟩
  | succ i ih =>
    intro hi
    have h4 := (dps_bd (RM_gm A) hW i (by omega)).2.2.2
    simp only [dps]
    by_cases q : isw A i = true
    · obtain ⟨_, hV, hN, hD⟩ := isw_num (RM_gm A) hW (show (0 : Int) ≤ i by omega) (show (i : Int) < nn A by omega) q
      rw [if_pos q]
      by_cases z : dN A i * (dps A i).2.2 ≤ (dps A i).2.1 * dD A i
      · rw [if_pos z]
        rcases ih (by omega) with ⟨y1, y2⟩ | y
        · rw [h4 y1] at z
          simp at z
          omega
        · exact Or.inr y
      · rw [if_neg z]
        exact Or.inr ⟨by show (0 : Int) ≤ i; omega, by show (i : Int) < nn A; omega, q⟩
    · rw [if_neg q]
      rcases ih (by omega) with ⟨y1, y2⟩ | y
      · refine Or.inl ⟨y1, fun j hj => ?_⟩
        by_cases e : j = i
        · rw [e]; simpa using q
        · exact y2 j (by omega)
      · exact Or.inr y
theorem ct_pos {n : Nat} {p : Nat → Bool} {i : Nat} (hi : i < n) (h : p i = true) : 0 < ct n p := by
  unfold ct
  have : (fun j => if p j = true then (1 : Int) else 0) i ≤ sm n (fun j => if p j = true then (1 : Int) else 0) := sm_mem (fun j _ => by split <;> omega) hi
  simp only [h, if_true] at this
  omega
theorem deep_iff {A : Ab} (hW : WF A) : (dps A (nn A).toNat).1 < 0 ↔ wta A = 0 := by
  have hn := nn_bd hW.1
  rcases dps_wet hW (nn A).toNat (Nat.le_refl _) with ⟨y1, y2⟩ | ⟨y1, y2, y3⟩
  · constructor
    · intro _
      exact ct_zero (fun j hj => y2 j hj)
    · intro _; omega
  · constructor
    · intro z; omega
    · intro z
      unfold wta at z
      have := ct_pos (p := fun c => isw A (c : Int)) (n := (nn A).toNat) (i := (dps A (nn A).toNat).1.toNat) (by omega) (by rw [Int.toNat_of_nonneg y1]; exact y3)
      omega
