/-! 94.parse: the reading of a landscape -/
def nmx (T : Nat → Int) (n p : Int) : Int := nmv T n p (nmk T n p)
def nmp (T : Nat → Int) (n p : Int) : Int := p + nmk T n p
theorem nmx_bd (T : Nat → Int) (n p : Int) : 0 ≤ nmx T n p ∧ nmx T n p ≤ 99 := nmv_bd _ (Nat.le_refl _)
theorem nmp_bd {T : Nat → Int} {n p : Int} (hT : TTx T n) (h0 : 0 ≤ p) (h1 : p ≤ n) : p ≤ nmp T n p ∧ nmp T n p ≤ n := by
  have := nmk_in hT h0 h1 _ (Nat.le_refl _)
  unfold nmp
  omega
theorem nmp_pos {T : Nat → Int} {n p : Int} (h : nmo T n p) : p + 1 ≤ nmp T n p := by
  have := h.1
  unfold nmp
  omega
/-- a state of the reading: the place, the place of the first failure or -1, the landscape -/
def drS (T : Nat → Int) (n p : Int) (X : Ab) : Int × Int × Ab :=
  if nmo T n p then (if nmx T n p < nn X then (nmp T n p, -1, aL X 0 0 (drn X ||| sbit (nmx T n p))) else (p, p, X)) else (nmp T n p, nmp T n p, X)
def gtS (T : Nat → Int) (n p : Int) (X : Ab) : Int × Int × Ab :=
  if nmo T n p then
    (if nmx T n p < nn X then
      (if tch T n (nmp T n p) = 44 then
        (if nmo T n (nmp T n p + 1) then
          (if pair X (nmx T n p) (nmx T n (nmp T n p + 1)) then
            (if tch T n (nmp T n (nmp T n p + 1)) = 44 then
              (if nmo T n (nmp T n (nmp T n p + 1) + 1) then (nmp T n (nmp T n (nmp T n p + 1) + 1), -1, sgt X (nmx T n p) (nmx T n (nmp T n p + 1)) (nmx T n (nmp T n (nmp T n p + 1) + 1)))
              else (p, nmp T n (nmp T n (nmp T n p + 1) + 1), X))
            else (p, nmp T n (nmp T n p + 1), X))
          else (p, nmp T n p + 1, X))
        else (p, nmp T n (nmp T n p + 1), X))
      else (p, nmp T n p, X))
    else (p, p, X))
  else (p, nmp T n p, X)
def enS (T : Nat → Int) (n p : Int) (X : Ab) : Int × Int × Ab :=
  if tch T n p = 59 then (if tch T n (p + 1) = 100 then drS T n (p + 2) X else if tch T n (p + 1) = 103 then gtS T n (p + 2) X else (p, p + 1, X)) else (p, p, X)
def htS (T : Nat → Int) (n : Int) (i : Nat) (p : Int) (X : Ab) : Int × Int × Ab :=
  if ¬ i = 0 ∧ ¬ tch T n p = 44 then (p, p, X)
  else if nmo T n (if i = 0 then p else p + 1) then (nmp T n (if i = 0 then p else p + 1), -1, aI X 1 i (nmx T n (if i = 0 then p else p + 1)))
  else (p, nmp T n (if i = 0 then p else p + 1), X)
def hsS (T : Nat → Int) (n p : Int) (X : Ab) : Nat → Int × Int × Ab
  | 0 => (p, -1, X)
  | i + 1 => if (hsS T n p X i).2.1 = -1 then htS T n i (hsS T n p X i).1 (hsS T n p X i).2.2 else hsS T n p X i
def itS (T : Nat → Int) (n : Int) (s : Int × Int × Ab) : Nat → Int × Int × Ab
  | 0 => s
  | i + 1 => if (itS T n s i).2.1 = -1 ∧ (itS T n s i).1 < n then enS T n (itS T n s i).1 (itS T n s i).2.2 else itS T n s i
def LK0 (X : Ab) : Prop := prd X = 0 ∧ lst X = 0 ∧ gon X = 0
/-- what a state keeps -/
def SKx (n : Int) (s : Int × Int × Ab) : Prop := (-1 ≤ s.2.1 ∧ s.2.1 ≤ n) ∧ (s.2.1 = -1 → (0 ≤ s.1 ∧ s.1 ≤ n) ∧ WFg s.2.2 ∧ LK0 s.2.2)
theorem SK_no {n p f : Int} {X : Ab} (h0 : 0 ≤ f) (h1 : f ≤ n) : SKx n (p, f, X) := ⟨⟨by show -1 ≤ f; omega, h1⟩, fun z => absurd z (by show ¬ f = -1; omega)⟩
theorem drS_SK {T : Nat → Int} {n p : Int} {X : Ab} (hT : TTx T n) (h0 : 0 ≤ p) (h1 : p ≤ n) (w : WFg X) (l : LK0 X) : SKx n (drS T n p X) ∧ ((drS T n p X).2.1 = -1 → p ≤ (drS T n p X).1) := by
  have b := nmp_bd hT h0 h1
  unfold drS
  by_cases q1 : nmo T n p
  · rw [if_pos q1]
    by_cases q2 : nmx T n p < nn X
    · rw [if_pos q2]
      exact ⟨⟨⟨by show (-1 : Int) ≤ -1; omega, by show (-1 : Int) ≤ n; omega⟩, fun _ => ⟨⟨by show 0 ≤ nmp T n p; omega, b.2⟩, w, l⟩⟩, fun _ => b.1⟩
    · rw [if_neg q2]
      exact ⟨SK_no h0 h1, fun z => absurd z (by show ¬ p = -1; omega)⟩
  · rw [if_neg q1]
    exact ⟨SK_no (by omega) b.2, fun z => absurd z (by show ¬ nmp T n p = -1; omega)⟩
theorem tch_in {T : Nat → Int} {n p a : Int} (hT : TTx T n) (h0 : 0 ≤ p) (h : tch T n p = a) (ha : 0 ≤ a) : p + 1 ≤ n := by
  have := (tch_bd hT h0).2 (by omega)
  omega
theorem gtS_SK {T : Nat → Int} {n p : Int} {X : Ab} (hT : TTx T n) (h0 : 0 ≤ p) (h1 : p ≤ n) (w : WFg X) (l : LK0 X) : SKx n (gtS T n p X) ∧ ((gtS T n p X).2.1 = -1 → p ≤ (gtS T n p X).1) := by
  have no : ∀ f, 0 ≤ f → f ≤ n → SKx n (p, f, X) ∧ (((p, f, X) : Int × Int × Ab).2.1 = -1 → p ≤ ((p, f, X) : Int × Int × Ab).1) := fun f f0 f1 => ⟨SK_no f0 f1, fun z => absurd z (by show ¬ f = -1; omega)⟩
  have b := nmp_bd hT h0 h1
  unfold gtS
  by_cases q1 : nmo T n p
  · rw [if_pos q1]
    by_cases q2 : nmx T n p < nn X
    · rw [if_pos q2]
      by_cases q3 : tch T n (nmp T n p) = 44
      · have i3 := tch_in hT (by omega) q3 (by omega)
        have b2 := nmp_bd hT (p := nmp T n p + 1) (by omega) i3
        rw [if_pos q3]
        by_cases q4 : nmo T n (nmp T n p + 1)
        · rw [if_pos q4]
          by_cases q5 : pair X (nmx T n p) (nmx T n (nmp T n p + 1))
          · rw [if_pos q5]
            by_cases q6 : tch T n (nmp T n (nmp T n p + 1)) = 44
            · have i6 := tch_in hT (by omega) q6 (by omega)
              have b3 := nmp_bd hT (p := nmp T n (nmp T n p + 1) + 1) (by omega) i6
              have bv := nmx_bd T n (nmp T n (nmp T n p + 1) + 1)
              rw [if_pos q6]
              by_cases q7 : nmo T n (nmp T n (nmp T n p + 1) + 1)
              · rw [if_pos q7]
                refine ⟨⟨⟨by show (-1 : Int) ≤ -1; omega, by show (-1 : Int) ≤ n; omega⟩, fun _ => ⟨⟨by show 0 ≤ nmp T n _; omega, b3.2⟩, sgt_WFg w (by omega), ?_⟩⟩, fun _ => by show p ≤ nmp T n _; omega⟩
                have e := sgt_A (A := X) (a := nmx T n p) (b := nmx T n (nmp T n p + 1)) (v := nmx T n (nmp T n (nmp T n p + 1) + 1))
                unfold LK0
                refine ⟨?_, ?_, ?_⟩
                · show (sgt X _ _ _).2 0 4 = 0; rw [e.1]; exact l.1
                · show (sgt X _ _ _).2 0 2 = 0; rw [e.1]; exact l.2.1
                · show (sgt X _ _ _).2 0 3 = 0; rw [e.1]; exact l.2.2
              · rw [if_neg q7]; exact no _ (by omega) (by omega)
            · rw [if_neg q6]; exact no _ (by omega) (by omega)
          · rw [if_neg q5]; exact no _ (by omega) (by omega)
        · rw [if_neg q4]; exact no _ (by omega) (by omega)
      · rw [if_neg q3]; exact no _ (by omega) (by omega)
    · rw [if_neg q2]; exact no _ (by omega) (by omega)
  · rw [if_neg q1]; exact no _ (by omega) (by omega)
theorem enS_SK {T : Nat → Int} {n p : Int} {X : Ab} (hT : TTx T n) (h0 : 0 ≤ p) (h1 : p ≤ n) (w : WFg X) (l : LK0 X) : SKx n (enS T n p X) ∧ ((enS T n p X).2.1 = -1 → p + 1 ≤ (enS T n p X).1) := by
  have no : ∀ f, 0 ≤ f → f ≤ n → SKx n (p, f, X) ∧ (((p, f, X) : Int × Int × Ab).2.1 = -1 → p + 1 ≤ ((p, f, X) : Int × Int × Ab).1) := fun f f0 f1 => ⟨SK_no f0 f1, fun z => absurd z (by show ¬ f = -1; omega)⟩
  unfold enS
  by_cases q1 : tch T n p = 59
  · have i1 := tch_in hT h0 q1 (by omega)
    rw [if_pos q1]
    by_cases q2 : tch T n (p + 1) = 100
    · have i2 := tch_in hT (by omega) q2 (by omega)
      rw [if_pos q2]
      obtain ⟨k1, k2⟩ := drS_SK (p := p + 2) hT (by omega) (by omega) w l
      exact ⟨k1, fun z => by have := k2 z; omega⟩
    · rw [if_neg q2]
      by_cases q3 : tch T n (p + 1) = 103
      · have i3 := tch_in hT (by omega) q3 (by omega)
        rw [if_pos q3]
        obtain ⟨k1, k2⟩ := gtS_SK (p := p + 2) hT (by omega) (by omega) w l
        exact ⟨k1, fun z => by have := k2 z; omega⟩
      · rw [if_neg q3]; exact no _ (by omega) (by omega)
  · rw [if_neg q1]; exact no _ (by omega) (by omega)
theorem htS_SK {T : Nat → Int} {n p : Int} {X : Ab} {i : Nat} (hi : (i : Int) < nn X) (hT : TTx T n) (h0 : 0 ≤ p) (h1 : p ≤ n) (w : WFg X) (l : LK0 X) : SKx n (htS T n i p X) ∧ nn (htS T n i p X).2.2 = nn X := by
  have hn := nn_bd w
  unfold htS
  by_cases q1 : ¬ i = 0 ∧ ¬ tch T n p = 44
  · rw [if_pos q1]; exact ⟨SK_no h0 h1, rfl⟩
  · rw [if_neg q1]
    have hq : 0 ≤ (if i = 0 then p else p + 1) ∧ (if i = 0 then p else p + 1) ≤ n := by
      by_cases z : i = 0
      · rw [if_pos z]; exact ⟨h0, h1⟩
      · rw [if_neg z]
        have := tch_in (a := 44) hT h0 (by
          by_cases y : tch T n p = 44
          · exact y
          · exact absurd ⟨z, y⟩ q1) (by omega)
        omega
    have b := nmp_bd hT hq.1 hq.2
    have bv := nmx_bd T n (if i = 0 then p else p + 1)
    by_cases q2 : nmo T n (if i = 0 then p else p + 1)
    · rw [if_pos q2]
      refine ⟨⟨⟨by show (-1 : Int) ≤ -1; omega, by show (-1 : Int) ≤ n; omega⟩, fun _ => ⟨⟨by show 0 ≤ nmp T n _; omega, b.2⟩, ⟨w.1, w.2.1, fun c c0 c1 => ?_, w.2.2.2.1, w.2.2.2.2⟩, l⟩⟩, rfl⟩
      show 0 ≤ (if (1 : Nat) = 1 ∧ c = (i : Int) then _ else X.1 1 c) ∧ (if (1 : Nat) = 1 ∧ c = (i : Int) then _ else X.1 1 c) ≤ 99
      by_cases y : c = i
      · rw [if_pos ⟨rfl, y⟩]; omega
      · rw [if_neg (fun z => y z.2)]; exact w.2.2.1 c c0 c1
    · rw [if_neg q2]; exact ⟨SK_no (by omega) b.2, rfl⟩
theorem hsS_SK {T : Nat → Int} {n p : Int} {X : Ab} (hT : TTx T n) (h0 : 0 ≤ p) (h1 : p ≤ n) (w : WFg X) (l : LK0 X) (i : Nat) (hi : i ≤ (nn X).toNat) : SKx n (hsS T n p X i) ∧ nn (hsS T n p X i).2.2 = nn X := by
  induction i with
  | zero => exact ⟨⟨⟨by show (-1 : Int) ≤ -1; omega, by show (-1 : Int) ≤ n; omega⟩, fun _ => ⟨⟨h0, h1⟩, w, l⟩⟩, rfl⟩
  | succ i ih =>
    obtain ⟨k1, k2⟩ := ih (by omega)
    simp only [hsS]
    by_cases q : (hsS T n p X i).2.1 = -1
    · rw [if_pos q]
      obtain ⟨⟨j1, j2⟩, j3, j4⟩ := k1.2 q
      obtain ⟨m1, m2⟩ := htS_SK (i := i) (by rw [k2]; omega) hT j1 j2 j3 j4
      exact ⟨m1, m2.trans k2⟩
    · rw [if_neg q]; exact ⟨k1, k2⟩
theorem hsS_stop {T : Nat → Int} {n p : Int} {X : Ab} {i : Nat} (h : (hsS T n p X i).2.1 ≠ -1) (k : Nat) : hsS T n p X (i + k) = hsS T n p X i := by
  induction k with
  | zero => rfl
  | succ k ih =>
    show hsS T n p X ((i + k) + 1) = _
    simp only [hsS]
    rw [ih, if_neg h]
theorem itS_SK {T : Nat → Int} {n : Int} {s : Int × Int × Ab} (hT : TTx T n) (h : SKx n s) (i : Nat) : SKx n (itS T n s i) := by
  induction i with
  | zero => exact h
  | succ i ih =>
    simp only [itS]
    by_cases q : (itS T n s i).2.1 = -1 ∧ (itS T n s i).1 < n
    · rw [if_pos q]
      obtain ⟨⟨j1, j2⟩, j3, j4⟩ := ih.2 q.1
      exact (enS_SK hT j1 j2 j3 j4).1
    · rw [if_neg q]; exact ih
theorem itS_stop {T : Nat → Int} {n : Int} {s : Int × Int × Ab} {i : Nat} (h : ¬ ((itS T n s i).2.1 = -1 ∧ (itS T n s i).1 < n)) (k : Nat) : itS T n s (i + k) = itS T n s i := by
  induction k with
  | zero => rfl
  | succ k ih =>
    show itS T n s ((i + k) + 1) = _
    simp only [itS]
    rw [ih, if_neg h]
/-- the class's memory at a state -/
def CSx (T : Nat → Int) (n : Int) (s : Int × Int × Ab) (M : Mem) : Prop := ∃ q, (0 ≤ q ∧ q ≤ n) ∧ PCx T n q s.2.1 M ∧ (s.2.1 = -1 → q = s.1 ∧ RG 48 M s.2.2)
def F48 (M M' : Mem) : Prop := Fr (fun p => p = 94 ∨ (48 ≤ p ∧ p ≤ 58)) M M'
theorem F48_a {M M' : Mem} (h : Fr (fun p => p = 94) M M') : F48 M M' := h.mono (fun p hp => Or.inl hp)
/-- the model's -/
def MSx (T : Nat → Int) (n : Int) (s : Int × Int × Ab) (M : Mem) : Prop := (s.2.1 = -1 → PMx T n s.1 M ∧ RM M s.2.2) ∧ (s.2.1 ≠ -1 → PMx T n s.2.1 M)
theorem RG_94 {M M' : Mem} {X : Ab} (h : RG 48 M X) (F : Fr (fun p => p = 94) M M') : RG 48 M' X := RG_fr h F (by omega) (by omega) (by omega) (by omega)
