/-! 93.scan: the text, its signs and its numbers -/
def tch (T : Nat → Int) (n p : Int) : Int := if p < n then T p.toNat else -1
def TTx (T : Nat → Int) (n : Int) : Prop := (0 ≤ n ∧ n ≤ 150) ∧ ∀ i : Nat, (i : Int) < n → 0 ≤ T i ∧ T i ≤ 127
theorem tch_bd {T : Nat → Int} {n : Int} (h : TTx T n) {p : Int} (h0 : 0 ≤ p) : (-1 ≤ tch T n p ∧ tch T n p ≤ 127) ∧ (0 ≤ tch T n p → p < n) := by
  unfold tch
  by_cases q : p < n
  · have := h.2 p.toNat (by omega)
    rw [if_pos q]; exact ⟨⟨by omega, by omega⟩, fun _ => q⟩
  · rw [if_neg q]; exact ⟨⟨by omega, by omega⟩, fun z => absurd z (by omega)⟩
def PCx (T : Nat → Int) (n p f : Int) (M : Mem) : Prop := gI M 94 1 = ni n ∧ gI M 94 2 = ni p ∧ gI M 94 3 = ni f ∧ ∀ i : Nat, (i : Int) < n → fAtI 95 (ni (i : Int)) M = ni (T i)
def PMx (T : Nat → Int) (n p : Int) (M : Mem) : Prop := gI M 0 21 = ni n ∧ gI M 0 22 = ni p ∧ ∀ i : Nat, (i : Int) < n → gI M 12 i = ni (T i)
def FrN (M M' : Mem) : Prop := M'.2 = M.2 ∧ ∀ o q, ¬ (o = 0 ∧ (q = 22 ∨ q = 23)) → M'.1 o q = M.1 o q
theorem FrN.rfl' {M : Mem} : FrN M M := ⟨rfl, fun _ _ _ => rfl⟩
theorem FrN.trans {M M' M'' : Mem} (h : FrN M M') (k : FrN M' M'') : FrN M M'' := ⟨k.1.trans h.1, fun o q z => (k.2 o q z).trans (h.2 o q z)⟩
theorem FrN.put {M M' : Mem} (h : FrN M M') {q : Nat} (hq : q = 22 ∨ q = 23) (v : Int32) : FrN M (sI M' 0 q v) := by
  refine ⟨h.1, fun o j z => ?_⟩
  have := h.2 o j z
  rw [← this]
  have e : gI (sI M' 0 q v) o j = gI M' o j := sI_ne (by omega)
  exact e
theorem FrN.FX {M M' : Mem} (h : FrN M M') : FX M M' := ⟨h.2 0 4 (by omega), h.2 0 3 (by omega), h.2 0 21 (by omega), fun q => h.2 12 q (by omega), fun q => by unfold gL; rw [h.1], fun q => by unfold gL; rw [h.1]⟩
theorem FrN.RM {M M' : Mem} {A : Ab} (h : FrN M M') (r : RM M A) : RM M' A := RM_of r (fun k _ => by unfold gL; rw [h.1])
theorem PCx.fr {T : Nat → Int} {n p f : Int} {M M' : Mem} {P : Nat → Prop} (h : PCx T n p f M) (F : Fr P M M') (h1 : ¬ P 94) (h2 : ¬ P 96) : PCx T n p f M' :=
  ⟨by rw [F.gI h1]; exact h.1, by rw [F.gI h1]; exact h.2.1, by rw [F.gI h1]; exact h.2.2.1, fun i hi => by rw [F.at h2]; exact h.2.2.2 i hi⟩
theorem PCx.p {T : Nat → Int} {n p f : Int} {M : Mem} (h : PCx T n p f M) (q : Int) : PCx T n q f (sI M 94 2 (ni q)) := by
  have F : Fr (fun p => p = 94) M (sI M 94 2 (ni q)) := Fr.sI rfl
  exact ⟨by rw [sI_ne (by omega)]; exact h.1, sI_eq _ _ _ _, by rw [sI_ne (by omega)]; exact h.2.2.1, fun i hi => by rw [F.at (by omega)]; exact h.2.2.2 i hi⟩
theorem PCx.f {T : Nat → Int} {n p f : Int} {M : Mem} (h : PCx T n p f M) (g : Int) : PCx T n p g (sI M 94 3 (ni g)) := by
  have F : Fr (fun p => p = 94) M (sI M 94 3 (ni g)) := Fr.sI rfl
  exact ⟨by rw [sI_ne (by omega)]; exact h.1, by rw [sI_ne (by omega)]; exact h.2.1, sI_eq _ _ _ _, fun i hi => by rw [F.at (by omega)]; exact h.2.2.2 i hi⟩
theorem PMx.p {T : Nat → Int} {n p : Int} {M : Mem} (h : PMx T n p M) (q : Int) : PMx T n q (sI M 0 22 (ni q)) :=
  ⟨by rw [sI_ne (by omega)]; exact h.1, sI_eq _ _ _ _, fun i hi => by rw [sI_ne (by omega)]; exact h.2.2 i hi⟩
theorem PMx.v {T : Nat → Int} {n p : Int} {M : Mem} (h : PMx T n p M) (v : Int32) : PMx T n p (sI M 0 23 v) :=
  ⟨by rw [sI_ne (by omega)]; exact h.1, by rw [sI_ne (by omega)]; exact h.2.1, fun i hi => by rw [sI_ne (by omega)]; exact h.2.2 i hi⟩
theorem PMx.s1 {T : Nat → Int} {n p : Int} {M : Mem} (h : PMx T n p M) (o q : Nat) (x : Int64) : PMx T n p (sL M o q x) := h
theorem PMx.fr {T : Nat → Int} {n p : Int} {M M' : Mem} (h : PMx T n p M) (e : ∀ o q, gI M' o q = gI M o q) : PMx T n p M' :=
  ⟨by rw [e]; exact h.1, by rw [e]; exact h.2.1, fun i hi => by rw [e]; exact h.2.2 i hi⟩
theorem c_next {T : Nat → Int} {n p f : Int} {M : Mem} (h : PCx T n p f M) (hT : TTx T n) (h0 : 0 ≤ p) (h1 : p ≤ n) : LT_next M = ni (tch T n p) := by
  have hn := hT.1
  unfold LT_next tch
  rw [h.1, h.2.1]
  simp (disch := omega) only [ni_le]
  by_cases q : p < n
  · have := h.2.2.2 p.toNat (by omega)
    rw [Int.toNat_of_nonneg h0] at this
    rw [if_neg (by omega), if_pos q, this]
  · rw [if_pos (by omega), if_neg q]; rfl
theorem c_fail {T : Nat → Int} {n p f : Int} {M : Mem} (h : PCx T n p f M) (g : Int) (f0 : -1 ≤ f) (f1 : f ≤ 150) : ∃ M', LT_fail (ni g) M = some ((), M') ∧ PCx T n p (if f = -1 then g else f) M' ∧ Fr (fun q => q = 94) M M' := by
  refine ⟨_, rfl, ?_, Fr.sI rfl⟩
  have e : (if ¬ gI M 94 3 = (-1 : Int32) then gI M 94 3 else ni g) = ni (if f = -1 then g else f) := by
    rw [h.2.2.1, show (-1 : Int32) = ni (-1) from rfl]
    simp (disch := omega) only [ni_eq]
    by_cases q : f = -1
    · rw [if_neg (fun z => z q), if_pos q]
    · rw [if_pos q, if_neg q]
  rw [e]
  exact h.f _
theorem c_sign {T : Nat → Int} {n p f a : Int} {M : Mem} (h : PCx T n p f M) (hT : TTx T n) (h0 : 0 ≤ p) (h1 : p ≤ n) (f0 : -1 ≤ f) (f1 : f ≤ 150) (a0 : 0 ≤ a) (a1 : a ≤ 127) : ∃ M', LT_readSign (ni a) M = some ((), M') ∧ PCx T n (if f = -1 ∧ tch T n p = a then p + 1 else p) (if f = -1 then (if tch T n p = a then -1 else p) else f) M' ∧ Fr (fun q => q = 94) M M' := by
  have hb := tch_bd hT h0
  have hn := hT.1
  unfold LT_readSign
  rw [h.2.2.1, show (-1 : Int32) = ni (-1) from rfl]
  simp (disch := omega) only [ni_eq]
  rw [c_next h hT h0 h1]
  simp (disch := omega) only [ni_eq]
  rw [h.2.1]
  have jf : ∃ M', LT_readSign_J29 M = some ((), M') ∧ PCx T n p (if f = -1 then p else f) M' ∧ Fr (fun q => q = 94) M M' := by
    obtain ⟨M', e1, e2, e3⟩ := c_fail h p f0 f1
    refine ⟨M', ?_, e2, e3⟩
    unfold LT_readSign_J29
    rw [h.2.1, e1, b2_s]
  by_cases q : f = -1
  · rw [if_neg (fun z => z q), if_pos q]
    by_cases y : tch T n p = a
    · rw [if_neg (fun z => z y), if_pos ⟨q, y⟩, if_pos y, show (1 : Int32) = ni 1 from rfl, ni_add]
      rw [q] at h
      exact ⟨_, rfl, h.p _, Fr.sI rfl⟩
    · rw [if_pos y, if_neg (fun z => y z.2), if_neg y]
      obtain ⟨M', e1, e2, e3⟩ := jf
      rw [if_pos q] at e2
      exact ⟨M', e1, e2, e3⟩
  · rw [if_pos q, if_neg (fun z => q z.1), if_neg q]
    obtain ⟨M', e1, e2, e3⟩ := jf
    rw [if_neg q] at e2
    exact ⟨M', e1, e2, e3⟩
theorem e_char {T : Nat → Int} {n p : Int} {M : Mem} (h : PMx T n p M) (hT : TTx T n) (h0 : 0 ≤ p) (q : p < n) : gI M 12 (ni p).toNatClampNeg = ni (tch T n p) ∧ inb (ni p) 150 = true := by
  have hn := hT.1
  unfold tch
  rw [ni_nat h0 (by omega), h.2.2 p.toNat (by omega), if_pos q, ni_inb (by omega) (by omega)]
  exact ⟨rfl, decide_eq_true (by omega)⟩
theorem e_passes {T : Nat → Int} {n p a : Int} {M : Mem} (h : PMx T n p M) (hT : TTx T n) (h0 : 0 ≤ p) (h1 : p ≤ n) (a0 : 0 ≤ a) (a1 : a ≤ 127) : ∃ M', MD_passes (ni a) M = some (bI (tch T n p = a), M') ∧ PMx T n (if tch T n p = a then p + 1 else p) M' ∧ FrN M M' := by
  have hb := tch_bd hT h0
  have hn := hT.1
  have j : ∀ t : Prop, ∀ _ : Decidable t, ∃ M', MD_passes_J29 (bI t) M = some (bI t, M') ∧ PMx T n (if t then p + 1 else p) M' ∧ FrN M M' := by
    intro t dt
    unfold MD_passes_J29
    rw [bI_a, h.2.1]
    simp only [bI_z]
    by_cases y : t
    · rw [if_neg (fun z => z y), if_pos y, show (1 : Int32) = ni 1 from rfl, ni_add]
      exact ⟨_, rfl, h.p _, FrN.rfl'.put (Or.inl rfl) _⟩
    · rw [if_pos y, if_neg y, show (0 : Int32) = ni 0 from rfl, ni_add, Int.add_zero]
      exact ⟨_, rfl, h.p _, FrN.rfl'.put (Or.inl rfl) _⟩
  unfold MD_passes MD_passes_J28
  rw [h.1, h.2.1]
  simp (disch := omega) only [ni_le]
  by_cases q : p < n
  · obtain ⟨e1, e2⟩ := e_char h hT h0 q
    rw [if_neg (by omega), e1, e2, ck_t]
    simp (disch := omega) only [ni_eq]
    obtain ⟨M', k1, k2, k3⟩ := j (tch T n p = a) inferInstance
    refine ⟨M', ?_, k2, k3⟩
    rw [← k1, bI_n]
    congr 1
    exact bI_c (by rw [Classical.not_not])
  · have y : ¬ tch T n p = a := by
      unfold tch
      rw [if_neg q]; omega
    rw [if_pos (by omega)]
    obtain ⟨M', k1, k2, k3⟩ := j (tch T n p = a) inferInstance
    refine ⟨M', ?_, k2, k3⟩
    rw [← k1, bI_f y]
abbrev dgt (x : Int) : Prop := 48 ≤ x ∧ x ≤ 57
theorem c_dig {T : Nat → Int} {n p f : Int} {M : Mem} (h : PCx T n p f M) (hT : TTx T n) (h0 : 0 ≤ p) (h1 : p ≤ n) : LT_isAtDigit M = bI (dgt (tch T n p)) := by
  have hb := tch_bd hT h0
  unfold LT_isAtDigit
  rw [c_next h hT h0 h1, show (48 : Int32) = ni 48 from rfl, show (57 : Int32) = ni 57 from rfl]
  simp (disch := omega) only [ni_lt]
  by_cases q : dgt (tch T n p)
  · rw [if_neg (by omega), if_neg (by omega), bI_t q]
  · rw [bI_f q]
    by_cases y : tch T n p < 48
    · rw [if_pos y]
    · rw [if_neg y, if_pos (by omega)]
theorem e_dig {T : Nat → Int} {n p : Int} {M : Mem} (h : PMx T n p M) (hT : TTx T n) (h0 : 0 ≤ p) (h1 : p ≤ n) : MD_isFigure M = some (bI (dgt (tch T n p))) := by
  have hb := tch_bd hT h0
  have hn := hT.1
  unfold MD_isFigure
  rw [h.1, h.2.1]
  simp (disch := omega) only [ni_le]
  by_cases q : p < n
  · obtain ⟨e1, e2⟩ := e_char h hT h0 q
    rw [if_neg (by omega), e1, e2, ck_t, ni_64 (by omega) (by omega), show (48 : Int64) = nl 48 from rfl, show (57 : Int64) = nl 57 from rfl, e_in (by omega) (by omega) (by omega) (by omega) (by omega) (by omega)]
    simp only [bI_z]
    by_cases y : dgt (tch T n p)
    · rw [if_neg (fun z => z y), bI_t y]; rfl
    · rw [if_pos y, bI_f y]; rfl
  · have y : ¬ dgt (tch T n p) := by
      unfold tch
      rw [if_neg q]; omega
    rw [if_pos (by omega), bI_f y]
/-- how many digits are read at a place, and their number -/
def nmk (T : Nat → Int) (n p : Int) : Nat := if dgt (tch T n p) then (if dgt (tch T n (p + 1)) then 2 else 1) else 0
def nmv (T : Nat → Int) (n p : Int) : Nat → Int
  | 0 => 0
  | i + 1 => 10 * nmv T n p i + tch T n (p + i) - 48
abbrev nmo (T : Nat → Int) (n p : Int) : Prop := 0 < nmk T n p ∧ ¬ dgt (tch T n (p + nmk T n p))
theorem nmk_le (T : Nat → Int) (n p : Int) : nmk T n p ≤ 2 := by unfold nmk; split <;> (try split) <;> omega
theorem nmk_d (T : Nat → Int) (n p : Int) (i : Nat) (h : i < nmk T n p) : dgt (tch T n (p + i)) := by
  unfold nmk at h
  by_cases q : dgt (tch T n p)
  · rw [if_pos q] at h
    by_cases y : dgt (tch T n (p + 1))
    · rw [if_pos y] at h
      rcases (show i = 0 ∨ i = 1 by omega) with rfl | rfl
      · rw [show p + ((0 : Nat) : Int) = p by omega]; exact q
      · exact y
    · rw [if_neg y] at h
      obtain rfl : i = 0 := by omega
      rw [show p + ((0 : Nat) : Int) = p by omega]; exact q
  · rw [if_neg q] at h
    omega
theorem nmk_e (T : Nat → Int) (n p : Int) : nmk T n p = 2 ∨ ¬ dgt (tch T n (p + nmk T n p)) := by
  unfold nmk
  by_cases q : dgt (tch T n p)
  · rw [if_pos q]
    by_cases y : dgt (tch T n (p + 1))
    · rw [if_pos y]; exact Or.inl rfl
    · rw [if_neg y]; exact Or.inr y
  · rw [if_neg q, show p + ((0 : Nat) : Int) = p by omega]; exact Or.inr q
theorem nmk_0 (T : Nat → Int) (n p : Int) : (0 < nmk T n p) ↔ dgt (tch T n p) := by
  unfold nmk
  by_cases q : dgt (tch T n p)
  · rw [if_pos q]
    refine ⟨fun _ => q, fun _ => ?_⟩
    split <;> omega
  · rw [if_neg q]; exact ⟨fun z => absurd z (by omega), fun z => absurd z q⟩
theorem nmk_in {T : Nat → Int} {n p : Int} (hT : TTx T n) (h0 : 0 ≤ p) (h1 : p ≤ n) (i : Nat) (h : i ≤ nmk T n p) : p + i ≤ n := by
  by_cases z : i = 0
  · omega
  · have hd := nmk_d T n p (i - 1) (by omega)
    have := (tch_bd hT (p := p + (i - 1 : Nat)) (by omega)).2 (by omega)
    omega
theorem nmv_bd {T : Nat → Int} {n p : Int} (i : Nat) (h : i ≤ nmk T n p) : 0 ≤ nmv T n p i ∧ nmv T n p i ≤ 99 := by
  have hk := nmk_le T n p
  rcases (show i = 0 ∨ i = 1 ∨ i = 2 by omega) with rfl | rfl | rfl
  · exact ⟨Int.le_refl _, by show (0 : Int) ≤ 99; omega⟩
  · have := nmk_d T n p 0 (by omega)
    simp only [nmv]; omega
  · have := nmk_d T n p 0 (by omega)
    have := nmk_d T n p 1 (by omega)
    simp only [nmv]; omega
theorem c_number {T : Nat → Int} {n p f : Int} {M : Mem} (h : PCx T n p f M) (hT : TTx T n) (h0 : 0 ≤ p) (h1 : p ≤ n) (f0 : -1 ≤ f) (f1 : f ≤ 150) : ∃ M', LT_readNumber M = some (ni (if f = -1 then nmv T n p (nmk T n p) else 0), M') ∧ PCx T n (if f = -1 then p + nmk T n p else p) (if f = -1 then (if nmo T n p then -1 else p + nmk T n p) else f) M' ∧ Fr (fun q => q = 94) M M' := by
  have hn := hT.1
  have hk := nmk_le T n p
  -- the loop, from a place where nothing has failed
  have lp : ∀ M1, PCx T n p (-1) M1 → ∃ r M', lpM (fun s M9 => LT_readNumber_L19 s.1 s.2 M9) FUEL ((0 : Int32), (0 : Int32)) M1 = some (r, M') ∧ (r = ni (nmv T n p (nmk T n p)) ∧ PCx T n (p + nmk T n p) (-1) M' ∧ Fr (fun q => q = 94) M1 M') := by
    intro M1 h9
    refine lpM_to (nmk T n p) (by omega) (fun i s M' => s = (ni (nmv T n p i), ni (i : Int)) ∧ PCx T n (p + i) (-1) M' ∧ Fr (fun q => q = 94) M1 M') _ ?_ ?_ ⟨rfl, by rw [show p + ((0 : Nat) : Int) = p by omega]; exact h9, Fr.rfl'⟩
    · rintro i hi s M2 ⟨rfl, p1, p2⟩
      have hd := nmk_d T n p i hi
      have hin := nmk_in hT h0 h1 i (by omega)
      have hv := nmv_bd (T := T) (n := n) (p := p) i (by omega)
      unfold LT_readNumber_L19
      dsimp only
      rw [c_dig p1 hT (by omega) hin, p1.2.2.1, p1.2.1, c_next p1 hT (by omega) hin, ni_s]
      simp (disch := omega) only [show (2 : Int32) = ni 2 from rfl, show (-1 : Int32) = ni (-1) from rfl, show (10 : Int32) = ni 10 from rfl, show (48 : Int32) = ni 48 from rfl, show (1 : Int32) = ni 1 from rfl, ni_le, ni_eq, bI_z, ni_mul, ni_add, ni_sub]
      rw [if_neg (by omega), if_neg (fun z => z rfl), if_neg (fun z => z hd)]
      refine ⟨_, _, rfl, rfl, ?_, p2.trans (Fr.sI rfl)⟩
      rw [show p + ((i + 1 : Nat) : Int) = p + i + 1 by omega]
      exact p1.p _
    · rintro s M2 ⟨rfl, p1, p2⟩
      have hin := nmk_in hT h0 h1 (nmk T n p) (by omega)
      refine ⟨_, M2, ?_, rfl, p1, p2⟩
      unfold LT_readNumber_L19
      dsimp only
      rw [c_dig p1 hT (by omega) hin, p1.2.2.1]
      simp (disch := omega) only [show (2 : Int32) = ni 2 from rfl, show (-1 : Int32) = ni (-1) from rfl, ni_le, ni_eq, bI_z]
      rcases nmk_e T n p with z | z
      · rw [if_pos (by omega)]
      · split
        · rfl
        · rfl
  have lf : ∀ M1 g, g ≠ -1 → -1 ≤ g → g ≤ 150 → PCx T n p g M1 → lpM (fun s M9 => LT_readNumber_L19 s.1 s.2 M9) FUEL ((0 : Int32), (0 : Int32)) M1 = some ((0 : Int32), M1) := by
    intro M1 g g0 g1 g2 h9
    have : ∃ r M', lpM (fun s M9 => LT_readNumber_L19 s.1 s.2 M9) FUEL ((0 : Int32), (0 : Int32)) M1 = some (r, M') ∧ (r = (0 : Int32) ∧ M' = M1) := by
      refine lpM_to 0 (by omega) (fun i s M' => s = ((0 : Int32), (0 : Int32)) ∧ M' = M1) _ (fun i hi => absurd hi (by omega)) ?_ ⟨rfl, rfl⟩
      rintro s M2 ⟨rfl, rfl⟩
      refine ⟨_, M2, ?_, rfl, rfl⟩
      unfold LT_readNumber_L19
      dsimp only
      rw [h9.2.2.1, show (-1 : Int32) = ni (-1) from rfl]
      simp (disch := omega) only [ni_eq]
      rw [if_neg (by decide), if_pos g0]
    obtain ⟨r, M', k1, rfl, rfl⟩ := this
    exact k1
  unfold LT_readNumber
  rw [c_dig h hT h0 h1]
  simp only [bI_n0]
  by_cases q : f = -1
  · rw [if_pos q, if_pos q, if_pos q]
    subst q
    by_cases d : dgt (tch T n p)
    · rw [if_pos d]
      obtain ⟨r, M1, k1, rfl, k2, k3⟩ := lp M h
      have hin := nmk_in hT h0 h1 (nmk T n p) (by omega)
      unfold LT_readNumber_J17
      rw [k1, b2_s, c_dig k2 hT (by omega) hin]
      simp only [bI_z]
      have hpos := (nmk_0 T n p).mpr d
      by_cases y : dgt (tch T n (p + nmk T n p))
      · rw [if_neg (fun z => z y), if_neg (fun z => z.2 y)]
        obtain ⟨M2, e1, e2, e3⟩ := c_fail k2 (p + nmk T n p) (by omega) (by omega)
        rw [if_pos rfl] at e2
        rw [k2.2.1, e1, b2_s]
        exact ⟨M2, rfl, e2, k3.trans e3⟩
      · rw [if_pos y, if_pos ⟨hpos, y⟩]
        exact ⟨M1, rfl, k2, k3⟩
    · have hz : nmk T n p = 0 := by
        have := (nmk_0 T n p)
        have : ¬ 0 < nmk T n p := fun z => d (this.mp z)
        omega
      obtain ⟨M2, e1, e2, e3⟩ := c_fail h p f0 f1
      rw [if_pos rfl] at e2
      rw [if_neg d, h.2.1, e1, b2_s]
      unfold LT_readNumber_J17
      rw [lf M2 p (by omega) (by omega) (by omega) e2, b2_s, c_dig e2 hT h0 h1]
      simp only [bI_z]
      rw [if_pos d, if_neg (fun z => by have := z.1; omega), hz, show p + ((0 : Nat) : Int) = p by omega]
      exact ⟨M2, rfl, e2, e3⟩
  · rw [if_neg q, if_neg q, if_neg q]
    have fin : ∀ M1, PCx T n p f M1 → Fr (fun q => q = 94) M M1 → ∃ M', LT_readNumber_J17 (0 : Int32) M1 = some (ni 0, M') ∧ PCx T n p f M' ∧ Fr (fun q => q = 94) M M' := by
      intro M1 h9 F9
      unfold LT_readNumber_J17
      rw [lf M1 f q f0 f1 h9, b2_s, c_dig h9 hT h0 h1]
      simp only [bI_z]
      by_cases d : dgt (tch T n p)
      · rw [if_neg (fun z => z d)]
        obtain ⟨M2, e1, e2, e3⟩ := c_fail h9 p f0 f1
        rw [if_neg q] at e2
        rw [h9.2.1, e1, b2_s]
        exact ⟨M2, rfl, e2, F9.trans e3⟩
      · rw [if_pos d]
        exact ⟨M1, rfl, h9, F9⟩
    by_cases d : dgt (tch T n p)
    · rw [if_pos d]
      exact fin M h Fr.rfl'
    · obtain ⟨M2, e1, e2, e3⟩ := c_fail h p f0 f1
      rw [if_neg q] at e2
      rw [if_neg d, h.2.1, e1, b2_s]
      exact fin M2 e2 e3
theorem e_number {T : Nat → Int} {n p : Int} {M : Mem} (h : PMx T n p M) (hT : TTx T n) (h0 : 0 ≤ p) (h1 : p ≤ n) : ∃ M', MD_readsNumber M = some (bI (nmo T n p), M') ∧ PMx T n (p + nmk T n p) M' ∧ gI M' 0 23 = ni (nmv T n p (nmk T n p)) ∧ FrN M M' := by
  have hn := hT.1
  have hk := nmk_le T n p
  have lp : ∃ r M', lpM (fun s M9 => MD_readsNumber_L10 (gI M 0 22) M9) FUEL () (sI M 0 23 (0 : Int32)) = some (r, M') ∧ (PMx T n (p + nmk T n p) M' ∧ gI M' 0 23 = ni (nmv T n p (nmk T n p)) ∧ FrN M M') := by
    refine lpM_to (nmk T n p) (by omega) (fun i s M' => PMx T n (p + i) M' ∧ gI M' 0 23 = ni (nmv T n p i) ∧ FrN M M') _ ?_ ?_ ⟨by rw [show p + ((0 : Nat) : Int) = p by omega]; exact h.v _, sI_eq _ _ _ _, FrN.rfl'.put (Or.inr rfl) _⟩
    · rintro i hi s M2 ⟨p1, p2, p3⟩
      have hd := nmk_d T n p i hi
      have hin := nmk_in hT h0 h1 i (by omega)
      have hlt := nmk_in hT h0 h1 (i + 1) (by omega)
      have hv := nmv_bd (T := T) (n := n) (p := p) i (by omega)
      obtain ⟨e1, e2⟩ := e_char p1 hT (p := p + i) (by omega) (by omega)
      unfold MD_readsNumber_L10

      rw [e_dig p1 hT (by omega) hin, b1_s, h.2.1, p1.2.1, p2, e1, e2, ck_t, sI_ne (by omega), p1.2.1]
      simp (disch := omega) only [show (2 : Int32) = ni 2 from rfl, show (10 : Int32) = ni 10 from rfl, show (48 : Int32) = ni 48 from rfl, show (1 : Int32) = ni 1 from rfl, ni_le, bI_z, ni_mul, ni_add, ni_sub]
      rw [if_neg (fun z => z hd), if_neg (by omega)]
      refine ⟨_, _, rfl, ?_, ?_, (p3.put (Or.inr rfl) _).put (Or.inl rfl) _⟩
      · rw [show p + ((i + 1 : Nat) : Int) = p + i + 1 by omega]
        exact (p1.v _).p _
      · rw [sI_ne (by omega), sI_eq]
        rfl
    · rintro s M2 ⟨p1, p2, p3⟩
      have hin := nmk_in hT h0 h1 (nmk T n p) (by omega)
      refine ⟨(), M2, ?_, p1, p2, p3⟩
      unfold MD_readsNumber_L10
      rw [e_dig p1 hT (by omega) hin, b1_s, h.2.1, p1.2.1]
      simp (disch := omega) only [show (2 : Int32) = ni 2 from rfl, ni_add, ni_le, bI_z]
      rcases nmk_e T n p with z | z
      · split
        · rfl
        · rw [if_pos (by omega)]
      · rw [if_pos z]
  obtain ⟨r, M1, k1, k2, k3, k4⟩ := lp
  have hin := nmk_in hT h0 h1 (nmk T n p) (by omega)
  refine ⟨M1, ?_, k2, k3, k4⟩
  unfold MD_readsNumber
  rw [k1, b2_s, k2.2.1, h.2.1]
  simp (disch := omega) only [ni_le]
  rw [e_dig k2 hT (by omega) hin, b1_s]
  simp only [bI_n0]
  by_cases y : 0 < nmk T n p
  · rw [if_neg (by omega)]
    refine congrArg some (Prod.ext ?_ rfl)
    show (if _ then (0 : Int32) else (1 : Int32)) &&& 1 = _
    rw [bI_n, bI_a]
    exact bI_c ⟨fun z => ⟨y, z⟩, fun z => z.2⟩
  · rw [if_pos (by omega), bI_f (fun z => y z.1)]
