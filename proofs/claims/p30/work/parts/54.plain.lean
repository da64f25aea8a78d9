/-! 54.plain: plains, as both sides find them -/
def stp1 (A : Ab) (d e : Int) : Prop := ∃ s, 0 ≤ s ∧ s < 4 ∧ nb A d s = e ∧ e ≠ -1 ∧ ht A e = ht A d ∧ thr A d e = ht A d
def Rn (A : Ab) (c : Int) : Nat → Int → Prop
  | 0, d => d = c
  | k + 1, d => ∃ e, Rn A c k e ∧ stp1 A e d
def Pl (A : Ab) (c d : Int) : Prop := ∃ k, Rn A c k d
def mks (p : Nat → Bool) : Nat → Int64
  | 0 => 0
  | n + 1 => if p n = true then mks p n ||| sbit (n : Int) else mks p n
theorem mks_hs (p : Nat → Bool) (n : Nat) (hn : n ≤ 64) (c : Int) : hs (mks p n) c = true ↔ 0 ≤ c ∧ c < n ∧ p c.toNat = true := by
  induction n with
  | zero => simp only [mks]; rw [hs_zero]; constructor
            · intro h; cases h
            · rintro ⟨a, b, _⟩; omega
  | succ n ih =>
    have ih' := ih (by omega)
    simp only [mks]
    by_cases q : p n = true
    · rw [if_pos q, hs_or, Bool.or_eq_true, ih', hs_bit (by omega) (by omega)]
      constructor
      · rintro (⟨a, b, d⟩ | e)
        · exact ⟨a, by omega, d⟩
        · have : c = (n : Int) := by simpa using e
          subst this
          exact ⟨by omega, by omega, by simpa using q⟩
      · rintro ⟨a, b, d⟩
        by_cases e : c = (n : Int)
        · right; simp [e]
        · left; exact ⟨a, by omega, d⟩
    · rw [if_neg q, ih']
      constructor
      · rintro ⟨a, b, d⟩; exact ⟨a, by omega, d⟩
      · rintro ⟨a, b, d⟩
        by_cases e : c = (n : Int)
        · subst e; simp at d; exact absurd d q
        · exact ⟨a, by omega, d⟩
noncomputable def pl (A : Ab) (c : Int) : Int64 := mks (fun d => @decide (Pl A c d) (Classical.propDecidable _)) 64
theorem stp1_rg {A : Ab} (g : WFg A) {d e : Int} (h0 : 0 ≤ d) (h1 : d < nn A) (h : stp1 A d e) : 0 ≤ e ∧ e < nn A ∧ ht A e = ht A d := by
  obtain ⟨s, s0, s1, rfl, q1, q2, q3⟩ := h
  have := nb_rg (s := s) g h0 h1
  omega
theorem stp1_sy {A : Ab} (g : WFg A) {d e : Int} (h0 : 0 ≤ d) (h1 : d < nn A) (h : stp1 A d e) : stp1 A e d := by
  obtain ⟨s, s0, s1, rfl, q1, q2, q3⟩ := h
  exact ⟨3 - s, by omega, by omega, nb_sy g h0 h1 ⟨s0, s1⟩ q1, by omega, q2.symm, by rw [thr_sy, q3, q2]⟩
theorem Rn_rg {A : Ab} (g : WFg A) {c : Int} (h0 : 0 ≤ c) (h1 : c < nn A) (k : Nat) : ∀ d, Rn A c k d → 0 ≤ d ∧ d < nn A ∧ ht A d = ht A c := by
  induction k with
  | zero => intro d hd; obtain rfl : d = c := hd
            exact ⟨h0, h1, rfl⟩
  | succ k ih =>
    rintro d ⟨e, he, hs⟩
    have := ih e he
    have := stp1_rg g this.1 this.2.1 hs
    omega
theorem Pl_rg {A : Ab} (g : WFg A) {c d : Int} (h0 : 0 ≤ c) (h1 : c < nn A) (h : Pl A c d) : 0 ≤ d ∧ d < nn A ∧ ht A d = ht A c := by
  obtain ⟨k, hk⟩ := h
  exact Rn_rg g h0 h1 k d hk
theorem Pl_refl (A : Ab) (c : Int) : Pl A c c := ⟨0, rfl⟩
theorem Pl_step {A : Ab} {c d e : Int} (h : Pl A c d) (s : stp1 A d e) : Pl A c e := by
  obtain ⟨k, hk⟩ := h
  exact ⟨k + 1, d, hk, s⟩
theorem Pl_trans {A : Ab} {c d e : Int} (h : Pl A c d) (h' : Pl A d e) : Pl A c e := by
  obtain ⟨k, hk⟩ := h'
  have : ∀ k e, Rn A d k e → Pl A c e := by
    intro k
    induction k with
    | zero => intro e he; obtain rfl : e = d := he
              exact h
    | succ k ih => rintro e ⟨f, hf, hs⟩; exact Pl_step (ih f hf) hs
  exact this k e hk
theorem Pl_sy {A : Ab} (g : WFg A) {c d : Int} (h0 : 0 ≤ c) (h1 : c < nn A) (h : Pl A c d) : Pl A d c := by
  obtain ⟨k, hk⟩ := h
  have : ∀ k d, Rn A c k d → Pl A d c := by
    intro k
    induction k with
    | zero => intro e he; obtain rfl : e = c := he
              exact Pl_refl A e
    | succ k ih =>
      rintro e ⟨f, hf, hs⟩
      have hr := Rn_rg g h0 h1 k f hf
      exact Pl_trans (Pl_step (Pl_refl A e) (stp1_sy g hr.1 hr.2.1 hs)) (ih f hf)
  exact this k d hk
theorem pl_hs {A : Ab} (g : WFg A) {c : Int} (h0 : 0 ≤ c) (h1 : c < nn A) (d : Int) : hs (pl A c) d = true ↔ Pl A c d := by
  unfold pl
  rw [mks_hs _ 64 (by omega)]
  have hn := nn_bd g
  constructor
  · rintro ⟨a, b, q⟩
    rw [Int.toNat_of_nonneg a] at q
    exact @of_decide_eq_true _ (Classical.propDecidable _) q
  · intro h
    have := Pl_rg g h0 h1 h
    refine ⟨this.1, by omega, ?_⟩
    rw [Int.toNat_of_nonneg this.1]
    exact @decide_eq_true _ (Classical.propDecidable _) h
theorem pl_self {A : Ab} (g : WFg A) {c : Int} (h0 : 0 ≤ c) (h1 : c < nn A) : hs (pl A c) c = true := (pl_hs g h0 h1 c).mpr (Pl_refl A c)
theorem pl_ne {A : Ab} (g : WFg A) {c : Int} (h0 : 0 ≤ c) (h1 : c < nn A) : pl A c ≠ 0 := ne_zero (pl_self g h0 h1)
theorem pl_in {A : Ab} (g : WFg A) {c d : Int} (h0 : 0 ≤ c) (h1 : c < nn A) (h : hs (pl A c) d = true) : 0 ≤ d ∧ d < nn A ∧ ht A d = ht A c := Pl_rg g h0 h1 ((pl_hs g h0 h1 d).mp h)
theorem pl_eq {A : Ab} (g : WFg A) {c d : Int} (h0 : 0 ≤ c) (h1 : c < nn A) (h : hs (pl A c) d = true) : pl A d = pl A c := by
  have hp := (pl_hs g h0 h1 d).mp h
  have hr := Pl_rg g h0 h1 hp
  apply hs_ext
  intro e _ _
  rw [Bool.eq_iff_iff, pl_hs g hr.1 hr.2.1, pl_hs g h0 h1]
  exact ⟨fun q => Pl_trans hp q, fun q => Pl_trans (Pl_sy g h0 h1 hp) q⟩
/-- a closed set of cells of the plain, with its start, is the plain -/
theorem pl_closed {A : Ab} (g : WFg A) {c : Int} (h0 : 0 ≤ c) (h1 : c < nn A) {m : Int64} (q1 : hs m c = true) (q2 : ∀ d, hs m d = true → Pl A c d) (q3 : ∀ d e, hs m d = true → stp1 A d e → hs m e = true) : m = pl A c := by
  apply hs_ext
  intro e _ _
  rw [Bool.eq_iff_iff, pl_hs g h0 h1]
  refine ⟨q2 e, ?_⟩
  rintro ⟨k, hk⟩
  have : ∀ k d, Rn A c k d → hs m d = true := by
    intro k
    induction k with
    | zero => intro d hd; obtain rfl : d = c := hd
              exact q1
    | succ k ih => rintro d ⟨f, hf, hs'⟩; exact q3 f d (ih f hf) hs'
  exact this k e hk
theorem sm_lt {n : Nat} {f g : Nat → Int} (h : ∀ i, i < n → f i ≤ g i) {k : Nat} (hk : k < n) (h' : f k < g k) : sm n f < sm n g := by
  induction n with
  | zero => omega
  | succ n ih =>
    simp only [sm]
    have h1 := h n (by omega)
    by_cases e : k = n
    · subst e
      have := sm_le (n := k) (f := f) (g := g) (fun i hi => h i (by omega))
      omega
    · have := ih (fun i hi => h i (by omega)) (by omega)
      omega
theorem pc_lt {m m' : Int64} (h : ∀ c, hs m c = true → hs m' c = true) {d : Int} (h1 : hs m' d = true) (h2 : hs m d = false) : pc m < pc m' := by
  have hd := hs_lt h1
  refine sm_lt (k := d.toNat) ?_ (by omega) ?_
  · intro i _
    by_cases q : hs m (i : Int) = true
    · simp [q, h _ q]
    · simp [q]; split <;> omega
  · dsimp only
    simp only [Int.toNat_of_nonneg hd.1, h1, h2]; simp
theorem pc_add {m : Int64} {d : Int} (h0 : 0 ≤ d) (h1 : d < 64) (h : hs m d = false) : pc (m ||| sbit d) = pc m + 1 := by
  unfold pc
  simp only [ct]
  rw [sm_set (n := 64) (f := fun i => if hs (m ||| sbit d) (i : Int) = true then 1 else 0) (g := fun i => if hs m (i : Int) = true then 1 else 0) (k := d.toNat) (by omega)]
  · rw [Int.toNat_of_nonneg h0, hs_or, hs_bit h0 h1, h]; simp
  · intro i _ hne
    rw [hs_or, hs_bit h0 h1]
    have : ¬ (i : Int) = d := by omega
    simp [this]
theorem pc_rem {m : Int64} {d : Int} (h0 : 0 ≤ d) (h1 : d < 64) (h : hs m d = true) : pc (m &&& (sbit d ^^^ (-1 : Int64))) = pc m - 1 := by
  unfold pc
  simp only [ct]
  rw [sm_set (n := 64) (f := fun i => if hs (m &&& (sbit d ^^^ (-1 : Int64))) (i : Int) = true then 1 else 0) (g := fun i => if hs m (i : Int) = true then 1 else 0) (k := d.toNat) (by omega)]
  · rw [Int.toNat_of_nonneg h0, hs_and, hs_not _ h0 h1, hs_bit h0 h1, h]; simp
  · intro i hi hne
    rw [hs_and, hs_not _ (by omega) (by omega), hs_bit h0 h1]
    have : ¬ (i : Int) = d := by omega
    simp [this]
theorem pc_le36 {A : Ab} (g : WFg A) {m : Int64} (h : ∀ c, hs m c = true → 0 ≤ c ∧ c < nn A) : pc m ≤ 36 := by
  have hn := nn_bd g
  have : pc m = ct 36 (fun i => hs m i) := by
    refine sm_ext (by omega) (fun i h1 h2 => ?_)
    cases q : hs m (i : Int) with
    | false => simp [q]
    | true => have := h i q; omega
  rw [this]
  exact (ct_bd 36 _).2
/-- the other side's plain -/
def PQ (A : Ab) (c : Int) (m0 : Int64) (m : Int64) (more : Int32) (done : Int → Int → Prop) : Prop :=
  (∀ d, hs m0 d = true → hs m d = true) ∧ (∀ d, hs m d = true → Pl A c d) ∧ ((more = 0 ∧ m = m0 ∧ ∀ a s, done a s → 0 ≤ s → s < 4 → hs m0 a = true → ∀ e, nb A a s = e → e ≠ -1 → ht A e = ht A a → thr A a e = ht A a → hs m0 e = true) ∨ (more = 1 ∧ ∃ d, hs m d = true ∧ hs m0 d = false))
theorem e_plain {M : Mem} {A : Ab} (h : RM M A) (g : WFg A) {c : Int} (h0 : 0 ≤ c) (h1 : c < nn A) : MD_plain (ni c) M = some (pl A c) := by
  have hn := nn_bd g
  have sweep1 : ∀ (m0 : Int64) (a : Nat), (a : Int) < nn A → ∀ m more, PQ A c m0 m more (fun a' _ => a' < (a : Int)) → ∃ m' more', lpR (fun s => MD_plain_L30 (ni c) (ni (a : Int)) s.1 s.2.1 s.2.2 M) FUEL (m, more, (0 : Int32)) = some (m', more') ∧ PQ A c m0 m' more' (fun a' _ => a' < ((a + 1 : Nat) : Int)) := by
    intro m0 a ha m more hP
    have key : ∃ r, lpR (fun s => MD_plain_L30 (ni c) (ni (a : Int)) s.1 s.2.1 s.2.2 M) FUEL (m, more, (0 : Int32)) = some r ∧ PQ A c m0 r.1 r.2 (fun a' _ => a' < ((a + 1 : Nat) : Int)) := by
      refine lpR_wf (fun s => ∃ i : Nat, i ≤ 4 ∧ s.2.2 = ni (i : Int) ∧ PQ A c m0 s.1 s.2.1 (fun a' s' => a' < (a : Int) ∨ (a' = (a : Int) ∧ s' < (i : Int)))) (fun s => 4 - s.2.2.toInt.toNat) _ ?_ FUEL _ ⟨0, by omega, rfl, ?_⟩ ?_
      · rintro ⟨m1, more1, s3⟩ ⟨i, hi, rfl, hQ⟩
        dsimp only at hQ ⊢
        by_cases e4 : i = 4
        · right
          subst e4
          refine ⟨(m1, more1), ?_, ?_⟩
          · unfold MD_plain_L30
            rw [if_pos (by decide)]
          · refine ⟨hQ.1, hQ.2.1, ?_⟩
            rcases hQ.2.2 with ⟨q1, q2, q3⟩ | q
            · left
              refine ⟨q1, q2, fun a' s' hd s0 s1 => q3 a' s' ?_ s0 s1⟩
              omega
            · right; exact q
        · cases hma : hs m1 (a : Int) with
          | false =>
            right
            refine ⟨(m1, more1), ?_, ?_⟩
            · unfold MD_plain_L30
              simp (disch := omega) only [show (4 : Int32) = ni 4 from rfl, ni_le, MD_has_eq, bI_z, hma]
              rw [if_neg (by omega), if_pos (by simp)]
            · refine ⟨hQ.1, hQ.2.1, ?_⟩
              rcases hQ.2.2 with ⟨q1, q2, q3⟩ | q
              · left
                refine ⟨q1, q2, fun a' s' hd s0 s1 hm => ?_⟩
                by_cases e : a' = (a : Int)
                · subst e
                  rw [← q2, hma] at hm; cases hm
                · exact q3 a' s' (by omega) s0 s1 hm
              · right; exact q
          | true =>
            left
            have hPa := hQ.2.1 _ hma
            have hha := Pl_rg g h0 h1 hPa
            have hr := nb_rg (s := (i : Int)) g (show 0 ≤ (a : Int) by omega) ha
            have hmeas : ∀ x y, (4 - ((x, y, ni ((i + 1 : Nat) : Int)) : Int64 × Int32 × Int32).2.2.toInt.toNat) < 4 - ((m1, more1, ni (i : Int)) : Int64 × Int32 × Int32).2.2.toInt.toNat := by
              intro x y
              dsimp only
              rw [ni_toInt (by omega) (by omega), ni_toInt (by omega) (by omega)]
              omega
            -- nothing new at this side
            have stay : (hs m1 (nb A a i) = true ∨ ¬ (nb A a i ≠ -1 ∧ ht A (nb A a i) = ht A a ∧ thr A a (nb A a i) = ht A a)) → PQ A c m0 m1 more1 (fun a' s' => a' < (a : Int) ∨ (a' = (a : Int) ∧ s' < ((i + 1 : Nat) : Int))) := by
              intro hst
              refine ⟨hQ.1, hQ.2.1, ?_⟩
              rcases hQ.2.2 with ⟨q1, q2, q3⟩ | q
              · left
                refine ⟨q1, q2, fun a' s' hd s0 s1 hm e he n1 n2 n3 => ?_⟩
                by_cases z : a' < (a : Int) ∨ (a' = (a : Int) ∧ s' < (i : Int))
                · exact q3 a' s' z s0 s1 hm e he n1 n2 n3
                · have z1 : a' = (a : Int) := by omega
                  have z2 : s' = (i : Int) := by omega
                  subst z1 z2 he
                  rcases hst with w | w
                  · rw [← q2]; exact w
                  · exact absurd ⟨n1, n2, n3⟩ w
              · right; exact q
            unfold MD_plain_L30
            simp (disch := omega) only [show (4 : Int32) = ni 4 from rfl, ni_le, MD_has_eq, bI_z, hma, ni_s]
            rw [if_neg (by omega), if_neg (by simp), e_neighbor h g (by omega) ha (by omega) (by omega), b1_s]
            generalize hb : nb A (a : Int) (i : Int) = b at *
            by_cases e1 : b = -1
            · rw [if_pos (by rw [e1]; rfl)]
              exact ⟨_, rfl, ⟨i + 1, by omega, rfl, stay (Or.inr (fun z => z.1 e1))⟩, hmeas _ _⟩
            · have hb0 : 0 ≤ b ∧ b < nn A := by omega
              have hhb := ht_bd g hb0.1 (by omega)
              have hhc := ht_bd g h0 (by omega)
              rw [if_neg (by rw [show (-1 : Int32) = ni (-1) from rfl, ni_eq (by omega) (by omega) (by omega) (by omega)]; exact e1), e_height h hb0.1 (by omega), b1_s, e_height h h0 (by omega), b1_s]
              by_cases e2 : ht A b = ht A c
              · rw [if_neg (by rw [e2]; simp), e_runs h g (by omega) ha hb0.1 hb0.2, b1_s]
                simp (disch := omega) only [bI_z, MD_has_eq]
                by_cases e3 : thr A (a : Int) b = ht A (a : Int)
                · cases e5 : hs m1 b with
                  | true =>
                    refine ⟨(m1, more1, ni ((i + 1 : Nat) : Int)), ?_, ⟨i + 1, by omega, rfl, stay (Or.inl e5)⟩, hmeas _ _⟩
                    simp [e3]
                  | false =>
                    refine ⟨(m1 ||| sbit b, (1 : Int32), ni ((i + 1 : Nat) : Int)), ?_, ⟨i + 1, by omega, rfl, ?_⟩, hmeas _ _⟩
                    · simp [e3]; rfl
                    · dsimp only
                      refine ⟨fun d hd => by rw [hs_or, hQ.1 d hd]; rfl, fun d hd => ?_, Or.inr ⟨rfl, b, ?_, ?_⟩⟩
                      · rw [hs_or, Bool.or_eq_true, hs_bit hb0.1 (by omega)] at hd
                        rcases hd with hd | hd
                        · exact hQ.2.1 d hd
                        · have : d = b := by simpa using hd
                          subst this
                          exact Pl_step hPa ⟨i, by omega, by omega, hb, e1, by omega, e3⟩
                      · rw [hs_or, hs_bit hb0.1 (by omega)]; simp
                      · cases z : hs m0 b with
                        | false => rfl
                        | true => rw [hQ.1 b z] at e5; cases e5
                · refine ⟨(m1, more1, ni ((i + 1 : Nat) : Int)), ?_, ⟨i + 1, by omega, rfl, stay (Or.inr (fun z => e3 z.2.2))⟩, hmeas _ _⟩
                  simp [e3]
              · rw [if_pos (by rw [ni_eq (by omega) (by omega) (by omega) (by omega)]; exact e2)]
                exact ⟨_, rfl, ⟨i + 1, by omega, rfl, stay (Or.inr (fun z => e2 (by omega)))⟩, hmeas _ _⟩
      · refine ⟨hP.1, hP.2.1, ?_⟩
        rcases hP.2.2 with ⟨q1, q2, q3⟩ | q
        · left; exact ⟨q1, q2, fun a' s' hd s0 s1 => q3 a' s' (by omega) s0 s1⟩
        · right; exact q
      · have := FUEL_big; omega
    obtain ⟨r, k1, k2⟩ := key
    exact ⟨r.1, r.2, k1, k2⟩
  have sweep : ∀ m0 : Int64, (∀ d, hs m0 d = true → Pl A c d) → ∃ m' more', lpR (fun s => MD_plain_L18 (ni c) s.1 s.2.1 s.2.2 M) FUEL (m0, (0 : Int32), (0 : Int32)) = some (m', more') ∧ PQ A c m0 m' more' (fun a' _ => a' < nn A) := by
    intro m0 hm0
    have key : ∃ r, lpR (fun s => MD_plain_L18 (ni c) s.1 s.2.1 s.2.2 M) FUEL (m0, (0 : Int32), (0 : Int32)) = some r ∧ PQ A c m0 r.1 r.2 (fun a' _ => a' < nn A) := by
      refine lpR_wf (fun s => ∃ a : Nat, (a : Int) ≤ nn A ∧ s.2.2 = ni (a : Int) ∧ PQ A c m0 s.1 s.2.1 (fun a' _ => a' < (a : Int))) (fun s => 36 - s.2.2.toInt.toNat) _ ?_ FUEL _ ⟨0, by omega, rfl, fun d hd => hd, hm0, Or.inl ⟨rfl, rfl, ?_⟩⟩ ?_
      · rintro ⟨m1, more1, s3⟩ ⟨a, ha, rfl, hQ⟩
        dsimp only at hQ ⊢
        unfold MD_plain_L18
        rw [e_many h]
        simp (disch := omega) only [ni_le]
        by_cases e : (a : Int) = nn A
        · right
          rw [if_pos (by omega)]
          refine ⟨_, rfl, ?_⟩
          rw [← e]; exact hQ
        · left
          obtain ⟨m', more', k1, k2⟩ := sweep1 m0 a (by omega) m1 more1 hQ
          rw [if_neg (by omega), k1, b1_s, ni_s]
          refine ⟨_, rfl, ⟨a + 1, by omega, rfl, k2⟩, ?_⟩
          dsimp only
          rw [ni_toInt (by omega) (by omega), ni_toInt (by omega) (by omega)]
          omega
      · intro a s hd
        intro s0 s1 hm e he n1 n2 n3
        have := Pl_rg g h0 h1 (hm0 _ hm)
        exfalso
        simp at hd
        omega
      · have := FUEL_big; omega
    obtain ⟨r, k1, k2⟩ := key
    exact ⟨r.1, r.2, k1, k2⟩
  have key : ∃ r, lpR (fun s => MD_plain_L7 (ni c) s.1 s.2 M) FUEL ((lsh (1 : Int64) (ni c)), (1 : Int32)) = some r ∧ r = pl A c := by
    refine lpR_wf (fun s => hs s.1 c = true ∧ (∀ d, hs s.1 d = true → Pl A c d) ∧ (s.2 = 1 ∨ (s.2 = 0 ∧ s.1 = pl A c))) (fun s => (37 - pc s.1).toNat * 2 + (if s.2 = 1 then 1 else 0)) _ ?_ FUEL _ ⟨?_, ?_, Or.inl rfl⟩ ?_
    · rintro ⟨m0, more0⟩ ⟨q1, q2, q3⟩
      dsimp only at q1 q2 q3 ⊢
      rcases q3 with rfl | ⟨rfl, rfl⟩
      · left
        obtain ⟨m', more', k1, k2⟩ := sweep m0 q2
        unfold MD_plain_L7
        rw [if_neg (by decide), k1, b1_s]
        have hle : pc m0 ≤ 36 := pc_le36 g (fun d hd => by have := Pl_rg g h0 h1 (q2 d hd); omega)
        have hle' : pc m' ≤ 36 := pc_le36 g (fun d hd => by have := Pl_rg g h0 h1 (k2.2.1 d hd); omega)
        refine ⟨_, rfl, ⟨k2.1 c q1, k2.2.1, ?_⟩, ?_⟩
        · rcases k2.2.2 with ⟨w1, w2, w3⟩ | ⟨w1, w2⟩
          · right
            refine ⟨w1, ?_⟩
            dsimp only
            rw [w2]
            refine pl_closed g h0 h1 q1 q2 ?_
            rintro d e hd ⟨s, s0, s1, e1, e2, e3, e4⟩
            have := Pl_rg g h0 h1 (q2 d hd)
            exact w3 d s (by omega) s0 s1 hd e e1 e2 e3 e4
          · left; exact w1
        · dsimp only
          rcases k2.2.2 with ⟨w1, w2, w3⟩ | ⟨w1, d, w2, w3⟩
          · rw [w1, w2]; simp
          · have := pc_lt k2.1 w2 w3
            rw [w1]; simp; omega
      · right
        unfold MD_plain_L7
        rw [if_pos rfl]
        exact ⟨_, rfl, rfl⟩
    · dsimp only
      have := hs_bit h0 (by omega) c
      unfold sbit at this
      rw [this]; simp
    · dsimp only
      intro d hd
      have := hs_bit h0 (show c < 64 by omega) d
      unfold sbit at this
      rw [this] at hd
      have : d = c := by simpa using hd
      subst this
      exact Pl_refl A d
    · dsimp only
      have := FUEL_big
      have := (pc_bd (lsh (1 : Int64) (ni c))).1
      split <;> omega
  obtain ⟨r, k1, rfl⟩ := key
  unfold MD_plain
  rw [k1, b1_s]
