/-! 50.level: how high the water of a lake stands -/
def nd (A : Ab) (m : Int64) (x : Int) : Int := sm (nn A).toNat (fun c => room A m x c)
def bl (A : Ab) (m : Int64) (v : Int) : Int := ct (nn A).toNat (fun c => hs m c && decide (ht A c ≤ v))
def hv (A : Ab) (m : Int64) (v : Int) : Int := sm (nn A).toNat (fun c => if hs m c = true ∧ ht A c ≤ v then ht A c else 0)
def mr (A : Ab) (m : Int64) (v : Int) : Int := ct (nn A).toNat (fun c => hs m c && decide (v < ht A c))
def wt (A : Ab) (k c : Int) : Bool := hs (msk A k) c && decide (nd A (msk A k) (ht A c) < vol A k)
def isw (A : Ab) (c : Int) : Bool := !decide (lk A c = -1) && wt A (lk A c) c
theorem nd_mono {A : Ab} {m : Int64} {x y : Int} (h : x ≤ y) : nd A m x ≤ nd A m y := by
  apply sm_le
  intro i _
  unfold room
  by_cases q : hs m (i : Int) = true
  · simp only [q, true_and]
    split <;> split <;> omega
  · simp [q]
theorem nd_nonneg (A : Ab) (m : Int64) (x : Int) : 0 ≤ nd A m x := by
  apply sm_nonneg
  intro i _
  unfold room
  split <;> omega
theorem nd_bd {A : Ab} (g : WFg A) (m : Int64) {x : Int} (hx : x ≤ 100) : nd A m x ≤ 3600 := by
  have := nn_bd g
  have h := cap_sum_bd g m hx (n := (nn A).toNat) (by omega)
  exact h.2
theorem nd_next (A : Ab) (m : Int64) (v : Int) : nd A m (v + 1) = bl A m v * (v + 1) - hv A m v := by
  simp only [nd, bl, hv, ct]
  generalize (nn A).toNat = n
  induction n with
  | zero => simp [sm]
  | succ n ih =>
    simp only [sm]
    rw [ih, Int.add_mul]
    unfold room
    by_cases h : hs m (n : Int) = true
    · by_cases q : ht A (n : Int) ≤ v
      · simp [h, q, show ht A (n : Int) < v + 1 by omega]; omega
      · simp [h, q, show ¬ ht A (n : Int) < v + 1 by omega]
    · simp [h]
theorem nd_at (A : Ab) (m : Int64) (v : Int) : nd A m v = bl A m v * v - hv A m v := by
  simp only [nd, bl, hv, ct]
  generalize (nn A).toNat = n
  induction n with
  | zero => simp [sm]
  | succ n ih =>
    simp only [sm]
    rw [ih, Int.add_mul]
    unfold room
    by_cases h : hs m (n : Int) = true
    · by_cases q : ht A (n : Int) ≤ v
      · by_cases r : ht A (n : Int) < v
        · simp [h, q, r]; omega
        · simp [h, q, r]; omega
      · simp [h, q, show ¬ ht A (n : Int) < v by omega]
    · simp [h]
theorem bl_bd {A : Ab} (g : WFg A) (m : Int64) (v : Int) : 0 ≤ bl A m v ∧ bl A m v ≤ 36 := by
  have := nn_bd g
  simp only [bl, ct]
  refine ⟨sm_nonneg (fun i _ => by split <;> omega), ?_⟩
  have h := sm_bd (n := (nn A).toNat) (f := fun c => if (hs m (c : Int) && decide (ht A c ≤ v)) = true then 1 else 0) (b := 1) (fun i _ => by split <;> omega)
  omega
theorem bl_mono {A : Ab} {m : Int64} {u v : Int} (h : u ≤ v) : bl A m u ≤ bl A m v := by
  apply sm_le
  intro i _
  by_cases h' : hs m (i : Int) = true
  · by_cases q : ht A (i : Int) ≤ u
    · simp [h', q, show ht A (i : Int) ≤ v by omega]
    · simp [h', q]; split <;> omega
  · simp [h']
theorem hv_bd {A : Ab} (g : WFg A) (m : Int64) (v : Int) : 0 ≤ hv A m v ∧ hv A m v ≤ 3600 := by
  have := nn_bd g
  unfold hv
  refine ⟨sm_nonneg (fun i hi => by have := ht_bd g (show 0 ≤ (i : Int) by omega) (by omega); split <;> omega), ?_⟩
  have h := sm_bd (n := (nn A).toNat) (f := fun c => if hs m (c : Int) = true ∧ ht A c ≤ v then ht A c else 0) (b := 100) (fun i hi => by have := ht_bd g (show 0 ≤ (i : Int) by omega) (by omega); split <;> omega)
  omega
theorem bl_pos {A : Ab} (g : WFg A) {m : Int64} {c : Int} (h0 : 0 ≤ c) (h1 : c < nn A) (h : hs m c = true) : 0 < bl A m (ht A c) := by
  have := sm_mem (n := (nn A).toNat) (f := fun c' => if (hs m (c' : Int) && decide (ht A c' ≤ ht A c)) = true then 1 else 0) (fun i _ => by split <;> omega) (k := c.toNat) (by omega)
  rw [Int.toNat_of_nonneg h0, h] at this
  simp at this
  simp only [bl, ct]
  simp
  omega
theorem mr_zero {A : Ab} {m : Int64} {v : Int} (h : mr A m v = 0) {c : Int} (h0 : 0 ≤ c) (h1 : c < nn A) (hm : hs m c = true) : ht A c ≤ v := by
  have := sm_mem (n := (nn A).toNat) (f := fun c' => if (hs m (c' : Int) && decide (v < ht A c')) = true then 1 else 0) (fun i _ => by split <;> omega) (k := c.toNat) (by omega)
  rw [Int.toNat_of_nonneg h0, hm] at this
  simp only [mr, ct] at h
  rw [h] at this
  by_cases q : v < ht A c
  · simp [q] at this
  · omega
theorem mr_nonneg (A : Ab) (m : Int64) (v : Int) : 0 ≤ mr A m v := sm_nonneg (fun i _ => by split <;> omega)
/-- where the levels stop -/
def stp (A : Ab) (m : Int64) (V : Int) (v : Int) : Prop := 0 < bl A m v ∧ (mr A m v = 0 ∨ V ≤ nd A m (v + 1))
def LV (A : Ab) (m : Int64) (V a b : Int) : Prop := ∃ v, (0 ≤ v ∧ v ≤ 99) ∧ a = V + hv A m v ∧ b = bl A m v ∧ stp A m V v ∧ ∀ u, 0 ≤ u → u < v → ¬ stp A m V u
theorem LV_in {A : Ab} (g : WFg A) {m : Int64} {V v : Int} (hV : 0 < V) (h0 : 0 ≤ v) (h : ∀ u, 0 ≤ u → u < v → ¬ stp A m V u) : nd A m v < V := by
  by_cases e : v = 0
  · subst e
    have := nd_next A m (-1)
    have b1 : bl A m (-1) = 0 := by
      apply sm_zero
      intro i hi
      have := nn_bd g
      have := ht_bd g (show 0 ≤ (i : Int) by omega) (by omega)
      have q : ¬ ht A (i : Int) ≤ -1 := by omega
      simp [q]
    have b2 := hv_bd g m (-1)
    simp [b1] at this
    omega
  · have := h (v - 1) (by omega) (by omega)
    unfold stp at this
    rw [show v - 1 + 1 = v by omega] at this
    by_cases q : 0 < bl A m (v - 1)
    · by_cases r : V ≤ nd A m v
      · exact absurd ⟨q, Or.inr r⟩ this
      · omega
    · have e1 := nd_next A m (v - 1)
      have b1 : bl A m (v - 1) = 0 := by have := bl_bd g m (v - 1); omega
      have b2 := hv_bd g m (v - 1)
      rw [b1, show v - 1 + 1 = v by omega] at e1
      simp at e1
      omega
theorem LV_wet {A : Ab} (g : WFg A) {m : Int64} {V a b : Int} (hV : 0 ≤ V) (h : LV A m V a b) {c : Int} (h0 : 0 ≤ c) (h1 : c < nn A) (hm : hs m c = true) : (b * ht A c < a) = (nd A m (ht A c) < V) := by
  obtain ⟨v, ⟨v0, v1⟩, rfl, rfl, s1, s2⟩ := h
  have hn := nn_bd g
  have hc := ht_bd g h0 (by omega)
  have e1 := nd_next A m v
  have e0 := nd_at A m v
  apply propext
  by_cases q : ht A c ≤ v
  · by_cases hp : V = 0
    · subst hp
      have hnn := nd_nonneg A m (ht A c)
      have : ¬ nd A m (ht A c) < 0 := by omega
      refine ⟨fun hh => ?_, fun hh => absurd hh this⟩
      exfalso
      -- no water: the first level at which a cell lies
      have hv : v ≤ ht A c := by
        by_cases r : v ≤ ht A c
        · exact r
        · exact absurd ⟨bl_pos g h0 h1 hm, Or.inr (nd_nonneg A m _)⟩ (s2 (ht A c) (by omega) (by omega))
      have hvc : v = ht A c := by omega
      have := nd_nonneg A m v
      rw [← hvc] at hh
      omega
    · have hlt := LV_in g (by omega) v0 s2
      have hmono := nd_mono (A := A) (m := m) q
      refine ⟨fun _ => by omega, fun _ => ?_⟩
      have hb := bl_bd g m v
      have : bl A m v * ht A c ≤ bl A m v * v := Int.mul_le_mul_of_nonneg_left q hb.1
      omega
  · have hx : v + 1 ≤ ht A c := by omega
    have hmono := nd_mono (A := A) (m := m) hx
    have hb := bl_bd g m v
    have : bl A m v * (v + 1) ≤ bl A m v * ht A c := Int.mul_le_mul_of_nonneg_left hx hb.1
    rcases s1.2 with z | z
    · have := mr_zero z h0 h1 hm; omega
    · constructor <;> intro hh <;> omega
theorem LV_cells {A : Ab} (g : WFg A) {m : Int64} {V a b : Int} (hV : 0 < V) (h : LV A m V a b) : ∃ v, a = V + hv A m v ∧ b = bl A m v ∧ 0 < b ∧ ∀ c, 0 ≤ c → c < nn A → hs m c = true → ((nd A m (ht A c) < V) = (ht A c ≤ v)) := by
  obtain ⟨v, ⟨v0, v1⟩, rfl, rfl, s1, s2⟩ := h
  refine ⟨v, rfl, rfl, s1.1, fun c h0 h1 hm => ?_⟩
  have hlt := LV_in g hV v0 s2
  apply propext
  by_cases q : ht A c ≤ v
  · have hmono := nd_mono (A := A) (m := m) q
    exact ⟨fun _ => q, fun _ => by omega⟩
  · have hx : v + 1 ≤ ht A c := by omega
    have hmono := nd_mono (A := A) (m := m) hx
    refine ⟨fun hh => ?_, fun hh => absurd hh q⟩
    rcases s1.2 with z | z
    · exact mr_zero z h0 h1 hm
    · omega
theorem LV_dry {A : Ab} (g : WFg A) {m : Int64} {a b : Int} (h : LV A m 0 a b) : ∃ v, a = b * v ∧ 0 < b ∧ (0 ≤ v ∧ v ≤ 99) ∧ (∀ c, 0 ≤ c → c < nn A → hs m c = true → v ≤ ht A c) ∧ ∃ c, 0 ≤ c ∧ c < nn A ∧ hs m c = true ∧ ht A c = v := by
  obtain ⟨v, ⟨v0, v1⟩, rfl, rfl, s1, s2⟩ := h
  have low : ∀ c, 0 ≤ c → c < nn A → hs m c = true → v ≤ ht A c := by
    intro c h0 h1 hm
    by_cases r : v ≤ ht A c
    · exact r
    · have := nn_bd g
      have := ht_bd g h0 (by omega)
      exact absurd ⟨bl_pos g h0 h1 hm, Or.inr (nd_nonneg A m _)⟩ (s2 (ht A c) (by omega) (by omega))
  have e0 := nd_at A m v
  have z : nd A m v = 0 := by
    apply sm_zero
    intro i hi
    unfold room
    rw [if_neg]
    rintro ⟨a1, a2⟩
    have := low i (by omega) (by omega) a1
    omega
  refine ⟨v, by omega, s1.1, ⟨v0, v1⟩, low, ?_⟩
  have hp := s1.1
  by_cases hh : ∃ c, 0 ≤ c ∧ c < nn A ∧ hs m c = true ∧ ht A c = v
  · exact hh
  · exfalso
    have : bl A m v = 0 := by
      apply sm_zero
      intro i hi
      rw [if_neg]
      simp only [Bool.and_eq_true, decide_eq_true_eq]
      rintro ⟨a1, a2⟩
      have := low i (by omega) (by omega) a1
      exact hh ⟨i, by omega, by omega, a1, by omega⟩
    omega
