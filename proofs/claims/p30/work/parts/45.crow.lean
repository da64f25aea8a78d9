/-! 45.crow: rows of numbers and sets; what a world holds -/
theorem fAtI_in {o n : Nat} {M : Mem} {c : Int} (hn : nC (o + 1) = n) (h0 : 0 ≤ c) (h1 : c < n) (h2 : c < 2147483648) : fAtI o (ni c) M = gI M (o + 1) c.toNat := by
  unfold fAtI
  rw [ni_inb (by omega) h2, hn, if_pos (decide_eq_true (by omega)), ni_nat h0 h2]
theorem fAtL_in {o n : Nat} {M : Mem} {c : Int} (hn : nC (o + 1) = n) (h0 : 0 ≤ c) (h1 : c < n) (h2 : c < 2147483648) : fAtL o (ni c) M = gL M (o + 1) c.toNat := by
  unfold fAtL
  rw [ni_inb (by omega) h2, hn, if_pos (decide_eq_true (by omega)), ni_nat h0 h2]
theorem fAtI_out {o n : Nat} {M : Mem} {c : Int} (hn : nC (o + 1) = n) (h0 : c < 0 ∨ n ≤ c) (h1 : -2147483648 ≤ c) (h2 : c < 2147483648) : fAtI o (ni c) M = ni (-1) := by
  unfold fAtI
  rw [ni_inb h1 h2, hn, if_neg (by simp; omega)]
  rfl
theorem fAtL_out {o n : Nat} {M : Mem} {c : Int} (hn : nC (o + 1) = n) (h0 : c < 0 ∨ n ≤ c) (h1 : -2147483648 ≤ c) (h2 : c < 2147483648) : fAtL o (ni c) M = 0 := by
  unfold fAtL
  rw [ni_inb h1 h2, hn, if_neg (by simp; omega)]
theorem fAtI_put {o o' n : Nat} {M : Mem} {c d : Int} {v : Int32} (hn : nC (o' + 1) = n) (h1 : -2147483648 ≤ c) (h2 : c < 2147483648) (h3 : 0 ≤ d) (h4 : d < n) (h5 : d < 2147483648) : fAtI o (ni c) (fPutI o' (ni d) v M) = if o = o' ∧ c = d then v else fAtI o (ni c) M := by
  unfold fAtI fPutI
  rw [ni_inb h1 h2, ni_inb (by omega) h5, hn, if_pos (decide_eq_true (by omega : 0 ≤ d ∧ d < (n : Int)))]
  by_cases e : 0 ≤ c ∧ c < (nC (o + 1) : Int)
  · rw [if_pos (decide_eq_true e), ni_nat e.1 h2, ni_nat h3 h5, if_pos (decide_eq_true e)]
    unfold gI sI
    by_cases q : o = o' ∧ c = d
    · obtain ⟨rfl, rfl⟩ := q; simp
    · rw [if_neg q]
      dsimp only
      rw [if_neg]
      rintro ⟨a, b⟩
      exact q ⟨by omega, by omega⟩
  · have de : ¬ (decide (0 ≤ c ∧ c < (nC (o + 1) : Int)) = true) := by simpa using e
    simp only [if_neg de]
    rw [if_neg]
    rintro ⟨a, b⟩
    subst a b
    rw [hn] at e
    exact e ⟨h3, h4⟩
theorem fAtL_put {o o' n : Nat} {M : Mem} {c d : Int} {v : Int64} (hn : nC (o' + 1) = n) (h1 : -2147483648 ≤ c) (h2 : c < 2147483648) (h3 : 0 ≤ d) (h4 : d < n) (h5 : d < 2147483648) : fAtL o (ni c) (fPutL o' (ni d) v M) = if o = o' ∧ c = d then v else fAtL o (ni c) M := by
  unfold fAtL fPutL
  rw [ni_inb h1 h2, ni_inb (by omega) h5, hn, if_pos (decide_eq_true (by omega : 0 ≤ d ∧ d < (n : Int)))]
  by_cases e : 0 ≤ c ∧ c < (nC (o + 1) : Int)
  · rw [if_pos (decide_eq_true e), ni_nat e.1 h2, ni_nat h3 h5, if_pos (decide_eq_true e)]
    unfold gL sL
    by_cases q : o = o' ∧ c = d
    · obtain ⟨rfl, rfl⟩ := q; simp
    · rw [if_neg q]
      dsimp only
      rw [if_neg]
      rintro ⟨a, b⟩
      exact q ⟨by omega, by omega⟩
  · have de : ¬ (decide (0 ≤ c ∧ c < (nC (o + 1) : Int)) = true) := by simpa using e
    simp only [if_neg de]
    rw [if_neg]
    rintro ⟨a, b⟩
    subst a b
    rw [hn] at e
    exact e ⟨h3, h4⟩
theorem put_out {o n : Nat} {M : Mem} {d : Int} {v : Int32} (hn : nC (o + 1) = n) (h0 : d < 0 ∨ n ≤ d) (h1 : -2147483648 ≤ d) (h2 : d < 2147483648) : fPutI o (ni d) v M = M := by
  unfold fPutI
  rw [ni_inb h1 h2, hn, if_neg (by simp; omega)]
theorem putL_out {o n : Nat} {M : Mem} {d : Int} {v : Int64} (hn : nC (o + 1) = n) (h0 : d < 0 ∨ n ≤ d) (h1 : -2147483648 ≤ d) (h2 : d < 2147483648) : fPutL o (ni d) v M = M := by
  unfold fPutL
  rw [ni_inb h1 h2, hn, if_neg (by simp; omega)]
/-- cells other than those of P are the same -/
def Fr (P : Nat → Prop) (M M' : Mem) : Prop := ∀ p, ¬ P p → (∀ k, M'.1 p k = M.1 p k) ∧ ∀ k, M'.2 p k = M.2 p k
theorem Fr.rfl' {P : Nat → Prop} {M : Mem} : Fr P M M := fun _ _ => ⟨fun _ => rfl, fun _ => rfl⟩
theorem Fr.trans {P : Nat → Prop} {M M' M'' : Mem} (h : Fr P M M') (h' : Fr P M' M'') : Fr P M M'' := fun p hp => ⟨fun k => ((h' p hp).1 k).trans ((h p hp).1 k), fun k => ((h' p hp).2 k).trans ((h p hp).2 k)⟩
theorem Fr.mono {P Q : Nat → Prop} {M M' : Mem} (h : Fr P M M') (e : ∀ p, P p → Q p) : Fr Q M M' := fun p hp => h p (fun q => hp (e p q))
theorem Fr.gI {P : Nat → Prop} {M M' : Mem} (h : Fr P M M') {p k : Nat} (hp : ¬ P p) : gI M' p k = gI M p k := (h p hp).1 k
theorem Fr.gL {P : Nat → Prop} {M M' : Mem} (h : Fr P M M') {p k : Nat} (hp : ¬ P p) : gL M' p k = gL M p k := (h p hp).2 k
theorem Fr.at {P : Nat → Prop} {M M' : Mem} (h : Fr P M M') {o : Nat} (hp : ¬ P (o + 1)) (i : Int32) : fAtI o i M' = fAtI o i M := by
  unfold fAtI; rw [h.gI hp]
theorem Fr.atL {P : Nat → Prop} {M M' : Mem} (h : Fr P M M') {o : Nat} (hp : ¬ P (o + 1)) (i : Int32) : fAtL o i M' = fAtL o i M := by
  unfold fAtL; rw [h.gL hp]
theorem Fr.put {o : Nat} {i v : Int32} {M : Mem} {P : Nat → Prop} (hp : P (o + 1)) : Fr P M (fPutI o i v M) := by
  intro p hq
  have : p ≠ o + 1 := fun e => hq (e ▸ hp)
  unfold fPutI
  split
  · exact ⟨fun k => by simp [sI, this], fun k => rfl⟩
  · exact ⟨fun _ => rfl, fun _ => rfl⟩
theorem Fr.putL {o : Nat} {i : Int32} {v : Int64} {M : Mem} {P : Nat → Prop} (hp : P (o + 1)) : Fr P M (fPutL o i v M) := by
  intro p hq
  have : p ≠ o + 1 := fun e => hq (e ▸ hp)
  unfold fPutL
  split
  · exact ⟨fun k => rfl, fun k => by simp [sL, this]⟩
  · exact ⟨fun _ => rfl, fun _ => rfl⟩
theorem Fr.sI {o k : Nat} {v : Int32} {M : Mem} {P : Nat → Prop} (hp : P o) : Fr P M (sI M o k v) := by
  intro p hq
  have : p ≠ o := fun e => hq (e ▸ hp)
  exact ⟨fun k => by simp [_root_.Jvm.Pilot.CLakeLevelsLaw_law_r3285_cc1abe.sI, this], fun k => rfl⟩
theorem Fr.sL {o k : Nat} {v : Int64} {M : Mem} {P : Nat → Prop} (hp : P o) : Fr P M (sL M o k v) := by
  intro p hq
  have : p ≠ o := fun e => hq (e ▸ hp)
  exact ⟨fun k => rfl, fun k => by simp [_root_.Jvm.Pilot.CLakeLevelsLaw_law_r3285_cc1abe.sL, this]⟩
theorem atL_putI (o o' : Nat) (i j v : Int32) (M : Mem) : fAtL o i (fPutI o' j v M) = fAtL o i M := by
  unfold fAtL fPutI
  by_cases e : inb j (nC (o' + 1)) = true
  · rw [if_pos e]; rfl
  · rw [if_neg e]
theorem atI_putL (o o' : Nat) (i j : Int32) (v : Int64) (M : Mem) : fAtI o i (fPutL o' j v M) = fAtI o i M := by
  unfold fAtI fPutL
  by_cases e : inb j (nC (o' + 1)) = true
  · rw [if_pos e]; rfl
  · rw [if_neg e]
/-- the sizes of the rows -/
def SzG (g : Nat) : Prop := nC (g + 1 + 1) = 36 ∧ nC (g + 3 + 1) = 144 ∧ nC (g + 5 + 1) = 144 ∧ nC (g + 7 + 1) = 144 ∧ nC (g + 9 + 1) = 36
def SzY (y : Nat) : Prop := nC (y + 1 + 1) = 36 ∧ nC (y + 3 + 1) = 36 ∧ nC (y + 5 + 1) = 36
def SzL (l : Nat) : Prop := nC (l + 1 + 1) = 71 ∧ nC (l + 3 + 1) = 71 ∧ nC (l + 5 + 1) = 71 ∧ nC (l + 7 + 1) = 71 ∧ nC (l + 9 + 1) = 71 ∧ nC (l + 11 + 1) = 71 ∧ nC (l + 13 + 1) = 71 ∧ nC (l + 15 + 1) = 71 ∧ nC (l + 17 + 1) = 36 ∧ nC (l + 19 + 1) = 71 ∧ nC (l + 21 + 1) = 71
def IsW (w : Nat) : Prop := w = 1 ∨ w = 47 ∨ w = 97 ∨ w = 143 ∨ w = 189 ∨ w = 235
theorem sz_w {w : Nat} (h : IsW w) : SzG (w + 1) ∧ SzY (w + 12) ∧ SzL (w + 19) ∧ nC (w + 42 + 1) = 36 ∧ nC (w + 44 + 1) = 36 := by
  unfold SzG SzY SzL
  rcases h with rfl | rfl | rfl | rfl | rfl | rfl <;> decide +kernel
/-- ground, and what measure() finds -/
def ths (A : Ab) (c s : Int) : Int := if nb A c s = -1 then 100 else thr A c (nb A c s)
def RG (g : Nat) (M : Mem) (A : Ab) : Prop :=
  (gI M g 0 = ni (wd A) ∧ gI M g 1 = ni (hg A) ∧ gI M g 2 = ni (nn A) ∧ gL M g 3 = drn A) ∧
  (∀ c, 0 ≤ c → c < 36 → fAtI (g + 1) (ni c) M = ni (ht A c)) ∧
  (∀ c s, 0 ≤ c → c < nn A → 0 ≤ s → s < 4 → fAtI (g + 3) (ni (4 * c + s)) M = ni (nb A c s)) ∧
  (∀ c s, 0 ≤ c → c < nn A → 0 ≤ s → s < 4 → nb A c s ≠ -1 → fAtI (g + 5) (ni (4 * c + s)) M = ni (gt A c (nb A c s)))
def kl (A : Ab) (c d : Int) : Prop := ht A c < ht A d ∨ (ht A c = ht A d ∧ c < d)
def SO (A : Ab) (m : Int) (σ : Int → Int) : Prop := (∀ i, 0 ≤ i → i < m → 0 ≤ σ i ∧ σ i < m) ∧ (∀ i j, 0 ≤ i → i < j → j < m → kl A (σ i) (σ j)) ∧ (∀ c, 0 ≤ c → c < m → ∃ i, 0 ≤ i ∧ i < m ∧ σ i = c)
def RT (g : Nat) (M : Mem) (A : Ab) : Prop :=
  (∀ c s, 0 ≤ c → c < nn A → 0 ≤ s → s < 4 → fAtI (g + 7) (ni (4 * c + s)) M = ni (ths A c s)) ∧
  ∃ σ, SO A (nn A) σ ∧ ∀ i, 0 ≤ i → i < nn A → fAtI (g + 9) (ni i) M = ni (σ i)
theorem ths_bd {A : Ab} (h : WFg A) {c s : Int} (h0 : 0 ≤ c) (h1 : c < nn A) : 0 ≤ ths A c s ∧ ths A c s ≤ 100 := by
  have := nb_rg (s := s) h h0 h1
  unfold ths
  split
  · omega
  · have := thr_bd h h0 h1 (b := nb A c s) (by omega) (by omega); omega
theorem RG_sd {g : Nat} {M : Mem} {A : Ab} (h : RG g M A) {j : Int} (h0 : 0 ≤ j) (h1 : j < 4 * nn A) : fAtI (g + 3) (ni j) M = ni (nb A (j / 4) (j % 4)) := by
  have := h.2.2.1 (j / 4) (j % 4) (by omega) (by omega) (by omega) (by omega)
  rwa [show 4 * (j / 4) + j % 4 = j by omega] at this
theorem RT_sd {g : Nat} {M : Mem} {A : Ab} (h : RT g M A) {j : Int} (h0 : 0 ≤ j) (h1 : j < 4 * nn A) : fAtI (g + 7) (ni j) M = ni (ths A (j / 4) (j % 4)) := by
  have := h.1 (j / 4) (j % 4) (by omega) (by omega) (by omega) (by omega)
  rwa [show 4 * (j / 4) + j % 4 = j by omega] at this
theorem RG_fr {g : Nat} {M M' : Mem} {A : Ab} {P : Nat → Prop} (h : RG g M A) (f : Fr P M M') (h0 : ¬ P g) (h1 : ¬ P (g + 1 + 1)) (h3 : ¬ P (g + 3 + 1)) (h5 : ¬ P (g + 5 + 1)) : RG g M' A := by
  unfold RG at *
  simp only [f.gI h0, f.gL h0, f.at h1, f.at h3, f.at h5]
  exact h
theorem RT_fr {g : Nat} {M M' : Mem} {A : Ab} {P : Nat → Prop} (h : RT g M A) (f : Fr P M M') (h7 : ¬ P (g + 7 + 1)) (h9 : ¬ P (g + 9 + 1)) : RT g M' A := by
  unfold RT at *
  simp only [f.at h7, f.at h9]
  exact h
theorem JM_max_ni {x y : Int} (h1 : -2147483648 ≤ x) (h2 : x < 2147483648) (h3 : -2147483648 ≤ y) (h4 : y < 2147483648) : JM_max (ni x) (ni y) = ni (if x < y then y else x) := by
  unfold JM_max
  simp only [ni_lt h1 h2 h3 h4]
  split <;> rfl
theorem JM_min_ni {x y : Int} (h1 : -2147483648 ≤ x) (h2 : x < 2147483648) (h3 : -2147483648 ≤ y) (h4 : y < 2147483648) : JM_min (ni x) (ni y) = ni (if y < x then y else x) := by
  unfold JM_min
  simp only [ni_lt h3 h4 h1 h2]
  split <;> rfl
