/-! 46.pass: the pass of a set of cells, its capacity; on both sides -/
theorem ni_neg (x : Int) : -ni x = ni (-x) := (Int32.ofInt_neg x).symm
theorem nl_neg (x : Int) : -nl x = nl (-x) := (Int64.ofInt_neg x).symm
def th (A : Ab) (j : Int) : Int := ths A (j / 4) (j % 4)
def eg (A : Ab) (m : Int64) (j : Int) : Bool := hs m (j / 4) && !decide (nb A (j / 4) (j % 4) = -1) && !hs m (nb A (j / 4) (j % 4))
def psf (A : Ab) (m : Int64) : Nat → Int
  | 0 => -1
  | j + 1 => if eg A m j = true ∧ (psf A m j = -1 ∨ th A j < th A (psf A m j)) then (j : Int) else psf A m j
def ps (A : Ab) (m : Int64) : Int := psf A m (4 * nn A).toNat
def pth (A : Ab) (p : Int) : Int := if p = -1 then -1 else th A p
def psa (p : Int) : Int := if p = -1 then -1 else p / 4
def psb (A : Ab) (p : Int) : Int := if p = -1 then -1 else nb A (p / 4) (p % 4)
def room (A : Ab) (m : Int64) (t : Int) (c : Int) : Int := if hs m c = true ∧ ht A c < t then t - ht A c else 0
def cap (A : Ab) (m : Int64) : Int := if ps A m = -1 then -1 else sm (nn A).toNat (fun c => room A m (th A (ps A m)) c)
theorem psf_rg (A : Ab) (m : Int64) (n : Nat) : psf A m n = -1 ∨ (0 ≤ psf A m n ∧ psf A m n < n ∧ eg A m (psf A m n) = true) := by
  induction n with
  | zero => left; rfl
  | succ n ih =>
    simp only [psf]
    split
    · rename_i h
      right; exact ⟨by omega, by omega, h.1⟩
    · rcases ih with h | ⟨a, b, c⟩
      · left; exact h
      · right; exact ⟨a, by omega, c⟩
theorem psf_min (A : Ab) (m : Int64) (n : Nat) (j : Nat) (hj : j < n) (he : eg A m j = true) : psf A m n ≠ -1 ∧ th A (psf A m n) ≤ th A j := by
  induction n with
  | zero => omega
  | succ n ih =>
    simp only [psf]
    by_cases e : j = n
    · subst e
      split
      · exact ⟨by omega, by omega⟩
      · rename_i h
        refine ⟨fun q => h ⟨he, Or.inl q⟩, ?_⟩
        by_cases q : psf A m j = -1
        · exact absurd ⟨he, Or.inl q⟩ h
        · by_cases r : th A j < th A (psf A m j)
          · exact absurd ⟨he, Or.inr r⟩ h
          · omega
    · have := ih (by omega)
      split
      · rename_i h
        refine ⟨by omega, ?_⟩
        rcases h.2 with q | q
        · exact absurd q this.1
        · omega
      · exact this
theorem psf_skip (A : Ab) (m : Int64) (a : Nat) (h : hs m (a : Int) = false) (k : Nat) (hk : k ≤ 4) : psf A m (4 * a + k) = psf A m (4 * a) := by
  induction k with
  | zero => rfl
  | succ k ih =>
    rw [show 4 * a + (k + 1) = (4 * a + k) + 1 by omega]
    simp only [psf]
    rw [if_neg, ih (by omega)]
    rintro ⟨q, -⟩
    unfold eg at q
    rw [show ((4 * a + k : Nat) : Int) / 4 = (a : Int) by omega, h] at q
    simp at q
theorem eg_rg {A : Ab} {m : Int64} {p : Int} (h : eg A m p = true) : hs m (p / 4) = true ∧ nb A (p / 4) (p % 4) ≠ -1 ∧ hs m (nb A (p / 4) (p % 4)) = false := by
  unfold eg at h
  simp only [Bool.and_eq_true, Bool.not_eq_true', decide_eq_false_iff_not] at h
  exact ⟨h.1.1, h.1.2, h.2⟩
theorem ps_rg {A : Ab} (g : WFg A) (m : Int64) : ps A m = -1 ∨ (0 ≤ ps A m ∧ ps A m < 4 * nn A ∧ eg A m (ps A m) = true) := by
  have := nn_bd g
  rcases psf_rg A m (4 * nn A).toNat with h | ⟨h1, h2, h3⟩
  · left; exact h
  · right; unfold ps; exact ⟨h1, by omega, h3⟩
theorem th_bd {A : Ab} (g : WFg A) {p : Int} (h0 : 0 ≤ p) (h1 : p < 4 * nn A) : 0 ≤ th A p ∧ th A p ≤ 100 := ths_bd g (by omega) (by omega)
theorem th_eg {A : Ab} (g : WFg A) {m : Int64} {p : Int} (h0 : 0 ≤ p) (h1 : p < 4 * nn A) (he : eg A m p = true) : th A p = thr A (p / 4) (nb A (p / 4) (p % 4)) ∧ th A p ≤ 99 := by
  have h := eg_rg he
  unfold th ths
  rw [if_neg h.2.1]
  have := nb_rg (s := p % 4) g (show 0 ≤ p / 4 by omega) (by omega)
  exact ⟨rfl, (thr_bd g (by omega) (by omega) (by omega) (by omega)).2⟩
theorem room_bd {A : Ab} (g : WFg A) (m : Int64) {t : Int} (ht' : t ≤ 100) {c : Int} (h0 : 0 ≤ c) (h1 : c < 36) : 0 ≤ room A m t c ∧ room A m t c ≤ 100 := by
  have := ht_bd g h0 h1
  unfold room
  split <;> omega
theorem cap_sum_bd {A : Ab} (g : WFg A) (m : Int64) {t : Int} (ht' : t ≤ 100) {n : Nat} (hn : n ≤ 36) : 0 ≤ sm n (fun c => room A m t c) ∧ sm n (fun c => room A m t c) ≤ 3600 := by
  refine ⟨sm_nonneg (fun i hi => (room_bd g m ht' (by omega) (by omega)).1), ?_⟩
  have := sm_bd (n := n) (f := fun c => room A m t c) (b := 100) (fun i hi => (room_bd g m ht' (by omega) (by omega)).2)
  omega
theorem cap_bd {A : Ab} (g : WFg A) (m : Int64) : -1 ≤ cap A m ∧ cap A m ≤ 3600 := by
  have := nn_bd g
  unfold cap
  rcases ps_rg g m with h | ⟨h1, h2, h3⟩
  · rw [if_pos h]; omega
  · rw [if_neg (by omega)]
    have := cap_sum_bd g m (t := th A (ps A m)) (th_bd g h1 h2).2 (n := (nn A).toNat) (by omega)
    omega
theorem cap_ps {A : Ab} (g : WFg A) (m : Int64) : cap A m = -1 ↔ ps A m = -1 := by
  have := nn_bd g
  unfold cap
  rcases ps_rg g m with h | ⟨h1, h2, h3⟩
  · rw [if_pos h]; simp [h]
  · rw [if_neg (by omega)]
    have := cap_sum_bd g m (t := th A (ps A m)) (th_bd g h1 h2).2 (n := (nn A).toNat) (by omega)
    omega
/-- one side -/
theorem c_findPass {l g k : Nat} {M : Mem} {A : Ab} {m : Int64} (hG : RG g M A) (hT : RT g M A) (w : WFg A) (hm : fAtL (l + 1) (ni k) M = m) : LK_findPass l g (ni k) M = some ((), fPutI (l + 7) (ni k) (ni (ps A m)) M) := by
  have hn := nn_bd w
  have key : lpR (fun s => LK_findPass_L15 l g (ni k) (fAtL (l + 1) (ni k) M) s.1 s.2 M) FUEL ((-1 : Int32), (0 : Int32)) = some (ni (ps A m)) := by
    rw [hm]
    refine lpR_to (fun j => (ni (psf A m j), ni (j : Int))) _ (4 * nn A).toNat (by omega) ?_ ?_ rfl
    · intro j hj
      have hs1 := RG_sd hG (j := (j : Int)) (by omega) (by omega)
      have hs2 := RT_sd hT (j := (j : Int)) (by omega) (by omega)
      have hr := nb_rg (s := (j : Int) % 4) w (show 0 ≤ (j : Int) / 4 by omega) (by omega)
      unfold LK_findPass_L15
      dsimp only
      rw [hG.1.2.2.1, hs1, hs2]
      simp (disch := omega) only [show (4 : Int32) = ni 4 from rfl, show (1 : Int32) = ni 1 from rfl, ni_neg, ni_mul, ni_le, ni_add, ni_div, LL_has_eq, bI_z]
      rw [if_neg (by omega)]
      refine congrArg some (congrArg Sum.inl (Prod.ext ?_ rfl))
      dsimp only [psf]
      unfold eg
      generalize hb : nb A ((j : Int) / 4) ((j : Int) % 4) = b at *
      cases h1 : hs m ((j : Int) / 4) with
      | false => simp
      | true =>
        by_cases h2 : b = -1
        · subst h2; rw [if_neg (by simp), if_pos rfl]; simp
        · have hb0 : 0 ≤ b ∧ b < 36 := by omega
          simp (disch := omega) only [ni_eq, LL_has_eq, bI_z]
          cases h3 : hs m b with
          | true => simp
          | false =>
            rcases psf_rg A m j with e | ⟨e1, e2, e3⟩
            · rw [e]; simp (disch := omega) only [ni_eq]; simp [h2]
            · have ht1 := RT_sd hT (j := psf A m j) e1 (by omega)
              have hb1 := ths_bd (s := (psf A m j) % 4) w (show 0 ≤ (psf A m j) / 4 by omega) (by omega)
              have hb2 := ths_bd (s := (j : Int) % 4) w (show 0 ≤ (j : Int) / 4 by omega) (by omega)
              rw [ht1]
              simp (disch := omega) only [ni_eq, ni_le]
              have e4 : ¬ psf A m j = -1 := by omega
              unfold th
              by_cases q : ths A ((psf A m j) / 4) ((psf A m j) % 4) ≤ ths A ((j : Int) / 4) ((j : Int) % 4)
              · have q' : ¬ ths A ((j : Int) / 4) ((j : Int) % 4) < ths A ((psf A m j) / 4) ((psf A m j) % 4) := by omega
                simp [e4, q, h2, q']
              · have : ths A ((j : Int) / 4) ((j : Int) % 4) < ths A ((psf A m j) / 4) ((psf A m j) % 4) := by omega
                simp [e4, q, h2, this]
    · unfold LK_findPass_L15
      dsimp only
      rw [hG.1.2.2.1]
      simp (disch := omega) only [show (4 : Int32) = ni 4 from rfl, ni_mul, ni_le]
      rw [if_pos (by omega)]
      rfl
  unfold LK_findPass
  rw [key, b1_s]
theorem c_findCapacity {l g k : Nat} {M : Mem} {A : Ab} {m : Int64} (hG : RG g M A) (hT : RT g M A) (w : WFg A) (hm : fAtL (l + 1) (ni k) M = m) (hp : fAtI (l + 7) (ni k) M = ni (ps A m)) (zg : SzG g) : LK_findCapacity l g (ni k) M = some ((), fPutI (l + 5) (ni k) (ni (cap A m)) M) := by
  have hn := nn_bd w
  have hpr := ps_rg w m
  have key : ∃ e, lpR (fun s => LK_findCapacity_L15 l g (ni k) (fAtI (l + 7) (ni k) M) s.1 s.2 M) FUEL ((0 : Int32), (0 : Int32)) = some e ∧ (if ¬ ni (ps A m) = (-1 : Int32) then e else (-1 : Int32)) = ni (cap A m) := by
    rw [hp]
    rcases hpr with e | ⟨e1, e2, e3⟩
    · rw [e]
      refine ⟨ni 0, ?_, by unfold cap; rw [if_pos e]; rfl⟩
      refine lpR_to (fun j => (ni 0, ni (j : Int))) _ (nn A).toNat (by omega) ?_ ?_ rfl
      · intro j hj
        have h9 := hG.2.1 (j : Int) (by omega) (by omega)
        have hb := ht_bd w (show 0 ≤ (j : Int) by omega) (by omega)
        unfold LK_findCapacity_L15
        dsimp only
        rw [hG.1.2.2.1, hm, h9, fAtI_out zg.2.2.2.1 (by omega) (by omega) (by omega)]
        simp (disch := omega) only [show (0 : Int32) = ni 0 from rfl, show (1 : Int32) = ni 1 from rfl, ni_le, ni_add, ni_sub, LL_has_eq]
        rw [if_neg (by omega), if_pos (by omega : -1 - ht A (j : Int) ≤ 0)]
        simp [ni_add]
      · unfold LK_findCapacity_L15
        dsimp only
        rw [hG.1.2.2.1]
        simp (disch := omega) only [ni_le]
        rw [if_pos (by omega)]
    · have ht1 := RT_sd hT (j := ps A m) e1 e2
      have hb1 := th_bd w e1 e2
      refine ⟨ni (sm (nn A).toNat (fun c => room A m (th A (ps A m)) c)), ?_, ?_⟩
      · refine lpR_to (fun j => (ni (sm j (fun c => room A m (th A (ps A m)) c)), ni (j : Int))) _ (nn A).toNat (by omega) ?_ ?_ rfl
        · intro j hj
          have h9 := hG.2.1 (j : Int) (by omega) (by omega)
          have hb := ht_bd w (show 0 ≤ (j : Int) by omega) (by omega)
          unfold LK_findCapacity_L15
          dsimp only
          rw [hG.1.2.2.1, hm, h9, ht1]
          unfold th at hb1
          simp (disch := omega) only [show (0 : Int32) = ni 0 from rfl, show (1 : Int32) = ni 1 from rfl, ni_le, ni_add, ni_sub, LL_has_eq]
          rw [if_neg (by omega)]
          refine congrArg some (congrArg Sum.inl (Prod.ext ?_ rfl))
          dsimp only [sm]
          unfold room th
          simp only [← show (0 : Int32) = ni 0 from rfl, bI_z]
          cases h1 : hs m (j : Int) with
          | false => simp [show (0 : Int32) = ni 0 from rfl, ni_add]
          | true =>
            by_cases q : ht A (j : Int) < ths A (ps A m / 4) (ps A m % 4)
            · rw [if_neg (by simp), if_neg (by omega), if_pos ⟨rfl, q⟩, ni_add]
            · rw [if_neg (by simp), if_pos (by omega), if_neg (by simp [q]), show (0 : Int32) = ni 0 from rfl, ni_add]
        · unfold LK_findCapacity_L15
          dsimp only
          rw [hG.1.2.2.1]
          simp (disch := omega) only [ni_le]
          rw [if_pos (by omega)]
      · unfold cap
        simp (disch := omega) only [show (-1 : Int32) = ni (-1) from rfl, ni_eq]
        rw [if_pos (by omega), if_neg (by omega)]
  obtain ⟨e, k1, k2⟩ := key
  unfold LK_findCapacity LK_findCapacity_J98
  rw [k1, b1_s, hp, k2]
