/-! 41.abs: the state of both sides as whole numbers and sets; the other side's array -/
abbrev Ab : Type := (Nat → Int → Int) × (Nat → Int → Int64)
def aI (A : Ab) (f : Nat) (k : Int) (v : Int) : Ab := (fun g j => if g = f ∧ j = k then v else A.1 g j, A.2)
def aL (A : Ab) (f : Nat) (k : Int) (v : Int64) : Ab := (A.1, fun g j => if g = f ∧ j = k then v else A.2 g j)
abbrev wd (A : Ab) : Int := A.1 0 0
abbrev hg (A : Ab) : Int := A.1 0 1
abbrev bnn (A : Ab) : Int := A.1 0 2
abbrev ht (A : Ab) (c : Int) : Int := A.1 1 c
abbrev grt (A : Ab) (c : Int) : Int := A.1 2 c
abbrev gdn (A : Ab) (c : Int) : Int := A.1 3 c
abbrev vol (A : Ab) (k : Int) : Int := A.1 4 k
abbrev fst (A : Ab) (k : Int) : Int := A.1 5 k
abbrev snd (A : Ab) (k : Int) : Int := A.1 6 k
abbrev there (A : Ab) (k : Int) : Int := A.1 7 k
abbrev bas (A : Ab) (c : Int) : Int := A.1 8 c
abbrev drn (A : Ab) : Int64 := A.2 0 0
abbrev pits (A : Ab) : Int64 := A.2 0 1
abbrev lst (A : Ab) : Int64 := A.2 0 2
abbrev gon (A : Ab) : Int64 := A.2 0 3
abbrev prd (A : Ab) : Int64 := A.2 0 4
abbrev msk (A : Ab) (k : Int) : Int64 := A.2 1 k
def RMa (a : Nat → Int64) (A : Ab) : Prop := (∀ c : Nat, c < 36 → a (8 + c) = nl (ht A c)) ∧ (∀ c : Nat, c < 36 → a (44 + c) = nl (grt A c)) ∧ (∀ c : Nat, c < 36 → a (80 + c) = nl (gdn A c)) ∧ (∀ c : Nat, c < 36 → a (116 + c) = nl (bas A c)) ∧ (∀ c : Nat, c < 72 → a (152 + c) = msk A c) ∧ (∀ c : Nat, c < 72 → a (224 + c) = nl (vol A c)) ∧ (∀ c : Nat, c < 72 → a (296 + c) = nl (fst A c)) ∧ (∀ c : Nat, c < 72 → a (368 + c) = nl (snd A c)) ∧ (∀ c : Nat, c < 72 → a (440 + c) = nl (there A c)) ∧ a 0 = nl (wd A) ∧ a 1 = nl (hg A) ∧ a 2 = drn A ∧ a 3 = lst A ∧ a 4 = gon A ∧ a 5 = prd A ∧ a 6 = nl (bnn A) ∧ a 512 = pits A
def RM (M : Mem) (A : Ab) : Prop := RMa (gL M 1) A
theorem RM_ht {M : Mem} {A : Ab} (h : RM M A) {c : Int} (h0 : 0 ≤ c) (h1 : c < 36) : gL M 1 (8 + c.toNat) = nl (ht A c) := by
  have := h.1 c.toNat (by omega)
  rwa [Int.toNat_of_nonneg h0] at this
theorem RM_gr {M : Mem} {A : Ab} (h : RM M A) {c : Int} (h0 : 0 ≤ c) (h1 : c < 36) : gL M 1 (44 + c.toNat) = nl (grt A c) := by
  have := h.2.1 c.toNat (by omega)
  rwa [Int.toNat_of_nonneg h0] at this
theorem RM_gd {M : Mem} {A : Ab} (h : RM M A) {c : Int} (h0 : 0 ≤ c) (h1 : c < 36) : gL M 1 (80 + c.toNat) = nl (gdn A c) := by
  have := h.2.2.1 c.toNat (by omega)
  rwa [Int.toNat_of_nonneg h0] at this
theorem RM_bas {M : Mem} {A : Ab} (h : RM M A) {c : Int} (h0 : 0 ≤ c) (h1 : c < 36) : gL M 1 (116 + c.toNat) = nl (bas A c) := by
  have := h.2.2.2.1 c.toNat (by omega)
  rwa [Int.toNat_of_nonneg h0] at this
theorem RM_msk {M : Mem} {A : Ab} (h : RM M A) {c : Int} (h0 : 0 ≤ c) (h1 : c < 72) : gL M 1 (152 + c.toNat) = msk A c := by
  have := h.2.2.2.2.1 c.toNat (by omega)
  rwa [Int.toNat_of_nonneg h0] at this
theorem RM_vol {M : Mem} {A : Ab} (h : RM M A) {c : Int} (h0 : 0 ≤ c) (h1 : c < 72) : gL M 1 (224 + c.toNat) = nl (vol A c) := by
  have := h.2.2.2.2.2.1 c.toNat (by omega)
  rwa [Int.toNat_of_nonneg h0] at this
theorem RM_fst {M : Mem} {A : Ab} (h : RM M A) {c : Int} (h0 : 0 ≤ c) (h1 : c < 72) : gL M 1 (296 + c.toNat) = nl (fst A c) := by
  have := h.2.2.2.2.2.2.1 c.toNat (by omega)
  rwa [Int.toNat_of_nonneg h0] at this
theorem RM_snd {M : Mem} {A : Ab} (h : RM M A) {c : Int} (h0 : 0 ≤ c) (h1 : c < 72) : gL M 1 (368 + c.toNat) = nl (snd A c) := by
  have := h.2.2.2.2.2.2.2.1 c.toNat (by omega)
  rwa [Int.toNat_of_nonneg h0] at this
theorem RM_thr {M : Mem} {A : Ab} (h : RM M A) {c : Int} (h0 : 0 ≤ c) (h1 : c < 72) : gL M 1 (440 + c.toNat) = nl (there A c) := by
  have := h.2.2.2.2.2.2.2.2.1 c.toNat (by omega)
  rwa [Int.toNat_of_nonneg h0] at this
theorem RM_W {M : Mem} {A : Ab} (h : RM M A) : gL M 1 0 = nl (wd A) := h.2.2.2.2.2.2.2.2.2.1
theorem RM_H {M : Mem} {A : Ab} (h : RM M A) : gL M 1 1 = nl (hg A) := h.2.2.2.2.2.2.2.2.2.2.1
theorem RM_dr {M : Mem} {A : Ab} (h : RM M A) : gL M 1 2 = drn A := h.2.2.2.2.2.2.2.2.2.2.2.1
theorem RM_lost {M : Mem} {A : Ab} (h : RM M A) : gL M 1 3 = lst A := h.2.2.2.2.2.2.2.2.2.2.2.2.1
theorem RM_gone {M : Mem} {A : Ab} (h : RM M A) : gL M 1 4 = gon A := h.2.2.2.2.2.2.2.2.2.2.2.2.2.1
theorem RM_pour {M : Mem} {A : Ab} (h : RM M A) : gL M 1 5 = prd A := h.2.2.2.2.2.2.2.2.2.2.2.2.2.2.1
theorem RM_bn {M : Mem} {A : Ab} (h : RM M A) : gL M 1 6 = nl (bnn A) := h.2.2.2.2.2.2.2.2.2.2.2.2.2.2.2.1
theorem RM_pits {M : Mem} {A : Ab} (h : RM M A) : gL M 1 512 = pits A := h.2.2.2.2.2.2.2.2.2.2.2.2.2.2.2.2
theorem gL_s1 (M : Mem) (i j : Nat) (v : Int64) : gL (sL M 1 i v) 1 j = if j = i then v else gL M 1 j := by simp [gL, sL]
theorem RS_ht {M : Mem} {A : Ab} (h : RM M A) {c : Int} (h0 : 0 ≤ c) (h1 : c < 36) (v : Int) : RM (sL M 1 (8 + c.toNat) (nl v)) (aI A 1 c v) := by
  obtain ⟨m, rfl⟩ : ∃ m : Nat, c = m := ⟨c.toNat, by omega⟩
  simp only [Int.toNat_natCast]
  obtain ⟨q0, q1, q2, q3, q4, q5, q6, q7, q8, q9, q10, q11, q12, q13, q14, q15, q16⟩ := h
  refine ⟨?_, ?_, ?_, ?_, ?_, ?_, ?_, ?_, ?_, ?_, ?_, ?_, ?_, ?_, ?_, ?_, ?_⟩
  · intro d hd
    rw [gL_s1]
    by_cases e : d = m
    · subst e; simp [aI, aL, wd, hg, bnn, ht, grt, gdn, vol, fst, snd, there, bas, drn, pits, lst, gon, prd, msk]
    · rw [if_neg (by omega), q0 d hd]
      have : ¬ ((d : Int) = (m : Int)) := by omega
      simp [aI, aL, wd, hg, bnn, ht, grt, gdn, vol, fst, snd, there, bas, drn, pits, lst, gon, prd, msk, this]
  · intro d hd
    rw [gL_s1, if_neg (by omega), q1 d hd]
    simp [aI, aL, wd, hg, bnn, ht, grt, gdn, vol, fst, snd, there, bas, drn, pits, lst, gon, prd, msk]
  · intro d hd
    rw [gL_s1, if_neg (by omega), q2 d hd]
    simp [aI, aL, wd, hg, bnn, ht, grt, gdn, vol, fst, snd, there, bas, drn, pits, lst, gon, prd, msk]
  · intro d hd
    rw [gL_s1, if_neg (by omega), q3 d hd]
    simp [aI, aL, wd, hg, bnn, ht, grt, gdn, vol, fst, snd, there, bas, drn, pits, lst, gon, prd, msk]
  · intro d hd
    rw [gL_s1, if_neg (by omega), q4 d hd]
    simp [aI, aL, wd, hg, bnn, ht, grt, gdn, vol, fst, snd, there, bas, drn, pits, lst, gon, prd, msk]
  · intro d hd
    rw [gL_s1, if_neg (by omega), q5 d hd]
    simp [aI, aL, wd, hg, bnn, ht, grt, gdn, vol, fst, snd, there, bas, drn, pits, lst, gon, prd, msk]
  · intro d hd
    rw [gL_s1, if_neg (by omega), q6 d hd]
    simp [aI, aL, wd, hg, bnn, ht, grt, gdn, vol, fst, snd, there, bas, drn, pits, lst, gon, prd, msk]
  · intro d hd
    rw [gL_s1, if_neg (by omega), q7 d hd]
    simp [aI, aL, wd, hg, bnn, ht, grt, gdn, vol, fst, snd, there, bas, drn, pits, lst, gon, prd, msk]
  · intro d hd
    rw [gL_s1, if_neg (by omega), q8 d hd]
    simp [aI, aL, wd, hg, bnn, ht, grt, gdn, vol, fst, snd, there, bas, drn, pits, lst, gon, prd, msk]
  · rw [gL_s1, if_neg (by omega), q9]
    simp [aI, aL, wd, hg, bnn, ht, grt, gdn, vol, fst, snd, there, bas, drn, pits, lst, gon, prd, msk]
  · rw [gL_s1, if_neg (by omega), q10]
    simp [aI, aL, wd, hg, bnn, ht, grt, gdn, vol, fst, snd, there, bas, drn, pits, lst, gon, prd, msk]
  · rw [gL_s1, if_neg (by omega), q11]
    simp [aI, aL, wd, hg, bnn, ht, grt, gdn, vol, fst, snd, there, bas, drn, pits, lst, gon, prd, msk]
  · rw [gL_s1, if_neg (by omega), q12]
    simp [aI, aL, wd, hg, bnn, ht, grt, gdn, vol, fst, snd, there, bas, drn, pits, lst, gon, prd, msk]
  · rw [gL_s1, if_neg (by omega), q13]
    simp [aI, aL, wd, hg, bnn, ht, grt, gdn, vol, fst, snd, there, bas, drn, pits, lst, gon, prd, msk]
  · rw [gL_s1, if_neg (by omega), q14]
    simp [aI, aL, wd, hg, bnn, ht, grt, gdn, vol, fst, snd, there, bas, drn, pits, lst, gon, prd, msk]
  · rw [gL_s1, if_neg (by omega), q15]
    simp [aI, aL, wd, hg, bnn, ht, grt, gdn, vol, fst, snd, there, bas, drn, pits, lst, gon, prd, msk]
  · rw [gL_s1, if_neg (by omega), q16]
    simp [aI, aL, wd, hg, bnn, ht, grt, gdn, vol, fst, snd, there, bas, drn, pits, lst, gon, prd, msk]
theorem RS_gr {M : Mem} {A : Ab} (h : RM M A) {c : Int} (h0 : 0 ≤ c) (h1 : c < 36) (v : Int) : RM (sL M 1 (44 + c.toNat) (nl v)) (aI A 2 c v) := by
  obtain ⟨m, rfl⟩ : ∃ m : Nat, c = m := ⟨c.toNat, by omega⟩
  simp only [Int.toNat_natCast]
  obtain ⟨q0, q1, q2, q3, q4, q5, q6, q7, q8, q9, q10, q11, q12, q13, q14, q15, q16⟩ := h
  refine ⟨?_, ?_, ?_, ?_, ?_, ?_, ?_, ?_, ?_, ?_, ?_, ?_, ?_, ?_, ?_, ?_, ?_⟩
  · intro d hd
    rw [gL_s1, if_neg (by omega), q0 d hd]
    simp [aI, aL, wd, hg, bnn, ht, grt, gdn, vol, fst, snd, there, bas, drn, pits, lst, gon, prd, msk]
  · intro d hd
    rw [gL_s1]
    by_cases e : d = m
    · subst e; simp [aI, aL, wd, hg, bnn, ht, grt, gdn, vol, fst, snd, there, bas, drn, pits, lst, gon, prd, msk]
    · rw [if_neg (by omega), q1 d hd]
      have : ¬ ((d : Int) = (m : Int)) := by omega
      simp [aI, aL, wd, hg, bnn, ht, grt, gdn, vol, fst, snd, there, bas, drn, pits, lst, gon, prd, msk, this]
  · intro d hd
    rw [gL_s1, if_neg (by omega), q2 d hd]
    simp [aI, aL, wd, hg, bnn, ht, grt, gdn, vol, fst, snd, there, bas, drn, pits, lst, gon, prd, msk]
  · intro d hd
    rw [gL_s1, if_neg (by omega), q3 d hd]
    simp [aI, aL, wd, hg, bnn, ht, grt, gdn, vol, fst, snd, there, bas, drn, pits, lst, gon, prd, msk]
  · intro d hd
    rw [gL_s1, if_neg (by omega), q4 d hd]
    simp [aI, aL, wd, hg, bnn, ht, grt, gdn, vol, fst, snd, there, bas, drn, pits, lst, gon, prd, msk]
  · intro d hd
    rw [gL_s1, if_neg (by omega), q5 d hd]
    simp [aI, aL, wd, hg, bnn, ht, grt, gdn, vol, fst, snd, there, bas, drn, pits, lst, gon, prd, msk]
  · intro d hd
    rw [gL_s1, if_neg (by omega), q6 d hd]
    simp [aI, aL, wd, hg, bnn, ht, grt, gdn, vol, fst, snd, there, bas, drn, pits, lst, gon, prd, msk]
  · intro d hd
    rw [gL_s1, if_neg (by omega), q7 d hd]
    simp [aI, aL, wd, hg, bnn, ht, grt, gdn, vol, fst, snd, there, bas, drn, pits, lst, gon, prd, msk]
  · intro d hd
    rw [gL_s1, if_neg (by omega), q8 d hd]
    simp [aI, aL, wd, hg, bnn, ht, grt, gdn, vol, fst, snd, there, bas, drn, pits, lst, gon, prd, msk]
  · rw [gL_s1, if_neg (by omega), q9]
    simp [aI, aL, wd, hg, bnn, ht, grt, gdn, vol, fst, snd, there, bas, drn, pits, lst, gon, prd, msk]
  · rw [gL_s1, if_neg (by omega), q10]
    simp [aI, aL, wd, hg, bnn, ht, grt, gdn, vol, fst, snd, there, bas, drn, pits, lst, gon, prd, msk]
  · rw [gL_s1, if_neg (by omega), q11]
    simp [aI, aL, wd, hg, bnn, ht, grt, gdn, vol, fst, snd, there, bas, drn, pits, lst, gon, prd, msk]
  · rw [gL_s1, if_neg (by omega), q12]
    simp [aI, aL, wd, hg, bnn, ht, grt, gdn, vol, fst, snd, there, bas, drn, pits, lst, gon, prd, msk]
  · rw [gL_s1, if_neg (by omega), q13]
    simp [aI, aL, wd, hg, bnn, ht, grt, gdn, vol, fst, snd, there, bas, drn, pits, lst, gon, prd, msk]
  · rw [gL_s1, if_neg (by omega), q14]
    simp [aI, aL, wd, hg, bnn, ht, grt, gdn, vol, fst, snd, there, bas, drn, pits, lst, gon, prd, msk]
  · rw [gL_s1, if_neg (by omega), q15]
    simp [aI, aL, wd, hg, bnn, ht, grt, gdn, vol, fst, snd, there, bas, drn, pits, lst, gon, prd, msk]
  · rw [gL_s1, if_neg (by omega), q16]
    simp [aI, aL, wd, hg, bnn, ht, grt, gdn, vol, fst, snd, there, bas, drn, pits, lst, gon, prd, msk]
theorem RS_gd {M : Mem} {A : Ab} (h : RM M A) {c : Int} (h0 : 0 ≤ c) (h1 : c < 36) (v : Int) : RM (sL M 1 (80 + c.toNat) (nl v)) (aI A 3 c v) := by
  obtain ⟨m, rfl⟩ : ∃ m : Nat, c = m := ⟨c.toNat, by omega⟩
  simp only [Int.toNat_natCast]
  obtain ⟨q0, q1, q2, q3, q4, q5, q6, q7, q8, q9, q10, q11, q12, q13, q14, q15, q16⟩ := h
  refine ⟨?_, ?_, ?_, ?_, ?_, ?_, ?_, ?_, ?_, ?_, ?_, ?_, ?_, ?_, ?_, ?_, ?_⟩
  · intro d hd
    rw [gL_s1, if_neg (by omega), q0 d hd]
    simp [aI, aL, wd, hg, bnn, ht, grt, gdn, vol, fst, snd, there, bas, drn, pits, lst, gon, prd, msk]
  · intro d hd
    rw [gL_s1, if_neg (by omega), q1 d hd]
    simp [aI, aL, wd, hg, bnn, ht, grt, gdn, vol, fst, snd, there, bas, drn, pits, lst, gon, prd, msk]
  · intro d hd
    rw [gL_s1]
    by_cases e : d = m
    · subst e; simp [aI, aL, wd, hg, bnn, ht, grt, gdn, vol, fst, snd, there, bas, drn, pits, lst, gon, prd, msk]
    · rw [if_neg (by omega), q2 d hd]
      have : ¬ ((d : Int) = (m : Int)) := by omega
      simp [aI, aL, wd, hg, bnn, ht, grt, gdn, vol, fst, snd, there, bas, drn, pits, lst, gon, prd, msk, this]
  · intro d hd
    rw [gL_s1, if_neg (by omega), q3 d hd]
    simp [aI, aL, wd, hg, bnn, ht, grt, gdn, vol, fst, snd, there, bas, drn, pits, lst, gon, prd, msk]
  · intro d hd
    rw [gL_s1, if_neg (by omega), q4 d hd]
    simp [aI, aL, wd, hg, bnn, ht, grt, gdn, vol, fst, snd, there, bas, drn, pits, lst, gon, prd, msk]
  · intro d hd
    rw [gL_s1, if_neg (by omega), q5 d hd]
    simp [aI, aL, wd, hg, bnn, ht, grt, gdn, vol, fst, snd, there, bas, drn, pits, lst, gon, prd, msk]
  · intro d hd
    rw [gL_s1, if_neg (by omega), q6 d hd]
    simp [aI, aL, wd, hg, bnn, ht, grt, gdn, vol, fst, snd, there, bas, drn, pits, lst, gon, prd, msk]
  · intro d hd
    rw [gL_s1, if_neg (by omega), q7 d hd]
    simp [aI, aL, wd, hg, bnn, ht, grt, gdn, vol, fst, snd, there, bas, drn, pits, lst, gon, prd, msk]
  · intro d hd
    rw [gL_s1, if_neg (by omega), q8 d hd]
    simp [aI, aL, wd, hg, bnn, ht, grt, gdn, vol, fst, snd, there, bas, drn, pits, lst, gon, prd, msk]
  · rw [gL_s1, if_neg (by omega), q9]
    simp [aI, aL, wd, hg, bnn, ht, grt, gdn, vol, fst, snd, there, bas, drn, pits, lst, gon, prd, msk]
  · rw [gL_s1, if_neg (by omega), q10]
    simp [aI, aL, wd, hg, bnn, ht, grt, gdn, vol, fst, snd, there, bas, drn, pits, lst, gon, prd, msk]
  · rw [gL_s1, if_neg (by omega), q11]
    simp [aI, aL, wd, hg, bnn, ht, grt, gdn, vol, fst, snd, there, bas, drn, pits, lst, gon, prd, msk]
  · rw [gL_s1, if_neg (by omega), q12]
    simp [aI, aL, wd, hg, bnn, ht, grt, gdn, vol, fst, snd, there, bas, drn, pits, lst, gon, prd, msk]
  · rw [gL_s1, if_neg (by omega), q13]
    simp [aI, aL, wd, hg, bnn, ht, grt, gdn, vol, fst, snd, there, bas, drn, pits, lst, gon, prd, msk]
  · rw [gL_s1, if_neg (by omega), q14]
    simp [aI, aL, wd, hg, bnn, ht, grt, gdn, vol, fst, snd, there, bas, drn, pits, lst, gon, prd, msk]
  · rw [gL_s1, if_neg (by omega), q15]
    simp [aI, aL, wd, hg, bnn, ht, grt, gdn, vol, fst, snd, there, bas, drn, pits, lst, gon, prd, msk]
  · rw [gL_s1, if_neg (by omega), q16]
    simp [aI, aL, wd, hg, bnn, ht, grt, gdn, vol, fst, snd, there, bas, drn, pits, lst, gon, prd, msk]
theorem RS_bas {M : Mem} {A : Ab} (h : RM M A) {c : Int} (h0 : 0 ≤ c) (h1 : c < 36) (v : Int) : RM (sL M 1 (116 + c.toNat) (nl v)) (aI A 8 c v) := by
  obtain ⟨m, rfl⟩ : ∃ m : Nat, c = m := ⟨c.toNat, by omega⟩
  simp only [Int.toNat_natCast]
  obtain ⟨q0, q1, q2, q3, q4, q5, q6, q7, q8, q9, q10, q11, q12, q13, q14, q15, q16⟩ := h
  refine ⟨?_, ?_, ?_, ?_, ?_, ?_, ?_, ?_, ?_, ?_, ?_, ?_, ?_, ?_, ?_, ?_, ?_⟩
  · intro d hd
    rw [gL_s1, if_neg (by omega), q0 d hd]
    simp [aI, aL, wd, hg, bnn, ht, grt, gdn, vol, fst, snd, there, bas, drn, pits, lst, gon, prd, msk]
  · intro d hd
    rw [gL_s1, if_neg (by omega), q1 d hd]
    simp [aI, aL, wd, hg, bnn, ht, grt, gdn, vol, fst, snd, there, bas, drn, pits, lst, gon, prd, msk]
  · intro d hd
    rw [gL_s1, if_neg (by omega), q2 d hd]
    simp [aI, aL, wd, hg, bnn, ht, grt, gdn, vol, fst, snd, there, bas, drn, pits, lst, gon, prd, msk]
  · intro d hd
    rw [gL_s1]
    by_cases e : d = m
    · subst e; simp [aI, aL, wd, hg, bnn, ht, grt, gdn, vol, fst, snd, there, bas, drn, pits, lst, gon, prd, msk]
    · rw [if_neg (by omega), q3 d hd]
      have : ¬ ((d : Int) = (m : Int)) := by omega
      simp [aI, aL, wd, hg, bnn, ht, grt, gdn, vol, fst, snd, there, bas, drn, pits, lst, gon, prd, msk, this]
  · intro d hd
    rw [gL_s1, if_neg (by omega), q4 d hd]
    simp [aI, aL, wd, hg, bnn, ht, grt, gdn, vol, fst, snd, there, bas, drn, pits, lst, gon, prd, msk]
  · intro d hd
    rw [gL_s1, if_neg (by omega), q5 d hd]
    simp [aI, aL, wd, hg, bnn, ht, grt, gdn, vol, fst, snd, there, bas, drn, pits, lst, gon, prd, msk]
  · intro d hd
    rw [gL_s1, if_neg (by omega), q6 d hd]
    simp [aI, aL, wd, hg, bnn, ht, grt, gdn, vol, fst, snd, there, bas, drn, pits, lst, gon, prd, msk]
  · intro d hd
    rw [gL_s1, if_neg (by omega), q7 d hd]
    simp [aI, aL, wd, hg, bnn, ht, grt, gdn, vol, fst, snd, there, bas, drn, pits, lst, gon, prd, msk]
  · intro d hd
    rw [gL_s1, if_neg (by omega), q8 d hd]
    simp [aI, aL, wd, hg, bnn, ht, grt, gdn, vol, fst, snd, there, bas, drn, pits, lst, gon, prd, msk]
  · rw [gL_s1, if_neg (by omega), q9]
    simp [aI, aL, wd, hg, bnn, ht, grt, gdn, vol, fst, snd, there, bas, drn, pits, lst, gon, prd, msk]
  · rw [gL_s1, if_neg (by omega), q10]
    simp [aI, aL, wd, hg, bnn, ht, grt, gdn, vol, fst, snd, there, bas, drn, pits, lst, gon, prd, msk]
  · rw [gL_s1, if_neg (by omega), q11]
    simp [aI, aL, wd, hg, bnn, ht, grt, gdn, vol, fst, snd, there, bas, drn, pits, lst, gon, prd, msk]
  · rw [gL_s1, if_neg (by omega), q12]
    simp [aI, aL, wd, hg, bnn, ht, grt, gdn, vol, fst, snd, there, bas, drn, pits, lst, gon, prd, msk]
  · rw [gL_s1, if_neg (by omega), q13]
    simp [aI, aL, wd, hg, bnn, ht, grt, gdn, vol, fst, snd, there, bas, drn, pits, lst, gon, prd, msk]
  · rw [gL_s1, if_neg (by omega), q14]
    simp [aI, aL, wd, hg, bnn, ht, grt, gdn, vol, fst, snd, there, bas, drn, pits, lst, gon, prd, msk]
  · rw [gL_s1, if_neg (by omega), q15]
    simp [aI, aL, wd, hg, bnn, ht, grt, gdn, vol, fst, snd, there, bas, drn, pits, lst, gon, prd, msk]
  · rw [gL_s1, if_neg (by omega), q16]
    simp [aI, aL, wd, hg, bnn, ht, grt, gdn, vol, fst, snd, there, bas, drn, pits, lst, gon, prd, msk]
theorem RS_msk {M : Mem} {A : Ab} (h : RM M A) {c : Int} (h0 : 0 ≤ c) (h1 : c < 72) (v : Int64) : RM (sL M 1 (152 + c.toNat) v) (aL A 1 c v) := by
  obtain ⟨m, rfl⟩ : ∃ m : Nat, c = m := ⟨c.toNat, by omega⟩
  simp only [Int.toNat_natCast]
  obtain ⟨q0, q1, q2, q3, q4, q5, q6, q7, q8, q9, q10, q11, q12, q13, q14, q15, q16⟩ := h
  refine ⟨?_, ?_, ?_, ?_, ?_, ?_, ?_, ?_, ?_, ?_, ?_, ?_, ?_, ?_, ?_, ?_, ?_⟩
  · intro d hd
    rw [gL_s1, if_neg (by omega), q0 d hd]
    simp [aI, aL, wd, hg, bnn, ht, grt, gdn, vol, fst, snd, there, bas, drn, pits, lst, gon, prd, msk]
  · intro d hd
    rw [gL_s1, if_neg (by omega), q1 d hd]
    simp [aI, aL, wd, hg, bnn, ht, grt, gdn, vol, fst, snd, there, bas, drn, pits, lst, gon, prd, msk]
  · intro d hd
    rw [gL_s1, if_neg (by omega), q2 d hd]
    simp [aI, aL, wd, hg, bnn, ht, grt, gdn, vol, fst, snd, there, bas, drn, pits, lst, gon, prd, msk]
  · intro d hd
    rw [gL_s1, if_neg (by omega), q3 d hd]
    simp [aI, aL, wd, hg, bnn, ht, grt, gdn, vol, fst, snd, there, bas, drn, pits, lst, gon, prd, msk]
  · intro d hd
    rw [gL_s1]
    by_cases e : d = m
    · subst e; simp [aI, aL, wd, hg, bnn, ht, grt, gdn, vol, fst, snd, there, bas, drn, pits, lst, gon, prd, msk]
    · rw [if_neg (by omega), q4 d hd]
      have : ¬ ((d : Int) = (m : Int)) := by omega
      simp [aI, aL, wd, hg, bnn, ht, grt, gdn, vol, fst, snd, there, bas, drn, pits, lst, gon, prd, msk, this]
  · intro d hd
    rw [gL_s1, if_neg (by omega), q5 d hd]
    simp [aI, aL, wd, hg, bnn, ht, grt, gdn, vol, fst, snd, there, bas, drn, pits, lst, gon, prd, msk]
  · intro d hd
    rw [gL_s1, if_neg (by omega), q6 d hd]
    simp [aI, aL, wd, hg, bnn, ht, grt, gdn, vol, fst, snd, there, bas, drn, pits, lst, gon, prd, msk]
  · intro d hd
    rw [gL_s1, if_neg (by omega), q7 d hd]
    simp [aI, aL, wd, hg, bnn, ht, grt, gdn, vol, fst, snd, there, bas, drn, pits, lst, gon, prd, msk]
  · intro d hd
    rw [gL_s1, if_neg (by omega), q8 d hd]
    simp [aI, aL, wd, hg, bnn, ht, grt, gdn, vol, fst, snd, there, bas, drn, pits, lst, gon, prd, msk]
  · rw [gL_s1, if_neg (by omega), q9]
    simp [aI, aL, wd, hg, bnn, ht, grt, gdn, vol, fst, snd, there, bas, drn, pits, lst, gon, prd, msk]
  · rw [gL_s1, if_neg (by omega), q10]
    simp [aI, aL, wd, hg, bnn, ht, grt, gdn, vol, fst, snd, there, bas, drn, pits, lst, gon, prd, msk]
  · rw [gL_s1, if_neg (by omega), q11]
    simp [aI, aL, wd, hg, bnn, ht, grt, gdn, vol, fst, snd, there, bas, drn, pits, lst, gon, prd, msk]
  · rw [gL_s1, if_neg (by omega), q12]
    simp [aI, aL, wd, hg, bnn, ht, grt, gdn, vol, fst, snd, there, bas, drn, pits, lst, gon, prd, msk]
  · rw [gL_s1, if_neg (by omega), q13]
    simp [aI, aL, wd, hg, bnn, ht, grt, gdn, vol, fst, snd, there, bas, drn, pits, lst, gon, prd, msk]
  · rw [gL_s1, if_neg (by omega), q14]
    simp [aI, aL, wd, hg, bnn, ht, grt, gdn, vol, fst, snd, there, bas, drn, pits, lst, gon, prd, msk]
  · rw [gL_s1, if_neg (by omega), q15]
    simp [aI, aL, wd, hg, bnn, ht, grt, gdn, vol, fst, snd, there, bas, drn, pits, lst, gon, prd, msk]
  · rw [gL_s1, if_neg (by omega), q16]
    simp [aI, aL, wd, hg, bnn, ht, grt, gdn, vol, fst, snd, there, bas, drn, pits, lst, gon, prd, msk]
theorem RS_vol {M : Mem} {A : Ab} (h : RM M A) {c : Int} (h0 : 0 ≤ c) (h1 : c < 72) (v : Int) : RM (sL M 1 (224 + c.toNat) (nl v)) (aI A 4 c v) := by
  obtain ⟨m, rfl⟩ : ∃ m : Nat, c = m := ⟨c.toNat, by omega⟩
  simp only [Int.toNat_natCast]
  obtain ⟨q0, q1, q2, q3, q4, q5, q6, q7, q8, q9, q10, q11, q12, q13, q14, q15, q16⟩ := h
  refine ⟨?_, ?_, ?_, ?_, ?_, ?_, ?_, ?_, ?_, ?_, ?_, ?_, ?_, ?_, ?_, ?_, ?_⟩
  · intro d hd
    rw [gL_s1, if_neg (by omega), q0 d hd]
    simp [aI, aL, wd, hg, bnn, ht, grt, gdn, vol, fst, snd, there, bas, drn, pits, lst, gon, prd, msk]
  · intro d hd
    rw [gL_s1, if_neg (by omega), q1 d hd]
    simp [aI, aL, wd, hg, bnn, ht, grt, gdn, vol, fst, snd, there, bas, drn, pits, lst, gon, prd, msk]
  · intro d hd
    rw [gL_s1, if_neg (by omega), q2 d hd]
    simp [aI, aL, wd, hg, bnn, ht, grt, gdn, vol, fst, snd, there, bas, drn, pits, lst, gon, prd, msk]
  · intro d hd
    rw [gL_s1, if_neg (by omega), q3 d hd]
    simp [aI, aL, wd, hg, bnn, ht, grt, gdn, vol, fst, snd, there, bas, drn, pits, lst, gon, prd, msk]
  · intro d hd
    rw [gL_s1, if_neg (by omega), q4 d hd]
    simp [aI, aL, wd, hg, bnn, ht, grt, gdn, vol, fst, snd, there, bas, drn, pits, lst, gon, prd, msk]
  · intro d hd
    rw [gL_s1]
    by_cases e : d = m
    · subst e; simp [aI, aL, wd, hg, bnn, ht, grt, gdn, vol, fst, snd, there, bas, drn, pits, lst, gon, prd, msk]
    · rw [if_neg (by omega), q5 d hd]
      have : ¬ ((d : Int) = (m : Int)) := by omega
      simp [aI, aL, wd, hg, bnn, ht, grt, gdn, vol, fst, snd, there, bas, drn, pits, lst, gon, prd, msk, this]
  · intro d hd
    rw [gL_s1, if_neg (by omega), q6 d hd]
    simp [aI, aL, wd, hg, bnn, ht, grt, gdn, vol, fst, snd, there, bas, drn, pits, lst, gon, prd, msk]
  · intro d hd
    rw [gL_s1, if_neg (by omega), q7 d hd]
    simp [aI, aL, wd, hg, bnn, ht, grt, gdn, vol, fst, snd, there, bas, drn, pits, lst, gon, prd, msk]
  · intro d hd
    rw [gL_s1, if_neg (by omega), q8 d hd]
    simp [aI, aL, wd, hg, bnn, ht, grt, gdn, vol, fst, snd, there, bas, drn, pits, lst, gon, prd, msk]
  · rw [gL_s1, if_neg (by omega), q9]
    simp [aI, aL, wd, hg, bnn, ht, grt, gdn, vol, fst, snd, there, bas, drn, pits, lst, gon, prd, msk]
  · rw [gL_s1, if_neg (by omega), q10]
    simp [aI, aL, wd, hg, bnn, ht, grt, gdn, vol, fst, snd, there, bas, drn, pits, lst, gon, prd, msk]
  · rw [gL_s1, if_neg (by omega), q11]
    simp [aI, aL, wd, hg, bnn, ht, grt, gdn, vol, fst, snd, there, bas, drn, pits, lst, gon, prd, msk]
  · rw [gL_s1, if_neg (by omega), q12]
    simp [aI, aL, wd, hg, bnn, ht, grt, gdn, vol, fst, snd, there, bas, drn, pits, lst, gon, prd, msk]
  · rw [gL_s1, if_neg (by omega), q13]
    simp [aI, aL, wd, hg, bnn, ht, grt, gdn, vol, fst, snd, there, bas, drn, pits, lst, gon, prd, msk]
  · rw [gL_s1, if_neg (by omega), q14]
    simp [aI, aL, wd, hg, bnn, ht, grt, gdn, vol, fst, snd, there, bas, drn, pits, lst, gon, prd, msk]
  · rw [gL_s1, if_neg (by omega), q15]
    simp [aI, aL, wd, hg, bnn, ht, grt, gdn, vol, fst, snd, there, bas, drn, pits, lst, gon, prd, msk]
  · rw [gL_s1, if_neg (by omega), q16]
    simp [aI, aL, wd, hg, bnn, ht, grt, gdn, vol, fst, snd, there, bas, drn, pits, lst, gon, prd, msk]
theorem RS_fst {M : Mem} {A : Ab} (h : RM M A) {c : Int} (h0 : 0 ≤ c) (h1 : c < 72) (v : Int) : RM (sL M 1 (296 + c.toNat) (nl v)) (aI A 5 c v) := by
  obtain ⟨m, rfl⟩ : ∃ m : Nat, c = m := ⟨c.toNat, by omega⟩
  simp only [Int.toNat_natCast]
  obtain ⟨q0, q1, q2, q3, q4, q5, q6, q7, q8, q9, q10, q11, q12, q13, q14, q15, q16⟩ := h
  refine ⟨?_, ?_, ?_, ?_, ?_, ?_, ?_, ?_, ?_, ?_, ?_, ?_, ?_, ?_, ?_, ?_, ?_⟩
  · intro d hd
    rw [gL_s1, if_neg (by omega), q0 d hd]
    simp [aI, aL, wd, hg, bnn, ht, grt, gdn, vol, fst, snd, there, bas, drn, pits, lst, gon, prd, msk]
  · intro d hd
    rw [gL_s1, if_neg (by omega), q1 d hd]
    simp [aI, aL, wd, hg, bnn, ht, grt, gdn, vol, fst, snd, there, bas, drn, pits, lst, gon, prd, msk]
  · intro d hd
    rw [gL_s1, if_neg (by omega), q2 d hd]
    simp [aI, aL, wd, hg, bnn, ht, grt, gdn, vol, fst, snd, there, bas, drn, pits, lst, gon, prd, msk]
  · intro d hd
    rw [gL_s1, if_neg (by omega), q3 d hd]
    simp [aI, aL, wd, hg, bnn, ht, grt, gdn, vol, fst, snd, there, bas, drn, pits, lst, gon, prd, msk]
  · intro d hd
    rw [gL_s1, if_neg (by omega), q4 d hd]
    simp [aI, aL, wd, hg, bnn, ht, grt, gdn, vol, fst, snd, there, bas, drn, pits, lst, gon, prd, msk]
  · intro d hd
    rw [gL_s1, if_neg (by omega), q5 d hd]
    simp [aI, aL, wd, hg, bnn, ht, grt, gdn, vol, fst, snd, there, bas, drn, pits, lst, gon, prd, msk]
  · intro d hd
    rw [gL_s1]
    by_cases e : d = m
    · subst e; simp [aI, aL, wd, hg, bnn, ht, grt, gdn, vol, fst, snd, there, bas, drn, pits, lst, gon, prd, msk]
    · rw [if_neg (by omega), q6 d hd]
      have : ¬ ((d : Int) = (m : Int)) := by omega
      simp [aI, aL, wd, hg, bnn, ht, grt, gdn, vol, fst, snd, there, bas, drn, pits, lst, gon, prd, msk, this]
  · intro d hd
    rw [gL_s1, if_neg (by omega), q7 d hd]
    simp [aI, aL, wd, hg, bnn, ht, grt, gdn, vol, fst, snd, there, bas, drn, pits, lst, gon, prd, msk]
  · intro d hd
    rw [gL_s1, if_neg (by omega), q8 d hd]
    simp [aI, aL, wd, hg, bnn, ht, grt, gdn, vol, fst, snd, there, bas, drn, pits, lst, gon, prd, msk]
  · rw [gL_s1, if_neg (by omega), q9]
    simp [aI, aL, wd, hg, bnn, ht, grt, gdn, vol, fst, snd, there, bas, drn, pits, lst, gon, prd, msk]
  · rw [gL_s1, if_neg (by omega), q10]
    simp [aI, aL, wd, hg, bnn, ht, grt, gdn, vol, fst, snd, there, bas, drn, pits, lst, gon, prd, msk]
  · rw [gL_s1, if_neg (by omega), q11]
    simp [aI, aL, wd, hg, bnn, ht, grt, gdn, vol, fst, snd, there, bas, drn, pits, lst, gon, prd, msk]
  · rw [gL_s1, if_neg (by omega), q12]
    simp [aI, aL, wd, hg, bnn, ht, grt, gdn, vol, fst, snd, there, bas, drn, pits, lst, gon, prd, msk]
  · rw [gL_s1, if_neg (by omega), q13]
    simp [aI, aL, wd, hg, bnn, ht, grt, gdn, vol, fst, snd, there, bas, drn, pits, lst, gon, prd, msk]
  · rw [gL_s1, if_neg (by omega), q14]
    simp [aI, aL, wd, hg, bnn, ht, grt, gdn, vol, fst, snd, there, bas, drn, pits, lst, gon, prd, msk]
  · rw [gL_s1, if_neg (by omega), q15]
    simp [aI, aL, wd, hg, bnn, ht, grt, gdn, vol, fst, snd, there, bas, drn, pits, lst, gon, prd, msk]
  · rw [gL_s1, if_neg (by omega), q16]
    simp [aI, aL, wd, hg, bnn, ht, grt, gdn, vol, fst, snd, there, bas, drn, pits, lst, gon, prd, msk]
theorem RS_snd {M : Mem} {A : Ab} (h : RM M A) {c : Int} (h0 : 0 ≤ c) (h1 : c < 72) (v : Int) : RM (sL M 1 (368 + c.toNat) (nl v)) (aI A 6 c v) := by
  obtain ⟨m, rfl⟩ : ∃ m : Nat, c = m := ⟨c.toNat, by omega⟩
  simp only [Int.toNat_natCast]
  obtain ⟨q0, q1, q2, q3, q4, q5, q6, q7, q8, q9, q10, q11, q12, q13, q14, q15, q16⟩ := h
  refine ⟨?_, ?_, ?_, ?_, ?_, ?_, ?_, ?_, ?_, ?_, ?_, ?_, ?_, ?_, ?_, ?_, ?_⟩
  · intro d hd
    rw [gL_s1, if_neg (by omega), q0 d hd]
    simp [aI, aL, wd, hg, bnn, ht, grt, gdn, vol, fst, snd, there, bas, drn, pits, lst, gon, prd, msk]
  · intro d hd
    rw [gL_s1, if_neg (by omega), q1 d hd]
    simp [aI, aL, wd, hg, bnn, ht, grt, gdn, vol, fst, snd, there, bas, drn, pits, lst, gon, prd, msk]
  · intro d hd
    rw [gL_s1, if_neg (by omega), q2 d hd]
    simp [aI, aL, wd, hg, bnn, ht, grt, gdn, vol, fst, snd, there, bas, drn, pits, lst, gon, prd, msk]
  · intro d hd
    rw [gL_s1, if_neg (by omega), q3 d hd]
    simp [aI, aL, wd, hg, bnn, ht, grt, gdn, vol, fst, snd, there, bas, drn, pits, lst, gon, prd, msk]
  · intro d hd
    rw [gL_s1, if_neg (by omega), q4 d hd]
    simp [aI, aL, wd, hg, bnn, ht, grt, gdn, vol, fst, snd, there, bas, drn, pits, lst, gon, prd, msk]
  · intro d hd
    rw [gL_s1, if_neg (by omega), q5 d hd]
    simp [aI, aL, wd, hg, bnn, ht, grt, gdn, vol, fst, snd, there, bas, drn, pits, lst, gon, prd, msk]
  · intro d hd
    rw [gL_s1, if_neg (by omega), q6 d hd]
    simp [aI, aL, wd, hg, bnn, ht, grt, gdn, vol, fst, snd, there, bas, drn, pits, lst, gon, prd, msk]
  · intro d hd
    rw [gL_s1]
    by_cases e : d = m
    · subst e; simp [aI, aL, wd, hg, bnn, ht, grt, gdn, vol, fst, snd, there, bas, drn, pits, lst, gon, prd, msk]
    · rw [if_neg (by omega), q7 d hd]
      have : ¬ ((d : Int) = (m : Int)) := by omega
      simp [aI, aL, wd, hg, bnn, ht, grt, gdn, vol, fst, snd, there, bas, drn, pits, lst, gon, prd, msk, this]
  · intro d hd
    rw [gL_s1, if_neg (by omega), q8 d hd]
    simp [aI, aL, wd, hg, bnn, ht, grt, gdn, vol, fst, snd, there, bas, drn, pits, lst, gon, prd, msk]
  · rw [gL_s1, if_neg (by omega), q9]
    simp [aI, aL, wd, hg, bnn, ht, grt, gdn, vol, fst, snd, there, bas, drn, pits, lst, gon, prd, msk]
  · rw [gL_s1, if_neg (by omega), q10]
    simp [aI, aL, wd, hg, bnn, ht, grt, gdn, vol, fst, snd, there, bas, drn, pits, lst, gon, prd, msk]
  · rw [gL_s1, if_neg (by omega), q11]
    simp [aI, aL, wd, hg, bnn, ht, grt, gdn, vol, fst, snd, there, bas, drn, pits, lst, gon, prd, msk]
  · rw [gL_s1, if_neg (by omega), q12]
    simp [aI, aL, wd, hg, bnn, ht, grt, gdn, vol, fst, snd, there, bas, drn, pits, lst, gon, prd, msk]
  · rw [gL_s1, if_neg (by omega), q13]
    simp [aI, aL, wd, hg, bnn, ht, grt, gdn, vol, fst, snd, there, bas, drn, pits, lst, gon, prd, msk]
  · rw [gL_s1, if_neg (by omega), q14]
    simp [aI, aL, wd, hg, bnn, ht, grt, gdn, vol, fst, snd, there, bas, drn, pits, lst, gon, prd, msk]
  · rw [gL_s1, if_neg (by omega), q15]
    simp [aI, aL, wd, hg, bnn, ht, grt, gdn, vol, fst, snd, there, bas, drn, pits, lst, gon, prd, msk]
  · rw [gL_s1, if_neg (by omega), q16]
    simp [aI, aL, wd, hg, bnn, ht, grt, gdn, vol, fst, snd, there, bas, drn, pits, lst, gon, prd, msk]
theorem RS_thr {M : Mem} {A : Ab} (h : RM M A) {c : Int} (h0 : 0 ≤ c) (h1 : c < 72) (v : Int) : RM (sL M 1 (440 + c.toNat) (nl v)) (aI A 7 c v) := by
  obtain ⟨m, rfl⟩ : ∃ m : Nat, c = m := ⟨c.toNat, by omega⟩
  simp only [Int.toNat_natCast]
  obtain ⟨q0, q1, q2, q3, q4, q5, q6, q7, q8, q9, q10, q11, q12, q13, q14, q15, q16⟩ := h
  refine ⟨?_, ?_, ?_, ?_, ?_, ?_, ?_, ?_, ?_, ?_, ?_, ?_, ?_, ?_, ?_, ?_, ?_⟩
  · intro d hd
    rw [gL_s1, if_neg (by omega), q0 d hd]
    simp [aI, aL, wd, hg, bnn, ht, grt, gdn, vol, fst, snd, there, bas, drn, pits, lst, gon, prd, msk]
  · intro d hd
    rw [gL_s1, if_neg (by omega), q1 d hd]
    simp [aI, aL, wd, hg, bnn, ht, grt, gdn, vol, fst, snd, there, bas, drn, pits, lst, gon, prd, msk]
  · intro d hd
    rw [gL_s1, if_neg (by omega), q2 d hd]
    simp [aI, aL, wd, hg, bnn, ht, grt, gdn, vol, fst, snd, there, bas, drn, pits, lst, gon, prd, msk]
  · intro d hd
    rw [gL_s1, if_neg (by omega), q3 d hd]
    simp [aI, aL, wd, hg, bnn, ht, grt, gdn, vol, fst, snd, there, bas, drn, pits, lst, gon, prd, msk]
  · intro d hd
    rw [gL_s1, if_neg (by omega), q4 d hd]
    simp [aI, aL, wd, hg, bnn, ht, grt, gdn, vol, fst, snd, there, bas, drn, pits, lst, gon, prd, msk]
  · intro d hd
    rw [gL_s1, if_neg (by omega), q5 d hd]
    simp [aI, aL, wd, hg, bnn, ht, grt, gdn, vol, fst, snd, there, bas, drn, pits, lst, gon, prd, msk]
  · intro d hd
    rw [gL_s1, if_neg (by omega), q6 d hd]
    simp [aI, aL, wd, hg, bnn, ht, grt, gdn, vol, fst, snd, there, bas, drn, pits, lst, gon, prd, msk]
  · intro d hd
    rw [gL_s1, if_neg (by omega), q7 d hd]
    simp [aI, aL, wd, hg, bnn, ht, grt, gdn, vol, fst, snd, there, bas, drn, pits, lst, gon, prd, msk]
  · intro d hd
    rw [gL_s1]
    by_cases e : d = m
    · subst e; simp [aI, aL, wd, hg, bnn, ht, grt, gdn, vol, fst, snd, there, bas, drn, pits, lst, gon, prd, msk]
    · rw [if_neg (by omega), q8 d hd]
      have : ¬ ((d : Int) = (m : Int)) := by omega
      simp [aI, aL, wd, hg, bnn, ht, grt, gdn, vol, fst, snd, there, bas, drn, pits, lst, gon, prd, msk, this]
  · rw [gL_s1, if_neg (by omega), q9]
    simp [aI, aL, wd, hg, bnn, ht, grt, gdn, vol, fst, snd, there, bas, drn, pits, lst, gon, prd, msk]
  · rw [gL_s1, if_neg (by omega), q10]
    simp [aI, aL, wd, hg, bnn, ht, grt, gdn, vol, fst, snd, there, bas, drn, pits, lst, gon, prd, msk]
  · rw [gL_s1, if_neg (by omega), q11]
    simp [aI, aL, wd, hg, bnn, ht, grt, gdn, vol, fst, snd, there, bas, drn, pits, lst, gon, prd, msk]
  · rw [gL_s1, if_neg (by omega), q12]
    simp [aI, aL, wd, hg, bnn, ht, grt, gdn, vol, fst, snd, there, bas, drn, pits, lst, gon, prd, msk]
  · rw [gL_s1, if_neg (by omega), q13]
    simp [aI, aL, wd, hg, bnn, ht, grt, gdn, vol, fst, snd, there, bas, drn, pits, lst, gon, prd, msk]
  · rw [gL_s1, if_neg (by omega), q14]
    simp [aI, aL, wd, hg, bnn, ht, grt, gdn, vol, fst, snd, there, bas, drn, pits, lst, gon, prd, msk]
  · rw [gL_s1, if_neg (by omega), q15]
    simp [aI, aL, wd, hg, bnn, ht, grt, gdn, vol, fst, snd, there, bas, drn, pits, lst, gon, prd, msk]
  · rw [gL_s1, if_neg (by omega), q16]
    simp [aI, aL, wd, hg, bnn, ht, grt, gdn, vol, fst, snd, there, bas, drn, pits, lst, gon, prd, msk]
theorem RS_W {M : Mem} {A : Ab} (h : RM M A) (v : Int) : RM (sL M 1 0 (nl v)) (aI A 0 0 v) := by
  obtain ⟨q0, q1, q2, q3, q4, q5, q6, q7, q8, q9, q10, q11, q12, q13, q14, q15, q16⟩ := h
  refine ⟨?_, ?_, ?_, ?_, ?_, ?_, ?_, ?_, ?_, ?_, ?_, ?_, ?_, ?_, ?_, ?_, ?_⟩
  · intro d hd
    rw [gL_s1, if_neg (by omega), q0 d hd]
    simp [aI, aL, wd, hg, bnn, ht, grt, gdn, vol, fst, snd, there, bas, drn, pits, lst, gon, prd, msk]
  · intro d hd
    rw [gL_s1, if_neg (by omega), q1 d hd]
    simp [aI, aL, wd, hg, bnn, ht, grt, gdn, vol, fst, snd, there, bas, drn, pits, lst, gon, prd, msk]
  · intro d hd
    rw [gL_s1, if_neg (by omega), q2 d hd]
    simp [aI, aL, wd, hg, bnn, ht, grt, gdn, vol, fst, snd, there, bas, drn, pits, lst, gon, prd, msk]
  · intro d hd
    rw [gL_s1, if_neg (by omega), q3 d hd]
    simp [aI, aL, wd, hg, bnn, ht, grt, gdn, vol, fst, snd, there, bas, drn, pits, lst, gon, prd, msk]
  · intro d hd
    rw [gL_s1, if_neg (by omega), q4 d hd]
    simp [aI, aL, wd, hg, bnn, ht, grt, gdn, vol, fst, snd, there, bas, drn, pits, lst, gon, prd, msk]
  · intro d hd
    rw [gL_s1, if_neg (by omega), q5 d hd]
    simp [aI, aL, wd, hg, bnn, ht, grt, gdn, vol, fst, snd, there, bas, drn, pits, lst, gon, prd, msk]
  · intro d hd
    rw [gL_s1, if_neg (by omega), q6 d hd]
    simp [aI, aL, wd, hg, bnn, ht, grt, gdn, vol, fst, snd, there, bas, drn, pits, lst, gon, prd, msk]
  · intro d hd
    rw [gL_s1, if_neg (by omega), q7 d hd]
    simp [aI, aL, wd, hg, bnn, ht, grt, gdn, vol, fst, snd, there, bas, drn, pits, lst, gon, prd, msk]
  · intro d hd
    rw [gL_s1, if_neg (by omega), q8 d hd]
    simp [aI, aL, wd, hg, bnn, ht, grt, gdn, vol, fst, snd, there, bas, drn, pits, lst, gon, prd, msk]
  · rw [gL_s1]; simp [aI, aL, wd, hg, bnn, ht, grt, gdn, vol, fst, snd, there, bas, drn, pits, lst, gon, prd, msk]
  · rw [gL_s1, if_neg (by omega), q10]
    simp [aI, aL, wd, hg, bnn, ht, grt, gdn, vol, fst, snd, there, bas, drn, pits, lst, gon, prd, msk]
  · rw [gL_s1, if_neg (by omega), q11]
    simp [aI, aL, wd, hg, bnn, ht, grt, gdn, vol, fst, snd, there, bas, drn, pits, lst, gon, prd, msk]
  · rw [gL_s1, if_neg (by omega), q12]
    simp [aI, aL, wd, hg, bnn, ht, grt, gdn, vol, fst, snd, there, bas, drn, pits, lst, gon, prd, msk]
  · rw [gL_s1, if_neg (by omega), q13]
    simp [aI, aL, wd, hg, bnn, ht, grt, gdn, vol, fst, snd, there, bas, drn, pits, lst, gon, prd, msk]
  · rw [gL_s1, if_neg (by omega), q14]
    simp [aI, aL, wd, hg, bnn, ht, grt, gdn, vol, fst, snd, there, bas, drn, pits, lst, gon, prd, msk]
  · rw [gL_s1, if_neg (by omega), q15]
    simp [aI, aL, wd, hg, bnn, ht, grt, gdn, vol, fst, snd, there, bas, drn, pits, lst, gon, prd, msk]
  · rw [gL_s1, if_neg (by omega), q16]
    simp [aI, aL, wd, hg, bnn, ht, grt, gdn, vol, fst, snd, there, bas, drn, pits, lst, gon, prd, msk]
theorem RS_H {M : Mem} {A : Ab} (h : RM M A) (v : Int) : RM (sL M 1 1 (nl v)) (aI A 0 1 v) := by
  obtain ⟨q0, q1, q2, q3, q4, q5, q6, q7, q8, q9, q10, q11, q12, q13, q14, q15, q16⟩ := h
  refine ⟨?_, ?_, ?_, ?_, ?_, ?_, ?_, ?_, ?_, ?_, ?_, ?_, ?_, ?_, ?_, ?_, ?_⟩
  · intro d hd
    rw [gL_s1, if_neg (by omega), q0 d hd]
    simp [aI, aL, wd, hg, bnn, ht, grt, gdn, vol, fst, snd, there, bas, drn, pits, lst, gon, prd, msk]
  · intro d hd
    rw [gL_s1, if_neg (by omega), q1 d hd]
    simp [aI, aL, wd, hg, bnn, ht, grt, gdn, vol, fst, snd, there, bas, drn, pits, lst, gon, prd, msk]
  · intro d hd
    rw [gL_s1, if_neg (by omega), q2 d hd]
    simp [aI, aL, wd, hg, bnn, ht, grt, gdn, vol, fst, snd, there, bas, drn, pits, lst, gon, prd, msk]
  · intro d hd
    rw [gL_s1, if_neg (by omega), q3 d hd]
    simp [aI, aL, wd, hg, bnn, ht, grt, gdn, vol, fst, snd, there, bas, drn, pits, lst, gon, prd, msk]
  · intro d hd
    rw [gL_s1, if_neg (by omega), q4 d hd]
    simp [aI, aL, wd, hg, bnn, ht, grt, gdn, vol, fst, snd, there, bas, drn, pits, lst, gon, prd, msk]
  · intro d hd
    rw [gL_s1, if_neg (by omega), q5 d hd]
    simp [aI, aL, wd, hg, bnn, ht, grt, gdn, vol, fst, snd, there, bas, drn, pits, lst, gon, prd, msk]
  · intro d hd
    rw [gL_s1, if_neg (by omega), q6 d hd]
    simp [aI, aL, wd, hg, bnn, ht, grt, gdn, vol, fst, snd, there, bas, drn, pits, lst, gon, prd, msk]
  · intro d hd
    rw [gL_s1, if_neg (by omega), q7 d hd]
    simp [aI, aL, wd, hg, bnn, ht, grt, gdn, vol, fst, snd, there, bas, drn, pits, lst, gon, prd, msk]
  · intro d hd
    rw [gL_s1, if_neg (by omega), q8 d hd]
    simp [aI, aL, wd, hg, bnn, ht, grt, gdn, vol, fst, snd, there, bas, drn, pits, lst, gon, prd, msk]
  · rw [gL_s1, if_neg (by omega), q9]
    simp [aI, aL, wd, hg, bnn, ht, grt, gdn, vol, fst, snd, there, bas, drn, pits, lst, gon, prd, msk]
  · rw [gL_s1]; simp [aI, aL, wd, hg, bnn, ht, grt, gdn, vol, fst, snd, there, bas, drn, pits, lst, gon, prd, msk]
  · rw [gL_s1, if_neg (by omega), q11]
    simp [aI, aL, wd, hg, bnn, ht, grt, gdn, vol, fst, snd, there, bas, drn, pits, lst, gon, prd, msk]
  · rw [gL_s1, if_neg (by omega), q12]
    simp [aI, aL, wd, hg, bnn, ht, grt, gdn, vol, fst, snd, there, bas, drn, pits, lst, gon, prd, msk]
  · rw [gL_s1, if_neg (by omega), q13]
    simp [aI, aL, wd, hg, bnn, ht, grt, gdn, vol, fst, snd, there, bas, drn, pits, lst, gon, prd, msk]
  · rw [gL_s1, if_neg (by omega), q14]
    simp [aI, aL, wd, hg, bnn, ht, grt, gdn, vol, fst, snd, there, bas, drn, pits, lst, gon, prd, msk]
  · rw [gL_s1, if_neg (by omega), q15]
    simp [aI, aL, wd, hg, bnn, ht, grt, gdn, vol, fst, snd, there, bas, drn, pits, lst, gon, prd, msk]
  · rw [gL_s1, if_neg (by omega), q16]
    simp [aI, aL, wd, hg, bnn, ht, grt, gdn, vol, fst, snd, there, bas, drn, pits, lst, gon, prd, msk]
theorem RS_dr {M : Mem} {A : Ab} (h : RM M A) (v : Int64) : RM (sL M 1 2 v) (aL A 0 0 v) := by
  obtain ⟨q0, q1, q2, q3, q4, q5, q6, q7, q8, q9, q10, q11, q12, q13, q14, q15, q16⟩ := h
  refine ⟨?_, ?_, ?_, ?_, ?_, ?_, ?_, ?_, ?_, ?_, ?_, ?_, ?_, ?_, ?_, ?_, ?_⟩
  · intro d hd
    rw [gL_s1, if_neg (by omega), q0 d hd]
    simp [aI, aL, wd, hg, bnn, ht, grt, gdn, vol, fst, snd, there, bas, drn, pits, lst, gon, prd, msk]
  · intro d hd
    rw [gL_s1, if_neg (by omega), q1 d hd]
    simp [aI, aL, wd, hg, bnn, ht, grt, gdn, vol, fst, snd, there, bas, drn, pits, lst, gon, prd, msk]
  · intro d hd
    rw [gL_s1, if_neg (by omega), q2 d hd]
    simp [aI, aL, wd, hg, bnn, ht, grt, gdn, vol, fst, snd, there, bas, drn, pits, lst, gon, prd, msk]
  · intro d hd
    rw [gL_s1, if_neg (by omega), q3 d hd]
    simp [aI, aL, wd, hg, bnn, ht, grt, gdn, vol, fst, snd, there, bas, drn, pits, lst, gon, prd, msk]
  · intro d hd
    rw [gL_s1, if_neg (by omega), q4 d hd]
    simp [aI, aL, wd, hg, bnn, ht, grt, gdn, vol, fst, snd, there, bas, drn, pits, lst, gon, prd, msk]
  · intro d hd
    rw [gL_s1, if_neg (by omega), q5 d hd]
    simp [aI, aL, wd, hg, bnn, ht, grt, gdn, vol, fst, snd, there, bas, drn, pits, lst, gon, prd, msk]
  · intro d hd
    rw [gL_s1, if_neg (by omega), q6 d hd]
    simp [aI, aL, wd, hg, bnn, ht, grt, gdn, vol, fst, snd, there, bas, drn, pits, lst, gon, prd, msk]
  · intro d hd
    rw [gL_s1, if_neg (by omega), q7 d hd]
    simp [aI, aL, wd, hg, bnn, ht, grt, gdn, vol, fst, snd, there, bas, drn, pits, lst, gon, prd, msk]
  · intro d hd
    rw [gL_s1, if_neg (by omega), q8 d hd]
    simp [aI, aL, wd, hg, bnn, ht, grt, gdn, vol, fst, snd, there, bas, drn, pits, lst, gon, prd, msk]
  · rw [gL_s1, if_neg (by omega), q9]
    simp [aI, aL, wd, hg, bnn, ht, grt, gdn, vol, fst, snd, there, bas, drn, pits, lst, gon, prd, msk]
  · rw [gL_s1, if_neg (by omega), q10]
    simp [aI, aL, wd, hg, bnn, ht, grt, gdn, vol, fst, snd, there, bas, drn, pits, lst, gon, prd, msk]
  · rw [gL_s1]; simp [aI, aL, wd, hg, bnn, ht, grt, gdn, vol, fst, snd, there, bas, drn, pits, lst, gon, prd, msk]
  · rw [gL_s1, if_neg (by omega), q12]
    simp [aI, aL, wd, hg, bnn, ht, grt, gdn, vol, fst, snd, there, bas, drn, pits, lst, gon, prd, msk]
  · rw [gL_s1, if_neg (by omega), q13]
    simp [aI, aL, wd, hg, bnn, ht, grt, gdn, vol, fst, snd, there, bas, drn, pits, lst, gon, prd, msk]
  · rw [gL_s1, if_neg (by omega), q14]
    simp [aI, aL, wd, hg, bnn, ht, grt, gdn, vol, fst, snd, there, bas, drn, pits, lst, gon, prd, msk]
  · rw [gL_s1, if_neg (by omega), q15]
    simp [aI, aL, wd, hg, bnn, ht, grt, gdn, vol, fst, snd, there, bas, drn, pits, lst, gon, prd, msk]
  · rw [gL_s1, if_neg (by omega), q16]
    simp [aI, aL, wd, hg, bnn, ht, grt, gdn, vol, fst, snd, there, bas, drn, pits, lst, gon, prd, msk]
theorem RS_lost {M : Mem} {A : Ab} (h : RM M A) (v : Int64) : RM (sL M 1 3 v) (aL A 0 2 v) := by
  obtain ⟨q0, q1, q2, q3, q4, q5, q6, q7, q8, q9, q10, q11, q12, q13, q14, q15, q16⟩ := h
  refine ⟨?_, ?_, ?_, ?_, ?_, ?_, ?_, ?_, ?_, ?_, ?_, ?_, ?_, ?_, ?_, ?_, ?_⟩
  · intro d hd
    rw [gL_s1, if_neg (by omega), q0 d hd]
    simp [aI, aL, wd, hg, bnn, ht, grt, gdn, vol, fst, snd, there, bas, drn, pits, lst, gon, prd, msk]
  · intro d hd
    rw [gL_s1, if_neg (by omega), q1 d hd]
    simp [aI, aL, wd, hg, bnn, ht, grt, gdn, vol, fst, snd, there, bas, drn, pits, lst, gon, prd, msk]
  · intro d hd
    rw [gL_s1, if_neg (by omega), q2 d hd]
    simp [aI, aL, wd, hg, bnn, ht, grt, gdn, vol, fst, snd, there, bas, drn, pits, lst, gon, prd, msk]
  · intro d hd
    rw [gL_s1, if_neg (by omega), q3 d hd]
    simp [aI, aL, wd, hg, bnn, ht, grt, gdn, vol, fst, snd, there, bas, drn, pits, lst, gon, prd, msk]
  · intro d hd
    rw [gL_s1, if_neg (by omega), q4 d hd]
    simp [aI, aL, wd, hg, bnn, ht, grt, gdn, vol, fst, snd, there, bas, drn, pits, lst, gon, prd, msk]
  · intro d hd
    rw [gL_s1, if_neg (by omega), q5 d hd]
    simp [aI, aL, wd, hg, bnn, ht, grt, gdn, vol, fst, snd, there, bas, drn, pits, lst, gon, prd, msk]
  · intro d hd
    rw [gL_s1, if_neg (by omega), q6 d hd]
    simp [aI, aL, wd, hg, bnn, ht, grt, gdn, vol, fst, snd, there, bas, drn, pits, lst, gon, prd, msk]
  · intro d hd
    rw [gL_s1, if_neg (by omega), q7 d hd]
    simp [aI, aL, wd, hg, bnn, ht, grt, gdn, vol, fst, snd, there, bas, drn, pits, lst, gon, prd, msk]
  · intro d hd
    rw [gL_s1, if_neg (by omega), q8 d hd]
    simp [aI, aL, wd, hg, bnn, ht, grt, gdn, vol, fst, snd, there, bas, drn, pits, lst, gon, prd, msk]
  · rw [gL_s1, if_neg (by omega), q9]
    simp [aI, aL, wd, hg, bnn, ht, grt, gdn, vol, fst, snd, there, bas, drn, pits, lst, gon, prd, msk]
  · rw [gL_s1, if_neg (by omega), q10]
    simp [aI, aL, wd, hg, bnn, ht, grt, gdn, vol, fst, snd, there, bas, drn, pits, lst, gon, prd, msk]
  · rw [gL_s1, if_neg (by omega), q11]
    simp [aI, aL, wd, hg, bnn, ht, grt, gdn, vol, fst, snd, there, bas, drn, pits, lst, gon, prd, msk]
  · rw [gL_s1]; simp [aI, aL, wd, hg, bnn, ht, grt, gdn, vol, fst, snd, there, bas, drn, pits, lst, gon, prd, msk]
  · rw [gL_s1, if_neg (by omega), q13]
    simp [aI, aL, wd, hg, bnn, ht, grt, gdn, vol, fst, snd, there, bas, drn, pits, lst, gon, prd, msk]
  · rw [gL_s1, if_neg (by omega), q14]
    simp [aI, aL, wd, hg, bnn, ht, grt, gdn, vol, fst, snd, there, bas, drn, pits, lst, gon, prd, msk]
  · rw [gL_s1, if_neg (by omega), q15]
    simp [aI, aL, wd, hg, bnn, ht, grt, gdn, vol, fst, snd, there, bas, drn, pits, lst, gon, prd, msk]
  · rw [gL_s1, if_neg (by omega), q16]
    simp [aI, aL, wd, hg, bnn, ht, grt, gdn, vol, fst, snd, there, bas, drn, pits, lst, gon, prd, msk]
theorem RS_gone {M : Mem} {A : Ab} (h : RM M A) (v : Int64) : RM (sL M 1 4 v) (aL A 0 3 v) := by
  obtain ⟨q0, q1, q2, q3, q4, q5, q6, q7, q8, q9, q10, q11, q12, q13, q14, q15, q16⟩ := h
  refine ⟨?_, ?_, ?_, ?_, ?_, ?_, ?_, ?_, ?_, ?_, ?_, ?_, ?_, ?_, ?_, ?_, ?_⟩
  · intro d hd
    rw [gL_s1, if_neg (by omega), q0 d hd]
    simp [aI, aL, wd, hg, bnn, ht, grt, gdn, vol, fst, snd, there, bas, drn, pits, lst, gon, prd, msk]
  · intro d hd
    rw [gL_s1, if_neg (by omega), q1 d hd]
    simp [aI, aL, wd, hg, bnn, ht, grt, gdn, vol, fst, snd, there, bas, drn, pits, lst, gon, prd, msk]
  · intro d hd
    rw [gL_s1, if_neg (by omega), q2 d hd]
    simp [aI, aL, wd, hg, bnn, ht, grt, gdn, vol, fst, snd, there, bas, drn, pits, lst, gon, prd, msk]
  · intro d hd
    rw [gL_s1, if_neg (by omega), q3 d hd]
    simp [aI, aL, wd, hg, bnn, ht, grt, gdn, vol, fst, snd, there, bas, drn, pits, lst, gon, prd, msk]
  · intro d hd
    rw [gL_s1, if_neg (by omega), q4 d hd]
    simp [aI, aL, wd, hg, bnn, ht, grt, gdn, vol, fst, snd, there, bas, drn, pits, lst, gon, prd, msk]
  · intro d hd
    rw [gL_s1, if_neg (by omega), q5 d hd]
    simp [aI, aL, wd, hg, bnn, ht, grt, gdn, vol, fst, snd, there, bas, drn, pits, lst, gon, prd, msk]
  · intro d hd
    rw [gL_s1, if_neg (by omega), q6 d hd]
    simp [aI, aL, wd, hg, bnn, ht, grt, gdn, vol, fst, snd, there, bas, drn, pits, lst, gon, prd, msk]
  · intro d hd
    rw [gL_s1, if_neg (by omega), q7 d hd]
    simp [aI, aL, wd, hg, bnn, ht, grt, gdn, vol, fst, snd, there, bas, drn, pits, lst, gon, prd, msk]
  · intro d hd
    rw [gL_s1, if_neg (by omega), q8 d hd]
    simp [aI, aL, wd, hg, bnn, ht, grt, gdn, vol, fst, snd, there, bas, drn, pits, lst, gon, prd, msk]
  · rw [gL_s1, if_neg (by omega), q9]
    simp [aI, aL, wd, hg, bnn, ht, grt, gdn, vol, fst, snd, there, bas, drn, pits, lst, gon, prd, msk]
  · rw [gL_s1, if_neg (by omega), q10]
    simp [aI, aL, wd, hg, bnn, ht, grt, gdn, vol, fst, snd, there, bas, drn, pits, lst, gon, prd, msk]
  · rw [gL_s1, if_neg (by omega), q11]
    simp [aI, aL, wd, hg, bnn, ht, grt, gdn, vol, fst, snd, there, bas, drn, pits, lst, gon, prd, msk]
  · rw [gL_s1, if_neg (by omega), q12]
    simp [aI, aL, wd, hg, bnn, ht, grt, gdn, vol, fst, snd, there, bas, drn, pits, lst, gon, prd, msk]
  · rw [gL_s1]; simp [aI, aL, wd, hg, bnn, ht, grt, gdn, vol, fst, snd, there, bas, drn, pits, lst, gon, prd, msk]
  · rw [gL_s1, if_neg (by omega), q14]
    simp [aI, aL, wd, hg, bnn, ht, grt, gdn, vol, fst, snd, there, bas, drn, pits, lst, gon, prd, msk]
  · rw [gL_s1, if_neg (by omega), q15]
    simp [aI, aL, wd, hg, bnn, ht, grt, gdn, vol, fst, snd, there, bas, drn, pits, lst, gon, prd, msk]
  · rw [gL_s1, if_neg (by omega), q16]
    simp [aI, aL, wd, hg, bnn, ht, grt, gdn, vol, fst, snd, there, bas, drn, pits, lst, gon, prd, msk]
theorem RS_pour {M : Mem} {A : Ab} (h : RM M A) (v : Int64) : RM (sL M 1 5 v) (aL A 0 4 v) := by
  obtain ⟨q0, q1, q2, q3, q4, q5, q6, q7, q8, q9, q10, q11, q12, q13, q14, q15, q16⟩ := h
  refine ⟨?_, ?_, ?_, ?_, ?_, ?_, ?_, ?_, ?_, ?_, ?_, ?_, ?_, ?_, ?_, ?_, ?_⟩
  · intro d hd
    rw [gL_s1, if_neg (by omega), q0 d hd]
    simp [aI, aL, wd, hg, bnn, ht, grt, gdn, vol, fst, snd, there, bas, drn, pits, lst, gon, prd, msk]
  · intro d hd
    rw [gL_s1, if_neg (by omega), q1 d hd]
    simp [aI, aL, wd, hg, bnn, ht, grt, gdn, vol, fst, snd, there, bas, drn, pits, lst, gon, prd, msk]
  · intro d hd
    rw [gL_s1, if_neg (by omega), q2 d hd]
    simp [aI, aL, wd, hg, bnn, ht, grt, gdn, vol, fst, snd, there, bas, drn, pits, lst, gon, prd, msk]
  · intro d hd
    rw [gL_s1, if_neg (by omega), q3 d hd]
    simp [aI, aL, wd, hg, bnn, ht, grt, gdn, vol, fst, snd, there, bas, drn, pits, lst, gon, prd, msk]
  · intro d hd
    rw [gL_s1, if_neg (by omega), q4 d hd]
    simp [aI, aL, wd, hg, bnn, ht, grt, gdn, vol, fst, snd, there, bas, drn, pits, lst, gon, prd, msk]
  · intro d hd
    rw [gL_s1, if_neg (by omega), q5 d hd]
    simp [aI, aL, wd, hg, bnn, ht, grt, gdn, vol, fst, snd, there, bas, drn, pits, lst, gon, prd, msk]
  · intro d hd
    rw [gL_s1, if_neg (by omega), q6 d hd]
    simp [aI, aL, wd, hg, bnn, ht, grt, gdn, vol, fst, snd, there, bas, drn, pits, lst, gon, prd, msk]
  · intro d hd
    rw [gL_s1, if_neg (by omega), q7 d hd]
    simp [aI, aL, wd, hg, bnn, ht, grt, gdn, vol, fst, snd, there, bas, drn, pits, lst, gon, prd, msk]
  · intro d hd
    rw [gL_s1, if_neg (by omega), q8 d hd]
    simp [aI, aL, wd, hg, bnn, ht, grt, gdn, vol, fst, snd, there, bas, drn, pits, lst, gon, prd, msk]
  · rw [gL_s1, if_neg (by omega), q9]
    simp [aI, aL, wd, hg, bnn, ht, grt, gdn, vol, fst, snd, there, bas, drn, pits, lst, gon, prd, msk]
  · rw [gL_s1, if_neg (by omega), q10]
    simp [aI, aL, wd, hg, bnn, ht, grt, gdn, vol, fst, snd, there, bas, drn, pits, lst, gon, prd, msk]
  · rw [gL_s1, if_neg (by omega), q11]
    simp [aI, aL, wd, hg, bnn, ht, grt, gdn, vol, fst, snd, there, bas, drn, pits, lst, gon, prd, msk]
  · rw [gL_s1, if_neg (by omega), q12]
    simp [aI, aL, wd, hg, bnn, ht, grt, gdn, vol, fst, snd, there, bas, drn, pits, lst, gon, prd, msk]
  · rw [gL_s1, if_neg (by omega), q13]
    simp [aI, aL, wd, hg, bnn, ht, grt, gdn, vol, fst, snd, there, bas, drn, pits, lst, gon, prd, msk]
  · rw [gL_s1]; simp [aI, aL, wd, hg, bnn, ht, grt, gdn, vol, fst, snd, there, bas, drn, pits, lst, gon, prd, msk]
  · rw [gL_s1, if_neg (by omega), q15]
    simp [aI, aL, wd, hg, bnn, ht, grt, gdn, vol, fst, snd, there, bas, drn, pits, lst, gon, prd, msk]
  · rw [gL_s1, if_neg (by omega), q16]
    simp [aI, aL, wd, hg, bnn, ht, grt, gdn, vol, fst, snd, there, bas, drn, pits, lst, gon, prd, msk]
theorem RS_bn {M : Mem} {A : Ab} (h : RM M A) (v : Int) : RM (sL M 1 6 (nl v)) (aI A 0 2 v) := by
  obtain ⟨q0, q1, q2, q3, q4, q5, q6, q7, q8, q9, q10, q11, q12, q13, q14, q15, q16⟩ := h
  refine ⟨?_, ?_, ?_, ?_, ?_, ?_, ?_, ?_, ?_, ?_, ?_, ?_, ?_, ?_, ?_, ?_, ?_⟩
  · intro d hd
    rw [gL_s1, if_neg (by omega), q0 d hd]
    simp [aI, aL, wd, hg, bnn, ht, grt, gdn, vol, fst, snd, there, bas, drn, pits, lst, gon, prd, msk]
  · intro d hd
    rw [gL_s1, if_neg (by omega), q1 d hd]
    simp [aI, aL, wd, hg, bnn, ht, grt, gdn, vol, fst, snd, there, bas, drn, pits, lst, gon, prd, msk]
  · intro d hd
    rw [gL_s1, if_neg (by omega), q2 d hd]
    simp [aI, aL, wd, hg, bnn, ht, grt, gdn, vol, fst, snd, there, bas, drn, pits, lst, gon, prd, msk]
  · intro d hd
    rw [gL_s1, if_neg (by omega), q3 d hd]
    simp [aI, aL, wd, hg, bnn, ht, grt, gdn, vol, fst, snd, there, bas, drn, pits, lst, gon, prd, msk]
  · intro d hd
    rw [gL_s1, if_neg (by omega), q4 d hd]
    simp [aI, aL, wd, hg, bnn, ht, grt, gdn, vol, fst, snd, there, bas, drn, pits, lst, gon, prd, msk]
  · intro d hd
    rw [gL_s1, if_neg (by omega), q5 d hd]
    simp [aI, aL, wd, hg, bnn, ht, grt, gdn, vol, fst, snd, there, bas, drn, pits, lst, gon, prd, msk]
  · intro d hd
    rw [gL_s1, if_neg (by omega), q6 d hd]
    simp [aI, aL, wd, hg, bnn, ht, grt, gdn, vol, fst, snd, there, bas, drn, pits, lst, gon, prd, msk]
  · intro d hd
    rw [gL_s1, if_neg (by omega), q7 d hd]
    simp [aI, aL, wd, hg, bnn, ht, grt, gdn, vol, fst, snd, there, bas, drn, pits, lst, gon, prd, msk]
  · intro d hd
    rw [gL_s1, if_neg (by omega), q8 d hd]
    simp [aI, aL, wd, hg, bnn, ht, grt, gdn, vol, fst, snd, there, bas, drn, pits, lst, gon, prd, msk]
  · rw [gL_s1, if_neg (by omega), q9]
    simp [aI, aL, wd, hg, bnn, ht, grt, gdn, vol, fst, snd, there, bas, drn, pits, lst, gon, prd, msk]
  · rw [gL_s1, if_neg (by omega), q10]
    simp [aI, aL, wd, hg, bnn, ht, grt, gdn, vol, fst, snd, there, bas, drn, pits, lst, gon, prd, msk]
  · rw [gL_s1, if_neg (by omega), q11]
    simp [aI, aL, wd, hg, bnn, ht, grt, gdn, vol, fst, snd, there, bas, drn, pits, lst, gon, prd, msk]
  · rw [gL_s1, if_neg (by omega), q12]
    simp [aI, aL, wd, hg, bnn, ht, grt, gdn, vol, fst, snd, there, bas, drn, pits, lst, gon, prd, msk]
  · rw [gL_s1, if_neg (by omega), q13]
    simp [aI, aL, wd, hg, bnn, ht, grt, gdn, vol, fst, snd, there, bas, drn, pits, lst, gon, prd, msk]
  · rw [gL_s1, if_neg (by omega), q14]
    simp [aI, aL, wd, hg, bnn, ht, grt, gdn, vol, fst, snd, there, bas, drn, pits, lst, gon, prd, msk]
  · rw [gL_s1]; simp [aI, aL, wd, hg, bnn, ht, grt, gdn, vol, fst, snd, there, bas, drn, pits, lst, gon, prd, msk]
  · rw [gL_s1, if_neg (by omega), q16]
    simp [aI, aL, wd, hg, bnn, ht, grt, gdn, vol, fst, snd, there, bas, drn, pits, lst, gon, prd, msk]
theorem RS_pits {M : Mem} {A : Ab} (h : RM M A) (v : Int64) : RM (sL M 1 512 v) (aL A 0 1 v) := by
  obtain ⟨q0, q1, q2, q3, q4, q5, q6, q7, q8, q9, q10, q11, q12, q13, q14, q15, q16⟩ := h
  refine ⟨?_, ?_, ?_, ?_, ?_, ?_, ?_, ?_, ?_, ?_, ?_, ?_, ?_, ?_, ?_, ?_, ?_⟩
  · intro d hd
    rw [gL_s1, if_neg (by omega), q0 d hd]
    simp [aI, aL, wd, hg, bnn, ht, grt, gdn, vol, fst, snd, there, bas, drn, pits, lst, gon, prd, msk]
  · intro d hd
    rw [gL_s1, if_neg (by omega), q1 d hd]
    simp [aI, aL, wd, hg, bnn, ht, grt, gdn, vol, fst, snd, there, bas, drn, pits, lst, gon, prd, msk]
  · intro d hd
    rw [gL_s1, if_neg (by omega), q2 d hd]
    simp [aI, aL, wd, hg, bnn, ht, grt, gdn, vol, fst, snd, there, bas, drn, pits, lst, gon, prd, msk]
  · intro d hd
    rw [gL_s1, if_neg (by omega), q3 d hd]
    simp [aI, aL, wd, hg, bnn, ht, grt, gdn, vol, fst, snd, there, bas, drn, pits, lst, gon, prd, msk]
  · intro d hd
    rw [gL_s1, if_neg (by omega), q4 d hd]
    simp [aI, aL, wd, hg, bnn, ht, grt, gdn, vol, fst, snd, there, bas, drn, pits, lst, gon, prd, msk]
  · intro d hd
    rw [gL_s1, if_neg (by omega), q5 d hd]
    simp [aI, aL, wd, hg, bnn, ht, grt, gdn, vol, fst, snd, there, bas, drn, pits, lst, gon, prd, msk]
  · intro d hd
    rw [gL_s1, if_neg (by omega), q6 d hd]
    simp [aI, aL, wd, hg, bnn, ht, grt, gdn, vol, fst, snd, there, bas, drn, pits, lst, gon, prd, msk]
  · intro d hd
    rw [gL_s1, if_neg (by omega), q7 d hd]
    simp [aI, aL, wd, hg, bnn, ht, grt, gdn, vol, fst, snd, there, bas, drn, pits, lst, gon, prd, msk]
  · intro d hd
    rw [gL_s1, if_neg (by omega), q8 d hd]
    simp [aI, aL, wd, hg, bnn, ht, grt, gdn, vol, fst, snd, there, bas, drn, pits, lst, gon, prd, msk]
  · rw [gL_s1, if_neg (by omega), q9]
    simp [aI, aL, wd, hg, bnn, ht, grt, gdn, vol, fst, snd, there, bas, drn, pits, lst, gon, prd, msk]
  · rw [gL_s1, if_neg (by omega), q10]
    simp [aI, aL, wd, hg, bnn, ht, grt, gdn, vol, fst, snd, there, bas, drn, pits, lst, gon, prd, msk]
  · rw [gL_s1, if_neg (by omega), q11]
    simp [aI, aL, wd, hg, bnn, ht, grt, gdn, vol, fst, snd, there, bas, drn, pits, lst, gon, prd, msk]
  · rw [gL_s1, if_neg (by omega), q12]
    simp [aI, aL, wd, hg, bnn, ht, grt, gdn, vol, fst, snd, there, bas, drn, pits, lst, gon, prd, msk]
  · rw [gL_s1, if_neg (by omega), q13]
    simp [aI, aL, wd, hg, bnn, ht, grt, gdn, vol, fst, snd, there, bas, drn, pits, lst, gon, prd, msk]
  · rw [gL_s1, if_neg (by omega), q14]
    simp [aI, aL, wd, hg, bnn, ht, grt, gdn, vol, fst, snd, there, bas, drn, pits, lst, gon, prd, msk]
  · rw [gL_s1, if_neg (by omega), q15]
    simp [aI, aL, wd, hg, bnn, ht, grt, gdn, vol, fst, snd, there, bas, drn, pits, lst, gon, prd, msk]
  · rw [gL_s1]; simp [aI, aL, wd, hg, bnn, ht, grt, gdn, vol, fst, snd, there, bas, drn, pits, lst, gon, prd, msk]
theorem RM_of {M M' : Mem} {A : Ab} (h : RM M A) (e : ∀ k, k < 513 → gL M' 1 k = gL M 1 k) : RM M' A := by
  obtain ⟨q0, q1, q2, q3, q4, q5, q6, q7, q8, q9, q10, q11, q12, q13, q14, q15, q16⟩ := h
  refine ⟨fun c hc => (e _ (by omega)).trans (q0 c hc), fun c hc => (e _ (by omega)).trans (q1 c hc), fun c hc => (e _ (by omega)).trans (q2 c hc), fun c hc => (e _ (by omega)).trans (q3 c hc), fun c hc => (e _ (by omega)).trans (q4 c hc), fun c hc => (e _ (by omega)).trans (q5 c hc), fun c hc => (e _ (by omega)).trans (q6 c hc), fun c hc => (e _ (by omega)).trans (q7 c hc), fun c hc => (e _ (by omega)).trans (q8 c hc), (e _ (by omega)).trans q9, (e _ (by omega)).trans q10, (e _ (by omega)).trans q11, (e _ (by omega)).trans q12, (e _ (by omega)).trans q13, (e _ (by omega)).trans q14, (e _ (by omega)).trans q15, (e _ (by omega)).trans q16⟩
def nn (A : Ab) : Int := wd A * hg A
def nb (A : Ab) (c s : Int) : Int :=
  if s = 0 then (if c < wd A then -1 else c - wd A)
  else if s = 1 then (if c % wd A ≤ 0 then -1 else c - 1)
  else if s = 2 then (if wd A - 1 ≤ c % wd A then -1 else c + 1)
  else (if nn A ≤ c + wd A then -1 else c + wd A)
def lsr2 (a b : Int) : Int := if b ≤ a then b else a
def mor2 (a b : Int) : Int := if b ≤ a then a else b
def gt (A : Ab) (a b : Int) : Int := if mor2 a b = nb A (lsr2 a b) 2 then grt A (lsr2 a b) else gdn A (lsr2 a b)
def thr (A : Ab) (a b : Int) : Int :=
  let m := if ht A a ≤ ht A b then ht A b else ht A a
  if gt A a b ≤ m then m else gt A a b
/-- a landscape as it should be -/
def WFg (A : Ab) : Prop := (1 ≤ wd A ∧ wd A ≤ 6) ∧ (1 ≤ hg A ∧ hg A ≤ 6) ∧ (∀ c, 0 ≤ c → c < 36 → 0 ≤ ht A c ∧ ht A c ≤ 99) ∧ (∀ c, 0 ≤ c → c < 36 → -1 ≤ grt A c ∧ grt A c ≤ 99) ∧ (∀ c, 0 ≤ c → c < 36 → -1 ≤ gdn A c ∧ gdn A c ≤ 99)
theorem wh_cases {A : Ab} (h : WFg A) : (wd A = 1 ∨ wd A = 2 ∨ wd A = 3 ∨ wd A = 4 ∨ wd A = 5 ∨ wd A = 6) ∧ (hg A = 1 ∨ hg A = 2 ∨ hg A = 3 ∨ hg A = 4 ∨ hg A = 5 ∨ hg A = 6) := by
  obtain ⟨⟨a, b⟩, ⟨c, d⟩, -⟩ := h
  constructor <;> omega
theorem nn_bd {A : Ab} (h : WFg A) : 1 ≤ nn A ∧ nn A ≤ 36 := by
  obtain ⟨h1, h2⟩ := wh_cases h
  unfold nn
  rcases h1 with e | e | e | e | e | e <;> rcases h2 with f | f | f | f | f | f <;> rw [e, f] <;> omega
theorem nb_rg {A : Ab} (h : WFg A) {c s : Int} (h0 : 0 ≤ c) (h1 : c < nn A) : nb A c s = -1 ∨ (0 ≤ nb A c s ∧ nb A c s < nn A) := by
  obtain ⟨e1, e2⟩ := wh_cases h
  unfold nn at h1
  unfold nb nn
  rcases e1 with e | e | e | e | e | e <;> rcases e2 with f | f | f | f | f | f <;> rw [e, f] at h1 <;> rw [e, f] <;> (repeat' split) <;> omega
theorem nb_ne {A : Ab} (h : WFg A) {c s : Int} (h0 : 0 ≤ c) (h1 : c < nn A) : nb A c s ≠ c := by
  obtain ⟨e1, e2⟩ := wh_cases h
  unfold nn at h1
  unfold nb nn
  rcases e1 with e | e | e | e | e | e <;> rcases e2 with f | f | f | f | f | f <;> rw [e, f] at h1 <;> rw [e, f] <;> (repeat' split) <;> omega
theorem nb_sy {A : Ab} (h : WFg A) {c s : Int} (h0 : 0 ≤ c) (h1 : c < nn A) (hs : 0 ≤ s ∧ s < 4) (hb : nb A c s ≠ -1) : nb A (nb A c s) (3 - s) = c := by
  obtain ⟨e1, e2⟩ := wh_cases h
  unfold nn at h1
  obtain e3 | e3 | e3 | e3 : s = 0 ∨ s = 1 ∨ s = 2 ∨ s = 3 := by omega
  all_goals
    subst e3
    unfold nb nn at hb ⊢
    rcases e1 with e | e | e | e | e | e <;> rcases e2 with f | f | f | f | f | f <;> rw [e, f] at h1 hb <;> rw [e, f] <;> simp at hb ⊢ <;> omega
theorem lsr2_sy (a b : Int) : lsr2 a b = lsr2 b a := by unfold lsr2; split <;> split <;> omega
theorem mor2_sy (a b : Int) : mor2 a b = mor2 b a := by unfold mor2; split <;> split <;> omega
theorem gt_sy (A : Ab) (a b : Int) : gt A a b = gt A b a := by unfold gt; rw [lsr2_sy a b, mor2_sy a b]
theorem thr_sy (A : Ab) (a b : Int) : thr A a b = thr A b a := by
  unfold thr
  rw [gt_sy A a b]
  have : (if ht A a ≤ ht A b then ht A b else ht A a) = (if ht A b ≤ ht A a then ht A a else ht A b) := by split <;> split <;> omega
  rw [this]
theorem gt_bd {A : Ab} (h : WFg A) {a b : Int} (h0 : 0 ≤ a) (h1 : a < nn A) (h2 : 0 ≤ b) (h3 : b < nn A) : -1 ≤ gt A a b ∧ gt A a b ≤ 99 := by
  have := nn_bd h
  have e : 0 ≤ lsr2 a b ∧ lsr2 a b < 36 := by unfold lsr2; split <;> omega
  unfold gt
  split
  · exact h.2.2.2.1 _ e.1 e.2
  · exact h.2.2.2.2 _ e.1 e.2
theorem ht_bd {A : Ab} (h : WFg A) {a : Int} (h0 : 0 ≤ a) (h1 : a < 36) : 0 ≤ ht A a ∧ ht A a ≤ 99 := h.2.2.1 a h0 h1
theorem thr_bd {A : Ab} (h : WFg A) {a b : Int} (h0 : 0 ≤ a) (h1 : a < nn A) (h2 : 0 ≤ b) (h3 : b < nn A) : 0 ≤ thr A a b ∧ thr A a b ≤ 99 := by
  have := nn_bd h
  have e1 := gt_bd h h0 h1 h2 h3
  have e2 := ht_bd h h0 (by omega)
  have e3 := ht_bd h h2 (by omega)
  unfold thr
  dsimp only
  (repeat' split) <;> omega
theorem thr_ge {A : Ab} {a b : Int} : ht A a ≤ thr A a b ∧ ht A b ≤ thr A a b := by
  unfold thr
  dsimp only
  (repeat' split) <;> omega

