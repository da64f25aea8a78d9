/-! 57.finds: the basins, numbered; the other side's finds() -/
noncomputable def ipt (A : Ab) (c : Int) : Bool := decide (tg A c = -1) && decide (pl A c &&& drn A = 0)
noncomputable def ldr (A : Ab) (c : Int) : Bool := ipt A c && decide (lo (pl A c) = c)
noncomputable def ldn (A : Ab) (n : Nat) : Int := ct n (fun c => ldr A c)
noncomputable def npt (A : Ab) : Int := ldn A (nn A).toNat
noncomputable def bsn (A : Ab) (c : Int) : Int := if ipt A (fin A c) = true then ldn A (lo (pl A (fin A c))).toNat else -1
noncomputable def mk (A : Ab) (k : Int) : Int64 := mks (fun b => decide (0 ≤ k ∧ (b : Int) < nn A ∧ bsn A b = k)) 64
noncomputable def pts (A : Ab) : Int64 := mks (fun b => decide ((b : Int) < nn A) && ipt A b) 64
noncomputable def fnd (A : Ab) : Ab :=
  (fun f k => if f = 4 ∨ f = 5 ∨ f = 6 then 0 else if f = 7 then (if 0 ≤ k ∧ k < npt A then 1 else 0) else if f = 8 then (if 0 ≤ k ∧ k < nn A then bsn A k else A.1 8 k) else if f = 0 ∧ k = 2 then npt A else A.1 f k,
   fun f k => if f = 1 then mk A k else if f = 0 ∧ k = 1 then pts A else A.2 f k)
theorem fnd_ge (A : Ab) : GE A (fnd A) := by
  refine GE_of ?_ ?_ ?_ ?_ ?_
  · rintro j (rfl | rfl) <;> simp [fnd]
  all_goals simp [fnd]
theorem ldn_succ (A : Ab) (n : Nat) : ldn A (n + 1) = ldn A n + (if ldr A n = true then 1 else 0) := rfl
theorem ldn_mono (A : Ab) {n m : Nat} (h : n ≤ m) : ldn A n ≤ ldn A m := by
  induction m with
  | zero => obtain rfl : n = 0 := by omega
            exact Int.le_refl _
  | succ m ih =>
    by_cases e : n = m + 1
    · subst e; exact Int.le_refl _
    · have := ih (by omega)
      rw [ldn_succ]
      split <;> omega
theorem ldn_bd (A : Ab) (n : Nat) : 0 ≤ ldn A n ∧ ldn A n ≤ n := ct_bd n _
theorem npt_bd {A : Ab} (g : WFg A) : 0 ≤ npt A ∧ npt A ≤ nn A := by
  have hn := nn_bd g
  have := ldn_bd A (nn A).toNat
  unfold npt
  omega
theorem ipt_iff {A : Ab} {c : Int} : ipt A c = true ↔ tg A c = -1 ∧ pl A c &&& drn A = 0 := by unfold ipt; simp
theorem ipt_pl {A : Ab} (g : WFg A) {c d : Int} (h0 : 0 ≤ c) (h1 : c < nn A) (h : hs (pl A c) d = true) : ipt A d = ipt A c := by
  unfold ipt
  rw [tg_pl g h0 h1 h, pl_eq g h0 h1 h]
/-- the leader of a pit -/
theorem pit_ldr {A : Ab} (g : WFg A) {c : Int} (h0 : 0 ≤ c) (h1 : c < nn A) (h : ipt A c = true) : 0 ≤ lo (pl A c) ∧ lo (pl A c) < nn A ∧ ldr A (lo (pl A c)) = true ∧ pl A (lo (pl A c)) = pl A c := by
  obtain ⟨l1, l2, l3⟩ := lo_spec (pl_ne g h0 h1)
  have hr := pl_in g h0 h1 l2
  have he := pl_eq g h0 h1 l2
  refine ⟨hr.1, hr.2.1, ?_, he⟩
  unfold ldr
  rw [ipt_pl g h0 h1 l2, h, he]
  simp
theorem ldr_iff {A : Ab} {c : Int} : ldr A c = true ↔ ipt A c = true ∧ lo (pl A c) = c := by unfold ldr; simp
theorem ldn_inj {A : Ab} {i j : Nat} (hi : ldr A i = true) (hj : ldr A j = true) (h : ldn A i = ldn A j) : i = j := by
  rcases Nat.lt_trichotomy i j with q | q | q
  · have := ldn_mono A (show i + 1 ≤ j by omega)
    rw [ldn_succ, hi, if_pos rfl] at this; omega
  · exact q
  · have := ldn_mono A (show j + 1 ≤ i by omega)
    rw [ldn_succ, hj, if_pos rfl] at this; omega
theorem bsn_pit {A : Ab} {c : Int} (h : ipt A c = true) : fin A c = c ∧ bsn A c = ldn A (lo (pl A c)).toNat := by
  have e := fin_stop (ipt_iff.mp h).1
  refine ⟨e, ?_⟩
  unfold bsn
  rw [e, if_pos h]
theorem bsn_rg {A : Ab} (g : WFg A) {c : Int} (h0 : 0 ≤ c) (h1 : c < nn A) : bsn A c = -1 ∨ (0 ≤ bsn A c ∧ bsn A c < npt A ∧ ipt A (fin A c) = true) := by
  have hn := nn_bd g
  unfold bsn
  by_cases q : ipt A (fin A c) = true
  · right
    obtain ⟨f0, f1, f2⟩ := fin_rg g h0 h1
    obtain ⟨l0, l1, l2, l3⟩ := pit_ldr g f0 f1 q
    rw [if_pos q]
    have := ldn_mono A (show (lo (pl A (fin A c))).toNat + 1 ≤ (nn A).toNat by omega)
    have hb := ldn_bd A (lo (pl A (fin A c))).toNat
    rw [ldn_succ, Int.toNat_of_nonneg l0, l2, if_pos rfl] at this
    unfold npt
    exact ⟨hb.1, by omega, q⟩
  · left; rw [if_neg q]
/-- the cells whose course ends in the pit of a leader -/
theorem bsn_ldr {A : Ab} (g : WFg A) {c b : Int} (h0 : 0 ≤ c) (h1 : c < nn A) (hc : ldr A c = true) (b0 : 0 ≤ b) (b1 : b < nn A) : (en A (fin A b) = pl A c) ↔ bsn A b = ldn A c.toNat := by
  have ⟨hci, hcl⟩ := ldr_iff.mp hc
  obtain ⟨f0, f1, f2⟩ := fin_rg g b0 b1
  have hb := ldn_bd A c.toNat
  unfold en bsn
  by_cases e : pl A (fin A b) &&& drn A = 0
  · have hi : ipt A (fin A b) = true := ipt_iff.mpr ⟨f2, e⟩
    rw [if_pos e, if_pos hi]
    obtain ⟨l0, l1, l2, l3⟩ := pit_ldr g f0 f1 hi
    constructor
    · intro q; rw [q, hcl]
    · intro q
      have := ldn_inj (A := A) (i := (lo (pl A (fin A b))).toNat) (j := c.toNat) (by rw [Int.toNat_of_nonneg l0]; exact l2) (by rw [Int.toNat_of_nonneg h0]; exact hc) q
      have : lo (pl A (fin A b)) = c := by omega
      rw [← l3, this]
  · have hi : ¬ ipt A (fin A b) = true := fun z => e (ipt_iff.mp z).2
    rw [if_neg e, if_neg hi]
    constructor
    · intro q; exact absurd q.symm (pl_ne g h0 h1)
    · intro q; omega
theorem mk_hs {A : Ab} (g : WFg A) (k c : Int) : hs (mk A k) c = true ↔ 0 ≤ k ∧ 0 ≤ c ∧ c < nn A ∧ bsn A c = k := by
  have hn := nn_bd g
  unfold mk
  rw [mks_hs _ 64 (by omega)]
  constructor
  · rintro ⟨a, b, q⟩
    rw [decide_eq_true_eq, Int.toNat_of_nonneg a] at q
    exact ⟨q.1, a, q.2.1, q.2.2⟩
  · rintro ⟨a, b, d, e⟩
    refine ⟨b, by omega, ?_⟩
    rw [decide_eq_true_eq, Int.toNat_of_nonneg b]
    exact ⟨a, d, e⟩
theorem pts_hs {A : Ab} (g : WFg A) (c : Int) : hs (pts A) c = true ↔ 0 ≤ c ∧ c < nn A ∧ ipt A c = true := by
  have hn := nn_bd g
  unfold pts
  rw [mks_hs _ 64 (by omega)]
  simp only [Bool.and_eq_true, decide_eq_true_eq]
  constructor
  · rintro ⟨a, b, q, r⟩
    rw [Int.toNat_of_nonneg a] at q r
    exact ⟨a, q, r⟩
  · rintro ⟨a, b, q⟩
    refine ⟨a, by omega, ?_⟩
    rw [Int.toNat_of_nonneg a]
    exact ⟨b, q⟩
theorem RM_any {M M' : Mem} {A : Ab} (h : RM M A) (e : ∀ q, q < 116 → ¬ (3 ≤ q ∧ q < 7) → gL M' 1 q = gL M 1 q) : ∃ A', RM M' A' ∧ GE A A' := by
  refine ⟨(fun f k => if f = 0 then (if k = 2 then (gL M' 1 6).toInt else A.1 0 k) else if f = 1 ∨ f = 2 ∨ f = 3 then A.1 f k else if f = 8 then (gL M' 1 (116 + k.toNat)).toInt else if f = 4 then (gL M' 1 (224 + k.toNat)).toInt else if f = 5 then (gL M' 1 (296 + k.toNat)).toInt else if f = 6 then (gL M' 1 (368 + k.toNat)).toInt else (gL M' 1 (440 + k.toNat)).toInt,
    fun f k => if f = 0 then (if k = 0 then A.2 0 0 else if k = 1 then gL M' 1 512 else if k = 2 then gL M' 1 3 else if k = 3 then gL M' 1 4 else gL M' 1 5) else gL M' 1 (152 + k.toNat)), ?_, ?_⟩
  · obtain ⟨q0, q1, q2, q3, q4, q5, q6, q7, q8, q9, q10, q11, q12, q13, q14, q15, q16⟩ := h
    refine ⟨?_, ?_, ?_, ?_, ?_, ?_, ?_, ?_, ?_, ?_, ?_, ?_, ?_, ?_, ?_, ?_, ?_⟩
    · intro c hc; rw [e _ (by omega) (by omega), q0 c hc]; simp [ht]
    · intro c hc; rw [e _ (by omega) (by omega), q1 c hc]; simp [grt]
    · intro c hc; rw [e _ (by omega) (by omega), q2 c hc]; simp [gdn]
    · intro c hc; simp [bas]; exact nl_of _
    · intro c hc; simp [msk]
    · intro c hc; simp [vol]; exact nl_of _
    · intro c hc; simp [fst]; exact nl_of _
    · intro c hc; simp [snd]; exact nl_of _
    · intro c hc; simp [there]; exact nl_of _
    · rw [e _ (by omega) (by omega), q9]; simp [wd]
    · rw [e _ (by omega) (by omega), q10]; simp [hg]
    · rw [e _ (by omega) (by omega), q11]; simp [drn]
    · simp [lst]
    · simp [gon]
    · simp [prd]
    · simp [bnn]; exact nl_of _
    · simp [pits]
  · refine GE_of ?_ ?_ ?_ ?_ ?_
    · rintro j (rfl | rfl) <;> simp
    all_goals simp
/-- only the array and the ends are touched -/
def FrF (M M' : Mem) : Prop := M'.1 = M.1 ∧ ∀ o q, o ≠ 1 → o ≠ 4 → M'.2 o q = M.2 o q
theorem gL_s4 (M : Mem) (i j : Nat) (v : Int64) : gL (sL M 4 i v) 1 j = gL M 1 j := by simp [gL, sL]
theorem gL_s41 (M : Mem) (i j : Nat) (v : Int64) : gL (sL M 1 i v) 4 j = gL M 4 j := by simp [gL, sL]
theorem gL_s44 (M : Mem) (i j : Nat) (v : Int64) : gL (sL M 4 i v) 4 j = if j = i then v else gL M 4 j := by simp [gL, sL]
theorem FrF_s {M M' : Mem} (h : FrF M M') {o : Nat} (ho : o = 1 ∨ o = 4) (i : Nat) (v : Int64) : FrF M (sL M' o i v) := by
  refine ⟨h.1, fun p q h1 h2 => ?_⟩
  rw [← h.2 p q h1 h2]
  unfold sL
  dsimp only
  rw [if_neg]
  rintro ⟨rfl, _⟩
  omega
theorem FrF.refl (M : Mem) : FrF M M := ⟨rfl, fun _ _ _ _ => rfl⟩
noncomputable def ppt (A : Ab) (i : Nat) : Int64 := mks (fun z => decide ((z : Int) < nn A) && ipt A z && decide (lo (pl A z) < (i : Int))) 64
theorem ppt_hs {A : Ab} (g : WFg A) (i : Nat) (c : Int) : hs (ppt A i) c = true ↔ 0 ≤ c ∧ c < nn A ∧ ipt A c = true ∧ lo (pl A c) < i := by
  have hn := nn_bd g
  unfold ppt
  rw [mks_hs _ 64 (by omega)]
  simp only [Bool.and_eq_true, decide_eq_true_eq]
  constructor
  · rintro ⟨a, b, ⟨q, r⟩, s⟩
    rw [Int.toNat_of_nonneg a] at q r s
    exact ⟨a, q, r, s⟩
  · rintro ⟨a, b, q, r⟩
    refine ⟨a, by omega, ?_⟩
    rw [Int.toNat_of_nonneg a]
    exact ⟨⟨b, q⟩, r⟩
/-- the numbering so far -/
def NI (M0 : Mem) (A : Ab) (n : Int) (pp : Int64) (f : Nat → Int) (mm : Nat → Int64) (M : Mem) : Prop :=
  FrF M0 M ∧ (∀ q, q < 116 → gL M 1 q = gL M0 1 q) ∧ (∀ b : Nat, b < 36 → gL M 1 (116 + b) = nl (f b)) ∧ (∀ k : Nat, k < 72 → gL M 1 (152 + k) = mm k) ∧ (∀ q, 224 ≤ q → q < 440 → gL M 1 q = 0) ∧ (∀ k : Nat, k < 72 → gL M 1 (440 + k) = if (k : Int) < n then nl 1 else 0) ∧ gL M 1 512 = pp ∧ ∀ b : Nat, (b : Int) < nn A → gL M 4 b = en A (fin A b)
