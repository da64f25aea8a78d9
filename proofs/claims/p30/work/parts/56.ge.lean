/-! 56.ge: what hangs on the ground alone; the ends of the courses -/
def GE (A B : Ab) : Prop := wd A = wd B ∧ hg A = hg B ∧ ht A = ht B ∧ grt A = grt B ∧ gdn A = gdn B ∧ drn A = drn B
theorem GE.refl (A : Ab) : GE A A := ⟨rfl, rfl, rfl, rfl, rfl, rfl⟩
theorem GE.symm {A B : Ab} (h : GE A B) : GE B A := ⟨h.1.symm, h.2.1.symm, h.2.2.1.symm, h.2.2.2.1.symm, h.2.2.2.2.1.symm, h.2.2.2.2.2.symm⟩
theorem GE.trans {A B C : Ab} (h : GE A B) (h' : GE B C) : GE A C := ⟨h.1.trans h'.1, h.2.1.trans h'.2.1, h.2.2.1.trans h'.2.2.1, h.2.2.2.1.trans h'.2.2.2.1, h.2.2.2.2.1.trans h'.2.2.2.2.1, h.2.2.2.2.2.trans h'.2.2.2.2.2⟩
theorem GE_of {A B : Ab} (h0 : ∀ j, j = 0 ∨ j = 1 → A.1 0 j = B.1 0 j) (h1 : A.1 1 = B.1 1) (h2 : A.1 2 = B.1 2) (h3 : A.1 3 = B.1 3) (h4 : A.2 0 0 = B.2 0 0) : GE A B := ⟨h0 0 (Or.inl rfl), h0 1 (Or.inr rfl), h1, h2, h3, h4⟩
theorem GE.ht {A B : Ab} (h : GE A B) (c : Int) : A.1 1 c = B.1 1 c := congrFun h.2.2.1 c
theorem GE.nn {A B : Ab} (h : GE A B) : nn A = nn B := by
  unfold Jvm.Pilot.CLakeLevelsLaw_law_r3285_cc1abe.nn; rw [h.1, h.2.1]
theorem GE.nb {A B : Ab} (h : GE A B) : nb A = nb B := by
  funext c s
  unfold Jvm.Pilot.CLakeLevelsLaw_law_r3285_cc1abe.nb
  rw [h.nn, h.1]
theorem GE.gt {A B : Ab} (h : GE A B) : gt A = gt B := by
  funext c s
  unfold Jvm.Pilot.CLakeLevelsLaw_law_r3285_cc1abe.gt
  rw [h.nb, h.2.2.2.1, h.2.2.2.2.1]
theorem GE.thr {A B : Ab} (h : GE A B) : thr A = thr B := by
  funext c s
  unfold Jvm.Pilot.CLakeLevelsLaw_law_r3285_cc1abe.thr
  rw [h.gt, h.2.2.1]
theorem GE.ths {A B : Ab} (h : GE A B) : ths A = ths B := by
  funext c s
  unfold Jvm.Pilot.CLakeLevelsLaw_law_r3285_cc1abe.ths
  rw [h.nb, h.thr]
theorem GE.th {A B : Ab} (h : GE A B) : th A = th B := by
  funext c
  unfold Jvm.Pilot.CLakeLevelsLaw_law_r3285_cc1abe.th
  rw [h.ths]
theorem GE.eg {A B : Ab} (h : GE A B) : eg A = eg B := by
  funext m j
  unfold Jvm.Pilot.CLakeLevelsLaw_law_r3285_cc1abe.eg
  rw [h.nb]
theorem GE.psf {A B : Ab} (h : GE A B) : psf A = psf B := by
  funext m n
  induction n with
  | zero => rfl
  | succ n ih => simp only [Jvm.Pilot.CLakeLevelsLaw_law_r3285_cc1abe.psf]; rw [h.eg, h.th, ih]
theorem GE.ps {A B : Ab} (h : GE A B) : ps A = ps B := by
  funext m
  unfold Jvm.Pilot.CLakeLevelsLaw_law_r3285_cc1abe.ps
  rw [h.psf, h.nn]
theorem GE.pth {A B : Ab} (h : GE A B) : pth A = pth B := by
  funext m
  unfold Jvm.Pilot.CLakeLevelsLaw_law_r3285_cc1abe.pth
  rw [h.th]
theorem GE.psb {A B : Ab} (h : GE A B) : psb A = psb B := by
  funext m
  unfold Jvm.Pilot.CLakeLevelsLaw_law_r3285_cc1abe.psb
  rw [h.nb]
theorem GE.room {A B : Ab} (h : GE A B) : room A = room B := by
  funext m t c
  unfold Jvm.Pilot.CLakeLevelsLaw_law_r3285_cc1abe.room
  rw [h.2.2.1]
theorem GE.cap {A B : Ab} (h : GE A B) : cap A = cap B := by
  funext m
  unfold Jvm.Pilot.CLakeLevelsLaw_law_r3285_cc1abe.cap
  rw [h.ps, h.nn, h.room, h.th]
theorem GE.nd {A B : Ab} (h : GE A B) : nd A = nd B := by
  funext m x
  unfold Jvm.Pilot.CLakeLevelsLaw_law_r3285_cc1abe.nd
  rw [h.nn, h.room]
theorem GE.stp1 {A B : Ab} (h : GE A B) : stp1 A = stp1 B := by
  funext d e
  unfold Jvm.Pilot.CLakeLevelsLaw_law_r3285_cc1abe.stp1
  rw [h.nb, h.2.2.1, h.thr]
theorem GE.Rn {A B : Ab} (h : GE A B) : Rn A = Rn B := by
  funext c k
  induction k with
  | zero => rfl
  | succ k ih => funext d; simp only [Jvm.Pilot.CLakeLevelsLaw_law_r3285_cc1abe.Rn]; rw [ih, h.stp1]
theorem GE.Pl {A B : Ab} (h : GE A B) : Pl A = Pl B := by
  funext c d
  unfold Jvm.Pilot.CLakeLevelsLaw_law_r3285_cc1abe.Pl
  rw [h.Rn]
theorem GE.pl {A B : Ab} (h : GE A B) : pl A = pl B := by
  funext c
  unfold Jvm.Pilot.CLakeLevelsLaw_law_r3285_cc1abe.pl
  rw [h.Pl]
theorem GE.lwf {A B : Ab} (h : GE A B) : lwf A = lwf B := by
  funext a n
  induction n with
  | zero => rfl
  | succ n ih => simp only [Jvm.Pilot.CLakeLevelsLaw_law_r3285_cc1abe.lwf]; rw [ih, h.nb, h.2.2.1, h.thr]
theorem GE.lw {A B : Ab} (h : GE A B) : lw A = lw B := by
  funext a
  unfold Jvm.Pilot.CLakeLevelsLaw_law_r3285_cc1abe.lw
  rw [h.lwf]
theorem GE.wy {A B : Ab} (h : GE A B) : wy A = wy B := by
  funext m
  unfold Jvm.Pilot.CLakeLevelsLaw_law_r3285_cc1abe.wy wyp
  rw [h.lw, h.nn]
theorem GE.tg {A B : Ab} (h : GE A B) : tg A = tg B := by
  funext c
  unfold Jvm.Pilot.CLakeLevelsLaw_law_r3285_cc1abe.tg
  rw [h.pl, h.2.2.2.2.2, h.wy]
theorem GE.lpf {A B : Ab} (h : GE A B) : lpf A = lpf B := by
  funext m n
  induction n with
  | zero => rfl
  | succ n ih => simp only [Jvm.Pilot.CLakeLevelsLaw_law_r3285_cc1abe.lpf]; rw [ih, h.2.2.1]
theorem GE.lp {A B : Ab} (h : GE A B) : lp A = lp B := by
  funext m
  unfold Jvm.Pilot.CLakeLevelsLaw_law_r3285_cc1abe.lp
  rw [h.lpf, h.nn]
theorem GE.WFg {A B : Ab} (h : GE A B) (g : WFg A) : WFg B := by
  unfold Jvm.Pilot.CLakeLevelsLaw_law_r3285_cc1abe.WFg at *
  rw [h.1, h.2.1, h.2.2.1, h.2.2.2.1, h.2.2.2.2.1] at g
  exact g
theorem GE.RG {A B : Ab} (h : GE A B) {g : Nat} {M : Mem} (r : RG g M A) : RG g M B := by
  unfold Jvm.Pilot.CLakeLevelsLaw_law_r3285_cc1abe.RG at *
  rw [h.1, h.2.1, h.nn, h.2.2.2.2.2, h.2.2.1, h.nb, h.gt] at r
  exact r
theorem GE.kl {A B : Ab} (h : GE A B) : kl A = kl B := by
  funext c d
  unfold Jvm.Pilot.CLakeLevelsLaw_law_r3285_cc1abe.kl
  rw [h.2.2.1]
theorem GE.RT {A B : Ab} (h : GE A B) {g : Nat} {M : Mem} (r : RT g M A) : RT g M B := by
  unfold Jvm.Pilot.CLakeLevelsLaw_law_r3285_cc1abe.RT SO at *
  rw [h.nn, h.ths, h.kl] at r
  exact r
/-- the ends of the courses -/
noncomputable def finf (A : Ab) : Nat → Int → Int
  | 0, c => c
  | n + 1, c => if tg A c = -1 then c else finf A n (tg A c)
noncomputable def fin (A : Ab) (c : Int) : Int := finf A 36 c
theorem GE.finf {A B : Ab} (h : GE A B) : finf A = finf B := by
  funext n
  induction n with
  | zero => rfl
  | succ n ih => funext c; simp only [Jvm.Pilot.CLakeLevelsLaw_law_r3285_cc1abe.finf]; rw [ih, h.tg]
theorem GE.fin {A B : Ab} (h : GE A B) : fin A = fin B := by
  funext c
  unfold Jvm.Pilot.CLakeLevelsLaw_law_r3285_cc1abe.fin
  rw [h.finf]
theorem tg_rg {A : Ab} (g : WFg A) {c : Int} (h0 : 0 ≤ c) (h1 : c < nn A) : tg A c = -1 ∨ (0 ≤ tg A c ∧ tg A c < nn A ∧ ht A (tg A c) < ht A c) := by
  unfold tg
  split
  · rcases wy_rg g (pl A c) with e | ⟨a, a0, a1, a2, a3, a4, a5, a6⟩
    · left; exact e
    · have := pl_in g h0 h1 a2
      right; exact ⟨a4, a5, by omega⟩
  · left; rfl
def lower (A : Ab) (c : Int) : Int := ct (nn A).toNat (fun d => decide (ht A d < ht A c))
theorem lower_lt {A : Ab} {c d : Int} (h0 : 0 ≤ d) (h1 : d < nn A) (h : ht A d < ht A c) : lower A d < lower A c := by
  refine sm_lt (k := d.toNat) (fun i _ => ?_) (by omega) ?_
  · by_cases q : ht A (i : Int) < ht A d
    · simp [q, show ht A (i : Int) < ht A c by omega]
    · simp [q]; split <;> omega
  · dsimp only
    simp only [Int.toNat_of_nonneg h0]
    simp [h]
theorem lower_bd {A : Ab} (g : WFg A) {c : Int} (h0 : 0 ≤ c) (h1 : c < nn A) : 0 ≤ lower A c ∧ lower A c ≤ 35 := by
  have hn := nn_bd g
  refine ⟨(ct_bd _ _).1, ?_⟩
  have : lower A c < ct (nn A).toNat (fun _ => true) := by
    refine sm_lt (k := c.toNat) (fun i _ => ?_) (by omega) ?_
    · simp; split <;> omega
    · dsimp only
      simp only [Int.toNat_of_nonneg h0]
      simp
  have := (ct_bd (nn A).toNat (fun _ => true)).2
  omega
theorem finf_ok {A : Ab} (g : WFg A) : ∀ n : Nat, ∀ c, 0 ≤ c → c < nn A → lower A c < n → 0 ≤ finf A n c ∧ finf A n c < nn A ∧ tg A (finf A n c) = -1 := by
  intro n
  induction n with
  | zero =>
    intro c h0 h1 hl
    have := (lower_bd g h0 h1).1
    omega
  | succ n ih =>
    intro c h0 h1 hl
    simp only [finf]
    by_cases e : tg A c = -1
    · rw [if_pos e]; exact ⟨h0, h1, e⟩
    · rw [if_neg e]
      rcases tg_rg g h0 h1 with q | ⟨q0, q1, q2⟩
      · exact absurd q e
      · have := lower_lt q0 q1 q2
        exact ih _ q0 q1 (by omega)
theorem finf_more {A : Ab} (g : WFg A) : ∀ n m : Nat, ∀ c, 0 ≤ c → c < nn A → lower A c < n → n ≤ m → finf A m c = finf A n c := by
  intro n
  induction n with
  | zero =>
    intro m c h0 h1 hl _
    have := (lower_bd g h0 h1).1
    omega
  | succ n ih =>
    intro m c h0 h1 hl hm
    obtain ⟨m', rfl⟩ : ∃ m', m = m' + 1 := ⟨m - 1, by omega⟩
    simp only [finf]
    by_cases e : tg A c = -1
    · rw [if_pos e, if_pos e]
    · rw [if_neg e, if_neg e]
      rcases tg_rg g h0 h1 with q | ⟨q0, q1, q2⟩
      · exact absurd q e
      · have := lower_lt q0 q1 q2
        exact ih m' _ q0 q1 (by omega) (by omega)
theorem fin_rg {A : Ab} (g : WFg A) {c : Int} (h0 : 0 ≤ c) (h1 : c < nn A) : 0 ≤ fin A c ∧ fin A c < nn A ∧ tg A (fin A c) = -1 := finf_ok g 36 c h0 h1 (by have := lower_bd g h0 h1; omega)
theorem fin_stop {A : Ab} {c : Int} (h : tg A c = -1) : fin A c = c := by
  unfold fin
  simp only [finf]
  rw [if_pos h]
theorem fin_next {A : Ab} (g : WFg A) {c : Int} (h0 : 0 ≤ c) (h1 : c < nn A) (h : tg A c ≠ -1) : fin A c = fin A (tg A c) := by
  rcases tg_rg g h0 h1 with q | ⟨q0, q1, q2⟩
  · exact absurd q h
  · have e : fin A c = finf A 35 (tg A c) := by
      unfold fin
      rw [show (36 : Nat) = 35 + 1 from rfl]
      simp only [finf]
      rw [if_neg h]
    have hl := lower_lt q0 q1 q2
    have hb := lower_bd g h0 h1
    rw [e]
    exact (finf_more g 35 36 _ q0 q1 (by omega) (by omega)).symm
theorem tg_pl {A : Ab} (g : WFg A) {c d : Int} (h0 : 0 ≤ c) (h1 : c < nn A) (h : hs (pl A c) d = true) : tg A d = tg A c := by
  unfold tg
  rw [pl_eq g h0 h1 h]
/-- the end as a plain; nothing for the sea -/
noncomputable def en (A : Ab) (c : Int) : Int64 := if pl A c &&& drn A = 0 then pl A c else 0
theorem e_endOf {M : Mem} {A : Ab} (h : RM M A) (g : WFg A) {c : Int} (h0 : 0 ≤ c) (h1 : c < nn A) : MD_endOf (ni c) M = some (en A (fin A c)) := by
  have hn := nn_bd g
  have key : ∃ r, lpR (fun s => MD_endOf_L6 s M) FUEL (pl A c) = some r ∧ (r.elim (fun _ => some (0 : Int64)) (fun r8 => some r8)) = some (en A (fin A c)) := by
    refine lpR_wf (fun m => ∃ d, 0 ≤ d ∧ d < nn A ∧ m = pl A d ∧ fin A d = fin A c) (fun m => (lower A (lo m)).toNat) _ ?_ FUEL _ ⟨c, h0, h1, rfl, rfl⟩ ?_
    · rintro m ⟨d, d0, d1, rfl, hf⟩
      unfold MD_endOf_L6
      rw [RM_dr h, e_way h g, b1_s]
      by_cases e1 : pl A d &&& drn A = 0
      · rw [if_neg (by simp [e1])]
        have ht' : tg A d = wy A (pl A d) := by unfold tg; rw [if_pos e1]
        have htr := tg_rg g d0 d1
        rw [← ht']
        by_cases e2 : tg A d = -1
        · right
          rw [if_neg (by rw [e2]; simp; rfl)]
          refine ⟨_, rfl, ?_⟩
          rw [fin_stop e2] at hf
          show some (pl A d) = _
          rw [← hf]
          unfold en
          rw [if_pos e1]
        · left
          rcases htr with q | ⟨q0, q1, q2⟩
          · exact absurd q e2
          · rw [if_pos (by rw [show (-1 : Int32) = ni (-1) from rfl, ni_eq (by omega) (by omega) (by omega) (by omega)]; exact e2), e_plain h g q0 q1, b1_s]
            refine ⟨_, rfl, ⟨_, q0, q1, rfl, by rw [← fin_next g d0 d1 e2]; exact hf⟩, ?_⟩
            have l1 := lo_spec (pl_ne g d0 d1)
            have l2 := lo_spec (pl_ne g q0 q1)
            have p1 := pl_in g d0 d1 l1.2.1
            have p2 := pl_in g q0 q1 l2.2.1
            have := lower_lt p2.1 p2.2.1 (show ht A (lo (pl A (tg A d))) < ht A (lo (pl A d)) by omega)
            have := (lower_bd g p2.1 p2.2.1).1
            omega
      · right
        rw [if_pos e1]
        refine ⟨_, rfl, ?_⟩
        have e2 : tg A d = -1 := by unfold tg; rw [if_neg e1]
        rw [fin_stop e2] at hf
        rw [← hf]
        unfold en
        rw [if_neg e1]
        rfl
    · have l1 := lo_spec (pl_ne g h0 h1)
      have p1 := pl_in g h0 h1 l1.2.1
      have := lower_bd g p1.1 p1.2.1
      have := FUEL_big
      omega
  obtain ⟨r, k1, k2⟩ := key
  unfold MD_endOf
  rw [e_plain h g h0 h1, b1_s, k1, b1_s]
  exact k2
