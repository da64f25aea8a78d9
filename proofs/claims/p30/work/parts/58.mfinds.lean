/-! 58.mfinds: the other side's finds() -/
theorem mks_cut (p : Nat → Bool) {n m : Nat} (hnm : n ≤ m) (hm : m ≤ 64) (h : ∀ i, n ≤ i → i < m → p i = false) : mks p m = mks p n := by
  induction m with
  | zero => obtain rfl : n = 0 := by omega
            rfl
  | succ m ih =>
    by_cases e : n = m + 1
    · rw [e]
    · simp only [mks]
      rw [h m (by omega) (by omega), if_neg (by simp), ih (by omega) (by omega) (fun i a b => h i a (by omega))]
theorem MD_many_of {M : Mem} {A : Ab} {M' : Mem} (h : RM M A) (e : ∀ q, q < 116 → gL M' 1 q = gL M 1 q) : MD_many M' = ni (nn A) := by
  unfold MD_many
  rw [e 0 (by omega), e 1 (by omega), RM_W h, RM_H h, nl_mul, nl_32]
  rfl
theorem ix_add (a : Nat) {i : Int} (h0 : 0 ≤ i) (h1 : (a : Int) + i < 2147483648) : (ni (a : Int) + ni i).toNatClampNeg = a + i.toNat := by
  rw [ni_add, ni_nat (by omega) h1]; omega
noncomputable def fb (A : Ab) (n : Int) (b : Nat) : Int := if (b : Int) < nn A then (if 0 ≤ bsn A b ∧ bsn A b < n then bsn A b else -1) else bas A b
noncomputable def mb (A : Ab) (n : Int) (k : Nat) : Int64 := if (k : Int) < n then mk A k else 0
theorem e_finds3 {M0 M : Mem} {A : Ab} (h : RM M0 A) (g : WFg A) {c : Nat} (hc : (c : Int) < nn A) (hl : ldr A c = true) (hN : NI M0 A (ldn A c) (ppt A c) (fb A (ldn A c)) (mb A (ldn A c)) M) :
    ∃ r M', lpM (fun s M9 => MD_finds_L114 (ni (ldn A c)) (ni (c : Int)) s M9) FUEL (0 : Int32) M = some (r, M') ∧ NI M0 A (ldn A c) (ppt A c) (fb A (ldn A c + 1)) (mb A (ldn A c + 1)) M' := by
  have hn := nn_bd g
  have hb := ldn_bd A c
  generalize hnn : ldn A c = n at *
  have hfin : (fun b : Nat => if (b : Int) < nn A ∧ bsn A b = n then n else fb A n b) = fb A (n + 1) := by
    funext b
    unfold fb
    by_cases q : (b : Int) < nn A
    · simp only [q, true_and, if_true]
      by_cases r : bsn A b = n
      · rw [if_pos r, if_pos (by omega), r]
      · rw [if_neg r]
        by_cases s : 0 ≤ bsn A b ∧ bsn A b < n
        · rw [if_pos s, if_pos (by omega)]
        · rw [if_neg s, if_neg (by omega)]
    · simp [q]
  have hmask : mks (fun b => decide ((b : Int) < nn A ∧ bsn A b = n)) (nn A).toNat = mk A n := by
    unfold mk
    have : (fun b : Nat => decide (0 ≤ n ∧ (b : Int) < nn A ∧ bsn A b = n)) = (fun b : Nat => decide ((b : Int) < nn A ∧ bsn A b = n)) := by
      funext b
      simp only [show (0 ≤ n) by omega, true_and]
    rw [this]
    exact (mks_cut _ (by omega) (by omega) (fun i a b => by simp; intro; omega)).symm
  have key : ∃ r M', lpM (fun s M9 => MD_finds_L114 (ni n) (ni (c : Int)) s M9) FUEL (0 : Int32) M = some (r, M') ∧ NI M0 A n (ppt A c) (fun b => if (b : Int) < nn A ∧ bsn A b = n then n else fb A n b) (fun k => if (k : Int) = n then mk A n else mb A n k) M' := by
    refine lpM_to (nn A).toNat (by omega) (fun i s M' => s = ni (i : Int) ∧ NI M0 A n (ppt A c) (fun b => if b < i ∧ (b : Int) < nn A ∧ bsn A b = n then n else fb A n b) (fun k => if (k : Int) = n then mks (fun b => decide ((b : Int) < nn A ∧ bsn A b = n)) i else mb A n k) M') _ ?_ ?_ ⟨rfl, ?_⟩
    · rintro i hi s M1 ⟨rfl, f1, f2, f3, f4, f5, f6, f7, f8⟩
      dsimp only at f3 f4
      have e1 := f8 i (by omega)
      have e2 := f8 c hc
      have hfc : fin A c = c := fin_stop (ipt_iff.mp (ldr_iff.mp hl).1).1
      have hec : en A (fin A c) = pl A c := by
        rw [hfc]; unfold en; rw [if_pos (ipt_iff.mp (ldr_iff.mp hl).1).2]
      rw [hec] at e2
      have hiff := bsn_ldr g (c := c) (b := (i : Int)) (by omega) hc hl (by omega) (by omega)
      rw [show (c : Int).toNat = c from rfl, hnn] at hiff
      have hold : gL M1 1 (152 + n.toNat) = mks (fun b => decide ((b : Int) < nn A ∧ bsn A b = n)) i := by
        rw [f4 n.toNat (by omega), if_pos (by omega)]
      unfold MD_finds_L114 MD_finds_L114_J143 MD_finds_L114_J172
      rw [MD_many_of h f2]
      simp (disch := omega) only [ni_le, ni_inb, ni_nat, Int.toNat_natCast, e1, e2, hiff, show (116 : Int32) = ni 116 from rfl, show (152 : Int32) = ni 152 from rfl, ni_add, ni_s, show (116 + (i : Int)).toNat = 116 + i by omega, show (152 + n).toNat = 152 + n.toNat by omega, ni_64, show nM 1 = 513 from rfl]
      rw [if_neg (by omega), ck_d (by omega), ck_d (by omega)]
      by_cases q : bsn A (i : Int) = n
      · rw [if_neg (by simp [q]), if_neg (by decide), ck_d (by omega), ck_d (by omega), ck_d (by omega), if_neg (by decide)]
        refine ⟨_, _, rfl, rfl, FrF_s (FrF_s f1 (by omega) _ _) (by omega) _ _, ?_, ?_, ?_, ?_, ?_, ?_, ?_⟩
        · intro j hj
          rw [gL_s1, if_neg (by omega), gL_s1, if_neg (by omega)]; exact f2 j hj
        · intro b hb'
          try dsimp only
          rw [gL_s1, if_neg (by omega), gL_s1]
          by_cases e : b = i
          · subst e
            rw [if_pos rfl, if_pos (by omega)]
          · rw [if_neg (by omega), f3 b hb']
            congr 1
            by_cases z : b < i
            · simp only [z, show b < i + 1 by omega]
            · simp only [z, show ¬ b < i + 1 by omega]
        · intro k hk
          try dsimp only
          rw [gL_s1]
          by_cases e : (k : Int) = n
          · rw [if_pos (by omega), gL_s1, if_neg (show ¬ 152 + n.toNat = 116 + i by omega), hold, if_pos e]
            simp only [mks]
            rw [if_pos (by simp [q]; omega)]
            rfl
          · rw [if_neg (by omega), gL_s1, if_neg (by omega), f4 k hk, if_neg e, if_neg e]
        · intro j h1 h2
          rw [gL_s1, if_neg (by omega), gL_s1, if_neg (by omega)]; exact f5 j h1 h2
        · intro k hk
          try dsimp only
          rw [gL_s1, if_neg (by omega), gL_s1, if_neg (by omega)]; exact f6 k hk
        · rw [gL_s1, if_neg (by omega), gL_s1, if_neg (by omega)]; exact f7
        · intro b hb'
          try dsimp only
          rw [gL_s41, gL_s41]; exact f8 b hb'
      · rw [if_pos (by simpa using q), if_pos trivial, ck_d (by omega), ck_d (by omega), ck_d (by omega), ck_d (by omega), if_pos trivial]
        have same : ∀ j, gL (sL (sL M1 1 (116 + i) (gL M1 1 (116 + i))) 1 (152 + n.toNat) (gL (sL M1 1 (116 + i) (gL M1 1 (116 + i))) 1 (152 + n.toNat) ||| (0 : Int64))) 1 j = gL M1 1 j := by
          intro j
          rw [gL_s1]
          by_cases e : j = 152 + n.toNat
          · rw [if_pos e, gL_s1, if_neg (show ¬ 152 + n.toNat = 116 + i by omega), e]; simp
          · rw [if_neg e, gL_s1]
            by_cases e' : j = 116 + i
            · rw [if_pos e', e']
            · rw [if_neg e']
        refine ⟨_, _, rfl, rfl, FrF_s (FrF_s f1 (by omega) _ _) (by omega) _ _, ?_, ?_, ?_, ?_, ?_, ?_, ?_⟩
        · intro j hj; rw [same]; exact f2 j hj
        · intro b hb'
          try dsimp only
          rw [same, f3 b hb']
          congr 1
          by_cases z : b < i
          · simp only [z, show b < i + 1 by omega]
          · by_cases e : b = i
            · subst e; simp [q]
            · simp only [z, show ¬ b < i + 1 by omega]
        · intro k hk
          try dsimp only
          rw [same, f4 k hk]
          by_cases e : (k : Int) = n
          · rw [if_pos e, if_pos e]
            simp only [mks]
            rw [if_neg (by simp [q])]
          · rw [if_neg e, if_neg e]
        · intro j h1 h2; rw [same]; exact f5 j h1 h2
        · intro k hk; rw [same]; exact f6 k hk
        · rw [same]; exact f7
        · intro b hb'
          try dsimp only
          rw [gL_s41, gL_s41]; exact f8 b hb'
    · rintro s M1 ⟨rfl, f1, f2, f3, f4, f5⟩
      dsimp only at f3 f4
      refine ⟨(), M1, ?_, f1, f2, ?_, ?_, f5⟩
      · unfold MD_finds_L114
        rw [MD_many_of h f2]
        simp (disch := omega) only [ni_le]
        rw [if_pos (by omega)]
      · intro b hb'
        try dsimp only
        rw [f3 b hb']
        congr 1
        by_cases z : (b : Int) < nn A
        · simp only [z, show b < (nn A).toNat by omega, true_and]
        · simp [z]
      · intro k hk
        try dsimp only
        rw [f4 k hk, hmask]
    · obtain ⟨f1, f2, f3, f4, f5⟩ := hN
      refine ⟨f1, f2, ?_, ?_, f5⟩
      · intro b hb'
        try dsimp only
        rw [f3 b hb']
        simp
      · intro k hk
        try dsimp only
        rw [f4 k hk]
        by_cases e : (k : Int) = n
        · rw [if_pos e]; unfold mb; rw [if_neg (by omega)]; rfl
        · rw [if_neg e]
  obtain ⟨r, M', k1, f1, f2, f3, f4, f5⟩ := key
  refine ⟨r, M', k1, f1, f2, ?_, ?_, f5⟩
  · intro b hb'
    try dsimp only
    rw [f3 b hb', ← hfin]
  · intro k hk
    try dsimp only
    rw [f4 k hk]
    dsimp only
    unfold mb
    by_cases e : (k : Int) = n
    · rw [if_pos e, if_pos (by omega), e]
    · rw [if_neg e]
      by_cases q : (k : Int) < n
      · rw [if_pos q, if_pos (by omega)]
      · rw [if_neg q, if_neg (by omega)]
theorem e_finds {M : Mem} {A : Ab} (h : RM M A) (g : WFg A) : ∃ M', MD_finds M = some ((), M') ∧ RM M' (fnd A) ∧ FrF M M' := by
  have hn := nn_bd g
  -- the forest is emptied
  have l1 : ∃ r M1, lpM (fun s M9 => MD_finds_L4 s M9) FUEL (152 : Int32) M = some (r, M1) ∧ (FrF M M1 ∧ (∀ q, q < 152 → gL M1 1 q = gL M 1 q) ∧ (∀ q, 152 ≤ q → q < 513 → gL M1 1 q = 0)) := by
    refine lpM_to 361 (by omega) (fun i s M' => s = ni ((152 + i : Nat) : Int) ∧ FrF M M' ∧ (∀ q, q < 152 → gL M' 1 q = gL M 1 q) ∧ (∀ q, 152 ≤ q → q < 152 + i → gL M' 1 q = 0)) _ ?_ ?_ ⟨rfl, FrF.refl M, fun _ _ => rfl, fun q a b => by omega⟩
    · rintro i hi s M1 ⟨rfl, f1, f2, f3⟩
      unfold MD_finds_L4
      simp (disch := omega) only [show (513 : Int32) = ni 513 from rfl, ni_le, ni_inb, ni_nat, Int.toNat_natCast, ni_s]
      rw [if_neg (by omega), ck_d (by omega)]
      refine ⟨_, _, rfl, rfl, FrF_s f1 (by omega) _ _, ?_, ?_⟩
      · intro q hq; rw [gL_s1, if_neg (by omega)]; exact f2 q hq
      · intro q a b
        rw [gL_s1]
        by_cases e : q = 152 + i
        · rw [if_pos e]
        · rw [if_neg e]; exact f3 q a (by omega)
    · rintro s M1 ⟨rfl, f1, f2, f3⟩
      refine ⟨(), M1, ?_, f1, f2, fun q a b => f3 q a (by omega)⟩
      unfold MD_finds_L4
      rw [if_pos (by decide)]
  obtain ⟨r1, M1, k1, f1, f2, f3⟩ := l1
  -- the ends of the courses
  have l2 : ∃ r M2, lpM (fun s M9 => MD_finds_L26 s M9) FUEL (0 : Int32) M1 = some (r, M2) ∧ NI M A 0 0 (fb A 0) (mb A 0) M2 := by
    refine lpM_to (nn A).toNat (by omega) (fun i s M' => s = ni (i : Int) ∧ FrF M M' ∧ (∀ q, q < 116 → gL M' 1 q = gL M 1 q) ∧ (∀ b : Nat, b < 36 → gL M' 1 (116 + b) = nl (if b < i then -1 else bas A b)) ∧ (∀ q, 152 ≤ q → q < 513 → gL M' 1 q = 0) ∧ ∀ b : Nat, b < i → gL M' 4 b = en A (fin A b)) _ ?_ ?_ ⟨rfl, f1, fun q hq => f2 q (by omega), ?_, f3, fun b hb => by omega⟩
    · rintro i hi s M' ⟨rfl, d1, d2, d3, d4, d5⟩
      obtain ⟨A', hR, hGE⟩ := RM_any h (fun q hq _ => d2 q hq)
      have he := e_endOf hR (hGE.WFg g) (c := (i : Int)) (by omega) (by rw [← hGE.nn]; omega)
      have hen : en A' (fin A' (i : Int)) = en A (fin A (i : Int)) := by
        unfold en
        rw [hGE.fin, hGE.pl, hGE.2.2.2.2.2]
      rw [hen] at he
      unfold MD_finds_L26
      rw [MD_many_of h d2, he, b1_s]
      simp (disch := omega) only [ni_le, ni_inb, ni_nat, Int.toNat_natCast, show (116 : Int32) = ni 116 from rfl, ni_add, ni_s, show (116 + (i : Int)).toNat = 116 + i by omega]
      rw [if_neg (by omega), ck_d (by omega), ck_d (by omega)]
      refine ⟨_, _, rfl, rfl, FrF_s (FrF_s d1 (by omega) _ _) (by omega) _ _, ?_, ?_, ?_, ?_⟩
      · intro q hq; rw [gL_s1, if_neg (by omega), gL_s4]; exact d2 q hq
      · intro b hb
        rw [gL_s1, gL_s4]
        by_cases e : b = i
        · subst e; rw [if_pos rfl, if_pos (by omega)]; rfl
        · rw [if_neg (by omega), d3 b hb]
          by_cases z : b < i
          · simp only [z, show b < i + 1 by omega]
          · simp only [z, show ¬ b < i + 1 by omega]
      · intro q a b; rw [gL_s1, if_neg (by omega), gL_s4]; exact d4 q a b
      · intro b hb
        rw [gL_s41, gL_s44]
        by_cases e : b = i
        · rw [if_pos e, e]
        · rw [if_neg e]; exact d5 b (by omega)
    · rintro s M' ⟨rfl, d1, d2, d3, d4, d5⟩
      refine ⟨(), M', ?_, d1, d2, ?_, ?_, fun q a b => d4 q (by omega) (by omega), ?_, d4 512 (by omega) (by omega), fun b hb => d5 b (by omega)⟩
      · unfold MD_finds_L26
        rw [MD_many_of h d2]
        simp (disch := omega) only [ni_le]
        rw [if_pos (by omega)]
      · intro b hb
        rw [d3 b hb]
        refine congrArg nl ?_
        unfold fb
        by_cases z : (b : Int) < nn A
        · rw [if_pos (by omega), if_pos z, if_neg (by omega)]
        · rw [if_neg (by omega), if_neg z]
      · intro k hk
        rw [d4 _ (by omega) (by omega)]
        unfold mb
        rw [if_neg (by omega)]
      · intro k hk
        rw [d4 _ (by omega) (by omega), if_neg (by omega)]
    · intro b hb
      rw [f2 _ (by omega), if_neg (by omega)]
      have := RM_bas h (c := (b : Int)) (by omega) (by omega)
      exact this
  obtain ⟨r2, M2, k2, hN2⟩ := l2
  have hp0 : ppt A 0 = 0 := by
    apply hs_ext
    intro c c0 c1
    rw [hs_zero]
    cases q : hs (ppt A 0) c with
    | false => rfl
    | true =>
      have hq := (ppt_hs g 0 c).mp q
      have := lo_spec (pl_ne g hq.1 hq.2.1)
      omega
  have l3 : ∃ r M3, lpM (fun s M9 => MD_finds_L67 s.1 s.2 M9) FUEL ((0 : Int32), (0 : Int32)) M2 = some (r, M3) ∧ (r = ni (npt A) ∧ NI M A (npt A) (ppt A (nn A).toNat) (fb A (npt A)) (mb A (npt A)) M3) := by
    refine lpM_to (nn A).toNat (by omega) (fun c s M' => s = (ni (ldn A c), ni (c : Int)) ∧ NI M A (ldn A c) (ppt A c) (fb A (ldn A c)) (mb A (ldn A c)) M') _ ?_ ?_ ⟨rfl, by rw [hp0]; exact hN2⟩
    · rintro c hc s M' ⟨rfl, hN⟩
      have hNs := hN
      obtain ⟨d1, d2, d3, d4, d5, d6, d7, d8⟩ := hN
      have e4 := d8 c (by omega)
      have hlb := ldn_bd A c
      obtain ⟨fr0, fr1, fr2⟩ := fin_rg g (show 0 ≤ (c : Int) by omega) (by omega)
      have pstay : ldr A c = false → ppt A (c + 1) = ppt A c := by
        intro hl
        apply hs_ext
        intro z z0 z1
        rw [Bool.eq_iff_iff, ppt_hs g, ppt_hs g]
        constructor
        · rintro ⟨a, b, d, e⟩
          refine ⟨a, b, d, ?_⟩
          by_cases q : lo (pl A z) = c
          · have := (pit_ldr g a b d).2.2.1
            rw [q, hl] at this; cases this
          · omega
        · rintro ⟨a, b, d, e⟩
          exact ⟨a, b, d, by omega⟩
      have stay : ldr A c = false → ∃ s' M'', some (Sum.inl (ni (ldn A c), ni ((c + 1 : Nat) : Int)), M') = some ((Sum.inl s' : (Int32 × Int32) ⊕ Int32), M'') ∧ s' = (ni (ldn A (c + 1)), ni ((c + 1 : Nat) : Int)) ∧ NI M A (ldn A (c + 1)) (ppt A (c + 1)) (fb A (ldn A (c + 1))) (mb A (ldn A (c + 1))) M'' := by
        intro hl
        have e : ldn A (c + 1) = ldn A c := by rw [ldn_succ, hl]; simp
        exact ⟨_, M', rfl, by rw [e], by rw [e, pstay hl]; exact hNs⟩
      unfold MD_finds_L67
      dsimp only
      rw [MD_many_of h d2]
      simp (disch := omega) only [ni_le, ni_inb, ni_nat, Int.toNat_natCast, e4, MD_has_eq, bI_z, ni_s]
      rw [if_neg (by omega), ck_d (by omega), ck_d (by omega), ck_d (by omega)]
      by_cases z1 : en A (fin A (c : Int)) = 0
      · rw [if_pos z1]
        apply stay
        cases q : ldr A c with
        | false => rfl
        | true =>
          have hi := (ldr_iff.mp q).1
          rw [fin_stop (ipt_iff.mp hi).1] at z1
          unfold en at z1
          rw [if_pos (ipt_iff.mp hi).2] at z1
          exact absurd z1 (pl_ne g (by omega) (by omega))
      · rw [if_neg z1]
        have hen : en A (fin A (c : Int)) = pl A (fin A (c : Int)) := by
          unfold en at z1 ⊢
          split at z1
          · rename_i w; rw [if_pos w]
          · exact absurd rfl z1
        have hi : ipt A (fin A c) = true := by
          refine ipt_iff.mpr ⟨fr2, ?_⟩
          unfold en at z1
          split at z1
          · assumption
          · exact absurd rfl z1
        rw [hen]
        by_cases z2 : hs (pl A (fin A (c : Int))) c = true
        · rw [if_neg (by simp [z2])]
          have hic : ipt A c = true := by rw [ipt_pl g fr0 fr1 z2]; exact hi
          have hfc := fin_stop (ipt_iff.mp hic).1
          rw [hfc, MD_lowest_eq (pl_ne g (by omega) (by omega)), b1_s]
          have hlo := lo_spec (pl_ne g (show 0 ≤ (c : Int) by omega) (by omega))
          simp (disch := omega) only [ni_eq]
          by_cases z3 : lo (pl A (c : Int)) = c
          · have hl : ldr A c = true := ldr_iff.mpr ⟨hic, z3⟩
            obtain ⟨r, M3, q1, q2⟩ := e_finds3 h g (c := c) (by omega) hl hNs
            obtain ⟨g1, g2, g3, g4, g5, g6, g7, g8⟩ := q2
            have e4' := g8 c (by omega)
            rw [hfc] at e4'
            have henc : en A (c : Int) = pl A (c : Int) := by unfold en; rw [if_pos (ipt_iff.mp hic).2]
            rw [henc] at e4'
            rw [if_neg (by simp [z3]), q1, b2_s]
            have hl2 := ldn_mono A (show c + 1 ≤ (nn A).toNat by omega)
            have hl3 := ldn_bd A (nn A).toNat
            have es : ldn A (c + 1) = ldn A c + 1 := by rw [ldn_succ, hl, if_pos rfl]
            simp (disch := omega) only [ni_inb, show (440 : Int32) = ni 440 from rfl, ni_add, ni_nat, show (1 : Int32) = ni 1 from rfl, show (440 + ldn A c).toNat = 440 + (ldn A c).toNat by omega, e4']
            rw [ck_d (by omega), ck_d (by omega)]
            refine ⟨_, _, rfl, by rw [es], FrF_s (FrF_s g1 (by omega) _ _) (by omega) _ _, ?_, ?_, ?_, ?_, ?_, ?_, ?_⟩
            · intro j hj; rw [gL_s1, if_neg (by omega), gL_s1, if_neg (by omega)]; exact g2 j hj
            · intro b hb; rw [gL_s1, if_neg (by omega), gL_s1, if_neg (by omega), es]; exact g3 b hb
            · intro k hk; rw [gL_s1, if_neg (by omega), gL_s1, if_neg (by omega), es]; exact g4 k hk
            · intro j a b; rw [gL_s1, if_neg (by omega), gL_s1, if_neg (by omega)]; exact g5 j a b
            · intro k hk
              rw [gL_s1]
              by_cases e : (k : Int) = ldn A c
              · rw [if_pos (by omega), if_pos (by omega)]; rfl
              · rw [if_neg (by omega), gL_s1, if_neg (by omega), g6 k hk]
                by_cases y : (k : Int) < ldn A c
                · rw [if_pos y, if_pos (by omega)]
                · rw [if_neg y, if_neg (by omega)]
            · rw [gL_s1, if_neg (by omega), gL_s1, if_pos rfl, g7]
              apply hs_ext
              intro z w0 w1
              rw [Bool.eq_iff_iff, hs_or, Bool.or_eq_true, ppt_hs g, ppt_hs g]
              constructor
              · rintro (⟨a, b, d, e⟩ | e)
                · exact ⟨a, b, d, by omega⟩
                · have hr := pl_in g (show 0 ≤ (c : Int) by omega) (by omega) e
                  refine ⟨hr.1, hr.2.1, by rw [ipt_pl g (by omega) (by omega) e]; exact hic, ?_⟩
                  rw [pl_eq g (by omega) (by omega) e, z3]; omega
              · rintro ⟨a, b, d, e⟩
                by_cases y : lo (pl A z) = c
                · right
                  have l := lo_spec (pl_ne g a b)
                  rw [y] at l
                  rw [pl_eq g a b l.2.1]
                  exact pl_self g a b
                · left; exact ⟨a, b, d, by omega⟩
            · intro b hb; rw [gL_s41, gL_s41]; exact g8 b hb
          · rw [if_pos z3]
            apply stay
            cases q : ldr A c with
            | false => rfl
            | true => exact absurd (ldr_iff.mp q).2 z3
        · rw [if_pos z2]
          apply stay
          cases q : ldr A c with
          | false => rfl
          | true =>
            have hic := (ldr_iff.mp q).1
            rw [fin_stop (ipt_iff.mp hic).1] at z2
            exact absurd (pl_self g (by omega) (by omega)) z2
    · rintro s M' ⟨rfl, hN⟩
      refine ⟨ni (npt A), M', ?_, rfl, hN⟩
      unfold MD_finds_L67
      dsimp only
      rw [MD_many_of h hN.2.1]
      simp (disch := omega) only [ni_le]
      rw [if_pos (by omega)]
      rfl
  obtain ⟨r3, M3, k3, rfl, d1, d2, d3, d4, d5, d6, d7, d8⟩ := l3
  have hnp := npt_bd g
  refine ⟨sL M3 1 6 (ni (npt A)).toInt64, ?_, ?_, FrF_s d1 (by omega) _ _⟩
  · unfold MD_finds
    rw [k1, b2_s, k2, b2_s, k3, b2_s]
  · obtain ⟨q0, q1, q2, q3, q4, q5, q6, q7, q8, q9, q10, q11, q12, q13, q14, q15, q16⟩ := h
    have sk : ∀ j, j ≠ 6 → gL (sL M3 1 6 (ni (npt A)).toInt64) 1 j = gL M3 1 j := fun j hj => by rw [gL_s1, if_neg hj]
    refine ⟨?_, ?_, ?_, ?_, ?_, ?_, ?_, ?_, ?_, ?_, ?_, ?_, ?_, ?_, ?_, ?_, ?_⟩
    · intro c hc; rw [sk _ (by omega), d2 _ (by omega), q0 c hc]; simp [fnd, ht]
    · intro c hc; rw [sk _ (by omega), d2 _ (by omega), q1 c hc]; simp [fnd, grt]
    · intro c hc; rw [sk _ (by omega), d2 _ (by omega), q2 c hc]; simp [fnd, gdn]
    · intro c hc
      rw [sk _ (by omega), d3 c hc]
      refine congrArg nl ?_
      unfold fb
      simp only [fnd, bas]
      by_cases z : (c : Int) < nn A
      · have := bsn_rg g (show 0 ≤ (c : Int) by omega) z
        rw [if_pos z]
        simp [z]
        intro w
        omega
      · rw [if_neg z]
        simp [z]
    · intro k hk
      rw [sk _ (by omega), d4 k hk]
      simp only [fnd, msk]
      simp
      unfold mb
      split
      · rfl
      · rename_i w
        apply hs_ext
        intro c c0 c1
        rw [hs_zero]
        cases z : hs (mk A k) c with
        | false => rfl
        | true =>
          have := (mk_hs g k c).mp z
          have := bsn_rg g this.2.1 this.2.2.1
          omega
    · intro c hc; rw [sk _ (by omega), d5 _ (by omega) (by omega)]; simp [fnd, vol]; rfl
    · intro c hc; rw [sk _ (by omega), d5 _ (by omega) (by omega)]; simp [fnd, fst]; rfl
    · intro c hc; rw [sk _ (by omega), d5 _ (by omega) (by omega)]; simp [fnd, snd]; rfl
    · intro c hc
      rw [sk _ (by omega), d6 c hc]
      simp only [fnd, there]
      simp
      split <;> rfl
    · rw [sk _ (by omega), d2 _ (by omega), q9]; simp [fnd, wd]
    · rw [sk _ (by omega), d2 _ (by omega), q10]; simp [fnd, hg]
    · rw [sk _ (by omega), d2 _ (by omega), q11]; simp [fnd, drn]
    · rw [sk _ (by omega), d2 _ (by omega), q12]; simp [fnd, lst]
    · rw [sk _ (by omega), d2 _ (by omega), q13]; simp [fnd, gon]
    · rw [sk _ (by omega), d2 _ (by omega), q14]; simp [fnd, prd]
    · rw [gL_s1, if_pos rfl, ni_64 (by omega) (by omega)]; simp [fnd, bnn]
    · rw [sk _ (by omega), d7]
      simp only [fnd, pits]
      simp
      apply hs_ext
      intro z w0 w1
      rw [Bool.eq_iff_iff, ppt_hs g, pts_hs g]
      constructor
      · rintro ⟨a, b, d, e⟩; exact ⟨a, b, d⟩
      · rintro ⟨a, b, d⟩
        refine ⟨a, b, d, ?_⟩
        have := pit_ldr g a b d
        omega
