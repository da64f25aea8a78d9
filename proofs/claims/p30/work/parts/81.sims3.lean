/-! 81.sims3: cell, count, course -/
theorem bI_ni {p : Prop} [Decidable p] : bI p = ni (if p then 1 else 0) := by
  unfold bI; split <;> rfl
theorem b01 {p : Prop} [Decidable p] : (if bI p = 0 then (0 : Int32) else (1 : Int32)) = bI p := by
  unfold bI; by_cases h : p <;> simp [h]
noncomputable def cv (A : Ab) (c k : Int) : Int :=
  if k = 0 then ht A c else if k = 1 then (if hs (drn A) c = true then 1 else 0) else if k = 2 then bas A c
  else if k = 3 then (if lk A c = -1 then -1 else lown A (lo (msk A (lk A c))).toNat)
  else if k = 4 then (if isw A c = true then 1 else 0) else (if ipt A c = true then 1 else 0)
theorem c_isInPit {Mc : Mem} {A : Ab} (hC : RW 1 Mc A) (g : WFg A) (hB : BS A) {c : Int} (h0 : 0 ≤ c) (h1 : c < nn A) : WY_isInPit 13 (ni c) Mc = bI (ipt A c = true) := by
  have hn := nn_bd g
  have htr := tg_rg g h0 h1
  have hbr := bsn_rg g h0 h1
  have hnp := npt_bd g
  have e1 := (hC.1.2.2.1.2.1 c h0 h1).2
  have e2 := hC.1.2.2.1.2.2 c h0 (by omega)
  rw [if_pos h1, hB.2.1 c h0 h1] at e2
  unfold WY_isInPit
  rw [e1, e2]
  simp (disch := omega) only [show (-1 : Int32) = ni (-1) from rfl, ni_eq]
  by_cases z : tg A c = -1
  · rw [if_neg (by simp [z])]
    by_cases y : ipt A c = true
    · have := (bsn_pit y).2
      have hl := ldn_bd A (lo (pl A c)).toNat
      rw [if_neg (by omega), bI_t y]
    · rw [bI_f y]
      have : bsn A c = -1 := by
        unfold bsn
        rw [fin_stop z, if_neg y]
      rw [if_pos this]
  · rw [if_pos z]
    have : ¬ ipt A c = true := fun y => z (ipt_iff.mp y).1
    rw [bI_f this]
theorem c_cell {Mc : Mem} {A : Ab} (hC : RW 1 Mc A) (hW : WF A) (hB : BS A) {c k : Int} (h0 : 0 ≤ c) (h1 : c < nn A) (k0 : 0 ≤ k ∧ k ≤ 5) : LL_cellValue (ni c) (ni k) Mc = some (ni (cv A c k)) := by
  have hn := nn_bd hW.1
  have zl := (sz_w (w := 1) (Or.inl rfl)).2.2.1
  have e0 := hC.1.1.2.1 c h0 (by omega)
  have e2 := hC.1.2.2.1.2.2 c h0 (by omega)
  rw [if_pos h1] at e2
  unfold LL_cellValue cv
  rw [e0, hC.1.1.1.2.2.2, show (18 : Nat) = 1 + 12 + 5 from rfl, e2, c_numberAt hC.1.2.2.2 hW.2.1 hW.1 h0 (by omega), b1_s, c_isWet hC.1.1 hC.1.2.1 hC.1.2.2.2 hW.1 hW.2.1 zl h0 (by omega), b1_s, c_isInPit hC hW.1 hB h0 h1, LL_has_eq _ h0 (by omega), b01, b01, b01]
  simp (disch := omega) only [show (0 : Int32) = ni 0 from rfl, show (1 : Int32) = ni 1 from rfl, show (2 : Int32) = ni 2 from rfl, show (3 : Int32) = ni 3 from rfl, show (4 : Int32) = ni 4 from rfl, ni_eq, bI_ni]
  (repeat' split) <;> rfl
theorem e_cell {M : Mem} {A : Ab} (hM : RM M A) (hW : WF A) (hB : BS A) {c k : Int} (h0 : 0 ≤ c) (h1 : c < nn A) (k0 : 0 ≤ k ∧ k ≤ 5) : ∃ M', MD_cellValue (ni c) (ni k) M = some (ni (cv A c k), M') ∧ FS M M' := by
  have hn := nn_bd hW.1
  have hl := lk_rg hW.2.1 c
  unfold MD_cellValue cv
  rw [e_lakeOf hM hW.2.1 h0 (by omega), b1_s, e_height hM h0 (by omega), b1_s, RM_dr hM, RM_pits hM, MD_has_eq _ h0 (by omega), MD_has_eq _ h0 (by omega), b01, b01]
  simp (disch := omega) only [show (0 : Int32) = ni 0 from rfl, show (2 : Int32) = ni 2 from rfl, show (1 : Int32) = ni 1 from rfl, show (3 : Int32) = ni 3 from rfl, show (4 : Int32) = ni 4 from rfl, show (116 : Int32) = ni 116 from rfl, ni_neg, ni_eq, ni_add, ni_inb, ni_nat, show (116 + c).toNat = 116 + c.toNat by omega, RM_bas hM h0 (show c < 36 by omega), nl_32]
  by_cases q0 : k = 0
  · rw [if_pos q0, if_pos q0]; exact ⟨_, rfl, FS.rfl'⟩
  rw [if_neg q0, if_neg q0]
  by_cases q1 : k = 1
  · rw [if_pos q1, if_pos q1, bI_ni]; exact ⟨_, rfl, FS.rfl'⟩
  rw [if_neg q1, if_neg q1]
  by_cases q2 : k = 2
  · rw [if_pos q2, if_pos q2, ck_d (by omega)]; exact ⟨_, rfl, FS.rfl'⟩
  rw [if_neg q2, if_neg q2]
  by_cases q3 : k = 3
  · rw [if_pos q3, if_pos q3]
    obtain ⟨M1, p1, p2, p3⟩ := e_orders hM hW.1 hW.2.1
    rw [p1, b2_s]
    by_cases z : lk A c = -1
    · rw [if_neg (by simp [z]), if_pos z]; exact ⟨_, rfl, FrO_FS p2⟩
    · rw [if_pos z, if_neg z]
      obtain ⟨z0, z1, z2, _⟩ := hl.resolve_left z
      rw [e_numberOf hW.1 hW.2.1 p3 z0 (by omega) z2, b1_s]
      exact ⟨_, rfl, FrO_FS p2⟩
  rw [if_neg q3, if_neg q3]
  by_cases q4 : k = 4
  · rw [if_pos q4, if_pos q4]
    obtain ⟨M1, p1, p2⟩ := e_isWet hM hW.1 hW.2.1 h0 h1
    rw [p1, b2_s, show ni 0 = (0 : Int32) from rfl, show ni 1 = (1 : Int32) from rfl, b01, bI_ni]
    exact ⟨_, rfl, FrL_FS p2⟩
  rw [if_neg q4, if_neg q4]
  refine ⟨M, ?_, FS.rfl'⟩
  rw [bI_ni]
  have : (hs (pits A) c = true) = (ipt A c = true) := by
    rw [hB.2.2]
    refine propext ⟨fun z => ((pts_hs hW.1 c).mp z).2.2, fun z => (pts_hs hW.1 c).mpr ⟨h0, h1, z⟩⟩
  simp only [this]
theorem sim5 : Sim5 Inv := by
  intro Mc Mm a0 a1 hI
  have hI0 := hI
  obtain ⟨A, hC, hM, hW, hw, hS, hT⟩ := hI
  have hn := nn_bd hW.1
  obtain ⟨c, hc, rfl⟩ := i32 a0
  obtain ⟨k, hk, rfl⟩ := i32 a1
  unfold MD_cell LL_cell
  rw [e_isCell hM hW.1 hc.1 hc.2, ni_64 hk.1 hk.2, show (0 : Int64) = nl 0 from rfl, show (5 : Int64) = nl 5 from rfl, e_in (by omega) (by omega) (by omega) (by omega) (by omega) (by omega), one_bI, e_goes, b2_s, c_needCell hC.1.1 hW.1 hc.1 hc.2, show (0 : Int32) = ni 0 from rfl, show (5 : Int32) = ni 5 from rfl]
  simp only [show ni 0 = (0 : Int32) from rfl, bI_z]
  by_cases q1 : 0 ≤ c ∧ c < nn A
  · rw [if_pos q1, bx_l, show (0 : Int32) = ni 0 from rfl, c_needWithin hk.1 hk.2 (by omega) (by omega) (by omega) (by omega)]
    by_cases q2 : 0 ≤ k ∧ k ≤ 5
    · rw [if_pos q2, bx_l, if_neg (by simp [q1, q2]), c_cell hC hW hw.2 q1.1 q1.2 q2, b1_s]
      obtain ⟨M1, p1, p2⟩ := e_cell (M := sI Mm 0 4 (ni (gz (0 ≤ c ∧ c < nn A) (0 ≤ k ∧ k ≤ 5) True))) (RM_of hM (fun k _ => rfl)) hW hw.2 q1.1 q1.2 q2
      rw [p1, b2_s]
      refine ⟨_, _, _, _, rfl, rfl, Inv_FS (Inv_goes hI0 _) p2, Or.inl ⟨_, rfl, ?_, rfl⟩⟩
      rw [p2.1, sI_eq]; unfold gz; rw [if_pos q1, if_pos q2, if_pos trivial]
    · rw [if_neg q2, bx_r, if_pos (fun z => q2 z.2.1)]
      refine ⟨_, _, _, _, rfl, rfl, Inv_goes hI0 _, Or.inr (Or.inr ⟨rfl, ?_⟩)⟩
      rw [sI_eq]; unfold gz; rw [if_pos q1, if_neg q2]; rfl
  · rw [if_neg q1, bx_r, if_pos (fun z => q1 z.1)]
    refine ⟨_, _, _, _, rfl, rfl, Inv_goes hI0 _, Or.inr (Or.inl ⟨rfl, ?_⟩)⟩
    rw [sI_eq]; unfold gz; rw [if_neg q1]; rfl
def nv (A : Ab) (k : Int) : Int :=
  if k = 0 then wd A else if k = 1 then hg A else if k = 2 then bnn A else if k = 3 then lown A 36 else if k = 4 then wta A
  else if k = 5 then ct (nn A).toNat (fun c => decide (bas A c = -1)) else ful A
theorem c_count {Mc : Mem} {A : Ab} (hC : RW 1 Mc A) (hW : WF A) (hB : BS A) {k : Int} (k0 : 0 ≤ k ∧ k ≤ 6) : LL_countValue (ni k) Mc = some (ni (nv A k)) := by
  have zl := (sz_w (w := 1) (Or.inl rfl)).2.2.1
  have hb : ∀ c, 0 ≤ c → c < nn A → -2147483648 ≤ bas A c ∧ bas A c < 2147483648 := fun c c0 c1 => by
    have := bas_bd hW.1 hB c0 c1; omega
  unfold LL_countValue nv
  rw [hC.1.1.1.1, hC.1.1.1.2.1, hC.1.2.2.1.1, c_total hC.1.2.2.2 hW.2.1, b1_s, c_wetTotal hC.1.1 hC.1.2.1 hC.1.2.2.2 hW.1 hW.2.1 zl, b1_s, seaT hC.1.1 hW.1 hC.1.2.2.1 hb, b1_s, c_fullTotal hC.1.2.2.2 hW.2.1 hW.1, b1_s]
  simp (disch := omega) only [show (0 : Int32) = ni 0 from rfl, show (1 : Int32) = ni 1 from rfl, show (2 : Int32) = ni 2 from rfl, show (3 : Int32) = ni 3 from rfl, show (4 : Int32) = ni 4 from rfl, show (5 : Int32) = ni 5 from rfl, ni_eq]
  (repeat' split) <;> rfl
theorem e_count {M : Mem} {A : Ab} (hM : RM M A) (hW : WF A) (hB : BS A) {k : Int} (k0 : 0 ≤ k ∧ k ≤ 6) : ∃ M', MD_countOf (ni k) M = some (ni (nv A k), M') ∧ FS M M' := by
  have hb : ∀ c, 0 ≤ c → c < nn A → -2147483648 ≤ bas A c ∧ bas A c < 2147483648 := fun c c0 c1 => by
    have := bas_bd hW.1 hB c0 c1; omega
  unfold MD_countOf nv
  rw [RM_W hM, RM_H hM, RM_bn hM, nl_32, nl_32, nl_32, e_seaCells hM hW.1 hb, b1_s]
  have eq : ∀ j : Int, 0 ≤ j → j ≤ 6 → (ni k = ni j) = (k = j) := fun j _ _ => ni_eq (by omega) (by omega) (by omega) (by omega)
  simp only [show ∀ x : Int32, (ni k = x) = (k = x.toInt) from fun x => by rw [ni_of x, ← ni_of x]; exact propext ⟨fun z => by rw [← z, ni_toInt (by omega) (by omega)], fun z => by rw [z]; exact (ni_of x).symm⟩]
  by_cases q0 : k = 0
  · rw [if_pos (by rw [q0]; rfl), if_pos q0]; exact ⟨_, rfl, FS.rfl'⟩
  rw [if_neg (fun z => q0 (z.trans rfl)), if_neg q0]
  by_cases q1 : k = 1
  · rw [if_pos (by rw [q1]; rfl), if_pos q1]; exact ⟨_, rfl, FS.rfl'⟩
  rw [if_neg (fun z => q1 (z.trans rfl)), if_neg q1]
  by_cases q2 : k = 2
  · rw [if_pos (by rw [q2]; rfl), if_pos q2]; exact ⟨_, rfl, FS.rfl'⟩
  rw [if_neg (fun z => q2 (z.trans rfl)), if_neg q2]
  by_cases q3 : k = 3
  · rw [if_pos (by rw [q3]; rfl), if_pos q3]
    obtain ⟨M1, p1, p2, p3⟩ := e_orders hM hW.1 hW.2.1
    rw [p1, b2_s, p3.1]
    exact ⟨_, rfl, FrO_FS p2⟩
  rw [if_neg (fun z => q3 (z.trans rfl)), if_neg q3]
  by_cases q4 : k = 4
  · rw [if_pos (by rw [q4]; rfl), if_pos q4]
    obtain ⟨M1, p1, p2⟩ := e_wet hM hW.1 hW.2.1
    rw [p1, b2_s]
    exact ⟨_, rfl, FrL_FS p2⟩
  rw [if_neg (fun z => q4 (z.trans rfl)), if_neg q4]
  by_cases q5 : k = 5
  · rw [if_pos (by rw [q5]; rfl), if_pos q5]; exact ⟨_, rfl, FS.rfl'⟩
  rw [if_neg (fun z => q5 (z.trans rfl)), if_neg q5]
  obtain ⟨M1, p1, p2⟩ := e_fulls hM hW.1 hW.2.1
  rw [p1, b2_s]
  exact ⟨_, rfl, FrP_FS p2⟩
theorem sim7 : Sim7 Inv := by
  intro Mc Mm a0 hI
  have hI0 := hI
  obtain ⟨A, hC, hM, hW, hw, hS, hT⟩ := hI
  obtain ⟨k, hk, rfl⟩ := i32 a0
  unfold MD_count LL_count
  rw [ni_64 hk.1 hk.2, show (0 : Int64) = nl 0 from rfl, show (6 : Int64) = nl 6 from rfl, e_in (by omega) (by omega) (by omega) (by omega) (by omega) (by omega), one_bI, e_goes, b2_s, show (0 : Int32) = ni 0 from rfl, show (6 : Int32) = ni 6 from rfl, c_needWithin hk.1 hk.2 (by omega) (by omega) (by omega) (by omega)]
  simp only [show ni 0 = (0 : Int32) from rfl, bI_z]
  by_cases q1 : 0 ≤ k ∧ k ≤ 6
  · rw [if_pos q1, bx_l, if_neg (by simp [q1]), c_count hC hW hw.2 q1, b1_s]
    obtain ⟨M1, p1, p2⟩ := e_count (M := sI Mm 0 4 (ni (gz (0 ≤ k ∧ k ≤ 6) True True))) (RM_of hM (fun k _ => rfl)) hW hw.2 q1
    rw [p1, b2_s]
    refine ⟨_, _, _, _, rfl, rfl, Inv_FS (Inv_goes hI0 _) p2, Or.inl ⟨_, rfl, ?_, rfl⟩⟩
    rw [p2.1, sI_eq]; unfold gz; rw [if_pos q1, if_pos trivial, if_pos trivial]; rfl
  · rw [if_neg q1, bx_r, if_pos (fun z => q1 z.1)]
    refine ⟨_, _, _, _, rfl, rfl, Inv_goes hI0 _, Or.inr ⟨rfl, ?_⟩⟩
    rw [sI_eq]; unfold gz; rw [if_neg q1]; rfl
/-- the course -/
noncomputable def crs (A : Ab) : Nat → Int → Int64 → Int64
  | 0, _, v => v
  | n + 1, c, v => if c = -1 then v else crs A n (tg A c) (v ||| pl A c)
theorem crs_end (A : Ab) (n : Nat) (v : Int64) : crs A n (-1) v = v := by
  cases n with
  | zero => rfl
  | succ n => simp only [crs]; exact if_pos trivial
theorem crs_more {A : Ab} (g : WFg A) : ∀ n m : Nat, ∀ c v, (c = -1 ∨ (0 ≤ c ∧ c < nn A ∧ lower A c < n)) → n ≤ m → crs A m c v = crs A n c v := by
  intro n
  induction n with
  | zero =>
    intro m c v h _
    rcases h with rfl | ⟨h0, h1, h2⟩
    · rw [crs_end, crs_end]
    · have := (lower_bd g h0 h1).1
      omega
  | succ n ih =>
    intro m c v h hm
    rcases h with rfl | ⟨h0, h1, h2⟩
    · rw [crs_end, crs_end]
    · obtain ⟨m', rfl⟩ : ∃ m', m = m' + 1 := ⟨m - 1, by omega⟩
      simp only [crs]
      rw [if_neg (by omega), if_neg (by omega)]
      refine ih m' _ _ ?_ (by omega)
      rcases tg_rg g h0 h1 with q | ⟨q0, q1, q2⟩
      · exact Or.inl q
      · have := lower_lt q0 q1 q2
        exact Or.inr ⟨q0, q1, by omega⟩
theorem c_course {y : Nat} {M : Mem} {A : Ab} (g : WFg A) (hc : ∀ c, 0 ≤ c → c < nn A → fAtL (y + 1) (ni c) M = pl A c ∧ fAtI (y + 3) (ni c) M = ni (tg A c)) {a : Int} (h0 : 0 ≤ a) (h1 : a < nn A) : WY_courseFrom y (ni a) M = some (crs A 36 a 0) := by
  have hn := nn_bd g
  have hlb := lower_bd g h0 h1
  have key : ∃ r, lpR (fun s => WY_courseFrom_L8 y s.1 s.2.1 s.2.2 M) FUEL ((0 : Int64), ni a, (0 : Int32)) = some r ∧ r = crs A 36 a 0 := by
    refine lpR_wf (fun s => ∃ (v : Int64) (c : Int) (i : Nat), i ≤ 36 ∧ s = (v, ni c, ni (i : Int)) ∧ (c = -1 ∨ (0 ≤ c ∧ c < nn A)) ∧ crs A (36 - i) c v = crs A 36 a 0) (fun s => (36 - s.2.2.toInt).toNat) _ ?_ FUEL _ ⟨0, a, 0, by omega, rfl, Or.inr ⟨h0, h1⟩, rfl⟩ ?_
    · rintro s ⟨v, c, i, hi, rfl, hcr, hv⟩
      unfold WY_courseFrom_L8
      dsimp only
      simp (disch := omega) only [show (36 : Int32) = ni 36 from rfl, show (1 : Int32) = ni 1 from rfl, ni_neg, ni_le, ni_eq, ni_add]
      by_cases q : i = 36
      · right
        rw [if_pos (by omega)]
        refine ⟨_, rfl, ?_⟩
        rw [q] at hv
        exact hv
      · rw [if_neg (by omega)]
        by_cases z : c = -1
        · right
          rw [if_pos z]
          refine ⟨_, rfl, ?_⟩
          rw [z, crs_end] at hv
          exact hv
        · left
          rw [if_neg z]
          obtain ⟨c0, c1⟩ := hcr.resolve_left z
          obtain ⟨e1, e2⟩ := hc c c0 c1
          rw [e1, e2]
          refine ⟨_, rfl, ⟨_, _, i + 1, by omega, rfl, ?_, ?_⟩, ?_⟩
          · rcases tg_rg g c0 c1 with q | ⟨q0, q1, q2⟩
            · exact Or.inl q
            · exact Or.inr ⟨q0, q1⟩
          · rw [← hv, show 36 - i = (36 - (i + 1)) + 1 by omega]
            simp only [crs]
            rw [if_neg z]
          · show (36 - (ni ((i : Int) + 1)).toInt).toNat < (36 - (ni (i : Int)).toInt).toNat
            rw [ni_toInt (by omega) (by omega), ni_toInt (by omega) (by omega)]
            omega
    · show (36 - (0 : Int32).toInt).toNat < FUEL
      decide +kernel
  obtain ⟨r, k1, rfl⟩ := key
  unfold WY_courseFrom
  rw [k1, b1_s]
theorem e_courseJ {M : Mem} {A : Ab} (h : RM M A) (g : WFg A) {c : Int} {v : Int64} (hc : c = -1 ∨ (0 ≤ c ∧ c < nn A)) : MD_course_J47 v (ni c) M = some (crs A 36 c v, M) := by
  have hn := nn_bd g
  have key : ∃ r, lpR (fun s => MD_course_L49 s.1 s.2 M) FUEL (v, ni c) = some r ∧ r = crs A 36 c v := by
    refine lpR_wf (fun s => ∃ (w : Int64) (d : Int), s = (w, ni d) ∧ (d = -1 ∨ (0 ≤ d ∧ d < nn A)) ∧ crs A 36 d w = crs A 36 c v) (fun s => if s.2.toInt = -1 then 0 else (lower A s.2.toInt).toNat + 1) _ ?_ FUEL _ ⟨v, c, rfl, hc, rfl⟩ ?_
    · rintro s ⟨w, d, rfl, hd, hv⟩
      unfold MD_course_L49
      dsimp only
      simp (disch := omega) only [show (-1 : Int32) = ni (-1) from rfl, ni_eq]
      by_cases z : d = -1
      · right
        rw [if_pos z]
        refine ⟨_, rfl, ?_⟩
        rw [z, crs_end] at hv
        exact hv
      · left
        obtain ⟨d0, d1⟩ := hd.resolve_left z
        have hlb := lower_bd g d0 d1
        rw [if_neg z, e_plain h g d0 d1, b1_s, RM_dr h, e_way h g, b1_s]
        have ht' : (if pl A d &&& drn A = 0 then some (Sum.inl ((w ||| pl A d), ni (wy A (pl A d)))) else some (Sum.inl ((w ||| pl A d), ni (-1)))) = (some (Sum.inl ((w ||| pl A d), ni (tg A d))) : Option ((Int64 × Int32) ⊕ Int64)) := by
          unfold tg
          by_cases e : pl A d &&& drn A = 0
          · rw [if_pos e, if_pos e]
          · rw [if_neg e, if_neg e]
        rw [ht']
        have htr := tg_rg g d0 d1
        refine ⟨_, rfl, ⟨_, _, rfl, ?_, ?_⟩, ?_⟩
        · rcases htr with q | ⟨q0, q1, q2⟩
          · exact Or.inl q
          · exact Or.inr ⟨q0, q1⟩
        · rw [← hv, show crs A 36 d w = crs A 35 (tg A d) (w ||| pl A d) from by rw [show (36 : Nat) = 35 + 1 from rfl]; simp only [crs]; rw [if_neg z]]
          refine crs_more g 35 36 _ _ ?_ (by omega)
          rcases htr with q | ⟨q0, q1, q2⟩
          · exact Or.inl q
          · have := lower_lt q0 q1 q2
            exact Or.inr ⟨q0, q1, by omega⟩
        · show (if (ni (tg A d)).toInt = -1 then 0 else (lower A (ni (tg A d)).toInt).toNat + 1) < (if (ni d).toInt = -1 then 0 else (lower A (ni d).toInt).toNat + 1)
          rw [ni_toInt (by omega) (by omega), ni_toInt (by omega) (by omega), if_neg z]
          rcases htr with q | ⟨q0, q1, q2⟩
          · rw [if_pos q]; omega
          · have := lower_lt q0 q1 q2
            have := lower_bd g q0 q1
            split <;> omega
    · show (if (ni c).toInt = -1 then 0 else (lower A (ni c).toInt).toNat + 1) < FUEL
      rw [ni_toInt (by omega) (by omega)]
      unfold FUEL
      rcases hc with q | ⟨q0, q1⟩
      · rw [if_pos q]; omega
      · have := lower_bd g q0 q1
        split <;> omega
  obtain ⟨r, k1, rfl⟩ := key
  unfold MD_course_J47
  rw [k1, b1_s]
theorem sim18 : Sim18 Inv := by
  intro Mc Mm a0 hI
  have hI0 := hI
  obtain ⟨A, hC, hM, hW, hw, hS, hT⟩ := hI
  have hn := nn_bd hW.1
  obtain ⟨c, hc, rfl⟩ := i32 a0
  unfold MD_course LL_course
  rw [e_isCell hM hW.1 hc.1 hc.2, one_bI, e_goes, b2_s, c_needCell hC.1.1 hW.1 hc.1 hc.2]
  simp only [bI_n0]
  have hM' : RM (sI Mm 0 4 (ni (gz (0 ≤ c ∧ c < nn A) True True))) A := RM_of hM (fun k _ => rfl)
  by_cases q1 : 0 ≤ c ∧ c < nn A
  · rw [if_pos q1, bx_l, if_pos ⟨q1, trivial, trivial⟩, c_course hW.1 hC.1.2.2.1.2.1 q1.1 q1.2, b1_s, e_plain hM' hW.1 q1.1 q1.2, b1_s, RM_dr hM', e_way hM' hW.1, b1_s]
    have htr := tg_rg hW.1 q1.1 q1.2
    have hlb := lower_bd hW.1 q1.1 q1.2
    have hJ : (if pl A c &&& drn A = 0 then MD_course_J47 (pl A c) (ni (wy A (pl A c))) (sI Mm 0 4 (ni (gz (0 ≤ c ∧ c < nn A) True True))) else MD_course_J47 (pl A c) (-1 : Int32) (sI Mm 0 4 (ni (gz (0 ≤ c ∧ c < nn A) True True)))) = some (crs A 36 c 0, sI Mm 0 4 (ni (gz (0 ≤ c ∧ c < nn A) True True))) := by
      have e1 : (if pl A c &&& drn A = 0 then MD_course_J47 (pl A c) (ni (wy A (pl A c))) (sI Mm 0 4 (ni (gz (0 ≤ c ∧ c < nn A) True True))) else MD_course_J47 (pl A c) (-1 : Int32) (sI Mm 0 4 (ni (gz (0 ≤ c ∧ c < nn A) True True)))) = MD_course_J47 (pl A c) (ni (tg A c)) (sI Mm 0 4 (ni (gz (0 ≤ c ∧ c < nn A) True True))) := by
        unfold tg
        by_cases e : pl A c &&& drn A = 0
        · rw [if_pos e, if_pos e]
        · rw [if_neg e, if_neg e]; rfl
      rw [e1, e_courseJ hM' hW.1 (by rcases htr with q | ⟨q0, q1, q2⟩ <;> omega)]
      have e2 : crs A 36 c 0 = crs A 35 (tg A c) (pl A c) := by
        rw [show (36 : Nat) = 35 + 1 from rfl]
        simp only [crs]
        rw [if_neg (by omega), Int64.zero_or]
      rw [e2]
      refine congrArg some (Prod.ext ?_ rfl)
      refine crs_more hW.1 35 36 _ _ ?_ (by omega)
      rcases htr with q | ⟨q0, q1, q2⟩
      · exact Or.inl q
      · have := lower_lt q0 q1 q2
        exact Or.inr ⟨q0, q1, by omega⟩
    rw [show -bI True = (-1 : Int32) from rfl, hJ]
    refine ⟨_, _, _, _, rfl, rfl, Inv_goes hI0 _, Or.inl ⟨_, rfl, ?_, rfl⟩⟩
    rw [sI_eq]; unfold gz; rw [if_pos q1, if_pos trivial, if_pos trivial]; rfl
  · rw [if_neg q1, bx_r, if_neg (fun z => q1 z.1)]
    refine ⟨_, _, _, _, rfl, rfl, Inv_goes hI0 _, Or.inr ⟨rfl, ?_⟩⟩
    rw [sI_eq]; unfold gz; rw [if_neg q1]; rfl
