/-! C4.parse: parse, and the law's areBasins says 1 -/
noncomputable def XF (A : Ab) : Ab := std (sth (fnd (G0 (wd A) (hg A))) A (nn A).toNat) A (nn A).toNat
theorem GE_XF {A : Ab} {W H k : Int} (g : WFg A) (h : GRD A W H k) : GE A (XF A) := by
  obtain ⟨⟨gw, gh⟩, g2, g3, g4, g5⟩ := h
  have hnn : nn A = W * H := by show wd A * hg A = _; rw [gw, gh]
  have hn := nn_bd g
  have fg := fnd_ge (G0 (wd A) (hg A))
  obtain ⟨s1, s2, s3⟩ := sth_at (fnd (G0 (wd A) (hg A))) A (nn A).toNat
  obtain ⟨d1, d2⟩ := std_at (sth (fnd (G0 (wd A) (hg A))) A (nn A).toNat) A (nn A).toNat (by omega)
  have e1 : ∀ f, f ≠ 1 → (XF A).1 f = (fnd (G0 (wd A) (hg A))).1 f := fun f hf => by
    show (std _ A _).1 f = _
    rw [d1, s2 f hf]
  refine ⟨?_, ?_, ?_, ?_, ?_, ?_⟩
  · show wd A = (XF A).1 0 0
    rw [e1 0 (by decide)]
    exact fg.1
  · show hg A = (XF A).1 0 1
    rw [e1 0 (by decide)]
    exact fg.2.1
  · funext c
    show ht A c = (std _ A _).1 1 c
    rw [d1]
    show ht A c = ht (sth (fnd (G0 (wd A) (hg A))) A (nn A).toNat) c
    rw [s3]
    split
    · rfl
    · rename_i z
      rw [g2 c (fun y => z (by omega))]
      exact congrFun fg.2.2.1 c
  · funext c
    show grt A c = (XF A).1 2 c
    rw [e1 2 (by decide), (g3 c).1]
    exact congrFun fg.2.2.2.1 c
  · funext c
    show gdn A c = (XF A).1 3 c
    rw [e1 3 (by decide), (g3 c).2]
    exact congrFun fg.2.2.2.2.1 c
  · refine hs_ext (fun c c0 c1 => ?_)
    show _ = hs (drn (std _ A _)) c
    rw [d2]
    have z0 : drn (sth (fnd (G0 (wd A) (hg A))) A (nn A).toNat) = 0 := by
      show (sth _ A _).2 0 0 = 0
      rw [s1]
      exact fg.2.2.2.2.2.symm
    rw [z0, hs_zero, Bool.false_or]
    cases q : hs (drn A) c with
    | false => simp
    | true =>
      have := g4 c q
      rw [decide_eq_true (by omega)]
      rfl
theorem digs_ok {v : Int} (hv : 0 ≤ v ∧ v ≤ 99) : ∀ x ∈ digs v, 0 ≤ x ∧ x ≤ 127 := by
  intro x hx
  unfold digs at hx
  split at hx
  · simp at hx; omega
  · simp at hx; omega
theorem txt_ok {A : Ab} (g : WFg A) : ∀ x ∈ txt A, 0 ≤ x ∧ x ≤ 127 := by
  have hn := nn_bd g
  have g1 := g.1
  have g2 := g.2.1
  have h1 : ∀ i : Nat, i ≤ 36 → ∀ x ∈ hts A i, 0 ≤ x ∧ x ≤ 127 := by
    intro i
    induction i with
    | zero => intro _ x hx; simp [hts] at hx
    | succ i ih =>
      intro hi x hx
      simp only [hts, List.mem_append, List.mem_cons] at hx
      rcases hx with hx | rfl | hx
      · exact ih (by omega) x hx
      · split <;> omega
      · exact digs_ok (ht_bd g (show (0 : Int) ≤ i by omega) (by omega)) x hx
  have h2 : ∀ i : Nat, i ≤ 36 → ∀ x ∈ drs A i, 0 ≤ x ∧ x ≤ 127 := by
    intro i
    induction i with
    | zero => intro _ x hx; simp [drs] at hx
    | succ i ih =>
      intro hi x hx
      simp only [drs, List.mem_append] at hx
      rcases hx with hx | hx
      · exact ih (by omega) x hx
      · split at hx
        · simp only [List.mem_cons] at hx
          rcases hx with rfl | rfl | hx
          · omega
          · omega
          · exact digs_ok (by omega) x hx
        · simp at hx
  intro x hx
  unfold txt at hx
  simp only [List.mem_append, List.mem_cons, List.not_mem_nil, or_false] at hx
  rcases hx with ((rfl | rfl) | hx) | hx
  · omega
  · omega
  · exact h1 _ (by omega) x hx
  · exact h2 _ (by omega) x hx
theorem k_parse {M : Mem} {A P : Ab} {nx cnt : Int} (h : IC M P nx cnt) (g : WFg A) (hT : TXL M (txt A)) : ∃ M', LL_parse M = some (ni (npt (XF A)), M') ∧ IC M' (fnd (XF A)) ((nx + 1) % 4) (cn cnt) ∧ WFg (XF A) := by
  obtain ⟨t1, t2, t3⟩ := hT
  have hTT : TTx (LTx (txt A)) ((txt A).length : Int) := ⟨by omega, fun i hi => by
    have hi' : i < (txt A).length := by omega
    have : LTx (txt A) i = (txt A)[i] := by
      unfold LTx
      rw [List.getD_eq_getElem?_getD, List.getElem?_eq_getElem hi']; rfl
    rw [this]
    exact txt_ok g _ (List.getElem_mem hi')⟩
  obtain ⟨p0, _, ep⟩ := i32 (gI M 94 2)
  obtain ⟨f0, _, ef⟩ := i32 (gI M 94 3)
  have hP : PCx (LTx (txt A)) ((txt A).length : Int) p0 f0 M := ⟨t2, ep, ef, fun i hi => t3 i (by omega)⟩
  obtain ⟨M1, k1, k2, k3, k4⟩ := c_readInto hTT hP
  have hr := rd_txt g ⟨g.1.2, g.2.1.2⟩
  rw [hr] at k1 k2 k3
  obtain ⟨q9, hq9, c1, c2⟩ := k2
  have I1 : IC M1 P nx cnt := IC_tx h k4 (fun p hp => by omega)
  obtain ⟨_, G1⟩ := c2 rfl
  obtain ⟨_, w, l⟩ := k3.2 rfl
  obtain ⟨M2, s1, s2, s3, s4⟩ := k_save I1
  have G2 : RG 48 M2 (XF A) := RG_fr G1 s4 (by omega) (by omega) (by omega) (by omega)
  obtain ⟨M3, i1, i2, i3, _⟩ := c_groundCopy (o := 1) (a := 47) (Or.inl rfl) (Or.inr (Or.inl rfl)) (Or.inl (by omega)) G2
  obtain ⟨M4, j1, j2, j3⟩ := c_restartW (w := 1) (Or.inl rfl) i2 w l
  have FF : Fr (fun p => 1 ≤ p ∧ p < 47) M2 M4 := (i3.mono (fun p hp => by omega)).trans (j3.mono (fun p hp => by omega))
  refine ⟨M4, ?_, IC_fr s2 FF (by omega) j2 (GI_fnd w l), w⟩
  have hb : gI M4 13 0 = ni (npt (XF A)) := by
    rw [← fnd_bnn]
    exact j2.1.2.2.1.1
  unfold LL_parse
  rw [k1, b2_s, if_pos (show ni (-1) = (-1 : Int32) from rfl), s1, b2_s, i1, b2_s, j1, b2_s, hb]
theorem w_areBasins {Q : Mem2} {A B : Ab} {nx cnt nx2 cnt2 : Int} (h : IC Q.1 A nx cnt) (h2 : IC Q.2 B nx2 cnt2) (ge : GE A B) : LW_areBasins Q = some ((1 : Int32), Q) := by
  have hn := nn_bd h.2.1.1.1
  have enn : nn B = nn A := ge.nn.symm
  have hA := h.2.1.2.1.2
  have hB := h2.2.1.2.1.2
  have eb : ∀ c, 0 ≤ c → c < nn A → bas B c = bas A c := fun c c0 c1 => by
    rw [hA.2.1 c c0 c1, hB.2.1 c c0 (by rw [enn]; exact c1)]
    exact congrFun ge.bsn.symm c
  have e2 : bnn B = bnn A := by rw [hA.1, hB.1, ge.npt]
  have e5 : ct (nn B).toNat (fun c => decide (bas B c = -1)) = ct (nn A).toNat (fun c => decide (bas A c = -1)) := by
    rw [enn]
    exact ct_congr (fun i hi => by rw [eb i (by omega) (by omega)])
  have ecr : ∀ n c v, crs B n c v = crs A n c v := by
    intro n
    induction n with
    | zero => intro c v; rfl
    | succ n ih =>
      intro c v
      simp only [crs]
      rw [ih, ge.tg, ge.pl]
  obtain ⟨n0, n1, n2, n3, n4, n5⟩ := kn h
  obtain ⟨m0, m1, m2, m3, m4, m5⟩ := kn h2
  have hnn : ni (wd A) * ni (hg A) = ni (nn A) := by rw [ni_mul]; rfl
  obtain ⟨r, M', e, rfl, rfl⟩ := lpQ_to (f := fun s M9 => LW_areBasins_L47 (ni (nn A)) s.1 s.2 M9) (nn A).toNat (by omega) (fun i s M => s = ((1 : Int32), ni (i : Int)) ∧ M = Q) (fun r M => r = (1 : Int32) ∧ M = Q) (by
    rintro i hi s M ⟨rfl, rfl⟩
    refine ⟨((1 : Int32), ni (i : Int) + (1 : Int32)), M, ?_, ?_, rfl⟩
    · obtain ⟨a0, a1, a2, a4, a5⟩ := kc h (i : Int) (by omega) (by omega)
      obtain ⟨b0, b1, b2, b4, b5⟩ := kc h2 (i : Int) (by omega) (by omega)
      rw [show ht B (i : Int) = ht A i from (ge.ht i).symm] at b0
      rw [show drn B = drn A from ge.2.2.2.2.2.symm] at b1
      rw [eb _ (by omega) (by omega)] at b2
      rw [← ge.ipt] at b5
      unfold LW_areBasins_L47
      dsimp only
      rw [if_neg (by rw [ni_le (by omega) (by omega) (by omega) (by omega)]; omega), if_neg (by decide), a0, bo_s, b0, bo_s, if_neg (not_not_intro rfl), a1, bo_s, b1, bo_s, if_neg (not_not_intro rfl), a2, bo_s, b2, bo_s, if_neg (not_not_intro rfl), a5, bo_s, b5, bo_s, if_neg (not_not_intro rfl)]
      rw [k_course h (show (0 : Int) ≤ i by omega) (by omega), bo_s, k_course h2 (show (0 : Int) ≤ i by omega) (by omega), bo_s, ecr, if_neg (not_not_intro rfl)]
    · rw [show (1 : Int32) = ni 1 from rfl, ni_add]; rfl) (by
    rintro s M ⟨rfl, rfl⟩
    refine ⟨_, _, ?_, rfl, rfl⟩
    unfold LW_areBasins_L47
    dsimp only
    rw [if_pos (by rw [ni_le (by omega) (by omega) (by omega) (by omega)]; omega)]) (s := ((1 : Int32), (0 : Int32))) (M := Q) ⟨rfl, rfl⟩
  unfold LW_areBasins
  rw [n0, bo_s, n1, bo_s, n2, bo_s, m2, bo_s, e2, if_neg (not_not_intro rfl), n5, bo_s, m5, bo_s, e5, if_neg (not_not_intro rfl), hnn]
  unfold LW_areBasins_J43
  rw [show ((M'.1, M'.2) : Mem2) = M' from rfl, e, bq_s]
  rfl
