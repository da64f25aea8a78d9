/-! 47.mpass: the other side's pass and capacity -/
def FrP (M M' : Mem) : Prop := M'.2 = M.2 ∧ ∀ o q, ¬ (o = 0 ∧ (q = 6 ∨ q = 7 ∨ q = 8)) → M'.1 o q = M.1 o q
theorem FrP.rfl' {M : Mem} : FrP M M := ⟨rfl, fun _ _ _ => rfl⟩
theorem FrP.trans {M M' M'' : Mem} (h : FrP M M') (h' : FrP M' M'') : FrP M M'' := ⟨h'.1.trans h.1, fun o q hq => (h'.2 o q hq).trans (h.2 o q hq)⟩
theorem FrP.L {M M' : Mem} (h : FrP M M') (o k : Nat) : gL M' o k = gL M o k := by unfold gL; rw [h.1]
theorem FrP.RM {M M' : Mem} {A : Ab} (h : FrP M M') (r : RM M A) : RM M' A := RM_of r (fun k _ => h.L 1 k)
def PI (M0 : Mem) (A : Ab) (p : Int) (M : Mem) : Prop := FrP M0 M ∧ gI M 0 8 = ni (pth A p) ∧ gI M 0 6 = ni (psa p) ∧ gI M 0 7 = ni (psb A p)
theorem FrP_sI {M M' : Mem} (h : FrP M M') {q : Nat} (hq : q = 6 ∨ q = 7 ∨ q = 8) (v : Int32) : FrP M (sI M' 0 q v) := by
  refine ⟨h.1, fun o r hr => ?_⟩
  rw [← h.2 o r hr]
  unfold sI
  dsimp only
  rw [if_neg]
  rintro ⟨rfl, rfl⟩
  exact hr ⟨rfl, hq⟩
theorem PI_new {M0 M : Mem} {A : Ab} {p0 p : Int} (h : PI M0 A p0 M) {x y z : Int32} (hx : x = ni (pth A p)) (hy : y = ni (psa p)) (hz : z = ni (psb A p)) : PI M0 A p (sI (sI (sI M 0 8 x) 0 6 y) 0 7 z) := by
  refine ⟨FrP_sI (FrP_sI (FrP_sI h.1 (by omega) x) (by omega) y) (by omega) z, ?_, ?_, ?_⟩
  · rw [← hx]; simp [gI, sI]
  · rw [← hy]; simp [gI, sI]
  · rw [← hz]; simp [gI, sI]
theorem e_findsPass {M : Mem} {A : Ab} (h : RM M A) (w : WFg A) {k : Int} (h0 : 0 ≤ k) (h1 : k < 72) : ∃ M', MD_findsPass (ni k) M = some ((), M') ∧ PI M A (ps A (msk A k)) M' := by
  have hn := nn_bd w
  have hin : inb ((152 : Int32) + ni k) 513 = true := by
    rw [show (152 : Int32) = ni 152 from rfl, ni_add, ni_inb (by omega) (by omega)]; exact decide_eq_true (by omega)
  have hix : ((152 : Int32) + ni k).toNatClampNeg = 152 + k.toNat := by
    rw [show (152 : Int32) = ni 152 from rfl, ni_add, ni_nat (by omega) (by omega)]; omega
  have hst : PI M A (-1) (sI (sI (sI M 0 8 (-1 : Int32)) 0 6 (-1 : Int32)) 0 7 (-1 : Int32)) := by
    refine ⟨FrP_sI (FrP_sI (FrP_sI FrP.rfl' (by omega) _) (by omega) _) (by omega) _, ?_, ?_, ?_⟩ <;> simp [gI, sI, pth, psa, psb] <;> rfl
  have hm : gL (sI (sI (sI M 0 8 (-1 : Int32)) 0 6 (-1 : Int32)) 0 7 (-1 : Int32)) 1 (152 + k.toNat) = msk A k := by
    rw [hst.1.L, RM_msk h h0 h1]
  generalize hms : msk A k = m at *
  have inner : ∀ a : Nat, (a : Int) < nn A → ∀ M1, PI M A (psf A m (4 * a)) M1 → ∃ r M', lpM (fun s M9 => MD_findsPass_L41 m (ni (a : Int)) s M9) FUEL (0 : Int32) M1 = some (r, M') ∧ PI M A (psf A m (4 * (a + 1))) M' := by
    intro a ha M1 hM1
    cases hma : hs m (a : Int) with
    | false =>
      refine ⟨(), M1, ?_, ?_⟩
      · have e : MD_findsPass_L41 m (ni (a : Int)) (0 : Int32) M1 = some (.inr (), M1) := by
          unfold MD_findsPass_L41
          simp (disch := omega) only [MD_has_eq, bI_z, hma]
          rw [if_neg (by decide), if_pos (by simp)]
        obtain ⟨f, hf⟩ : ∃ f, FUEL = f + 1 := ⟨FUEL - 1, by have := FUEL_big; omega⟩
        rw [hf]
        simp only [lpM, e, Option.bind_some]
      · rw [show 4 * (a + 1) = 4 * a + 4 by omega, psf_skip A m a hma 4 (by omega)]; exact hM1
    | true =>
      refine lpM_to 4 (by omega) (fun i s M' => s = ni (i : Int) ∧ PI M A (psf A m (4 * a + i)) M') _ ?_ ?_ ⟨rfl, hM1⟩
      · rintro i hi s M2 ⟨rfl, hM2⟩
        have hR : RM M2 A := hM2.1.RM h
        have hr := nb_rg (s := (i : Int)) w (show 0 ≤ (a : Int) by omega) ha
        have d1 : ((4 * a + i : Nat) : Int) / 4 = (a : Int) := by omega
        have d2 : ((4 * a + i : Nat) : Int) % 4 = (i : Int) := by omega
        have stay : eg A m ((4 * a + i : Nat) : Int) = false → psf A m (4 * a + (i + 1)) = psf A m (4 * a + i) := by
          intro q
          rw [show 4 * a + (i + 1) = (4 * a + i) + 1 by omega]
          simp only [psf]
          rw [if_neg (fun hh => by rw [q] at hh; cases hh.1)]
        have go : eg A m ((4 * a + i : Nat) : Int) = true → (psf A m (4 * a + i) = -1 ∨ th A ((4 * a + i : Nat) : Int) < th A (psf A m (4 * a + i))) → psf A m (4 * a + (i + 1)) = ((4 * a + i : Nat) : Int) := by
          intro q q2
          rw [show 4 * a + (i + 1) = (4 * a + i) + 1 by omega]
          simp only [psf]
          rw [if_pos ⟨q, q2⟩]
        have stay2 : ¬ (psf A m (4 * a + i) = -1 ∨ th A ((4 * a + i : Nat) : Int) < th A (psf A m (4 * a + i))) → psf A m (4 * a + (i + 1)) = psf A m (4 * a + i) := by
          intro q2
          rw [show 4 * a + (i + 1) = (4 * a + i) + 1 by omega]
          simp only [psf]
          rw [if_neg (fun q => q2 q.2)]
        unfold MD_findsPass_L41
        simp (disch := omega) only [show (4 : Int32) = ni 4 from rfl, show (1 : Int32) = ni 1 from rfl, ni_neg, MD_has_eq, bI_z, hma, ni_le, ni_add]
        rw [if_neg (by omega), if_neg (by simp), e_neighbor hR w (by omega) ha (by omega) (by omega), b1_s]
        generalize hb : nb A (a : Int) (i : Int) = b at *
        by_cases h2 : b = -1
        · subst h2
          rw [if_pos rfl]
          refine ⟨_, _, rfl, rfl, ?_⟩
          rw [stay (by unfold eg; rw [d1, d2, hb]; simp)]
          exact hM2
        · have hb0 : 0 ≤ b ∧ b < nn A := by omega
          simp (disch := omega) only [ni_eq, MD_has_eq, bI_z]
          rw [if_neg h2]
          cases h3 : hs m b with
          | true =>
            rw [if_pos (by simp)]
            refine ⟨_, _, rfl, rfl, ?_⟩
            rw [stay (by unfold eg; rw [d1, d2, hb]; simp [h3])]
            exact hM2
          | false =>
            have he : eg A m ((4 * a + i : Nat) : Int) = true := by unfold eg; rw [d1, d2, hb]; simp [h3, hma, h2]
            have ht0 := th_eg w (p := ((4 * a + i : Nat) : Int)) (m := m) (by omega) (by omega) he
            rw [d1, d2, hb] at ht0
            have htb := th_bd w (p := ((4 * a + i : Nat) : Int)) (by omega) (by omega)
            have hnew : ∀ M3, PI M A (psf A m (4 * a + i)) M3 → (psf A m (4 * a + i) = -1 ∨ th A ((4 * a + i : Nat) : Int) < th A (psf A m (4 * a + i))) → ∃ s' M', MD_findsPass_L41_J104 m (ni (a : Int)) (ni (i : Int)) (ni b) M3 = some (.inl s', M') ∧ s' = ni ((i + 1 : Nat) : Int) ∧ PI M A (psf A m (4 * a + (i + 1))) M' := by
              intro M3 hM3 hc
              unfold MD_findsPass_L41_J104
              rw [e_threshold (hM3.1.RM h) w (by omega) ha hb0.1 hb0.2, b1_s, show (1 : Int32) = ni 1 from rfl, ni_add]
              refine ⟨_, _, rfl, rfl, ?_⟩
              rw [go he hc]
              refine PI_new hM3 ?_ ?_ ?_
              · unfold pth; rw [if_neg (by omega), ht0.1]
              · unfold psa; rw [if_neg (by omega), d1]
              · unfold psb; rw [if_neg (by omega), d1, d2, hb]
            rw [if_neg (by simp), hM2.2.1]
            rcases psf_rg A m (4 * a + i) with e | ⟨e1, e2, e3⟩
            · have : pth A (psf A m (4 * a + i)) = -1 := by unfold pth; rw [if_pos e]
              rw [this, if_pos rfl]
              exact hnew M2 hM2 (Or.inl e)
            · have hp : pth A (psf A m (4 * a + i)) = th A (psf A m (4 * a + i)) := by unfold pth; rw [if_neg (by omega)]
              have hpb := th_bd w (p := psf A m (4 * a + i)) e1 (by omega)
              rw [hp]
              simp (disch := omega) only [ni_eq]
              rw [if_neg (by omega), e_threshold hR w (by omega) ha hb0.1 hb0.2, b1_s, ← ht0.1]
              simp (disch := omega) only [ni_le]
              by_cases q : th A (psf A m (4 * a + i)) ≤ th A ((4 * a + i : Nat) : Int)
              · rw [if_pos q]
                refine ⟨_, _, rfl, rfl, ?_⟩
                rw [stay2 (by omega)]
                exact hM2
              · rw [if_neg q]
                exact hnew M2 hM2 (Or.inr (by omega))
      · rintro s M2 ⟨rfl, hM2⟩
        refine ⟨(), M2, ?_, hM2⟩
        unfold MD_findsPass_L41
        rw [if_pos (by decide)]
  have outer : ∃ r M', lpM (fun s M9 => MD_findsPass_L29 m s M9) FUEL (0 : Int32) (sI (sI (sI M 0 8 (-1 : Int32)) 0 6 (-1 : Int32)) 0 7 (-1 : Int32)) = some (r, M') ∧ PI M A (ps A m) M' := by
    refine lpM_to (nn A).toNat (by omega) (fun a s M' => s = ni (a : Int) ∧ PI M A (psf A m (4 * a)) M') _ ?_ ?_ ⟨rfl, hst⟩
    · rintro a ha s M1 ⟨rfl, hM1⟩
      obtain ⟨r, M', e1, e2⟩ := inner a (by omega) M1 hM1
      refine ⟨ni ((a + 1 : Nat) : Int), M', ?_, rfl, e2⟩
      unfold MD_findsPass_L29
      rw [e_many (hM1.1.RM h)]
      simp (disch := omega) only [ni_le]
      rw [if_neg (by omega), e1, b2_s, show (1 : Int32) = ni 1 from rfl, ni_add]
      rfl
    · rintro s M1 ⟨rfl, hM1⟩
      refine ⟨(), M1, ?_, ?_⟩
      · unfold MD_findsPass_L29
        rw [e_many (hM1.1.RM h)]
        simp (disch := omega) only [ni_le]
        rw [if_pos (by omega)]
      · unfold ps
        rw [show (4 * nn A).toNat = 4 * (nn A).toNat by omega]
        exact hM1
  obtain ⟨r, M', e1, e2⟩ := outer
  refine ⟨M', ?_, e2⟩
  unfold MD_findsPass
  rw [hin, ck_t, hix, hm, e1, b2_s]
theorem e_capacity {M : Mem} {A : Ab} (h : RM M A) (w : WFg A) {k : Int} (h0 : 0 ≤ k) (h1 : k < 72) : ∃ M', MD_capacity (ni k) M = some (nl (cap A (msk A k)), M') ∧ PI M A (ps A (msk A k)) M' := by
  have hn := nn_bd w
  obtain ⟨M1, e1, hP⟩ := e_findsPass h w h0 h1
  have hR : RM M1 A := hP.1.RM h
  refine ⟨M1, ?_, hP⟩
  have hin : inb ((152 : Int32) + ni k) 513 = true := by
    rw [show (152 : Int32) = ni 152 from rfl, ni_add, ni_inb (by omega) (by omega)]; exact decide_eq_true (by omega)
  have hm : gL M1 1 ((152 : Int32) + ni k).toNatClampNeg = msk A k := by
    rw [show (152 : Int32) = ni 152 from rfl, ni_add, ni_nat (by omega) (by omega), show (152 + k).toNat = 152 + k.toNat by omega, RM_msk hR h0 h1]
  generalize hms : msk A k = m at *
  unfold MD_capacity
  rw [e1, b2_s]
  rcases ps_rg w m with e | ⟨q1, q2, q3⟩
  · have e8 : gI M1 0 8 = ni (-1) := by rw [hP.2.1, pth, if_pos e]
    have key : lpR (fun s => MD_capacity_L10 (ni k) s.1 s.2 M1) FUEL ((0 : Int64), (0 : Int32)) = some (0 : Int64) := by
      refine lpR_to (fun _ => ((0 : Int64), (0 : Int32))) _ 0 (by omega) (fun i hi => by omega) ?_ rfl
      unfold MD_capacity_L10
      rw [e8, e_many hR, if_pos (show ni (-1) = (-1 : Int32) from rfl)]
      split <;> rfl
    rw [key, b1_s, e8, if_neg (by simp; rfl), cap, if_pos e]
    rfl
  · have ht1 := th_bd w q1 q2
    have e8 : gI M1 0 8 = ni (th A (ps A m)) := by rw [hP.2.1, pth, if_neg (by omega)]
    have hsb := fun n (hn' : n ≤ 36) => cap_sum_bd w m (t := th A (ps A m)) ht1.2 (n := n) hn'
    have key : lpR (fun s => MD_capacity_L10 (ni k) s.1 s.2 M1) FUEL ((0 : Int64), (0 : Int32)) = some (nl (sm (nn A).toNat (fun c => room A m (th A (ps A m)) c))) := by
      refine lpR_to (fun j => (nl (sm j (fun c => room A m (th A (ps A m)) c)), ni (j : Int))) _ (nn A).toNat (by omega) ?_ ?_ rfl
      · intro j hj
        have hb := ht_bd w (show 0 ≤ (j : Int) by omega) (by omega)
        unfold MD_capacity_L10
        dsimp only
        rw [e8, e_many hR, hin, ck_t, hm, e_height hR (by omega) (by omega), b1_s, b1_s]
        simp (disch := omega) only [show (1 : Int32) = ni 1 from rfl, ni_neg, show (0 : Int64) = nl 0 from rfl, ni_le, ni_eq, MD_has_eq, bI_z, ni_add, ni_sub, nl_add, ni_64]
        rw [if_neg (by omega), if_neg (by omega)]
        cases h3 : hs m (j : Int) with
        | false =>
          rw [if_pos (by simp)]
          refine congrArg some (congrArg Sum.inl (Prod.ext ?_ rfl))
          dsimp only [sm]
          unfold room
          rw [if_neg (by simp [h3])]
        | true =>
          rw [if_neg (by simp)]
          by_cases q : th A (ps A m) ≤ ht A (j : Int)
          · rw [if_pos q]
            refine congrArg some (congrArg Sum.inl (Prod.ext ?_ rfl))
            dsimp only [sm]
            unfold room
            rw [if_neg (by simp [h3]; omega)]
          · rw [if_neg q]
            refine congrArg some (congrArg Sum.inl (Prod.ext ?_ rfl))
            dsimp only [sm]
            unfold room
            rw [if_pos ⟨h3, by omega⟩]
      · unfold MD_capacity_L10
        dsimp only
        rw [e_many hR]
        simp (disch := omega) only [ni_le]
        rw [if_pos (by omega)]
    rw [key, b1_s, e8]
    simp (disch := omega) only [show (-1 : Int32) = ni (-1) from rfl, ni_eq]
    rw [if_pos (by omega), cap, if_neg (by omega)]
theorem e_isFull {M : Mem} {A : Ab} (h : RM M A) (w : WFg A) {k : Int} (h0 : 0 ≤ k) (h1 : k < 72) (hv : -1000000000 ≤ vol A k ∧ vol A k < 1000000000) : ∃ M', MD_isFull (ni k) M = some (bI (vol A k = cap A (msk A k)), M') ∧ PI M A (ps A (msk A k)) M' := by
  obtain ⟨M1, e1, hP⟩ := e_capacity h w h0 h1
  have hcb := cap_bd w (msk A k)
  refine ⟨M1, ?_, hP⟩
  unfold MD_isFull
  rw [show (224 : Int32) = ni 224 from rfl, ni_add, ni_inb (by omega) (by omega), ck_d (by omega), e1, b2_s, ni_nat (by omega) (by omega), show (224 + k).toNat = 224 + k.toNat by omega, RM_vol h h0 h1]
  simp (disch := omega) only [nl_eq]
  by_cases q : vol A k = cap A (msk A k)
  · rw [if_neg (by simp [q]), bI_t q]
  · rw [if_pos q, bI_f q]
def lvol (A : Ab) (k : Int) : Int := if fst A k = snd A k then 0 else cap A (msk A (fst A k)) + cap A (msk A (snd A k))
theorem e_leastVolume {M : Mem} {A : Ab} (h : RM M A) (w : WFg A) {k : Int} (h0 : 0 ≤ k) (h1 : k < 72) (hf : 0 ≤ fst A k ∧ fst A k < 72) (hs' : 0 ≤ snd A k ∧ snd A k < 72) : ∃ M', MD_leastVolume (ni k) M = some (nl (lvol A k), M') ∧ FrP M M' := by
  have e1 : inb ((296 : Int32) + ni k) 513 = true := by
    rw [show (296 : Int32) = ni 296 from rfl, ni_add, ni_inb (by omega) (by omega)]; exact decide_eq_true (by omega)
  have e2 : inb ((368 : Int32) + ni k) 513 = true := by
    rw [show (368 : Int32) = ni 368 from rfl, ni_add, ni_inb (by omega) (by omega)]; exact decide_eq_true (by omega)
  have e3 : ∀ M', RM M' A → gL M' 1 ((296 : Int32) + ni k).toNatClampNeg = nl (fst A k) := by
    intro M' h'
    rw [show (296 : Int32) = ni 296 from rfl, ni_add, ni_nat (by omega) (by omega), show (296 + k).toNat = 296 + k.toNat by omega, RM_fst h' h0 h1]
  have e4 : ∀ M', RM M' A → gL M' 1 ((368 : Int32) + ni k).toNatClampNeg = nl (snd A k) := by
    intro M' h'
    rw [show (368 : Int32) = ni 368 from rfl, ni_add, ni_nat (by omega) (by omega), show (368 + k).toNat = 368 + k.toNat by omega, RM_snd h' h0 h1]
  unfold MD_leastVolume MD_isJoined
  rw [e1, e2, ck_t, ck_t, ck_t, e3 M h, e4 M h]
  simp (disch := omega) only [nl_eq]
  by_cases q : fst A k = snd A k
  · rw [if_pos q, b1_s, if_pos rfl]
    refine ⟨M, ?_, FrP.rfl'⟩
    unfold lvol
    rw [if_pos q]; rfl
  · obtain ⟨M1, c1, p1⟩ := e_capacity h w hf.1 hf.2
    have hR := p1.1.RM h
    obtain ⟨M2, c2, p2⟩ := e_capacity hR w hs'.1 hs'.2
    rw [if_neg q, b1_s, if_neg (by decide), nl_32, c1, b2_s, ck_t, e4 M1 hR, nl_32, c2, b2_s]
    refine ⟨M2, ?_, p1.1.trans p2.1⟩
    unfold lvol
    rw [if_neg q, nl_add]
