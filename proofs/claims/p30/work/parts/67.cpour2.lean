/-! 67.cpour2: one side's pourInto, pourAt -/
theorem c_th {g : Nat} {M : Mem} {A : Ab} (hT : RT g M A) (zg : SzG g) {p : Int} (hp : p = -1 ∨ (0 ≤ p ∧ p < 4 * nn A)) : fAtI (g + 7) (ni p) M = ni (pth A p) := by
  unfold pth
  rcases hp with e | ⟨a, b⟩
  · rw [if_pos e, e, fAtI_out zg.2.2.2.1 (by omega) (by omega) (by omega)]
  · rw [if_neg (by omega), RT_sd hT a b]; rfl
theorem c_by {g : Nat} {M : Mem} {A : Ab} (hG : RG g M A) (zg : SzG g) {p : Int} (hp : p = -1 ∨ (0 ≤ p ∧ p < 4 * nn A)) : fAtI (g + 3) (ni p) M = ni (psb A p) := by
  unfold psb
  rcases hp with e | ⟨a, b⟩
  · rw [if_pos e, e, fAtI_out zg.2.1 (by omega) (by omega) (by omega)]
  · rw [if_neg (by omega), RG_sd hG a b]
theorem ps_rg' {A : Ab} (g : WFg A) (m : Int64) : ps A m = -1 ∨ (0 ≤ ps A m ∧ ps A m < 4 * nn A) := by
  rcases ps_rg g m with z | ⟨a, b, _⟩
  · left; exact z
  · right; exact ⟨a, b⟩
theorem c_pour_loop {w : Nat} (zl : SzL (w + 19)) (zg : SzG (w + 1)) : ∀ n : Nat, ∀ (A : Ab) (k x fl : Int) (M : Mem), WF A → (0 ≤ k ∧ k < 71) → there A k = 1 → 0 ≤ x → wat A + x ≤ 1200000 → mu A k < n → 0 < n → 0 ≤ fl → fl + n ≤ 900000 → RG (w + 1) M A → RT (w + 1) M A → RLs (w + 19) M A → ∀ fuel, n + 1 < fuel →
    ∃ r M', lpM (fun s M9 => LK_pourInto_L9 (w + 19) (w + 1) s.1 s.2.1 s.2.2 M9) fuel (ni k, ni x, ni fl) M = some (r, M') ∧ r.elim (fun _ => some ((0 : Int32), M')) (fun r8 => some (r8, M')) = some (ni (pr n A k x).2, M') ∧ RLs (w + 19) M' (pr n A k x).1 ∧ Fr (isLk (w + 19)) M M' := by
  intro n
  induction n with
  | zero => intro A k x fl M _ _ _ _ _ _ h; omega
  | succ n ih =>
    intro A k x fl M hW hk ht hx hwt hmu _ hfl0 hfl hG hT hL fuel hf
    obtain ⟨m, rfl⟩ : ∃ m, fuel = m + 1 := ⟨fuel - 1, by omega⟩
    have hwn : 0 ≤ wat A := (wat_bd hW.2.1 72 (by omega)).1
    simp only [pr]
    by_cases e0 : x ≤ 0
    · rw [if_pos e0]
      refine ⟨.inl (), M, ?_, rfl, hL, Fr.rfl'⟩
      have : LK_pourInto_L9 (w + 19) (w + 1) (ni k) (ni x) (ni fl) M = some (.inr (.inl ()), M) := by
        unfold LK_pourInto_L9
        simp (disch := omega) only [show (1000000 : Int32) = ni 1000000 from rfl, show (0 : Int32) = ni 0 from rfl, ni_le]
        rw [if_neg (by omega), if_pos e0]
      simp only [lpM, this, Option.bind_some]
    · rw [if_neg e0, if_neg (by omega)]
      obtain ⟨c1, c2, c3, c4⟩ := pr_cases hW hk.1 (by omega) ht (by omega) hwt
      obtain ⟨q1, L2⟩ := c_fill hL hW zl hk.1 hk.2 ht (by omega : 0 < x) (by omega)
      obtain ⟨M2, hM2⟩ : ∃ M2, fPutI (w + 19 + 3) (ni k) (ni (vol A k + adm A k x)) M = M2 := ⟨_, rfl⟩
      rw [hM2] at q1 L2
      have f2 : Fr (isLk (w + 19)) M M2 := by rw [← hM2]; exact Fr.put (by unfold isLk; omega)
      have G2 := RG_fr hG f2 (by unfold isLk; omega) (by unfold isLk; omega) (by unfold isLk; omega) (by unfold isLk; omega)
      have T2 := RT_fr hT f2 (by unfold isLk; omega) (by unfold isLk; omega)
      have hz := hW.2.1.2.2.1 k hk.1 (by omega) ht
      have hk2 := L2.2.1 k hk.1 hk.2 (by rw [fil_msk]; exact hz)
      have hps2 : fAtI (w + 19 + 7) (ni k) M2 = ni (ps A (msk A k)) := by
        rw [hk2.2.2.1, fil_msk, ← (fil_ge A k x).ps]
      have hstep : LK_pourInto_L9 (w + 19) (w + 1) (ni k) (ni x) (ni fl) M = (if x - adm A k x ≤ 0 then some (.inl (ni k, ni (x - adm A k x), ni (fl + 1)), M2) else (if ¬ (fAtI (w + 19 + 17) (ni (psb A (ps A (msk A k)))) M2) = (-1 : Int32) then LK_pourInto_L9_J119 (w + 19) (w + 1) (ni k) (ni (x - adm A k x)) (ni fl) (fAtI (w + 19 + 17) (ni (psb A (ps A (msk A k)))) M2) (if (LK_isFull (w + 19) (fAtI (w + 19 + 17) (ni (psb A (ps A (msk A k)))) M2) M2) = 0 then (0 : Int32) else (if ¬ (fAtI (w + 1 + 7) (fAtI (w + 19 + 7) (fAtI (w + 19 + 17) (ni (psb A (ps A (msk A k)))) M2) M2) M2) = ni (pth A (ps A (msk A k))) then (0 : Int32) else (1 : Int32))) M2 else some (.inr (.inr (ni (x - adm A k x))), M2))) := by
        unfold LK_pourInto_L9
        simp (disch := omega) only [show (1000000 : Int32) = ni 1000000 from rfl, show (0 : Int32) = ni 0 from rfl, ni_le]
        rw [if_neg (by omega), if_neg e0, q1, b2_s, hps2, c_by G2 zg (ps_rg' hW.1 _), c_th T2 zg (ps_rg' hW.1 _)]
        simp (disch := omega) only [ni_sub, ni_le, show (1 : Int32) = ni 1 from rfl, ni_add]
      by_cases e2 : x - adm A k x ≤ 0
      · rw [if_pos e2] at hstep ⊢
        obtain ⟨m', rfl⟩ : ∃ m', m = m' + 1 := ⟨m - 1, by omega⟩
        have h2 : LK_pourInto_L9 (w + 19) (w + 1) (ni k) (ni (x - adm A k x)) (ni (fl + 1)) M2 = some (.inr (.inl ()), M2) := by
          unfold LK_pourInto_L9
          simp (disch := omega) only [show (1000000 : Int32) = ni 1000000 from rfl, show (0 : Int32) = ni 0 from rfl, ni_le]
          rw [if_neg (by omega), if_pos e2]
        refine ⟨.inl (), M2, ?_, rfl, L2, f2⟩
        simp only [lpM, hstep, Option.bind_some, h2]
      · rw [if_neg e2] at hstep ⊢
        obtain ⟨d1, d2⟩ := c4 (by omega)
        have hpr : 0 ≤ psb A (ps A (msk A k)) ∧ psb A (ps A (msk A k)) < 36 := by
          have hn := nn_bd hW.1
          rcases ps_rg hW.1 (msk A k) with z | ⟨p0, p1, pe⟩
          · exact absurd z d1
          · have e := eg_rg pe
            have := nb_rg (s := ps A (msk A k) % 4) hW.1 (show 0 ≤ ps A (msk A k) / 4 by omega) (by omega)
            unfold psb
            rw [if_neg d1]
            have := e.2.1
            omega
        have hlo : fAtI (w + 19 + 17) (ni (psb A (ps A (msk A k)))) M2 = ni (nxt A k) := by
          rw [L2.2.2 _ hpr.1 hpr.2, fil_lk]; rfl
        rw [hlo] at hstep
        rw [fil_nxt]
        by_cases e3 : nxt A k = -1
        · rw [if_pos e3]
          rw [e3, if_neg (by simp; rfl)] at hstep
          refine ⟨.inr (ni (x - adm A k x)), M2, ?_, rfl, L2, f2⟩
          simp only [lpM, hstep, Option.bind_some]
        · rw [if_neg e3]
          obtain ⟨o0, o1, o2, o3, o4⟩ := d2.resolve_left e3
          have hzo := hW.2.1.2.2.1 (nxt A k) o0.1 (by omega) o2
          have ho2 := L2.2.1 (nxt A k) o0.1 o0.2 (by rw [fil_msk]; exact hzo)
          have hpso : fAtI (w + 19 + 7) (ni (nxt A k)) M2 = ni (ps A (msk A (nxt A k))) := by
            rw [ho2.2.2.1, fil_msk, ← (fil_ge A k x).ps]
          have hpb : ∀ s, -1 ≤ pth A (ps A s) ∧ pth A (ps A s) ≤ 100 := by
            intro s
            unfold pth
            rcases ps_rg hW.1 s with z | ⟨p0, p1, _⟩
            · rw [if_pos z]; omega
            · rw [if_neg (by omega)]
              have := th_bd hW.1 p0 p1; omega
          have b1' := hpb (msk A (nxt A k))
          have b2' := hpb (msk A k)
          rw [if_pos (by rw [show (-1 : Int32) = ni (-1) from rfl, ni_eq (by omega) (by omega) (by omega) (by omega)]; exact e3), c_isFull L2 c1.1 c1.2.1 o0.1 o0.2 (by rw [fil_msk]; exact hzo), hpso, c_th T2 zg (ps_rg' hW.1 _), fil_vol, if_neg o1, fil_msk, ← (fil_ge A k x).cap] at hstep
          simp (disch := omega) only [bI_z, ni_eq] at hstep
          rw [fil_vol, if_neg o1]
          by_cases e4 : vol A (nxt A k) = cap A (msk A (nxt A k)) ∧ pth A (ps A (msk A (nxt A k))) = pth A (ps A (msk A k))
          · rw [if_pos e4]
            rw [if_neg (by simp [e4.1]), if_neg (by simp [e4.2])] at hstep
            unfold LK_pourInto_L9_J119 at hstep
            rw [if_neg (by decide)] at hstep
            obtain ⟨j1, j2⟩ := o3 e4
            have hj := jn_WF c1 j1
            have hmb := mu_bd hj.1 (fre (fil A k x))
            have hth2 : 2 ≤ thn (fil A k x) := by
              have e := thn_set (A := fil A k x) hk.1 (show k < 72 by omega) 0
              have htk : there (fil A k x) k = 1 := by rw [fil_there]; exact ht
              rw [if_neg (by omega), if_pos htk] at e
              have hto : there (aI (fil A k x) 7 k 0) (nxt A k) = 1 := by
                have : there (fil A k x) (nxt A k) = 1 := by rw [fil_there]; exact o2
                simp only [aI, there] at this ⊢
                rw [if_neg (fun z => o1 z.2)]; exact this
              have e2' := thn_set (A := aI (fil A k x) 7 k 0) o0.1 (show nxt A k < 72 by omega) 0
              rw [if_neg (by omega), if_pos hto] at e2'
              have e3' := (ct_bd 72 (fun i => decide (there (aI (aI (fil A k x) 7 k 0) 7 (nxt A k) 0) i = 1))).1
              unfold thn at *
              omega
            obtain ⟨f0, f1, ff2, f3⟩ := fre_ok c1 hth2
            obtain ⟨M4, q4, L4, F4⟩ := c_join ((fil_ge A k x).RG G2) ((fil_ge A k x).RT T2) L2 c1 zl zg j1 hk.2 o0.2 f3
            rw [q4, b2_s, show ni fl + (1 : Int32) = ni (fl + 1) by rw [show (1 : Int32) = ni 1 from rfl, ni_add]] at hstep
            have hthf : there (jn (fil A k x) (fre (fil A k x)) k (nxt A k)) (fre (fil A k x)) = 1 := by
              have tz : ∀ i, there (fil A k x) i = 1 → 0 ≤ i → i < 72 → i ≠ fre (fil A k x) := by
                intro i t a b z
                have := c1.2.1.2.2.1 i a b t
                rw [z] at this
                exact this j1.2.2.2.1
              rw [jn_there, if_neg, if_neg, if_pos rfl]
              · exact fun z => tz k j1.2.2.2.2.2.1 hk.1 (by omega) z.symm
              · exact fun z => tz _ j1.2.2.2.2.2.2.1 o0.1 (by omega) z.symm
            have gej := ((fil_ge A k x).trans (jn_ge (fil A k x) (fre (fil A k x)) k (nxt A k)))
            have f4' := f2.trans F4
            have G4 := gej.RG (RG_fr hG f4' (by unfold isLk; omega) (by unfold isLk; omega) (by unfold isLk; omega) (by unfold isLk; omega))
            have T4 := gej.RT (RT_fr hT f4' (by unfold isLk; omega) (by unfold isLk; omega))
            obtain ⟨r, M', q5, q6, L5, F5⟩ := ih _ (fre (fil A k x)) (x - adm A k x) (fl + 1) M4 hj.1 j1.1 hthf (by omega) (by rw [hj.2.1]; omega) (by omega) (by omega) (by omega) (by omega) G4 T4 L4 m (by omega)
            refine ⟨r, M', ?_, q6, L5, f4'.trans F5⟩
            simp only [lpM, hstep, Option.bind_some]
            exact q5
          · rw [if_neg e4]
            have hz0 : (if ¬ vol A (nxt A k) = cap A (msk A (nxt A k)) then (0 : Int32) else (if ¬ pth A (ps A (msk A (nxt A k))) = pth A (ps A (msk A k)) then (0 : Int32) else (1 : Int32))) = 0 := by
              by_cases y1 : vol A (nxt A k) = cap A (msk A (nxt A k))
              · rw [if_neg (by simp [y1]), if_pos (fun y2 => e4 ⟨y1, y2⟩)]
              · rw [if_pos y1]
            rw [hz0] at hstep
            unfold LK_pourInto_L9_J119 at hstep
            rw [if_pos rfl, show ni fl + (1 : Int32) = ni (fl + 1) by rw [show (1 : Int32) = ni 1 from rfl, ni_add]] at hstep
            have hmb := mu_bd c1 (nxt A k)
            have hm4 := o4 e4
            obtain ⟨r, M', q5, q6, L5, F5⟩ := ih (fil A k x) (nxt A k) (x - adm A k x) (fl + 1) M2 c1 o0 (by rw [fil_there]; exact o2) (by omega) (by omega) (by omega) (by omega) (by omega) (by omega) ((fil_ge A k x).RG G2) ((fil_ge A k x).RT T2) L2 m (by omega)
            refine ⟨r, M', ?_, q6, L5, f2.trans F5⟩
            simp only [lpM, hstep, Option.bind_some]
            exact q5
theorem prl_ge (n : Nat) {A : Ab} {k x : Int} (h : KP A (pr n A k x).1) : GE A (prl n A k x) := h.1.trans (by refine GE_of ?_ ?_ ?_ ?_ ?_ <;> simp [prl, aL])
theorem prl_msk (n : Nat) (A : Ab) (k x j : Int) : msk (prl n A k x) j = msk (pr n A k x).1 j := by simp [prl, aL, msk]
theorem prl_1 (n : Nat) (A : Ab) (k x : Int) : (prl n A k x).1 = (pr n A k x).1.1 := rfl
theorem WF_long {A B : Ab} (h1 : B.1 = A.1) (h2 : ∀ j, msk B j = msk A j) (h3 : drn B = drn A) (h4 : pits B = pits A) : (WF A → WF B) ∧ wat B = wat A ∧ ∀ j, lk B j = lk A j := by
  have ge : GE A B := GE_of (fun j _ => by rw [h1]) (by rw [h1]) (by rw [h1]) (by rw [h1]) h3.symm
  have e : ∀ f k, B.1 f k = A.1 f k := fun f k => by rw [h1]
  have eb : ∀ m, bct B m = bct A m := fun m => by
    unfold bct fp; rw [ge.nn, h4]; simp only [bas, e]
  refine ⟨fun h => ⟨ge.WFg h.1, ?_, ?_⟩, ?_, fun j => ?_⟩
  · have := h.2.1
    unfold WFb at *
    simp only [there, fst, snd, vol, e, h2, ← ge.nn] at *
    exact this
  · have := h.2.2
    unfold WFf isJ usd thn at *
    simp only [there, fst, snd, vol, bnn, e, h2, ← ge.cap, eb] at *
    exact this
  · unfold wat; simp only [there, vol, e]
  · exact lkf_congr (fun j => by simp only [there, e]) h2 j 72
theorem prl_WF {A : Ab} (hW : WF A) {k x : Int} (hk : PK A k) (hx : 0 ≤ x) (hw : wat A + x ≤ 1200000) : WF (prl prN A k x) ∧ wat (prl prN A k x) + (pr prN A k x).2 = wat A + x ∧ (0 ≤ (pr prN A k x).2 ∧ (pr prN A k x).2 ≤ x) ∧ GE A (prl prN A k x) ∧ bnn (prl prN A k x) = bnn A ∧ bas (prl prN A k x) = bas A ∧ pits (prl prN A k x) = pits A ∧ lst (prl prN A k x) = lst A + nl (pr prN A k x).2 ∧ gon (prl prN A k x) = gon A ∧ prd (prl prN A k x) = prd A := by
  have hm := mu_bd hW k
  obtain ⟨a, b, c, d⟩ := pr_ok prN A k x hW hk hx hw (Or.inr (by unfold prN; omega)) (by unfold prN; omega)
  have hL := WF_long (A := (pr prN A k x).1) (B := prl prN A k x) rfl (prl_msk prN A k x) (by simp [prl, aL, drn]) (by simp [prl, aL, pits])
  refine ⟨hL.1 a, by rw [hL.2.1]; exact b, c, prl_ge prN d, d.2.1, d.2.2.1, ?_, ?_, ?_, ?_⟩
  · rw [← d.2.2.2.1]; simp [prl, aL, pits]
  · simp [prl, aL, lst]
  · rw [← d.2.2.2.2.2.1]; simp [prl, aL, gon]
  · rw [← d.2.2.2.2.2.2]; simp [prl, aL, prd]
theorem RLs_long {A B : Ab} {l : Nat} {M : Mem} (h1 : B.1 = A.1) (h2 : ∀ j, msk B j = msk A j) (h3 : drn B = drn A) (h4 : pits B = pits A) (h : RLs l M A) : RLs l M B := by
  have ge : GE A B := GE_of (fun j _ => by rw [h1]) (by rw [h1]) (by rw [h1]) (by rw [h1]) h3.symm
  have e : ∀ f k, B.1 f k = A.1 f k := fun f k => by rw [h1]
  have eb : ∀ m, bct B m = bct A m := fun m => by
    unfold bct fp; rw [ge.nn, h4]; simp only [bas, e]
  have el := (WF_long h1 h2 h3 h4).2.2
  unfold RLs RLk lvol fa sa at *
  simp only [fst, snd, vol, e, h2, ← ge.cap, ← ge.ps, eb, el] at *
  exact h
theorem pr_m1 (n : Nat) (A : Ab) (x : Int) : pr (n + 1) A (-1) x = (A, if x ≤ 0 then 0 else x) := by
  simp only [pr]
  by_cases z : x ≤ 0
  · rw [if_pos z, if_pos z]
  · rw [if_neg z, if_neg z]; simp
theorem c_pourAt {w : Nat} (hw : IsW w) {M : Mem} {A : Ab} (hR : RW w M A) (hW : WF A) {c x : Int} (h0 : 0 ≤ c) (h1 : c < nn A) (hx : 0 ≤ x) (hwt : wat A + x ≤ 1200000) : ∃ M', WD_pourAt w (ni c) (ni x) M = some (ni (pr prN A (lk A c) x).2, M') ∧ RW w M' (prl prN A (lk A c) x) ∧ Fr (fun p => p = w ∨ isLk (w + 19) p) M M' ∧ gI M' w 8 = gI M w 8 := by
  obtain ⟨zg, zy, zl, -, -⟩ := sz_w hw
  have hn := nn_bd hW.1
  obtain ⟨⟨hG, hT, hY, hL⟩, hl3, hl4, hl5⟩ := hR
  have hpk : PK A (lk A c) := by
    rcases lk_rg hW.2.1 c with z | ⟨r0, r1, r2, _⟩
    · left; exact z
    · right; exact ⟨⟨r0, r1⟩, r2⟩
  obtain ⟨pw, pwat, pb, pge, pbn, pbas, ppit, plst, pgon, pprd⟩ := prl_WF hW hpk hx hwt
  have hwp : 0 ≤ wat (prl prN A (lk A c) x) := (wat_bd pw.2.1 72 (by omega)).1
  have hwq : 0 ≤ wat A := (wat_bd hW.2.1 72 (by omega)).1
  have hm := mu_bd hW (lk A c)
  have fin : ∀ M1, RLs (w + 19) M1 (pr prN A (lk A c) x).1 → Fr (isLk (w + 19)) M M1 → ∃ M', WD_pourAt_J34 w (ni (pr prN A (lk A c) x).2) M1 = some (ni (pr prN A (lk A c) x).2, M') ∧ RW w M' (prl prN A (lk A c) x) ∧ Fr (fun p => p = w ∨ isLk (w + 19) p) M M' ∧ gI M' w 8 = gI M w 8 := by
    intro M1 L1 F1
    have nl' : ∀ p, p ≤ w + 20 → ¬ isLk (w + 19) p := fun p hp => by unfold isLk; omega
    have ef : ∀ q, gL M1 w q = gL M w q := fun q => F1.gL (nl' w (by omega))
    have hs : Fr (fun p => p = w) M1 (sL M1 w 4 ((gL M1 w 4) + (ni (pr prN A (lk A c) x).2).toInt64)) := Fr.sL rfl
    refine ⟨_, rfl, ⟨⟨?_, ?_, ?_, ?_⟩, ?_, ?_, ?_⟩, (F1.mono (fun p hp => Or.inr hp)).trans (hs.mono (fun p hp => Or.inl hp)), ?_⟩
    · exact pge.RG (RG_fr (RG_fr hG F1 (nl' _ (by omega)) (nl' _ (by omega)) (nl' _ (by omega)) (nl' _ (by omega))) hs (by omega) (by omega) (by omega) (by omega))
    · exact pge.RT (RT_fr (RT_fr hT F1 (nl' _ (by omega)) (nl' _ (by omega))) hs (by omega) (by omega))
    · have y1 := RY_fr (RY_fr hY F1 (nl' _ (by omega)) (nl' _ (by omega)) (nl' _ (by omega)) (nl' _ (by omega))) hs (by omega) (by omega) (by omega) (by omega)
      rw [pbn, pbas]
      unfold RY at *
      rw [← pge.nn, ← pge.pl, ← pge.tg]
      exact y1
    · have l1 := RLs_fr L1 hs (by omega) (by omega) (by omega) (by omega) (by omega) (by omega) (by omega) (by omega) (by omega)
      exact RLs_long (A := (pr prN A (lk A c) x).1) rfl (prl_msk _ _ _ _) (by simp [prl, aL, drn]) (by simp [prl, aL, pits]) l1
    · rw [pprd, ← hl3, ← ef]; simp [gL, sL]
    · rw [plst, ← hl4, ← ef, ni_64 (by omega) (by omega)]; simp [gL, sL]
    · rw [pgon, ← hl5, ← ef]; simp [gL, sL]
    · rw [show gI (sL M1 w 4 ((gL M1 w 4) + (ni (pr prN A (lk A c) x).2).toInt64)) w 8 = gI M1 w 8 from rfl]
      exact F1.gI (nl' w (by omega))
  unfold WD_pourAt
  rw [show w + 36 = w + 19 + 17 from rfl, hL.2.2 c h0 (by omega)]
  by_cases e : lk A c = -1
  · rw [if_neg (by rw [e]; simp; rfl)]
    have hpr : pr prN A (lk A c) x = (A, if x ≤ 0 then 0 else x) := by
      rw [e]
      exact pr_m1 399999 A x
    have hx2 : (pr prN A (lk A c) x).2 = x := by rw [hpr]; dsimp only; split <;> omega
    have := fin M (by rw [hpr]; exact hL) Fr.rfl'
    rw [hx2] at this ⊢
    exact this
  · have hk := hpk.resolve_left e
    rw [if_pos (by rw [show (-1 : Int32) = ni (-1) from rfl, ni_eq (by omega) (by omega) (by omega) (by omega)]; exact e)]
    obtain ⟨r, M1, q1, q2, L1, F1⟩ := c_pour_loop zl zg prN A (lk A c) x 0 M hW hk.1 hk.2 hx hwt (by unfold prN; omega) (by unfold prN; omega) (by omega) (by unfold prN; omega) hG hT hL FUEL (by have := FUEL_big; unfold prN; omega)
    have : LK_pourInto (w + 19) (w + 1) (ni (lk A c)) (ni x) M = some (ni (pr prN A (lk A c) x).2, M1) := by
      unfold LK_pourInto
      rw [show (ni (lk A c), ni x, (0 : Int32)) = (ni (lk A c), ni x, ni 0) from rfl, q1, b2_s]
      exact q2
    rw [this, b2_s]
    exact fin M1 L1 F1
