/-! 64.pour: pouring, as both sides do it; that it ends -/
def fre (A : Ab) : Int := ff 71 (fun k => decide (msk A k = 0))
def adm (A : Ab) (k x : Int) : Int := if cap A (msk A k) = -1 then x else if x < cap A (msk A k) - vol A k then x else cap A (msk A k) - vol A k
def fil (A : Ab) (k x : Int) : Ab := aI A 4 k (vol A k + adm A k x)
def nxt (A : Ab) (k : Int) : Int := lk A (psb A (ps A (msk A k)))
def pr : Nat → Ab → Int → Int → Ab × Int
  | 0, A, _, _ => (A, 0)
  | n + 1, A, k, x =>
    if x ≤ 0 then (A, 0) else if k = -1 then (A, x) else
    if x - adm A k x ≤ 0 then (fil A k x, 0) else
    if nxt (fil A k x) k = -1 then (fil A k x, x - adm A k x) else
    if vol (fil A k x) (nxt (fil A k x) k) = cap A (msk A (nxt (fil A k x) k)) ∧ pth A (ps A (msk A (nxt (fil A k x) k))) = pth A (ps A (msk A k)) then
      pr n (jn (fil A k x) (fre (fil A k x)) k (nxt (fil A k x) k)) (fre (fil A k x)) (x - adm A k x)
    else pr n (fil A k x) (nxt (fil A k x) k) (x - adm A k x)
def nfl (A : Ab) : Int := ct 72 (fun k => decide (there A k = 1) && !decide (vol A k = cap A (msk A k)))
def mu (A : Ab) (k : Int) : Int := ((thn A * 37 + nfl A) * 101 + (if ps A (msk A k) = -1 then 0 else th A (ps A (msk A k)))) * 2 + (if vol A k = cap A (msk A k) then 1 else 0)
theorem fil_there (A : Ab) (k x j : Int) : there (fil A k x) j = there A j := by simp [fil, aI, there]
theorem fil_msk (A : Ab) (k x j : Int) : msk (fil A k x) j = msk A j := by simp [fil, aI, msk]
theorem fil_vol (A : Ab) (k x j : Int) : vol (fil A k x) j = if j = k then vol A k + adm A k x else vol A j := by simp [fil, aI, vol]
theorem fil_ge (A : Ab) (k x : Int) : GE A (fil A k x) := GE_vol A k _
theorem lkf_congr {A B : Ab} (ht : ∀ j, there A j = there B j) (hm : ∀ j, msk A j = msk B j) (c : Int) (n : Nat) : lkf A c n = lkf B c n := by
  induction n with
  | zero => rfl
  | succ n ih => simp only [lkf]; rw [ih, ht, hm]
theorem fil_lk (A : Ab) (k x c : Int) : lk (fil A k x) c = lk A c := lkf_congr (fil_there A k x) (fil_msk A k x) c 72
theorem fil_nxt (A : Ab) (k x : Int) : nxt (fil A k x) k = nxt A k := by
  unfold nxt
  rw [fil_lk, fil_msk, ← (fil_ge A k x).psb, ← (fil_ge A k x).ps]
theorem nfl_bd (A : Ab) : 0 ≤ nfl A ∧ nfl A ≤ thn A := by
  refine ⟨(ct_bd 72 _).1, ?_⟩
  apply sm_le
  intro i _
  by_cases q : there A (i : Int) = 1
  · simp [q]; split <;> omega
  · simp [q]
theorem nfl_set {A : Ab} {k : Int} (h0 : 0 ≤ k) (h1 : k < 72) (ht : there A k = 1) (v : Int) : nfl (aI A 4 k v) = nfl A + (if v = cap A (msk A k) then 0 else 1) - (if vol A k = cap A (msk A k) then 0 else 1) := by
  have ge := GE_vol A k v
  unfold nfl
  simp only [ct]
  rw [sm_one (g := fun i => if (decide (there A (i : Int) = 1) && !decide (vol A (i : Int) = cap A (msk A i))) = true then 1 else 0) h0 h1 (fun i _ hne => by rw [← ge.cap]; simp [aI, there, vol, msk, hne])]
  simp only [Int.toNat_of_nonneg h0, ← ge.cap]
  simp only [there] at ht
  simp [aI, there, vol, msk, ht]
theorem fre_ok {A : Ab} (h : WF A) (ht : 2 ≤ thn A) : 0 ≤ fre A ∧ fre A < 71 ∧ msk A (fre A) = 0 ∧ ∀ i : Nat, (i : Int) < fre A → msk A i ≠ 0 := by
  have hl := thn_le h
  have hb := h.2.2.2.2.2.1
  unfold fre
  rcases ff_spec 71 (fun k => decide (msk A (k : Int) = 0)) with ⟨_, e⟩ | ⟨k, k1, k2, k3, k4⟩
  · exfalso
    have : ct 71 (fun _ => true) ≤ usd A := by
      have h1 : ct 71 (fun _ => true) = ct 71 (fun k => !decide (msk A (k : Int) = 0)) := ct_congr (fun i hi => by rw [e i hi]; rfl)
      rw [h1]
      have h2 := ct_succ 71 (fun k => !decide (msk A (k : Int) = 0))
      unfold usd
      rw [show ct 72 (fun k => !decide (msk A (k : Int) = 0)) = ct (71 + 1) (fun k => !decide (msk A (k : Int) = 0)) from rfl, h2]
      split <;> omega
    have h71 : ct 71 (fun _ => true) = 71 := by decide
    have := h.2.2.2.2.1
    omega
  · rw [k2]
    refine ⟨by omega, by omega, by simpa using k3, fun i hi => ?_⟩
    have := k4 i (by omega)
    simpa using this
theorem adm_bd {A : Ab} (h : WF A) {k x : Int} (h0 : 0 ≤ k) (h1 : k < 72) (ht : there A k = 1) (hx : 0 ≤ x) : 0 ≤ adm A k x ∧ adm A k x ≤ x ∧ (adm A k x < x → cap A (msk A k) ≠ -1 ∧ vol A k + adm A k x = cap A (msk A k)) ∧ (cap A (msk A k) ≠ -1 → vol A k + adm A k x ≤ cap A (msk A k)) := by
  have hv := (h.2.1.1 k h0 h1).2.2.2
  have he := h.2.2.2.2.2.2.1 k h0 h1 ht
  unfold adm
  by_cases q : cap A (msk A k) = -1
  · rw [if_pos q]
    exact ⟨hx, Int.le_refl _, fun z => by omega, fun z => absurd q z⟩
  · rw [if_neg q]
    have := he q
    split
    · exact ⟨hx, Int.le_refl _, fun z => by omega, fun z => by omega⟩
    · exact ⟨by omega, by omega, fun z => ⟨q, by omega⟩, fun z => by omega⟩
/-- one step of pouring -/
theorem pr_cases {A : Ab} (h : WF A) {k x : Int} (h0 : 0 ≤ k) (h1 : k < 72) (ht : there A k = 1) (hx : 0 < x) (hw : wat A + x ≤ 1200000) :
    WF (fil A k x) ∧ wat (fil A k x) = wat A + adm A k x ∧ (0 ≤ adm A k x ∧ adm A k x ≤ x) ∧
    (0 < x - adm A k x → ps A (msk A k) ≠ -1 ∧ (nxt A k = -1 ∨ ((0 ≤ nxt A k ∧ nxt A k < 71) ∧ nxt A k ≠ k ∧ there A (nxt A k) = 1 ∧
      ((vol A (nxt A k) = cap A (msk A (nxt A k)) ∧ pth A (ps A (msk A (nxt A k))) = pth A (ps A (msk A k))) → JOk (fil A k x) (fre (fil A k x)) k (nxt A k) ∧ mu (jn (fil A k x) (fre (fil A k x)) k (nxt A k)) (fre (fil A k x)) < mu A k) ∧
      (¬ (vol A (nxt A k) = cap A (msk A (nxt A k)) ∧ pth A (ps A (msk A (nxt A k))) = pth A (ps A (msk A k))) → mu (fil A k x) (nxt A k) < mu A k)))) := by
  have ha := adm_bd h h0 h1 ht (Int.le_of_lt hx)
  have hv := (h.2.1.1 k h0 h1).2.2.2
  have hwm := wat_mem h.2.1 h0 h1 ht
  have ge := fil_ge A k x
  have g := h.1
  have hn := nn_bd g
  have hW : WF (fil A k x) := fill_WF h h0 h1 (by omega) (by omega) (fun _ q => ha.2.2.2 q)
  have hwat : wat (fil A k x) = wat A + adm A k x := by
    unfold fil
    rw [wat_set4 h0 h1, if_pos ht]; omega
  refine ⟨hW, hwat, ⟨ha.1, ha.2.1⟩, fun hpos => ?_⟩
  obtain ⟨hc, hfull⟩ := ha.2.2.1 (by omega)
  have hps : ps A (msk A k) ≠ -1 := fun z => hc ((cap_ps g _).mpr z)
  refine ⟨hps, ?_⟩
  rcases ps_rg g (msk A k) with z | ⟨p0, p1, pe⟩
  · exact absurd z hps
  · have e := eg_rg pe
    have hpb : psb A (ps A (msk A k)) = nb A (ps A (msk A k) / 4) (ps A (msk A k) % 4) := by unfold psb; rw [if_neg hps]
    generalize hpp : ps A (msk A k) = p at *
    have hnx : nxt A k = lk A (nb A (p / 4) (p % 4)) := by unfold nxt; rw [hpp, hpb]
    rcases lk_rg h.2.1 (nb A (p / 4) (p % 4)) with r | ⟨r0, r1, r2, r3, r4⟩
    · left; rw [hnx]; exact r
    · right
      rw [← hnx] at r0 r1 r2 r3 r4
      have hne : nxt A k ≠ k := by intro z; rw [z, e.2.2] at r3; cases r3
      refine ⟨⟨r0, r1⟩, hne, r2, ?_⟩
      -- the way back
      have hr := nb_rg (s := p % 4) g (show 0 ≤ p / 4 by omega) (by omega)
      have hbr : 0 ≤ nb A (p / 4) (p % 4) ∧ nb A (p / 4) (p % 4) < nn A := by have := e.2.1; omega
      have hsy := nb_sy g (show 0 ≤ p / 4 by omega) (by omega) (show 0 ≤ p % 4 ∧ p % 4 < 4 by omega) e.2.1
      generalize hbb : nb A (p / 4) (p % 4) = b at *
      have hj4 : (4 * b + (3 - p % 4)) / 4 = b := by omega
      have hjm : (4 * b + (3 - p % 4)) % 4 = 3 - p % 4 := by omega
      have hao : hs (msk A (nxt A k)) (p / 4) = false := by
        cases z : hs (msk A (nxt A k)) (p / 4) with
        | false => rfl
        | true => exact absurd (h.2.1.2.2.2.1 _ _ _ r0 (by omega) h0 h1 r2 ht z e.1) hne
      have heo : eg A (msk A (nxt A k)) (4 * b + (3 - p % 4)) = true := by
        unfold eg
        rw [hj4, hjm, r3, hsy, hao]
        simp; omega
      have hmin := ps_min g (by omega) (by omega) heo
      have hthj : th A (4 * b + (3 - p % 4)) = th A p := by
        unfold th ths
        rw [hj4, hjm, hsy, hbb, if_neg (by omega), if_neg e.2.1, thr_sy]
      rw [hthj] at hmin
      have htb := th_bd g p0 p1
      have htb2 : 0 ≤ th A (ps A (msk A (nxt A k))) ∧ th A (ps A (msk A (nxt A k))) ≤ 100 := by
        rcases ps_rg g (msk A (nxt A k)) with z | ⟨z0, z1, _⟩
        · exact absurd z hmin.1
        · exact th_bd g z0 z1
      have ethn : thn (fil A k x) = thn A := by unfold thn; simp only [fil_there]
      have hnf : nfl (fil A k x) = nfl A - (if vol A k = cap A (msk A k) then 0 else 1) := by
        unfold fil
        rw [nfl_set h0 h1 ht, if_pos hfull]; omega
      have hnb := nfl_bd (fil A k x)
      have hnb' := nfl_bd A
      have hthn2 : 2 ≤ thn A := by
        have e1 := thn_set (A := A) h0 h1 0
        rw [if_neg (by omega), if_pos ht] at e1
        have hto : there (aI A 7 k 0) (nxt A k) = 1 := by simp only [aI, there] at r2 ⊢; rw [if_neg (fun z => hne z.2)]; exact r2
        have e2 := thn_set (A := aI A 7 k 0) r0 (show nxt A k < 72 by omega) 0
        rw [if_neg (by omega), if_pos hto] at e2
        have e3 := (ct_bd 72 (fun i => decide (there (aI (aI A 7 k 0) 7 (nxt A k) 0) i = 1))).1
        unfold thn at *
        omega
      have hmk : mu A k = ((thn A * 37 + nfl A) * 101 + th A p) * 2 + (if vol A k = cap A (msk A k) then 1 else 0) := by
        unfold mu; rw [hpp, if_neg hps]
      constructor
      · rintro ⟨j1, j2⟩
        obtain ⟨f0, f1, f2, f3⟩ := fre_ok hW (by rw [ethn]; exact hthn2)
        have hJ : JOk (fil A k x) (fre (fil A k x)) k (nxt A k) := by
          refine ⟨⟨f0, f1⟩, ⟨h0, h1⟩, ⟨r0, by omega⟩, f2, Ne.symm hne, ?_, ?_, ?_, ?_, ?_⟩
          · rw [fil_there]; exact ht
          · rw [fil_there]; exact r2
          · rw [fil_msk, ← ge.ps, hpp]; exact hps
          · rw [fil_msk, ← ge.ps]; exact hmin.1
          · rw [fil_msk, fil_msk, ← ge.ps, ← ge.pth, hpp]; exact j2.symm
        refine ⟨hJ, ?_⟩
        have hj := jn_WF hW hJ
        have hnbj := nfl_bd (jn (fil A k x) (fre (fil A k x)) k (nxt A k))
        rw [hj.2.2, ethn] at hnbj
        have hlej := thn_le h
        have hb36 := h.2.2.2.2.2.1
        rw [hmk]
        unfold mu
        rw [hj.2.2, ethn]
        have ht3 : (if ps (jn (fil A k x) (fre (fil A k x)) k (nxt A k)) (msk (jn (fil A k x) (fre (fil A k x)) k (nxt A k)) (fre (fil A k x))) = -1 then 0 else th (jn (fil A k x) (fre (fil A k x)) k (nxt A k)) (ps (jn (fil A k x) (fre (fil A k x)) k (nxt A k)) (msk (jn (fil A k x) (fre (fil A k x)) k (nxt A k)) (fre (fil A k x))))) ≤ 100 := by
          split
          · omega
          · rename_i z
            rcases ps_rg hj.1.1 (msk (jn (fil A k x) (fre (fil A k x)) k (nxt A k)) (fre (fil A k x))) with y | ⟨y0, y1, _⟩
            · exact absurd y z
            · exact (th_bd hj.1.1 y0 y1).2
        split <;> split <;> omega
      · intro hnj
        rw [hmk]
        unfold mu
        rw [ethn, hnf, fil_msk, fil_vol, if_neg hne, ← ge.ps, ← ge.th, ← ge.cap, if_neg hmin.1]
        by_cases q1 : vol A k = cap A (msk A k)
        · rw [if_pos q1, if_pos q1]
          by_cases q2 : vol A (nxt A k) = cap A (msk A (nxt A k))
          · rw [if_pos q2]
            have : th A (ps A (msk A (nxt A k))) ≠ th A p := by
              intro z
              apply hnj
              refine ⟨q2, ?_⟩
              unfold pth
              rw [if_neg hmin.1, if_neg hps, z]
            omega
          · rw [if_neg q2]; omega
        · rw [if_neg q1, if_neg q1]
          split <;> omega
theorem mu_bd {A : Ab} (h : WF A) (k : Int) : 0 ≤ mu A k ∧ mu A k < 300000 := by
  have hl := thn_le h
  have hb := h.2.2.2.2.2.1
  have hn := nfl_bd A
  unfold mu
  have : 0 ≤ (if ps A (msk A k) = -1 then 0 else th A (ps A (msk A k))) ∧ (if ps A (msk A k) = -1 then 0 else th A (ps A (msk A k))) ≤ 100 := by
    split
    · omega
    · rename_i z
      rcases ps_rg h.1 (msk A k) with y | ⟨y0, y1, _⟩
      · exact absurd y z
      · exact th_bd h.1 y0 y1
  split <;> omega
/-- what pouring leaves as it was -/
def KP (A B : Ab) : Prop := GE A B ∧ bnn B = bnn A ∧ bas B = bas A ∧ pits B = pits A ∧ lst B = lst A ∧ gon B = gon A ∧ prd B = prd A
theorem KP.refl (A : Ab) : KP A A := ⟨GE.refl A, rfl, rfl, rfl, rfl, rfl, rfl⟩
theorem KP.trans {A B C : Ab} (h : KP A B) (h' : KP B C) : KP A C := ⟨h.1.trans h'.1, h'.2.1.trans h.2.1, h'.2.2.1.trans h.2.2.1, h'.2.2.2.1.trans h.2.2.2.1, h'.2.2.2.2.1.trans h.2.2.2.2.1, h'.2.2.2.2.2.1.trans h.2.2.2.2.2.1, h'.2.2.2.2.2.2.trans h.2.2.2.2.2.2⟩
theorem KP_fil (A : Ab) (k x : Int) : KP A (fil A k x) := ⟨fil_ge A k x, by simp [fil, aI, bnn], by funext c; simp [fil, aI, bas], by simp [fil, aI, pits], by simp [fil, aI, lst], by simp [fil, aI, gon], by simp [fil, aI, prd]⟩
theorem KP_jn (A : Ab) (m x y : Int) : KP A (jn A m x y) := ⟨jn_ge A m x y, by simp [jn, aI, aL, bnn], by funext c; simp [jn, aI, aL, bas], by simp [jn, aI, aL, pits], by simp [jn, aI, aL, lst], by simp [jn, aI, aL, gon], by simp [jn, aI, aL, prd]⟩
def PK (A : Ab) (k : Int) : Prop := k = -1 ∨ ((0 ≤ k ∧ k < 71) ∧ there A k = 1)
theorem pr_ok : ∀ n : Nat, ∀ A k x, WF A → PK A k → 0 ≤ x → wat A + x ≤ 1200000 → (k = -1 ∨ mu A k < n) → 0 < n → WF (pr n A k x).1 ∧ wat (pr n A k x).1 + (pr n A k x).2 = wat A + x ∧ (0 ≤ (pr n A k x).2 ∧ (pr n A k x).2 ≤ x) ∧ KP A (pr n A k x).1 := by
  intro n
  induction n with
  | zero => intro A k x _ _ _ _ _ h; omega
  | succ n ih =>
    intro A k x hW hk hx hwt hmu _
    simp only [pr]
    by_cases e0 : x ≤ 0
    · rw [if_pos e0]; exact ⟨hW, by dsimp only; omega, by dsimp only; omega, KP.refl A⟩
    · rw [if_neg e0]
      by_cases e1 : k = -1
      · rw [if_pos e1]; exact ⟨hW, rfl, by dsimp only; omega, KP.refl A⟩
      · rw [if_neg e1]
        have hk' := hk.resolve_left e1
        obtain ⟨c1, c2, c3, c4⟩ := pr_cases hW hk'.1.1 (by omega) hk'.2 (by omega) hwt
        by_cases e2 : x - adm A k x ≤ 0
        · rw [if_pos e2]; exact ⟨c1, by dsimp only; omega, by dsimp only; omega, KP_fil A k x⟩
        · rw [if_neg e2, fil_nxt]
          obtain ⟨d1, d2⟩ := c4 (by omega)
          by_cases e3 : nxt A k = -1
          · rw [if_pos e3]; exact ⟨c1, by dsimp only; omega, by dsimp only; omega, KP_fil A k x⟩
          · rw [if_neg e3]
            obtain ⟨o0, o1, o2, o3, o4⟩ := d2.resolve_left e3
            have hmu' := hmu.resolve_left e1
            rw [fil_vol, if_neg o1]
            by_cases e4 : vol A (nxt A k) = cap A (msk A (nxt A k)) ∧ pth A (ps A (msk A (nxt A k))) = pth A (ps A (msk A k))
            · rw [if_pos e4]
              obtain ⟨j1, j2⟩ := o3 e4
              have hj := jn_WF c1 j1
              have hmb := mu_bd hj.1 (fre (fil A k x))
              have hpk : PK (jn (fil A k x) (fre (fil A k x)) k (nxt A k)) (fre (fil A k x)) := by
                right
                refine ⟨j1.1, ?_⟩
                have tz : ∀ i, there (fil A k x) i = 1 → 0 ≤ i → i < 72 → i ≠ fre (fil A k x) := by
                  intro i t a b z
                  have := c1.2.1.2.2.1 i a b t
                  rw [z] at this
                  exact this j1.2.2.2.1
                rw [jn_there, if_neg, if_neg, if_pos rfl]
                · exact fun z => tz k j1.2.2.2.2.2.1 hk'.1.1 (by omega) z.symm
                · exact fun z => tz _ j1.2.2.2.2.2.2.1 o0.1 (by omega) z.symm
              have := ih _ (fre (fil A k x)) (x - adm A k x) hj.1 hpk (by omega) (by rw [hj.2.1]; omega) (Or.inr (by omega)) (by omega)
              rw [hj.2.1] at this
              exact ⟨this.1, by omega, by omega, (KP_fil A k x).trans ((KP_jn _ _ _ _).trans this.2.2.2)⟩
            · rw [if_neg e4]
              have hmb := mu_bd c1 (nxt A k)
              have := ih (fil A k x) (nxt A k) (x - adm A k x) c1 (Or.inr ⟨o0, by rw [fil_there]; exact o2⟩) (by omega) (by omega) (Or.inr (by have := o4 e4; omega)) (by have := o4 e4; omega)
              exact ⟨this.1, by omega, by omega, (KP_fil A k x).trans this.2.2.2⟩
