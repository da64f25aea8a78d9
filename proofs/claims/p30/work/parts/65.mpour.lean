/-! 65.mpour: the other side pours -/
def FrA (M M' : Mem) : Prop := (∀ o q, ¬ (o = 0 ∧ (q = 6 ∨ q = 7 ∨ q = 8)) → M'.1 o q = M.1 o q) ∧ ∀ o q, o ≠ 1 → M'.2 o q = M.2 o q
theorem FrA.refl (M : Mem) : FrA M M := ⟨fun _ _ _ => rfl, fun _ _ _ => rfl⟩
theorem FrA.trans {M M' M'' : Mem} (h : FrA M M') (h' : FrA M' M'') : FrA M M'' := ⟨fun o q hq => (h'.1 o q hq).trans (h.1 o q hq), fun o q hq => (h'.2 o q hq).trans (h.2 o q hq)⟩
theorem FrA.ofP {M M' : Mem} (h : FrP M M') : FrA M M' := ⟨h.2, fun o q _ => by rw [h.1]⟩
theorem FrA.s1 (M : Mem) (i : Nat) (v : Int64) : FrA M (sL M 1 i v) := ⟨fun _ _ _ => rfl, fun o q ho => by simp [sL, ho]⟩
theorem FrA.I {M M' : Mem} (h : FrA M M') {o q : Nat} (hq : ¬ (o = 0 ∧ (q = 6 ∨ q = 7 ∨ q = 8))) : gI M' o q = gI M o q := h.1 o q hq
theorem FrA.L {M M' : Mem} (h : FrA M M') {o q : Nat} (ho : o ≠ 1) : gL M' o q = gL M o q := h.2 o q ho
theorem ix (a : Nat) (ha : a < 1000000) {i : Int} (h0 : 0 ≤ i) (h1 : i < 1000000) (c : Int32) (hc : c = ni (a : Int)) : (c + ni i).toNatClampNeg = a + i.toNat := by
  rw [hc, ni_add, ni_nat (by omega) (by omega)]; omega
theorem ixb (a : Nat) {i : Int} (h0 : 0 ≤ i) (h1 : (a : Int) + i < 513) (c : Int32) (hc : c = ni (a : Int)) : inb (c + ni i) 513 = true := by
  rw [hc, ni_add, ni_inb (by omega) (by omega)]; exact decide_eq_true (by omega)
theorem e_join {M : Mem} {A : Ab} (h : RM M A) {m x y : Int} (m0 : 0 ≤ m) (m1 : m < 71) (x0 : 0 ≤ x) (x1 : x < 72) (y0 : 0 ≤ y) (y1 : y < 72) (hm : msk A m = 0) (hmin : ∀ i : Nat, (i : Int) < m → msk A i ≠ 0) : ∃ M', MD_join (ni x) (ni y) M = some (ni m, M') ∧ RM M' (jn A m x y) ∧ FrA M M' := by
  have key : lpR (fun s => MD_join_L2 (ni x) (ni y) s M) FUEL (0 : Int32) = some (ni m) := by
    refine lpR_to (fun i => ni (i : Int)) _ m.toNat (by omega) ?_ ?_ rfl
    · intro i hi
      unfold MD_join_L2
      rw [ixb 152 (by omega) (by omega) (152 : Int32) rfl, ck_t, ix 152 (by omega) (by omega) (by omega) (152 : Int32) rfl, RM_msk h (by omega) (by omega), if_neg (hmin i (by omega)), ni_s]
    · rw [Int.toNat_of_nonneg m0]
      unfold MD_join_L2
      rw [ixb 152 m0 (by omega) (152 : Int32) rfl, ck_t, ix 152 (by omega) m0 (by omega) (152 : Int32) rfl, RM_msk h m0 (by omega), if_pos hm]
  have h1 := RS_msk h m0 (show m < 72 by omega) (msk A x ||| msk A y)
  have h2 := RS_vol h1 m0 (show m < 72 by omega) (vol A x + vol A y)
  have h3 := RS_fst h2 m0 (show m < 72 by omega) x
  have h4 := RS_snd h3 m0 (show m < 72 by omega) y
  have h5 := RS_thr h4 m0 (show m < 72 by omega) 1
  have h6 := RS_thr h5 x0 x1 0
  have h7 := RS_thr h6 y0 y1 0
  have v1 : gL (sL M 1 (152 + m.toNat) (msk A x ||| msk A y)) 1 (224 + x.toNat) = nl (vol A x) := RM_vol h1 x0 x1
  have v2 : gL (sL M 1 (152 + m.toNat) (msk A x ||| msk A y)) 1 (224 + y.toNat) = nl (vol A y) := RM_vol h1 y0 y1
  refine ⟨_, ?_, h7, ?_⟩
  · unfold MD_join
    rw [key, b1_s]
    simp only [ixb 152 x0 (by omega) (152 : Int32) rfl, ixb 152 y0 (by omega) (152 : Int32) rfl, ixb 152 m0 (by omega) (152 : Int32) rfl, ixb 224 x0 (by omega) (224 : Int32) rfl, ixb 224 y0 (by omega) (224 : Int32) rfl, ixb 224 m0 (by omega) (224 : Int32) rfl, ixb 296 m0 (by omega) (296 : Int32) rfl, ixb 368 m0 (by omega) (368 : Int32) rfl, ixb 440 m0 (by omega) (440 : Int32) rfl, ixb 440 x0 (by omega) (440 : Int32) rfl, ixb 440 y0 (by omega) (440 : Int32) rfl, ck_t, ix 152 (by omega) x0 (by omega) (152 : Int32) rfl, ix 152 (by omega) y0 (by omega) (152 : Int32) rfl, ix 152 (by omega) m0 (by omega) (152 : Int32) rfl, ix 224 (by omega) x0 (by omega) (224 : Int32) rfl, ix 224 (by omega) y0 (by omega) (224 : Int32) rfl, ix 224 (by omega) m0 (by omega) (224 : Int32) rfl, ix 296 (by omega) m0 (by omega) (296 : Int32) rfl, ix 368 (by omega) m0 (by omega) (368 : Int32) rfl, ix 440 (by omega) m0 (by omega) (440 : Int32) rfl, ix 440 (by omega) x0 (by omega) (440 : Int32) rfl, ix 440 (by omega) y0 (by omega) (440 : Int32) rfl, RM_msk h x0 x1, RM_msk h y0 y1, v1, v2, nl_add, ni_64 (show -2147483648 ≤ x by omega) (show x < 2147483648 by omega), ni_64 (show -2147483648 ≤ y by omega) (show y < 2147483648 by omega)]
    rfl
  · exact ((((((FrA.s1 _ _ _).trans (FrA.s1 _ _ _)).trans (FrA.s1 _ _ _)).trans (FrA.s1 _ _ _)).trans (FrA.s1 _ _ _)).trans (FrA.s1 _ _ _)).trans (FrA.s1 _ _ _)
theorem aL_id (A : Ab) (f : Nat) (k : Int) : aL A f k (A.2 f k) = A := by
  refine Prod.ext rfl ?_
  funext g j
  simp only [aL]
  split
  · rename_i h; rw [h.1, h.2]
  · rfl
/-- pouring, with what is lost -/
def prl (n : Nat) (A : Ab) (k x : Int) : Ab := aL (pr n A k x).1 0 2 (lst A + nl (pr n A k x).2)
theorem e_pours_x {M : Mem} (k : Int32) {x : Int} (h0 : x ≤ 0) (h1 : -1000000000 < x) : MD_pours_L10 k (nl x) M = some (.inr (.inl ()), M) := by
  unfold MD_pours_L10
  simp (disch := omega) only [show (0 : Int64) = nl 0 from rfl, nl_le]
  rw [if_pos h0]
theorem e_pours_loop : ∀ n : Nat, ∀ (A : Ab) (k x : Int) (M : Mem), WF A → PK A k → 0 ≤ x → wat A + x ≤ 1200000 → (k = -1 ∨ mu A k < n) → 0 < n → RM M A → ∀ fuel, n + 1 < fuel → ∃ r M', lpM (fun s M9 => MD_pours_L10 s.1 s.2 M9) fuel (ni k, nl x) M = some (r, M') ∧ RM M' (prl n A k x) ∧ FrA M M' := by
  intro n
  induction n with
  | zero => intro A k x M _ _ _ _ _ h; omega
  | succ n ih =>
    intro A k x M hW hk hx hwt hmu _ hR fuel hf
    obtain ⟨m, rfl⟩ : ∃ m, fuel = m + 1 := ⟨fuel - 1, by omega⟩
    have hwn := (wat_bd hW.2.1 72 (by omega)).1
    have hwn' : 0 ≤ wat A := hwn
    have prl0 : ∀ B : Ab, lst B = lst A → aL B 0 2 (lst A + nl 0) = B := by
      intro B hB
      rw [show nl 0 = 0 from rfl, Int64.add_zero, ← hB]
      exact aL_id B 0 2
    unfold prl
    simp only [pr]
    by_cases e0 : x ≤ 0
    · rw [if_pos e0]
      refine ⟨.inl (), M, ?_, ?_, FrA.refl M⟩
      · simp only [lpM, e_pours_x (ni k) e0 (by omega), Option.bind_some]
      · dsimp only
        rw [prl0 A rfl]; exact hR
    · rw [if_neg e0]
      by_cases e1 : k = -1
      · rw [if_pos e1]
        refine ⟨.inr (), _, ?_, RS_lost hR (lst A + nl x), FrA.s1 _ _ _⟩
        have : MD_pours_L10 (ni k) (nl x) M = some (.inr (.inr ()), sL M 1 3 (lst A + nl x)) := by
          unfold MD_pours_L10
          simp (disch := omega) only [show (0 : Int64) = nl 0 from rfl, nl_le]
          rw [if_neg e0, e1, if_neg (by simp; rfl), RM_lost hR]
        simp only [lpM, this, Option.bind_some]
      · rw [if_neg e1]
        have hk' := hk.resolve_left e1
        have hv := (hW.2.1.1 k hk'.1.1 (by omega)).2.2.2
        have hcb := cap_bd hW.1 (msk A k)
        obtain ⟨c1, c2, c3, c4⟩ := pr_cases hW hk'.1.1 (by omega) hk'.2 (by omega) hwt
        obtain ⟨M1, q1, P1⟩ := e_capacity hR hW.1 hk'.1.1 (show k < 72 by omega)
        have R1 := P1.1.RM hR
        -- the amount added
        have R2 : RM (sL M1 1 (224 + k.toNat) (nl (vol A k + adm A k x))) (fil A k x) := RS_vol R1 hk'.1.1 (by omega) _
        have hstep : MD_pours_L10 (ni k) (nl x) M = MD_pours_L10_J100 (ni k) (nl x) (ni (pth A (ps A (msk A k)))) (ni (psb A (ps A (msk A k)))) (nl (adm A k x)) M1 := by
          unfold MD_pours_L10
          simp (disch := omega) only [show (0 : Int64) = nl 0 from rfl, nl_le, show (-1 : Int32) = ni (-1) from rfl, ni_eq, show (-1 : Int64) = nl (-1) from rfl]
          rw [if_neg e0, if_pos e1, q1, b2_s, ixb 224 hk'.1.1 (by omega) (224 : Int32) rfl, ix 224 (by omega) hk'.1.1 (by omega) (224 : Int32) rfl, RM_vol R1 hk'.1.1 (by omega), P1.2.1, P1.2.2.2]
          simp (disch := omega) only [nl_eq, nl_sub, ck_t]
          unfold MD_pours_L10_J83 adm
          by_cases z : cap A (msk A k) = -1
          · rw [if_neg (by simp [z]), if_pos (Int64.le_refl _), if_pos z]
          · rw [if_pos z, if_neg z]
            simp (disch := omega) only [nl_le]
            by_cases y : cap A (msk A k) - vol A k ≤ x
            · rw [if_pos y, if_neg (by omega)]
            · rw [if_neg y, if_pos (by omega)]
        have hadd : gL M1 1 (224 + k.toNat) + nl (adm A k x) = nl (vol A k + adm A k x) := by rw [RM_vol R1 hk'.1.1 (by omega), nl_add]
        have fA : FrA M (sL M1 1 (224 + k.toNat) (nl (vol A k + adm A k x))) := (FrA.ofP P1.1).trans (FrA.s1 _ _ _)
        have hJ100 : MD_pours_L10_J100 (ni k) (nl x) (ni (pth A (ps A (msk A k)))) (ni (psb A (ps A (msk A k)))) (nl (adm A k x)) M1 = (if (nl x - nl (adm A k x)) ≤ (0 : Int64) then some (.inl (ni k, nl x - nl (adm A k x)), (sL M1 1 (224 + k.toNat) (nl (vol A k + adm A k x)))) else b1 (MD_lakeOf (ni (psb A (ps A (msk A k)))) (sL M1 1 (224 + k.toNat) (nl (vol A k + adm A k x)))) fun x1 => (if x1 = (-1 : Int32) then MD_pours_L10_J168 (ni k) (nl x - nl (adm A k x)) x1 (sL M1 1 (224 + k.toNat) (nl (vol A k + adm A k x))) else b2 (MD_isFull x1 (sL M1 1 (224 + k.toNat) (nl (vol A k + adm A k x)))) fun x2 M3 => MD_pours_L10_J169 (ni k) (nl x - nl (adm A k x)) x1 (if x2 = 0 then (0 : Int32) else (if ¬ (gI M3 0 8) = ni (pth A (ps A (msk A k))) then (0 : Int32) else (1 : Int32))) M3)) := by
          unfold MD_pours_L10_J100
          rw [ixb 224 hk'.1.1 (by omega) (224 : Int32) rfl, ck_t, ck_t, ix 224 (by omega) hk'.1.1 (by omega) (224 : Int32) rfl, hadd]
        rw [hJ100, nl_sub] at hstep
        simp (disch := omega) only [show (0 : Int64) = nl 0 from rfl, nl_le] at hstep
        by_cases e2 : x - adm A k x ≤ 0
        · rw [if_pos e2] at hstep ⊢
          obtain ⟨m', rfl⟩ : ∃ m', m = m' + 1 := ⟨m - 1, by omega⟩
          refine ⟨.inl (), _, ?_, ?_, fA⟩
          · simp only [lpM, hstep, Option.bind_some, e_pours_x (ni k) e2 (by omega)]
          · dsimp only
            rw [prl0 _ (KP_fil A k x).2.2.2.2.1]; exact R2
        · rw [if_neg e2] at hstep ⊢
          obtain ⟨d1, d2⟩ := c4 (by omega)
          have hpr : 0 ≤ psb A (ps A (msk A k)) ∧ psb A (ps A (msk A k)) < 36 := by
            have hn := nn_bd hW.1
            rcases ps_rg hW.1 (msk A k) with z | ⟨p0, p1, pe⟩
            · exact absurd z d1
            · have e := eg_rg pe
              have := nb_rg (s := ps A (msk A k) % 4) hW.1 (show 0 ≤ ps A (msk A k) / 4 by omega) (by omega)
              unfold psb
              rw [if_neg d1]
              have := e.2.1
              omega
          rw [e_lakeOf R2 c1.2.1 hpr.1 (by omega), b1_s, fil_lk] at hstep
          rw [fil_nxt]
          have hnx : lk A (psb A (ps A (msk A k))) = nxt A k := rfl
          rw [hnx] at hstep
          by_cases e3 : nxt A k = -1
          · rw [if_pos e3]
            rw [e3, if_pos (show ni (-1) = (-1 : Int32) from rfl)] at hstep
            unfold MD_pours_L10_J168 MD_pours_L10_J169 at hstep
            rw [if_pos rfl] at hstep
            obtain ⟨m', rfl⟩ : ∃ m', m = m' + 1 := ⟨m - 1, by omega⟩
            refine ⟨.inr (), _, ?_, RS_lost R2 (lst A + nl (x - adm A k x)), fA.trans (FrA.s1 _ _ _)⟩
            have h2 : MD_pours_L10 (ni (-1)) (nl (x - adm A k x)) (sL M1 1 (224 + k.toNat) (nl (vol A k + adm A k x))) = some (.inr (.inr ()), sL (sL M1 1 (224 + k.toNat) (nl (vol A k + adm A k x))) 1 3 (lst A + nl (x - adm A k x))) := by
              unfold MD_pours_L10
              simp (disch := omega) only [show (0 : Int64) = nl 0 from rfl, nl_le]
              rw [if_neg e2, if_neg (by simp; rfl), RM_lost R2, (KP_fil A k x).2.2.2.2.1]
            simp only [lpM, hstep, Option.bind_some, h2]
          · rw [if_neg e3]
            obtain ⟨o0, o1, o2, o3, o4⟩ := d2.resolve_left e3
            have hmu' := hmu.resolve_left e1
            have hvo := (c1.2.1.1 (nxt A k) o0.1 (by omega)).2.2.2
            obtain ⟨M3, q3, P3⟩ := e_isFull R2 c1.1 o0.1 (show nxt A k < 72 by omega) (by omega)
            have R3 := P3.1.RM R2
            rw [if_neg (by rw [show (-1 : Int32) = ni (-1) from rfl, ni_eq (by omega) (by omega) (by omega) (by omega)]; exact e3), q3, b2_s, P3.2.1, fil_vol, if_neg o1, fil_msk, ← (fil_ge A k x).cap, ← (fil_ge A k x).ps, ← (fil_ge A k x).pth] at hstep
            have hpb : ∀ s, -1 ≤ pth A (ps A s) ∧ pth A (ps A s) ≤ 100 := by
              intro s
              unfold pth
              rcases ps_rg hW.1 s with z | ⟨p0, p1, _⟩
              · rw [if_pos z]; omega
              · rw [if_neg (by omega)]
                have := th_bd hW.1 p0 p1; omega
            have b1' := hpb (msk A (nxt A k))
            have b2' := hpb (msk A k)
            simp (disch := omega) only [bI_z, ni_eq] at hstep
            rw [fil_vol, if_neg o1]
            by_cases e4 : vol A (nxt A k) = cap A (msk A (nxt A k)) ∧ pth A (ps A (msk A (nxt A k))) = pth A (ps A (msk A k))
            · rw [if_pos e4]
              rw [if_neg (by simp [e4.1]), if_neg (by simp [e4.2])] at hstep
              unfold MD_pours_L10_J169 at hstep
              rw [if_neg (by decide)] at hstep
              obtain ⟨j1, j2⟩ := o3 e4
              have hj := jn_WF c1 j1
              have hmb := mu_bd hj.1 (fre (fil A k x))
              have hth2 : 2 ≤ thn (fil A k x) := by
                have := hj.2.2
                have := (thn_le hj.1).1
                have e := thn_set (A := fil A k x) hk'.1.1 (show k < 72 by omega) 0
                have htk : there (fil A k x) k = 1 := by rw [fil_there]; exact hk'.2
                rw [if_neg (by omega), if_pos htk] at e
                have hto : there (aI (fil A k x) 7 k 0) (nxt A k) = 1 := by
                  have : there (fil A k x) (nxt A k) = 1 := by rw [fil_there]; exact o2
                  simp only [aI, there] at this ⊢
                  rw [if_neg (fun z => o1 z.2)]; exact this
                have e2' := thn_set (A := aI (fil A k x) 7 k 0) o0.1 (show nxt A k < 72 by omega) 0
                rw [if_neg (by omega), if_pos hto] at e2'
                have e3' := (ct_bd 72 (fun i => decide (there (aI (aI (fil A k x) 7 k 0) 7 (nxt A k) 0) i = 1))).1
                unfold thn at *
                omega
              obtain ⟨f0, f1, f2, f3⟩ := fre_ok c1 hth2
              obtain ⟨M4, q4, R4, F4⟩ := e_join R3 f0 f1 hk'.1.1 (show k < 72 by omega) o0.1 (show nxt A k < 72 by omega) f2 f3
              rw [q4, b2_s] at hstep
              have hpk : PK (jn (fil A k x) (fre (fil A k x)) k (nxt A k)) (fre (fil A k x)) := by
                right
                refine ⟨j1.1, ?_⟩
                have tz : ∀ i, there (fil A k x) i = 1 → 0 ≤ i → i < 72 → i ≠ fre (fil A k x) := by
                  intro i t a b z
                  have := c1.2.1.2.2.1 i a b t
                  rw [z] at this
                  exact this j1.2.2.2.1
                rw [jn_there, if_neg, if_neg, if_pos rfl]
                · exact fun z => tz k j1.2.2.2.2.2.1 hk'.1.1 (by omega) z.symm
                · exact fun z => tz _ j1.2.2.2.2.2.2.1 o0.1 (by omega) z.symm
              obtain ⟨r, M', q5, R5, F5⟩ := ih _ (fre (fil A k x)) (x - adm A k x) M4 hj.1 hpk (by omega) (by rw [hj.2.1]; omega) (Or.inr (by omega)) (by omega) R4 m (by omega)
              refine ⟨r, M', ?_, ?_, ((fA.trans (FrA.ofP P3.1)).trans F4).trans F5⟩
              · simp only [lpM, hstep, Option.bind_some]
                exact q5
              · unfold prl at R5
                rw [show lst (jn (fil A k x) (fre (fil A k x)) k (nxt A k)) = lst A from ((KP_fil A k x).trans (KP_jn _ _ _ _)).2.2.2.2.1] at R5
                exact R5
            · rw [if_neg e4]
              have hz : (if ¬ vol A (nxt A k) = cap A (msk A (nxt A k)) then (0 : Int32) else (if ¬ pth A (ps A (msk A (nxt A k))) = pth A (ps A (msk A k)) then (0 : Int32) else (1 : Int32))) = 0 := by
                by_cases y1 : vol A (nxt A k) = cap A (msk A (nxt A k))
                · rw [if_neg (by simp [y1]), if_pos (fun y2 => e4 ⟨y1, y2⟩)]
                · rw [if_pos y1]
              rw [hz] at hstep
              unfold MD_pours_L10_J169 at hstep
              rw [if_pos rfl] at hstep
              have hmb := mu_bd c1 (nxt A k)
              have hm4 := o4 e4
              obtain ⟨r, M', q5, R5, F5⟩ := ih (fil A k x) (nxt A k) (x - adm A k x) M3 c1 (Or.inr ⟨o0, by rw [fil_there]; exact o2⟩) (by omega) (by omega) (Or.inr (by omega)) (by omega) R3 m (by omega)
              refine ⟨r, M', ?_, ?_, (fA.trans (FrA.ofP P3.1)).trans F5⟩
              · simp only [lpM, hstep, Option.bind_some]
                exact q5
              · unfold prl at R5
                rw [(KP_fil A k x).2.2.2.2.1] at R5
                exact R5
def prN : Nat := 400000
theorem e_pours {M : Mem} {A : Ab} (hR : RM M A) (hW : WF A) {c x : Int} (h0 : 0 ≤ c) (h1 : c < nn A) (hx : 0 ≤ x) (hw : wat A + x ≤ 1200000) : ∃ M', MD_pours (ni c) (nl x) M = some ((), M') ∧ RM M' (prl prN A (lk A c) x) ∧ FrA M M' := by
  have hn := nn_bd hW.1
  have hpk : PK A (lk A c) := by
    rcases lk_rg hW.2.1 c with z | ⟨r0, r1, r2, _⟩
    · left; exact z
    · right; exact ⟨⟨r0, r1⟩, r2⟩
  have hm := mu_bd hW (lk A c)
  obtain ⟨r, M', q, R, F⟩ := e_pours_loop prN A (lk A c) x M hW hpk hx hw (Or.inr (by unfold prN; omega)) (by unfold prN; omega) hR FUEL (by have := FUEL_big; unfold prN; omega)
  refine ⟨M', ?_, R, F⟩
  unfold MD_pours
  rw [e_lakeOf hR hW.2.1 h0 (by omega), b1_s, q, b2_s]
  cases r <;> rfl
