/-! 71.takes: both sides' drawing -/
theorem ixc {i : Int} (h0 : 0 ≤ i) (h1 : i < 72) : inb (ni i) 72 = true := by
  rw [ni_inb (by omega) (by omega)]; exact decide_eq_true (by omega)
theorem e_takes_loop (a9 : Int64) : ∀ s : Nat, ∀ (A : Ab) (L : List (Int × Int)) (M : Mem), WF A → OkL A L → szL A L ≤ s → szL A L ≤ 71 → RM M A → StM M L → ∀ fuel, s < fuel → ∃ r M', lpM (fun s M9 => MD_takes_L17 a9 s M9) fuel (ni (L.length : Int)) M = some (r, M') ∧ RM M' (rnL A L) ∧ FrT M M' := by
  intro s
  induction s with
  | zero =>
    intro A L M hW hL hs' _ hR hS fuel hf
    obtain ⟨m, rfl⟩ : ∃ m, fuel = m + 1 := ⟨fuel - 1, by omega⟩
    have := szL_len hW hL
    obtain rfl : L = [] := List.eq_nil_of_length_eq_zero (by omega)
    refine ⟨(), M, ?_, hR, FrT.refl M⟩
    simp [lpM, MD_takes_L17, show ni 0 = (0 : Int32) from rfl]
  | succ s ih =>
    intro A L M hW hL hs' h71 hR hS fuel hf
    obtain ⟨m, rfl⟩ : ∃ m, fuel = m + 1 := ⟨fuel - 1, by omega⟩
    cases L with
    | nil =>
      refine ⟨(), M, ?_, hR, FrT.refl M⟩
      simp [lpM, MD_takes_L17, show ni 0 = (0 : Int32) from rfl]
    | cons q L =>
      obtain ⟨k, a⟩ := q
      have hlen := szL_len hW hL
      have hL0 := hL
      obtain ⟨⟨⟨h0, h1⟩, ht, a0, a1, hne⟩, hL'⟩ := hL
      dsimp only at h0 h1 ht a0 a1 hne
      obtain ⟨s1, s2, s3⟩ := hS
      dsimp only at s1 s2
      simp only [List.length_cons] at hlen ⊢
      have hv := (hW.2.1.1 k h0 (by omega)).2.2.2
      have hfs := (hW.2.1.1 k h0 (by omega)).2
      have hz := hW.2.1.2.2.1 k h0 (by omega) ht
      have hsk := sz_bd hW h0 (show k < 72 by omega) hz
      obtain ⟨M2, q2, F2⟩ := e_leastVolume hR hW.1 h0 (show k < 72 by omega) hfs.1 hfs.2.1
      have R2 := F2.RM hR
      have hlb : 0 - 2 ≤ lvol A k ∧ lvol A k ≤ 7200 := by
        have b1 := cap_bd hW.1 (msk A (fst A k))
        have b2 := cap_bd hW.1 (msk A (snd A k))
        unfold lvol
        split <;> omega
      have hdue : ni ((L.length + 1 : Nat) : Int) + (-1 : Int32) = ni (L.length : Int) := by
        rw [show (-1 : Int32) = ni (-1) from rfl, ni_add]; refine congrArg ni ?_; omega
      have hnat : (ni (L.length : Int)).toNatClampNeg = L.length := by rw [ni_nat (by omega) (by omega)]; omega
      by_cases e : lvol A k ≤ vol A k - a
      · obtain ⟨w1, w2, w3, w4⟩ := stk_leaf hW hL0 e
        have hstep : MD_takes_L17 a9 (ni ((L.length + 1 : Nat) : Int)) M = some (.inl (ni (L.length : Int)), sL M2 1 (224 + k.toNat) (nl (vol A k - a))) := by
          unfold MD_takes_L17
          rw [hdue, hnat, ixc (by omega) (by omega), ck_t, ck_t, s1, s2, q2, b2_s, ixb 224 h0 (by omega) (224 : Int32) rfl, ck_t, ix 224 (by omega) h0 (by omega) (224 : Int32) rfl, RM_vol R2 h0 (by omega)]
          simp (disch := omega) only [show (0 : Int32) = ni 0 from rfl, ni_le, nl_sub, nl_lt]
          rw [if_neg (by omega), if_neg (by omega), ck_t, ck_t]
        have R3 := RS_vol R2 h0 (show k < 72 by omega) (vol A k - a)
        obtain ⟨r, M', q5, R5, F5⟩ := ih _ L (sL M2 1 (224 + k.toNat) (nl (vol A k - a))) w1 w2 (by omega) (by omega) R3 (StM_fr s3 (fun i hi => by
          show M2.1 5 i = M.1 5 i
          exact F2.2 5 i (by omega)) (fun i hi => by
          simp [gL, sL]; rw [F2.1])) m (by omega)
        refine ⟨r, M', ?_, by rw [w4]; exact R5, ((FrT.ofA (FrA.ofP F2)).trans (FrT.ofA (FrA.s1 _ _ _))).trans F5⟩
        simp only [lpM, hstep, Option.bind_some]
        exact q5
      · obtain ⟨⟨w1, -⟩, ⟨w2, -⟩, w3, -⟩ := stk_part hW hL0 e
        obtain ⟨hj, pw, pwat, pc, f0, s0, fs, fk, sk, tf, ts, vf, vs, lv, r1, r2, z1, z2, z3, hor, hd, mf, ms, tf0, ts0⟩ := dw_part hW h0 (by omega) ht a0 a1 e
        obtain ⟨M4, q4, R4, F4⟩ := e_parts R2 hW h0 (show k < 72 by omega) hj
        obtain ⟨mx, my, tx, ty, xk, yk, -⟩ := hW.2.2.1 k h0 (by omega) hj
        have hcb1 := cap_bd hW.1 (msk A (fa A k))
        have hl1 := lo_ge (x := msk A (fst A k))
        have hl2 := lo_ge (x := msk A (snd A k))
        have hfa : (if ni (lo (msk A (snd A k))) ≤ ni (lo (msk A (fst A k))) then ni (snd A k) else ni (fst A k)) = ni (fa A k) := by
          simp (disch := omega) only [ni_le]
          unfold fa
          by_cases y : lo (msk A (snd A k)) ≤ lo (msk A (fst A k))
          · rw [if_pos y, if_neg (by omega)]
          · rw [if_neg y, if_pos (by omega)]
        have hoth : ni (fst A k) + ni (snd A k) - ni (fa A k) = ni (sa A k) := by
          rw [ni_add, ni_sub]
          refine congrArg ni ?_
          rcases pc with ⟨p1, p2⟩ | ⟨p1, p2⟩ <;> rw [p1, p2] <;> omega
        have hrest : nl a - (nl (vol A k) - nl (lvol A k)) = nl (lvol A k - (vol A k - a)) := by
          rw [nl_sub, nl_sub]; refine congrArg nl ?_; omega
        have hmuch : (if nl (cap A (msk A (fa A k))) ≤ nl (lvol A k - (vol A k - a)) then nl (cap A (msk A (fa A k))) else nl (lvol A k - (vol A k - a))) = nl (dwf A k a) := by
          simp (disch := omega) only [nl_le]
          unfold dwf
          by_cases y : cap A (msk A (fa A k)) < lvol A k - (vol A k - a)
          · rw [if_pos (by omega), if_pos y]
          · rw [if_neg y]
            by_cases y2 : cap A (msk A (fa A k)) ≤ lvol A k - (vol A k - a)
            · rw [if_pos y2]; refine congrArg nl ?_; omega
            · rw [if_neg y2]
        have hstep : MD_takes_L17 a9 (ni ((L.length + 1 : Nat) : Int)) M = some (.inl (ni ((L.length + 2 : Nat) : Int)), (sL (sI (sL (sI M4 5 L.length (ni (sa A k))) 6 L.length (nl (lvol A k - (vol A k - a) - dwf A k a))) 5 (L.length + 1) (ni (fa A k))) 6 (L.length + 1) (nl (dwf A k a)))) := by
          unfold MD_takes_L17
          rw [hdue, hnat, ixc (by omega) (by omega), ck_t, ck_t, s1, s2, q2, b2_s, ixb 224 h0 (by omega) (224 : Int32) rfl, ck_t, ix 224 (by omega) h0 (by omega) (224 : Int32) rfl, RM_vol R2 h0 (by omega), ixb 296 h0 (by omega) (296 : Int32) rfl, ixb 368 h0 (by omega) (368 : Int32) rfl, ix 296 (by omega) h0 (by omega) (296 : Int32) rfl, ix 368 (by omega) h0 (by omega) (368 : Int32) rfl, RM_fst R2 h0 (by omega), RM_snd R2 h0 (by omega), nl_32, nl_32]
          simp (disch := omega) only [show (0 : Int32) = ni 0 from rfl, ni_le, nl_lt, nl_sub]
          rw [if_neg (by omega), if_pos (by omega), ck_t, ck_t, ck_t, q4, b2_s, ixb 152 hfs.1.1 (by omega) (152 : Int32) rfl, ck_t, ix 152 (by omega) hfs.1.1 (by omega) (152 : Int32) rfl, RM_msk R4 hfs.1.1 hfs.1.2, ptn_msk, if_neg xk, MD_lowest_eq mx, b1_s, ixb 152 hfs.2.1.1 (by omega) (152 : Int32) rfl, ck_t, ix 152 (by omega) hfs.2.1.1 (by omega) (152 : Int32) rfl, RM_msk R4 hfs.2.1.1 hfs.2.1.2, ptn_msk, if_neg yk, MD_lowest_eq my, b1_s, hfa]
          have hr' : nl (a - (vol A k - lvol A k)) = nl (lvol A k - (vol A k - a)) := by refine congrArg nl ?_; omega
          rw [hr']
          unfold MD_takes_L17_J185 MD_takes_L17_J220
          rw [ixb 224 f0.1 (by omega) (224 : Int32) rfl, ck_t, ix 224 (by omega) f0.1 (by omega) (224 : Int32) rfl, RM_vol R4 f0.1 (by omega), vf, ck_t, hoth, hnat]
          have h1n : ni (L.length : Int) + (1 : Int32) = ni ((L.length + 1 : Nat) : Int) := ni_s _
          have h2n : ni (L.length : Int) + (2 : Int32) = ni ((L.length + 2 : Nat) : Int) := by
            rw [show (2 : Int32) = ni 2 from rfl, ni_add]; rfl
          have hnat1 : (ni ((L.length + 1 : Nat) : Int)).toNatClampNeg = L.length + 1 := by rw [ni_nat (by omega) (by omega)]; omega
          rw [h1n, h2n, hnat1, ixc (i := (L.length : Int)) (by omega) (by omega), ixc (i := ((L.length + 1 : Nat) : Int)) (by omega) (by omega)]
          simp only [ck_t]
          by_cases y : nl (cap A (msk A (fa A k))) ≤ nl (lvol A k - (vol A k - a))
          · rw [if_pos y] at hmuch ⊢
            rw [hmuch, nl_sub]
          · rw [if_neg y] at hmuch ⊢
            rw [hmuch]
            have : nl (lvol A k - (vol A k - a)) - nl (dwf A k a) = nl (lvol A k - (vol A k - a) - dwf A k a) := nl_sub _ _
            rw [← this, hmuch]
        have R5 : RM (sL (sI (sL (sI M4 5 L.length (ni (sa A k))) 6 L.length (nl (lvol A k - (vol A k - a) - dwf A k a))) 5 (L.length + 1) (ni (fa A k))) 6 (L.length + 1) (nl (dwf A k a))) (ptn A k) := RM_of R4 (fun i _ => by simp [gL, sL, sI])
        have F24 : FrT M M4 := (FrT.ofA (FrA.ofP F2)).trans (FrT.ofA F4)
        have i5 : ∀ i, gI M4 5 i = gI M 5 i := fun i => by
          have e1 := F4.1 5 i (by omega)
          have e2 := F2.2 5 i (by omega)
          unfold gI; rw [e1, e2]
        have i6 : ∀ i, gL M4 6 i = gL M 6 i := fun i => by
          have e1 := F4.2 6 i (by omega)
          unfold gL; rw [e1, F2.1]
        have S5 : StM (sL (sI (sL (sI M4 5 L.length (ni (sa A k))) 6 L.length (nl (lvol A k - (vol A k - a) - dwf A k a))) 5 (L.length + 1) (ni (fa A k))) 6 (L.length + 1) (nl (dwf A k a))) ((fa A k, dwf A k a) :: (sa A k, lvol A k - (vol A k - a) - dwf A k a) :: L) := by
          refine ⟨?_, ?_, ?_, ?_, StM_fr s3 (fun i hi => ?_) (fun i hi => ?_)⟩
          · simp [gI, sI, sL]
          · simp [gL, sI, sL]
          · simp [gI, sI, sL]
          · simp [gL, sI, sL]
          · have e1 : i ≠ L.length := by omega
            have e2 : i ≠ L.length + 1 := by omega
            rw [← i5]
            simp [gI, sI, sL, e1, e2]
          · have e1 : i ≠ L.length := by omega
            have e2 : i ≠ L.length + 1 := by omega
            rw [← i6]
            simp [gL, sI, sL, e1, e2]
        obtain ⟨r, M', q5, R6, F6⟩ := ih (ptn A k) ((fa A k, dwf A k a) :: (sa A k, lvol A k - (vol A k - a) - dwf A k a) :: L) _ pw w1 (by omega) (by omega) R5 S5 m (by omega)
        refine ⟨r, M', ?_, by rw [w3]; exact R6, (F24.trans ((((FrT.s5 _ _ _).trans (FrT.s6 _ _ _)).trans (FrT.s5 _ _ _)).trans (FrT.s6 _ _ _))).trans F6⟩
        simp only [lpM, hstep, Option.bind_some]
        exact q5
/-- taking, with what has gone -/
def DWg (A : Ab) (k a : Int) : Ab := aL (DW A k a) 0 3 (gon A + nl a)
theorem e_takes {M : Mem} {A : Ab} (hR : RM M A) (hW : WF A) {k a : Int} (h0 : 0 ≤ k) (h1 : k < 71) (ht : there A k = 1) (a0 : 0 ≤ a) (a1 : a ≤ vol A k) : ∃ M', MD_takes (ni k) (nl a) M = some ((), M') ∧ RM M' (DWg A k a) ∧ FrT M M' := by
  have hz := hW.2.1.2.2.1 k h0 (by omega) ht
  have hsk := sz_bd hW h0 (show k < 72 by omega) hz
  have hL : OkL A [(k, a)] := by simp only [OkL]; exact ⟨⟨⟨h0, h1⟩, ht, a0, a1, fun e he => by cases he⟩, trivial⟩
  have hs' : szL A [(k, a)] = szn A k := by simp [szL]
  obtain ⟨r, M', q, R, F⟩ := e_takes_loop (nl a) 71 A [(k, a)] (sL (sI M 5 0 (ni k)) 6 0 (nl a)) hW hL (by omega) (by omega) (RM_of hR (fun i _ => by simp [gL, sL, sI])) ⟨by simp [gI, sI, sL], by simp [gL, sI, sL], trivial⟩ FUEL (by have := FUEL_big; omega)
  have hok := dw_ok 71 A k a hW h0 (by omega) ht a0 a1 (by omega)
  refine ⟨_, ?_, RS_gone R (gon A + nl a), (((FrT.s5 _ _ _).trans (FrT.s6 _ _ _)).trans F).trans (FrT.ofA (FrA.s1 _ _ _))⟩
  unfold MD_takes
  rw [show (1 : Int32) = ni (([(k, a)] : List (Int × Int)).length : Int) from rfl, q, b2_s, RM_gone R]
  have : gon (rnL A [(k, a)]) = gon A := hok.2.2.1.2.2.2.2.2.1
  rw [this]
