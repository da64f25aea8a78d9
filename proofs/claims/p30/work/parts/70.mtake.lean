/-! 70.mtake: the other side draws -/
def DW (A : Ab) (k a : Int) : Ab := dw 71 A k a
theorem sz_bd {A : Ab} (h : WF A) {k : Int} (h0 : 0 ≤ k) (h1 : k < 72) (hz : msk A k ≠ 0) : 1 ≤ szn A k ∧ szn A k ≤ 71 := by
  have hn := nn_bd h.1
  have hb := h.2.2.2.2.2.2.2.2 k h0 h1 hz
  have := (ct_bd (nn A).toNat (fun c => hs (msk A k) c && fp A c)).2
  unfold szn
  unfold bct at *
  omega
theorem dw_leaf (n : Nat) {A : Ab} {k a : Int} (e : lvol A k ≤ vol A k - a) : dw (n + 1) A k a = aI A 4 k (vol A k - a) := by
  simp only [dw]
  rw [if_pos e]
theorem dw_cut (n : Nat) {A : Ab} {k a : Int} (e : ¬ lvol A k ≤ vol A k - a) : dw (n + 1) A k a = dw n (dw n (ptn A k) (fa A k) (dwf A k a)) (sa A k) (lvol A k - (vol A k - a) - dwf A k a) := by
  simp only [dw]
  rw [if_neg e]
theorem DW_leaf {A : Ab} {k a : Int} (e : lvol A k ≤ vol A k - a) : DW A k a = aI A 4 k (vol A k - a) := by
  exact dw_leaf 70 e
theorem DW_part {A : Ab} (h : WF A) {k a : Int} (h0 : 0 ≤ k) (h1 : k < 72) (ht : there A k = 1) (a0 : 0 ≤ a) (a1 : a ≤ vol A k) (e : ¬ lvol A k ≤ vol A k - a) : DW A k a = DW (DW (ptn A k) (fa A k) (dwf A k a)) (sa A k) (lvol A k - (vol A k - a) - dwf A k a) := by
  have hz := h.2.1.2.2.1 k h0 h1 ht
  have hs' := sz_bd h h0 h1 hz
  have e1 := dw_fuel 71 72 A k a h h0 h1 ht a0 a1 (by omega) (by omega)
  exact e1.symm.trans (dw_cut 71 e)
def OkL (A : Ab) : List (Int × Int) → Prop
  | [] => True
  | q :: L => ((0 ≤ q.1 ∧ q.1 < 71) ∧ there A q.1 = 1 ∧ 0 ≤ q.2 ∧ q.2 ≤ vol A q.1 ∧ ∀ e, e ∈ L → e.1 ≠ q.1) ∧ OkL A L
def szL (A : Ab) : List (Int × Int) → Int
  | [] => 0
  | q :: L => szn A q.1 + szL A L
def rnL : Ab → List (Int × Int) → Ab
  | A, [] => A
  | A, q :: L => rnL (DW A q.1 q.2) L
theorem OkL_mem {A : Ab} {L : List (Int × Int)} (h : OkL A L) {e : Int × Int} (he : e ∈ L) : there A e.1 = 1 := by
  induction L with
  | nil => cases he
  | cons q L ih =>
    rcases List.mem_cons.mp he with z | z
    · rw [z]; exact h.1.2.1
    · exact ih h.2 z
theorem OkL_same {A B : Ab} {L : List (Int × Int)} (h : OkL A L) (hs' : ∀ e, e ∈ L → there B e.1 = there A e.1 ∧ vol B e.1 = vol A e.1) : OkL B L := by
  induction L with
  | nil => trivial
  | cons q L ih =>
    have := hs' q (List.mem_cons_self ..)
    refine ⟨⟨h.1.1, by rw [this.1]; exact h.1.2.1, h.1.2.2.1, by rw [this.2]; exact h.1.2.2.2.1, h.1.2.2.2.2⟩, ih h.2 (fun e he => hs' e (List.mem_cons_of_mem _ he))⟩
theorem szL_same {A B : Ab} {L : List (Int × Int)} (hb : bct B = bct A) (hs' : ∀ e, e ∈ L → msk B e.1 = msk A e.1) : szL B L = szL A L := by
  induction L with
  | nil => rfl
  | cons q L ih =>
    simp only [szL]
    rw [ih (fun e he => hs' e (List.mem_cons_of_mem _ he))]
    unfold szn
    rw [hb, hs' q (List.mem_cons_self ..)]
theorem szL_len {A : Ab} (h : WF A) : ∀ {L : List (Int × Int)}, OkL A L → (L.length : Int) ≤ szL A L := by
  intro L
  induction L with
  | nil => intro _; simp [szL]
  | cons q L ih =>
    intro hL
    have := ih hL.2
    have q72 : q.1 < 72 := by have := hL.1.1.2; omega
    have := (sz_bd h hL.1.1.1 q72 (h.2.1.2.2.1 _ hL.1.1.1 q72 hL.1.2.1)).1
    simp only [szL, List.length_cons]
    omega
/-- the top settled: nothing parts -/
theorem stk_leaf {A : Ab} (h : WF A) {k a : Int} {L : List (Int × Int)} (hL : OkL A ((k, a) :: L)) (e : lvol A k ≤ vol A k - a) : WF (aI A 4 k (vol A k - a)) ∧ OkL (aI A 4 k (vol A k - a)) L ∧ szL (aI A 4 k (vol A k - a)) L = szL A ((k, a) :: L) - szn A k ∧ rnL A ((k, a) :: L) = rnL (aI A 4 k (vol A k - a)) L := by
  obtain ⟨⟨⟨h0, h1⟩, ht, a0, a1, hne⟩, hL'⟩ := hL
  dsimp only at h0 h1 ht a0 a1 hne
  have hs' := (sz_bd h h0 (by omega) (h.2.1.2.2.1 _ h0 (by omega) ht))
  have hok := dw_ok 71 A k a h h0 (by omega) ht a0 a1 (by omega)
  have ed : dw 71 A k a = aI A 4 k (vol A k - a) := DW_leaf e
  rw [ed] at hok
  refine ⟨hok.1, OkL_same hL' (fun e he => ?_), ?_, ?_⟩
  · have := hne e he
    simp [aI, there, vol, this]
  · rw [szL_same (A := A) hok.2.2.1.bct (fun e he => by simp [aI, msk])]
    simp only [szL]; omega
  · simp only [rnL]
    rw [DW_leaf e]
theorem stk_part {A : Ab} (h : WF A) {k a : Int} {L : List (Int × Int)} (hL : OkL A ((k, a) :: L)) (e : ¬ lvol A k ≤ vol A k - a) :
    (OkL (ptn A k) ((fa A k, dwf A k a) :: (sa A k, lvol A k - (vol A k - a) - dwf A k a) :: L) ∧ OkL (ptn A k) ((sa A k, lvol A k - (vol A k - a) - dwf A k a) :: (fa A k, dwf A k a) :: L)) ∧
    (szL (ptn A k) ((fa A k, dwf A k a) :: (sa A k, lvol A k - (vol A k - a) - dwf A k a) :: L) = szL A ((k, a) :: L) - 1 ∧ szL (ptn A k) ((sa A k, lvol A k - (vol A k - a) - dwf A k a) :: (fa A k, dwf A k a) :: L) = szL A ((k, a) :: L) - 1) ∧
    rnL A ((k, a) :: L) = rnL (ptn A k) ((fa A k, dwf A k a) :: (sa A k, lvol A k - (vol A k - a) - dwf A k a) :: L) ∧
    rnL A ((k, a) :: L) = rnL (ptn A k) ((sa A k, lvol A k - (vol A k - a) - dwf A k a) :: (fa A k, dwf A k a) :: L) := by
  obtain ⟨⟨⟨h0, h1⟩, ht, a0, a1, hne⟩, hL'⟩ := hL
  dsimp only at h0 h1 ht a0 a1 hne
  obtain ⟨hj, pw, pwat, pc, f0, s0, fs, fk, sk, tf, ts, vf, vs, lv, r1, r2, z1, z2, z3, hor, hd, mf, ms, tf0, ts0⟩ := dw_part h h0 (by omega) ht a0 a1 e
  have eL : ∀ q, q ∈ L → q.1 ≠ k ∧ q.1 ≠ fa A k ∧ q.1 ≠ sa A k := by
    intro q hq
    have t := OkL_mem hL' hq
    refine ⟨hne q hq, fun z => ?_, fun z => ?_⟩
    · rw [z] at t; omega
    · rw [z] at t; omega
  have hn : ∀ q, q ∈ L → nod (ptn A k) q.1 = nod A q.1 := by
    intro q hq
    obtain ⟨y1, y2, y3⟩ := eL q hq
    rcases pc with ⟨p1, p2⟩ | ⟨p1, p2⟩
    · exact ptn_nod y1 (by rw [← p1]; exact y2) (by rw [← p2]; exact y3)
    · exact ptn_nod y1 (by rw [← p2]; exact y3) (by rw [← p1]; exact y2)
  have okL : OkL (ptn A k) L := OkL_same hL' (fun q hq => ⟨nod_there (hn q hq), nod_vol (hn q hq)⟩)
  have sz1 : szL (ptn A k) L = szL A L := szL_same (KP_ptn A k).bct (fun q hq => nod_msk (hn q hq))
  have cF : (∀ q, q ∈ (sa A k, lvol A k - (vol A k - a) - dwf A k a) :: L → q.1 ≠ fa A k) := by
    intro q hq
    rcases List.mem_cons.mp hq with z | z
    · rw [z]; show sa A k ≠ fa A k; exact fun w => fs w.symm
    · exact (eL q z).2.1
  have cS : (∀ q, q ∈ (fa A k, dwf A k a) :: L → q.1 ≠ sa A k) := by
    intro q hq
    rcases List.mem_cons.mp hq with z | z
    · rw [z]; show fa A k ≠ sa A k; exact fs
    · exact (eL q z).2.2
  have ok1 : OkL (ptn A k) ((fa A k, dwf A k a) :: (sa A k, lvol A k - (vol A k - a) - dwf A k a) :: L) := by
    simp only [OkL]
    exact ⟨⟨f0, tf, r1.1, r1.2, cF⟩, ⟨s0, ts, r2.1, r2.2, fun q hq => (eL q hq).2.2⟩, okL⟩
  have ok2 : OkL (ptn A k) ((sa A k, lvol A k - (vol A k - a) - dwf A k a) :: (fa A k, dwf A k a) :: L) := by
    simp only [OkL]
    exact ⟨⟨s0, ts, r2.1, r2.2, cS⟩, ⟨f0, tf, r1.1, r1.2, fun q hq => (eL q hq).2.1⟩, okL⟩
  refine ⟨⟨ok1, ok2⟩, ⟨?_, ?_⟩, ?_, ?_⟩
  · simp only [szL]; omega
  · simp only [szL]; omega
  · simp only [rnL]
    rw [DW_part h h0 (by omega) ht a0 a1 e]
  · simp only [rnL]
    rw [DW_part h h0 (by omega) ht a0 a1 e]
    have := dw_comm pw 71 f0.1 (show fa A k < 72 by omega) s0.1 (show sa A k < 72 by omega) tf ts fs r1.1 r1.2 r2.1 r2.2 (by have := (sz_bd pw f0.1 (show fa A k < 72 by omega) (by rw [ptn_msk, if_neg fk]; exact mf)).2; omega) (by have := (sz_bd pw s0.1 (show sa A k < 72 by omega) (by rw [ptn_msk, if_neg sk]; exact ms)).2; omega)
    unfold DW
    rw [this]
theorem e_parts {M : Mem} {A : Ab} (hR : RM M A) (h : WF A) {k : Int} (h0 : 0 ≤ k) (h1 : k < 72) (hj : isJ A k) : ∃ M', MD_parts (ni k) (ni (fst A k)) (ni (snd A k)) M = some ((), M') ∧ RM M' (ptn A k) ∧ FrA M M' := by
  obtain ⟨mx, my, tx, ty, xk, yk, hor, hd, cx, cy⟩ := h.2.2.1 k h0 h1 hj
  have hb := (h.2.1.1 k h0 h1).2
  obtain ⟨⟨x0, x1⟩, ⟨y0, y1⟩, -⟩ := hb
  have r1 := RS_msk hR h0 h1 0
  have r2 := RS_vol r1 h0 h1 0
  have r3 := RS_fst r2 h0 h1 0
  have r4 := RS_snd r3 h0 h1 0
  have r5 := RS_thr r4 h0 h1 0
  have g5 : GE A (aI (aI (aI (aI (aL A 1 k 0) 4 k 0) 5 k 0) 6 k 0) 7 k 0) := by refine GE_of ?_ ?_ ?_ ?_ ?_ <;> simp [aI, aL]
  have m5 : ∀ j, j ≠ k → msk (aI (aI (aI (aI (aL A 1 k 0) 4 k 0) 5 k 0) 6 k 0) 7 k 0) j = msk A j := fun j hjk => by simp [aI, aL, msk, hjk]
  obtain ⟨M6, q6, P6⟩ := e_capacity r5 (g5.WFg h.1) x0 x1
  have r6 := P6.1.RM r5
  rw [m5 _ xk, ← g5.cap] at q6
  have r7 := RS_vol r6 x0 x1 (cap A (msk A (fst A k)))
  have g7 := g5.trans (GE_vol _ (fst A k) (cap A (msk A (fst A k))))
  obtain ⟨M8, q8, P8⟩ := e_capacity r7 (g7.WFg h.1) y0 y1
  have r8 := P8.1.RM r7
  have m7 : msk (aI (aI (aI (aI (aI (aL A 1 k 0) 4 k 0) 5 k 0) 6 k 0) 7 k 0) 4 (fst A k) (cap A (msk A (fst A k)))) (snd A k) = msk A (snd A k) := by simp [aI, aL, msk, yk]
  rw [← g7.cap] at q8
  rw [show msk (aI (aI (aI (aI (aI (aL A 1 k 0) 4 k 0) 5 k 0) 6 k 0) 7 k 0) 4 (fst A k) (cap A (msk A (fst A k)))) (snd A k) = msk A (snd A k) from m7] at q8
  have r9 := RS_vol r8 y0 y1 (cap A (msk A (snd A k)))
  have r10 := RS_thr r9 x0 x1 1
  have r11 := RS_thr r10 y0 y1 1
  refine ⟨_, ?_, r11, ?_⟩
  · unfold MD_parts
    simp only [ixb 152 h0 (by omega) (152 : Int32) rfl, ixb 224 h0 (by omega) (224 : Int32) rfl, ixb 296 h0 (by omega) (296 : Int32) rfl, ixb 368 h0 (by omega) (368 : Int32) rfl, ixb 440 h0 (by omega) (440 : Int32) rfl, ixb 224 x0 (by omega) (224 : Int32) rfl, ixb 224 y0 (by omega) (224 : Int32) rfl, ixb 440 x0 (by omega) (440 : Int32) rfl, ixb 440 y0 (by omega) (440 : Int32) rfl, ck_t, ix 152 (by omega) h0 (by omega) (152 : Int32) rfl, ix 224 (by omega) h0 (by omega) (224 : Int32) rfl, ix 296 (by omega) h0 (by omega) (296 : Int32) rfl, ix 368 (by omega) h0 (by omega) (368 : Int32) rfl, ix 440 (by omega) h0 (by omega) (440 : Int32) rfl, ix 224 (by omega) x0 (by omega) (224 : Int32) rfl, ix 224 (by omega) y0 (by omega) (224 : Int32) rfl, ix 440 (by omega) x0 (by omega) (440 : Int32) rfl, ix 440 (by omega) y0 (by omega) (440 : Int32) rfl]
    rw [show (0 : Int64) = nl 0 from rfl] at *
    rw [q6, b2_s, q8, b2_s]
    rfl
  · exact ((((((((((FrA.s1 _ _ _).trans (FrA.s1 _ _ _)).trans (FrA.s1 _ _ _)).trans (FrA.s1 _ _ _)).trans (FrA.s1 _ _ _)).trans (FrA.ofP P6.1)).trans (FrA.s1 _ _ _)).trans (FrA.ofP P8.1)).trans (FrA.s1 _ _ _)).trans (FrA.s1 _ _ _)).trans (FrA.s1 _ _ _)
/-- the stack of the other side -/
def StM (M : Mem) : List (Int × Int) → Prop
  | [] => True
  | q :: L => gI M 5 L.length = ni q.1 ∧ gL M 6 L.length = nl q.2 ∧ StM M L
def FrT (M M' : Mem) : Prop := (∀ o q, o ≠ 5 → ¬ (o = 0 ∧ (q = 6 ∨ q = 7 ∨ q = 8)) → M'.1 o q = M.1 o q) ∧ ∀ o q, o ≠ 1 → o ≠ 6 → M'.2 o q = M.2 o q
theorem FrT.refl (M : Mem) : FrT M M := ⟨fun _ _ _ _ => rfl, fun _ _ _ _ => rfl⟩
theorem FrT.trans {M M' M'' : Mem} (h : FrT M M') (h' : FrT M' M'') : FrT M M'' := ⟨fun o q a b => (h'.1 o q a b).trans (h.1 o q a b), fun o q a b => (h'.2 o q a b).trans (h.2 o q a b)⟩
theorem FrT.ofA {M M' : Mem} (h : FrA M M') : FrT M M' := ⟨fun o q _ b => h.1 o q b, fun o q a _ => h.2 o q a⟩
theorem FrT.s5 (M : Mem) (i : Nat) (v : Int32) : FrT M (sI M 5 i v) := ⟨fun o q a _ => by simp [sI, a], fun _ _ _ _ => rfl⟩
theorem FrT.s6 (M : Mem) (i : Nat) (v : Int64) : FrT M (sL M 6 i v) := ⟨fun _ _ _ _ => rfl, fun o q _ a => by simp [sL, a]⟩
theorem StM_fr {M M' : Mem} {L : List (Int × Int)} (h : StM M L) (h5 : ∀ i, i < L.length → gI M' 5 i = gI M 5 i) (h6 : ∀ i, i < L.length → gL M' 6 i = gL M 6 i) : StM M' L := by
  induction L with
  | nil => trivial
  | cons q L ih =>
    refine ⟨?_, ?_, ih h.2.2 (fun i hi => h5 i (by simp; omega)) (fun i hi => h6 i (by simp; omega))⟩
    · rw [h5 _ (by simp)]; exact h.1
    · rw [h6 _ (by simp)]; exact h.2.1
