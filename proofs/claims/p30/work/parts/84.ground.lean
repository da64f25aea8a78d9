/-! 84.ground: the ground is changed -/
noncomputable def CH (A B : Ab) : Ab := rep (npl A) (npv A) (lown A 36).toNat (fnd B)
theorem CH_pre {A B : Ab} (hW : WF A) (hn : nn B = nn A) : (0 ≤ lown A 36 ∧ lown A 36 ≤ 36) ∧ (∀ n : Nat, (n : Int) < lown A 36 → 0 ≤ npl A n ∧ npl A n < nn B) ∧ (∀ n : Nat, (n : Int) < lown A 36 → 0 ≤ npv A n) ∧ sm (lown A 36).toNat (npv A) = wat A := by
  refine ⟨⟨lown_nonneg A 36, lown_le A 36⟩, fun n h => by rw [hn]; exact npl_rg hW h, fun n h => ?_, pof_wat hW.1 hW.2.1⟩
  obtain ⟨c, c1, c2, c3, c4, c5, c6, c7, c8⟩ := pof_in hW.2.1 (n := (n : Int)) (by omega) h
  exact (hW.2.1.1 _ c5.1 (show pof A (n : Int) < 72 by omega)).2.2.2.1
theorem wat_fnd (B : Ab) : wat (fnd B) = 0 := by
  unfold wat
  refine sm_zero (fun i _ => ?_)
  rw [fnd_vol]
  split <;> rfl
theorem CH_ok {A B : Ab} (hW : WF A) (hw : wat A ≤ 1000000) (hB : WFg B) (hn : nn B = nn A) : WF (CH A B) ∧ WB (CH A B) ∧ GE B (CH A B) ∧ bnn (CH A B) = npt B := by
  obtain ⟨p1, p2, p3, p4⟩ := CH_pre hW hn
  have hf := wat_fnd B
  obtain ⟨r1, r2, r3, r4, r5, r6, r7, r8⟩ := rep_ok (f := npl A) (v := npv A) (fnd_WF hB) (lown A 36).toNat (fun i hi => p3 i (by omega)) (by omega)
  exact ⟨r1, ⟨by unfold CH; omega, BS_ge r3 r4 r5 r6 BS_fnd⟩, (fnd_ge B).trans r3, r4.trans (fnd_bnn B)⟩
/-- both find the basins anew and pour the lakes again -/
theorem both_renew {Mc Mm : Mem} {A B : Ab} (hW : WF A) (hw : wat A ≤ 1000000) (hB : WFg B) (hn : nn B = nn A) (hG : RG 2 Mc B) (hl : gL Mc 1 3 = prd B ∧ gL Mc 1 4 = lst B ∧ gL Mc 1 5 = gon B) (hP : CD 1 Mc (lown A 36) (npl A) (npv A)) (hM : RM Mm B) (hD : PD Mm (lown A 36) (npl A) (npv A)) (hS : SVI Mc Mm) (hT : TXI Mc Mm) : ∃ Mc' Mm', WD_renew 1 Mc = some ((), Mc') ∧ MD_changes Mm = some ((), Mm') ∧ Inv Mc' Mm' ∧ gI Mm' 0 4 = gI Mm 0 4 ∧ gI Mc' 13 0 = ni (npt B) ∧ gL Mm' 1 6 = nl (npt B) := by
  obtain ⟨p1, p2, p3, p4⟩ := CH_pre hW hn
  obtain ⟨o1, o2, o3, o4⟩ := CH_ok hW hw hB hn
  obtain ⟨Mc', q1, R1, F1⟩ := c_renew (w := 1) (Or.inl rfl) hG hB hl p1 hP p2 p3 (by omega)
  obtain ⟨Mm', q2, R2, F2⟩ := e_changes hM hB p1 hD p2 p3 (by omega)
  have R1' : RW 1 Mc' (CH A B) := R1
  have R2' : RM Mm' (CH A B) := R2
  refine ⟨Mc', Mm', q1, q2, ⟨_, R1', R2', o1, o2, ?_, ?_⟩, F2.1 0 4 (by omega), ?_, ?_⟩
  · exact SVI_fr hS F1 (fun p hp => by omega) (F2.1 0 3 (by omega)) (fun q => F2.2 2 q (by omega) (by omega))
  · exact TXI_fr hT F1 (fun p hp => by omega) (F2.1 0 21 (by omega)) (fun q => F2.1 12 q (by omega))
  · rw [← o4]; exact R1'.1.2.2.1.1
  · rw [RM_bn R2', o4]
/-- both note the lakes -/
theorem both_note {Mc Mm : Mem} {A : Ab} (hC : RW 1 Mc A) (hM : RM Mm A) (hW : WF A) (hS : SVI Mc Mm) (hT : TXI Mc Mm) : ∃ Mc' Mm', WD_noteLakes 1 Mc = some ((), Mc') ∧ MD_remembers Mm = some ((), Mm') ∧ RG 2 Mc' A ∧ (∀ q, gL Mc' 1 q = gL Mc 1 q) ∧ (∀ i, fAtI 3 i Mc' = fAtI 3 i Mc) ∧ CD 1 Mc' (lown A 36) (npl A) (npv A) ∧ RM Mm' A ∧ PD Mm' (lown A 36) (npl A) (npv A) ∧ SVI Mc' Mm' ∧ TXI Mc' Mm' ∧ gI Mm' 0 4 = gI Mm 0 4 := by
  obtain ⟨Mc', q1, C1, F1, L1⟩ := c_noteLakes (w := 1) (Or.inl rfl) hC.1 hW
  obtain ⟨Mm', q2, F2, P2⟩ := e_remembers hM hW
  refine ⟨Mc', Mm', q1, q2, RG_fr hC.1.1 F1 (by omega) (by omega) (by omega) (by omega), L1, fun i => F1.at (by omega) i, C1, F2.RM hM, P2, ?_, ?_, F2.1 0 4 (by omega) (by omega) (by omega)⟩
  · exact SVI_fr hS F1 (fun p hp => by omega) (F2.1 0 3 (by omega) (by omega) (by omega)) (fun q => F2.2 2 q (by omega))
  · exact TXI_fr hT F1 (fun p hp => by omega) (F2.1 0 21 (by omega) (by omega) (by omega)) (fun q => F2.1 12 q (by omega) (by omega) (by omega))
/-- the ground alone is changed, on both sides -/
theorem CD_fr {M M' : Mem} {N : Int} {f v : Nat → Int} {P : Nat → Prop} (h : CD 1 M N f v) (F : Fr P M M') (h1 : ¬ P 1) (h2 : ¬ P 44) (h3 : ¬ P 46) : CD 1 M' N f v := by
  refine ⟨by rw [F.gI h1]; exact h.1, fun n hn => ?_⟩
  rw [F.at h2, F.at h3]
  exact h.2 n hn
theorem PD_s1 {M : Mem} {N : Int} {f v : Nat → Int} (h : PD M N f v) (q : Nat) (x : Int64) : PD (sL M 1 q x) N f v := by
  refine ⟨h.1, fun n hn => ?_⟩
  refine ⟨(h.2 n hn).1, ?_⟩
  rw [← (h.2 n hn).2]; simp [gL, sL]
theorem SVI_s1 {Mc Mm : Mem} (h : SVI Mc Mm) (q : Nat) (x : Int64) : SVI Mc (sL Mm 1 q x) := SVI_fr (P := fun _ => False) h Fr.rfl' (fun p z => z.elim) rfl (fun j => by simp [gL, sL])
theorem TXI_s1 {Mc Mm : Mem} (h : TXI Mc Mm) (q : Nat) (x : Int64) : TXI Mc (sL Mm 1 q x) := TXI_fr (P := fun _ => False) h Fr.rfl' (fun p z => z.elim) rfl (fun j => rfl)
theorem nb_of {A B : Ab} (e : B.1 0 = A.1 0) : nb B = nb A ∧ nn B = nn A := by
  have w0 : wd B = wd A := by show B.1 0 0 = A.1 0 0; rw [e]
  have h0 : hg B = hg A := by show B.1 0 1 = A.1 0 1; rw [e]
  have n0 : nn B = nn A := by unfold nn; rw [w0, h0]
  refine ⟨?_, n0⟩
  funext c s
  unfold nb
  rw [w0, n0]
theorem gt_of {A B : Ab} (e : B.1 0 = A.1 0) (e2 : B.1 2 = A.1 2) (e3 : B.1 3 = A.1 3) : gt B = gt A := by
  funext a b
  show (if mor2 a b = nb B (lsr2 a b) 2 then B.1 2 (lsr2 a b) else B.1 3 (lsr2 a b)) = _
  rw [(nb_of e).1, e2, e3]
  rfl
theorem RG_ht {g : Nat} {M : Mem} {A : Ab} (h : RG g M A) (z : SzG g) {c : Int} (h0 : 0 ≤ c) (h1 : c < 36) (v : Int) : RG g (fPutI (g + 1) (ni c) (ni v) M) (aI A 1 c v) := by
  have f : Fr (fun p => p = g + 1 + 1) M (fPutI (g + 1) (ni c) (ni v) M) := Fr.put rfl
  have e0 : ∀ f, f ≠ 1 → (aI A 1 c v).1 f = A.1 f := fun f hf => by funext j; simp [aI, hf]
  have e1 : nb (aI A 1 c v) = nb A := (nb_of (e0 0 (by omega))).1
  have e2 : gt (aI A 1 c v) = gt A := gt_of (e0 0 (by omega)) (e0 2 (by omega)) (e0 3 (by omega))
  have e3 : nn (aI A 1 c v) = nn A := (nb_of (e0 0 (by omega))).2
  refine ⟨⟨?_, ?_, ?_, ?_⟩, fun d d0 d1 => ?_, fun d s d0 d1 s0 s1 => ?_, fun d s d0 d1 s0 s1 hb => ?_⟩
  · rw [f.gI (by omega)]; simpa [aI, wd] using h.1.1
  · rw [f.gI (by omega)]; simpa [aI, hg] using h.1.2.1
  · rw [f.gI (by omega), e3]; exact h.1.2.2.1
  · rw [f.gL (by omega)]; simpa [aI, drn] using h.1.2.2.2
  · by_cases e : d = c
    · subst e
      rw [at_eq z.1 d0 (by omega) (by omega)]; simp [aI, ht]
    · rw [at_x z.1 (by omega) (by omega) h0 (by omega) (by omega) e, h.2.1 d d0 d1]; simp [aI, ht, e]
  · rw [f.at (by omega), e1]; exact h.2.2.1 d s d0 (by rw [← e3]; exact d1) s0 s1
  · rw [f.at (by omega), e1, e2]
    rw [e1] at hb
    exact h.2.2.2 d s d0 (by rw [← e3]; exact d1) s0 s1 hb
theorem RG_dr {g : Nat} {M : Mem} {A : Ab} (h : RG g M A) (x : Int64) : RG g (sL M g 3 x) (aL A 0 0 x) := by
  have f : Fr (fun p => p = g) M (sL M g 3 x) := Fr.sL rfl
  refine ⟨⟨h.1.1, h.1.2.1, h.1.2.2.1, ?_⟩, fun d d0 d1 => ?_, fun d s d0 d1 s0 s1 => ?_, fun d s d0 d1 s0 s1 hb => ?_⟩
  · simp [aL, drn, gL, sL]
  · rw [f.at (by omega)]; exact h.2.1 d d0 d1
  · rw [f.at (by omega)]; exact h.2.2.1 d s d0 d1 s0 s1
  · rw [f.at (by omega)]; exact h.2.2.2 d s d0 d1 s0 s1 hb
theorem nb_ord {A : Ab} (h : WFg A) {c s : Int} (h0 : 0 ≤ c) (h1 : c < nn A) (hs : 0 ≤ s ∧ s < 4) (hb : nb A c s ≠ -1) : (s ≤ 1 → nb A c s < c) ∧ (2 ≤ s → c < nb A c s) := by
  obtain ⟨e1, e2⟩ := wh_cases h
  unfold nn at h1
  obtain e3 | e3 | e3 | e3 : s = 0 ∨ s = 1 ∨ s = 2 ∨ s = 3 := by omega
  all_goals
    subst e3
    unfold nb nn at hb ⊢
    rcases e1 with e | e | e | e | e | e <;> rcases e2 with f | f | f | f | f | f <;> rw [e, f] at h1 hb <;> rw [e, f] <;> simp at hb ⊢ <;> omega
theorem nb_inj {A : Ab} (h : WFg A) {c s t : Int} (h0 : 0 ≤ c) (h1 : c < nn A) (hs : 0 ≤ s ∧ s < 4) (ht : 0 ≤ t ∧ t < 4) (hb : nb A c s ≠ -1) (e : nb A c s = nb A c t) : s = t := by
  have o1 := nb_ord h h0 h1 hs hb
  have o2 := nb_ord h h0 h1 ht (by rw [← e]; exact hb)
  by_cases q : s = t
  · exact q
  exfalso
  obtain ⟨e1, e2⟩ := wh_cases h
  have key : (s = 0 ∧ t = 1) ∨ (s = 1 ∧ t = 0) ∨ (s = 2 ∧ t = 3) ∨ (s = 3 ∧ t = 2) := by omega
  clear o1 o2
  unfold nn at h1
  rcases key with ⟨rfl, rfl⟩ | ⟨rfl, rfl⟩ | ⟨rfl, rfl⟩ | ⟨rfl, rfl⟩ <;> unfold nb nn at hb e <;> rcases e1 with z | z | z | z | z | z <;> rcases e2 with f | f | f | f | f | f <;> rw [z, f] at h1 hb e <;> simp at hb e <;> omega
theorem pair_mor {A : Ab} (w : WFg A) {a s : Int} (h0 : 0 ≤ a) (h1 : a < nn A) (hs : 0 ≤ s ∧ s < 4) (hb : nb A a s ≠ -1) : mor2 a (nb A a s) = nb A (lsr2 a (nb A a s)) 2 ∨ mor2 a (nb A a s) = nb A (lsr2 a (nb A a s)) 3 := by
  have o := nb_ord w h0 h1 hs hb
  have sy := nb_sy w h0 h1 hs hb
  unfold mor2 lsr2
  obtain e | e | e | e : s = 0 ∨ s = 1 ∨ s = 2 ∨ s = 3 := by omega
  · subst e
    rw [if_pos (by omega), if_pos (by omega)]; right; exact sy.symm
  · subst e
    rw [if_pos (by omega), if_pos (by omega)]; left; exact sy.symm
  · subst e
    rw [if_neg (by omega), if_neg (by omega)]; left; rfl
  · subst e
    rw [if_neg (by omega), if_neg (by omega)]; right; rfl
/-- the gate between a and b is v -/
def sgt (A : Ab) (a b v : Int) : Ab := if mor2 a b = nb A (lsr2 a b) 2 then aI A 2 (lsr2 a b) v else aI A 3 (lsr2 a b) v
theorem sgt_A {A : Ab} {a b v : Int} : (sgt A a b v).2 = A.2 ∧ (∀ f, f ≠ 2 → f ≠ 3 → (sgt A a b v).1 f = A.1 f) := by
  unfold sgt
  split
  · exact ⟨rfl, fun f h2 h3 => by funext j; simp [aI, h2]⟩
  · exact ⟨rfl, fun f h2 h3 => by funext j; simp [aI, h3]⟩
theorem sgt_nb {A : Ab} {a b v : Int} : nb (sgt A a b v) = nb A ∧ nn (sgt A a b v) = nn A := by
  exact nb_of ((sgt_A (A := A) (a := a) (b := b) (v := v)).2 0 (by omega) (by omega))
theorem sgt_gt {A : Ab} (w : WFg A) {a b v : Int} (p : pair A a b) {c s : Int} (h0 : 0 ≤ c) (h1 : c < nn A) (hs : 0 ≤ s ∧ s < 4) (hb : nb A c s ≠ -1) : gt (sgt A a b v) c (nb A c s) = if (c = a ∧ nb A c s = b) ∨ (c = b ∧ nb A c s = a) then v else gt A c (nb A c s) := by
  obtain ⟨s1, s2, s3⟩ := sd_ok p
  have pa := pair_mor w p.1.1 p.1.2 s1 (by rw [s2]; have := p.2.1; omega)
  rw [s2] at pa
  have pc' := pair_mor w h0 h1 hs hb
  have hne : a ≠ b := fun e => nb_ne w p.1.1 p.1.2 (s2.trans e.symm)
  have hne2 : nb A c s ≠ c := nb_ne w h0 h1
  have hiff : ((c = a ∧ nb A c s = b) ∨ (c = b ∧ nb A c s = a)) ↔ (lsr2 c (nb A c s) = lsr2 a b ∧ mor2 c (nb A c s) = mor2 a b) := by
    unfold lsr2 mor2
    constructor
    · rintro (⟨e1, e2⟩ | ⟨e1, e2⟩)
      · rw [e1, e2] at *; exact ⟨rfl, rfl⟩
      · rw [e1, e2] at *; constructor <;> split <;> split <;> omega
    · rintro ⟨e1, e2⟩
      by_cases u : nb A c s ≤ c
      · by_cases u' : b ≤ a
        · rw [if_pos u, if_pos u'] at e1 e2; omega
        · rw [if_pos u, if_neg u'] at e1 e2; omega
      · by_cases u' : b ≤ a
        · rw [if_neg u, if_pos u'] at e1 e2; omega
        · rw [if_neg u, if_neg u'] at e1 e2; omega
  have hnb := (sgt_nb (A := A) (a := a) (b := b) (v := v)).1
  have h23 : nb A (lsr2 a b) 2 ≠ -1 ∨ mor2 a b = nb A (lsr2 a b) 3 := by
    rcases pa with e | e
    · left; rw [← e]; unfold mor2; have := p.1; have := p.2.1; split <;> omega
    · right; exact e
  show (if mor2 c (nb A c s) = nb (sgt A a b v) (lsr2 c (nb A c s)) 2 then (sgt A a b v).1 2 (lsr2 c (nb A c s)) else (sgt A a b v).1 3 (lsr2 c (nb A c s))) = _
  rw [hnb]
  unfold gt
  simp only [hiff]
  by_cases q : mor2 a b = nb A (lsr2 a b) 2
  · unfold sgt
    rw [if_pos q]
    by_cases r : mor2 c (nb A c s) = nb A (lsr2 c (nb A c s)) 2
    · rw [if_pos r]
      by_cases z : lsr2 c (nb A c s) = lsr2 a b
      · rw [if_pos ⟨z, by rw [r, q, z]⟩]; simp [aI, z]
      · rw [if_neg (fun y => z y.1), if_pos r]; simp [aI, z]
    · rw [if_neg r, if_neg (fun y => r (by rw [y.2, y.1]; exact q)), if_neg r]; simp [aI]
  · unfold sgt
    rw [if_neg q]
    by_cases r : mor2 c (nb A c s) = nb A (lsr2 c (nb A c s)) 2
    · rw [if_pos r, if_neg (fun y => q (by rw [← y.2, ← y.1]; exact r)), if_pos r]; simp [aI]
    · rw [if_neg r]
      by_cases z : lsr2 c (nb A c s) = lsr2 a b
      · rw [if_pos ⟨z, by rw [pc'.resolve_left r, pa.resolve_left q, z]⟩]; simp [aI, z]
      · rw [if_neg (fun y => z y.1), if_neg r]; simp [aI, z]
theorem sgt_WFg {A : Ab} (w : WFg A) {a b v : Int} (hv' : -1 ≤ v ∧ v ≤ 99) : WFg (sgt A a b v) := by
  obtain ⟨w1, w2, w3, w4, w5⟩ := w
  unfold sgt
  split
  · refine ⟨by simpa [aI, wd] using w1, by simpa [aI, hg] using w2, fun c c0 c1 => by simpa [aI, ht] using w3 c c0 c1, fun c c0 c1 => ?_, fun c c0 c1 => by simpa [aI, gdn] using w5 c c0 c1⟩
    have := w4 c c0 c1
    simp only [aI, grt] at *
    split <;> omega
  · refine ⟨by simpa [aI, wd] using w1, by simpa [aI, hg] using w2, fun c c0 c1 => by simpa [aI, ht] using w3 c c0 c1, fun c c0 c1 => by simpa [aI, grt] using w4 c c0 c1, fun c c0 c1 => ?_⟩
    have := w5 c c0 c1
    simp only [aI, gdn] at *
    split <;> omega
theorem RG_gate {g : Nat} {M : Mem} {A : Ab} (h : RG g M A) (z : SzG g) (w : WFg A) {a b : Int} (p : pair A a b) (p' : pair A b a) (v : Int) : RG g (fPutI (g + 5) (ni (4 * b + sd A b a)) (ni v) (fPutI (g + 5) (ni (4 * a + sd A a b)) (ni v) M)) (sgt A a b v) := by
  obtain ⟨s1, s2, s3⟩ := sd_ok p
  obtain ⟨t1, t2, t3⟩ := sd_ok p'
  have hn := nn_bd w
  have pa := p.1
  have pb := p.2.1
  have f : Fr (fun q => q = g + 5 + 1) M (fPutI (g + 5) (ni (4 * b + sd A b a)) (ni v) (fPutI (g + 5) (ni (4 * a + sd A a b)) (ni v) M)) := (Fr.put (P := fun q => q = g + 5 + 1) rfl).trans (Fr.put rfl)
  obtain ⟨e1, e3⟩ := sgt_nb (A := A) (a := a) (b := b) (v := v)
  obtain ⟨eA, eB⟩ := sgt_A (A := A) (a := a) (b := b) (v := v)
  have z5 : nC (g + 5 + 1) = 144 := z.2.2.1
  refine ⟨⟨?_, ?_, ?_, ?_⟩, fun d d0 d1 => ?_, fun d s d0 d1 s0 s1' => ?_, fun d s d0 d1 s0 s1' hb => ?_⟩
  · rw [f.gI (by omega)]; show _ = ni ((sgt A a b v).1 0 0); rw [eB 0 (by omega) (by omega)]; exact h.1.1
  · rw [f.gI (by omega)]; show _ = ni ((sgt A a b v).1 0 1); rw [eB 0 (by omega) (by omega)]; exact h.1.2.1
  · rw [f.gI (by omega), e3]; exact h.1.2.2.1
  · rw [f.gL (by omega)]; show _ = (sgt A a b v).2 0 0; rw [eA]; exact h.1.2.2.2
  · rw [f.at (by omega)]; show _ = ni ((sgt A a b v).1 1 d); rw [eB 1 (by omega) (by omega)]; exact h.2.1 d d0 d1
  · rw [f.at (by omega), e1]; exact h.2.2.1 d s d0 (by omega) s0 s1'
  · rw [e1] at hb ⊢
    have d1' : d < nn A := by omega
    rw [sgt_gt w p d0 d1' ⟨s0, s1'⟩ hb]
    by_cases q1 : 4 * d + s = 4 * b + sd A b a
    · have q2 : d = b := by omega
      have q3 : s = sd A b a := by omega
      rw [q1, at_eq z5 (by omega) (by omega) (by omega), if_pos (Or.inr ⟨q2, by rw [q2, q3]; exact t2⟩)]
    · rw [at_x z5 (by omega) (by omega) (by omega) (by omega) (by omega) q1]
      by_cases q4 : 4 * d + s = 4 * a + sd A a b
      · have q2 : d = a := by omega
        have q3 : s = sd A a b := by omega
        rw [q4, at_eq z5 (by omega) (by omega) (by omega), if_pos (Or.inl ⟨q2, by rw [q2, q3]; exact s2⟩)]
      · rw [at_x z5 (by omega) (by omega) (by omega) (by omega) (by omega) q4, if_neg, h.2.2.2 d s d0 d1' s0 s1' hb]
        rintro (⟨y1, y2⟩ | ⟨y1, y2⟩)
        · apply q4
          subst y1
          rw [nb_inj w d0 d1' ⟨s0, s1'⟩ s1 hb (by rw [s2]; exact y2)]
        · apply q1
          subst y1
          rw [nb_inj w d0 d1' ⟨s0, s1'⟩ t1 hb (by rw [t2]; exact y2)]
theorem pair_sy {A : Ab} (w : WFg A) {a b : Int} (p : pair A a b) : pair A b a := by
  obtain ⟨s1, s2, s3⟩ := sd_ok p
  obtain ⟨p1, p2, _⟩ := p
  have sy := nb_sy w p1.1 p1.2 s1 (by rw [s2]; omega)
  rw [s2] at sy
  refine ⟨p2, p1, ?_⟩
  obtain q | q | q | q : 3 - sd A a b = 0 ∨ 3 - sd A a b = 1 ∨ 3 - sd A a b = 2 ∨ 3 - sd A a b = 3 := by omega
  all_goals (rw [q] at sy; simp only [sy, true_or, or_true])
theorem c_putGate {g : Nat} {M : Mem} {A : Ab} (h : RG g M A) (w : WFg A) {a b v : Int} (p : pair A a b) : GR_putGate g (ni a) (ni b) (ni v) M = some ((), fPutI (g + 5) (ni (4 * b + sd A b a)) (ni v) (fPutI (g + 5) (ni (4 * a + sd A a b)) (ni v) M)) := by
  have p' := pair_sy w p
  have hn := nn_bd w
  have pa := p.1
  have pb := p.2.1
  have f : Fr (fun q => q = g + 5 + 1) M (fPutI (g + 5) (ni (4 * a + sd A a b)) (ni v) M) := Fr.put rfl
  unfold GR_putGate
  rw [c_sideTo h w (by omega) (by omega) (by omega) (by omega), b1_s, if_pos p]
  have e : GR_sideTo g (ni b) (ni a) (fPutI (g + 5) (ni (4 * a + sd A a b)) (ni v) M) = GR_sideTo g (ni b) (ni a) M := by
    unfold GR_sideTo GR_exists GR_sideTo_L22
    rw [f.gI (by omega)]
    simp only [f.at (show ¬ g + 3 + 1 = g + 5 + 1 by omega)]
  rw [e, c_sideTo h w (by omega) (by omega) (by omega) (by omega), b1_s, if_pos p']
