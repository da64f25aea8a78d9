/-! 89.begin: a new ground -/
def G0 (W H : Int) : Ab := (fun f k => if f = 0 then (if k = 0 then W else if k = 1 then H else 0) else if f = 2 ∨ f = 3 then -1 else 0, fun _ _ => 0)
theorem G0_wd (W H : Int) : wd (G0 W H) = W := rfl
theorem G0_hg (W H : Int) : hg (G0 W H) = H := rfl
theorem G0_nn (W H : Int) : nn (G0 W H) = W * H := rfl
theorem G0_WFg {W H : Int} (w : 1 ≤ W ∧ W ≤ 6) (h : 1 ≤ H ∧ H ≤ 6) : WFg (G0 W H) := by
  refine ⟨w, h, fun c _ _ => ?_, fun c _ _ => ?_, fun c _ _ => ?_⟩
  · show (0 : Int) ≤ 0 ∧ (0 : Int) ≤ 99; omega
  · show (-1 : Int) ≤ -1 ∧ (-1 : Int) ≤ 99; omega
  · show (-1 : Int) ≤ -1 ∧ (-1 : Int) ≤ 99; omega
theorem G0_gt (W H a b : Int) : gt (G0 W H) a b = -1 := by
  unfold gt
  split <;> rfl
theorem six {W : Int} (w : 1 ≤ W ∧ W ≤ 6) : W = 1 ∨ W = 2 ∨ W = 3 ∨ W = 4 ∨ W = 5 ∨ W = 6 := by omega
theorem lay_nb {W H r c : Int} (w : 1 ≤ W ∧ W ≤ 6) (hr : 0 ≤ r ∧ r < H) (hc : 0 ≤ c ∧ c < W) : nb (G0 W H) (W * r + c) 0 = (if r ≤ 0 then -1 else W * r + c - W) ∧ nb (G0 W H) (W * r + c) 1 = (if c ≤ 0 then -1 else W * r + c - 1) ∧ nb (G0 W H) (W * r + c) 2 = (if W - 1 ≤ c then -1 else W * r + c + 1) ∧ nb (G0 W H) (W * r + c) 3 = (if H - 1 ≤ r then -1 else W * r + c + W) := by
  unfold nb
  rw [G0_wd, G0_nn]
  simp only [if_true, show ((1 : Int) = 0) = False from by simp, show ((2 : Int) = 0) = False from by simp, show ((2 : Int) = 1) = False from by simp, show ((3 : Int) = 0) = False from by simp, show ((3 : Int) = 1) = False from by simp, show ((3 : Int) = 2) = False from by simp, if_false]
  have e : (W * r + c) % W = c := by
    rw [Int.mul_add_emod_self_left, Int.emod_eq_of_lt hc.1 hc.2]
  rw [e]
  refine ⟨?_, rfl, rfl, ?_⟩
  · rcases six w with rfl | rfl | rfl | rfl | rfl | rfl <;> (split <;> split <;> omega)
  · rcases six w with rfl | rfl | rfl | rfl | rfl | rfl <;> (split <;> split <;> omega)
theorem lay_cell {W H r c : Int} (w : 1 ≤ W ∧ W ≤ 6) (h : 1 ≤ H ∧ H ≤ 6) (hr : 0 ≤ r ∧ r < H) (hc : 0 ≤ c ∧ c < W) : 0 ≤ W * r + c ∧ W * r + c < 36 ∧ W * r + c < W * H := by
  rcases six w with rfl | rfl | rfl | rfl | rfl | rfl <;> omega
theorem gI_put {o p k : Nat} {i v : Int32} {M : Mem} (h : p ≠ o + 1) : gI (fPutI o i v M) p k = gI M p k := (Fr.put (P := fun q => q = o + 1) rfl).gI h
theorem ifni {p : Prop} [Decidable p] (x y : Int) : (if p then ni x else ni y) = ni (if p then x else y) := by split <;> rfl
theorem c_laySides {g : Nat} (z : nC (g + 3 + 1) = 144) {M : Mem} {W H r c : Int} (w : 1 ≤ W ∧ W ≤ 6) (h : 1 ≤ H ∧ H ≤ 6) (hr : 0 ≤ r ∧ r < H) (hc : 0 ≤ c ∧ c < W) (e0 : gI M g 0 = ni W) (e1 : gI M g 1 = ni H) : ∃ M', GR_laySides g (ni r) (ni c) M = some ((), M') ∧ Fr (fun p => p = g + 4) M M' ∧ (∀ s, 0 ≤ s → s < 4 → fAtI (g + 3) (ni (4 * (W * r + c) + s)) M' = ni (nb (G0 W H) (W * r + c) s)) ∧ ∀ j, 0 ≤ j → j < 144 → (j < 4 * (W * r + c) ∨ 4 * (W * r + c) + 4 ≤ j) → fAtI (g + 3) (ni j) M' = fAtI (g + 3) (ni j) M := by
  obtain ⟨n0, n1, n2, n3⟩ := lay_nb (H := H) w hr hc
  obtain ⟨b0, b1', b2'⟩ := lay_cell w h hr hc
  generalize hx : W * r + c = x at *
  have hv : (gI M g 0) * ni r + ni c = ni x := by rw [e0, ni_mul, ni_add, hx]
  have hM : GR_laySides g (ni r) (ni c) M = some ((), fPutI (g + 3) (ni (4 * x + 3)) (ni (nb (G0 W H) x 3)) (fPutI (g + 3) (ni (4 * x + 2)) (ni (nb (G0 W H) x 2)) (fPutI (g + 3) (ni (4 * x + 1)) (ni (nb (G0 W H) x 1)) (fPutI (g + 3) (ni (4 * x)) (ni (nb (G0 W H) x 0)) M)))) := by
    unfold GR_laySides GR_laySides_J34 GR_laySides_J56 GR_laySides_J84 GR_laySides_J115
    rw [hv]
    have hg0 : ∀ i v N, gI (fPutI (g + 3) i v N) g 0 = gI N g 0 := fun i v N => gI_put (by omega)
    have hg1 : ∀ i v N, gI (fPutI (g + 3) i v N) g 1 = gI N g 1 := fun i v N => gI_put (by omega)
    simp only [hg0, hg1, e0, e1]
    simp (disch := omega) only [show (4 : Int32) = ni 4 from rfl, show (3 : Int32) = ni 3 from rfl, show (2 : Int32) = ni 2 from rfl, show (1 : Int32) = ni 1 from rfl, show (0 : Int32) = ni 0 from rfl, ni_neg, ni_mul, ni_add, ni_sub, ni_le, ifni, n0, n1, n2, n3]
  refine ⟨_, hM, (((Fr.put (P := fun p => p = g + 4) rfl).trans (Fr.put rfl)).trans (Fr.put rfl)).trans (Fr.put rfl), ?_, ?_⟩
  · intro s s0 s1
    obtain rfl | rfl | rfl | rfl : s = 0 ∨ s = 1 ∨ s = 2 ∨ s = 3 := by omega
    · rw [Int.add_zero, at_x z (by omega) (by omega) (by omega) (by omega) (by omega) (by omega), at_x z (by omega) (by omega) (by omega) (by omega) (by omega) (by omega), at_x z (by omega) (by omega) (by omega) (by omega) (by omega) (by omega), at_eq z (by omega) (by omega) (by omega)]
    · rw [at_x z (by omega) (by omega) (by omega) (by omega) (by omega) (by omega), at_x z (by omega) (by omega) (by omega) (by omega) (by omega) (by omega), at_eq z (by omega) (by omega) (by omega)]
    · rw [at_x z (by omega) (by omega) (by omega) (by omega) (by omega) (by omega), at_eq z (by omega) (by omega) (by omega)]
    · rw [at_eq z (by omega) (by omega) (by omega)]
  · intro j j0 j1 hj
    rw [at_x z (by omega) (by omega) (by omega) (by omega) (by omega) (by omega), at_x z (by omega) (by omega) (by omega) (by omega) (by omega) (by omega), at_x z (by omega) (by omega) (by omega) (by omega) (by omega) (by omega), at_x z (by omega) (by omega) (by omega) (by omega) (by omega) (by omega)]
theorem c_lay {g : Nat} (zg : SzG g) {M : Mem} {W H : Int} (w : 1 ≤ W ∧ W ≤ 6) (h : 1 ≤ H ∧ H ≤ 6) : ∃ M', GR_lay g (ni W) (ni H) M = some ((), M') ∧ RG g M' (G0 W H) ∧ Fr (fun p => p = g ∨ p = g + 2 ∨ p = g + 4 ∨ p = g + 6) M M' := by
  obtain ⟨z1, z3, z5, z7, z9⟩ := zg
  let M1 : Mem := fFillI (g + 5) (-1 : Int32) (fFillI (g + 3) (-1 : Int32) (fFillI (g + 1) (0 : Int32) (sL (sI (sI (sI M g 0 (ni W)) g 1 (ni H)) g 2 (ni W * ni H)) g 3 (0 : Int64))))
  have fa : Fr (fun p => p = g + 2 ∨ p = g + 4 ∨ p = g + 6) (sL (sI (sI (sI M g 0 (ni W)) g 1 (ni H)) g 2 (ni W * ni H)) g 3 (0 : Int64)) M1 := ((Fr.fill (P := fun p => p = g + 2 ∨ p = g + 4 ∨ p = g + 6) (Or.inl rfl)).trans (Fr.fill (Or.inr (Or.inl rfl)))).trans (Fr.fill (Or.inr (Or.inr rfl)))
  have fb : Fr (fun p => p = g ∨ p = g + 2 ∨ p = g + 4 ∨ p = g + 6) M M1 := ((((Fr.sI (P := fun p => p = g ∨ p = g + 2 ∨ p = g + 4 ∨ p = g + 6) (Or.inl rfl)).trans (Fr.sI (Or.inl rfl))).trans (Fr.sI (Or.inl rfl))).trans (Fr.sL (Or.inl rfl))).trans (fa.mono (fun p hp => Or.inr hp))
  have m0 : gI M1 g 0 = ni W := by rw [fa.gI (by omega)]; simp [gI, sI, sL]
  have m1 : gI M1 g 1 = ni H := by rw [fa.gI (by omega)]; simp [gI, sI, sL]
  have m2 : gI M1 g 2 = ni (W * H) := by rw [fa.gI (by omega), ← ni_mul]; simp [gI, sI, sL]
  have m3 : gL M1 g 3 = 0 := by rw [fa.gL (by omega)]; simp [gL, sL]
  have mh : ∀ c, 0 ≤ c → c < 36 → fAtI (g + 1) (ni c) M1 = 0 := fun c c0 c1 => by
    have f1 : Fr (fun p => p = g + 4 ∨ p = g + 6) (fFillI (g + 1) (0 : Int32) (sL (sI (sI (sI M g 0 (ni W)) g 1 (ni H)) g 2 (ni W * ni H)) g 3 (0 : Int64))) M1 := (Fr.fill (P := fun p => p = g + 4 ∨ p = g + 6) (Or.inl rfl)).trans (Fr.fill (Or.inr rfl))
    rw [f1.at (by omega), fill_at z1 c0 c1 (by omega)]
  have m5 : ∀ j, 0 ≤ j → j < 144 → fAtI (g + 5) (ni j) M1 = ni (-1) := fun j j0 j1 => fill_at z5 j0 j1 (by omega)
  have inner : ∀ r, 0 ≤ r → r < H → ∀ M2 : Mem, Fr (fun p => p = g + 4) M1 M2 → (∀ y s, 0 ≤ y → y < W * r → 0 ≤ s → s < 4 → fAtI (g + 3) (ni (4 * y + s)) M2 = ni (nb (G0 W H) y s)) → ∃ q M3, lpM (fun s M9 => GR_lay_L59 g (ni r) s M9) FUEL (0 : Int32) M2 = some (q, M3) ∧ (Fr (fun p => p = g + 4) M1 M3 ∧ (∀ y s, 0 ≤ y → y < W * (r + 1) → 0 ≤ s → s < 4 → fAtI (g + 3) (ni (4 * y + s)) M3 = ni (nb (G0 W H) y s))) := by
    intro r r0 r1 M2 F2 h2
    refine lpM_to W.toNat (by omega) (fun i s M' => s = ni (i : Int) ∧ Fr (fun p => p = g + 4) M1 M' ∧ (∀ y s, 0 ≤ y → y < W * r + i → 0 ≤ s → s < 4 → fAtI (g + 3) (ni (4 * y + s)) M' = ni (nb (G0 W H) y s))) _ ?_ ?_ ⟨rfl, F2, fun y s a b c d => h2 y s a (by omega) c d⟩
    · rintro i hi s M3 ⟨rfl, F3, h3⟩
      have e0 : gI M3 g 0 = ni W := by rw [F3.gI (by omega)]; exact m0
      have e1 : gI M3 g 1 = ni H := by rw [F3.gI (by omega)]; exact m1
      obtain ⟨M4, q4, F4, a4, b4⟩ := c_laySides z3 w h ⟨r0, r1⟩ (c := (i : Int)) (by omega) e0 e1
      obtain ⟨b0, b1', b2'⟩ := lay_cell w h ⟨r0, r1⟩ (c := (i : Int)) (by omega)
      unfold GR_lay_L59
      rw [e0, q4, b2_s, ni_s]
      simp (disch := omega) only [ni_le]
      rw [if_neg (by omega)]
      refine ⟨_, M4, rfl, rfl, F3.trans F4, fun y s y0 y1 s0 s1 => ?_⟩
      by_cases e : y = W * r + i
      · rw [e]; exact a4 s s0 s1
      · have hy : y < W * r + i := by push_cast at y1; omega
        rw [b4 _ (by omega) (by omega) (by omega)]
        exact h3 y s y0 hy s0 s1
    · rintro s M3 ⟨rfl, F3, h3⟩
      have e0 : gI M3 g 0 = ni W := by rw [F3.gI (by omega)]; exact m0
      refine ⟨(), M3, ?_, F3, fun y s y0 y1 s0 s1 => h3 y s y0 (by rw [Int.toNat_of_nonneg (by omega)]; rw [Int.mul_add] at y1; omega) s0 s1⟩
      unfold GR_lay_L59
      rw [e0]
      simp (disch := omega) only [ni_le]
      rw [if_pos (by omega)]
  have outer : ∃ q M2, lpM (fun s M9 => GR_lay_L48 g s M9) FUEL (0 : Int32) M1 = some (q, M2) ∧ (Fr (fun p => p = g + 4) M1 M2 ∧ (∀ y s, 0 ≤ y → y < W * H → 0 ≤ s → s < 4 → fAtI (g + 3) (ni (4 * y + s)) M2 = ni (nb (G0 W H) y s))) := by
    refine lpM_to H.toNat (by omega) (fun i s M' => s = ni (i : Int) ∧ Fr (fun p => p = g + 4) M1 M' ∧ (∀ y s, 0 ≤ y → y < W * i → 0 ≤ s → s < 4 → fAtI (g + 3) (ni (4 * y + s)) M' = ni (nb (G0 W H) y s))) _ ?_ ?_ ⟨rfl, Fr.rfl', fun y s a b c d => by simp at b; omega⟩
    · rintro i hi s M3 ⟨rfl, F3, h3⟩
      have e1 : gI M3 g 1 = ni H := by rw [F3.gI (by omega)]; exact m1
      obtain ⟨q, M4, q4, F4, a4⟩ := inner (i : Int) (by omega) (by omega) M3 F3 h3
      unfold GR_lay_L48
      rw [e1, q4, b2_s, ni_s]
      simp (disch := omega) only [ni_le]
      rw [if_neg (by omega)]
      refine ⟨_, M4, rfl, rfl, F4, fun y s y0 y1 s0 s1 => a4 y s y0 (by push_cast at y1; exact y1) s0 s1⟩
    · rintro s M3 ⟨rfl, F3, h3⟩
      have e1 : gI M3 g 1 = ni H := by rw [F3.gI (by omega)]; exact m1
      refine ⟨(), M3, ?_, F3, fun y s y0 y1 s0 s1 => h3 y s y0 (by rw [Int.toNat_of_nonneg (by omega)]; exact y1) s0 s1⟩
      unfold GR_lay_L48
      rw [e1]
      simp (disch := omega) only [ni_le]
      rw [if_pos (by omega)]
  obtain ⟨q, M2, k1, F2, k2⟩ := outer
  have hcell : ∀ c, c < W * H → c < 36 := by
    intro c hc
    rcases six w with rfl | rfl | rfl | rfl | rfl | rfl <;> omega
  refine ⟨M2, ?_, ⟨⟨?_, ?_, ?_, ?_⟩, fun c c0 c1 => ?_, fun c s c0 c1 s0 s1 => k2 c s c0 c1 s0 s1, fun c s c0 c1 s0 s1 _ => ?_⟩, fb.trans (F2.mono (fun p hp => Or.inr (Or.inr (Or.inl hp))))⟩
  · unfold GR_lay
    have k1' : lpM (fun s M9 => GR_lay_L48 g s M9) FUEL (0 : Int32) (fFillI (g + 5) (-1 : Int32) (fFillI (g + 3) (-1 : Int32) (fFillI (g + 1) (0 : Int32) (sL (sI (sI (sI M g 0 (ni W)) g 1 (ni H)) g 2 (ni W * ni H)) g 3 (0 : Int64))))) = some (q, M2) := k1
    rw [k1', b2_s]
  · rw [F2.gI (by omega)]; exact m0
  · rw [F2.gI (by omega)]; exact m1
  · rw [F2.gI (by omega)]; exact m2
  · rw [F2.gL (by omega)]; exact m3
  · rw [F2.at (by omega), mh c c0 c1]; rfl
  · have := hcell c c1
    rw [F2.at (by omega), m5 _ (by omega) (by omega), G0_gt]
theorem c_restartW {w : Nat} (hw : IsW w) {M : Mem} {A : Ab} (hG : RG (w + 1) M A) (g : WFg A) (hl : prd A = 0 ∧ lst A = 0 ∧ gon A = 0) : ∃ M', WD_restart w M = some ((), M') ∧ RW w M' (fnd A) ∧ Fr (fun p => w ≤ p ∧ p < w + 46) M M' := by
  have fs : Fr (fun p => p = w) M (sL (sL (sL M w 3 (0 : Int64)) w 4 (0 : Int64)) w 5 (0 : Int64)) := ((Fr.sL (P := fun p => p = w) rfl).trans (Fr.sL rfl)).trans (Fr.sL rfl)
  obtain ⟨M1, q1, R1, F1⟩ := c_findAnew hw (RG_fr hG fs (by omega) (by omega) (by omega) (by omega)) g
  refine ⟨M1, ?_, ⟨R1, ?_, ?_, ?_⟩, (fs.mono (fun p hp => by omega)).trans (F1.mono (fun p hp => by omega))⟩
  · unfold WD_restart
    rw [q1, b2_s]
  · have : prd (fnd A) = prd A := by simp [fnd, prd]
    rw [F1.gL (by omega), this, hl.1]; simp [gL, sL]
  · have : lst (fnd A) = lst A := by simp [fnd, lst]
    rw [F1.gL (by omega), this, hl.2.1]; simp [gL, sL]
  · have : gon (fnd A) = gon A := by simp [fnd, gon]
    rw [F1.gL (by omega), this, hl.2.2]; simp [gL, sL]
theorem gL_w1 (M : Mem) (i j : Nat) (v : Int64) : gL (sL M 1 i v) 1 j = if j = i then v else gL M 1 j := by simp [gL, sL]
theorem e_begins {M : Mem} {W H : Int} (w : 1 ≤ W ∧ W ≤ 6) (h : 1 ≤ H ∧ H ≤ 6) : ∃ M', MD_begins (ni W) (ni H) M = some ((), M') ∧ RM M' (fnd (G0 W H)) ∧ FrF M M' := by
  have key : ∃ r M', lpM (fun s M9 => MD_begins_L2 (ni W) (ni H) s M9) FUEL (0 : Int32) M = some (r, M') ∧ (M'.1 = M.1 ∧ (∀ o q, o ≠ 1 → M'.2 o q = M.2 o q) ∧ ∀ q, q < 513 → gL M' 1 q = if q < 44 then 0 else if 116 ≤ q then 0 else nl (-1)) := by
    refine lpM_to 513 (by omega) (fun i s M' => s = ni (i : Int) ∧ M'.1 = M.1 ∧ (∀ o q, o ≠ 1 → M'.2 o q = M.2 o q) ∧ ∀ q, q < i → gL M' 1 q = if q < 44 then 0 else if 116 ≤ q then 0 else nl (-1)) _ ?_ ?_ ⟨rfl, rfl, fun _ _ _ => rfl, fun q hq => by omega⟩
    · rintro i hi s M1 ⟨rfl, f1, f2, f3⟩
      unfold MD_begins_L2
      simp (disch := omega) only [show (513 : Int32) = ni 513 from rfl, show (44 : Int32) = ni 44 from rfl, show (116 : Int32) = ni 116 from rfl, ni_le, ni_lt, ni_inb, ni_nat, ni_s, Int.toNat_natCast]
      rw [if_neg (by omega), ck_d (by omega)]
      refine ⟨_, _, rfl, rfl, f1, fun o q ho => ?_, fun q hq => ?_⟩
      · rw [← f2 o q ho]; simp [sL, ho]
      · rw [gL_w1]
        by_cases z : q = i
        · rw [if_pos z, z]
          by_cases y1 : i < 44
          · rw [if_pos (by omega), if_pos y1]
          · rw [if_neg (by omega), if_neg y1]
            by_cases y2 : 116 ≤ i
            · rw [if_pos (by omega), if_pos y2]
            · rw [if_neg (by omega), if_neg y2]; rfl
        · rw [if_neg z]; exact f3 q (by omega)
    · rintro s M1 ⟨rfl, f1, f2, f3⟩
      refine ⟨(), M1, ?_, f1, f2, f3⟩
      unfold MD_begins_L2
      rw [if_pos (by decide)]
  obtain ⟨r, M1, k1, f1, f2, f3⟩ := key
  have hR : RM (sL (sL M1 1 0 (nl W)) 1 1 (nl H)) (G0 W H) := by
    have e : ∀ q, 2 ≤ q → q < 513 → gL (sL (sL M1 1 0 (nl W)) 1 1 (nl H)) 1 q = if q < 44 then 0 else if 116 ≤ q then 0 else nl (-1) := by
      intro q q0 q1
      rw [gL_w1, if_neg (by omega), gL_w1, if_neg (by omega), f3 q q1]
    refine ⟨fun c hc => ?_, fun c hc => ?_, fun c hc => ?_, fun c hc => ?_, fun c hc => ?_, fun c hc => ?_, fun c hc => ?_, fun c hc => ?_, fun c hc => ?_, ?_, ?_, ?_, ?_, ?_, ?_, ?_, ?_⟩
    · rw [e _ (by omega) (by omega), if_pos (by omega)]; rfl
    · rw [e _ (by omega) (by omega), if_neg (by omega), if_neg (by omega)]; rfl
    · rw [e _ (by omega) (by omega), if_neg (by omega), if_neg (by omega)]; rfl
    · rw [e _ (by omega) (by omega), if_neg (by omega), if_pos (by omega)]; rfl
    · rw [e _ (by omega) (by omega), if_neg (by omega), if_pos (by omega)]; rfl
    · rw [e _ (by omega) (by omega), if_neg (by omega), if_pos (by omega)]; rfl
    · rw [e _ (by omega) (by omega), if_neg (by omega), if_pos (by omega)]; rfl
    · rw [e _ (by omega) (by omega), if_neg (by omega), if_pos (by omega)]; rfl
    · rw [e _ (by omega) (by omega), if_neg (by omega), if_pos (by omega)]; rfl
    · rw [gL_w1, if_neg (by omega), gL_w1, if_pos rfl]; rfl
    · rw [gL_w1, if_pos rfl]; rfl
    · rw [e _ (by omega) (by omega), if_pos (by omega)]; rfl
    · rw [e _ (by omega) (by omega), if_pos (by omega)]; rfl
    · rw [e _ (by omega) (by omega), if_pos (by omega)]; rfl
    · rw [e _ (by omega) (by omega), if_pos (by omega)]; rfl
    · rw [e _ (by omega) (by omega), if_pos (by omega)]; rfl
    · rw [e _ (by omega) (by omega), if_neg (by omega), if_pos (by omega)]; rfl
  obtain ⟨M2, q2, R2, F2⟩ := e_finds hR (G0_WFg w h)
  refine ⟨M2, ?_, R2, ?_, ?_⟩
  · unfold MD_begins
    rw [k1, b2_s, ni_64 (by omega) (by omega), ni_64 (by omega) (by omega), q2, b2_s]
  · rw [F2.1]; exact f1
  · intro o q h1 h4
    rw [F2.2 o q h1 h4, ← f2 o q h1]
    simp [sL, h1]
theorem G0_lk (W H : Int) : prd (G0 W H) = 0 ∧ lst (G0 W H) = 0 ∧ gon (G0 W H) = 0 := ⟨rfl, rfl, rfl⟩
theorem WB_new {A : Ab} : WB (fnd A) := ⟨by rw [wat_fnd]; omega, BS_fnd⟩
theorem sim0 : Sim0 Inv := by
  intro Mc Mm a0 a1 hI
  have hI0 := hI
  obtain ⟨A, hC, hM, hW, hw, hS, hT⟩ := hI
  obtain ⟨W, hw1, rfl⟩ := i32 a0
  obtain ⟨H, hh1, rfl⟩ := i32 a1
  unfold MD_begin MD_begin_J30 LL_begin
  have hr : (if (MD_in (ni W).toInt64 (1 : Int64) (6 : Int64)) = 0 then (0 : Int32) else (if (MD_in (ni H).toInt64 (1 : Int64) (6 : Int64)) = 0 then (0 : Int32) else (1 : Int32))) = bI ((1 ≤ W ∧ W ≤ 6) ∧ (1 ≤ H ∧ H ≤ 6)) := by
    rw [ni_64 hw1.1 hw1.2, ni_64 hh1.1 hh1.2, show (1 : Int64) = nl 1 from rfl, show (6 : Int64) = nl 6 from rfl, e_in (by omega) (by omega) (by omega) (by omega) (by omega) (by omega), e_in (by omega) (by omega) (by omega) (by omega) (by omega) (by omega)]
    simp only [bI_z]
    by_cases y1 : 1 ≤ W ∧ W ≤ 6
    · by_cases y2 : 1 ≤ H ∧ H ≤ 6
      · rw [if_neg (fun z => z y1), if_neg (fun z => z y2), bI_t ⟨y1, y2⟩]
      · rw [if_neg (fun z => z y1), if_pos y2, bI_f (fun z => y2 z.2)]
    · rw [if_pos y1, bI_f (fun z => y1 z.1)]
  have hg := e_goes (p := (1 ≤ W ∧ W ≤ 6) ∧ (1 ≤ H ∧ H ≤ 6)) (q := True) (r := True) Mm
  rw [← one_bI] at hg
  rw [hr, hg, b2_s, show (1 : Int32) = ni 1 from rfl, show (6 : Int32) = ni 6 from rfl, c_needWithin hw1.1 hw1.2 (by omega) (by omega) (by omega) (by omega)]
  simp only [bI_n0]
  by_cases q1 : 1 ≤ W ∧ W ≤ 6
  · rw [if_pos q1, bx_l, c_needWithin hh1.1 hh1.2 (by omega) (by omega) (by omega) (by omega)]
    by_cases q2 : 1 ≤ H ∧ H ≤ 6
    · rw [if_pos q2, bx_l, if_pos ⟨⟨q1, q2⟩, trivial, trivial⟩]
      obtain ⟨Mc1, Mm1, s1, s2, RC, RMm, S1, T1, E1⟩ := both_go hC hM hW hw hS hT (ni (gz ((1 ≤ W ∧ W ≤ 6) ∧ (1 ≤ H ∧ H ≤ 6)) True True))
      obtain ⟨Mc2, c1, c2, c3⟩ := c_lay (g := 2) (sz_w (w := 1) (Or.inl rfl)).1 (M := Mc1) q1 q2
      obtain ⟨Mc3, d1, d2, d3⟩ := c_restartW (w := 1) (Or.inl rfl) c2 (G0_WFg q1 q2) (G0_lk W H)
      obtain ⟨Mm2, m1, m2, m3⟩ := e_begins (M := Mm1) q1 q2
      have FF : Fr (fun p => 1 ≤ p ∧ p < 47) Mc1 Mc3 := (c3.mono (fun p hp => by omega)).trans (d3.mono (fun p hp => by omega))
      have gi : ∀ o q, gI Mm2 o q = gI Mm1 o q := fun o q => by unfold gI; rw [m3.1]
      have hnf := fnd_nn (G0 W H)
      have hz : gI Mc3 2 2 = ni (W * H) := by
        have := d2.1.1.1.2.2.1
        rw [hnf] at this
        exact this
      rw [s1, s2, b2_s, b2_s, c1, b2_s, d1, b2_s, m1, b2_s, e_many m2, hz, hnf, G0_nn]
      refine ⟨_, _, _, _, rfl, rfl, ⟨_, d2, m2, fnd_WF (G0_WFg q1 q2), WB_new, ?_, ?_⟩, Or.inl ⟨_, rfl, ?_, rfl⟩⟩
      · exact SVI_fr S1 FF (fun p hp => by omega) (gi 0 3) (fun q => m3.2 2 q (by omega) (by omega))
      · exact TXI_fr T1 FF (fun p hp => by omega) (gi 0 21) (fun q => gi 12 q)
      · rw [gi, E1]; unfold gz; rw [if_pos ⟨q1, q2⟩, if_pos trivial, if_pos trivial]; rfl
    · rw [if_neg q2, bx_r, if_neg (fun z => q2 z.1.2)]
      refine ⟨_, _, _, _, rfl, rfl, Inv_goes hI0 _, Or.inr ⟨rfl, ?_⟩⟩
      rw [sI_eq]; unfold gz; rw [if_neg (fun z => q2 z.2)]
  · rw [if_neg q1, bx_r, if_neg (fun z => q1 z.1.1)]
    refine ⟨_, _, _, _, rfl, rfl, Inv_goes hI0 _, Or.inr ⟨rfl, ?_⟩⟩
    rw [sI_eq]; unfold gz; rw [if_neg (fun z => q1 z.1)]
