/-! B5.state: what holds of the state between calls, and what each change does to it -/
def GI (A : Ab) : Prop := WF A ∧ WB A ∧ SEA A ∧ prd A = nl (wat A) + lst A + gon A
theorem i64_rc (a b c : Int64) : a + b + c = a + c + b := by rw [Int64.add_assoc, Int64.add_comm b c, ← Int64.add_assoc]
theorem wat0 {A : Ab} (h : WF A) : 0 ≤ wat A := (wat_bd h.2.1 72 (by omega)).1
theorem rep_bal {f v : Nat → Int} {B : Ab} (hB : WF B) : ∀ n : Nat, (∀ i, i < n → 0 ≤ v i) → wat B + sm n v ≤ 1200000 → nl (wat (rep f v n B)) + lst (rep f v n B) = nl (wat B + sm n v) + lst B := by
  intro n
  induction n with
  | zero => intro _ _; simp [rep, sm]
  | succ n ih =>
    intro hv hw
    have h0 : 0 ≤ v n := hv n (by omega)
    have e : sm (n + 1) v = sm n v + v n := rfl
    obtain ⟨r1, r2, _⟩ := rep_ok (f := f) hB n (fun i hi => hv i (by omega)) (by omega)
    obtain ⟨p1, p2, p3, p4, p5, p6, p7, p8, p9, p10⟩ := prl_WF r1 (PK_lk r1 (f n)) h0 (by omega)
    have i := ih (fun i hi => hv i (by omega)) (by omega)
    show nl (wat (prl prN (rep f v n B) (lk (rep f v n B) (f n)) (v n))) + lst (prl prN (rep f v n B) (lk (rep f v n B) (f n)) (v n)) = _
    rw [p8, e, ← Int.add_assoc, ← nl_add (wat B + sm n v) (v n)]
    have q : nl (wat (prl prN (rep f v n B) (lk (rep f v n B) (f n)) (v n))) + nl (pr prN (rep f v n B) (lk (rep f v n B) (f n)) (v n)).2 = nl (wat (rep f v n B)) + nl (v n) := by rw [nl_add, nl_add, p2]
    generalize nl (wat (prl prN (rep f v n B) (lk (rep f v n B) (f n)) (v n))) = a at *
    generalize nl (pr prN (rep f v n B) (lk (rep f v n B) (f n)) (v n)).2 = b at *
    generalize nl (v n) = d at *
    generalize nl (wat (rep f v n B)) = x at *
    generalize lst (rep f v n B) = y at *
    generalize nl (wat B + sm n v) = z at *
    rw [i64_rc z d, ← i, i64_rc x y, ← q, Int64.add_assoc a b y, Int64.add_comm b y]
theorem GI_fnd {B : Ab} (g : WFg B) (h : prd B = 0 ∧ lst B = 0 ∧ gon B = 0) : GI (fnd B) := by
  refine ⟨fnd_WF g, WB_new, SEA_fnd g, ?_⟩
  rw [wat_fnd]
  show prd B = nl 0 + lst B + gon B
  rw [h.1, h.2.1, h.2.2]
  rfl
theorem GI_CH {A B : Ab} (hA : GI A) (hB : WFg B) (hn : nn B = nn A) (hl : prd B = prd A ∧ lst B = lst A ∧ gon B = gon A) : GI (CH A B) ∧ GE B (CH A B) ∧ bnn (CH A B) = npt B ∧ nl (wat (CH A B)) + lst (CH A B) = nl (wat A) + lst A := by
  obtain ⟨hW, hw, hs', hb⟩ := hA
  obtain ⟨o1, o2, o3, o4⟩ := CH_ok hW hw.1 hB hn
  obtain ⟨p1, p2, p3, p4⟩ := CH_pre hW hn
  have hv : ∀ i, i < (lown A 36).toNat → 0 ≤ npv A i := fun i hi => p3 i (by omega)
  have hwt := wat_fnd B
  have h1 := hw.1
  have r := rep_ok (f := npl A) (fnd_WF hB) (lown A 36).toNat hv (by omega)
  have s := RS_rep (f := npl A) (fnd_WF hB) (lown A 36).toNat hv (by omega)
  have e := rep_bal (f := npl A) (fnd_WF hB) (lown A 36).toNat hv (by omega)
  rw [hwt, p4, Int.zero_add] at e
  have e2 : nl (wat (CH A B)) + lst (CH A B) = nl (wat A) + lst A := by
    show nl (wat (rep (npl A) (npv A) (lown A 36).toNat (fnd B))) + lst (rep (npl A) (npv A) (lown A 36).toNat (fnd B)) = _
    rw [e]
    show nl (wat A) + lst B = _
    rw [hl.2.1]
  refine ⟨⟨o1, o2, ?_, ?_⟩, o3, o4, e2⟩
  · exact SEA_of (A := fnd B) r.2.2.1.nn.symm r.2.2.2.2.1 s.2.1 (SEA_fnd hB)
  · rw [e2]
    show prd (rep (npl A) (npv A) (lown A 36).toNat (fnd B)) = _ + gon (rep (npl A) (npv A) (lown A 36).toNat (fnd B))
    rw [r.2.2.2.2.2.2.2, r.2.2.2.2.2.2.1]
    show prd B = _ + gon B
    rw [hl.1, hl.2.2, hb]
noncomputable def PO (A : Ab) (c x : Int) : Ab := prl prN (pG A (prd A + nl x)) (lk A c) x
theorem GI_PO {A : Ab} (hA : GI A) {c x : Int} (hx : 0 ≤ x) (hw : wat A + x ≤ 1000000) : GI (PO A c x) ∧ RS A (PO A c x) ∧ nl (wat (PO A c x)) + lst (PO A c x) = nl (wat A) + lst A + nl x ∧ (0 ≤ (pr prN (pG A (prd A + nl x)) (lk A c) x).2 ∧ (pr prN (pG A (prd A + nl x)) (lk A c) x).2 ≤ x) := by
  obtain ⟨hW, hwb, hs', hb⟩ := hA
  obtain ⟨g1, g2, g3⟩ := pG_WF (A := A) (prd A + nl x)
  have hWp := g1 hW
  have hk : PK (pG A (prd A + nl x)) (lk A c) := by rw [← g3]; exact PK_lk hWp c
  obtain ⟨p1, p2, p3, p4, p5, p6, p7, p8, p9, p10⟩ := prl_WF hWp hk hx (by omega)
  have rp := RS_prl hWp hk hx (by omega)
  have r0 : RS A (pG A (prd A + nl x)) := RS_long rfl (pG_msk A _) (by simp [pG, aL, drn]) (by simp [pG, aL, pits])
  have r := r0.trans rp
  have l0 : lst (pG A (prd A + nl x)) = lst A := by simp [pG, aL, lst]
  have e : nl (wat (PO A c x)) + lst (PO A c x) = nl (wat A) + lst A + nl x := by
    show nl (wat (prl prN (pG A (prd A + nl x)) (lk A c) x)) + lst (prl prN (pG A (prd A + nl x)) (lk A c) x) = _
    rw [p8, l0]
    have q : nl (wat (prl prN (pG A (prd A + nl x)) (lk A c) x)) + nl (pr prN (pG A (prd A + nl x)) (lk A c) x).2 = nl (wat A) + nl x := by rw [nl_add, nl_add, p2, g2]
    rw [Int64.add_comm (lst A), ← Int64.add_assoc, q, i64_rc]
  refine ⟨⟨p1, ⟨by show wat (prl prN (pG A (prd A + nl x)) (lk A c) x) ≤ _; omega, ?_⟩, ?_, ?_⟩, r, e, p3⟩
  · exact BS_ge p4 p5 p6 p7 (BS_pG _ hwb.2)
  · exact SEA_of (A := A) r.1.nn.symm (p6.trans (by simp [pG, aL, bas])) r.2.1 hs'
  · rw [e]
    show prd (prl prN (pG A (prd A + nl x)) (lk A c) x) = _ + gon (prl prN (pG A (prd A + nl x)) (lk A c) x)
    rw [p9, p10]
    show prd (pG A (prd A + nl x)) = _ + gon (pG A (prd A + nl x))
    have a1 : prd (pG A (prd A + nl x)) = prd A + nl x := by simp [pG, aL, prd]
    have a2 : gon (pG A (prd A + nl x)) = gon A := by simp [pG, aL, gon]
    rw [a1, a2, hb, i64_rc]
noncomputable def EV (A : Ab) (r : Nat) : Ab := dG (evA r A) (gon A + nl (evS r A))
theorem GI_EV {A : Ab} (hA : GI A) (r : Nat) : GI (EV A r) ∧ GE A (EV A r) ∧ wat (EV A r) = wat A - evS r A := by
  obtain ⟨hW, hwb, hs', hb⟩ := hA
  obtain ⟨e1, e2, e3, e4⟩ := evA_ok hW r
  obtain ⟨g1, g2, g3⟩ := dG_WF (A := evA r A) (gon A + nl (evS r A))
  have hge : GE A (EV A r) := e3.1.trans (dG_ge _ _)
  have hwt : wat (EV A r) = wat A - evS r A := g2.trans e2
  have h1 := hwb.1
  refine ⟨⟨g1 e1, ⟨by rw [hwt]; omega, BS_dG _ (BS_KP e3 hwb.2)⟩, ?_, ?_⟩, hge, hwt⟩
  · refine SEA_of (A := A) hge.nn.symm ?_ (fun c => ?_) hs'
    · show bas (dG (evA r A) (gon A + nl (evS r A))) = bas A
      rw [show bas (dG (evA r A) (gon A + nl (evS r A))) = bas (evA r A) from by simp [dG, aL, bas], e3.2.2.1]
    · rw [SE_evA hW r c]
      show _ ↔ lk (dG (evA r A) (gon A + nl (evS r A))) c = -1
      rw [g3]
  · rw [hwt]
    have a1 : prd (EV A r) = prd A := by
      show prd (dG (evA r A) (gon A + nl (evS r A))) = prd A
      rw [show prd (dG (evA r A) (gon A + nl (evS r A))) = prd (evA r A) from by simp [dG, aL, prd], e3.2.2.2.2.2.2]
    have a2 : lst (EV A r) = lst A := by
      show lst (dG (evA r A) (gon A + nl (evS r A))) = lst A
      rw [show lst (dG (evA r A) (gon A + nl (evS r A))) = lst (evA r A) from by simp [dG, aL, lst], e3.2.2.2.2.1]
    have a3 : gon (EV A r) = gon A + nl (evS r A) := by simp [EV, dG, aL, gon]
    rw [a1, a2, a3, hb, ← nl_sub, Int64.add_comm (gon A), ← Int64.add_assoc]
    congr 1
    rw [i64_rc, Int64.sub_add_cancel]
