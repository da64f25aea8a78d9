/-! C2.text: the text of an object; the law's number and tells say 1 -/
def TXL (M : Mem) (l : List Int) : Prop := l.length ≤ 150 ∧ gI M 94 1 = ni (l.length : Int) ∧ ∀ i, i < l.length → fAtI 95 (ni (i : Int)) M = ni (l.getD i 0)
def OKB (l : List Int) : Prop := ∀ i, i < l.length → 0 ≤ l.getD i 0 ∧ l.getD i 0 ≤ 127
theorem getD_l {a b : List Int} {i : Nat} {d : Int} (h : i < a.length) : (a ++ b).getD i d = a.getD i d := by
  rw [List.getD_eq_getElem?_getD, List.getD_eq_getElem?_getD, List.getElem?_append_left h]
theorem getD_r {a b : List Int} {i : Nat} {d : Int} (h : a.length ≤ i) : (a ++ b).getD i d = b.getD (i - a.length) d := by
  rw [List.getD_eq_getElem?_getD, List.getD_eq_getElem?_getD, List.getElem?_append_right h]
theorem IC_tx {M M' : Mem} {A : Ab} {nx cnt : Int} {P : Nat → Prop} (h : IC M A nx cnt) (f : Fr P M M') (hP : ∀ p, P p → 47 ≤ p ∧ p < 97) : IC M' A nx cnt :=
  IC_fr h f (fun z => by have := hP 0 z; omega) (RW_fr h.1 f (fun p x y z => by have := hP p z; omega)) h.2.1
theorem k_clear {M : Mem} {A : Ab} {nx cnt : Int} (h : IC M A nx cnt) : ∃ r M', LL_clearText M = some (r, M') ∧ r = gI M 94 1 ∧ IC M' A nx cnt ∧ TXL M' [] := by
  have f : Fr (fun p => p = 94) M (sI M 94 1 (0 : Int32)) := Fr.sI rfl
  exact ⟨_, _, rfl, rfl, IC_tx h f (fun p hp => by omega), by simp, sI_eq _ _ _ _, fun i hi => by simp at hi⟩
theorem k_append {M : Mem} {A : Ab} {nx cnt : Int} (h : IC M A nx cnt) {l : List Int} (hT : TXL M l) (hl : l.length < 150) {v : Int} (hv : 0 ≤ v ∧ v ≤ 127) : ∃ M', LL_append (ni v) M = some (.inl (ni ((l.length : Int) + 1)), M') ∧ IC M' A nx cnt ∧ TXL M' (l ++ [v]) := by
  obtain ⟨t1, t2, t3⟩ := hT
  have f : Fr (fun p => p = 94 ∨ p = 96) M (sI (fPutI 95 (ni (l.length : Int)) (ni v) M) 94 1 (ni ((l.length : Int) + 1))) := (Fr.put (P := fun p => p = 94 ∨ p = 96) (Or.inr rfl)).trans (Fr.sI (P := fun p => p = 94 ∨ p = 96) (Or.inl rfl))
  have h1 : gI (fPutI 95 (ni (l.length : Int)) (ni v) M) 94 1 = ni (l.length : Int) := by
    rw [(Fr.put (o := 95) (i := ni (l.length : Int)) (v := ni v) (M := M) (P := fun p => p = 96) rfl).gI (by omega)]; exact t2
  refine ⟨sI (fPutI 95 (ni (l.length : Int)) (ni v) M) 94 1 (ni ((l.length : Int) + 1)), ?_, IC_tx h f (fun p hp => by omega), by simp; omega, ?_, fun i hi => ?_⟩
  · unfold LL_append
    rw [show (0 : Int32) = ni 0 from rfl, show (127 : Int32) = ni 127 from rfl, k_in (by omega) hv (by omega) (by omega), bx_l, t2, show (150 : Int32) = ni 150 from rfl, if_pos (by rw [ni_lt (by omega) (by omega) (by omega) (by omega)]; omega)]
    unfold LT_add
    rw [b2_s, t2, h1, show (1 : Int32) = ni 1 from rfl, ni_add, sI_eq]
  · rw [sI_eq]; simp
  · have e : fAtI 95 (ni (i : Int)) (sI (fPutI 95 (ni (l.length : Int)) (ni v) M) 94 1 (ni ((l.length : Int) + 1))) = fAtI 95 (ni (i : Int)) (fPutI 95 (ni (l.length : Int)) (ni v) M) := (Fr.sI (o := 94) (k := 1) (v := ni ((l.length : Int) + 1)) (P := fun p => p = 94) rfl).at (by omega) _
    rw [List.length_append, List.length_singleton] at hi
    rw [e, fAtI_put (n := 150) (by decide +kernel) (by omega) (by omega) (by omega) (by omega) (by omega)]
    by_cases z : i < l.length
    · rw [if_neg (by omega), t3 i z, getD_l z]
    · have : i = l.length := by omega
      subst this
      rw [if_pos ⟨rfl, rfl⟩, getD_r (Nat.le_refl _), Nat.sub_self]
      rfl
/-- a number of one or two digits -/
def digs (v : Int) : List Int := if v < 10 then [48 + v] else [48 + v / 10, 48 + v % 10]
theorem digs_len (v : Int) : 1 ≤ (digs v).length ∧ (digs v).length ≤ 2 := by
  unfold digs
  split <;> simp
theorem w_number {Q : Mem2} {A : Ab} {nx cnt : Int} (h : IC Q.2 A nx cnt) {l : List Int} (hT : TXL Q.2 l) (hl : l.length + 2 ≤ 150) {v : Int} (hv : 0 ≤ v ∧ v ≤ 99) : ∃ M', LW_number (ni v) Q = some ((1 : Int32), (Q.1, M')) ∧ IC M' A nx cnt ∧ TXL M' (l ++ digs v) := by
  have hlen := hT.1
  have tail : ∀ (M : Mem) (l : List Int), IC M A nx cnt → TXL M l → l.length + 1 ≤ 150 → ∃ M', LW_number_J20 (ni v) (Q.1, M) = some ((1 : Int32), (Q.1, M')) ∧ IC M' A nx cnt ∧ TXL M' (l ++ [48 + v % 10]) := by
    intro M l hI hT hl
    obtain ⟨M', e1, e2, e3⟩ := k_append hI hT (by omega) (v := 48 + v % 10) (by omega)
    refine ⟨M', ?_, e2, e3⟩
    unfold LW_number_J20
    rw [show (48 : Int32) = ni 48 from rfl, show (10 : Int32) = ni 10 from rfl, ni_irm (by omega) (by omega) (by omega) (by omega), ni_add, e1, bo_s, if_neg (by rw [show (0 : Int32) = ni 0 from rfl, ni_le (by omega) (by omega) (by omega) (by omega)]; omega)]
    rfl
  unfold LW_number digs
  by_cases q : v < 10
  · obtain ⟨M', e1, e2, e3⟩ := tail Q.2 l h hT (by omega)
    rw [if_pos (by rw [show (10 : Int32) = ni 10 from rfl, ni_lt (by omega) (by omega) (by omega) (by omega)]; exact q), if_pos q]
    rw [show v % 10 = v by omega] at e3
    exact ⟨M', e1, e2, e3⟩
  · obtain ⟨M1, d1, d2, d3⟩ := k_append h hT (by omega) (v := 48 + v / 10) (by omega)
    obtain ⟨M', e1, e2, e3⟩ := tail M1 _ d2 d3 (by simp; omega)
    rw [if_neg (by rw [show (10 : Int32) = ni 10 from rfl, ni_lt (by omega) (by omega) (by omega) (by omega)]; exact q), if_neg q]
    refine ⟨M', ?_, e2, by rw [List.append_assoc] at e3; exact e3⟩
    rw [show (48 : Int32) = ni 48 from rfl, show (10 : Int32) = ni 10 from rfl, ni_div (by omega) (by omega) (by omega) (by omega), ni_add, d1, bo_s, if_neg (by rw [show (0 : Int32) = ni 0 from rfl, ni_le (by omega) (by omega) (by omega) (by omega)]; omega)]
    exact e1
/-- the heights' part and the drains' part of the text -/
def hts (A : Ab) : Nat → List Int
  | 0 => []
  | i + 1 => hts A i ++ ((if i = 0 then 58 else 44) :: digs (ht A i))
def drs (A : Ab) : Nat → List Int
  | 0 => []
  | i + 1 => drs A i ++ (if hs (drn A) i = true then 59 :: 100 :: digs i else [])
theorem hts_len (A : Ab) (i : Nat) : (hts A i).length ≤ 3 * i := by
  induction i with
  | zero => simp [hts]
  | succ i ih =>
    have := (digs_len (ht A i)).2
    simp only [hts, List.length_append, List.length_cons]
    omega
theorem drs_len (A : Ab) (i : Nat) : ((drs A i).length : Int) ≤ 4 * ct i (fun c => hs (drn A) c) := by
  induction i with
  | zero => simp [drs, ct, sm]
  | succ i ih =>
    have := (digs_len (i : Int)).2
    rw [ct_succ]
    simp only [drs, List.length_append]
    split
    · simp only [List.length_cons]
      omega
    · simp only [List.length_nil]
      omega
def txt (A : Ab) : List Int := ([48 + wd A, 48 + hg A] ++ hts A (nn A).toNat) ++ drs A (nn A).toNat
theorem w_tells {Q : Mem2} {A P : Ab} {nx cnt nx2 cnt2 : Int} {W H : Int} (h : IC Q.1 A nx cnt) (h2 : IC Q.2 P nx2 cnt2) (g : GRD A W H 3) (hW : 1 ≤ W ∧ W ≤ 5) (hH : 1 ≤ H ∧ H ≤ 5) (ht0 : 0 ≤ (gI Q.2 94 1).toInt) : ∃ M', LW_tells Q = some ((1 : Int32), (Q.1, M')) ∧ IC M' P nx2 cnt2 ∧ TXL M' (txt A) := by
  obtain ⟨⟨gw, gh⟩, g2, g3, g4, g5⟩ := g
  have hnn : nn A = W * H := by show wd A * hg A = _; rw [gw, gh]
  have hWH : nn A ≤ 25 := by
    have := Int.mul_le_mul (show W ≤ 5 by omega) (show H ≤ 5 by omega) (by omega) (by omega)
    omega
  have hn := nn_bd h.2.1.1.1
  obtain ⟨n0, n1, n2, n3, n4, n5⟩ := kn h
  obtain ⟨r0, M0, c1, c2, c3, c4⟩ := k_clear h2
  obtain ⟨M1, a1, a2, a3⟩ := k_append c3 c4 (by simp) (v := 48 + wd A) (by omega)
  obtain ⟨M2, b1, b2, b3⟩ := k_append a2 a3 (by simp) (v := 48 + hg A) (by omega)
  have hone : ∀ i : Nat, ni (i : Int) + (1 : Int32) = ni ((i + 1 : Nat) : Int) := fun i => by rw [show (1 : Int32) = ni 1 from rfl, ni_add]; rfl
  obtain ⟨r3, Q3, l1, rfl, l2, l3, l4⟩ := lpQ_to (f := fun s M9 => LW_tells_L58 (ni (nn A)) s.1 s.2 M9) (nn A).toNat (by omega) (fun i s M => s = ((1 : Int32), ni (i : Int)) ∧ M.1 = Q.1 ∧ IC M.2 P nx2 cnt2 ∧ TXL M.2 ([48 + wd A, 48 + hg A] ++ hts A i)) (fun r M => r = (1 : Int32) ∧ M.1 = Q.1 ∧ IC M.2 P nx2 cnt2 ∧ TXL M.2 ([48 + wd A, 48 + hg A] ++ hts A (nn A).toNat)) (by
    rintro i hi s ⟨Mo, Mp⟩ ⟨rfl, q1, q2, q3⟩
    dsimp only at q1 q2 q3
    subst q1
    have hq := q3.1
    have hl := hts_len A i
    have hb := ht_bd h.2.1.1.1 (show (0 : Int) ≤ i by omega) (show (i : Int) < 36 by omega)
    have hch : (if ¬ ni (i : Int) = 0 then (44 : Int32) else (58 : Int32)) = ni (if i = 0 then 58 else 44) := by
      by_cases z : i = 0
      · rw [if_pos z, if_neg]; · rfl
        rw [z]; decide
      · rw [if_neg z, if_pos]; · rfl
        rw [show (0 : Int32) = ni 0 from rfl, ni_eq (by omega) (by omega) (by omega) (by omega)]; omega
    obtain ⟨M3, d1, d2, d3⟩ := k_append q2 q3 (by simp; omega) (v := if i = 0 then 58 else 44) (by split <;> omega)
    obtain ⟨M4, e1, e2, e3⟩ := w_number (Q := (Q.1, M3)) d2 d3 (by simp; omega) hb
    refine ⟨((1 : Int32), ni (i : Int) + (1 : Int32)), (Q.1, M4), ?_, by rw [hone], rfl, e2, ?_⟩
    · unfold LW_tells_L58 LW_tells_L58_J81
      dsimp only
      rw [if_neg (by rw [ni_le (by omega) (by omega) (by omega) (by omega)]; omega), if_neg (by decide), hch, d1, bo_s]
      rw [if_neg (by rw [show (0 : Int32) = ni 0 from rfl, ni_le (by omega) (by omega) (by omega) (by omega)]; omega), (kc h (i : Int) (by omega) (by omega)).1, bo_s, e1, bq_s]
      rfl
    · have : [48 + wd A, 48 + hg A] ++ hts A (i + 1) = ([48 + wd A, 48 + hg A] ++ hts A i ++ [if i = 0 then 58 else 44]) ++ digs (ht A i) := by simp [hts]
      rw [this]; exact e3) (by
    rintro s M ⟨rfl, q1, q2, q3⟩
    refine ⟨_, _, ?_, rfl, q1, q2, q3⟩
    unfold LW_tells_L58
    dsimp only
    rw [if_pos (by rw [ni_le (by omega) (by omega) (by omega) (by omega)]; omega)]) (s := ((1 : Int32), (0 : Int32))) (M := (Q.1, M2)) ⟨rfl, rfl, b2, by simpa [hts] using b3⟩
  have hl1 := hts_len A (nn A).toNat
  obtain ⟨r4, Q4, y1, rfl, y2, y3, y4⟩ := lpQ_to (f := fun s M9 => LW_tells_L116 (ni (nn A)) s.1 s.2 M9) (nn A).toNat (by omega) (fun i s M => s = ((1 : Int32), ni (i : Int)) ∧ M.1 = Q.1 ∧ IC M.2 P nx2 cnt2 ∧ TXL M.2 (([48 + wd A, 48 + hg A] ++ hts A (nn A).toNat) ++ drs A i)) (fun r M => r = (1 : Int32) ∧ M.1 = Q.1 ∧ IC M.2 P nx2 cnt2 ∧ TXL M.2 (txt A)) (by
    rintro i hi s ⟨Mo, Mp⟩ ⟨rfl, q1, q2, q3⟩
    dsimp only at q1 q2 q3
    subst q1
    have hq := q3.1
    have hl := drs_len A i
    have hc : ct i (fun c => hs (drn A) (c : Int)) ≤ 3 := by
      rw [← hnn] at g5
      exact Int.le_trans (sm_pre (by omega) (fun _ _ => Int.le_refl _) (fun j _ _ => by split <;> omega)) g5
    have hcell := (kc h (i : Int) (by omega) (by omega)).2.1
    unfold LW_tells_L116
    dsimp only
    rw [if_neg (by rw [ni_le (by omega) (by omega) (by omega) (by omega)]; omega), hcell, bo_s]
    by_cases z : hs (drn A) (i : Int) = true
    · obtain ⟨M3, d1, d2, d3⟩ := k_append q2 q3 (by simp; omega) (v := 59) (by omega)
      obtain ⟨M4, e1, e2, e3⟩ := k_append d2 d3 (by simp; omega) (v := 100) (by omega)
      obtain ⟨M5, f1, f2, f3⟩ := w_number (Q := (Q.1, M4)) e2 e3 (by simp; omega) (v := (i : Int)) (by omega)
      refine ⟨((1 : Int32), ni (i : Int) + (1 : Int32)), (Q.1, M5), ?_, by rw [hone], rfl, f2, ?_⟩
      · rw [z, if_neg (by decide), if_neg (by decide), show (59 : Int32) = ni 59 from rfl, d1, bo_s]
        rw [if_neg (by rw [show (0 : Int32) = ni 0 from rfl, ni_le (by omega) (by omega) (by omega) (by omega)]; omega), show (100 : Int32) = ni 100 from rfl, e1, bo_s]
        rw [if_neg (by rw [show (0 : Int32) = ni 0 from rfl, ni_le (by simp; omega) (by simp; omega) (by omega) (by omega)]; simp; omega), f1, bq_s]
        rfl
      · have : ([48 + wd A, 48 + hg A] ++ hts A (nn A).toNat) ++ drs A (i + 1) = (([48 + wd A, 48 + hg A] ++ hts A (nn A).toNat ++ drs A i ++ [59]) ++ [100]) ++ digs i := by simp [drs, z]
        rw [this]; exact f3
    · refine ⟨((1 : Int32), ni (i : Int) + (1 : Int32)), (Q.1, Mp), ?_, by rw [hone], rfl, q2, ?_⟩
      · rw [bI_f z, if_pos (by decide)]
      · have : drs A (i + 1) = drs A i := by simp [drs, z]
        rw [this]; exact q3) (by
    rintro s M ⟨rfl, q1, q2, q3⟩
    refine ⟨_, _, ?_, rfl, q1, q2, q3⟩
    unfold LW_tells_L116
    dsimp only
    rw [if_pos (by rw [ni_le (by omega) (by omega) (by omega) (by omega)]; omega)]) (s := ((1 : Int32), (0 : Int32))) (M := Q3) ⟨rfl, l2, l3, by simpa [drs] using l4⟩
  refine ⟨Q4.2, ?_, y3, y4⟩
  have hnw : ni (wd A) * ni (hg A) = ni (nn A) := by rw [ni_mul]; rfl
  have hneg : ¬ r0 < 0 := by
    rw [c2]
    intro y
    have := (Int32.lt_iff_toInt_lt).mp y
    have e0 : (0 : Int32).toInt = 0 := by decide
    omega
  unfold LW_tells
  rw [n0, bo_s, n1, bo_s, c1, b2_s, hnw, if_neg hneg, n0, bo_s, show (48 : Int32) = ni 48 from rfl, ni_add, a1, bo_s]
  rw [if_neg (by rw [show (0 : Int32) = ni 0 from rfl, ni_le (by simp) (by simp) (by omega) (by omega)]; simp), n1, bo_s, ni_add, b1, bo_s]
  rw [if_neg (by rw [show (0 : Int32) = ni 0 from rfl, ni_le (by simp) (by simp) (by omega) (by omega)]; simp)]
  unfold LW_tells_J54
  rw [l1, bq_s, y1, bq_s]
  show some ((1 : Int32) &&& 1, Q4) = some (1, (Q.1, Q4.2))
  rw [← y2]
  rfl
