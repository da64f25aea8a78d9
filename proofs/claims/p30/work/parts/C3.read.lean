/-! C3.read: the text that tells wrote, read again -/
def LTx (l : List Int) : Nat → Int := fun i => l.getD i 0
theorem tchL (l : List Int) (k : Nat) : tch (LTx l) (l.length : Int) (k : Int) = l.getD k (-1) := by
  unfold tch LTx
  rw [List.getD_eq_getElem?_getD, List.getD_eq_getElem?_getD]
  by_cases z : k < l.length
  · rw [if_pos (by omega), Int.toNat_natCast, List.getElem?_eq_getElem z]; rfl
  · rw [if_neg (by omega), List.getElem?_eq_none (by omega)]; rfl
theorem tchA {a b : List Int} {p : Int} (j : Nat) (hp : p = (a.length : Int) + j) : tch (LTx (a ++ b)) ((a ++ b).length : Int) p = b.getD j (-1) := by
  rw [hp, show (a.length : Int) + j = ((a.length + j : Nat) : Int) by omega, tchL, getD_r (by omega), show a.length + j - a.length = j by omega]
theorem num_ok {a b : List Int} {v p : Int} (hv : 0 ≤ v ∧ v ≤ 99) (hb : ¬ dgt (b.getD 0 (-1))) (hp : p = (a.length : Int)) : nmo (LTx (a ++ (digs v ++ b))) ((a ++ (digs v ++ b)).length : Int) p ∧ nmx (LTx (a ++ (digs v ++ b))) ((a ++ (digs v ++ b)).length : Int) p = v ∧ nmp (LTx (a ++ (digs v ++ b))) ((a ++ (digs v ++ b)).length : Int) p = p + ((digs v).length : Int) := by
  have c0 := tchA (a := a) (b := digs v ++ b) (p := p) 0 (by omega)
  have c1 := tchA (a := a) (b := digs v ++ b) (p := p + 1) 1 (by omega)
  have c2 := tchA (a := a) (b := digs v ++ b) (p := p + 2) 2 (by omega)
  by_cases q : v < 10
  · have ed : digs v = [48 + v] := by unfold digs; rw [if_pos q]
    have d0 : (digs v ++ b).getD 0 (-1) = 48 + v := by rw [ed]; rfl
    have d1 : (digs v ++ b).getD 1 (-1) = b.getD 0 (-1) := by rw [ed]; rfl
    rw [d0] at c0
    rw [d1] at c1
    have hk : nmk (LTx (a ++ (digs v ++ b))) ((a ++ (digs v ++ b)).length : Int) p = 1 := by
      unfold nmk
      rw [c0, c1, if_pos (by omega), if_neg hb]
    refine ⟨⟨by rw [hk]; omega, by rw [hk]; show ¬ dgt (tch _ _ (p + 1)); rw [c1]; exact hb⟩, ?_, ?_⟩
    · unfold nmx
      rw [hk]
      simp only [nmv]
      rw [show p + ((0 : Nat) : Int) = p by omega, c0]
      omega
    · unfold nmp
      rw [hk, ed]
      rfl
  · have ed : digs v = [48 + v / 10, 48 + v % 10] := by unfold digs; rw [if_neg q]
    have d0 : (digs v ++ b).getD 0 (-1) = 48 + v / 10 := by rw [ed]; rfl
    have d1 : (digs v ++ b).getD 1 (-1) = 48 + v % 10 := by rw [ed]; rfl
    have d2 : (digs v ++ b).getD 2 (-1) = b.getD 0 (-1) := by rw [ed]; rfl
    rw [d0] at c0
    rw [d1] at c1
    rw [d2] at c2
    have hk : nmk (LTx (a ++ (digs v ++ b))) ((a ++ (digs v ++ b)).length : Int) p = 2 := by
      unfold nmk
      rw [c0, c1, if_pos (by omega), if_pos (by omega)]
    refine ⟨⟨by rw [hk]; omega, by rw [hk]; show ¬ dgt (tch _ _ (p + 2)); rw [c2]; exact hb⟩, ?_, ?_⟩
    · unfold nmx
      rw [hk]
      simp only [nmv]
      rw [show p + ((0 : Nat) : Int) = p by omega, show p + ((0 + 1 : Nat) : Int) = p + 1 by omega, c0, c1]
      omega
    · unfold nmp
      rw [hk, ed]
      rfl
theorem hts_split (A : Ab) {i : Nat} : ∀ N : Nat, i < N → ∃ r, hts A N = hts A i ++ (((if i = 0 then 58 else 44) :: digs (ht A i)) ++ r) ∧ (r = [] ∨ r.getD 0 (-1) = 44) := by
  intro N
  induction N with
  | zero => intro h; omega
  | succ N ih =>
    intro h
    by_cases e : i = N
    · subst e
      exact ⟨[], by simp [hts], Or.inl rfl⟩
    · obtain ⟨r, h1, h2⟩ := ih (by omega)
      refine ⟨r ++ ((if N = 0 then 58 else 44) :: digs (ht A N)), by simp [hts, h1], Or.inr ?_⟩
      rcases h2 with rfl | h2
      · simp; omega
      · cases r with
        | nil => simp at h2
        | cons x r => simpa using h2
theorem drs_split (A : Ab) {i : Nat} (hd : hs (drn A) (i : Int) = true) : ∀ N : Nat, i < N → ∃ r, drs A N = drs A i ++ ((59 :: 100 :: digs i) ++ r) ∧ (r = [] ∨ r.getD 0 (-1) = 59) := by
  intro N
  induction N with
  | zero => intro h; omega
  | succ N ih =>
    intro h
    by_cases e : i = N
    · subst e
      exact ⟨[], by simp [drs, hd], Or.inl rfl⟩
    · obtain ⟨r, h1, h2⟩ := ih (by omega)
      by_cases z : hs (drn A) (N : Int) = true
      · refine ⟨r ++ (59 :: 100 :: digs N), by simp [drs, h1, z], Or.inr ?_⟩
        rcases h2 with rfl | h2
        · simp
        · cases r with
          | nil => simp at h2
          | cons x r => simpa using h2
      · exact ⟨r, by simp [drs, h1, z], h2⟩
theorem drs_head (A : Ab) (N : Nat) : drs A N = [] ∨ (drs A N).getD 0 (-1) = 59 := by
  induction N with
  | zero => exact Or.inl rfl
  | succ N ih =>
    by_cases z : hs (drn A) (N : Int) = true
    · right
      rcases ih with e | e
      · simp [drs, z, e]
      · cases h : drs A N with
        | nil => rw [h] at e; simp at e
        | cons x r => rw [h] at e; simp [drs, z, h] at e ⊢; exact e
    · simpa [drs, z] using ih
def sth (X A : Ab) : Nat → Ab
  | 0 => X
  | i + 1 => aI (sth X A i) 1 (i : Int) (ht A i)
def std (X A : Ab) : Nat → Ab
  | 0 => X
  | i + 1 => if hs (drn A) i = true then aL (std X A i) 0 0 (drn (std X A i) ||| sbit i) else std X A i
theorem sth_at (X A : Ab) (N : Nat) : (sth X A N).2 = X.2 ∧ (∀ f, f ≠ 1 → (sth X A N).1 f = X.1 f) ∧ ∀ c : Int, ht (sth X A N) c = if 0 ≤ c ∧ c < N then ht A c else ht X c := by
  induction N with
  | zero => exact ⟨rfl, fun _ _ => rfl, fun c => by rw [if_neg (by omega)]; rfl⟩
  | succ N ih =>
    obtain ⟨h1, h2, h3⟩ := ih
    refine ⟨h1, fun f hf => ?_, fun c => ?_⟩
    · rw [← h2 f hf]
      funext j
      show (if f = 1 ∧ j = (N : Int) then _ else _) = _
      rw [if_neg (fun z => hf z.1)]
    · show (if (1 : Nat) = 1 ∧ c = (N : Int) then ht A N else ht (sth X A N) c) = _
      by_cases e : c = N
      · rw [if_pos ⟨rfl, e⟩, if_pos (by omega), e]
      · rw [if_neg (fun z => e z.2), h3]
        by_cases z : 0 ≤ c ∧ c < (N : Int)
        · rw [if_pos z, if_pos (by omega)]
        · rw [if_neg z, if_neg (by omega)]
theorem std_at (X A : Ab) (N : Nat) (hN : N ≤ 36) : (std X A N).1 = X.1 ∧ ∀ d : Int, hs (drn (std X A N)) d = (hs (drn X) d || (decide (0 ≤ d ∧ d < N) && hs (drn A) d)) := by
  induction N with
  | zero => exact ⟨rfl, fun d => by rw [decide_eq_false (by omega)]; simp [std]⟩
  | succ N ih =>
    obtain ⟨h1, h2⟩ := ih (by omega)
    simp only [std]
    by_cases z : hs (drn A) (N : Int) = true
    · rw [if_pos z]
      refine ⟨h1, fun d => ?_⟩
      show hs (drn (std X A N) ||| sbit N) d = _
      rw [hs_or, h2, hs_bit (by omega) (by omega), Bool.or_assoc]
      congr 1
      by_cases e : d = (N : Int)
      · rw [e, z, decide_eq_true (show (N : Int) = N from rfl), decide_eq_true (show 0 ≤ (N : Int) ∧ (N : Int) < ((N + 1 : Nat) : Int) by omega)]
        simp
      · rw [decide_eq_false e, Bool.or_false, show decide (0 ≤ d ∧ d < (N : Int)) = decide (0 ≤ d ∧ d < ((N + 1 : Nat) : Int)) by rw [decide_eq_decide]; omega]
    · rw [if_neg z]
      refine ⟨h1, fun d => ?_⟩
      rw [h2]
      congr 1
      by_cases e : d = (N : Int)
      · rw [e]
        simp only [Bool.not_eq_true] at z
        rw [z]; simp
      · rw [show decide (0 ≤ d ∧ d < (N : Int)) = decide (0 ≤ d ∧ d < ((N + 1 : Nat) : Int)) by rw [decide_eq_decide]; omega]
def posI (A : Ab) (i : Nat) : Int := if i = 0 then 3 else 2 + ((hts A i).length : Int)
theorem not_dgt {x : Int} (h : x = -1 ∨ x = 44 ∨ x = 59) : ¬ dgt x := by
  unfold dgt
  omega
theorem hd_of {r s : List Int} (h1 : r = [] ∨ r.getD 0 (-1) = 44) (h2 : s = [] ∨ s.getD 0 (-1) = 59) : ¬ dgt ((r ++ s).getD 0 (-1)) := by
  rcases h1 with rfl | h1
  · rcases h2 with rfl | h2
    · exact not_dgt (Or.inl rfl)
    · exact not_dgt (Or.inr (Or.inr h2))
  · cases r with
    | nil => simp at h1
    | cons x r => exact not_dgt (Or.inr (Or.inl (by simpa using h1)))
theorem rd_hts {A X : Ab} (g : WFg A) : ∀ i : Nat, i ≤ (nn A).toNat → hsS (LTx (txt A)) ((txt A).length : Int) 3 X i = (posI A i, -1, sth X A i) := by
  have hn := nn_bd g
  intro i
  induction i with
  | zero => intro _; rfl
  | succ i ih =>
    intro hi
    have h0 := ih (by omega)
    simp only [hsS]
    rw [h0]
    dsimp only
    rw [if_pos rfl]
    obtain ⟨r, h1, h2⟩ := hts_split A (i := i) (nn A).toNat (by omega)
    have hb := ht_bd g (show (0 : Int) ≤ i by omega) (show (i : Int) < 36 by omega)
    have hnd := hd_of h2 (drs_head A (nn A).toNat)
    unfold htS
    by_cases z : i = 0
    · subst z
      have et : txt A = [48 + wd A, 48 + hg A, 58] ++ (digs (ht A ((0 : Nat) : Int)) ++ (r ++ drs A (nn A).toNat)) := by
        unfold txt
        rw [h1]
        simp [hts]
      obtain ⟨k1, k2, k3⟩ := num_ok (a := [48 + wd A, 48 + hg A, 58]) (p := 3) hb hnd rfl
      rw [← et] at k1 k2 k3
      rw [if_neg (fun y => y.1 rfl), if_pos rfl]
      rw [show posI A 0 = 3 from rfl, if_pos k1, k2, k3]
      refine Prod.ext ?_ rfl
      show 3 + ((digs (ht A ((0 : Nat) : Int))).length : Int) = posI A 1
      unfold posI
      rw [if_neg (by omega)]
      simp [hts]
      omega
    · have et : txt A = ([48 + wd A, 48 + hg A] ++ hts A i) ++ (44 :: (digs (ht A (i : Int)) ++ (r ++ drs A (nn A).toNat))) := by
        unfold txt
        rw [h1, if_neg z]
        simp
      have et2 : txt A = (([48 + wd A, 48 + hg A] ++ hts A i) ++ [44]) ++ (digs (ht A (i : Int)) ++ (r ++ drs A (nn A).toNat)) := by
        rw [et]; simp
      have hp : posI A i = (([48 + wd A, 48 + hg A] ++ hts A i).length : Int) := by
        unfold posI
        rw [if_neg z]
        simp
        omega
      have c0 := tchA (a := [48 + wd A, 48 + hg A] ++ hts A i) (b := 44 :: (digs (ht A (i : Int)) ++ (r ++ drs A (nn A).toNat))) (p := posI A i) 0 (by rw [hp]; omega)
      rw [← et] at c0
      obtain ⟨k1, k2, k3⟩ := num_ok (a := ([48 + wd A, 48 + hg A] ++ hts A i) ++ [44]) (p := posI A i + 1) hb hnd (by rw [hp]; simp)
      rw [← et2] at k1 k2 k3
      rw [if_neg (fun y => y.2 c0), if_neg z, if_pos k1, k2, k3]
      refine Prod.ext ?_ rfl
      show posI A i + 1 + ((digs (ht A (i : Int))).length : Int) = posI A (i + 1)
      unfold posI
      rw [if_neg z, if_neg (by omega)]
      simp only [hts, List.length_append, List.length_cons]
      omega
/-- the drains, one item each -/
theorem rd_drs {A X : Ab} (hn : nn A ≤ 36) (hX : nn X = nn A) : ∀ m : Nat, m ≤ (nn A).toNat → ∃ k : Nat, k ≤ m ∧ itS (LTx (txt A)) ((txt A).length : Int) (2 + ((hts A (nn A).toNat).length : Int), -1, X) k = (2 + ((hts A (nn A).toNat).length : Int) + ((drs A m).length : Int), -1, std X A m) := by
  intro m
  induction m with
  | zero => intro _; exact ⟨0, Nat.le_refl _, by simp [itS, drs, std]⟩
  | succ m ih =>
    intro hm
    obtain ⟨k, hk, e⟩ := ih (by omega)
    by_cases z : hs (drn A) (m : Int) = true
    · refine ⟨k + 1, by omega, ?_⟩
      obtain ⟨r, h1, h2⟩ := drs_split A z (nn A).toNat (by omega)
      have hd : ¬ dgt (r.getD 0 (-1)) := by
        rcases h2 with rfl | h2
        · exact not_dgt (Or.inl rfl)
        · exact not_dgt (Or.inr (Or.inr h2))
      have et : txt A = (([48 + wd A, 48 + hg A] ++ hts A (nn A).toNat) ++ drs A m) ++ (59 :: 100 :: (digs (m : Int) ++ r)) := by
        unfold txt
        rw [h1]; simp
      have et2 : txt A = ((([48 + wd A, 48 + hg A] ++ hts A (nn A).toNat) ++ drs A m) ++ [59, 100]) ++ (digs (m : Int) ++ r) := by
        rw [et]; simp
      generalize hp : 2 + ((hts A (nn A).toNat).length : Int) + ((drs A m).length : Int) = p at e
      have hpl : p = ((([48 + wd A, 48 + hg A] ++ hts A (nn A).toNat) ++ drs A m).length : Int) := by simp; omega
      have c0 := tchA (a := ([48 + wd A, 48 + hg A] ++ hts A (nn A).toNat) ++ drs A m) (b := 59 :: 100 :: (digs (m : Int) ++ r)) (p := p) 0 (by rw [hpl]; omega)
      have c1 := tchA (a := ([48 + wd A, 48 + hg A] ++ hts A (nn A).toNat) ++ drs A m) (b := 59 :: 100 :: (digs (m : Int) ++ r)) (p := p + 1) 1 (by rw [hpl]; omega)
      rw [← et] at c0 c1
      have c0 : tch (LTx (txt A)) ((txt A).length : Int) p = 59 := c0
      have c1 : tch (LTx (txt A)) ((txt A).length : Int) (p + 1) = 100 := c1
      obtain ⟨k1, k2, k3⟩ := num_ok (a := (([48 + wd A, 48 + hg A] ++ hts A (nn A).toNat) ++ drs A m) ++ [59, 100]) (b := r) (v := (m : Int)) (p := p + 2) (by omega) hd (by rw [hpl]; simp; omega)
      rw [← et2] at k1 k2 k3
      have hlt : p < ((txt A).length : Int) := by
        rw [et]; simp; omega
      have hnX : nn (std X A m) = nn X := by
        have := (std_at X A m (by omega)).1
        show (std X A m).1 0 0 * (std X A m).1 0 1 = _
        rw [this]
        rfl
      simp only [itS]
      rw [e]
      dsimp only
      rw [if_pos ⟨rfl, hlt⟩]
      unfold enS drS
      rw [if_pos c0, if_pos c1, if_pos k1, k2, k3, if_pos (by rw [hnX, hX]; omega)]
      refine Prod.ext ?_ (Prod.ext rfl ?_)
      · show p + 2 + ((digs (m : Int)).length : Int) = _
        rw [← hp]
        simp [drs, z]
        omega
      · show _ = std X A (m + 1)
        simp only [std]
        rw [if_pos z]
    · refine ⟨k, by omega, ?_⟩
      rw [e]
      simp [drs, std, z]
theorem rd_txt {A : Ab} (g : WFg A) (hw : wd A ≤ 6 ∧ hg A ≤ 6) : rdS (LTx (txt A)) ((txt A).length : Int) = (((txt A).length : Int), -1, std (sth (fnd (G0 (wd A) (hg A))) A (nn A).toNat) A (nn A).toNat) := by
  have hn := nn_bd g
  have g1 := g.1
  have g2 := g.2.1
  obtain ⟨r, h1, h2⟩ := hts_split A (i := 0) (nn A).toNat (by omega)
  have et : txt A = [] ++ ((48 + wd A) :: (48 + hg A) :: 58 :: (digs (ht A ((0 : Nat) : Int)) ++ (r ++ drs A (nn A).toNat))) := by
    unfold txt
    rw [h1]
    simp [hts]
  have c0 := tchA (a := []) (b := (48 + wd A) :: (48 + hg A) :: 58 :: (digs (ht A ((0 : Nat) : Int)) ++ (r ++ drs A (nn A).toNat))) (p := 0) 0 (by simp)
  have c1 := tchA (a := []) (b := (48 + wd A) :: (48 + hg A) :: 58 :: (digs (ht A ((0 : Nat) : Int)) ++ (r ++ drs A (nn A).toNat))) (p := 1) 1 (by simp)
  have c2 := tchA (a := []) (b := (48 + wd A) :: (48 + hg A) :: 58 :: (digs (ht A ((0 : Nat) : Int)) ++ (r ++ drs A (nn A).toNat))) (p := 2) 2 (by simp)
  rw [← et] at c0 c1 c2
  have c0' : tch (LTx (txt A)) ((txt A).length : Int) 0 = 48 + wd A := c0
  have c1' : tch (LTx (txt A)) ((txt A).length : Int) 1 = 48 + hg A := c1
  have c2' : tch (LTx (txt A)) ((txt A).length : Int) 2 = 58 := c2
  unfold rdS
  rw [c0', c1', c2', if_pos (by omega), if_pos (by omega), if_pos rfl, show 48 + wd A - 48 = wd A by omega, show 48 + hg A - 48 = hg A by omega]
  show itS _ _ (hsS _ _ 3 _ (nn A).toNat) 150 = _
  rw [rd_hts g (nn A).toNat (Nat.le_refl _)]
  have hp : posI A (nn A).toNat = 2 + ((hts A (nn A).toNat).length : Int) := by
    unfold posI
    rw [if_neg (by omega)]
  rw [hp]
  have hX : nn (sth (fnd (G0 (wd A) (hg A))) A (nn A).toNat) = nn A := by
    have := (sth_at (fnd (G0 (wd A) (hg A))) A (nn A).toNat).2.1 0 (by decide)
    show (sth _ A _).1 0 0 * (sth _ A _).1 0 1 = _
    rw [this]
    show nn (fnd (G0 (wd A) (hg A))) = nn A
    rw [fnd_nn, G0_nn]
    rfl
  obtain ⟨k, hk, e⟩ := rd_drs (A := A) (by omega) hX (nn A).toNat (Nat.le_refl _)
  have hlen : 2 + ((hts A (nn A).toNat).length : Int) + ((drs A (nn A).toNat).length : Int) = ((txt A).length : Int) := by
    unfold txt
    simp
    omega
  rw [hlen] at e
  have st := itS_stop (T := LTx (txt A)) (n := ((txt A).length : Int)) (s := (2 + ((hts A (nn A).toNat).length : Int), -1, sth (fnd (G0 (wd A) (hg A))) A (nn A).toNat)) (i := k) (by rw [e]; exact fun z => absurd z.2 (by simp)) (150 - k)
  rw [show k + (150 - k) = 150 by omega] at st
  rw [st, e]
