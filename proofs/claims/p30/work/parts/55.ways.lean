/-! 55.ways: plains by one side's list of open cells; where a plain leads -/
def CQ (A : Ab) (c cell : Int) (k : Int) (p o : Int64) (i : Int) : Prop :=
  hs p c = true ∧ (∀ d, hs p d = true → Pl A c d) ∧ (∀ d, hs o d = true → hs p d = true) ∧ pc p = pc o + (k + 1) ∧ hs o cell = false ∧ hs p cell = true ∧
  (∀ d e, hs p d = true → hs o d = false → d ≠ cell → stp1 A d e → hs p e = true) ∧
  (∀ s e, 0 ≤ s → s < i → nb A cell s = e → e ≠ -1 → ht A e = ht A cell → thr A cell e = ht A cell → hs p e = true)
theorem hs_rem {m : Int64} {d : Int} (h0 : 0 ≤ d) (h1 : d < 64) (c : Int) : hs (m &&& (sbit d ^^^ (-1 : Int64))) c = (hs m c && !decide (c = d)) := by
  rw [hs_and]
  by_cases q : 0 ≤ c ∧ c < 64
  · rw [hs_not _ q.1 q.2, hs_bit h0 h1]
  · cases z : hs m c with
    | false => rfl
    | true => have := hs_lt z; omega
theorem c_plainAround {g : Nat} {M : Mem} {A : Ab} (hG : RG g M A) (hT : RT g M A) (w : WFg A) {c : Int} (h0 : 0 ≤ c) (h1 : c < nn A) : WY_plainAround g (ni c) M = some (pl A c) := by
  have hn := nn_bd w
  have hhc := ht_bd w h0 (by omega)
  have inner : ∀ (cell k : Int) (p o : Int64), 0 ≤ cell → cell < nn A → ht A cell = ht A c → Pl A c cell → CQ A c cell k p o 0 → ∃ p' o', lpR (fun s => WY_plainAround_L63 g (ni k) (ni cell) (ni (ht A c)) s.1 s.2.1 s.2.2 M) FUEL (p, o, ni (4 * cell)) = some (p', o') ∧ CQ A c cell k p' o' 4 := by
    intro cell k p o c0 c1 hch hPc hC
    have key : ∃ r, lpR (fun s => WY_plainAround_L63 g (ni k) (ni cell) (ni (ht A c)) s.1 s.2.1 s.2.2 M) FUEL (p, o, ni (4 * cell)) = some r ∧ CQ A c cell k r.1 r.2 4 := by
      refine lpR_wf (fun s => ∃ i : Int, 0 ≤ i ∧ i ≤ 4 ∧ s.2.2 = ni (4 * cell + i) ∧ CQ A c cell k s.1 s.2.1 i) (fun s => 200 - s.2.2.toInt.toNat) _ ?_ FUEL _ ⟨0, by omega, by omega, by rw [Int.add_zero], hC⟩ ?_
      · rintro ⟨p1, o1, s3⟩ ⟨i, i0, i4, rfl, hQ⟩
        dsimp only at hQ ⊢
        unfold WY_plainAround_L63
        simp (disch := omega) only [show (4 : Int32) = ni 4 from rfl, ni_mul, ni_add, ni_le]
        by_cases e4 : i = 4
        · right
          subst e4
          rw [if_pos (by omega)]
          exact ⟨_, rfl, hQ⟩
        · left
          have hmeas : ∀ x y, (200 - ((x, y, ni (4 * cell + (i + 1))) : Int64 × Int64 × Int32).2.2.toInt.toNat) < 200 - ((p1, o1, ni (4 * cell + i)) : Int64 × Int64 × Int32).2.2.toInt.toNat := by
            intro x y
            dsimp only
            rw [ni_toInt (by omega) (by omega), ni_toInt (by omega) (by omega)]
            omega
          have hr := nb_rg (s := i) w c0 c1
          rw [if_neg (by omega), hG.2.2.1 cell i c0 c1 i0 (by omega), hT.1 cell i c0 c1 i0 (by omega)]
          rw [show ni (4 * cell + i) + (1 : Int32) = ni (4 * cell + (i + 1)) by rw [show (1 : Int32) = ni 1 from rfl, ni_add, Int.add_assoc]]
          have hths := ths_bd (s := i) w c0 c1
          simp (disch := omega) only [ni_eq]
          have stay : (hs p1 (nb A cell i) = true ∨ ¬ (nb A cell i ≠ -1 ∧ ht A (nb A cell i) = ht A cell ∧ thr A cell (nb A cell i) = ht A cell)) → CQ A c cell k p1 o1 (i + 1) := by
            intro hst
            obtain ⟨q1, q2, q3, q4, q5, q6, q7, q8⟩ := hQ
            refine ⟨q1, q2, q3, q4, q5, q6, q7, fun s e s0 s1 he n1 n2 n3 => ?_⟩
            by_cases z : s < i
            · exact q8 s e s0 z he n1 n2 n3
            · have : s = i := by omega
              subst this he
              rcases hst with y | y
              · exact y
              · exact absurd ⟨n1, n2, n3⟩ y
          generalize hb : nb A cell i = b at *
          by_cases e1 : ths A cell i = ht A c
          · have hb1 : b ≠ -1 := by
              intro e
              unfold ths at e1
              rw [hb, if_pos e] at e1
              omega
            have hb0 : 0 ≤ b ∧ b < nn A := by omega
            have hthr : thr A cell b = ht A c := by
              unfold ths at e1
              rw [hb, if_neg hb1] at e1
              exact e1
            have hhb := ht_bd w hb0.1 (by omega)
            rw [hG.2.1 b hb0.1 (by omega)]
            simp (disch := omega) only [ni_eq, LL_has_eq, bI_z]
            by_cases e2 : ht A b = ht A c
            · cases e5 : hs p1 b with
              | true =>
                refine ⟨(p1, o1, ni (4 * cell + (i + 1))), ?_, ⟨i + 1, by omega, by omega, rfl, stay (Or.inl e5)⟩, hmeas _ _⟩
                simp [e1, e2]
              | false =>
                refine ⟨(p1 ||| sbit b, o1 ||| sbit b, ni (4 * cell + (i + 1))), ?_, ⟨i + 1, by omega, by omega, rfl, ?_⟩, hmeas _ _⟩
                · simp [e1, e2, LL_bit_eq]
                · obtain ⟨q1, q2, q3, q4, q5, q6, q7, q8⟩ := hQ
                  have ob : hs o1 b = false := by
                    cases z : hs o1 b with
                    | false => rfl
                    | true => rw [q3 b z] at e5; cases e5
                  have bs : ∀ d, (hs (sbit b) d = true) = (d = b) := fun d => by rw [hs_bit hb0.1 (by omega)]; simp
                  have hbc : cell ≠ b := by intro e; rw [← e, q6] at e5; cases e5
                  dsimp only
                  refine ⟨by rw [hs_or, q1]; rfl, fun d hd => ?_, fun d hd => ?_, ?_, ?_, by rw [hs_or, q6]; rfl, fun d e hd ho hne hs' => ?_, fun s e s0 s1 he n1 n2 n3 => ?_⟩
                  · rw [hs_or, Bool.or_eq_true, bs] at hd
                    rcases hd with hd | rfl
                    · exact q2 d hd
                    · exact Pl_step hPc ⟨i, i0, by omega, hb, hb1, by omega, by omega⟩
                  · rw [hs_or, Bool.or_eq_true, bs] at hd
                    rw [hs_or, Bool.or_eq_true, bs]
                    rcases hd with hd | hd
                    · left; exact q3 d hd
                    · right; exact hd
                  · rw [pc_add hb0.1 (by omega) e5, pc_add hb0.1 (by omega) ob]; omega
                  · rw [hs_or, q5, hs_bit hb0.1 (by omega)]; simp [hbc]
                  · rw [hs_or, Bool.or_eq_true, bs] at hd
                    rw [hs_or, Bool.or_eq_false_iff] at ho
                    rcases hd with hd | rfl
                    · rw [hs_or, q7 d e hd ho.1 hne hs']; rfl
                    · have := ho.2; rw [hs_bit hb0.1 (by omega)] at this; simp at this
                  · by_cases z : s < i
                    · rw [hs_or, q8 s e s0 z he n1 n2 n3]; rfl
                    · have : s = i := by omega
                      subst this
                      rw [hb] at he
                      subst he
                      rw [hs_or, hs_bit hb0.1 (by omega)]; simp
            · refine ⟨(p1, o1, ni (4 * cell + (i + 1))), ?_, ⟨i + 1, by omega, by omega, rfl, stay (Or.inr (fun z => e2 (by omega)))⟩, hmeas _ _⟩
              simp [e1, e2]
          · refine ⟨(p1, o1, ni (4 * cell + (i + 1))), ?_, ⟨i + 1, by omega, by omega, rfl, stay (Or.inr (fun z => ?_))⟩, hmeas _ _⟩
            · simp [e1]
            · apply e1
              unfold ths
              rw [hb, if_neg z.1, z.2.2, hch]
      · dsimp only
        have := FUEL_big; omega
    obtain ⟨r, k1, k2⟩ := key
    exact ⟨r.1, r.2, k1, k2⟩
  have key : ∃ r, lpR (fun s => WY_plainAround_L11 g s.1 s.2.1 s.2.2 M) FUEL ((LL_bit (ni c)), (LL_bit (ni c)), (0 : Int32)) = some r ∧ r = pl A c := by
    refine lpR_wf (fun s => ∃ k : Int, 0 ≤ k ∧ k ≤ 36 ∧ s.2.2 = ni k ∧ hs s.1 c = true ∧ (∀ d, hs s.1 d = true → Pl A c d) ∧ (∀ d, hs s.2.1 d = true → hs s.1 d = true) ∧ pc s.1 = pc s.2.1 + k ∧ (∀ d e, hs s.1 d = true → hs s.2.1 d = false → stp1 A d e → hs s.1 e = true)) (fun s => 36 - s.2.2.toInt.toNat) _ ?_ FUEL _ ?_ ?_
    · rintro ⟨p, o, s3⟩ ⟨k, k0, k36, rfl, q1, q2, q3, q4, q5⟩
      dsimp only at q1 q2 q3 q4 q5 ⊢
      have fin : o = 0 → p = pl A c := by
        intro e
        subst e
        exact pl_closed w h0 h1 q1 q2 (fun d e hd hs' => q5 d e hd (hs_zero d) hs')
      have hle : pc p ≤ 36 := pc_le36 w (fun d hd => by have := Pl_rg w h0 h1 (q2 d hd); omega)
      unfold WY_plainAround_L11
      simp (disch := omega) only [show (36 : Int32) = ni 36 from rfl, ni_le]
      by_cases e36 : 36 ≤ k
      · right
        rw [if_pos e36]
        exact ⟨_, rfl, fin (pc_zero (by have := (pc_bd o).1; omega))⟩
      · rw [if_neg e36]
        by_cases eo : o = 0
        · right
          rw [if_pos eo]
          exact ⟨_, rfl, fin eo⟩
        · left
          obtain ⟨⟨l0, l1⟩, l2, l3⟩ := lo_spec eo
          have hcell := Pl_rg w h0 h1 (q2 _ (q3 _ l2))
          rw [if_neg eo, LL_lowestIn_eq, hG.2.1 _ hcell.1 (by omega), LL_bit_eq, hcell.2.2, show (4 : Int32) = ni 4 from rfl, ni_mul]
          generalize hlo : lo o = cell at *
          have hC : CQ A c cell k p (o &&& (sbit cell ^^^ (-1 : Int64))) 0 := by
            refine ⟨q1, q2, fun d hd => ?_, ?_, ?_, q3 _ l2, fun d e hd ho hne hs' => ?_, fun s e s0 s1 => by omega⟩
            · rw [hs_rem l0 l1, Bool.and_eq_true] at hd
              exact q3 d hd.1
            · rw [pc_rem l0 l1 l2]; omega
            · rw [hs_rem l0 l1]; simp
            · rw [hs_rem l0 l1] at ho
              have : hs o d = false := by
                cases z : hs o d with
                | false => rfl
                | true => rw [z] at ho; simp at ho; exact absurd ho hne
              exact q5 d e hd this hs'
          obtain ⟨p', o', k1, z1, z2, z3, z4, z5, z6, z7, z8⟩ := inner cell k p _ hcell.1 hcell.2.1 hcell.2.2 (q2 _ (q3 _ l2)) hC
          rw [k1, b1_s, show ni k + (1 : Int32) = ni (k + 1) by rw [show (1 : Int32) = ni 1 from rfl, ni_add]]
          refine ⟨_, rfl, ⟨k + 1, by omega, by omega, rfl, z1, z2, z3, by dsimp only; omega, fun d e hd ho hs' => ?_⟩, ?_⟩
          · by_cases z : d = cell
            · subst z
              obtain ⟨s, s0, s1, e1, e2, e3, e4⟩ := hs'
              exact z8 s e s0 s1 e1 e2 e3 e4
            · exact z7 d e hd ho z hs'
          · dsimp only
            rw [ni_toInt (by omega) (by omega), ni_toInt (by omega) (by omega)]
            omega
    · have bs : ∀ d, (hs (LL_bit (ni c)) d = true) = (d = c) := fun d => by rw [LL_bit_eq, hs_bit h0 (by omega)]; simp
      refine ⟨0, by omega, by omega, rfl, ?_, ?_, fun d hd => hd, by rw [Int.add_zero], fun d e hd ho => ?_⟩
      · dsimp only; rw [bs]
      · dsimp only
        intro d hd
        rw [bs] at hd
        subst hd
        exact Pl_refl A d
      · dsimp only at hd ho
        rw [hd] at ho; cases ho
    · have := FUEL_big; omega
  obtain ⟨r, k1, rfl⟩ := key
  unfold WY_plainAround
  rw [k1, b1_s]
/-- the lowest lower neighbor -/
def lwf (A : Ab) (a : Int) : Nat → Int
  | 0 => -1
  | s + 1 => if nb A a s ≠ -1 ∧ ht A (nb A a s) < ht A a ∧ thr A a (nb A a s) = ht A a ∧ (lwf A a s = -1 ∨ ht A (nb A a s) < ht A (lwf A a s)) then nb A a s else lwf A a s
def lw (A : Ab) (a : Int) : Int := lwf A a 4
def wyp (A : Ab) (m : Int64) (a : Int) : Bool := hs m a && !decide (lw A a = -1)
def wy (A : Ab) (m : Int64) : Int := if ff (nn A).toNat (fun a => wyp A m a) = -1 then -1 else lw A (ff (nn A).toNat (fun a => wyp A m a))
noncomputable def tg (A : Ab) (c : Int) : Int := if pl A c &&& drn A = 0 then wy A (pl A c) else -1
theorem lwf_rg {A : Ab} (g : WFg A) {a : Int} (h0 : 0 ≤ a) (h1 : a < nn A) (n : Nat) : lwf A a n = -1 ∨ (0 ≤ lwf A a n ∧ lwf A a n < nn A ∧ ht A (lwf A a n) < ht A a) := by
  induction n with
  | zero => left; rfl
  | succ n ih =>
    simp only [lwf]
    split
    · rename_i h
      have := nb_rg (s := (n : Int)) g h0 h1
      right; exact ⟨by omega, by omega, h.2.1⟩
    · exact ih
theorem lw_rg {A : Ab} (g : WFg A) {a : Int} (h0 : 0 ≤ a) (h1 : a < nn A) : lw A a = -1 ∨ (0 ≤ lw A a ∧ lw A a < nn A ∧ ht A (lw A a) < ht A a) := lwf_rg g h0 h1 4
theorem e_wayL16 {M : Mem} {A : Ab} (h : RM M A) (g : WFg A) {a : Int} (h0 : 0 ≤ a) (h1 : a < nn A) (m : Int64) : lpR (fun s => MD_way_L16 m (ni a) s.1 s.2 M) FUEL ((-1 : Int32), (0 : Int32)) = some (ni (if hs m a = true then lw A a else -1)) := by
  have hn := nn_bd g
  cases hma : hs m a with
  | false =>
    refine lpR_to (fun _ => ((-1 : Int32), (0 : Int32))) _ 0 (by omega) (fun i hi => by omega) ?_ rfl
    unfold MD_way_L16
    simp (disch := omega) only [MD_has_eq, bI_z, hma]
    rw [if_neg (by decide), if_pos (by simp)]
    rfl
  | true =>
    refine lpR_to (fun i => (ni (lwf A a i), ni (i : Int))) _ 4 (by omega) ?_ ?_ rfl
    · intro i hi
      have hr := nb_rg (s := (i : Int)) g h0 h1
      have hl := lwf_rg g h0 h1 i
      have hha := ht_bd g h0 (by omega)
      unfold MD_way_L16
      simp (disch := omega) only [show (4 : Int32) = ni 4 from rfl, ni_le, MD_has_eq, bI_z, hma, ni_s]
      rw [if_neg (by omega), if_neg (by simp), e_neighbor h g h0 h1 (by omega) (by omega), b1_s]
      simp only [lwf]
      generalize hb : nb A a (i : Int) = b at *
      by_cases e1 : b = -1
      · rw [if_pos (by rw [e1]; rfl), if_neg (fun z => z.1 e1)]
      · have hb0 : 0 ≤ b ∧ b < nn A := by omega
        have hhb := ht_bd g hb0.1 (by omega)
        rw [if_neg (by rw [show (-1 : Int32) = ni (-1) from rfl, ni_eq (by omega) (by omega) (by omega) (by omega)]; exact e1), e_height h hb0.1 (by omega), b1_s, e_height h h0 (by omega), b1_s, e_runs h g h0 h1 hb0.1 hb0.2, b1_s, b1_s]
        simp (disch := omega) only [ni_le, bI_z]
        by_cases e2 : ht A b < ht A a
        · rw [if_neg (by omega)]
          by_cases e3 : thr A a b = ht A a
          · rw [if_neg (by simp [e3])]
            rcases hl with e4 | ⟨e4, e5, e6⟩
            · rw [e4, if_pos (show ni (-1) = (-1 : Int32) from rfl), if_pos ⟨e1, e2, e3, Or.inl rfl⟩]
            · have hhl := ht_bd g e4 (show lwf A a i < 36 by omega)
              rw [if_neg (by rw [show (-1 : Int32) = ni (-1) from rfl, ni_eq (by omega) (by omega) (by omega) (by omega)]; omega), e_height h e4 (by omega), b1_s]
              simp (disch := omega) only [ni_le]
              by_cases e7 : ht A b < ht A (lwf A a i)
              · rw [if_neg (by omega), if_pos ⟨e1, e2, e3, Or.inr e7⟩]
              · rw [if_pos (by omega), if_neg (fun z => by rcases z.2.2.2 with y | y <;> omega)]
          · rw [if_pos e3, if_neg (fun z => e3 z.2.2.1)]
        · rw [if_pos (by omega), if_neg (fun z => e2 z.2.1)]
    · unfold MD_way_L16
      dsimp only
      rw [if_pos (by decide)]
      rfl
theorem wy_rg {A : Ab} (g : WFg A) (m : Int64) : wy A m = -1 ∨ (∃ a, 0 ≤ a ∧ a < nn A ∧ hs m a = true ∧ wy A m = lw A a ∧ 0 ≤ wy A m ∧ wy A m < nn A ∧ ht A (wy A m) < ht A a) := by
  have hn := nn_bd g
  unfold wy
  rcases ff_spec (nn A).toNat (fun a => wyp A m a) with ⟨e, _⟩ | ⟨k, k1, k2, k3, k4⟩
  · left; rw [if_pos e]
  · right
    rw [k2, if_neg (by omega)]
    unfold wyp at k3
    simp only [Bool.and_eq_true, Bool.not_eq_true', decide_eq_false_iff_not] at k3
    have := lw_rg g (show 0 ≤ (k : Int) by omega) (by omega)
    exact ⟨k, by omega, by omega, k3.1, rfl, by omega, by omega, by omega⟩
theorem e_way {M : Mem} {A : Ab} (h : RM M A) (g : WFg A) (m : Int64) : MD_way m M = some (ni (wy A m)) := by
  have hn := nn_bd g
  have step : ∀ a : Nat, (a : Int) < nn A → MD_way_L2 m (ni (a : Int)) M = if wyp A m a = true then some (.inr (.inr (ni (lw A a)))) else some (.inl (ni ((a + 1 : Nat) : Int))) := by
    intro a ha
    have hl := lw_rg g (show 0 ≤ (a : Int) by omega) ha
    unfold MD_way_L2 wyp
    rw [e_many h, e_wayL16 h g (by omega) ha m, b1_s, ni_s]
    simp (disch := omega) only [ni_le]
    rw [if_neg (by omega)]
    cases q : hs m (a : Int) with
    | false => simp; rfl
    | true =>
      simp (disch := omega) only [show (-1 : Int32) = ni (-1) from rfl, ni_eq, if_true]
      by_cases e : lw A (a : Int) = -1
      · simp [e]
      · simp [e]
  unfold MD_way wy
  rcases ff_spec (nn A).toNat (fun a => wyp A m a) with ⟨e, hno⟩ | ⟨k, k1, k2, k3, k4⟩
  · have key : lpR (fun s => MD_way_L2 m s M) FUEL (0 : Int32) = some (.inl ()) := by
      refine lpR_to (fun i => ni (i : Int)) _ (nn A).toNat (by omega) ?_ ?_ rfl
      · intro i hi
        rw [step i (by omega), if_neg (by rw [hno i hi]; simp)]
      · unfold MD_way_L2
        rw [e_many h]
        simp (disch := omega) only [ni_le]
        rw [if_pos (by omega)]
    rw [key, b1_s, if_pos e]; rfl
  · have key : lpR (fun s => MD_way_L2 m s M) FUEL (0 : Int32) = some (.inr (ni (lw A k))) := by
      refine lpR_to (fun i => ni (i : Int)) _ k (by omega) ?_ ?_ rfl
      · intro i hi
        rw [step i (by omega), if_neg (by rw [k4 i hi]; simp)]
      · rw [step k (by omega), if_pos k3]
    rw [key, b1_s, k2, if_neg (by omega)]; rfl
theorem c_lowerNeighbor {g : Nat} {M : Mem} {A : Ab} (hG : RG g M A) (hT : RT g M A) (w : WFg A) {a : Int} (h0 : 0 ≤ a) (h1 : a < nn A) : WY_lowerNeighbor g (ni a) M = some (ni (lw A a)) := by
  have hn := nn_bd w
  have hha := ht_bd w h0 (by omega)
  have key : lpR (fun s => WY_lowerNeighbor_L19 g (ni a) (fAtI (g + 1) (ni a) M) s.1 s.2.1 s.2.2 M) FUEL ((-1 : Int32), (fAtI (g + 1) (ni a) M), ((4 : Int32) * (ni a))) = some (ni (lw A a)) := by
    rw [hG.2.1 a h0 (by omega)]
    refine lpR_to (fun i => (ni (lwf A a i), ni (if lwf A a i = -1 then ht A a else ht A (lwf A a i)), ni (4 * a + (i : Int)))) _ 4 (by omega) ?_ ?_ ?_
    · intro i hi
      have hr := nb_rg (s := (i : Int)) w h0 h1
      have hl := lwf_rg w h0 h1 i
      have hths := ths_bd (s := (i : Int)) w h0 h1
      unfold WY_lowerNeighbor_L19
      dsimp only
      simp (disch := omega) only [show (4 : Int32) = ni 4 from rfl, ni_mul, ni_add, ni_le]
      rw [if_neg (by omega), hG.2.2.1 a i h0 h1 (by omega) (by omega), hT.1 a i h0 h1 (by omega) (by omega)]
      simp (disch := omega) only [ni_eq]
      refine congrArg some (congrArg Sum.inl ?_)
      rw [show ni (4 * a + (i : Int)) + (1 : Int32) = ni (4 * a + ((i + 1 : Nat) : Int)) by rw [show (1 : Int32) = ni 1 from rfl, ni_add, Int.add_assoc]; rfl]
      simp only [lwf]
      obtain ⟨b, hb⟩ : ∃ b, nb A a (i : Int) = b := ⟨_, rfl⟩
      simp only [hb] at hr ⊢
      by_cases e1 : ths A a (i : Int) = ht A a
      · have hb1 : b ≠ -1 := by
          intro e
          unfold ths at e1
          rw [hb, if_pos e] at e1
          omega
        have hb0 : 0 ≤ b ∧ b < nn A := by omega
        have hthr : thr A a b = ht A a := by
          unfold ths at e1
          rw [hb, if_neg hb1] at e1
          exact e1
        have hhb := ht_bd w hb0.1 (by omega)
        have hlow : (if lwf A a i = -1 then ht A a else ht A (lwf A a i)) ≤ 99 ∧ 0 ≤ (if lwf A a i = -1 then ht A a else ht A (lwf A a i)) := by
          rcases hl with e4 | ⟨e4, e5, e6⟩
          · rw [if_pos e4]; omega
          · have hhl := ht_bd w e4 (show lwf A a i < 36 by omega)
            rw [if_neg (by omega)]; omega
        rw [hG.2.1 b hb0.1 (by omega)]
        obtain ⟨L, hL⟩ : ∃ L, (if lwf A a i = -1 then ht A a else ht A (lwf A a i)) = L := ⟨_, rfl⟩
        simp only [hL] at hlow ⊢
        simp (disch := omega) only [ni_le]
        rw [if_neg (show ¬ ¬ ths A a (i : Int) = ht A a from fun z => z e1), if_neg (show ¬ ¬ ths A a (i : Int) = ht A a from fun z => z e1)]
        by_cases e2 : L ≤ ht A b
        · have hc : ¬ (b ≠ -1 ∧ ht A b < ht A a ∧ thr A a b = ht A a ∧ (lwf A a i = -1 ∨ ht A b < ht A (lwf A a i))) := by
            rintro ⟨z1, z2, z3, z4⟩
            rcases hl with e4 | ⟨e4, e5, e6⟩
            · rw [if_pos e4] at hL; omega
            · rw [if_neg (by omega)] at hL
              rcases z4 with y | y <;> omega
          rw [if_pos e2, if_pos e2, if_neg hc, hL]
        · have hc : b ≠ -1 ∧ ht A b < ht A a ∧ thr A a b = ht A a ∧ (lwf A a i = -1 ∨ ht A b < ht A (lwf A a i)) := by
            refine ⟨hb1, ?_, hthr, ?_⟩
            · rcases hl with e4 | ⟨e4, e5, e6⟩
              · rw [if_pos e4] at hL; omega
              · rw [if_neg (by omega)] at hL; omega
            · rcases hl with e4 | ⟨e4, e5, e6⟩
              · left; exact e4
              · right; rw [if_neg (by omega)] at hL; omega
          rw [if_neg e2, if_neg e2, if_pos hc, if_neg hb1]
      · have hc : ¬ (b ≠ -1 ∧ ht A b < ht A a ∧ thr A a b = ht A a ∧ (lwf A a i = -1 ∨ ht A b < ht A (lwf A a i))) := by
          rintro ⟨z1, z2, z3, z4⟩
          apply e1
          unfold ths
          rw [hb, if_neg z1, z3]
        rw [if_pos e1, if_pos e1, if_neg hc]
    · unfold WY_lowerNeighbor_L19
      dsimp only
      simp (disch := omega) only [show (4 : Int32) = ni 4 from rfl, ni_mul, ni_add, ni_le]
      rw [if_pos (by omega)]
      rfl
    · simp only [lwf, if_true]
      rw [show (4 : Int32) = ni 4 from rfl, ni_mul]
      simp
      rfl
  unfold WY_lowerNeighbor
  rw [key, b1_s]
theorem c_targetOf {g : Nat} {M : Mem} {A : Ab} (hG : RG g M A) (hT : RT g M A) (w : WFg A) (m : Int64) : WY_targetOf g m M = some (ni (if m &&& drn A = 0 then wy A m else -1)) := by
  have hn := nn_bd w
  unfold WY_targetOf
  rw [hG.1.2.2.2]
  by_cases e0 : m &&& drn A = 0
  · rw [if_pos e0, if_pos e0]
    -- the target so far
    have step : ∀ a : Nat, (a : Int) < nn A → WY_targetOf_L18 g m (-1 : Int32) (ni (a : Int)) M = some (.inl (ni (if hs m a = true then lw A a else -1), ni ((a + 1 : Nat) : Int))) := by
      intro a ha
      unfold WY_targetOf_L18
      rw [hG.1.2.2.1, c_lowerNeighbor hG hT w (by omega) ha, b1_s, ni_s]
      simp (disch := omega) only [ni_le, LL_has_eq, bI_z]
      rw [if_neg (by omega), if_neg (by simp)]
      cases hs m (a : Int) with
      | false => simp; rfl
      | true => simp
    have key : lpR (fun s => WY_targetOf_L18 g m s.1 s.2 M) FUEL ((-1 : Int32), (0 : Int32)) = some (ni (wy A m)) := by
      unfold wy
      rcases ff_spec (nn A).toNat (fun a => wyp A m a) with ⟨e, hno⟩ | ⟨k, k1, k2, k3, k4⟩
      · rw [if_pos e]
        refine lpR_to (fun i => ((-1 : Int32), ni (i : Int))) _ (nn A).toNat (by omega) ?_ ?_ rfl
        · intro i hi
          dsimp only
          rw [step i (by omega)]
          have := hno i hi
          unfold wyp at this
          cases q : hs m (i : Int) with
          | false => simp; rfl
          | true => rw [q] at this; simp at this; simp [this]; rfl
        · unfold WY_targetOf_L18
          rw [hG.1.2.2.1]
          simp (disch := omega) only [ni_le]
          rw [if_pos (by omega)]
          rfl
      · unfold wyp at k3
        simp only [Bool.and_eq_true, Bool.not_eq_true', decide_eq_false_iff_not] at k3
        have hl := lw_rg w (show 0 ≤ (k : Int) by omega) (by omega)
        rw [k2, if_neg (by omega)]
        refine lpR_to (fun i => ((if i ≤ k then (-1 : Int32) else ni (lw A k)), ni (i : Int))) _ (k + 1) (by omega) ?_ ?_ rfl
        · intro i hi
          dsimp only
          rw [if_pos (by omega), step i (by omega)]
          by_cases e : i = k
          · subst e
            rw [if_pos k3.1, if_neg (by omega)]
          · have := k4 i (by omega)
            unfold wyp at this
            rw [if_pos (show i + 1 ≤ k by omega)]
            cases q : hs m (i : Int) with
            | false => simp; rfl
            | true => rw [q] at this; simp at this; simp [this]; rfl
        · unfold WY_targetOf_L18
          dsimp only
          have hne : ¬ ni (lw A k) = (-1 : Int32) := by
            rw [show (-1 : Int32) = ni (-1) from rfl, ni_eq (by omega) (by omega) (by omega) (by omega)]; omega
          simp only [show ¬ (k + 1 ≤ k) by omega, if_false]
          rw [hG.1.2.2.1]
          split
          · rfl
          · first | rfl | rw [if_pos hne]
    rw [key, b1_s]
  · rw [if_neg e0, if_neg e0]; rfl
