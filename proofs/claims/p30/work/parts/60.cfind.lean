/-! 60.cfind: the basins of one side, as it finds them -/
def RY (y : Nat) (M : Mem) (A : Ab) (n : Int) (f : Int → Int) : Prop := gI M y 0 = ni n ∧ (∀ c, 0 ≤ c → c < nn A → fAtL (y + 1) (ni c) M = pl A c ∧ fAtI (y + 3) (ni c) M = ni (tg A c)) ∧ (∀ c, 0 ≤ c → c < 36 → fAtI (y + 5) (ni c) M = ni (if c < nn A then f c else -1))
theorem fill_at {o n : Nat} {M : Mem} {v : Int32} {c : Int} (hn : nC (o + 1) = n) (h0 : 0 ≤ c) (h1 : c < n) (h2 : c < 2147483648) : fAtI o (ni c) (fFillI o v M) = v := by
  rw [fAtI_in hn h0 h1 h2]
  unfold fFillI fRowI gI
  dsimp only
  rw [if_pos ⟨rfl, by omega⟩]
theorem fillL_at {o n : Nat} {M : Mem} {v : Int64} {c : Int} (hn : nC (o + 1) = n) (h0 : 0 ≤ c) (h1 : c < n) (h2 : c < 2147483648) : fAtL o (ni c) (fFillL o v M) = v := by
  rw [fAtL_in hn h0 h1 h2]
  unfold fFillL fRowL gL
  dsimp only
  rw [if_pos ⟨rfl, by omega⟩]
theorem Fr.fill {o : Nat} {v : Int32} {M : Mem} {P : Nat → Prop} (hp : P (o + 1)) : Fr P M (fFillI o v M) := by
  intro p hq
  have : p ≠ o + 1 := fun e => hq (e ▸ hp)
  exact ⟨fun k => by simp [fFillI, fRowI, this], fun k => rfl⟩
theorem Fr.fillL {o : Nat} {v : Int64} {M : Mem} {P : Nat → Prop} (hp : P (o + 1)) : Fr P M (fFillL o v M) := by
  intro p hq
  have : p ≠ o + 1 := fun e => hq (e ▸ hp)
  exact ⟨fun k => rfl, fun k => by simp [fFillL, fRowL, this]⟩
theorem c_mark {y : Nat} {M : Mem} (zy : SzY y) (m : Int64) (t : Int32) : ∃ M', WY_markPlain y m t M = some ((), M') ∧ Fr (fun p => p = y + 1 + 1 ∨ p = y + 3 + 1) M M' ∧ (∀ d, 0 ≤ d → d < 36 → fAtL (y + 1) (ni d) M' = (if hs m d = true then m else fAtL (y + 1) (ni d) M) ∧ fAtI (y + 3) (ni d) M' = (if hs m d = true then t else fAtI (y + 3) (ni d) M)) := by
  have key : ∃ r M', lpM (fun s M9 => WY_markPlain_L3 y m t s M9) FUEL (0 : Int32) M = some (r, M') ∧ (Fr (fun p => p = y + 1 + 1 ∨ p = y + 3 + 1) M M' ∧ (∀ d, 0 ≤ d → d < 36 → fAtL (y + 1) (ni d) M' = (if hs m d = true then m else fAtL (y + 1) (ni d) M) ∧ fAtI (y + 3) (ni d) M' = (if hs m d = true then t else fAtI (y + 3) (ni d) M))) := by
    refine lpM_to 36 (by omega) (fun i s M' => s = ni (i : Int) ∧ Fr (fun p => p = y + 1 + 1 ∨ p = y + 3 + 1) M M' ∧ (∀ d, 0 ≤ d → d < 36 → fAtL (y + 1) (ni d) M' = (if hs m d = true ∧ d < i then m else fAtL (y + 1) (ni d) M) ∧ fAtI (y + 3) (ni d) M' = (if hs m d = true ∧ d < i then t else fAtI (y + 3) (ni d) M))) _ ?_ ?_ ⟨rfl, Fr.rfl', fun d a b => by rw [if_neg (by omega), if_neg (by omega)]; exact ⟨rfl, rfl⟩⟩
    · rintro i hi s M1 ⟨rfl, hF, hd⟩
      unfold WY_markPlain_L3
      simp (disch := omega) only [show (36 : Int32) = ni 36 from rfl, ni_le, LL_has_eq, bI_z, ni_s]
      rw [if_neg (by omega)]
      cases q : hs m (i : Int) with
      | false =>
        rw [if_pos (by simp)]
        refine ⟨_, M1, rfl, rfl, hF, fun d a b => ?_⟩
        have h := hd d a b
        by_cases e : d = (i : Int)
        · subst e
          rw [q] at h ⊢
          simpa using h
        · rw [h.1, h.2]
          by_cases z : d < (i : Int)
          · simp [z, show d < (i : Int) + 1 by omega]
          · simp [z, show ¬ d < (i : Int) + 1 by omega]
      | true =>
        rw [if_neg (by simp)]
        refine ⟨_, _, rfl, rfl, (hF.trans (Fr.putL (Or.inl rfl))).trans (Fr.put (Or.inr rfl)), fun d a b => ?_⟩
        have h := hd d a b
        rw [atL_putI, fAtL_put zy.1 (by omega) (by omega) (by omega) (by omega) (by omega), fAtI_put zy.2.1 (by omega) (by omega) (by omega) (by omega) (by omega), atI_putL]
        by_cases e : d = (i : Int)
        · subst e
          simp [q, show (i : Int) < (i : Int) + 1 by omega]
        · rw [if_neg (show ¬ (y + 1 = y + 1 ∧ d = (i : Int)) from fun z => e z.2), if_neg (show ¬ (y + 3 = y + 3 ∧ d = (i : Int)) from fun z => e z.2), h.1, h.2]
          by_cases z : d < (i : Int)
          · simp [z, show d < (i : Int) + 1 by omega]
          · simp [z, show ¬ d < (i : Int) + 1 by omega]
    · rintro s M1 ⟨rfl, hF, hd⟩
      refine ⟨(), M1, ?_, hF, fun d a b => ?_⟩
      · unfold WY_markPlain_L3
        rw [if_pos (by decide)]
      · have h := hd d a b
        simpa [show d < (36 : Int) by omega] using h
  obtain ⟨r, M', k1, k2⟩ := key
  refine ⟨M', ?_, k2⟩
  unfold WY_markPlain
  rw [k1, b2_s]
theorem c_find1 {w : Nat} {M : Mem} {A : Ab} (hG : RG (w + 1) M A) (hT : RT (w + 1) M A) (g : WFg A) (zy : SzY (w + 12)) (h0 : ∀ c, 0 ≤ c → c < nn A → fAtL (w + 12 + 1) (ni c) M = 0) : ∃ r M', lpM (fun s M9 => WY_find_L10 (w + 12) (w + 1) s M9) FUEL (0 : Int32) M = some (r, M') ∧ (Fr (fun p => p = w + 12 + 1 + 1 ∨ p = w + 12 + 3 + 1) M M' ∧ ∀ c, 0 ≤ c → c < nn A → fAtL (w + 12 + 1) (ni c) M' = pl A c ∧ fAtI (w + 12 + 3) (ni c) M' = ni (tg A c)) := by
  have hn := nn_bd g
  refine lpM_to (nn A).toNat (by omega) (fun i s M' => s = ni (i : Int) ∧ Fr (fun p => p = w + 12 + 1 + 1 ∨ p = w + 12 + 3 + 1) M M' ∧ ∀ c, 0 ≤ c → c < nn A → fAtL (w + 12 + 1) (ni c) M' = (if lo (pl A c) < i then pl A c else 0) ∧ (lo (pl A c) < i → fAtI (w + 12 + 3) (ni c) M' = ni (tg A c))) _ ?_ ?_ ⟨rfl, Fr.rfl', fun c a b => ?_⟩
  · rintro i hi s M1 ⟨rfl, hF, hc⟩
    have hG1 := RG_fr hG hF (by omega) (by omega) (by omega) (by omega)
    have hT1 := RT_fr hT hF (by omega) (by omega)
    have hi0 : 0 ≤ (i : Int) ∧ (i : Int) < nn A := by omega
    have hlo := lo_spec (pl_ne g hi0.1 hi0.2)
    have hle : lo (pl A (i : Int)) ≤ i := by
      by_cases q : lo (pl A (i : Int)) ≤ i
      · exact q
      · have := hlo.2.2 (i : Int) (by omega)
        rw [pl_self g hi0.1 hi0.2] at this; cases this
    unfold WY_find_L10
    rw [hG1.1.2.2.1, (hc _ hi0.1 hi0.2).1, ni_s]
    simp (disch := omega) only [ni_le]
    rw [if_neg (by omega)]
    by_cases e : lo (pl A (i : Int)) < i
    · rw [if_pos e, if_pos (pl_ne g hi0.1 hi0.2)]
      refine ⟨_, M1, rfl, rfl, hF, fun c a b => ?_⟩
      have hne : lo (pl A c) ≠ i := by
        intro q
        have l := lo_spec (pl_ne g a b)
        rw [q] at l
        have := pl_eq g a b l.2.1
        rw [this, q] at e; omega
      have h := hc c a b
      by_cases z : lo (pl A c) < i
      · rw [if_pos z] at h
        rw [if_pos (by omega)]
        exact ⟨h.1, fun _ => h.2 z⟩
      · rw [if_neg z] at h
        rw [if_neg (by omega)]
        exact ⟨h.1, fun y => by omega⟩
    · have hli : lo (pl A (i : Int)) = i := by omega
      rw [if_neg e, if_neg (by simp), c_plainAround hG1 hT1 g hi0.1 hi0.2, b1_s, c_targetOf hG1 hT1 g, b1_s]
      obtain ⟨M2, k1, k2, k3⟩ := c_mark (M := M1) zy (pl A (i : Int)) (ni (if pl A (i : Int) &&& drn A = 0 then wy A (pl A (i : Int)) else -1))
      rw [k1, b2_s]
      refine ⟨_, M2, rfl, rfl, hF.trans k2, fun c a b => ?_⟩
      have h := hc c a b
      rw [(k3 c a (by omega)).1, (k3 c a (by omega)).2]
      by_cases q : hs (pl A (i : Int)) c = true
      · have e1 := pl_eq g hi0.1 hi0.2 q
        have e2 := tg_pl g hi0.1 hi0.2 q
        rw [if_pos q, if_pos q, e1, hli, if_pos (by omega), e2]
        exact ⟨rfl, fun _ => rfl⟩
      · rw [if_neg q, if_neg q]
        have hne : lo (pl A c) ≠ i := by
          intro z
          have l := lo_spec (pl_ne g a b)
          rw [z] at l
          have := pl_eq g a b l.2.1
          rw [this] at q
          exact q (pl_self g a b)
        by_cases z : lo (pl A c) < i
        · rw [if_pos z] at h
          rw [if_pos (by omega)]
          exact ⟨h.1, fun _ => h.2 z⟩
        · rw [if_neg z] at h
          rw [if_neg (by omega)]
          exact ⟨h.1, fun y => by omega⟩
  · rintro s M1 ⟨rfl, hF, hc⟩
    have hG1 := RG_fr hG hF (by omega) (by omega) (by omega) (by omega)
    refine ⟨(), M1, ?_, hF, fun c a b => ?_⟩
    · unfold WY_find_L10
      rw [hG1.1.2.2.1]
      simp (disch := omega) only [ni_le]
      rw [if_pos (by omega)]
    · have l := lo_spec (pl_ne g a b)
      have := pl_in g a b l.2.1
      have h := hc c a b
      rw [if_pos (by omega)] at h
      exact ⟨h.1, h.2 (by omega)⟩
  · have l := lo_spec (pl_ne g a b)
    rw [if_neg (by omega)]
    exact ⟨h0 c a b, fun z => by omega⟩
noncomputable def ppn (A : Ab) (c : Int) : Int := if ipt A c = true then bsn A c else -1
theorem c_numberPits {w : Nat} {M : Mem} {A : Ab} (hG : RG (w + 1) M A) (g : WFg A) (zy : SzY (w + 12)) (hc : ∀ c, 0 ≤ c → c < nn A → fAtL (w + 12 + 1) (ni c) M = pl A c ∧ fAtI (w + 12 + 3) (ni c) M = ni (tg A c)) : ∃ M', WY_numberPits (w + 12) (w + 1) M = some ((), M') ∧ Fr (fun p => p = w + 12 ∨ p = w + 12 + 5 + 1) M M' ∧ gI M' (w + 12) 0 = ni (npt A) ∧ ∀ c, 0 ≤ c → c < 36 → fAtI (w + 12 + 5) (ni c) M' = ni (if c < nn A then ppn A c else -1) := by
  have hn := nn_bd g
  have key : ∃ r M', lpM (fun s M9 => WY_numberPits_L15 (w + 12) (w + 1) s M9) FUEL (0 : Int32) (fFillI (w + 12 + 5) (-1 : Int32) (sI M (w + 12) 0 (0 : Int32))) = some (r, M') ∧ (Fr (fun p => p = w + 12 ∨ p = w + 12 + 5 + 1) M M' ∧ gI M' (w + 12) 0 = ni (npt A) ∧ ∀ c, 0 ≤ c → c < 36 → fAtI (w + 12 + 5) (ni c) M' = ni (if c < nn A then ppn A c else -1)) := by
    refine lpM_to (nn A).toNat (by omega) (fun i s M' => s = ni (i : Int) ∧ Fr (fun p => p = w + 12 ∨ p = w + 12 + 5 + 1) M M' ∧ gI M' (w + 12) 0 = ni (ldn A i) ∧ ∀ c, 0 ≤ c → c < 36 → fAtI (w + 12 + 5) (ni c) M' = ni (if c < i then ppn A c else -1)) _ ?_ ?_ ⟨rfl, ?_, ?_, ?_⟩
    · rintro i hi s M1 ⟨rfl, hF, hb, hd⟩
      have hG1 := RG_fr hG hF (by omega) (by omega) (by omega) (by omega)
      have hi0 : 0 ≤ (i : Int) ∧ (i : Int) < nn A := by omega
      have hlb := ldn_bd A i
      have e1 : fAtL (w + 12 + 1) (ni (i : Int)) M1 = pl A i := by rw [hF.atL (by omega)]; exact (hc _ hi0.1 hi0.2).1
      have e2 : fAtI (w + 12 + 3) (ni (i : Int)) M1 = ni (tg A i) := by rw [hF.at (by omega)]; exact (hc _ hi0.1 hi0.2).2
      have htr := tg_rg g hi0.1 hi0.2
      have stay : ipt A i = false → gI M1 (w + 12) 0 = ni (ldn A (i + 1)) ∧ ∀ c, 0 ≤ c → c < 36 → fAtI (w + 12 + 5) (ni c) M1 = ni (if c < ((i + 1 : Nat) : Int) then ppn A c else -1) := by
        intro q
        have hl : ldr A i = false := by unfold ldr; rw [q]; rfl
        refine ⟨by rw [ldn_succ, hl]; simpa using hb, fun c a b => ?_⟩
        rw [hd c a b]
        by_cases e : c = (i : Int)
        · subst e
          rw [if_neg (by omega), if_pos (by omega)]
          unfold ppn
          rw [q]; simp
        · by_cases z : c < (i : Int)
          · rw [if_pos z, if_pos (by omega)]
          · rw [if_neg z, if_neg (by omega)]
      unfold WY_numberPits_L15 WY_numberPits_L15_J88
      rw [hG1.1.2.2.1, e1, e2, hG1.1.2.2.2, LL_lowestIn_eq, ni_s]
      simp (disch := omega) only [ni_le, show (-1 : Int32) = ni (-1) from rfl, ni_eq]
      rw [if_neg (by omega)]
      by_cases z1 : tg A (i : Int) = -1
      · rw [if_neg (by simp [z1])]
        by_cases z2 : pl A (i : Int) &&& drn A = 0
        · rw [if_neg (by simp [z2])]
          have hip : ipt A i = true := ipt_iff.mpr ⟨z1, z2⟩
          obtain ⟨l0, l1, l2, l3⟩ := pit_ldr g hi0.1 hi0.2 hip
          have hlo := lo_spec (pl_ne g hi0.1 hi0.2)
          have hle : lo (pl A (i : Int)) ≤ i := by
            by_cases q : lo (pl A (i : Int)) ≤ i
            · exact q
            · have := hlo.2.2 (i : Int) (by omega)
              rw [pl_self g hi0.1 hi0.2] at this; cases this
          have hbi := (bsn_pit hip).2
          have hbl : ppn A (lo (pl A (i : Int))) = bsn A i := by
            have hil := (ldr_iff.mp l2).1
            unfold ppn
            rw [if_pos hil, (bsn_pit hil).2, l3, hbi]
          have hval : (if ¬ lo (pl A (i : Int)) = (i : Int) then fAtI (w + 12 + 5) (ni (lo (pl A (i : Int)))) M1 else gI M1 (w + 12) 0) = ni (bsn A i) := by
            by_cases q : lo (pl A (i : Int)) = (i : Int)
            · rw [if_neg (by simp [q]), hb, hbi, q]; rfl
            · rw [if_pos q, hd _ l0 (by omega), if_pos (by omega), hbl]
          have hlin : ldr A i = decide (lo (pl A (i : Int)) = (i : Int)) := by unfold ldr; rw [hip, Bool.true_and]
          simp (disch := omega) only [ni_eq]
          rw [hval]
          have hg0 : gI (fPutI (w + 12 + 5) (ni (i : Int)) (ni (bsn A i)) M1) (w + 12) 0 = ni (ldn A i) := by
            rw [← hb]
            exact (Fr.put (P := fun p => p = w + 12 + 5 + 1) rfl).gI (by omega)
          rw [hg0]
          refine ⟨_, _, rfl, rfl, (hF.trans (Fr.put (Or.inr rfl))).trans (Fr.sI (Or.inl rfl)), ?_, fun c a b => ?_⟩
          · rw [ldn_succ, hlin]
            have : ∀ (N : Mem) (v : Int32), gI (sI N (w + 12) 0 v) (w + 12) 0 = v := fun N v => by simp [gI, sI]
            rw [this]
            by_cases q : lo (pl A (i : Int)) = (i : Int)
            · simp [q, show (1 : Int32) = ni 1 from rfl, ni_add]
            · simp [q]
          · rw [(Fr.sI (P := fun p => p = w + 12) rfl).at (by omega), fAtI_put zy.2.2 (by omega) (by omega) (by omega) (by omega) (by omega)]
            by_cases e : c = (i : Int)
            · subst e
              rw [if_pos ⟨rfl, rfl⟩, if_pos (by omega)]
              unfold ppn
              rw [if_pos hip]
            · rw [if_neg (fun z => e z.2), hd c a b]
              by_cases z : c < (i : Int)
              · rw [if_pos z, if_pos (by omega)]
              · rw [if_neg z, if_neg (by omega)]
        · rw [if_pos z2]
          have q : ipt A i = false := by
            cases z : ipt A i with
            | false => rfl
            | true => exact absurd (ipt_iff.mp z).2 z2
          exact ⟨_, M1, rfl, rfl, hF, stay q⟩
      · rw [if_pos z1]
        have q : ipt A i = false := by
          cases z : ipt A i with
          | false => rfl
          | true => exact absurd (ipt_iff.mp z).1 z1
        exact ⟨_, M1, rfl, rfl, hF, stay q⟩
    · rintro s M1 ⟨rfl, hF, hb, hd⟩
      have hG1 := RG_fr hG hF (by omega) (by omega) (by omega) (by omega)
      refine ⟨(), M1, ?_, hF, hb, fun c a b => ?_⟩
      · unfold WY_numberPits_L15
        rw [hG1.1.2.2.1]
        simp (disch := omega) only [ni_le]
        rw [if_pos (by omega)]
      · rw [hd c a b]
        by_cases z : c < nn A
        · rw [if_pos (by omega), if_pos z]
        · rw [if_neg (by omega), if_neg z]
    · exact (Fr.sI (Or.inl rfl)).trans (Fr.fill (Or.inr rfl))
    · rw [(Fr.fill (P := fun p => p = w + 12 + 5 + 1) rfl).gI (by omega)]
      simp [gI, sI]
      rfl
    · intro c a b
      rw [fill_at zy.2.2 a b (by omega), if_neg (by omega)]; rfl
  obtain ⟨r, M', k1, k2⟩ := key
  refine ⟨M', ?_, k2⟩
  unfold WY_numberPits
  rw [k1, b2_s]
theorem c_endOf {y : Nat} {M : Mem} {A : Ab} (g : WFg A) (hc : ∀ c, 0 ≤ c → c < nn A → fAtI (y + 3) (ni c) M = ni (tg A c)) {c : Int} (h0 : 0 ≤ c) (h1 : c < nn A) : WY_endOf y (ni c) M = some (ni (fin A c)) := by
  have hn := nn_bd g
  have key : ∀ n : Nat, ∀ d, 0 ≤ d → d < nn A → lower A d ≤ n → ∀ i : Int, 0 ≤ i → i + n ≤ 36 → ∀ fuel, n + 1 < fuel → lpR (fun s => WY_endOf_L4 y s.1 s.2 M) fuel (ni d, ni i) = some (ni (fin A d)) := by
    intro n
    induction n with
    | zero =>
      intro d d0 d1 hl i i0 i1 fuel hf
      have hb := lower_bd g d0 d1
      obtain ⟨m, rfl⟩ : ∃ m, fuel = m + 1 := ⟨fuel - 1, by omega⟩
      have ht' : tg A d = -1 := by
        rcases tg_rg g d0 d1 with e | ⟨a, b, e⟩
        · exact e
        · have := lower_lt a b e
          have := (lower_bd g a b).1
          omega
      have e : WY_endOf_L4 y (ni d) (ni i) M = some (.inr (ni (fin A d))) := by
        unfold WY_endOf_L4
        rw [hc d d0 d1, ht', fin_stop ht']
        split
        · rfl
        · rw [if_pos (show ni (-1) = (-1 : Int32) from rfl)]
      show (WY_endOf_L4 y (ni d) (ni i) M).bind _ = _
      rw [e]; rfl
    | succ n ih =>
      intro d d0 d1 hl i i0 i1 fuel hf
      obtain ⟨m, rfl⟩ : ∃ m, fuel = m + 1 := ⟨fuel - 1, by omega⟩
      show (WY_endOf_L4 y (ni d) (ni i) M).bind _ = _
      by_cases e0 : tg A d = -1
      · have e : WY_endOf_L4 y (ni d) (ni i) M = some (.inr (ni (fin A d))) := by
          unfold WY_endOf_L4
          rw [hc d d0 d1, e0, fin_stop e0]
          split
          · rfl
          · rw [if_pos (show ni (-1) = (-1 : Int32) from rfl)]
        rw [e]; rfl
      · rcases tg_rg g d0 d1 with q | ⟨a, b, q⟩
        · exact absurd q e0
        · have hlt := lower_lt a b q
          have e : WY_endOf_L4 y (ni d) (ni i) M = some (.inl (ni (tg A d), ni (i + 1))) := by
            unfold WY_endOf_L4
            rw [hc d d0 d1]
            simp (disch := omega) only [show (36 : Int32) = ni 36 from rfl, ni_le, show (1 : Int32) = ni 1 from rfl, ni_neg, ni_eq, ni_add]
            rw [if_neg (by omega), if_neg e0]
          rw [e]
          show lpR _ m _ = _
          rw [ih _ a b (by omega) (i + 1) (by omega) (by omega) m (by omega), fin_next g d0 d1 e0]
  have hb := lower_bd g h0 h1
  unfold WY_endOf
  rw [show (ni c, (0 : Int32)) = (ni c, ni 0) from rfl, key 35 c h0 h1 (by omega) 0 (by omega) (by omega) FUEL (by have := FUEL_big; omega), b1_s]
theorem c_find {w : Nat} {M : Mem} {A : Ab} (hG : RG (w + 1) M A) (hT : RT (w + 1) M A) (g : WFg A) (zy : SzY (w + 12)) : ∃ M', WY_find (w + 12) (w + 1) M = some ((), M') ∧ RY (w + 12) M' A (npt A) (bsn A) ∧ Fr (fun p => p = w + 12 ∨ p = w + 12 + 1 + 1 ∨ p = w + 12 + 3 + 1 ∨ p = w + 12 + 5 + 1) M M' := by
  have hn := nn_bd g
  have f0 : Fr (fun p => p = w + 12 + 1 + 1) M (fFillL (w + 12 + 1) (0 : Int64) M) := Fr.fillL rfl
  obtain ⟨r1, M1, k1, f1, h1⟩ := c_find1 (RG_fr hG f0 (by omega) (by omega) (by omega) (by omega)) (RT_fr hT f0 (by omega) (by omega)) g zy (fun c a b => fillL_at zy.1 a (by omega) (by omega))
  have hG1 := RG_fr (RG_fr hG f0 (by omega) (by omega) (by omega) (by omega)) f1 (by omega) (by omega) (by omega) (by omega)
  obtain ⟨M2, k2, f2, b2, d2⟩ := c_numberPits hG1 g zy h1
  have hG2 := RG_fr hG1 f2 (by omega) (by omega) (by omega) (by omega)
  have h2 : ∀ c, 0 ≤ c → c < nn A → fAtI (w + 12 + 3) (ni c) M2 = ni (tg A c) := fun c a b => by rw [f2.at (by omega)]; exact (h1 c a b).2
  have key : ∃ r M', lpM (fun s M9 => WY_find_L60 (w + 12) (w + 1) s M9) FUEL (0 : Int32) M2 = some (r, M') ∧ (Fr (fun p => p = w + 12 + 5 + 1) M2 M' ∧ ∀ c, 0 ≤ c → c < 36 → fAtI (w + 12 + 5) (ni c) M' = ni (if c < nn A then bsn A c else -1)) := by
    refine lpM_to (nn A).toNat (by omega) (fun i s M' => s = ni (i : Int) ∧ Fr (fun p => p = w + 12 + 5 + 1) M2 M' ∧ ∀ c, 0 ≤ c → c < 36 → fAtI (w + 12 + 5) (ni c) M' = ni (if c < nn A then (if c < i then bsn A c else ppn A c) else -1)) _ ?_ ?_ ⟨rfl, Fr.rfl', fun c a b => by rw [d2 c a b, if_neg (show ¬ c < ((0 : Nat) : Int) by omega)]⟩
    · rintro i hi s M3 ⟨rfl, hF, hd⟩
      have hG3 := RG_fr hG2 hF (by omega) (by omega) (by omega) (by omega)
      have hi0 : 0 ≤ (i : Int) ∧ (i : Int) < nn A := by omega
      obtain ⟨fr0, fr1, fr2⟩ := fin_rg g hi0.1 hi0.2
      have hend := c_endOf (y := w + 12) (M := M3) g (fun c a b => by rw [hF.at (by omega)]; exact h2 c a b) hi0.1 hi0.2
      unfold WY_find_L60
      rw [hG3.1.2.2.1, hend, b1_s, ni_s]
      simp (disch := omega) only [ni_le]
      rw [if_neg (by omega)]
      have hv : fAtI (w + 12 + 5) (ni (fin A i)) M3 = ni (bsn A i) := by
        rw [hd _ fr0 (by omega), if_pos fr1]
        have hff : fin A (fin A i) = fin A i := fin_stop fr2
        have e1 : bsn A (fin A i) = bsn A i := by unfold bsn; rw [hff]
        have e2 : ppn A (fin A i) = bsn A i := by
          unfold ppn
          split
          · exact e1
          · rename_i z; unfold bsn; rw [if_neg z]
        rw [e1, e2]; split <;> rfl
      rw [hv]
      refine ⟨_, _, rfl, rfl, hF.trans (Fr.put rfl), fun c a b => ?_⟩
      rw [fAtI_put zy.2.2 (by omega) (by omega) (by omega) (by omega) (by omega)]
      by_cases e : c = (i : Int)
      · subst e
        rw [if_pos ⟨rfl, rfl⟩, if_pos hi0.2, if_pos (by omega)]
      · rw [if_neg (fun z => e z.2), hd c a b]
        by_cases z : c < (i : Int)
        · simp only [z, show c < ((i + 1 : Nat) : Int) by omega]
        · simp only [z, show ¬ c < ((i + 1 : Nat) : Int) by omega]
    · rintro s M3 ⟨rfl, hF, hd⟩
      have hG3 := RG_fr hG2 hF (by omega) (by omega) (by omega) (by omega)
      refine ⟨(), M3, ?_, hF, fun c a b => ?_⟩
      · unfold WY_find_L60
        rw [hG3.1.2.2.1]
        simp (disch := omega) only [ni_le]
        rw [if_pos (by omega)]
      · rw [hd c a b]
        by_cases z : c < nn A
        · rw [if_pos z, if_pos z, if_pos (by omega)]
        · rw [if_neg z, if_neg z]
  obtain ⟨r3, M3, k3, f3, d3⟩ := key
  refine ⟨M3, ?_, ⟨?_, fun c a b => ⟨?_, ?_⟩, d3⟩, ?_⟩
  · unfold WY_find
    rw [k1, b2_s, k2, b2_s, k3, b2_s]
  · rw [f3.gI (by omega)]; exact b2
  · rw [f3.atL (by omega), f2.atL (by omega)]; exact (h1 c a b).1
  · rw [f3.at (by omega)]; exact h2 c a b
  · exact (((f0.mono (fun p hp => by omega)).trans (f1.mono (fun p hp => by omega))).trans (f2.mono (fun p hp => by omega))).trans (f3.mono (fun p hp => by omega))
