/-! 05.base: one region of cells at h, h+1, .. with a fixed layout; memory = what its ints and longs hold. AW: the machine over that. -/
abbrev Mem : Type := (Nat → Nat → Int32) × (Nat → Nat → Int64)
def gI (M : Mem) (o k : Nat) : Int32 := M.1 o k
def gL (M : Mem) (o k : Nat) : Int64 := M.2 o k
def sI (M : Mem) (o k : Nat) (v : Int32) : Mem := (fun a b => if a = o ∧ b = k then v else M.1 a b, M.2)
def sL (M : Mem) (o k : Nat) (v : Int64) : Mem := (M.1, fun a b => if a = o ∧ b = k then v else M.2 a b)
/-- an index that is in its row -/
def inb (i : Int32) (n : Nat) : Bool := decide (¬ (i < 0 ∨ n ≤ i.toNatClampNeg))
theorem inb_in {i : Int32} {n : Nat} (h : inb i n = true) : vp_in i n := (of_decide_eq_true h : ¬ (i < 0 ∨ n ≤ i.toNatClampNeg))
/-- binds: a reading call; a writing one; a test that must hold -/
def b1 {α β : Type} (x : Option α) (f : α → Option β) : Option β := x.bind f
def b2 {α β : Type} (x : Option (α × Mem)) (f : α → Mem → Option β) : Option β := x.bind (fun q => f q.1 q.2)
def ck {β : Type} (c : Bool) (x : Option β) : Option β := if c = true then x else none
theorem b1_some {α β : Type} {x : Option α} {f : α → Option β} {y : β} (h : b1 x f = some y) : ∃ a, x = some a ∧ f a = some y := Option.bind_eq_some_iff.mp h
theorem b2_some {α β : Type} {x : Option (α × Mem)} {f : α → Mem → Option β} {y : β} (h : b2 x f = some y) : ∃ a M, x = some (a, M) ∧ f a M = some y := by
  obtain ⟨⟨a, M⟩, h1, h2⟩ := Option.bind_eq_some_iff.mp h
  exact ⟨a, M, h1, h2⟩
theorem ck_some {β : Type} {c : Bool} {x : Option β} {y : β} (h : ck c x = some y) : c = true ∧ x = some y := by
  unfold ck at h
  split at h
  · exact ⟨‹_›, h⟩
  · cases h
/-- loops: inl goes on, inr leaves; lpR reads alone -/
def lpR {σ ρ : Type} (f : σ → Option (σ ⊕ ρ)) : Nat → σ → Option ρ
  | 0, _ => none
  | n + 1, s => (f s).bind (fun q => match q with
    | .inl s' => lpR f n s'
    | .inr r => some r)
def lpM {σ ρ : Type} (f : σ → Mem → Option ((σ ⊕ ρ) × Mem)) : Nat → σ → Mem → Option (ρ × Mem)
  | 0, _, _ => none
  | n + 1, s, M => (f s M).bind (fun q => match q.1 with
    | .inl s' => lpM f n s' q.2
    | .inr r => some (r, q.2))
theorem lpR_ind {σ ρ : Type} {f : σ → Option (σ ⊕ ρ)} {r : ρ} {P : σ → Prop}
    (step : ∀ s d, f s = some d → (∀ s', d = .inl s' → P s') → (d = .inr r ∨ ∃ s', d = .inl s') → P s) : ∀ n s, lpR f n s = some r → P s := by
  intro n
  induction n with
  | zero => intro s h; cases h
  | succ n ih =>
    intro s h
    simp only [lpR] at h
    obtain ⟨d, h1, h2⟩ := Option.bind_eq_some_iff.mp h
    cases d with
    | inl s' => exact step s _ h1 (fun s2 e => by cases e; exact ih s' h2) (Or.inr ⟨s', rfl⟩)
    | inr r2 => cases h2; exact step s _ h1 (fun s2 e => by cases e) (Or.inl rfl)
theorem lpM_ind {σ ρ : Type} {f : σ → Mem → Option ((σ ⊕ ρ) × Mem)} {r : ρ} {M9 : Mem} {P : σ → Mem → Prop}
    (step : ∀ s M d M', f s M = some (d, M') → (∀ s', d = .inl s' → P s' M') → ((d = .inr r ∧ M' = M9) ∨ ∃ s', d = .inl s') → P s M) : ∀ n s M, lpM f n s M = some (r, M9) → P s M := by
  intro n
  induction n with
  | zero => intro s M h; cases h
  | succ n ih =>
    intro s M h
    simp only [lpM] at h
    obtain ⟨⟨d, M1⟩, h1, h2⟩ := Option.bind_eq_some_iff.mp h
    cases d with
    | inl s' => exact step s M _ _ h1 (fun s2 e => by cases e; exact ih s' M1 h2) (Or.inr ⟨s', rfl⟩)
    | inr r2 => cases h2; exact step s M _ _ h1 (fun s2 e => by cases e) (Or.inl ⟨rfl, rfl⟩)
def FUEL : Nat := 1000000000000
def irm (x y : Int32) : Int32 := x - x / y * y
def lrm (x y : Int64) : Int64 := x - x / y * y
def lsh (x : Int64) (y : Int32) : Int64 := x <<< (y.toInt64 &&& 63)
def lsr (x : Int64) (y : Int32) : Int64 := x >>> (y.toInt64 &&& 63)
def lus (x : Int64) (y : Int32) : Int64 := (x.toUInt64 >>> (y.toInt64.toUInt64 &&& Int64.toUInt64 63)).toInt64
def nn64 (r : UInt64) : Bool := decide (r &&& 0x7fffffffffffffff ≤ 0x7ff0000000000000)
def dcl (x y : UInt64) : Int32 := Op.cmpValue (FP.dcmp x y) .l
/-- the fields of a kind: 0 int, 1 long, 2 a reference to the cell so far behind -/
def fl : Nat → List (Nat × Nat)
  | 0 => [(0, 0), (0, 0), (0, 0), (1, 0), (2, 1), (2, 3), (2, 5), (2, 7), (2, 9)]
  | 1 => [(2, 1), (2, 3), (2, 5), (2, 7), (2, 9), (2, 11), (2, 13), (2, 15), (2, 17), (2, 19), (2, 21)]
  | 2 => [(2, 1), (0, 0), (0, 0), (0, 0)]
  | 3 => [(2, 1)]
  | 4 => [(2, 1)]
  | 5 => [(0, 0), (2, 1), (2, 3), (2, 5)]
  | 6 => [(2, 1), (2, 12), (2, 19), (1, 0), (1, 0), (1, 0), (2, 42), (2, 44), (0, 0)]
  | 7 => [(2, 1), (2, 47), (2, 93), (2, 94), (0, 0), (0, 0)]
  | _ => [(2, 1), (2, 2), (2, 3), (0, 0), (0, 0), (2, 4), (0, 0), (0, 0), (0, 0), (2, 5), (2, 6), (2, 7), (0, 0), (1, 0), (1, 0), (2, 8), (2, 9), (0, 0), (2, 10), (2, 11), (2, 12), (0, 0), (0, 0), (0, 0), (2, 13)]
def gWorld : List (Nat × Nat) := [(6, 0), (0, 0), (3, 0), (9, 36), (3, 0), (9, 144), (3, 0), (9, 144), (3, 0), (9, 144), (3, 0), (9, 36), (5, 0), (4, 0), (10, 36), (3, 0), (9, 36), (3, 0), (9, 36), (1, 0), (4, 0), (10, 71), (3, 0), (9, 71), (3, 0), (9, 71), (3, 0), (9, 71), (3, 0), (9, 71), (3, 0), (9, 71), (3, 0), (9, 71), (3, 0), (9, 71), (3, 0), (9, 36), (3, 0), (9, 71), (3, 0), (9, 71), (3, 0), (9, 36), (3, 0), (9, 36)]
def gC : List (Nat × Nat) := [(7, 0)] ++ gWorld ++ gWorld ++ [(11, 4), (2, 0), (3, 0), (9, 150)] ++ gWorld ++ gWorld ++ gWorld ++ gWorld
def gM : List (Nat × Nat) := [(8, 0), (10, 513), (10, 2052), (10, 513), (10, 36), (9, 72), (10, 72), (9, 36), (10, 36), (9, 36), (9, 36), (10, 36), (9, 150), (9, 36)]
/-- where a region lies: the tables' numbers of the classes, of the array classes of int, long, World; the layout; the first address -/
abbrev Env1 : Type := va_G × (ClassId × ClassId × ClassId) × List (Nat × Nat) × Nat
def hY (Y : Env1) : Nat := Y.2.2.2
def gY (Y : Env1) : List (Nat × Nat) := Y.2.2.1
def fval (h : Nat) (M : Mem) (o i : Nat) (t : Nat × Nat) : Value := if t.1 = 0 then .int (gI M o i) else if t.1 = 1 then .long (gL M o i) else .ref (h + (o + t.2))
def fvals (h : Nat) (M : Mem) (k o : Nat) : List Value := (fl k).mapIdx (fun i t => fval h M o i t)
def cellY (Y : Env1) (M : Mem) (o : Nat) (q : Nat × Nat) : va_E :=
  if q.1 = 9 then .inl (Y.2.1.1, q.2, .inl (fun j => gI M o j))
  else if q.1 = 10 then .inl (Y.2.1.2.1, q.2, .inr (.inl (fun j => gL M o j)))
  else if q.1 = 11 then .inl (Y.2.1.2.2, q.2, .inr (.inr (.inr (.inr (fun j => some (hY Y + (97 + 46 * j)))))))
  else .inr (q.1, fvals (hY Y) M q.1 o)
def wl (Y : Env1) (M : Mem) : va_W := (gY Y).mapIdx (fun o q => (hY Y + o, cellY Y M o q))
def tysY (Y : Env1) : List (ClassId × FieldType) := [(Y.2.1.1, .int), (Y.2.1.2.1, .long), (Y.2.1.2.2, .object RX6)]
/-- the region's addresses -/
def AY (Y : Env1) : Nat → Prop := fun q => ∃ o, o < (gY Y).length ∧ q = hY Y + o
theorem wl_get {Y : Env1} {M : Mem} {o : Nat} {q : Nat × Nat} (h : (gY Y)[o]? = some q) : (wl Y M)[o]? = some (hY Y + o, cellY Y M o q) := by
  simp [wl, h]
theorem wl_D (Y : Env1) (M : Mem) : va_D (AY Y) (wl Y M) := by
  refine ⟨fun i j p q hi hj hpq => ?_, fun k q hk => ?_⟩
  · simp only [wl, List.getElem?_mapIdx, Option.map_eq_some_iff] at hi hj
    obtain ⟨a, -, rfl⟩ := hi
    obtain ⟨b, -, rfl⟩ := hj
    have : hY Y + i = hY Y + j := hpq
    omega
  · simp only [wl, List.getElem?_mapIdx, Option.map_eq_some_iff] at hk
    obtain ⟨a, ha, rfl⟩ := hk
    exact ⟨k, (List.getElem?_eq_some_iff.mp ha).1, rfl⟩
theorem wl_congr {Y : Env1} {M M' : Mem} {o : Nat} {q : Nat × Nat} {e : va_E} (h : (gY Y)[o]? = some q) (he : e = cellY Y M' o q) (hne : ∀ o' q', o' ≠ o → cellY Y M' o' q' = cellY Y M o' q') : (wl Y M).set o (hY Y + o, e) = wl Y M' := by
  apply List.ext_getElem?
  intro i
  by_cases hi : i = o
  · subst hi
    have hl := (List.getElem?_eq_some_iff.mp h).1
    rw [List.getElem?_set_self (by simpa [wl] using hl), wl_get h, he]
  · rw [List.getElem?_set_ne (Ne.symm hi)]
    simp only [wl, List.getElem?_mapIdx]
    cases hq : (gY Y)[i]? with
    | none => rfl
    | some q' => simp [hne i q' hi]
theorem cell_sI_ne {Y : Env1} {M : Mem} {o k : Nat} {v : Int32} {o' : Nat} {q : Nat × Nat} (h : o' ≠ o) : cellY Y (sI M o k v) o' q = cellY Y M o' q := by
  have h1 : ∀ j, gI (sI M o k v) o' j = gI M o' j := fun j => by simp [gI, sI, h]
  have h2 : ∀ j, gL (sI M o k v) o' j = gL M o' j := fun j => rfl
  simp only [cellY, fvals, fval, h1, h2]
theorem cell_sL_ne {Y : Env1} {M : Mem} {o k : Nat} {v : Int64} {o' : Nat} {q : Nat × Nat} (h : o' ≠ o) : cellY Y (sL M o k v) o' q = cellY Y M o' q := by
  have h1 : ∀ j, gI (sL M o k v) o' j = gI M o' j := fun j => rfl
  have h2 : ∀ j, gL (sL M o k v) o' j = gL M o' j := fun j => by simp [gL, sL, h]
  simp only [cellY, fvals, fval, h1, h2]
theorem fvals_get {h : Nat} {M : Mem} {k o i : Nat} {t : Nat × Nat} (hf : (fl k)[i]? = some t) : (fvals h M k o)[i]? = some (fval h M o i t) := by
  simp [fvals, hf]
theorem fvals_sI {h : Nat} {M : Mem} {k o i b : Nat} {v : Int32} (hf : (fl k)[i]? = some (0, b)) : (fvals h M k o).set i (.int v) = fvals h (sI M o i v) k o := by
  apply List.ext_getElem?
  intro j
  by_cases hj : j = i
  · subst hj
    have hl := (List.getElem?_eq_some_iff.mp hf).1
    rw [List.getElem?_set_self (by simpa [fvals] using hl), fvals_get hf]
    simp [fval, gI, sI]
  · rw [List.getElem?_set_ne (Ne.symm hj)]
    simp only [fvals, List.getElem?_mapIdx]
    cases hq : (fl k)[j]? with
    | none => rfl
    | some t => simp [fval, gI, gL, sI, hj]
theorem fvals_sL {h : Nat} {M : Mem} {k o i b : Nat} {v : Int64} (hf : (fl k)[i]? = some (1, b)) : (fvals h M k o).set i (.long v) = fvals h (sL M o i v) k o := by
  apply List.ext_getElem?
  intro j
  by_cases hj : j = i
  · subst hj
    have hl := (List.getElem?_eq_some_iff.mp hf).1
    rw [List.getElem?_set_self (by simpa [fvals] using hl), fvals_get hf]
    simp [fval, gL, sL]
  · rw [List.getElem?_set_ne (Ne.symm hj)]
    simp only [fvals, List.getElem?_mapIdx]
    cases hq : (fl k)[j]? with
    | none => rfl
    | some t => simp [fval, gI, gL, sL, hj]
/-- the method that walks: machine; its region; maxLocals, cells, slots, the end -/
abbrev Cx : Type := (Program × Launch × Env × Room × State × MethodId × Array Value × List Frame × Method × Code) × ((Nat → Prop) × Env1) × (Nat × Nat × Nat × (State → Prop))
def AW (X : Cx) (pc : Nat) (lv : List (Nat × Value)) (st : List Value) (M : Mem) : Prop :=
  ∀ (H : Heap) (locs : List Loc) (ls : Array Slot), lv_has ls X.2.2.1 lv → va_P X.2.1.2.1 vwCl (wl X.2.1.2 M) H → va_S X.2.1.1 X.1.2.2.2.2.1.heap H locs →
    W X.1.1 X.1.2.1 X.1.2.2.1 X.1.2.2.2.1 X.1.2.2.2.2.1 X.1.2.2.2.2.2.1 X.1.2.2.2.2.2.2.1 X.1.2.2.2.2.2.2.2.1 X.1.2.2.2.2.2.2.2.2.1 X.1.2.2.2.2.2.2.2.2.2 H locs X.2.2.2.1 X.2.2.2.2.1 X.2.2.2.2.2 (F0 X.1.2.2.2.2.2.1 pc ls st)
def TBL : List Cond := lw_tbl.filter goodWord
/-- the words of nest mates: the tables' alone, kept by what warms -/
def isN : Cond → Bool
  | .fieldLinkNest _ _ _ _ _ _ => true
  | .methodLinkNest _ _ _ _ => true
  | _ => false
def NST : List Cond := tables_1.filter isN
theorem isN_tab {w : Cond} (h : isN w = true) : w.onTables = true := by
  cases w <;> first | rfl | cases h
theorem isN_warm {w : Cond} (h : isN w = true) {s U : State} (hW : s.WarmedH U.vm) (hz : va_Nw w s) : va_Nw w U := by
  cases w <;> first | exact va_Nw.warmF hW hz | exact va_Nw.warmM hW hz | cases h
theorem nst_is {w : Cond} (h : w ∈ NST) : isN w = true := (List.mem_filter.mp h).2
theorem tz_1 {w : Cond} (h : w ∈ tables_1_1) : w ∈ tables_1 := List.mem_append_left _ h
theorem tz_2 {w : Cond} (h : w ∈ tables_1_2) : w ∈ tables_1 := List.mem_append_right _ (List.mem_append_left _ h)
theorem tz_3 {w : Cond} (h : w ∈ tables_1_3) : w ∈ tables_1 := List.mem_append_right _ (List.mem_append_right _ (List.mem_append_left _ h))
theorem tz_4 {w : Cond} (h : w ∈ tables_1_4) : w ∈ tables_1 := List.mem_append_right _ (List.mem_append_right _ (List.mem_append_right _ h))
theorem tb_z {w : Cond} (h : w ∈ tables_1) (hg : goodWord w = true) : w ∈ TBL := List.mem_filter.mpr ⟨List.mem_append_right _ h, hg⟩
theorem tb_n {w : Cond} (h : w ∈ tables_1) (hg : isN w = true) : w ∈ NST := List.mem_filter.mpr ⟨h, hg⟩
theorem tb_in {w : Cond} (h : w ∈ TBL) : w ∈ lw_tbl := (List.mem_filter.mp h).1
theorem tb_t (i : Nat) {w : Cond} (h : tables_1[i]? = some w) (hg : goodWord w = true) : w ∈ TBL := List.mem_filter.mpr ⟨List.mem_append_right _ (List.mem_of_getElem? h), hg⟩
theorem tb_s (i : Nat) {w : Cond} (h : (k2_sels lw_privs)[i]? = some w) (hg : goodWord w = true) : w ∈ TBL := List.mem_filter.mpr ⟨List.mem_append_left _ (List.mem_of_getElem? h), hg⟩
theorem tb_good {w : Cond} (h : w ∈ TBL) : GoodIn TBL (w :: TBL) := by
  intro v hv
  have hv : v ∈ TBL := (List.mem_cons.mp hv).elim (fun e => e ▸ h) id
  exact ⟨hv, good_of_word (List.mem_filter.mp hv).2⟩
def rmL (lev : Nat) : Room := { frames := lev, cells := 0, slots := 0, locals := 40 * lev }
/-- what a walk may use: the code cc of the class own, n locals, at its level of calls -/
def kG (G : List (Nat × Nat)) (o : Nat) : Nat := (G.getD o (99, 0)).1
def nG (G : List (Nat × Nat)) (o : Nat) : Nat := (G.getD o (99, 0)).2
abbrev kC (o : Nat) : Nat := kG gC o
abbrev nC (o : Nat) : Nat := nG gC o
abbrev kM (o : Nat) : Nat := kG gM o
abbrev nM (o : Nat) : Nat := nG gM o
theorem kG_get {G : List (Nat × Nat)} {o k : Nat} (h : kG G o = k) (hk : k < 99) : G[o]? = some (k, nG G o) := by
  subst h
  unfold kG nG at *
  rw [List.getD_eq_getElem?_getD] at *
  cases hq : G[o]? with
  | none => rw [hq] at hk; exact absurd hk (by decide)
  | some q => rfl
def CX (X : Cx) (cc : ByteArray) (own : String) (n lev : Nat) (G : List (Nat × Nat)) : Prop :=
  X.1.1.tables.exec = Jvm.exec ∧ X.1.2.2.2.2.2.2.2.2.2.code = cc ∧ X.1.2.2.2.2.2.2.2.2.2.maxLocals = n ∧ X.1.2.2.2.2.1.vm.findClass own = some X.1.2.2.2.2.2.1.cls ∧ (∀ w ∈ TBL, w.before X.1.2.2.2.2.2.2.1 X.1.2.2.2.2.1 = true) ∧ va_K X.2.1.2.1 vwCl (tysY X.2.1.2) X.1.2.2.2.2.1 ∧ (∀ q, AY X.2.1.2 q → X.2.1.1 q) ∧ X.2.2.1 = n ∧ lev ≤ X.1.2.2.2.1.frames ∧ 40 * lev ≤ X.1.2.2.2.1.locals ∧ X.2.2.2.1 ≤ X.1.2.2.2.1.cells ∧ X.2.2.2.2.1 ≤ X.1.2.2.2.1.slots ∧ gY X.2.1.2 = G ∧ ∀ w ∈ NST, va_Nw w X.1.2.2.2.2.1

theorem r_iload {X : Cx} {cc : ByteArray} {own : String} {n lev : Nat} {G : List (Nat × Nat)} (S : CX X cc own n lev G) {pc : Nat} {lv : List (Nat × Value)} {st : List Value} {M : Mem} {i : Nat} {x : Int32} (d : decode cc pc = .ok (.iload i, 2)) (j : Nat) (hj : lv[j]? = some (i, .int x)) (k9 : AW X (pc + 2) lv (.int x :: st) M) : AW X pc lv st M := fun H locs ls hl hP hS => lv_iload S.1 S.2.1 d (lv_at hl j hj) (k9 H locs ls hl hP hS)
theorem r_iload_n {X : Cx} {cc : ByteArray} {own : String} {n lev : Nat} {G : List (Nat × Nat)} (S : CX X cc own n lev G) {pc : Nat} {lv : List (Nat × Value)} {st : List Value} {M : Mem} {k : Fin 4} {x : Int32} (d : decode cc pc = .ok (.iload_n k, 1)) (j : Nat) (hj : lv[j]? = some ((k : Nat), .int x)) (k9 : AW X (pc + 1) lv (.int x :: st) M) : AW X pc lv st M := fun H locs ls hl hP hS => lv_iload_n S.1 S.2.1 d rfl (lv_at hl j hj) (k9 H locs ls hl hP hS)
theorem r_lload {X : Cx} {cc : ByteArray} {own : String} {n lev : Nat} {G : List (Nat × Nat)} (S : CX X cc own n lev G) {pc : Nat} {lv : List (Nat × Value)} {st : List Value} {M : Mem} {i : Nat} {x : Int64} (d : decode cc pc = .ok (.lload i, 2)) (j : Nat) (hj : lv[j]? = some (i, .long x)) (k9 : AW X (pc + 2) lv (.long x :: st) M) : AW X pc lv st M := fun H locs ls hl hP hS => lv_lload S.1 S.2.1 d (lv_at hl j hj) (k9 H locs ls hl hP hS)
theorem r_lload_n {X : Cx} {cc : ByteArray} {own : String} {n lev : Nat} {G : List (Nat × Nat)} (S : CX X cc own n lev G) {pc : Nat} {lv : List (Nat × Value)} {st : List Value} {M : Mem} {k : Fin 4} {x : Int64} (d : decode cc pc = .ok (.lload_n k, 1)) (j : Nat) (hj : lv[j]? = some ((k : Nat), .long x)) (k9 : AW X (pc + 1) lv (.long x :: st) M) : AW X pc lv st M := fun H locs ls hl hP hS => lv_lload_n S.1 S.2.1 d rfl (lv_at hl j hj) (k9 H locs ls hl hP hS)
theorem r_dload {X : Cx} {cc : ByteArray} {own : String} {n lev : Nat} {G : List (Nat × Nat)} (S : CX X cc own n lev G) {pc : Nat} {lv : List (Nat × Value)} {st : List Value} {M : Mem} {i : Nat} {x : UInt64} (d : decode cc pc = .ok (.dload i, 2)) (j : Nat) (hj : lv[j]? = some (i, .double x)) (k9 : AW X (pc + 2) lv (.double x :: st) M) : AW X pc lv st M := fun H locs ls hl hP hS => lv_dload S.1 S.2.1 d (lv_at hl j hj) (k9 H locs ls hl hP hS)
theorem r_dload_n {X : Cx} {cc : ByteArray} {own : String} {n lev : Nat} {G : List (Nat × Nat)} (S : CX X cc own n lev G) {pc : Nat} {lv : List (Nat × Value)} {st : List Value} {M : Mem} {k : Fin 4} {x : UInt64} (d : decode cc pc = .ok (.dload_n k, 1)) (j : Nat) (hj : lv[j]? = some ((k : Nat), .double x)) (k9 : AW X (pc + 1) lv (.double x :: st) M) : AW X pc lv st M := fun H locs ls hl hP hS => lv_dload_n S.1 S.2.1 d rfl (lv_at hl j hj) (k9 H locs ls hl hP hS)
theorem r_aload {X : Cx} {cc : ByteArray} {own : String} {n lev : Nat} {G : List (Nat × Nat)} (S : CX X cc own n lev G) {pc : Nat} {lv : List (Nat × Value)} {st : List Value} {M : Mem} {i : Nat} {x : Nat} (d : decode cc pc = .ok (.aload i, 2)) (j : Nat) (hj : lv[j]? = some (i, .ref x)) (k9 : AW X (pc + 2) lv (.ref x :: st) M) : AW X pc lv st M := fun H locs ls hl hP hS => lv_aload S.1 S.2.1 d (lv_at hl j hj) (k9 H locs ls hl hP hS)
theorem r_aload_n {X : Cx} {cc : ByteArray} {own : String} {n lev : Nat} {G : List (Nat × Nat)} (S : CX X cc own n lev G) {pc : Nat} {lv : List (Nat × Value)} {st : List Value} {M : Mem} {k : Fin 4} {x : Nat} (d : decode cc pc = .ok (.aload_n k, 1)) (j : Nat) (hj : lv[j]? = some ((k : Nat), .ref x)) (k9 : AW X (pc + 1) lv (.ref x :: st) M) : AW X pc lv st M := fun H locs ls hl hP hS => lv_aload_n S.1 S.2.1 d rfl (lv_at hl j hj) (k9 H locs ls hl hP hS)
theorem r_istore {X : Cx} {cc : ByteArray} {own : String} {n lev : Nat} {G : List (Nat × Nat)} (S : CX X cc own n lev G) {pc : Nat} {lv : List (Nat × Value)} {st : List Value} {M : Mem} {i : Nat} {x : Int32} {lv2 : List (Nat × Value)} (d : decode cc pc = .ok (.istore i, 2)) (hn : i < n) (hv : (i, Value.int x) :: lv.filter (fun q => !(q.1 == i) && !(q.1 + 1 == i && q.2.category == 2)) = lv2) (k9 : AW X (pc + 2) lv2 st M) : AW X pc lv (.int x :: st) M := fun H locs ls hl hP hS => lv_istore S.1 S.2.1 d hl (by rw [S.2.2.2.2.2.2.2.1]; exact hn) hv (fun ls2 hl2 => k9 H locs ls2 hl2 hP hS)
theorem r_istore_n {X : Cx} {cc : ByteArray} {own : String} {n lev : Nat} {G : List (Nat × Nat)} (S : CX X cc own n lev G) {pc : Nat} {lv : List (Nat × Value)} {st : List Value} {M : Mem} {k : Fin 4} {x : Int32} {lv2 : List (Nat × Value)} (d : decode cc pc = .ok (.istore_n k, 1)) (hn : (k : Nat) < n) (hv : ((k : Nat), Value.int x) :: lv.filter (fun q => !(q.1 == (k : Nat)) && !(q.1 + 1 == (k : Nat) && q.2.category == 2)) = lv2) (k9 : AW X (pc + 1) lv2 st M) : AW X pc lv (.int x :: st) M := fun H locs ls hl hP hS => lv_istore_n S.1 S.2.1 d rfl hl (by rw [S.2.2.2.2.2.2.2.1]; exact hn) hv (fun ls2 hl2 => k9 H locs ls2 hl2 hP hS)
theorem r_lstore {X : Cx} {cc : ByteArray} {own : String} {n lev : Nat} {G : List (Nat × Nat)} (S : CX X cc own n lev G) {pc : Nat} {lv : List (Nat × Value)} {st : List Value} {M : Mem} {i : Nat} {x : Int64} {lv2 : List (Nat × Value)} (d : decode cc pc = .ok (.lstore i, 2)) (hn : i + 1 < n) (hv : (i, Value.long x) :: lv.filter (fun q => !(q.1 == i) && (!(q.1 == i + 1) && !(q.1 + 1 == i && q.2.category == 2))) = lv2) (k9 : AW X (pc + 2) lv2 st M) : AW X pc lv (.long x :: st) M := fun H locs ls hl hP hS => lv_lstore S.1 S.2.1 d hl (by rw [S.2.2.2.2.2.2.2.1]; exact hn) hv (fun ls2 hl2 => k9 H locs ls2 hl2 hP hS)
theorem r_lstore_n {X : Cx} {cc : ByteArray} {own : String} {n lev : Nat} {G : List (Nat × Nat)} (S : CX X cc own n lev G) {pc : Nat} {lv : List (Nat × Value)} {st : List Value} {M : Mem} {k : Fin 4} {x : Int64} {lv2 : List (Nat × Value)} (d : decode cc pc = .ok (.lstore_n k, 1)) (hn : (k : Nat) + 1 < n) (hv : ((k : Nat), Value.long x) :: lv.filter (fun q => !(q.1 == (k : Nat)) && (!(q.1 == (k : Nat) + 1) && !(q.1 + 1 == (k : Nat) && q.2.category == 2))) = lv2) (k9 : AW X (pc + 1) lv2 st M) : AW X pc lv (.long x :: st) M := fun H locs ls hl hP hS => lv_lstore_n S.1 S.2.1 d rfl hl (by rw [S.2.2.2.2.2.2.2.1]; exact hn) hv (fun ls2 hl2 => k9 H locs ls2 hl2 hP hS)
theorem r_dstore {X : Cx} {cc : ByteArray} {own : String} {n lev : Nat} {G : List (Nat × Nat)} (S : CX X cc own n lev G) {pc : Nat} {lv : List (Nat × Value)} {st : List Value} {M : Mem} {i : Nat} {x : UInt64} {lv2 : List (Nat × Value)} (d : decode cc pc = .ok (.dstore i, 2)) (hn : i + 1 < n) (hv : (i, Value.double x) :: lv.filter (fun q => !(q.1 == i) && (!(q.1 == i + 1) && !(q.1 + 1 == i && q.2.category == 2))) = lv2) (k9 : AW X (pc + 2) lv2 st M) : AW X pc lv (.double x :: st) M := fun H locs ls hl hP hS => lv_dstore S.1 S.2.1 d hl (by rw [S.2.2.2.2.2.2.2.1]; exact hn) hv (fun ls2 hl2 => k9 H locs ls2 hl2 hP hS)
theorem r_dstore_n {X : Cx} {cc : ByteArray} {own : String} {n lev : Nat} {G : List (Nat × Nat)} (S : CX X cc own n lev G) {pc : Nat} {lv : List (Nat × Value)} {st : List Value} {M : Mem} {k : Fin 4} {x : UInt64} {lv2 : List (Nat × Value)} (d : decode cc pc = .ok (.dstore_n k, 1)) (hn : (k : Nat) + 1 < n) (hv : ((k : Nat), Value.double x) :: lv.filter (fun q => !(q.1 == (k : Nat)) && (!(q.1 == (k : Nat) + 1) && !(q.1 + 1 == (k : Nat) && q.2.category == 2))) = lv2) (k9 : AW X (pc + 1) lv2 st M) : AW X pc lv (.double x :: st) M := fun H locs ls hl hP hS => lv_dstore_n S.1 S.2.1 d rfl hl (by rw [S.2.2.2.2.2.2.2.1]; exact hn) hv (fun ls2 hl2 => k9 H locs ls2 hl2 hP hS)
theorem r_iinc {X : Cx} {cc : ByteArray} {own : String} {n lev : Nat} {G : List (Nat × Nat)} (S : CX X cc own n lev G) {pc : Nat} {lv : List (Nat × Value)} {st : List Value} {M : Mem} {i j : Nat} {c : Int} {x : Int32} {lv2 : List (Nat × Value)} (d : decode cc pc = .ok (.iinc i c, 3)) (hj : lv[j]? = some (i, .int x)) (hn : i < n) (hv : (i, Value.int (x + Int32.ofInt c)) :: lv.filter (fun q => !(q.1 == i) && !(q.1 + 1 == i && q.2.category == 2)) = lv2) (k9 : AW X (pc + 3) lv2 st M) : AW X pc lv st M := fun H locs ls hl hP hS => lv_iinc S.1 S.2.1 d hl hj rfl (by rw [S.2.2.2.2.2.2.2.1]; exact hn) hv (fun ls2 hl2 => k9 H locs ls2 hl2 hP hS)
theorem r_iadd {X : Cx} {cc : ByteArray} {own : String} {n lev : Nat} {G : List (Nat × Nat)} (S : CX X cc own n lev G) {pc : Nat} {lv : List (Nat × Value)} {st : List Value} {M : Mem} {x y : Int32} (d : decode cc pc = .ok (.iadd, 1)) (k9 : AW X (pc + 1) lv (.int (x + y) :: st) M) : AW X pc lv (.int y :: .int x :: st) M := fun H locs ls hl hP hS => lv_iadd S.1 S.2.1 d (k9 H locs ls hl hP hS)
theorem r_isub {X : Cx} {cc : ByteArray} {own : String} {n lev : Nat} {G : List (Nat × Nat)} (S : CX X cc own n lev G) {pc : Nat} {lv : List (Nat × Value)} {st : List Value} {M : Mem} {x y : Int32} (d : decode cc pc = .ok (.isub, 1)) (k9 : AW X (pc + 1) lv (.int (x - y) :: st) M) : AW X pc lv (.int y :: .int x :: st) M := fun H locs ls hl hP hS => lv_isub S.1 S.2.1 d (k9 H locs ls hl hP hS)
theorem r_imul {X : Cx} {cc : ByteArray} {own : String} {n lev : Nat} {G : List (Nat × Nat)} (S : CX X cc own n lev G) {pc : Nat} {lv : List (Nat × Value)} {st : List Value} {M : Mem} {x y : Int32} (d : decode cc pc = .ok (.imul, 1)) (k9 : AW X (pc + 1) lv (.int (x * y) :: st) M) : AW X pc lv (.int y :: .int x :: st) M := fun H locs ls hl hP hS => lv_imul S.1 S.2.1 d (k9 H locs ls hl hP hS)
theorem r_idiv {X : Cx} {cc : ByteArray} {own : String} {n lev : Nat} {G : List (Nat × Nat)} (S : CX X cc own n lev G) {pc : Nat} {lv : List (Nat × Value)} {st : List Value} {M : Mem} {x y : Int32} (d : decode cc pc = .ok (.idiv, 1)) (hy : ¬ y = 0) (k9 : AW X (pc + 1) lv (.int (x / y) :: st) M) : AW X pc lv (.int y :: .int x :: st) M := fun H locs ls hl hP hS => lv_idiv S.1 S.2.1 d hy (k9 H locs ls hl hP hS)
theorem r_irem {X : Cx} {cc : ByteArray} {own : String} {n lev : Nat} {G : List (Nat × Nat)} (S : CX X cc own n lev G) {pc : Nat} {lv : List (Nat × Value)} {st : List Value} {M : Mem} {x y : Int32} (d : decode cc pc = .ok (.irem, 1)) (hy : ¬ y = 0) (k9 : AW X (pc + 1) lv (.int (irm x y) :: st) M) : AW X pc lv (.int y :: .int x :: st) M := fun H locs ls hl hP hS => lv_irem S.1 S.2.1 d hy (k9 H locs ls hl hP hS)
theorem r_ladd {X : Cx} {cc : ByteArray} {own : String} {n lev : Nat} {G : List (Nat × Nat)} (S : CX X cc own n lev G) {pc : Nat} {lv : List (Nat × Value)} {st : List Value} {M : Mem} {x y : Int64} (d : decode cc pc = .ok (.ladd, 1)) (k9 : AW X (pc + 1) lv (.long (x + y) :: st) M) : AW X pc lv (.long y :: .long x :: st) M := fun H locs ls hl hP hS => lv_ladd S.1 S.2.1 d (k9 H locs ls hl hP hS)
theorem r_lsub {X : Cx} {cc : ByteArray} {own : String} {n lev : Nat} {G : List (Nat × Nat)} (S : CX X cc own n lev G) {pc : Nat} {lv : List (Nat × Value)} {st : List Value} {M : Mem} {x y : Int64} (d : decode cc pc = .ok (.lsub, 1)) (k9 : AW X (pc + 1) lv (.long (x - y) :: st) M) : AW X pc lv (.long y :: .long x :: st) M := fun H locs ls hl hP hS => lv_lsub S.1 S.2.1 d (k9 H locs ls hl hP hS)
theorem r_lmul {X : Cx} {cc : ByteArray} {own : String} {n lev : Nat} {G : List (Nat × Nat)} (S : CX X cc own n lev G) {pc : Nat} {lv : List (Nat × Value)} {st : List Value} {M : Mem} {x y : Int64} (d : decode cc pc = .ok (.lmul, 1)) (k9 : AW X (pc + 1) lv (.long (x * y) :: st) M) : AW X pc lv (.long y :: .long x :: st) M := fun H locs ls hl hP hS => lv_lmul S.1 S.2.1 d (k9 H locs ls hl hP hS)
theorem r_ldiv {X : Cx} {cc : ByteArray} {own : String} {n lev : Nat} {G : List (Nat × Nat)} (S : CX X cc own n lev G) {pc : Nat} {lv : List (Nat × Value)} {st : List Value} {M : Mem} {x y : Int64} (d : decode cc pc = .ok (.ldiv, 1)) (hy : ¬ y = 0) (k9 : AW X (pc + 1) lv (.long (x / y) :: st) M) : AW X pc lv (.long y :: .long x :: st) M := fun H locs ls hl hP hS => lv_ldiv S.1 S.2.1 d hy (k9 H locs ls hl hP hS)
theorem r_lrem {X : Cx} {cc : ByteArray} {own : String} {n lev : Nat} {G : List (Nat × Nat)} (S : CX X cc own n lev G) {pc : Nat} {lv : List (Nat × Value)} {st : List Value} {M : Mem} {x y : Int64} (d : decode cc pc = .ok (.lrem, 1)) (hy : ¬ y = 0) (k9 : AW X (pc + 1) lv (.long (lrm x y) :: st) M) : AW X pc lv (.long y :: .long x :: st) M := fun H locs ls hl hP hS => lv_lrem S.1 S.2.1 d hy (k9 H locs ls hl hP hS)
theorem r_land {X : Cx} {cc : ByteArray} {own : String} {n lev : Nat} {G : List (Nat × Nat)} (S : CX X cc own n lev G) {pc : Nat} {lv : List (Nat × Value)} {st : List Value} {M : Mem} {x y : Int64} (d : decode cc pc = .ok (.land, 1)) (k9 : AW X (pc + 1) lv (.long (x &&& y) :: st) M) : AW X pc lv (.long y :: .long x :: st) M := fun H locs ls hl hP hS => lv_land S.1 S.2.1 d (k9 H locs ls hl hP hS)
theorem r_lor {X : Cx} {cc : ByteArray} {own : String} {n lev : Nat} {G : List (Nat × Nat)} (S : CX X cc own n lev G) {pc : Nat} {lv : List (Nat × Value)} {st : List Value} {M : Mem} {x y : Int64} (d : decode cc pc = .ok (.lor, 1)) (k9 : AW X (pc + 1) lv (.long (x ||| y) :: st) M) : AW X pc lv (.long y :: .long x :: st) M := fun H locs ls hl hP hS => lv_lor S.1 S.2.1 d (k9 H locs ls hl hP hS)
theorem r_lxor {X : Cx} {cc : ByteArray} {own : String} {n lev : Nat} {G : List (Nat × Nat)} (S : CX X cc own n lev G) {pc : Nat} {lv : List (Nat × Value)} {st : List Value} {M : Mem} {x y : Int64} (d : decode cc pc = .ok (.lxor, 1)) (k9 : AW X (pc + 1) lv (.long (x ^^^ y) :: st) M) : AW X pc lv (.long y :: .long x :: st) M := fun H locs ls hl hP hS => lv_lxor S.1 S.2.1 d (k9 H locs ls hl hP hS)
theorem r_iand {X : Cx} {cc : ByteArray} {own : String} {n lev : Nat} {G : List (Nat × Nat)} (S : CX X cc own n lev G) {pc : Nat} {lv : List (Nat × Value)} {st : List Value} {M : Mem} {x y : Int32} (d : decode cc pc = .ok (.iand, 1)) (k9 : AW X (pc + 1) lv (.int (x &&& y) :: st) M) : AW X pc lv (.int y :: .int x :: st) M := fun H locs ls hl hP hS => lv_iand S.1 S.2.1 d (k9 H locs ls hl hP hS)
theorem r_lshl {X : Cx} {cc : ByteArray} {own : String} {n lev : Nat} {G : List (Nat × Nat)} (S : CX X cc own n lev G) {pc : Nat} {lv : List (Nat × Value)} {st : List Value} {M : Mem} {x : Int64} {y : Int32} (d : decode cc pc = .ok (.lshl, 1)) (k9 : AW X (pc + 1) lv (.long (lsh x y) :: st) M) : AW X pc lv (.int y :: .long x :: st) M := fun H locs ls hl hP hS => lv_lshl S.1 S.2.1 d rfl (k9 H locs ls hl hP hS)
theorem r_lshr {X : Cx} {cc : ByteArray} {own : String} {n lev : Nat} {G : List (Nat × Nat)} (S : CX X cc own n lev G) {pc : Nat} {lv : List (Nat × Value)} {st : List Value} {M : Mem} {x : Int64} {y : Int32} (d : decode cc pc = .ok (.lshr, 1)) (k9 : AW X (pc + 1) lv (.long (lsr x y) :: st) M) : AW X pc lv (.int y :: .long x :: st) M := fun H locs ls hl hP hS => lv_lshr S.1 S.2.1 d rfl (k9 H locs ls hl hP hS)
theorem r_lushr {X : Cx} {cc : ByteArray} {own : String} {n lev : Nat} {G : List (Nat × Nat)} (S : CX X cc own n lev G) {pc : Nat} {lv : List (Nat × Value)} {st : List Value} {M : Mem} {x : Int64} {y : Int32} (d : decode cc pc = .ok (.lushr, 1)) (k9 : AW X (pc + 1) lv (.long (lus x y) :: st) M) : AW X pc lv (.int y :: .long x :: st) M := fun H locs ls hl hP hS => lv_lushr S.1 S.2.1 d rfl (k9 H locs ls hl hP hS)
theorem r_lneg {X : Cx} {cc : ByteArray} {own : String} {n lev : Nat} {G : List (Nat × Nat)} (S : CX X cc own n lev G) {pc : Nat} {lv : List (Nat × Value)} {st : List Value} {M : Mem} {x : Int64} (d : decode cc pc = .ok (.lneg, 1)) (k9 : AW X (pc + 1) lv (.long (-x) :: st) M) : AW X pc lv (.long x :: st) M := fun H locs ls hl hP hS => lv_lneg S.1 S.2.1 d (k9 H locs ls hl hP hS)
theorem r_i2l {X : Cx} {cc : ByteArray} {own : String} {n lev : Nat} {G : List (Nat × Nat)} (S : CX X cc own n lev G) {pc : Nat} {lv : List (Nat × Value)} {st : List Value} {M : Mem} {x : Int32} (d : decode cc pc = .ok (.i2l, 1)) (k9 : AW X (pc + 1) lv (.long x.toInt64 :: st) M) : AW X pc lv (.int x :: st) M := fun H locs ls hl hP hS => lv_i2l S.1 S.2.1 d rfl (k9 H locs ls hl hP hS)
theorem r_l2i {X : Cx} {cc : ByteArray} {own : String} {n lev : Nat} {G : List (Nat × Nat)} (S : CX X cc own n lev G) {pc : Nat} {lv : List (Nat × Value)} {st : List Value} {M : Mem} {x : Int64} (d : decode cc pc = .ok (.l2i, 1)) (k9 : AW X (pc + 1) lv (.int x.toInt32 :: st) M) : AW X pc lv (.long x :: st) M := fun H locs ls hl hP hS => lv_l2i S.1 S.2.1 d rfl (k9 H locs ls hl hP hS)
theorem r_iconst {X : Cx} {cc : ByteArray} {own : String} {n lev : Nat} {G : List (Nat × Nat)} (S : CX X cc own n lev G) {pc : Nat} {lv : List (Nat × Value)} {st : List Value} {M : Mem} {c : Int} (v : Int32) (d : decode cc pc = .ok (.iconst c, 1)) (hv : Int32.ofInt c = v) (k9 : AW X (pc + 1) lv (.int v :: st) M) : AW X pc lv st M := fun H locs ls hl hP hS => lv_iconst S.1 S.2.1 d hv (k9 H locs ls hl hP hS)
theorem r_if_eq {X : Cx} {cc : ByteArray} {own : String} {n lev : Nat} {G : List (Nat × Nat)} (S : CX X cc own n lev G) {pc : Nat} {lv : List (Nat × Value)} {st : List Value} {M : Mem} {x : Int32} {off : Int} (tgt : Nat) (d : decode cc pc = .ok (.ifCond .eq off, 3)) (ht : (pc : Int) + off = (tgt : Int)) (kt : x = 0 → AW X tgt lv st M) (kf : ¬ x = 0 → AW X (pc + 3) lv st M) : AW X pc lv (.int x :: st) M := fun H locs ls hl hP hS => lv_if_eq S.1 S.2.1 d ht (fun c => kt c H locs ls hl hP hS) (fun c => kf c H locs ls hl hP hS)
theorem r_icmp_eq {X : Cx} {cc : ByteArray} {own : String} {n lev : Nat} {G : List (Nat × Nat)} (S : CX X cc own n lev G) {pc : Nat} {lv : List (Nat × Value)} {st : List Value} {M : Mem} {x y : Int32} {off : Int} (tgt : Nat) (d : decode cc pc = .ok (.if_icmp .eq off, 3)) (ht : (pc : Int) + off = (tgt : Int)) (kt : x = y → AW X tgt lv st M) (kf : ¬ x = y → AW X (pc + 3) lv st M) : AW X pc lv (.int y :: .int x :: st) M := fun H locs ls hl hP hS => lv_icmp_eq S.1 S.2.1 d ht (fun c => kt c H locs ls hl hP hS) (fun c => kf c H locs ls hl hP hS)
theorem r_if_ne {X : Cx} {cc : ByteArray} {own : String} {n lev : Nat} {G : List (Nat × Nat)} (S : CX X cc own n lev G) {pc : Nat} {lv : List (Nat × Value)} {st : List Value} {M : Mem} {x : Int32} {off : Int} (tgt : Nat) (d : decode cc pc = .ok (.ifCond .ne off, 3)) (ht : (pc : Int) + off = (tgt : Int)) (kt : ¬ x = 0 → AW X tgt lv st M) (kf : x = 0 → AW X (pc + 3) lv st M) : AW X pc lv (.int x :: st) M := fun H locs ls hl hP hS => lv_if_ne S.1 S.2.1 d ht (fun c => kt c H locs ls hl hP hS) (fun c => kf c H locs ls hl hP hS)
theorem r_icmp_ne {X : Cx} {cc : ByteArray} {own : String} {n lev : Nat} {G : List (Nat × Nat)} (S : CX X cc own n lev G) {pc : Nat} {lv : List (Nat × Value)} {st : List Value} {M : Mem} {x y : Int32} {off : Int} (tgt : Nat) (d : decode cc pc = .ok (.if_icmp .ne off, 3)) (ht : (pc : Int) + off = (tgt : Int)) (kt : ¬ x = y → AW X tgt lv st M) (kf : x = y → AW X (pc + 3) lv st M) : AW X pc lv (.int y :: .int x :: st) M := fun H locs ls hl hP hS => lv_icmp_ne S.1 S.2.1 d ht (fun c => kt c H locs ls hl hP hS) (fun c => kf c H locs ls hl hP hS)
theorem r_if_lt {X : Cx} {cc : ByteArray} {own : String} {n lev : Nat} {G : List (Nat × Nat)} (S : CX X cc own n lev G) {pc : Nat} {lv : List (Nat × Value)} {st : List Value} {M : Mem} {x : Int32} {off : Int} (tgt : Nat) (d : decode cc pc = .ok (.ifCond .lt off, 3)) (ht : (pc : Int) + off = (tgt : Int)) (kt : x < 0 → AW X tgt lv st M) (kf : ¬ x < 0 → AW X (pc + 3) lv st M) : AW X pc lv (.int x :: st) M := fun H locs ls hl hP hS => lv_if_lt S.1 S.2.1 d ht (fun c => kt c H locs ls hl hP hS) (fun c => kf c H locs ls hl hP hS)
theorem r_icmp_lt {X : Cx} {cc : ByteArray} {own : String} {n lev : Nat} {G : List (Nat × Nat)} (S : CX X cc own n lev G) {pc : Nat} {lv : List (Nat × Value)} {st : List Value} {M : Mem} {x y : Int32} {off : Int} (tgt : Nat) (d : decode cc pc = .ok (.if_icmp .lt off, 3)) (ht : (pc : Int) + off = (tgt : Int)) (kt : x < y → AW X tgt lv st M) (kf : ¬ x < y → AW X (pc + 3) lv st M) : AW X pc lv (.int y :: .int x :: st) M := fun H locs ls hl hP hS => lv_icmp_lt S.1 S.2.1 d ht (fun c => kt c H locs ls hl hP hS) (fun c => kf c H locs ls hl hP hS)
theorem r_if_ge {X : Cx} {cc : ByteArray} {own : String} {n lev : Nat} {G : List (Nat × Nat)} (S : CX X cc own n lev G) {pc : Nat} {lv : List (Nat × Value)} {st : List Value} {M : Mem} {x : Int32} {off : Int} (tgt : Nat) (d : decode cc pc = .ok (.ifCond .ge off, 3)) (ht : (pc : Int) + off = (tgt : Int)) (kt : 0 ≤ x → AW X tgt lv st M) (kf : ¬ 0 ≤ x → AW X (pc + 3) lv st M) : AW X pc lv (.int x :: st) M := fun H locs ls hl hP hS => lv_if_ge S.1 S.2.1 d ht (fun c => kt c H locs ls hl hP hS) (fun c => kf c H locs ls hl hP hS)
theorem r_icmp_ge {X : Cx} {cc : ByteArray} {own : String} {n lev : Nat} {G : List (Nat × Nat)} (S : CX X cc own n lev G) {pc : Nat} {lv : List (Nat × Value)} {st : List Value} {M : Mem} {x y : Int32} {off : Int} (tgt : Nat) (d : decode cc pc = .ok (.if_icmp .ge off, 3)) (ht : (pc : Int) + off = (tgt : Int)) (kt : y ≤ x → AW X tgt lv st M) (kf : ¬ y ≤ x → AW X (pc + 3) lv st M) : AW X pc lv (.int y :: .int x :: st) M := fun H locs ls hl hP hS => lv_icmp_ge S.1 S.2.1 d ht (fun c => kt c H locs ls hl hP hS) (fun c => kf c H locs ls hl hP hS)
theorem r_if_gt {X : Cx} {cc : ByteArray} {own : String} {n lev : Nat} {G : List (Nat × Nat)} (S : CX X cc own n lev G) {pc : Nat} {lv : List (Nat × Value)} {st : List Value} {M : Mem} {x : Int32} {off : Int} (tgt : Nat) (d : decode cc pc = .ok (.ifCond .gt off, 3)) (ht : (pc : Int) + off = (tgt : Int)) (kt : 0 < x → AW X tgt lv st M) (kf : ¬ 0 < x → AW X (pc + 3) lv st M) : AW X pc lv (.int x :: st) M := fun H locs ls hl hP hS => lv_if_gt S.1 S.2.1 d ht (fun c => kt c H locs ls hl hP hS) (fun c => kf c H locs ls hl hP hS)
theorem r_icmp_gt {X : Cx} {cc : ByteArray} {own : String} {n lev : Nat} {G : List (Nat × Nat)} (S : CX X cc own n lev G) {pc : Nat} {lv : List (Nat × Value)} {st : List Value} {M : Mem} {x y : Int32} {off : Int} (tgt : Nat) (d : decode cc pc = .ok (.if_icmp .gt off, 3)) (ht : (pc : Int) + off = (tgt : Int)) (kt : y < x → AW X tgt lv st M) (kf : ¬ y < x → AW X (pc + 3) lv st M) : AW X pc lv (.int y :: .int x :: st) M := fun H locs ls hl hP hS => lv_icmp_gt S.1 S.2.1 d ht (fun c => kt c H locs ls hl hP hS) (fun c => kf c H locs ls hl hP hS)
theorem r_if_le {X : Cx} {cc : ByteArray} {own : String} {n lev : Nat} {G : List (Nat × Nat)} (S : CX X cc own n lev G) {pc : Nat} {lv : List (Nat × Value)} {st : List Value} {M : Mem} {x : Int32} {off : Int} (tgt : Nat) (d : decode cc pc = .ok (.ifCond .le off, 3)) (ht : (pc : Int) + off = (tgt : Int)) (kt : x ≤ 0 → AW X tgt lv st M) (kf : ¬ x ≤ 0 → AW X (pc + 3) lv st M) : AW X pc lv (.int x :: st) M := fun H locs ls hl hP hS => lv_if_le S.1 S.2.1 d ht (fun c => kt c H locs ls hl hP hS) (fun c => kf c H locs ls hl hP hS)
theorem r_icmp_le {X : Cx} {cc : ByteArray} {own : String} {n lev : Nat} {G : List (Nat × Nat)} (S : CX X cc own n lev G) {pc : Nat} {lv : List (Nat × Value)} {st : List Value} {M : Mem} {x y : Int32} {off : Int} (tgt : Nat) (d : decode cc pc = .ok (.if_icmp .le off, 3)) (ht : (pc : Int) + off = (tgt : Int)) (kt : x ≤ y → AW X tgt lv st M) (kf : ¬ x ≤ y → AW X (pc + 3) lv st M) : AW X pc lv (.int y :: .int x :: st) M := fun H locs ls hl hP hS => lv_icmp_le S.1 S.2.1 d ht (fun c => kt c H locs ls hl hP hS) (fun c => kf c H locs ls hl hP hS)
theorem lgc_eq {x y : Int64} : lg_cmp x y = 0 ↔ x = y := by
  unfold lg_cmp
  split
  · rename_i h; constructor
    · intro h2; exact absurd h2 (by decide)
    · rintro rfl; exact absurd h Int64.lt_irrefl
  · split <;> rename_i h2
    · simp [h2]
    · simp [h2]
theorem lgc_lt {x y : Int64} : lg_cmp x y < 0 ↔ x < y := by
  unfold lg_cmp
  split
  · rename_i h; constructor
    · intro h2; exact absurd h2 (by decide)
    · intro h2; exact absurd (Int64.lt_trans h h2) Int64.lt_irrefl
  · rename_i h; split <;> rename_i h2
    · subst h2; constructor
      · intro h3; exact absurd h3 (by decide)
      · intro h3; exact absurd h3 h
    · constructor
      · intro _; exact Int64.lt_of_le_of_ne (Int64.not_lt.mp h) h2
      · intro _; decide
theorem lgc_gt {x y : Int64} : 0 < lg_cmp x y ↔ y < x := by
  unfold lg_cmp
  split
  · rename_i h; simp [h]
  · rename_i h; split <;> rename_i h2
    · subst h2; constructor
      · intro h3; exact absurd h3 (by decide)
      · intro h3; exact absurd h3 h
    · constructor
      · intro h3; exact absurd h3 (by decide)
      · intro h3; exact absurd h3 h
theorem lgc_ge {x y : Int64} : 0 ≤ lg_cmp x y ↔ y ≤ x := by
  rw [← Int32.not_lt, lgc_lt, Int64.not_lt]
theorem lgc_le {x y : Int64} : lg_cmp x y ≤ 0 ↔ x ≤ y := by
  rw [← Int32.not_lt, lgc_gt, Int64.not_lt]
theorem r_lcmp_eq {X : Cx} {cc : ByteArray} {own : String} {n lev : Nat} {G : List (Nat × Nat)} (S : CX X cc own n lev G) {pc : Nat} {lv : List (Nat × Value)} {st : List Value} {M : Mem} {x y : Int64} {off : Int} (tgt : Nat) (d : decode cc pc = .ok (.lcmp, 1)) (d2 : decode cc (pc + 1) = .ok (.ifCond .eq off, 3)) (ht : ((pc + 1 : Nat) : Int) + off = (tgt : Int)) (kt : x = y → AW X tgt lv st M) (kf : ¬ x = y → AW X (pc + 4) lv st M) : AW X pc lv (.long y :: .long x :: st) M := fun H locs ls hl hP hS => W.lcmp S.1 S.2.1 d (lv_if_eq S.1 S.2.1 d2 ht (fun c => kt (lgc_eq.mp c) H locs ls hl hP hS) (fun c => kf (fun q => c (lgc_eq.mpr q)) H locs ls hl hP hS))
theorem r_lcmp_ne {X : Cx} {cc : ByteArray} {own : String} {n lev : Nat} {G : List (Nat × Nat)} (S : CX X cc own n lev G) {pc : Nat} {lv : List (Nat × Value)} {st : List Value} {M : Mem} {x y : Int64} {off : Int} (tgt : Nat) (d : decode cc pc = .ok (.lcmp, 1)) (d2 : decode cc (pc + 1) = .ok (.ifCond .ne off, 3)) (ht : ((pc + 1 : Nat) : Int) + off = (tgt : Int)) (kt : ¬ x = y → AW X tgt lv st M) (kf : x = y → AW X (pc + 4) lv st M) : AW X pc lv (.long y :: .long x :: st) M := fun H locs ls hl hP hS => W.lcmp S.1 S.2.1 d (lv_if_ne S.1 S.2.1 d2 ht (fun c => kt (fun q => c (lgc_eq.mpr q)) H locs ls hl hP hS) (fun c => kf (lgc_eq.mp c) H locs ls hl hP hS))
theorem r_lcmp_lt {X : Cx} {cc : ByteArray} {own : String} {n lev : Nat} {G : List (Nat × Nat)} (S : CX X cc own n lev G) {pc : Nat} {lv : List (Nat × Value)} {st : List Value} {M : Mem} {x y : Int64} {off : Int} (tgt : Nat) (d : decode cc pc = .ok (.lcmp, 1)) (d2 : decode cc (pc + 1) = .ok (.ifCond .lt off, 3)) (ht : ((pc + 1 : Nat) : Int) + off = (tgt : Int)) (kt : x < y → AW X tgt lv st M) (kf : ¬ x < y → AW X (pc + 4) lv st M) : AW X pc lv (.long y :: .long x :: st) M := fun H locs ls hl hP hS => W.lcmp S.1 S.2.1 d (lv_if_lt S.1 S.2.1 d2 ht (fun c => kt (lgc_lt.mp c) H locs ls hl hP hS) (fun c => kf (fun q => c (lgc_lt.mpr q)) H locs ls hl hP hS))
theorem r_lcmp_ge {X : Cx} {cc : ByteArray} {own : String} {n lev : Nat} {G : List (Nat × Nat)} (S : CX X cc own n lev G) {pc : Nat} {lv : List (Nat × Value)} {st : List Value} {M : Mem} {x y : Int64} {off : Int} (tgt : Nat) (d : decode cc pc = .ok (.lcmp, 1)) (d2 : decode cc (pc + 1) = .ok (.ifCond .ge off, 3)) (ht : ((pc + 1 : Nat) : Int) + off = (tgt : Int)) (kt : y ≤ x → AW X tgt lv st M) (kf : ¬ y ≤ x → AW X (pc + 4) lv st M) : AW X pc lv (.long y :: .long x :: st) M := fun H locs ls hl hP hS => W.lcmp S.1 S.2.1 d (lv_if_ge S.1 S.2.1 d2 ht (fun c => kt (lgc_ge.mp c) H locs ls hl hP hS) (fun c => kf (fun q => c (lgc_ge.mpr q)) H locs ls hl hP hS))
theorem r_lcmp_gt {X : Cx} {cc : ByteArray} {own : String} {n lev : Nat} {G : List (Nat × Nat)} (S : CX X cc own n lev G) {pc : Nat} {lv : List (Nat × Value)} {st : List Value} {M : Mem} {x y : Int64} {off : Int} (tgt : Nat) (d : decode cc pc = .ok (.lcmp, 1)) (d2 : decode cc (pc + 1) = .ok (.ifCond .gt off, 3)) (ht : ((pc + 1 : Nat) : Int) + off = (tgt : Int)) (kt : y < x → AW X tgt lv st M) (kf : ¬ y < x → AW X (pc + 4) lv st M) : AW X pc lv (.long y :: .long x :: st) M := fun H locs ls hl hP hS => W.lcmp S.1 S.2.1 d (lv_if_gt S.1 S.2.1 d2 ht (fun c => kt (lgc_gt.mp c) H locs ls hl hP hS) (fun c => kf (fun q => c (lgc_gt.mpr q)) H locs ls hl hP hS))
theorem r_lcmp_le {X : Cx} {cc : ByteArray} {own : String} {n lev : Nat} {G : List (Nat × Nat)} (S : CX X cc own n lev G) {pc : Nat} {lv : List (Nat × Value)} {st : List Value} {M : Mem} {x y : Int64} {off : Int} (tgt : Nat) (d : decode cc pc = .ok (.lcmp, 1)) (d2 : decode cc (pc + 1) = .ok (.ifCond .le off, 3)) (ht : ((pc + 1 : Nat) : Int) + off = (tgt : Int)) (kt : x ≤ y → AW X tgt lv st M) (kf : ¬ x ≤ y → AW X (pc + 4) lv st M) : AW X pc lv (.long y :: .long x :: st) M := fun H locs ls hl hP hS => W.lcmp S.1 S.2.1 d (lv_if_le S.1 S.2.1 d2 ht (fun c => kt (lgc_le.mp c) H locs ls hl hP hS) (fun c => kf (fun q => c (lgc_le.mpr q)) H locs ls hl hP hS))
theorem r_goto {X : Cx} {cc : ByteArray} {own : String} {n lev : Nat} {G : List (Nat × Nat)} (S : CX X cc own n lev G) {pc : Nat} {lv : List (Nat × Value)} {st : List Value} {M : Mem} {off : Int} (tgt : Nat) (d : decode cc pc = .ok (.goto off, 3)) (ht : (pc : Int) + off = (tgt : Int)) (k9 : AW X tgt lv st M) : AW X pc lv st M := fun H locs ls hl hP hS => lv_goto S.1 S.2.1 d ht (k9 H locs ls hl hP hS)
theorem r_dup {X : Cx} {cc : ByteArray} {own : String} {n lev : Nat} {G : List (Nat × Nat)} (S : CX X cc own n lev G) {pc : Nat} {lv : List (Nat × Value)} {st : List Value} {M : Mem} {v : Value} (d : decode cc pc = .ok (.dup, 1)) (hv : v.category = 1) (k9 : AW X (pc + 1) lv (v :: v :: st) M) : AW X pc lv (v :: st) M := fun H locs ls hl hP hS => lv_dup S.1 S.2.1 d hv (k9 H locs ls hl hP hS)
theorem r_pop {X : Cx} {cc : ByteArray} {own : String} {n lev : Nat} {G : List (Nat × Nat)} (S : CX X cc own n lev G) {pc : Nat} {lv : List (Nat × Value)} {st : List Value} {M : Mem} {v : Value} (d : decode cc pc = .ok (.pop, 1)) (hv : v.category = 1) (k9 : AW X (pc + 1) lv st M) : AW X pc lv (v :: st) M := fun H locs ls hl hP hS => lv_pop S.1 S.2.1 d hv (k9 H locs ls hl hP hS)
theorem r_dup2 {X : Cx} {cc : ByteArray} {own : String} {n lev : Nat} {G : List (Nat × Nat)} (S : CX X cc own n lev G) {pc : Nat} {lv : List (Nat × Value)} {st : List Value} {M : Mem} {v w : Value} (d : decode cc pc = .ok (.dup2, 1)) (hv : v.category = 1) (hw : w.category = 1) (k9 : AW X (pc + 1) lv (v :: w :: v :: w :: st) M) : AW X pc lv (v :: w :: st) M := fun H locs ls hl hP hS => lv_dup2_11 S.1 S.2.1 d hv hw (k9 H locs ls hl hP hS)
theorem r_astore {X : Cx} {cc : ByteArray} {own : String} {n lev : Nat} {G : List (Nat × Nat)} (S : CX X cc own n lev G) {pc : Nat} {lv : List (Nat × Value)} {st : List Value} {M : Mem} {i : Nat} {x : Nat} {lv2 : List (Nat × Value)} (d : decode cc pc = .ok (.astore i, 2)) (hn : i < n) (hv : (i, Value.ref x) :: lv.filter (fun q => !(q.1 == i) && !(q.1 + 1 == i && q.2.category == 2)) = lv2) (k9 : AW X (pc + 2) lv2 st M) : AW X pc lv (.ref x :: st) M := fun H locs ls hl hP hS => lv_astore S.1 S.2.1 d hl (by rw [S.2.2.2.2.2.2.2.1]; exact hn) hv (fun ls2 hl2 => k9 H locs ls2 hl2 hP hS)
theorem r_astore_n {X : Cx} {cc : ByteArray} {own : String} {n lev : Nat} {G : List (Nat × Nat)} (S : CX X cc own n lev G) {pc : Nat} {lv : List (Nat × Value)} {st : List Value} {M : Mem} {k : Fin 4} {x : Nat} {lv2 : List (Nat × Value)} (d : decode cc pc = .ok (.astore_n k, 1)) (hn : (k : Nat) < n) (hv : ((k : Nat), Value.ref x) :: lv.filter (fun q => !(q.1 == (k : Nat)) && !(q.1 + 1 == (k : Nat) && q.2.category == 2)) = lv2) (k9 : AW X (pc + 1) lv2 st M) : AW X pc lv (.ref x :: st) M := fun H locs ls hl hP hS => lv_astore_n S.1 S.2.1 d rfl hl (by rw [S.2.2.2.2.2.2.2.1]; exact hn) hv (fun ls2 hl2 => k9 H locs ls2 hl2 hP hS)
theorem r_i2d {X : Cx} {cc : ByteArray} {own : String} {n lev : Nat} {G : List (Nat × Nat)} (S : CX X cc own n lev G) {pc : Nat} {lv : List (Nat × Value)} {st : List Value} {M : Mem} {x : Int32} (d : decode cc pc = .ok (.i2d, 1)) (k9 : AW X (pc + 1) lv (.double (FP.i2d x) :: st) M) : AW X pc lv (.int x :: st) M := fun H locs ls hl hP hS => lv_i2d S.1 S.2.1 d (k9 H locs ls hl hP hS)
theorem r_l2d {X : Cx} {cc : ByteArray} {own : String} {n lev : Nat} {G : List (Nat × Nat)} (S : CX X cc own n lev G) {pc : Nat} {lv : List (Nat × Value)} {st : List Value} {M : Mem} {x : Int64} (d : decode cc pc = .ok (.l2d, 1)) (k9 : AW X (pc + 1) lv (.double (FP.l2d x) :: st) M) : AW X pc lv (.long x :: st) M := fun H locs ls hl hP hS => lv_l2d S.1 S.2.1 d (k9 H locs ls hl hP hS)
theorem r_ddiv {X : Cx} {cc : ByteArray} {own : String} {n lev : Nat} {G : List (Nat × Nat)} (S : CX X cc own n lev G) {pc : Nat} {lv : List (Nat × Value)} {st : List Value} {M : Mem} {x y : UInt64} (d : decode cc pc = .ok (.ddiv, 1)) (hn : nn64 (FP.ddiv x y) = true) (k9 : AW X (pc + 1) lv (.double (FP.ddiv x y) :: st) M) : AW X pc lv (.double y :: .double x :: st) M := fun H locs ls hl hP hS => lv_ddiv S.1 S.2.1 d (of_decide_eq_true hn : FP.ddiv x y &&& 0x7fffffffffffffff ≤ 0x7ff0000000000000) (k9 H locs ls hl hP hS)
theorem r_dcmpl {X : Cx} {cc : ByteArray} {own : String} {n lev : Nat} {G : List (Nat × Nat)} (S : CX X cc own n lev G) {pc : Nat} {lv : List (Nat × Value)} {st : List Value} {M : Mem} {x y : UInt64} (d : decode cc pc = .ok (.dcmp .l, 1)) (k9 : AW X (pc + 1) lv (.int (dcl x y) :: st) M) : AW X pc lv (.double y :: .double x :: st) M := fun H locs ls hl hP hS => lv_dcmp S.1 S.2.1 d (k9 H locs ls hl hP hS)
theorem r_ldcw {X : Cx} {cc : ByteArray} {own : String} {n lev : Nat} {G : List (Nat × Nat)} (S : CX X cc own n lev G) {pc : Nat} {lv : List (Nat × Value)} {st : List Value} {M : Mem} {i : Nat} {v : Int32} (hw : Cond.constant own i v ∈ TBL) (d : decode cc pc = .ok (.ldc_w i, 3)) (k9 : AW X (pc + 3) lv (.int v :: st) M) : AW X pc lv st M := fun H locs ls hl hP hS => lv_ldcw S.1 S.2.1 S.2.2.2.1 (S.2.2.2.2.1 _ hw) d (k9 H locs ls hl hP hS)
theorem r_tin {X : Cx} {cc : ByteArray} {own : String} {n lev : Nat} {G : List (Nat × Nat)} (S : CX X cc own n lev G) {pc : Nat} {lv : List (Nat × Value)} {st : List Value} {M : Mem} {dflt lo hi : Int} {offs : Array Int} {len : Nat} {x : Int32} {off : Int} (tgt : Nat) (k : Int32) (hx : x = k) (d : decode cc pc = .ok (.tableswitch dflt lo hi offs, len)) (h1 : ¬ k.toInt < lo) (h2 : ¬ hi < k.toInt) (ho : offs[(k.toInt - lo).toNat]? = some off) (ht : (pc : Int) + off = (tgt : Int)) (k9 : AW X tgt lv st M) : AW X pc lv (.int x :: st) M := fun H locs ls hl hP hS => by subst hx; exact lv_tableIn S.1 S.2.1 d h1 h2 ho ht (k9 H locs ls hl hP hS)
theorem r_tout {X : Cx} {cc : ByteArray} {own : String} {n lev : Nat} {G : List (Nat × Nat)} (S : CX X cc own n lev G) {pc : Nat} {lv : List (Nat × Value)} {st : List Value} {M : Mem} {dflt lo hi : Int} {offs : Array Int} {len : Nat} {x : Int32} (tgt : Nat) (d : decode cc pc = .ok (.tableswitch dflt lo hi offs, len)) (h : x.toInt < lo ∨ hi < x.toInt) (ht : (pc : Int) + dflt = (tgt : Int)) (k9 : AW X tgt lv st M) : AW X pc lv (.int x :: st) M := fun H locs ls hl hP hS => lv_tableOut S.1 S.2.1 d h ht (k9 H locs ls hl hP hS)
theorem r_bipush {X : Cx} {cc : ByteArray} {own : String} {n lev : Nat} {G : List (Nat × Nat)} (S : CX X cc own n lev G) {pc : Nat} {lv : List (Nat × Value)} {st : List Value} {M : Mem} {c : Int} (v : Int32) (d : decode cc pc = .ok (.bipush c, 2)) (hv : (Int8.ofInt c).toInt32 = v) (k9 : AW X (pc + 2) lv (.int v :: st) M) : AW X pc lv st M := fun H locs ls hl hP hS => lv_bipush S.1 S.2.1 d hv (k9 H locs ls hl hP hS)
theorem r_sipush {X : Cx} {cc : ByteArray} {own : String} {n lev : Nat} {G : List (Nat × Nat)} (S : CX X cc own n lev G) {pc : Nat} {lv : List (Nat × Value)} {st : List Value} {M : Mem} {c : Int} (v : Int32) (d : decode cc pc = .ok (.sipush c, 3)) (hv : (Int16.ofInt c).toInt32 = v) (k9 : AW X (pc + 3) lv (.int v :: st) M) : AW X pc lv st M := fun H locs ls hl hP hS => lv_sipush S.1 S.2.1 d hv (k9 H locs ls hl hP hS)
theorem r_lconst {X : Cx} {cc : ByteArray} {own : String} {n lev : Nat} {G : List (Nat × Nat)} (S : CX X cc own n lev G) {pc : Nat} {lv : List (Nat × Value)} {st : List Value} {M : Mem} {c : Fin 2} (v : Int64) (d : decode cc pc = .ok (.lconst c, 1)) (hv : Int64.ofNat (c : Nat) = v) (k9 : AW X (pc + 1) lv (.long v :: st) M) : AW X pc lv st M := fun H locs ls hl hP hS => lv_lconst S.1 S.2.1 d hv (k9 H locs ls hl hP hS)
theorem r_dconst0 {X : Cx} {cc : ByteArray} {own : String} {n lev : Nat} {G : List (Nat × Nat)} (S : CX X cc own n lev G) {pc : Nat} {lv : List (Nat × Value)} {st : List Value} {M : Mem} (d : decode cc pc = .ok (.dconst 0, 1)) (k9 : AW X (pc + 1) lv (.double FP.dconst0 :: st) M) : AW X pc lv st M := fun H locs ls hl hP hS => lv_dconst0 S.1 S.2.1 d (k9 H locs ls hl hP hS)
theorem r_ldc {X : Cx} {cc : ByteArray} {own : String} {n lev : Nat} {G : List (Nat × Nat)} (S : CX X cc own n lev G) {pc : Nat} {lv : List (Nat × Value)} {st : List Value} {M : Mem} {i : Nat} {v : Int32} (hw : Cond.constant own i v ∈ TBL) (d : decode cc pc = .ok (.ldc i, 2)) (k9 : AW X (pc + 2) lv (.int v :: st) M) : AW X pc lv st M := fun H locs ls hl hP hS => lv_ldc S.1 S.2.1 S.2.2.2.1 (S.2.2.2.2.1 _ hw) d (k9 H locs ls hl hP hS)
theorem r_ldc2 {X : Cx} {cc : ByteArray} {own : String} {n lev : Nat} {G : List (Nat × Nat)} (S : CX X cc own n lev G) {pc : Nat} {lv : List (Nat × Value)} {st : List Value} {M : Mem} {i : Nat} {v : Int64} (hw : Cond.constantLong own i v ∈ TBL) (d : decode cc pc = .ok (.ldc2_w i, 3)) (k9 : AW X (pc + 3) lv (.long v :: st) M) : AW X pc lv st M := fun H locs ls hl hP hS => lv_ldc2 S.1 S.2.1 S.2.2.2.1 (S.2.2.2.2.1 _ hw) d (k9 H locs ls hl hP hS)
theorem r_sub {X : Cx} {pc : Nat} {lv lv2 : List (Nat × Value)} {st : List Value} {M : Mem} (ks : List Nat) (h : lv_pick lv ks = lv2) (k9 : AW X pc lv2 st M) : AW X pc lv st M := fun H locs ls hl hP hS => k9 H locs ls (lv_sub hl ks h) hP hS
