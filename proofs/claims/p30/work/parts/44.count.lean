/-! 44.count: how many cells a set has -/
def tn (x : Int64) : Nat := x.toBitVec.toNat
theorem tn_lt (x : Int64) : tn x < 18446744073709551616 := x.toBitVec.isLt
theorem tn_and (x y : Int64) : tn (x &&& y) = tn x &&& tn y := by unfold tn; rw [Int64.toBitVec_and, BitVec.toNat_and]
theorem tn_add {x y : Int64} (h : tn x + tn y < 18446744073709551616) : tn (x + y) = tn x + tn y := by
  unfold tn at *
  rw [Int64.toBitVec_add, BitVec.toNat_add]
  omega
theorem tn_sub {x y : Int64} (h : tn y ≤ tn x) : tn (x - y) = tn x - tn y := by
  unfold tn at *
  rw [Int64.toBitVec_sub, BitVec.toNat_sub_of_le h]
theorem tn_lus (x : Int64) (k : Int32) (m : Nat) (hm : (k.toInt64.toUInt64 &&& Int64.toUInt64 63).toNat % 64 = m) : tn (lus x k) = tn x / 2 ^ m := by
  show (x.toUInt64 >>> (k.toInt64.toUInt64 &&& Int64.toUInt64 63)).toNat = x.toUInt64.toNat / 2 ^ m
  rw [UInt64.toNat_shiftRight, hm, Nat.shiftRight_eq_div_pow]
def zz (x : Nat) : Nat := ((x - ((x / 2) &&& 6148914691236517205)) &&& 3689348814741910323) + (((x - ((x / 2) &&& 6148914691236517205)) / 4) &&& 3689348814741910323)
theorem and16 (a b m n : Nat) (hb : b < 16) (hn : n < 16) : (16 * a + b) &&& (16 * m + n) = 16 * (a &&& m) + (b &&& n) := by
  have h1 := @Nat.and_div_two_pow (16 * a + b) (16 * m + n) 4
  have h2 := @Nat.and_mod_two_pow (16 * a + b) (16 * m + n) 4
  rw [show (16 * a + b) / 2 ^ 4 = a by omega, show (16 * m + n) / 2 ^ 4 = m by omega] at h1
  rw [show (16 * a + b) % 2 ^ 4 = b by omega, show (16 * m + n) % 2 ^ 4 = n by omega] at h2
  omega
theorem and_cut (a m : Nat) (k : Nat) (h : a < 2 ^ k) : a &&& (m % 2 ^ k) = a &&& m := by
  have h1 := @Nat.and_div_two_pow a m k
  have h2 := @Nat.and_mod_two_pow a m k
  rw [Nat.div_eq_of_lt h, Nat.zero_and] at h1
  rw [Nat.mod_eq_of_lt h] at h2
  have h3 : (a &&& m) < 2 ^ k := Nat.lt_of_le_of_lt Nat.and_le_left h
  rw [Nat.mod_eq_of_lt h3] at h2
  exact h2.symm
def pn (r : Nat) : Nat := r % 2 + r / 2 % 2 + r / 4 % 2 + r / 8 % 2
theorem pn_le (r : Nat) : pn r ≤ 4 := by unfold pn; omega
theorem nib1 : ∀ t : Fin 2, ∀ r : Fin 16, ((8 * t.val + r.val / 2) &&& 5) = ((r.val / 2) &&& 5) ∧ ((r.val / 2) &&& 5) ≤ r.val := by decide +kernel
theorem nib2 : ∀ t : Fin 4, ∀ r : Fin 16, ((4 * t.val + r.val / 4) &&& 3) = ((r.val / 4) &&& 3) := by decide +kernel
theorem nib3 : ∀ r : Fin 16, ((r.val - ((r.val / 2) &&& 5)) &&& 3) + (((r.val - ((r.val / 2) &&& 5)) / 4) &&& 3) = pn r.val := by decide +kernel
theorem zz_step (q r : Nat) (hq : q < 1152921504606846976) (hr : r < 16) : zz (16 * q + r) = 16 * zz q + pn r := by
  have m5 : (6148914691236517205 : Nat) = 16 * 384307168202282325 + 5 := rfl
  have m3 : (3689348814741910323 : Nat) = 16 * 230584300921369395 + 3 := rfl
  have a1 : (16 * q + r) / 2 = 16 * (q / 2) + (8 * (q % 2) + r / 2) := by omega
  have a2 : ((16 * q + r) / 2 &&& 6148914691236517205) = 16 * ((q / 2) &&& 6148914691236517205) + ((r / 2) &&& 5) := by
    rw [a1, m5, and16 _ _ _ _ (by omega) (by omega), (nib1 ⟨q % 2, by omega⟩ ⟨r, hr⟩).1]
    have := and_cut (q / 2) 6148914691236517205 60 (by omega)
    rw [show 6148914691236517205 % 2 ^ 60 = 384307168202282325 from rfl] at this
    rw [this]
  have b1 : ((q / 2) &&& 6148914691236517205) ≤ q := Nat.le_trans Nat.and_le_left (by omega)
  have b2 := (nib1 ⟨0, by omega⟩ ⟨r, hr⟩).2
  dsimp only at b2
  have yq : 16 * q + r - ((16 * q + r) / 2 &&& 6148914691236517205) = 16 * (q - ((q / 2) &&& 6148914691236517205)) + (r - ((r / 2) &&& 5)) := by
    rw [a2]; omega
  have n3 := nib3 ⟨r, hr⟩
  dsimp only at n3
  unfold zz
  rw [yq]
  generalize hy : q - ((q / 2) &&& 6148914691236517205) = y
  generalize hs : r - ((r / 2) &&& 5) = s at *
  have hyl : y < 1152921504606846976 := by omega
  have hsl : s < 16 := by omega
  have c1 : (16 * y + s) &&& 3689348814741910323 = 16 * (y &&& 3689348814741910323) + (s &&& 3) := by
    rw [m3, and16 _ _ _ _ (by omega) (by omega)]
    have := and_cut y 3689348814741910323 60 (by omega)
    rw [show 3689348814741910323 % 2 ^ 60 = 230584300921369395 from rfl] at this
    rw [this]
  have c2 : (16 * y + s) / 4 = 16 * (y / 4) + (4 * (y % 4) + s / 4) := by omega
  have c3 : (16 * y + s) / 4 &&& 3689348814741910323 = 16 * (y / 4 &&& 3689348814741910323) + (s / 4 &&& 3) := by
    rw [c2, m3, and16 _ _ _ _ (by omega) (by omega), nib2 ⟨y % 4, by omega⟩ ⟨s, hsl⟩]
    have := and_cut (y / 4) 3689348814741910323 60 (by omega)
    rw [show 3689348814741910323 % 2 ^ 60 = 230584300921369395 from rfl] at this
    rw [this]
  rw [c1, c3]
  omega
theorem zz_lt (x : Nat) : zz x ≤ 7378697629483820646 := by
  unfold zz
  have h1 : ((x - ((x / 2) &&& 6148914691236517205)) &&& 3689348814741910323) ≤ 3689348814741910323 := Nat.and_le_right
  have h2 : ((x - ((x / 2) &&& 6148914691236517205)) / 4 &&& 3689348814741910323) ≤ 3689348814741910323 := Nat.and_le_right
  omega
def nibs : Nat → Nat → Nat
  | 0, _ => 0
  | n + 1, x => 16 * nibs n (x / 16) + pn (x % 16)
theorem zz_zero : zz 0 = 0 := by decide +kernel
theorem zz_nibs : ∀ n x, x < 16 ^ n → n ≤ 16 → zz x = nibs n x := by
  intro n
  induction n with
  | zero =>
    intro x hx _
    obtain rfl : x = 0 := by omega
    exact zz_zero
  | succ n ih =>
    intro x hx hn
    have h1 : x / 16 < 16 ^ n := by rw [Nat.pow_succ] at hx; omega
    have h2 : 16 ^ n ≤ 16 ^ 15 := Nat.pow_le_pow_right (by omega) (by omega)
    have h3 : (16 : Nat) ^ 15 = 1152921504606846976 := rfl
    have := zz_step (x / 16) (x % 16) (by omega) (by omega)
    rw [show 16 * (x / 16) + x % 16 = x by omega] at this
    rw [this, ih _ h1 (by omega)]
    rfl
theorem and256 (a b m n : Nat) (hb : b < 256) (hn : n < 256) : (256 * a + b) &&& (256 * m + n) = 256 * (a &&& m) + (b &&& n) := by
  have h1 := @Nat.and_div_two_pow (256 * a + b) (256 * m + n) 8
  have h2 := @Nat.and_mod_two_pow (256 * a + b) (256 * m + n) 8
  rw [show (256 * a + b) / 2 ^ 8 = a by omega, show (256 * m + n) / 2 ^ 8 = m by omega] at h1
  rw [show (256 * a + b) % 2 ^ 8 = b by omega, show (256 * m + n) % 2 ^ 8 = n by omega] at h2
  omega
theorem low4 : ∀ t : Fin 16, ∀ r : Fin 16, ((16 * t.val + r.val) &&& 15) = r.val := by decide +kernel
/-- from nibbles to bytes: z + z/16 under the mask -/
def byts : Nat → Nat → Nat
  | 0, _ => 0
  | n + 1, x => 256 * byts n (x / 256) + (pn (x % 16) + pn (x / 16 % 16))
theorem nibs_hd (n x : Nat) : nibs n x % 16 ≤ 4 := by
  cases n with
  | zero => simp [nibs]
  | succ n => simp only [nibs]; have := pn_le (x % 16); omega
def mk15 : Nat → Nat
  | 0 => 0
  | n + 1 => 256 * mk15 n + 15
theorem byts_eq : ∀ n x, (nibs (2 * n) x + nibs (2 * n) x / 16) &&& mk15 n = byts n x := by
  intro n
  induction n with
  | zero => intro x; simp [nibs, mk15, byts]
  | succ n ih =>
    intro x
    have e : nibs (2 * (n + 1)) x = 256 * nibs (2 * n) (x / 256) + (16 * pn (x / 16 % 16) + pn (x % 16)) := by
      rw [show 2 * (n + 1) = 2 * n + 1 + 1 by omega]
      simp only [nibs]
      rw [show x / 16 / 16 = x / 256 by omega]
      omega
    have h1 := nibs_hd (2 * n) (x / 256)
    have h2 := pn_le (x % 16)
    have h3 := pn_le (x / 16 % 16)
    generalize hN : nibs (2 * n) (x / 256) = N at *
    generalize ha : pn (x % 16) = a at *
    generalize hb : pn (x / 16 % 16) = b at *
    have e2 : 256 * N + (16 * b + a) + (256 * N + (16 * b + a)) / 16 = 256 * (N + N / 16) + (16 * (N % 16 + b) + (a + b)) := by omega
    have ih' := ih (x / 256)
    rw [hN] at ih'
    rw [e, e2, mk15, and256 _ _ _ _ (by omega) (by omega), ih', low4 ⟨N % 16 + b, by omega⟩ ⟨a + b, by omega⟩, byts, ha, hb]
def addb : Nat → Nat → Nat
  | 0, _ => 0
  | n + 1, x => addb n (x / 256) + (pn (x % 16) + pn (x / 16 % 16))
theorem dvl (a b k : Nat) (h : a < k) : (a + k * b) / k = b := by
  rw [Nat.add_mul_div_left _ _ (by omega), Nat.div_eq_of_lt h, Nat.zero_add]
theorem idC (b0 b1 b2 b3 b4 b5 b6 b7 : Nat) : b0 + 256 * b1 + 65536 * b2 + 16777216 * b3 + 4294967296 * b4 + 1099511627776 * b5 + 281474976710656 * b6 + 72057594037927936 * b7 = b0 + 256 * (b1 + 256 * (b2 + 256 * (b3 + 256 * (b4 + 256 * (b5 + 256 * (b6 + 256 * (b7))))))) := by omega
theorem idD (b0 b1 b2 b3 b4 b5 b6 b7 : Nat) : b0 + 256 * (b1 + 256 * (b2 + 256 * (b3 + 256 * (b4 + 256 * (b5 + 256 * (b6 + 256 * (b7))))))) + (b1 + 256 * (b2 + 256 * (b3 + 256 * (b4 + 256 * (b5 + 256 * (b6 + 256 * (b7))))))) = ((b0 + b1) + 256 * (b1 + b2)) + 65536 * ((b2 + b3) + 256 * ((b3 + b4) + 256 * ((b4 + b5) + 256 * ((b5 + b6) + 256 * ((b6 + b7) + 256 * (b7)))))) := by omega
theorem idE (b0 b1 b2 b3 b4 b5 b6 b7 : Nat) : ((b0 + b1) + 256 * (b1 + b2)) + 65536 * ((b2 + b3) + 256 * ((b3 + b4) + 256 * ((b4 + b5) + 256 * ((b5 + b6) + 256 * ((b6 + b7) + 256 * (b7)))))) + ((b2 + b3) + 256 * ((b3 + b4) + 256 * ((b4 + b5) + 256 * ((b5 + b6) + 256 * ((b6 + b7) + 256 * (b7)))))) = (((b0 + b1) + (b2 + b3)) + 256 * ((b1 + b2) + (b3 + b4)) + 65536 * ((b2 + b3) + (b4 + b5)) + 16777216 * ((b3 + b4) + (b5 + b6))) + 4294967296 * (((b4 + b5) + (b6 + b7)) + 256 * (((b5 + b6) + b7) + 256 * ((b6 + b7) + 256 * (b7)))) := by omega
theorem idF (b0 b1 b2 b3 b4 b5 b6 b7 : Nat) : (((b0 + b1) + (b2 + b3)) + 256 * ((b1 + b2) + (b3 + b4)) + 65536 * ((b2 + b3) + (b4 + b5)) + 16777216 * ((b3 + b4) + (b5 + b6))) + 4294967296 * (((b4 + b5) + (b6 + b7)) + 256 * (((b5 + b6) + b7) + 256 * ((b6 + b7) + 256 * (b7)))) + (((b4 + b5) + (b6 + b7)) + 256 * (((b5 + b6) + b7) + 256 * ((b6 + b7) + 256 * (b7)))) = (b0 + b1 + b2 + b3 + b4 + b5 + b6 + b7) + 128 * (2 * ((((b1 + b2) + (b3 + b4)) + ((b5 + b6) + b7)) + 256 * (((b2 + b3) + (b4 + b5)) + (b6 + b7)) + 65536 * ((((b3 + b4) + (b5 + b6)) + b7) + 256 * (((b4 + b5) + (b6 + b7)) + 256 * (((b5 + b6) + b7) + 256 * ((b6 + b7) + 256 * (b7))))))) := by omega
theorem fold8 (b0 b1 b2 b3 b4 b5 b6 b7 C D E : Nat) (q : b0 ≤ 8 ∧ b1 ≤ 8 ∧ b2 ≤ 8 ∧ b3 ≤ 8 ∧ b4 ≤ 8 ∧ b5 ≤ 8 ∧ b6 ≤ 8 ∧ b7 ≤ 8) (eC : C = b0 + 256 * b1 + 65536 * b2 + 16777216 * b3 + 4294967296 * b4 + 1099511627776 * b5 + 281474976710656 * b6 + 72057594037927936 * b7) (eD : D = C + C / 256) (eE : E = D + D / 65536) :
    (E + E / 4294967296) % 128 = b0 + b1 + b2 + b3 + b4 + b5 + b6 + b7 := by
  rw [idC] at eC
  rw [eC, dvl _ _ _ (by clear eC eD eE; omega), idD] at eD
  rw [eD, dvl _ _ _ (by clear eC eD eE; omega), idE] at eE
  rw [eE, dvl _ _ _ (by clear eC eD eE; omega), idF, Nat.add_mul_mod_self_left]
  clear eC eD eE
  exact Nat.mod_eq_of_lt (by omega)
theorem bit_count_nat (x : Int64) : JL_bitCount x = ni (addb 8 (tn x)) := by
  have hX := tn_lt x
  have k1 := fun (y : Int64) => tn_lus y (1 : Int32) 1 rfl
  have k2 := fun (y : Int64) => tn_lus y (2 : Int32) 2 rfl
  have k4 := fun (y : Int64) => tn_lus y (4 : Int32) 4 rfl
  have k8 := fun (y : Int64) => tn_lus y (8 : Int32) 8 rfl
  have k16 := fun (y : Int64) => tn_lus y (16 : Int32) 16 rfl
  have k32 := fun (y : Int64) => tn_lus y (32 : Int32) 32 rfl
  unfold JL_bitCount
  have hA : tn (x - ((lus x (1 : Int32)) &&& (6148914691236517205 : Int64))) = tn x - (tn x / 2 &&& 6148914691236517205) := by
    have : tn ((lus x (1 : Int32)) &&& (6148914691236517205 : Int64)) = tn x / 2 &&& 6148914691236517205 := by rw [tn_and, k1]; rfl
    rw [tn_sub, this]
    rw [this]
    exact Nat.le_trans Nat.and_le_left (by omega)
  generalize (x - ((lus x (1 : Int32)) &&& (6148914691236517205 : Int64))) = A at *
  have hB : tn ((A &&& (3689348814741910323 : Int64)) + ((lus A (2 : Int32)) &&& (3689348814741910323 : Int64))) = zz (tn x) := by
    have h1 : tn (A &&& (3689348814741910323 : Int64)) = tn A &&& 3689348814741910323 := by rw [tn_and]; rfl
    have h2 : tn ((lus A (2 : Int32)) &&& (3689348814741910323 : Int64)) = tn A / 4 &&& 3689348814741910323 := by rw [tn_and, k2]; rfl
    have h3 : tn A &&& 3689348814741910323 ≤ 3689348814741910323 := Nat.and_le_right
    have h4 : tn A / 4 &&& 3689348814741910323 ≤ 3689348814741910323 := Nat.and_le_right
    rw [tn_add (by omega), h1, h2, hA]; rfl
  generalize ((A &&& (3689348814741910323 : Int64)) + ((lus A (2 : Int32)) &&& (3689348814741910323 : Int64))) = B at *
  have hZ := zz_lt (tn x)
  have hC : tn ((B + (lus B (4 : Int32))) &&& (1085102592571150095 : Int64)) = byts 8 (tn x) := by
    have h1 : tn (lus B (4 : Int32)) = tn B / 16 := k4 B
    rw [tn_and, tn_add (by omega), h1, hB, zz_nibs 16 (tn x) (by omega) (by omega)]
    exact byts_eq 8 (tn x)
  generalize ((B + (lus B (4 : Int32))) &&& (1085102592571150095 : Int64)) = C at *
  have key : ∃ b0 b1 b2 b3 b4 b5 b6 b7 : Nat, (b0 ≤ 8 ∧ b1 ≤ 8 ∧ b2 ≤ 8 ∧ b3 ≤ 8 ∧ b4 ≤ 8 ∧ b5 ≤ 8 ∧ b6 ≤ 8 ∧ b7 ≤ 8) ∧ byts 8 (tn x) = b0 + 256 * b1 + 65536 * b2 + 16777216 * b3 + 4294967296 * b4 + 1099511627776 * b5 + 281474976710656 * b6 + 72057594037927936 * b7 ∧ addb 8 (tn x) = b0 + b1 + b2 + b3 + b4 + b5 + b6 + b7 := by
    refine ⟨pn ((tn x) % 16) + pn ((tn x) / 16 % 16), pn ((tn x / 256) % 16) + pn ((tn x / 256) / 16 % 16), pn ((tn x / 256 / 256) % 16) + pn ((tn x / 256 / 256) / 16 % 16), pn ((tn x / 256 / 256 / 256) % 16) + pn ((tn x / 256 / 256 / 256) / 16 % 16), pn ((tn x / 256 / 256 / 256 / 256) % 16) + pn ((tn x / 256 / 256 / 256 / 256) / 16 % 16), pn ((tn x / 256 / 256 / 256 / 256 / 256) % 16) + pn ((tn x / 256 / 256 / 256 / 256 / 256) / 16 % 16), pn ((tn x / 256 / 256 / 256 / 256 / 256 / 256) % 16) + pn ((tn x / 256 / 256 / 256 / 256 / 256 / 256) / 16 % 16), pn ((tn x / 256 / 256 / 256 / 256 / 256 / 256 / 256) % 16) + pn ((tn x / 256 / 256 / 256 / 256 / 256 / 256 / 256) / 16 % 16), ⟨Nat.add_le_add (pn_le _) (pn_le _), Nat.add_le_add (pn_le _) (pn_le _), Nat.add_le_add (pn_le _) (pn_le _), Nat.add_le_add (pn_le _) (pn_le _), Nat.add_le_add (pn_le _) (pn_le _), Nat.add_le_add (pn_le _) (pn_le _), Nat.add_le_add (pn_le _) (pn_le _), Nat.add_le_add (pn_le _) (pn_le _)⟩, ?_, ?_⟩
    · simp only [byts]; omega
    · simp only [addb]; omega
  obtain ⟨b0, b1, b2, b3, b4, b5, b6, b7, ⟨q0, q1, q2, q3, q4, q5, q6, q7⟩, e1, e2⟩ := key
  rw [e1] at hC
  have hD : tn (C + lus C (8 : Int32)) = tn C + tn C / 256 := by
    have h1 : tn (lus C (8 : Int32)) = tn C / 256 := k8 C
    rw [tn_add (by omega), h1]
  generalize (C + lus C (8 : Int32)) = D at *
  have hE : tn (D + lus D (16 : Int32)) = tn D + tn D / 65536 := by
    have h1 : tn (lus D (16 : Int32)) = tn D / 65536 := k16 D
    rw [tn_add (by omega), h1]
  generalize (D + lus D (16 : Int32)) = E at *
  have hF : tn (E + lus E (32 : Int32)) = tn E + tn E / 4294967296 := by
    have h1 : tn (lus E (32 : Int32)) = tn E / 4294967296 := k32 E
    rw [tn_add (by omega), h1]
  generalize (E + lus E (32 : Int32)) = F at *
  have hG : tn F % 128 = addb 8 (tn x) := by
    rw [hF, e2]
    exact fold8 b0 b1 b2 b3 b4 b5 b6 b7 (tn C) (tn D) (tn E) ⟨q0, q1, q2, q3, q4, q5, q6, q7⟩ hC hD hE
  have hH : ∀ Y : Int64, tn Y % 128 < 128 → (Y.toInt32 &&& (127 : Int32)) = ni ((tn Y % 128 : Nat) : Int) := by
    intro Y _
    apply Int32.toBitVec_inj.mp
    apply BitVec.eq_of_toNat_eq
    rw [Int32.toBitVec_and, BitVec.toNat_and, show (127 : Int32).toBitVec.toNat = 2 ^ 7 - 1 from rfl, Nat.and_two_pow_sub_one_eq_mod]
    rw [show Y.toInt32.toBitVec = Y.toBitVec.signExtend 32 from rfl]
    have : (Y.toBitVec.signExtend 32).toNat = tn Y % 4294967296 := by
      rw [BitVec.signExtend_eq_setWidth_of_le _ (by omega), BitVec.toNat_setWidth]; rfl
    rw [this]
    have e : (ni ((tn Y % 128 : Nat) : Int)).toBitVec = BitVec.ofNat 32 (tn Y % 128) := by
      unfold ni
      rw [Int32.toBitVec_ofInt]
      exact BitVec.ofInt_natCast _ _
    rw [e, BitVec.toNat_ofNat]
    omega
  rw [hH F (by omega), hG]
/-- the number of cells of a set -/
def pc (x : Int64) : Int := ct 64 (fun i => hs x i)
theorem sm_shift (n k : Nat) (f : Nat → Int) : sm (n + k) f = sm k f + sm n (fun i => f (i + k)) := by
  induction n with
  | zero => simp [sm]
  | succ n ih =>
    rw [show n + 1 + k = (n + k) + 1 by omega]
    simp only [sm]
    rw [ih]; omega
theorem tb_pow (x i : Nat) : x.testBit i = decide (x / 2 ^ i % 2 = 1) := Nat.testBit_eq_decide_div_mod_eq
theorem addb_ct : ∀ n x, (addb n x : Int) = ct (8 * n) (fun i => Nat.testBit x i) := by
  intro n
  induction n with
  | zero => intro x; rfl
  | succ n ih =>
    intro x
    have e : 8 * (n + 1) = 8 * n + 8 := by omega
    unfold ct
    rw [e, sm_shift]
    have h : sm (8 * n) (fun i => if x.testBit (i + 8) = true then 1 else 0) = ct (8 * n) (fun i => Nat.testBit (x / 256) i) := by
      unfold ct
      apply sm_congr
      intro i _
      rw [show (256 : Nat) = 2 ^ 8 from rfl]
      simp only [Nat.testBit_div_two_pow]
    rw [h, ← ih]
    simp only [addb, sm, pn, tb_pow, decide_eq_true_eq]
    have d0 : x / 2 ^ 0 % 2 = x % 16 % 2 := by omega
    have d1 : x / 2 ^ 1 % 2 = x % 16 / 2 % 2 := by omega
    have d2 : x / 2 ^ 2 % 2 = x % 16 / 4 % 2 := by omega
    have d3 : x / 2 ^ 3 % 2 = x % 16 / 8 % 2 := by omega
    have d4 : x / 2 ^ 4 % 2 = x / 16 % 16 % 2 := by omega
    have d5 : x / 2 ^ 5 % 2 = x / 16 % 16 / 2 % 2 := by omega
    have d6 : x / 2 ^ 6 % 2 = x / 16 % 16 / 4 % 2 := by omega
    have d7 : x / 2 ^ 7 % 2 = x / 16 % 16 / 8 % 2 := by omega
    rw [d0, d1, d2, d3, d4, d5, d6, d7]
    have sel : ∀ y : Nat, (if y % 2 = 1 then (1 : Int) else 0) = ((y % 2 : Nat) : Int) := by intro y; split <;> omega
    simp only [sel]
    omega
theorem JL_bitCount_eq (x : Int64) : JL_bitCount x = ni (pc x) := by
  rw [bit_count_nat, addb_ct]
  congr 1
theorem pc_bd (x : Int64) : 0 ≤ pc x ∧ pc x ≤ 64 := by
  refine ⟨sm_nonneg (fun i _ => by split <;> omega), ?_⟩
  have := sm_bd (n := 64) (f := fun i => if hs x (i : Int) = true then 1 else 0) (b := 1) (fun i _ => by split <;> omega)
  exact this
theorem pc_zero {x : Int64} (h : pc x = 0) : x = 0 := by
  apply hs_ext
  intro c h0 h1
  rw [hs_zero]
  cases e : hs x c with
  | false => rfl
  | true =>
    have := sm_mem (n := 64) (f := fun i => if hs x (i : Int) = true then 1 else 0) (fun i _ => by split <;> omega) (k := c.toNat) (by omega)
    rw [Int.toNat_of_nonneg h0, e, if_pos rfl] at this
    have : pc x = sm 64 (fun i => if hs x (i : Int) = true then 1 else 0) := rfl
    omega
theorem pc_clear {x : Int64} (h : x ≠ 0) : pc (x &&& (x - (1 : Int64))) = pc x - 1 := by
  obtain ⟨⟨l0, l1⟩, l2, l3⟩ := lo_spec h
  unfold pc ct
  rw [sm_set (n := 64) (f := fun i => if hs (x &&& (x - (1 : Int64))) (i : Int) = true then 1 else 0) (g := fun i => if hs x (i : Int) = true then 1 else 0) (k := (lo x).toNat) (by omega)]
  · rw [Int.toNat_of_nonneg l0, low_clear h l0 l1, l2]
    simp
  · intro i hi hne
    rw [low_clear h (by omega) (by omega)]
    have : ¬ ((i : Int) = lo x) := by omega
    simp [this]
theorem MD_bits_eq (x : Int64) : MD_bits x = some (ni (pc x)) := by
  have key : ∀ n : Nat, ∀ y : Int64, ∀ v : Int, pc y = n → ∀ fuel, n < fuel → lpR (fun s => MD_bits_L4 s.1 s.2) fuel (ni v, y) = some (ni (v + pc y)) := by
    intro n
    induction n with
    | zero =>
      intro y v hy fuel hf
      obtain ⟨m, rfl⟩ : ∃ m, fuel = m + 1 := ⟨fuel - 1, by omega⟩
      have : y = 0 := pc_zero hy
      subst this
      simp [lpR, MD_bits_L4, hy]
    | succ n ih =>
      intro y v hy fuel hf
      obtain ⟨m, rfl⟩ : ∃ m, fuel = m + 1 := ⟨fuel - 1, by omega⟩
      have hne : y ≠ 0 := by
        intro e; subst e
        have : pc 0 = 0 := sm_zero (fun i _ => by simp [hs_zero])
        omega
      have h2 := pc_clear hne
      have := ih (y &&& (y - (1 : Int64))) (v + 1) (by omega) m (by omega)
      have e : MD_bits_L4 (ni v) y = some (.inl (ni (v + 1), y &&& (y - (1 : Int64)))) := by
        unfold MD_bits_L4
        rw [if_neg hne, show (1 : Int32) = ni 1 from rfl, ni_add]
      show (MD_bits_L4 (ni v) y).bind _ = _
      rw [e]
      show lpR _ m _ = _
      rw [this, h2]
      congr 2
      omega
  have hb := pc_bd x
  unfold MD_bits
  rw [show ((0 : Int32), x) = (ni 0, x) from rfl, key (pc x).toNat x 0 (by omega) FUEL (by have := FUEL_big; omega), b1_s]
  congr 2
  omega
