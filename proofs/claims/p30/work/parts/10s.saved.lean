theorem r_null {X : Cx} {cc : ByteArray} {own : String} {n lev : Nat} {G : List (Nat × Nat)} (S : CX X cc own n lev G) {pc : Nat} {lv : List (Nat × Value)} {st : List Value} {M : Mem} (d : decode cc pc = .ok (.aconst_null, 1)) (k9 : AW X (pc + 1) lv (.null :: st) M) : AW X pc lv st M := fun H locs ls hl hP hS => lv_null S.1 S.2.1 d (k9 H locs ls hl hP hS)
theorem r_astore_nN {X : Cx} {cc : ByteArray} {own : String} {n lev : Nat} {G : List (Nat × Nat)} (S : CX X cc own n lev G) {pc : Nat} {lv : List (Nat × Value)} {st : List Value} {M : Mem} {k : Fin 4} {lv2 : List (Nat × Value)} (d : decode cc pc = .ok (.astore_n k, 1)) (hn : (k : Nat) < n) (hv : ((k : Nat), Value.null) :: lv.filter (fun q => !(q.1 == (k : Nat)) && !(q.1 + 1 == (k : Nat) && q.2.category == 2)) = lv2) (k9 : AW X (pc + 1) lv2 st M) : AW X pc lv (.null :: st) M := fun H locs ls hl hP hS => lv_astore_nN S.1 S.2.1 d rfl hl (by rw [S.2.2.2.2.2.2.2.1]; exact hn) hv (fun ls2 hl2 => k9 H locs ls2 hl2 hP hS)
theorem r_aload_nN {X : Cx} {cc : ByteArray} {own : String} {n lev : Nat} {G : List (Nat × Nat)} (S : CX X cc own n lev G) {pc : Nat} {lv : List (Nat × Value)} {st : List Value} {M : Mem} {k : Fin 4} (d : decode cc pc = .ok (.aload_n k, 1)) (j : Nat) (hj : lv[j]? = some ((k : Nat), .null)) (k9 : AW X (pc + 1) lv (.null :: st) M) : AW X pc lv st M := fun H locs ls hl hP hS => lv_aload_nN S.1 S.2.1 d rfl (lv_at hl j hj) (k9 H locs ls hl hP hS)
theorem r_ifnonnull {X : Cx} {cc : ByteArray} {own : String} {n lev : Nat} {G : List (Nat × Nat)} (S : CX X cc own n lev G) {pc : Nat} {lv : List (Nat × Value)} {st : List Value} {M : Mem} {x : Nat} {off : Int} (tgt : Nat) (d : decode cc pc = .ok (.ifnonnull off, 3)) (ht : (pc : Int) + off = (tgt : Int)) (k9 : AW X tgt lv st M) : AW X pc lv (.ref x :: st) M := fun H locs ls hl hP hS => lv_ifnonnull S.1 S.2.1 d ht (k9 H locs ls hl hP hS)
theorem r_ifnonnullN {X : Cx} {cc : ByteArray} {own : String} {n lev : Nat} {G : List (Nat × Nat)} (S : CX X cc own n lev G) {pc : Nat} {lv : List (Nat × Value)} {st : List Value} {M : Mem} {off : Int} (d : decode cc pc = .ok (.ifnonnull off, 3)) (k9 : AW X (pc + 3) lv st M) : AW X pc lv (.null :: st) M := fun H locs ls hl hP hS => lv_ifnonnullN S.1 S.2.1 d (k9 H locs ls hl hP hS)
set_option maxRecDepth 100000 in
set_option maxHeartbeats 4000000 in
theorem c_LL_savedAt (l : Launch) (Y : Env1) (hG : gY Y = gC) (a1 : Int32) (M : Mem) (r : Nat) (hE : fSavedAt a1 = r) : CnR l Y yX7_savedAt cX7_savedAt 3 (.object "LakeLevels$World") 0 [.ref (hY Y + 0), .int a1] M r M := by
  refine met_R (own := RX7) ⟨_, rfl⟩ (by decide +kernel) rfl hG (Nat.le_of_ble_eq_true rfl) (fun X S hY1 hl1 hret => ?_)
  subst hY1
  subst hl1
  show AW X 0 [(0, .ref (hY X.2.1.2 + 0)), (1, .int a1)] [] M
  have hnull : ¬ inb a1 4 = true → AW X 22 [(0, .ref (hY X.2.1.2 + 0)), (1, .int a1)] [] M := by
    intro c
    unfold fSavedAt at hE
    rw [if_neg c] at hE
    subst hE
    refine r_null S dX7_savedAt_22 ?_
    refine r_astore_nN (lv2 := [(2, .null), (0, .ref (hY X.2.1.2 + 0)), (1, .int a1)]) S dX7_savedAt_23 (by decide) rfl ?_
    refine r_aload_nN S dX7_savedAt_24 0 rfl ?_
    refine r_ifnonnullN S dX7_savedAt_25 ?_
    refine r_aload_n S dX7_savedAt_28 1 rfl ?_
    refine r_getR S fc7 (o := 0) (by decide) 1 rfl q_343 dX7_savedAt_29 ?_
    refine r_goto S 36 dX7_savedAt_32 (by decide) ?_
    exact hret _ _ dX7_savedAt_36
  refine r_iload_n S dX7_savedAt_0 1 rfl ?_
  refine r_if_lt S 22 dX7_savedAt_1 (by decide) (fun c => ?_) (fun c => ?_)
  · exact hnull (fun q => ((inb_iff.mp q).1 c))
  · refine r_iload_n S dX7_savedAt_4 1 rfl ?_
    refine r_aload_n S dX7_savedAt_5 0 rfl ?_
    refine r_getR S fc7 (o := 0) (by decide) 2 rfl q_546 dX7_savedAt_6 ?_
    refine r_alenW S (o := 93) (by decide) dX7_savedAt_9 ?_
    refine r_icmp_ge S 22 dX7_savedAt_10 (by decide) (fun c2 => ?_) (fun c2 => ?_)
    · exact hnull (fun q => ((inb_len (by decide)).mp q).2 c2)
    · have hi : inb a1 4 = true := (inb_len (by decide)).mpr ⟨Int32.not_lt.mp c, c2⟩
      unfold fSavedAt at hE
      rw [if_pos hi] at hE
      subst hE
      refine r_aload_n S dX7_savedAt_13 0 rfl ?_
      refine r_getR S fc7 (o := 0) (by decide) 2 rfl q_546 dX7_savedAt_14 ?_
      refine r_iload_n S dX7_savedAt_17 1 rfl ?_
      refine r_aald S (o := 93) (by decide) hi dX7_savedAt_18 ?_
      refine r_goto S 23 dX7_savedAt_19 (by decide) ?_
      refine r_astore_n (lv2 := [(2, .ref (hY X.2.1.2 + (97 + 46 * a1.toNatClampNeg))), (0, .ref (hY X.2.1.2 + 0)), (1, .int a1)]) S dX7_savedAt_23 (by decide) rfl ?_
      refine r_aload_n S dX7_savedAt_24 0 rfl ?_
      refine r_ifnonnull S 35 dX7_savedAt_25 (by decide) ?_
      refine r_aload_n S dX7_savedAt_35 0 rfl ?_
      exact hret _ _ dX7_savedAt_36
