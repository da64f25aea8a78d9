/-! A6: the law itself, from behind its two objects -/
set_option maxRecDepth 100000 in
set_option maxHeartbeats 16000000 in
theorem w_law {X : Cx} {b L : Nat} {xs : Nat → Int32} (S : CQQ X cL_law 13 10 b L xs) (M : Mem2) (r : Int32) (M1 : Mem2) (hE : LW_law L xs M = some (r, M1)) (hret : ∀ (pc : Nat) (lv : List (Nat × Value)), decode cL_law pc = .ok (.ireturn, 1) → AQ X pc lv [.int r] M1) : AQ X 16 [(2, .ref (hY X.2.1.2 + 281 + 0)), (1, .ref (hY X.2.1.2 + 0)), (0, .ref b)] [] M := by
  have L81 : ∀ (v4 : Int32) (e : (Int32)) (M2 : Mem2), AQ X 323 [(0, .ref b), (1, .ref (hY X.2.1.2 + 0)), (3, .int e), (4, .int v4)] [] M2 → ∀ (n : Nat) (s : Int32 × Int32) (M : Mem2), lpQ (fun s M => LW_law_L81 L xs v4 s.1 s.2 M) n s M = some (e, M2) → AQ X 81 [(0, .ref b), (1, .ref (hY X.2.1.2 + 0)), (3, .int s.1), (4, .int v4), (5, .int s.2)] [] M := by
    intro v4 e M2 hX
    refine lpQ_ind (P := fun (s : Int32 × Int32) (M : Mem2) => AQ X 81 [(0, .ref b), (1, .ref (hY X.2.1.2 + 0)), (3, .int s.1), (4, .int v4), (5, .int s.2)] [] M) ?_
    rintro ⟨v3, v5⟩ M d M3 hE hC hD
    replace hE : LW_law_L81 L xs v4 v3 v5 M = some (d, M3) := hE
    show AQ X 81 [(0, .ref b), (1, .ref (hY X.2.1.2 + 0)), (3, .int v3), (4, .int v4), (5, .int v5)] [] M
    have J300 : ∀ (v3 : Int32) (v5 : Int32) (M : Mem2), LW_law_L81_J300 L xs v3 v4 v5 M = some (d, M3) → AQ X 300 [(0, .ref b), (1, .ref (hY X.2.1.2 + 0)), (3, .int v3), (4, .int v4), (5, .int v5)] [] M := by
      intro v3 v5 M hE
      unfold LW_law_L81_J300 at hE
      refine g_iload_n S.1 dL_law_300 2 rfl ?_
      refine g_if_eq S.1 315 dL_law_301 (by decide) (fun c => ?_) (fun c => ?_)
      · rw [if_pos c] at hE
        refine g_iconst S.1 (0 : Int32) dL_law_315 rfl ?_
        refine g_istore_n (lv2 := [(3, .int (0 : Int32)), (0, .ref b), (1, .ref (hY X.2.1.2 + 0)), (4, .int v4), (5, .int v5)]) S.1 dL_law_316 (by decide) rfl ?_
        refine g_iinc (lv2 := [(5, .int (v5 + (1 : Int32))), (3, .int (0 : Int32)), (0, .ref b), (1, .ref (hY X.2.1.2 + 0)), (4, .int v4)]) S.1 dL_law_317 (j := 4) rfl (by decide) rfl ?_
        refine g_goto S.1 81 dL_law_320 (by decide) ?_
        obtain ⟨rfl, rfl⟩ := sq2 hE
        exact g_sub (lv2 := [(0, .ref b), (1, .ref (hY X.2.1.2 + 0)), (3, .int (0 : Int32)), (4, .int v4), (5, .int (v5 + (1 : Int32)))]) [2, 3, 1, 4, 0] rfl (hC ((0 : Int32), (v5 + (1 : Int32))) rfl)
      · rw [if_neg c] at hE
        refine g_aload_n S.1 dL_law_304 1 rfl ?_
        obtain ⟨x1, M2, h9, hE⟩ := bq_some hE
        refine qs_I S (c_LW_isSound _ _ S.G b L xs M _ _ h9) wdL_isSound q_740 ⟨Nat.le_of_ble_eq_true rfl, Nat.le_of_ble_eq_true rfl⟩ rfl (Nat.le_of_ble_eq_true rfl) dL_law_305 ?_
        refine g_if_eq S.1 315 dL_law_308 (by decide) (fun c => ?_) (fun c => ?_)
        · try simp only [if_pos c] at hE
          refine g_iconst S.1 (0 : Int32) dL_law_315 rfl ?_
          refine g_istore_n (lv2 := [(3, .int (0 : Int32)), (0, .ref b), (1, .ref (hY X.2.1.2 + 0)), (4, .int v4), (5, .int v5)]) S.1 dL_law_316 (by decide) rfl ?_
          refine g_iinc (lv2 := [(5, .int (v5 + (1 : Int32))), (3, .int (0 : Int32)), (0, .ref b), (1, .ref (hY X.2.1.2 + 0)), (4, .int v4)]) S.1 dL_law_317 (j := 4) rfl (by decide) rfl ?_
          refine g_goto S.1 81 dL_law_320 (by decide) ?_
          obtain ⟨rfl, rfl⟩ := sq2 hE
          exact g_sub (lv2 := [(0, .ref b), (1, .ref (hY X.2.1.2 + 0)), (3, .int (0 : Int32)), (4, .int v4), (5, .int (v5 + (1 : Int32)))]) [2, 3, 1, 4, 0] rfl (hC ((0 : Int32), (v5 + (1 : Int32))) rfl)
        · try simp only [if_neg c] at hE
          refine g_iconst S.1 (1 : Int32) dL_law_311 rfl ?_
          refine g_goto S.1 316 dL_law_312 (by decide) ?_
          refine g_istore_n (lv2 := [(3, .int (1 : Int32)), (0, .ref b), (1, .ref (hY X.2.1.2 + 0)), (4, .int v4), (5, .int v5)]) S.1 dL_law_316 (by decide) rfl ?_
          refine g_iinc (lv2 := [(5, .int (v5 + (1 : Int32))), (3, .int (1 : Int32)), (0, .ref b), (1, .ref (hY X.2.1.2 + 0)), (4, .int v4)]) S.1 dL_law_317 (j := 4) rfl (by decide) rfl ?_
          refine g_goto S.1 81 dL_law_320 (by decide) ?_
          obtain ⟨rfl, rfl⟩ := sq2 hE
          exact g_sub (lv2 := [(0, .ref b), (1, .ref (hY X.2.1.2 + 0)), (3, .int (1 : Int32)), (4, .int v4), (5, .int (v5 + (1 : Int32)))]) [2, 3, 1, 4, 0] rfl (hC ((1 : Int32), (v5 + (1 : Int32))) rfl)
    have J299 : ∀ (v5 : Int32) (t0 : Int32) (M : Mem2), LW_law_L81_J299 L xs v4 v5 t0 M = some (d, M3) → AQ X 299 [(0, .ref b), (1, .ref (hY X.2.1.2 + 0)), (4, .int v4), (5, .int v5)] [.int t0] M := by
      intro v5 t0 M hE
      unfold LW_law_L81_J299 at hE
      refine g_istore_n (lv2 := [(3, .int t0), (0, .ref b), (1, .ref (hY X.2.1.2 + 0)), (4, .int v4), (5, .int v5)]) S.1 dL_law_299 (by decide) rfl ?_
      exact g_sub [1, 2, 0, 3, 4] rfl (J300 t0 v5 M hE)
    have J298 : ∀ (v5 : Int32) (M : Mem2), LW_law_L81_J298 L xs v4 v5 M = some (d, M3) → AQ X 298 [(0, .ref b), (1, .ref (hY X.2.1.2 + 0)), (4, .int v4), (5, .int v5)] [] M := by
      intro v5 M hE
      unfold LW_law_L81_J298 at hE
      refine g_iconst S.1 (0 : Int32) dL_law_298 rfl ?_
      exact g_sub [0, 1, 2, 3] rfl (J299 v5 (0 : Int32) M hE)
    have J220 : ∀ (v5 : Int32) (t0 : Int32) (M : Mem2), LW_law_L81_J220 L xs v4 v5 t0 M = some (d, M3) → AQ X 220 [(0, .ref b), (1, .ref (hY X.2.1.2 + 0)), (4, .int v4), (5, .int v5)] [.int t0] M := by
      intro v5 t0 M hE
      unfold LW_law_L81_J220 at hE
      refine g_istore_n (lv2 := [(3, .int t0), (0, .ref b), (1, .ref (hY X.2.1.2 + 0)), (4, .int v4), (5, .int v5)]) S.1 dL_law_220 (by decide) rfl ?_
      refine g_goto S.1 300 dL_law_221 (by decide) ?_
      exact g_sub [1, 2, 0, 3, 4] rfl (J300 t0 v5 M hE)
    have J219 : ∀ (v5 : Int32) (M : Mem2), LW_law_L81_J219 L xs v4 v5 M = some (d, M3) → AQ X 219 [(0, .ref b), (1, .ref (hY X.2.1.2 + 0)), (4, .int v4), (5, .int v5)] [] M := by
      intro v5 M hE
      unfold LW_law_L81_J219 at hE
      refine g_iconst S.1 (0 : Int32) dL_law_219 rfl ?_
      exact g_sub [0, 1, 2, 3] rfl (J220 v5 (0 : Int32) M hE)
    have J137 : ∀ (v5 : Int32) (v6 : Int32) (v7 : Int32) (t0 : Int32) (t1 : Int32) (M : Mem2), LW_law_L81_J137 L xs v4 v5 v6 v7 t0 t1 M = some (d, M3) → AQ X 137 [(0, .ref b), (1, .ref (hY X.2.1.2 + 0)), (4, .int v4), (5, .int v5), (6, .int v6), (7, .int v7)] [.int t0, .int t1] M := by
      intro v5 v6 v7 t0 t1 M hE
      unfold LW_law_L81_J137 at hE
      obtain ⟨x1, h9, hE⟩ := b1_some hE
      refine qs_I S (c_LW_up _ _ S.G b L xs t1 t0 M _ h9) wdL_up q_693 ⟨Nat.le_of_ble_eq_true rfl, Nat.le_of_ble_eq_true rfl⟩ rfl (Nat.le_of_ble_eq_true rfl) dL_law_137 ?_
      refine g_istore (lv2 := [(8, .int x1), (0, .ref b), (1, .ref (hY X.2.1.2 + 0)), (4, .int v4), (5, .int v5), (6, .int v6), (7, .int v7)]) S.1 dL_law_140 (by decide) rfl ?_
      refine g_iload S.1 dL_law_142 5 rfl ?_
      refine g_bipush S.1 (7 : Int32) dL_law_144 rfl ?_
      refine g_iand S.1 dL_law_146 ?_
      refine g_iconst S.1 (5 : Int32) dL_law_147 rfl ?_
      refine g_icmp_ge S.1 163 dL_law_148 (by decide) (fun c => ?_) (fun c => ?_)
      · rw [if_pos c] at hE
        refine g_iload S.1 dL_law_163 5 rfl ?_
        refine g_bipush S.1 (7 : Int32) dL_law_165 rfl ?_
        refine g_iand S.1 dL_law_167 ?_
        refine g_iconst S.1 (5 : Int32) dL_law_168 rfl ?_
        refine g_icmp_ne S.1 224 dL_law_169 (by decide) (fun c => ?_) (fun c => ?_)
        · rw [if_pos c] at hE
          refine g_aload_n S.1 dL_law_224 2 rfl ?_
          refine g_iconst S.1 (1 : Int32) dL_law_225 rfl ?_
          obtain ⟨x3, M4, h9, hE⟩ := bo_some hE
          refine qo_L S (n_LL_balance _ _ S.G (1 : Int32) M.1 _ _ h9) fc7 wdX7_balance q_679 ⟨Nat.le_of_ble_eq_true rfl, Nat.le_of_ble_eq_true rfl⟩ rfl (Nat.le_of_ble_eq_true rfl) dL_law_226 ?_
          refine g_aload_n S.1 dL_law_229 2 rfl ?_
          refine g_iconst S.1 (2 : Int32) dL_law_230 rfl ?_
          obtain ⟨x5, M6, h9, hE⟩ := bo_some hE
          refine qo_L S (n_LL_balance _ _ S.G (2 : Int32) M4 _ _ h9) fc7 wdX7_balance q_679 ⟨Nat.le_of_ble_eq_true rfl, Nat.le_of_ble_eq_true rfl⟩ rfl (Nat.le_of_ble_eq_true rfl) dL_law_231 ?_
          refine g_ladd S.1 dL_law_234 ?_
          refine g_lstore (lv2 := [(9, .long (x3 + x5)), (8, .int x1), (0, .ref b), (1, .ref (hY X.2.1.2 + 0)), (4, .int v4), (5, .int v5), (6, .int v6), (7, .int v7)]) S.1 dL_law_235 (by decide) rfl ?_
          refine g_aload_n S.1 dL_law_237 3 rfl ?_
          refine g_iload S.1 dL_law_238 7 rfl ?_
          refine g_iconst S.1 (0 : Int32) dL_law_240 rfl ?_
          obtain ⟨x7, M8, h9, hE⟩ := bo_some hE
          refine qo_I S (n_LL_cell _ _ S.G v7 (0 : Int32) M6 _ _ h9) fc7 wdX7_cell q_665 ⟨Nat.le_of_ble_eq_true rfl, Nat.le_of_ble_eq_true rfl⟩ rfl (Nat.le_of_ble_eq_true rfl) dL_law_241 ?_
          refine g_istore (lv2 := [(11, .int x7), (9, .long (x3 + x5)), (8, .int x1), (0, .ref b), (1, .ref (hY X.2.1.2 + 0)), (4, .int v4), (5, .int v5), (6, .int v6), (7, .int v7)]) S.1 dL_law_244 (by decide) rfl ?_
          refine g_aload_n S.1 dL_law_246 4 rfl ?_
          refine g_iload S.1 dL_law_247 8 rfl ?_
          refine g_iload S.1 dL_law_249 2 rfl ?_
          refine g_bipush S.1 (100 : Int32) dL_law_251 rfl ?_
          refine g_irem S.1 dL_law_253 (by decide) ?_
          obtain ⟨x9, M10, h9, hE⟩ := bo_some hE
          refine qo_I S (n_LL_setHeight _ _ S.G v7 (irm x1 (100 : Int32)) M8 _ _ h9) fc7 wdX7_setHeight q_753 ⟨Nat.le_of_ble_eq_true rfl, Nat.le_of_ble_eq_true rfl⟩ rfl (Nat.le_of_ble_eq_true rfl) dL_law_254 ?_
          refine g_iload S.1 dL_law_257 0 rfl ?_
          refine g_icmp_ne S.1 298 dL_law_259 (by decide) (fun c => ?_) (fun c => ?_)
          · rw [if_pos c] at hE
            exact g_sub [3, 4, 5, 6] rfl (J298 v5 (M10, M.2) hE)
          · rw [if_neg (not_not_intro c)] at hE
            refine g_aload_n S.1 dL_law_262 4 rfl ?_
            refine g_iconst S.1 (1 : Int32) dL_law_263 rfl ?_
            obtain ⟨x11, M12, h9, hE⟩ := bo_some hE
            refine qo_L S (n_LL_balance _ _ S.G (1 : Int32) M10 _ _ h9) fc7 wdX7_balance q_679 ⟨Nat.le_of_ble_eq_true rfl, Nat.le_of_ble_eq_true rfl⟩ rfl (Nat.le_of_ble_eq_true rfl) dL_law_264 ?_
            refine g_aload_n S.1 dL_law_267 4 rfl ?_
            refine g_iconst S.1 (2 : Int32) dL_law_268 rfl ?_
            obtain ⟨x13, M14, h9, hE⟩ := bo_some hE
            refine qo_L S (n_LL_balance _ _ S.G (2 : Int32) M12 _ _ h9) fc7 wdX7_balance q_679 ⟨Nat.le_of_ble_eq_true rfl, Nat.le_of_ble_eq_true rfl⟩ rfl (Nat.le_of_ble_eq_true rfl) dL_law_269 ?_
            refine g_ladd S.1 dL_law_272 ?_
            refine g_lload S.1 dL_law_273 1 rfl ?_
            refine g_lcmp_ne S.1 298 dL_law_275 dL_law_276 (by decide) (fun c => ?_) (fun c => ?_)
            · rw [if_pos c] at hE
              exact g_sub [3, 4, 5, 6] rfl (J298 v5 (M14, M.2) hE)
            · rw [if_neg (not_not_intro c)] at hE
              refine g_aload_n S.1 dL_law_279 4 rfl ?_
              refine g_iload S.1 dL_law_280 8 rfl ?_
              refine g_iconst S.1 (0 : Int32) dL_law_282 rfl ?_
              obtain ⟨x15, M16, h9, hE⟩ := bo_some hE
              refine qo_I S (n_LL_cell _ _ S.G v7 (0 : Int32) M14 _ _ h9) fc7 wdX7_cell q_665 ⟨Nat.le_of_ble_eq_true rfl, Nat.le_of_ble_eq_true rfl⟩ rfl (Nat.le_of_ble_eq_true rfl) dL_law_283 ?_
              refine g_iload S.1 dL_law_286 2 rfl ?_
              refine g_bipush S.1 (100 : Int32) dL_law_288 rfl ?_
              refine g_irem S.1 dL_law_290 (by decide) ?_
              refine g_icmp_ne S.1 298 dL_law_291 (by decide) (fun c => ?_) (fun c => ?_)
              · try simp only [if_pos c] at hE
                refine g_iconst S.1 (0 : Int32) dL_law_298 rfl ?_
                exact g_sub [3, 4, 5, 6] rfl (J299 v5 (0 : Int32) (M16, M.2) hE)
              · try simp only [if_neg (not_not_intro c)] at hE
                refine g_iconst S.1 (1 : Int32) dL_law_294 rfl ?_
                refine g_goto S.1 299 dL_law_295 (by decide) ?_
                exact g_sub [3, 4, 5, 6] rfl (J299 v5 (1 : Int32) (M16, M.2) hE)
        · rw [if_neg (not_not_intro c)] at hE
          refine g_aload_n S.1 dL_law_172 2 rfl ?_
          refine g_iconst S.1 (1 : Int32) dL_law_173 rfl ?_
          obtain ⟨x17, M18, h9, hE⟩ := bo_some hE
          refine qo_L S (n_LL_balance _ _ S.G (1 : Int32) M.1 _ _ h9) fc7 wdX7_balance q_679 ⟨Nat.le_of_ble_eq_true rfl, Nat.le_of_ble_eq_true rfl⟩ rfl (Nat.le_of_ble_eq_true rfl) dL_law_174 ?_
          refine g_lstore (lv2 := [(9, .long x17), (8, .int x1), (0, .ref b), (1, .ref (hY X.2.1.2 + 0)), (4, .int v4), (5, .int v5), (6, .int v6), (7, .int v7)]) S.1 dL_law_177 (by decide) rfl ?_
          refine g_aload_n S.1 dL_law_179 3 rfl ?_
          refine g_iconst S.1 (1 : Int32) dL_law_180 rfl ?_
          refine g_iload S.1 dL_law_181 1 rfl ?_
          refine g_iconst S.1 (3 : Int32) dL_law_183 rfl ?_
          refine g_irem S.1 dL_law_184 (by decide) ?_
          refine g_iadd S.1 dL_law_185 ?_
          obtain ⟨x19, M20, h9, hE⟩ := bo_some hE
          refine qo_I S (n_LL_evaporate _ _ S.G ((1 : Int32) + (irm x1 (3 : Int32))) M18 _ _ h9) fc7 wdX7_evaporate q_748 ⟨Nat.le_of_ble_eq_true rfl, Nat.le_of_ble_eq_true rfl⟩ rfl (Nat.le_of_ble_eq_true rfl) dL_law_186 ?_
          refine g_istore (lv2 := [(11, .int x19), (9, .long x17), (8, .int x1), (0, .ref b), (1, .ref (hY X.2.1.2 + 0)), (4, .int v4), (5, .int v5), (6, .int v6), (7, .int v7)]) S.1 dL_law_189 (by decide) rfl ?_
          refine g_iload S.1 dL_law_191 0 rfl ?_
          refine g_i2l S.1 dL_law_193 ?_
          refine g_lload S.1 dL_law_194 1 rfl ?_
          refine g_lcmp_gt S.1 219 dL_law_196 dL_law_197 (by decide) (fun c => ?_) (fun c => ?_)
          · rw [if_pos c] at hE
            exact g_sub [3, 4, 5, 6] rfl (J219 v5 (M20, M.2) hE)
          · rw [if_neg c] at hE
            refine g_aload_n S.1 dL_law_200 4 rfl ?_
            refine g_iconst S.1 (1 : Int32) dL_law_201 rfl ?_
            obtain ⟨x21, M22, h9, hE⟩ := bo_some hE
            refine qo_L S (n_LL_balance _ _ S.G (1 : Int32) M20 _ _ h9) fc7 wdX7_balance q_679 ⟨Nat.le_of_ble_eq_true rfl, Nat.le_of_ble_eq_true rfl⟩ rfl (Nat.le_of_ble_eq_true rfl) dL_law_202 ?_
            refine g_lload S.1 dL_law_205 1 rfl ?_
            refine g_iload S.1 dL_law_207 0 rfl ?_
            refine g_i2l S.1 dL_law_209 ?_
            refine g_lsub S.1 dL_law_210 ?_
            refine g_lcmp_ne S.1 219 dL_law_211 dL_law_212 (by decide) (fun c => ?_) (fun c => ?_)
            · rw [if_pos c] at hE
              exact g_sub [3, 4, 5, 6] rfl (J219 v5 (M22, M.2) hE)
            · rw [if_neg (not_not_intro c)] at hE
              refine g_iconst S.1 (1 : Int32) dL_law_215 rfl ?_
              refine g_goto S.1 220 dL_law_216 (by decide) ?_
              exact g_sub [3, 4, 5, 6] rfl (J220 v5 (1 : Int32) (M22, M.2) hE)
      · rw [if_neg c] at hE
        refine g_aload_n S.1 dL_law_151 2 rfl ?_
        refine g_iload S.1 dL_law_152 6 rfl ?_
        refine g_iload S.1 dL_law_154 0 rfl ?_
        obtain ⟨x23, M24, h9, hE⟩ := bq_some hE
        refine qs_I S (c_LW_isRaised _ _ S.G b L xs v7 x1 M _ _ h9) wdL_isRaised q_744 ⟨Nat.le_of_ble_eq_true rfl, Nat.le_of_ble_eq_true rfl⟩ rfl (Nat.le_of_ble_eq_true rfl) dL_law_156 ?_
        refine g_istore_n (lv2 := [(3, .int x23), (8, .int x1), (0, .ref b), (1, .ref (hY X.2.1.2 + 0)), (4, .int v4), (5, .int v5), (6, .int v6), (7, .int v7)]) S.1 dL_law_159 (by decide) rfl ?_
        refine g_goto S.1 300 dL_law_160 (by decide) ?_
        exact g_sub [2, 3, 0, 4, 5] rfl (J300 x23 v5 M24 hE)
    unfold LW_law_L81 at hE
    refine g_iload S.1 dL_law_81 4 rfl ?_
    refine g_bipush S.1 (12 : Int32) dL_law_83 rfl ?_
    refine g_icmp_ge S.1 323 dL_law_85 (by decide) (fun c => ?_) (fun c => ?_)
    · rw [if_pos c] at hE
      obtain ⟨rfl, rfl⟩ := sq2 hE
      rcases hD with ⟨h1, h2⟩ | ⟨_, h1⟩
      · obtain rfl := sir h1
        subst h2
        exact g_sub [0, 1, 2, 3] rfl hX
      · exact (sil h1).elim
    · rw [if_neg c] at hE
      refine g_iload_n S.1 dL_law_88 2 rfl ?_
      refine g_if_eq S.1 323 dL_law_89 (by decide) (fun c => ?_) (fun c => ?_)
      · rw [if_pos c] at hE
        obtain ⟨rfl, rfl⟩ := sq2 hE
        rcases hD with ⟨h1, h2⟩ | ⟨_, h1⟩
        · obtain rfl := sir h1
          subst h2
          exact g_sub [0, 1, 2, 3] rfl hX
        · exact (sil h1).elim
      · rw [if_neg c] at hE
        refine g_aload_n S.1 dL_law_92 0 rfl ?_
        refine g_bipush S.1 (10 : Int32) dL_law_93 rfl ?_
        refine g_iload S.1 dL_law_95 4 rfl ?_
        refine g_iadd S.1 dL_law_97 ?_
        obtain ⟨x1, h9, hE⟩ := b1_some hE
        refine qs_I S (c_LW_cell _ _ S.G b L xs ((10 : Int32) + v5) M _ h9) wdL_cell q_689 ⟨Nat.le_of_ble_eq_true rfl, Nat.le_of_ble_eq_true rfl⟩ rfl (Nat.le_of_ble_eq_true rfl) dL_law_98 ?_
        refine g_istore (lv2 := [(6, .int x1), (0, .ref b), (1, .ref (hY X.2.1.2 + 0)), (3, .int v3), (4, .int v4), (5, .int v5)]) S.1 dL_law_101 (by decide) rfl ?_
        refine g_iload S.1 dL_law_103 0 rfl ?_
        refine g_iconst S.1 (3 : Int32) dL_law_105 rfl ?_
        refine g_ishr S.1 dL_law_106 ?_
        refine g_iload S.1 dL_law_107 4 rfl ?_
        obtain ⟨x3, h9, hE⟩ := b1_some hE
        refine qs_I S (c_LW_up _ _ S.G b L xs (isr x1 (3 : Int32)) v4 M _ h9) wdL_up q_693 ⟨Nat.le_of_ble_eq_true rfl, Nat.le_of_ble_eq_true rfl⟩ rfl (Nat.le_of_ble_eq_true rfl) dL_law_109 ?_
        refine g_istore (lv2 := [(7, .int x3), (6, .int x1), (0, .ref b), (1, .ref (hY X.2.1.2 + 0)), (3, .int v3), (4, .int v4), (5, .int v5)]) S.1 dL_law_112 (by decide) rfl ?_
        refine g_iload S.1 dL_law_114 1 rfl ?_
        refine g_bipush S.1 (9 : Int32) dL_law_116 rfl ?_
        refine g_ishr S.1 dL_law_118 ?_
        refine g_iload S.1 dL_law_119 1 rfl ?_
        refine g_bipush S.1 (8 : Int32) dL_law_121 rfl ?_
        refine g_ishr S.1 dL_law_123 ?_
        refine g_iconst S.1 (1 : Int32) dL_law_124 rfl ?_
        refine g_iand S.1 dL_law_125 ?_
        refine g_if_ne S.1 134 dL_law_126 (by decide) (fun c => ?_) (fun c => ?_)
        · try simp only [if_pos c] at hE
          refine g_sipush S.1 (300 : Int32) dL_law_134 rfl ?_
          exact g_sub [2, 3, 5, 6, 1, 0] rfl (J137 v5 x1 x3 (300 : Int32) (isr x1 (9 : Int32)) M hE)
        · try simp only [if_neg (not_not_intro c)] at hE
          refine g_bipush S.1 (10 : Int32) dL_law_129 rfl ?_
          refine g_goto S.1 137 dL_law_131 (by decide) ?_
          exact g_sub [2, 3, 5, 6, 1, 0] rfl (J137 v5 x1 x3 (10 : Int32) (isr x1 (9 : Int32)) M hE)
  have J525 : ∀ (v9 : Int32) (v10 : Int32) (v11 : Int32) (t0 : Int32) (M : Mem2), LW_law_J525 L xs v9 v10 v11 t0 M = some (r, M1) → AQ X 525 [(1, .ref (hY X.2.1.2 + 0)), (9, .int v9), (10, .int v10), (11, .int v11)] [.int t0] M := by
    intro v9 v10 v11 t0 M hE
    unfold LW_law_J525 at hE
    refine g_istore_n (lv2 := [(3, .int t0), (1, .ref (hY X.2.1.2 + 0)), (9, .int v9), (10, .int v10), (11, .int v11)]) S.1 dL_law_525 (by decide) rfl ?_
    refine g_iload_n S.1 dL_law_526 0 rfl ?_
    refine g_if_eq S.1 589 dL_law_527 (by decide) (fun c => ?_) (fun c => ?_)
    · rw [if_pos c] at hE
      refine g_iconst S.1 (0 : Int32) dL_law_589 rfl ?_
      obtain ⟨rfl, rfl⟩ := sq2 hE
      exact hret _ _ dL_law_590
    · rw [if_neg c] at hE
      refine g_iload S.1 dL_law_530 4 rfl ?_
      refine g_iconst S.1 (1 : Int32) dL_law_532 rfl ?_
      refine g_icmp_lt S.1 585 dL_law_533 (by decide) (fun c => ?_) (fun c => ?_)
      · rw [if_pos c] at hE
        refine g_iconst S.1 (1 : Int32) dL_law_585 rfl ?_
        refine g_goto S.1 590 dL_law_586 (by decide) ?_
        obtain ⟨rfl, rfl⟩ := sq2 hE
        exact hret _ _ dL_law_590
      · rw [if_neg c] at hE
        refine g_aload_n S.1 dL_law_536 1 rfl ?_
        refine g_iconst S.1 (1 : Int32) dL_law_537 rfl ?_
        obtain ⟨x1, M2, h9, hE⟩ := bo_some hE
        refine qo_L S (n_LL_balance _ _ S.G (1 : Int32) M.1 _ _ h9) fc7 wdX7_balance q_679 ⟨Nat.le_of_ble_eq_true rfl, Nat.le_of_ble_eq_true rfl⟩ rfl (Nat.le_of_ble_eq_true rfl) dL_law_538 ?_
        refine g_iload S.1 dL_law_541 4 rfl ?_
        refine g_i2l S.1 dL_law_543 ?_
        refine g_ladd S.1 dL_law_544 ?_
        refine g_ldc2 S.1 (v := 1000000) q_774 dL_law_545 ?_
        refine g_lcmp_gt S.1 585 dL_law_548 dL_law_549 (by decide) (fun c => ?_) (fun c => ?_)
        · rw [if_pos c] at hE
          refine g_iconst S.1 (1 : Int32) dL_law_585 rfl ?_
          refine g_goto S.1 590 dL_law_586 (by decide) ?_
          obtain ⟨rfl, rfl⟩ := sq2 hE
          exact hret _ _ dL_law_590
        · rw [if_neg c] at hE
          refine g_aload_n S.1 dL_law_552 1 rfl ?_
          refine g_iload S.1 dL_law_553 2 rfl ?_
          refine g_iload S.1 dL_law_555 4 rfl ?_
          obtain ⟨x3, M4, h9, hE⟩ := bo_some hE
          refine qo_I S (n_LL_pour _ _ S.G v9 v11 M2 _ _ h9) fc7 wdX7_pour q_718 ⟨Nat.le_of_ble_eq_true rfl, Nat.le_of_ble_eq_true rfl⟩ rfl (Nat.le_of_ble_eq_true rfl) dL_law_557 ?_
          refine g_if_lt S.1 589 dL_law_560 (by decide) (fun c => ?_) (fun c => ?_)
          · rw [if_pos c] at hE
            refine g_iconst S.1 (0 : Int32) dL_law_589 rfl ?_
            obtain ⟨rfl, rfl⟩ := sq2 hE
            exact hret _ _ dL_law_590
          · rw [if_neg c] at hE
            refine g_aload_n S.1 dL_law_563 1 rfl ?_
            refine g_iload S.1 dL_law_564 3 rfl ?_
            refine g_iconst S.1 (4 : Int32) dL_law_566 rfl ?_
            obtain ⟨x5, M6, h9, hE⟩ := bo_some hE
            refine qo_I S (n_LL_cell _ _ S.G v10 (4 : Int32) M4 _ _ h9) fc7 wdX7_cell q_665 ⟨Nat.le_of_ble_eq_true rfl, Nat.le_of_ble_eq_true rfl⟩ rfl (Nat.le_of_ble_eq_true rfl) dL_law_567 ?_
            refine g_iconst S.1 (1 : Int32) dL_law_570 rfl ?_
            refine g_icmp_ne S.1 589 dL_law_571 (by decide) (fun c => ?_) (fun c => ?_)
            · rw [if_pos c] at hE
              refine g_iconst S.1 (0 : Int32) dL_law_589 rfl ?_
              obtain ⟨rfl, rfl⟩ := sq2 hE
              exact hret _ _ dL_law_590
            · rw [if_neg (not_not_intro c)] at hE
              refine g_aload_n S.1 dL_law_574 1 rfl ?_
              refine g_iload S.1 dL_law_575 2 rfl ?_
              refine g_iload S.1 dL_law_577 3 rfl ?_
              obtain ⟨x7, M8, h9, hE⟩ := bo_some hE
              refine qo_I S (n_LL_amountFor _ _ S.G v9 v10 M6 _ _ h9) fc7 wdX7_amountFor q_768 ⟨Nat.le_of_ble_eq_true rfl, Nat.le_of_ble_eq_true rfl⟩ rfl (Nat.le_of_ble_eq_true rfl) dL_law_579 ?_
              refine g_if_ne S.1 589 dL_law_582 (by decide) (fun c => ?_) (fun c => ?_)
              · try simp only [if_pos c] at hE
                refine g_iconst S.1 (0 : Int32) dL_law_589 rfl ?_
                obtain ⟨rfl, rfl⟩ := sq2 hE
                exact hret _ _ dL_law_590
              · try simp only [if_neg (not_not_intro c)] at hE
                refine g_iconst S.1 (1 : Int32) dL_law_585 rfl ?_
                refine g_goto S.1 590 dL_law_586 (by decide) ?_
                obtain ⟨rfl, rfl⟩ := sq2 hE
                exact hret _ _ dL_law_590
  have J524 : ∀ (v9 : Int32) (v10 : Int32) (v11 : Int32) (M : Mem2), LW_law_J524 L xs v9 v10 v11 M = some (r, M1) → AQ X 524 [(1, .ref (hY X.2.1.2 + 0)), (9, .int v9), (10, .int v10), (11, .int v11)] [] M := by
    intro v9 v10 v11 M hE
    unfold LW_law_J524 at hE
    refine g_iconst S.1 (0 : Int32) dL_law_524 rfl ?_
    exact g_sub [0, 1, 2, 3] rfl (J525 v9 v10 v11 (0 : Int32) M hE)
  have J513 : ∀ (v9 : Int32) (v10 : Int32) (v11 : Int32) (M : Mem2), LW_law_J513 L xs v9 v10 v11 M = some (r, M1) → AQ X 513 [(1, .ref (hY X.2.1.2 + 0)), (9, .int v9), (10, .int v10), (11, .int v11)] [] M := by
    intro v9 v10 v11 M hE
    unfold LW_law_J513 at hE
    refine g_iload S.1 dL_law_513 3 rfl ?_
    refine g_ldc S.1 (v := 100000) q_773 dL_law_515 ?_
    refine g_icmp_gt S.1 524 dL_law_517 (by decide) (fun c => ?_) (fun c => ?_)
    · try simp only [if_pos c] at hE
      refine g_iconst S.1 (0 : Int32) dL_law_524 rfl ?_
      exact g_sub [0, 1, 2, 3] rfl (J525 v9 v10 v11 (0 : Int32) M hE)
    · try simp only [if_neg c] at hE
      refine g_iconst S.1 (1 : Int32) dL_law_520 rfl ?_
      refine g_goto S.1 525 dL_law_521 (by decide) ?_
      exact g_sub [0, 1, 2, 3] rfl (J525 v9 v10 v11 (1 : Int32) M hE)
  have J497 : ∀ (v9 : Int32) (v10 : Int32) (v11 : Int32) (M : Mem2), LW_law_J497 L xs v9 v10 v11 M = some (r, M1) → AQ X 497 [(1, .ref (hY X.2.1.2 + 0)), (9, .int v9), (10, .int v10), (11, .int v11)] [] M := by
    intro v9 v10 v11 M hE
    unfold LW_law_J497 at hE
    refine g_iload S.1 dL_law_497 3 rfl ?_
    refine g_if_ne S.1 513 dL_law_499 (by decide) (fun c => ?_) (fun c => ?_)
    · rw [if_pos c] at hE
      exact g_sub [0, 1, 2, 3] rfl (J513 v9 v10 v11 M hE)
    · rw [if_neg (not_not_intro c)] at hE
      refine g_aload_n S.1 dL_law_502 0 rfl ?_
      refine g_iload S.1 dL_law_503 2 rfl ?_
      refine g_iconst S.1 (4 : Int32) dL_law_505 rfl ?_
      obtain ⟨x1, M2, h9, hE⟩ := bo_some hE
      refine qo_I S (n_LL_cell _ _ S.G v10 (4 : Int32) M.1 _ _ h9) fc7 wdX7_cell q_665 ⟨Nat.le_of_ble_eq_true rfl, Nat.le_of_ble_eq_true rfl⟩ rfl (Nat.le_of_ble_eq_true rfl) dL_law_506 ?_
      refine g_iconst S.1 (1 : Int32) dL_law_509 rfl ?_
      refine g_icmp_ne S.1 524 dL_law_510 (by decide) (fun c => ?_) (fun c => ?_)
      · try simp only [if_pos c] at hE
        refine g_iconst S.1 (0 : Int32) dL_law_524 rfl ?_
        exact g_sub [0, 1, 2, 3] rfl (J525 v9 v10 v11 (0 : Int32) (M2, M.2) hE)
      · try simp only [if_neg (not_not_intro c)] at hE
        refine g_iload S.1 dL_law_513 3 rfl ?_
        refine g_ldc S.1 (v := 100000) q_773 dL_law_515 ?_
        refine g_icmp_gt S.1 524 dL_law_517 (by decide) (fun c => ?_) (fun c => ?_)
        · try simp only [if_pos c] at hE
          refine g_iconst S.1 (0 : Int32) dL_law_524 rfl ?_
          exact g_sub [0, 1, 2, 3] rfl (J525 v9 v10 v11 (0 : Int32) (M2, M.2) hE)
        · try simp only [if_neg c] at hE
          refine g_iconst S.1 (1 : Int32) dL_law_520 rfl ?_
          refine g_goto S.1 525 dL_law_521 (by decide) ?_
          exact g_sub [0, 1, 2, 3] rfl (J525 v9 v10 v11 (1 : Int32) (M2, M.2) hE)
  have J479 : ∀ (v3 : Int32) (v9 : Int32) (v10 : Int32) (v11 : Int32) (t0 : Int32) (M : Mem2), LW_law_J479 L xs v3 v9 v10 v11 t0 M = some (r, M1) → AQ X 479 [(1, .ref (hY X.2.1.2 + 0)), (3, .int v3), (9, .int v9), (10, .int v10), (11, .int v11)] [.int t0] M := by
    intro v3 v9 v10 v11 t0 M hE
    unfold LW_law_J479 at hE
    refine g_istore (lv2 := [(12, .int t0), (1, .ref (hY X.2.1.2 + 0)), (3, .int v3), (9, .int v9), (10, .int v10), (11, .int v11)]) S.1 dL_law_479 (by decide) rfl ?_
    refine g_iload_n S.1 dL_law_481 2 rfl ?_
    refine g_if_eq S.1 524 dL_law_482 (by decide) (fun c => ?_) (fun c => ?_)
    · rw [if_pos c] at hE
      exact g_sub [1, 3, 4, 5] rfl (J524 v9 v10 v11 M hE)
    · rw [if_neg c] at hE
      refine g_aload_n S.1 dL_law_485 1 rfl ?_
      obtain ⟨x1, h9, hE⟩ := b1_some hE
      refine qo_I S (M1 := M.1) (c_LL_deepest _ _ S.G M.1 _ h9) fc7 wdX7_deepest q_684 ⟨Nat.le_of_ble_eq_true rfl, Nat.le_of_ble_eq_true rfl⟩ rfl (Nat.le_of_ble_eq_true rfl) dL_law_486 ?_
      refine g_if_lt S.1 497 dL_law_489 (by decide) (fun c => ?_) (fun c => ?_)
      · rw [if_pos c] at hE
        exact g_sub [1, 3, 4, 5] rfl (J497 v9 v10 v11 (M.1, M.2) hE)
      · rw [if_neg c] at hE
        refine g_iload S.1 dL_law_492 0 rfl ?_
        refine g_if_ne S.1 524 dL_law_494 (by decide) (fun c => ?_) (fun c => ?_)
        · rw [if_pos c] at hE
          exact g_sub [1, 3, 4, 5] rfl (J524 v9 v10 v11 (M.1, M.2) hE)
        · rw [if_neg (not_not_intro c)] at hE
          exact g_sub [1, 3, 4, 5] rfl (J497 v9 v10 v11 (M.1, M.2) hE)
  have J472 : ∀ (v3 : Int32) (v9 : Int32) (v10 : Int32) (v11 : Int32) (t0 : Int32) (t1 : Int32) (M : Mem2), LW_law_J472 L xs v3 v9 v10 v11 t0 t1 M = some (r, M1) → AQ X 472 [(1, .ref (hY X.2.1.2 + 0)), (3, .int v3), (9, .int v9), (10, .int v10), (11, .int v11)] [.int t0, .int t1, .ref (hY X.2.1.2 + 0)] M := by
    intro v3 v9 v10 v11 t0 t1 M hE
    unfold LW_law_J472 at hE
    obtain ⟨x1, M2, h9, hE⟩ := bo_some hE
    refine qo_I S (n_LL_amountFor _ _ S.G t1 t0 M.1 _ _ h9) fc7 wdX7_amountFor q_768 ⟨Nat.le_of_ble_eq_true rfl, Nat.le_of_ble_eq_true rfl⟩ rfl (Nat.le_of_ble_eq_true rfl) dL_law_472 ?_
    refine g_goto S.1 479 dL_law_475 (by decide) ?_
    exact g_sub [0, 1, 2, 3, 4] rfl (J479 v3 v9 v10 v11 x1 (M2, M.2) hE)
  have J447 : ∀ (v3 : Int32) (v9 : Int32) (v10 : Int32) (t0 : Int32) (M : Mem2), LW_law_J447 L xs v3 v9 v10 t0 M = some (r, M1) → AQ X 447 [(1, .ref (hY X.2.1.2 + 0)), (3, .int v3), (9, .int v9), (10, .int v10)] [.int t0] M := by
    intro v3 v9 v10 t0 M hE
    unfold LW_law_J447 at hE
    refine g_istore (lv2 := [(11, .int t0), (1, .ref (hY X.2.1.2 + 0)), (3, .int v3), (9, .int v9), (10, .int v10)]) S.1 dL_law_447 (by decide) rfl ?_
    refine g_iload_n S.1 dL_law_449 2 rfl ?_
    refine g_if_eq S.1 478 dL_law_450 (by decide) (fun c => ?_) (fun c => ?_)
    · rw [if_pos c] at hE
      refine g_iconst S.1 (0 : Int32) dL_law_478 rfl ?_
      exact g_sub [1, 2, 3, 4, 0] rfl (J479 v3 v9 v10 t0 (0 : Int32) M hE)
    · rw [if_neg c] at hE
      refine g_aload_n S.1 dL_law_453 1 rfl ?_
      refine g_iload S.1 dL_law_454 3 rfl ?_
      refine g_aload_n S.1 dL_law_456 1 rfl ?_
      obtain ⟨x1, h9, hE⟩ := b1_some hE
      refine qo_I S (M1 := M.1) (c_LL_deepest _ _ S.G M.1 _ h9) fc7 wdX7_deepest q_684 ⟨Nat.le_of_ble_eq_true rfl, Nat.le_of_ble_eq_true rfl⟩ rfl (Nat.le_of_ble_eq_true rfl) dL_law_457 ?_
      refine g_if_ge S.1 468 dL_law_460 (by decide) (fun c => ?_) (fun c => ?_)
      · rw [if_pos c] at hE
        refine g_aload_n S.1 dL_law_468 1 rfl ?_
        obtain ⟨x3, h9, hE⟩ := b1_some hE
        refine qo_I S (M1 := M.1) (c_LL_deepest _ _ S.G M.1 _ h9) fc7 wdX7_deepest q_684 ⟨Nat.le_of_ble_eq_true rfl, Nat.le_of_ble_eq_true rfl⟩ rfl (Nat.le_of_ble_eq_true rfl) dL_law_469 ?_
        exact g_sub [1, 2, 3, 4, 0] rfl (J472 v3 v9 v10 t0 x3 v9 (M.1, M.2) hE)
      · rw [if_neg c] at hE
        refine g_iload S.1 dL_law_463 4 rfl ?_
        refine g_goto S.1 472 dL_law_465 (by decide) ?_
        exact g_sub [1, 2, 3, 4, 0] rfl (J472 v3 v9 v10 t0 v10 v9 (M.1, M.2) hE)
  have J404 : ∀ (v4 : Int32) (t0 : Int32) (M : Mem2), LW_law_J404 L xs v4 t0 M = some (r, M1) → AQ X 404 [(0, .ref b), (1, .ref (hY X.2.1.2 + 0)), (4, .int v4)] [.int t0] M := by
    intro v4 t0 M hE
    unfold LW_law_J404 at hE
    refine g_istore_n (lv2 := [(3, .int t0), (0, .ref b), (1, .ref (hY X.2.1.2 + 0)), (4, .int v4)]) S.1 dL_law_404 (by decide) rfl ?_
    refine g_aload_n S.1 dL_law_405 1 rfl ?_
    refine g_bipush S.1 (30 : Int32) dL_law_406 rfl ?_
    obtain ⟨x1, h9, hE⟩ := b1_some hE
    refine qs_I S (c_LW_cell _ _ S.G b L xs (30 : Int32) M _ h9) wdL_cell q_689 ⟨Nat.le_of_ble_eq_true rfl, Nat.le_of_ble_eq_true rfl⟩ rfl (Nat.le_of_ble_eq_true rfl) dL_law_408 ?_
    refine g_iload S.1 dL_law_411 3 rfl ?_
    obtain ⟨x3, h9, hE⟩ := b1_some hE
    refine qs_I S (c_LW_up _ _ S.G b L xs x1 v4 M _ h9) wdL_up q_693 ⟨Nat.le_of_ble_eq_true rfl, Nat.le_of_ble_eq_true rfl⟩ rfl (Nat.le_of_ble_eq_true rfl) dL_law_413 ?_
    refine g_istore (lv2 := [(9, .int x3), (3, .int t0), (0, .ref b), (1, .ref (hY X.2.1.2 + 0)), (4, .int v4)]) S.1 dL_law_416 (by decide) rfl ?_
    refine g_aload_n S.1 dL_law_418 2 rfl ?_
    refine g_bipush S.1 (31 : Int32) dL_law_419 rfl ?_
    obtain ⟨x5, h9, hE⟩ := b1_some hE
    refine qs_I S (c_LW_cell _ _ S.G b L xs (31 : Int32) M _ h9) wdL_cell q_689 ⟨Nat.le_of_ble_eq_true rfl, Nat.le_of_ble_eq_true rfl⟩ rfl (Nat.le_of_ble_eq_true rfl) dL_law_421 ?_
    refine g_iload S.1 dL_law_424 4 rfl ?_
    obtain ⟨x7, h9, hE⟩ := b1_some hE
    refine qs_I S (c_LW_up _ _ S.G b L xs x5 v4 M _ h9) wdL_up q_693 ⟨Nat.le_of_ble_eq_true rfl, Nat.le_of_ble_eq_true rfl⟩ rfl (Nat.le_of_ble_eq_true rfl) dL_law_426 ?_
    refine g_istore (lv2 := [(10, .int x7), (9, .int x3), (3, .int t0), (0, .ref b), (1, .ref (hY X.2.1.2 + 0)), (4, .int v4)]) S.1 dL_law_429 (by decide) rfl ?_
    refine g_iload_n S.1 dL_law_431 2 rfl ?_
    refine g_if_eq S.1 446 dL_law_432 (by decide) (fun c => ?_) (fun c => ?_)
    · rw [if_pos c] at hE
      refine g_iconst S.1 (0 : Int32) dL_law_446 rfl ?_
      exact g_sub [4, 2, 1, 0] rfl (J447 t0 x3 x7 (0 : Int32) M hE)
    · rw [if_neg c] at hE
      refine g_aload_n S.1 dL_law_435 4 rfl ?_
      refine g_iload S.1 dL_law_436 1 rfl ?_
      refine g_iload S.1 dL_law_438 0 rfl ?_
      obtain ⟨x9, M10, h9, hE⟩ := bo_some hE
      refine qo_I S (n_LL_amountFor _ _ S.G x3 x7 M.1 _ _ h9) fc7 wdX7_amountFor q_768 ⟨Nat.le_of_ble_eq_true rfl, Nat.le_of_ble_eq_true rfl⟩ rfl (Nat.le_of_ble_eq_true rfl) dL_law_440 ?_
      refine g_goto S.1 447 dL_law_443 (by decide) ?_
      exact g_sub [4, 2, 1, 0] rfl (J447 t0 x3 x7 x9 (M10, M.2) hE)
  have J403 : ∀ (v4 : Int32) (M : Mem2), LW_law_J403 L xs v4 M = some (r, M1) → AQ X 403 [(0, .ref b), (1, .ref (hY X.2.1.2 + 0)), (4, .int v4)] [] M := by
    intro v4 M hE
    unfold LW_law_J403 at hE
    refine g_iconst S.1 (0 : Int32) dL_law_403 rfl ?_
    exact g_sub [0, 1, 2] rfl (J404 v4 (0 : Int32) M hE)
  have J374 : ∀ (v4 : Int32) (v5 : Int64) (v7 : Int32) (t0 : Int32) (M : Mem2), LW_law_J374 L xs v4 v5 v7 t0 M = some (r, M1) → AQ X 374 [(0, .ref b), (1, .ref (hY X.2.1.2 + 0)), (4, .int v4), (5, .long v5), (7, .int v7)] [.int t0] M := by
    intro v4 v5 v7 t0 M hE
    unfold LW_law_J374 at hE
    refine g_iload S.1 dL_law_374 4 rfl ?_
    refine g_icmp_ne S.1 403 dL_law_376 (by decide) (fun c => ?_) (fun c => ?_)
    · rw [if_pos c] at hE
      exact g_sub [0, 1, 2] rfl (J403 v4 M hE)
    · rw [if_neg (not_not_intro c)] at hE
      refine g_aload_n S.1 dL_law_379 1 rfl ?_
      obtain ⟨x1, M2, h9, hE⟩ := bo_some hE
      refine qo_I S (n_LL_undo _ _ S.G M.1 _ _ h9) fc7 wdX7_undo q_763 ⟨Nat.le_of_ble_eq_true rfl, Nat.le_of_ble_eq_true rfl⟩ rfl (Nat.le_of_ble_eq_true rfl) dL_law_380 ?_
      refine g_iconst S.1 (3 : Int32) dL_law_383 rfl ?_
      refine g_icmp_ne S.1 403 dL_law_384 (by decide) (fun c => ?_) (fun c => ?_)
      · rw [if_pos c] at hE
        exact g_sub [0, 1, 2] rfl (J403 v4 (M2, M.2) hE)
      · rw [if_neg (not_not_intro c)] at hE
        refine g_aload_n S.1 dL_law_387 1 rfl ?_
        obtain ⟨x3, h9, hE⟩ := b1_some hE
        refine qo_L S (M1 := M2) (c_LL_digest _ _ S.G M2 _ h9) fc7 wdX7_digest q_758 ⟨Nat.le_of_ble_eq_true rfl, Nat.le_of_ble_eq_true rfl⟩ rfl (Nat.le_of_ble_eq_true rfl) dL_law_388 ?_
        refine g_lload S.1 dL_law_391 3 rfl ?_
        refine g_lconst S.1 (1 : Int64) dL_law_393 rfl ?_
        refine g_lsub S.1 dL_law_394 ?_
        refine g_lcmp_ne S.1 403 dL_law_395 dL_law_396 (by decide) (fun c => ?_) (fun c => ?_)
        · rw [if_pos c] at hE
          exact g_sub [0, 1, 2] rfl (J403 v4 (M2, M.2) hE)
        · rw [if_neg (not_not_intro c)] at hE
          refine g_iconst S.1 (1 : Int32) dL_law_399 rfl ?_
          refine g_goto S.1 404 dL_law_400 (by decide) ?_
          exact g_sub [0, 1, 2] rfl (J404 v4 (1 : Int32) (M2, M.2) hE)
  have J358 : ∀ (v3 : Int32) (v4 : Int32) (v5 : Int64) (v7 : Int32) (t0 : Int32) (M : Mem2), LW_law_J358 L xs v3 v4 v5 v7 t0 M = some (r, M1) → AQ X 358 [(0, .ref b), (1, .ref (hY X.2.1.2 + 0)), (3, .int v3), (4, .int v4), (5, .long v5), (7, .int v7)] [.int t0] M := by
    intro v3 v4 v5 v7 t0 M hE
    unfold LW_law_J358 at hE
    refine g_istore (lv2 := [(8, .int t0), (0, .ref b), (1, .ref (hY X.2.1.2 + 0)), (3, .int v3), (4, .int v4), (5, .long v5), (7, .int v7)]) S.1 dL_law_358 (by decide) rfl ?_
    refine g_iload_n S.1 dL_law_360 3 rfl ?_
    refine g_if_eq S.1 403 dL_law_361 (by decide) (fun c => ?_) (fun c => ?_)
    · rw [if_pos c] at hE
      exact g_sub [1, 2, 4] rfl (J403 v4 M hE)
    · rw [if_neg c] at hE
      refine g_iload S.1 dL_law_364 0 rfl ?_
      refine g_if_le S.1 373 dL_law_366 (by decide) (fun c => ?_) (fun c => ?_)
      · try simp only [if_pos c] at hE
        refine g_iconst S.1 (0 : Int32) dL_law_373 rfl ?_
        exact g_sub [1, 2, 4, 5, 6] rfl (J374 v4 v5 v7 (0 : Int32) M hE)
      · try simp only [if_neg c] at hE
        refine g_iconst S.1 (1 : Int32) dL_law_369 rfl ?_
        refine g_goto S.1 374 dL_law_370 (by decide) ?_
        exact g_sub [1, 2, 4, 5, 6] rfl (J374 v4 v5 v7 (1 : Int32) M hE)
  have J342 : ∀ (v3 : Int32) (v4 : Int32) (v5 : Int64) (t0 : Int32) (M : Mem2), LW_law_J342 L xs v3 v4 v5 t0 M = some (r, M1) → AQ X 342 [(0, .ref b), (1, .ref (hY X.2.1.2 + 0)), (3, .int v3), (4, .int v4), (5, .long v5)] [.int t0] M := by
    intro v3 v4 v5 t0 M hE
    unfold LW_law_J342 at hE
    refine g_istore (lv2 := [(7, .int t0), (0, .ref b), (1, .ref (hY X.2.1.2 + 0)), (3, .int v3), (4, .int v4), (5, .long v5)]) S.1 dL_law_342 (by decide) rfl ?_
    refine g_iload_n S.1 dL_law_344 3 rfl ?_
    refine g_if_eq S.1 357 dL_law_345 (by decide) (fun c => ?_) (fun c => ?_)
    · rw [if_pos c] at hE
      refine g_iconst S.1 (0 : Int32) dL_law_357 rfl ?_
      exact g_sub [1, 2, 3, 4, 5, 0] rfl (J358 v3 v4 v5 t0 (0 : Int32) M hE)
    · rw [if_neg c] at hE
      refine g_aload_n S.1 dL_law_348 2 rfl ?_
      refine g_bipush S.1 (100 : Int32) dL_law_349 rfl ?_
      obtain ⟨x1, M2, h9, hE⟩ := bo_some hE
      refine qo_I S (n_LL_evaporate _ _ S.G (100 : Int32) M.1 _ _ h9) fc7 wdX7_evaporate q_748 ⟨Nat.le_of_ble_eq_true rfl, Nat.le_of_ble_eq_true rfl⟩ rfl (Nat.le_of_ble_eq_true rfl) dL_law_351 ?_
      refine g_goto S.1 358 dL_law_354 (by decide) ?_
      exact g_sub [1, 2, 3, 4, 5, 0] rfl (J358 v3 v4 v5 t0 x1 (M2, M.2) hE)
  have J64 : ∀ (t0 : Int32) (M : Mem2), LW_law_J64 L xs t0 M = some (r, M1) → AQ X 64 [(0, .ref b), (1, .ref (hY X.2.1.2 + 0))] [.int t0] M := by
    intro t0 M hE
    unfold LW_law_J64 at hE
    refine g_istore_n (lv2 := [(3, .int t0), (0, .ref b), (1, .ref (hY X.2.1.2 + 0))]) S.1 dL_law_64 (by decide) rfl ?_
    refine g_aload_n S.1 dL_law_65 2 rfl ?_
    refine g_iconst S.1 (0 : Int32) dL_law_66 rfl ?_
    obtain ⟨x1, M2, h9, hE⟩ := bo_some hE
    refine qo_I S (n_LL_count _ _ S.G (0 : Int32) M.1 _ _ h9) fc7 wdX7_count q_655 ⟨Nat.le_of_ble_eq_true rfl, Nat.le_of_ble_eq_true rfl⟩ rfl (Nat.le_of_ble_eq_true rfl) dL_law_67 ?_
    refine g_aload_n S.1 dL_law_70 2 rfl ?_
    refine g_iconst S.1 (1 : Int32) dL_law_71 rfl ?_
    obtain ⟨x3, M4, h9, hE⟩ := bo_some hE
    refine qo_I S (n_LL_count _ _ S.G (1 : Int32) M2 _ _ h9) fc7 wdX7_count q_655 ⟨Nat.le_of_ble_eq_true rfl, Nat.le_of_ble_eq_true rfl⟩ rfl (Nat.le_of_ble_eq_true rfl) dL_law_72 ?_
    refine g_imul S.1 dL_law_75 ?_
    refine g_istore (lv2 := [(4, .int (x1 * x3)), (3, .int t0), (0, .ref b), (1, .ref (hY X.2.1.2 + 0))]) S.1 dL_law_76 (by decide) rfl ?_
    refine g_iconst S.1 (0 : Int32) dL_law_78 rfl ?_
    refine g_istore (lv2 := [(5, .int (0 : Int32)), (4, .int (x1 * x3)), (3, .int t0), (0, .ref b), (1, .ref (hY X.2.1.2 + 0))]) S.1 dL_law_79 (by decide) rfl ?_
    obtain ⟨e5, M6, h9, hE⟩ := bq_some hE
    refine g_sub [3, 4, 2, 1, 0] rfl (L81 (x1 * x3)  e5 M6 ?_ _ _ (M4, M.2) h9)
    refine g_aload_n S.1 dL_law_323 1 rfl ?_
    obtain ⟨x7, h9, hE⟩ := b1_some hE
    refine qo_L S (M1 := M6.1) (c_LL_digest _ _ S.G M6.1 _ h9) fc7 wdX7_digest q_758 ⟨Nat.le_of_ble_eq_true rfl, Nat.le_of_ble_eq_true rfl⟩ rfl (Nat.le_of_ble_eq_true rfl) dL_law_324 ?_
    refine g_lstore (lv2 := [(5, .long x7), (0, .ref b), (1, .ref (hY X.2.1.2 + 0)), (3, .int e5), (4, .int (x1 * x3))]) S.1 dL_law_327 (by decide) rfl ?_
    refine g_aload_n S.1 dL_law_329 2 rfl ?_
    refine g_iconst S.1 (4 : Int32) dL_law_330 rfl ?_
    obtain ⟨x9, M10, h9, hE⟩ := bo_some hE
    refine qo_I S (n_LL_count _ _ S.G (4 : Int32) M6.1 _ _ h9) fc7 wdX7_count q_655 ⟨Nat.le_of_ble_eq_true rfl, Nat.le_of_ble_eq_true rfl⟩ rfl (Nat.le_of_ble_eq_true rfl) dL_law_331 ?_
    refine g_if_le S.1 341 dL_law_334 (by decide) (fun c => ?_) (fun c => ?_)
    · try simp only [if_pos c] at hE
      refine g_iconst S.1 (0 : Int32) dL_law_341 rfl ?_
      exact g_sub [1, 2, 3, 4, 0] rfl (J342 e5 (x1 * x3) x7 (0 : Int32) (M10, M6.2) hE)
    · try simp only [if_neg c] at hE
      refine g_iconst S.1 (1 : Int32) dL_law_337 rfl ?_
      refine g_goto S.1 342 dL_law_338 (by decide) ?_
      exact g_sub [1, 2, 3, 4, 0] rfl (J342 e5 (x1 * x3) x7 (1 : Int32) (M10, M6.2) hE)
  have J63 : ∀ (M : Mem2), LW_law_J63 L xs M = some (r, M1) → AQ X 63 [(0, .ref b), (1, .ref (hY X.2.1.2 + 0))] [] M := by
    intro M hE
    unfold LW_law_J63 at hE
    refine g_iconst S.1 (0 : Int32) dL_law_63 rfl ?_
    exact g_sub [0, 1] rfl (J64 (0 : Int32) M hE)
  unfold LW_law at hE
  refine g_aload_n S.1 dL_law_16 1 rfl ?_
  refine g_aload_n S.1 dL_law_17 2 rfl ?_
  obtain ⟨x1, M2, h9, hE⟩ := bq_some hE
  refine qs_I S (c_LW_lays _ _ S.G b L xs M _ _ h9) wdL_lays q_723 ⟨Nat.le_of_ble_eq_true rfl, Nat.le_of_ble_eq_true rfl⟩ rfl (Nat.le_of_ble_eq_true rfl) dL_law_18 ?_
  refine g_if_eq S.1 63 dL_law_21 (by decide) (fun c => ?_) (fun c => ?_)
  · rw [if_pos c] at hE
    exact g_sub [2, 1] rfl (J63  M2 hE)
  · rw [if_neg c] at hE
    refine g_aload_n S.1 dL_law_24 1 rfl ?_
    refine g_aload_n S.1 dL_law_25 0 rfl ?_
    obtain ⟨x3, M4, h9, hE⟩ := bq_some hE
    refine qs_I S (c_LW_tells _ _ S.G b L xs M2 _ _ h9) wdL_tells q_727 ⟨Nat.le_of_ble_eq_true rfl, Nat.le_of_ble_eq_true rfl⟩ rfl (Nat.le_of_ble_eq_true rfl) dL_law_26 ?_
    refine g_if_eq S.1 63 dL_law_29 (by decide) (fun c => ?_) (fun c => ?_)
    · rw [if_pos c] at hE
      exact g_sub [2, 1] rfl (J63  M4 hE)
    · rw [if_neg c] at hE
      refine g_aload_n S.1 dL_law_32 0 rfl ?_
      obtain ⟨x5, M6, h9, hE⟩ := b2_some hE
      refine qp_I S (c_LL_parse _ (YP X.2.1.2) rfl M4.2 _ _ h9) fc7 wdX7_parse q_731 ⟨Nat.le_of_ble_eq_true rfl, Nat.le_of_ble_eq_true rfl⟩ rfl (Nat.le_of_ble_eq_true rfl) dL_law_33 ?_
      refine g_aload_n S.1 dL_law_36 1 rfl ?_
      refine g_iconst S.1 (2 : Int32) dL_law_37 rfl ?_
      obtain ⟨x7, M8, h9, hE⟩ := bo_some hE
      refine qo_I S (n_LL_count _ _ S.G (2 : Int32) M4.1 _ _ h9) fc7 wdX7_count q_655 ⟨Nat.le_of_ble_eq_true rfl, Nat.le_of_ble_eq_true rfl⟩ rfl (Nat.le_of_ble_eq_true rfl) dL_law_38 ?_
      refine g_icmp_ne S.1 63 dL_law_41 (by decide) (fun c => ?_) (fun c => ?_)
      · rw [if_pos c] at hE
        exact g_sub [2, 1] rfl (J63  (M8, M6) hE)
      · rw [if_neg (not_not_intro c)] at hE
        refine g_aload_n S.1 dL_law_44 1 rfl ?_
        refine g_aload_n S.1 dL_law_45 0 rfl ?_
        obtain ⟨x9, M10, h9, hE⟩ := bq_some hE
        refine qs_I S (c_LW_areBasins _ _ S.G b L xs (M8, M6) _ _ h9) wdL_areBasins q_736 ⟨Nat.le_of_ble_eq_true rfl, Nat.le_of_ble_eq_true rfl⟩ rfl (Nat.le_of_ble_eq_true rfl) dL_law_46 ?_
        refine g_if_eq S.1 63 dL_law_49 (by decide) (fun c => ?_) (fun c => ?_)
        · rw [if_pos c] at hE
          exact g_sub [2, 1] rfl (J63  M10 hE)
        · rw [if_neg c] at hE
          refine g_aload_n S.1 dL_law_52 1 rfl ?_
          obtain ⟨x11, M12, h9, hE⟩ := bq_some hE
          refine qs_I S (c_LW_isSound _ _ S.G b L xs M10 _ _ h9) wdL_isSound q_740 ⟨Nat.le_of_ble_eq_true rfl, Nat.le_of_ble_eq_true rfl⟩ rfl (Nat.le_of_ble_eq_true rfl) dL_law_53 ?_
          refine g_if_eq S.1 63 dL_law_56 (by decide) (fun c => ?_) (fun c => ?_)
          · try simp only [if_pos c] at hE
            refine g_iconst S.1 (0 : Int32) dL_law_63 rfl ?_
            exact g_sub [2, 1] rfl (J64 (0 : Int32) M12 hE)
          · try simp only [if_neg c] at hE
            refine g_iconst S.1 (1 : Int32) dL_law_59 rfl ?_
            refine g_goto S.1 64 dL_law_60 (by decide) ?_
            exact g_sub [2, 1] rfl (J64 (1 : Int32) M12 hE)
