set_option maxRecDepth 100000 in
set_option maxHeartbeats 4000000 in
theorem lc_0 {X : Cx} {b L : Nat} {xs : Nat → Int32} {cD : ClassId} (Z : LX X b L xs cD) {Inv : Mem → Mem → Prop} (hs : Sim0 Inv) (i : Nat) (hi : i + 4 ≤ L) {Mc Mm : Mem} {vo : Nat → Int64} {vd : Nat → UInt64} (hI : Inv Mc Mm) (c s : Nat) (hc : c + 2 ≤ 601024) (hs9 : s + 12 ≤ 7293034) (k9 : ∀ Mc1 Mm1 vo1 vd1, Inv Mc1 Mm1 → AG (setX X (c + 2) (s + 12)) 1691 [(0, .ref b), (1, .ref (hY X.2.1.2 + 0)), (2, .ref (hY X.2.1.2 + 281 + 0)), (3, .ref (hY X.2.1.2 + 295)), (4, .ref (hY X.2.1.2 + 296)), (5, .int (nI i))] [] (LWP X.2.1.2 cD Mc1 Mm1 vo1 vd1)) : AG (setX X c s) 168 [(0, .ref b), (1, .ref (hY X.2.1.2 + 0)), (2, .ref (hY X.2.1.2 + 281 + 0)), (3, .ref (hY X.2.1.2 + 295)), (4, .ref (hY X.2.1.2 + 296)), (5, .int (nI i))] [] (LWP X.2.1.2 cD Mc Mm vo vd) := by
  have S0 := Z.1 c s (by omega) (by omega)
  have S1 := Z.1 (c + 2) (s + 12) hc hs9
  have hL := Z.2.2.2.2.2.1
  refine g_aload_n S0 dL_law_168 1 rfl ?_
  refine g_aload_n S0 dL_law_169 0 rfl ?_
  refine g_iload S0 dL_law_170 5 rfl ?_
  refine g_iconst S0 (1 : Int32) dL_law_172 rfl ?_
  refine g_iadd S0 dL_law_173 ?_
  refine g_sld Z S0 (i + 1) (show nI i + nI 1 = nI (i + 1) from nI_add i 1) (by omega) dL_law_174 ?_
  refine g_aload_n S0 dL_law_175 0 rfl ?_
  refine g_iload S0 dL_law_176 5 rfl ?_
  refine g_iconst S0 (2 : Int32) dL_law_178 rfl ?_
  refine g_iadd S0 dL_law_179 ?_
  refine g_sld Z S0 (i + 2) (show nI i + nI 2 = nI (i + 2) from nI_add i 2) (by omega) dL_law_180 ?_
  refine g_aload_n S0 dL_law_181 3 rfl ?_
  obtain ⟨res, Mc1, r, Mm1, h1, h2, hI1, hcase⟩ := hs Mc Mm (xs (i + 1)) (xs (i + 2)) hI
  rcases hcase with ⟨v, rfl, ht, rfl⟩ | ⟨rfl, ht⟩
  · refine gw Z S0 (c_LW_begin _ Z.2.2.2.2.2.2.2.2.2.2.2.1 _ Z.G (hY X.2.1.2 + 295) (fun z => by have := AYC Z.G z; omega) (xs (i + 1)) (xs (i + 2)) X.2.1.2.2.1.2.1 vo Mc _ Mc1 h1 0 (.inl (X.2.1.2.2.1.2.1, 1, .inr (.inl (vp_updL vo 0 r.toInt64)))) (fun z hz => by cases hz; exact ⟨rfl, rfl⟩) (fun k hk => by cases hk)) (Nat.le_add_right _ _) (Z.K.sub [1] rfl) (fun H h => ⟨h.1, h.2.2.1⟩) wdL_begin q_1227 (Nat.le_of_ble_eq_true rfl) hc hs9 rfl (Nat.le_of_ble_eq_true rfl) dL_law_182 (LWP.wrL Z.G) ?_
    refine g_istore (lv2 := [(6, .int (0 : Int32)), (0, .ref b), (1, .ref (hY X.2.1.2 + 0)), (2, .ref (hY X.2.1.2 + 281 + 0)), (3, .ref (hY X.2.1.2 + 295)), (4, .ref (hY X.2.1.2 + 296)), (5, .int (nI i))]) S1 dL_law_185 (by decide) rfl ?_
    refine g_aload_n S1 dL_law_187 3 rfl ?_
    refine g_aload_n S1 dL_law_188 1 rfl ?_
    refine g_iload S1 dL_law_189 6 rfl ?_
    refine g_iconst S1 (1 : Int32) dL_law_191 rfl ?_
    refine g_iadd S1 dL_law_192 ?_
    refine g_sld Z S1 (i + 1) (show nI i + nI 1 = nI (i + 1) from nI_add i 1) (by omega) dL_law_193 ?_
    refine g_aload_n S1 dL_law_194 1 rfl ?_
    refine g_iload S1 dL_law_195 6 rfl ?_
    refine g_iconst S1 (2 : Int32) dL_law_197 rfl ?_
    refine g_iadd S1 dL_law_198 ?_
    refine g_sld Z S1 (i + 2) (show nI i + nI 2 = nI (i + 2) from nI_add i 2) (by omega) dL_law_199 ?_
    refine gc_I S1 Z.aM (gn_V S1 (Y := YM X.2.1.2) (G2 := gM) rfl Z.K (fun H h => h.2.1) fc8 (by decide) (c_MD_begin _ (YM X.2.1.2) rfl (xs (i + 1)) (xs (i + 2)) Mm _ _ h2) wdX8_begin q_1228 ⟨Nat.le_of_ble_eq_true rfl, Nat.le_of_ble_eq_true rfl⟩ ⟨by rw [← Z.2.2.2.2.2.2.2.2.2.2.2.2.1]; omega, by rw [← Z.2.2.2.2.2.2.2.2.2.2.2.2.2]; omega⟩ rfl (Nat.le_of_ble_eq_true rfl) dL_law_200) (LWP.mod Z.G) ?_
    refine g_istore (lv2 := [(7, .int r), (6, .int (0 : Int32)), (0, .ref b), (1, .ref (hY X.2.1.2 + 0)), (2, .ref (hY X.2.1.2 + 281 + 0)), (3, .ref (hY X.2.1.2 + 295)), (4, .ref (hY X.2.1.2 + 296)), (5, .int (nI i))]) S1 dL_law_203 (by decide) rfl ?_
    refine g_aload_n S1 dL_law_205 4 rfl ?_
    refine gc_I S1 Z.aM (gn_V S1 (Y := YM X.2.1.2) (G2 := gM) rfl Z.K (fun H h => h.2.1) fc8 (by decide) (c_MD_thrown _ (YM X.2.1.2) rfl Mm1 _ rfl) wdX8_thrown q_1233 ⟨Nat.le_of_ble_eq_true rfl, Nat.le_of_ble_eq_true rfl⟩ ⟨by rw [← Z.2.2.2.2.2.2.2.2.2.2.2.2.1]; omega, by rw [← Z.2.2.2.2.2.2.2.2.2.2.2.2.2]; omega⟩ rfl (Nat.le_of_ble_eq_true rfl) dL_law_206) (LWP.mod Z.G) ?_
    refine g_iload S1 dL_law_209 1 rfl ?_
    refine g_icmp_eq S1 216 dL_law_211 (by decide) (fun _ => ?_) (fun c9 => absurd ht c9)
    refine g_iload S1 dL_law_216 1 rfl ?_
    refine g_if_ne S1 233 dL_law_218 (by decide) (fun c9 => absurd rfl c9) (fun _ => ?_)
    refine g_aload_n S1 dL_law_221 5 rfl ?_
    refine g_iconst S1 (0 : Int32) dL_law_222 rfl ?_
    refine g_lldE S1 (fun H h => h.2.2.1) (Z.K.sub [1] rfl) (by decide) dL_law_223 ?_
    refine g_iload S1 dL_law_224 0 rfl ?_
    refine g_i2l S1 dL_law_226 ?_
    refine g_lcmp_eq S1 233 dL_law_227 dL_law_228 (by decide) (fun _ => ?_) (fun c9 => absurd (by first | rfl | exact heq) c9)
    refine g_goto S1 1691 dL_law_233 (by decide) ?_
    exact g_sub [2, 3, 4, 5, 6, 7] rfl (k9 _ _ _ _ hI1)
  · refine gw Z S0 (c_LW_begin _ Z.2.2.2.2.2.2.2.2.2.2.2.1 _ Z.G (hY X.2.1.2 + 295) (fun z => by have := AYC Z.G z; omega) (xs (i + 1)) (xs (i + 2)) X.2.1.2.2.1.2.1 vo Mc _ Mc1 h1 1 (.inl (X.2.1.2.2.1.2.1, 1, .inr (.inl vo))) (fun z hz => by cases hz) (fun k hk => by cases hk; exact ⟨rfl, rfl, rfl⟩)) (Nat.le_add_right _ _) (Z.K.sub [1] rfl) (fun H h => ⟨h.1, h.2.2.1⟩) wdL_begin q_1227 (Nat.le_of_ble_eq_true rfl) hc hs9 rfl (Nat.le_of_ble_eq_true rfl) dL_law_182 (LWP.wrL Z.G) ?_
    refine g_istore (lv2 := [(6, .int (1 : Int32)), (0, .ref b), (1, .ref (hY X.2.1.2 + 0)), (2, .ref (hY X.2.1.2 + 281 + 0)), (3, .ref (hY X.2.1.2 + 295)), (4, .ref (hY X.2.1.2 + 296)), (5, .int (nI i))]) S1 dL_law_185 (by decide) rfl ?_
    refine g_aload_n S1 dL_law_187 3 rfl ?_
    refine g_aload_n S1 dL_law_188 1 rfl ?_
    refine g_iload S1 dL_law_189 6 rfl ?_
    refine g_iconst S1 (1 : Int32) dL_law_191 rfl ?_
    refine g_iadd S1 dL_law_192 ?_
    refine g_sld Z S1 (i + 1) (show nI i + nI 1 = nI (i + 1) from nI_add i 1) (by omega) dL_law_193 ?_
    refine g_aload_n S1 dL_law_194 1 rfl ?_
    refine g_iload S1 dL_law_195 6 rfl ?_
    refine g_iconst S1 (2 : Int32) dL_law_197 rfl ?_
    refine g_iadd S1 dL_law_198 ?_
    refine g_sld Z S1 (i + 2) (show nI i + nI 2 = nI (i + 2) from nI_add i 2) (by omega) dL_law_199 ?_
    refine gc_I S1 Z.aM (gn_V S1 (Y := YM X.2.1.2) (G2 := gM) rfl Z.K (fun H h => h.2.1) fc8 (by decide) (c_MD_begin _ (YM X.2.1.2) rfl (xs (i + 1)) (xs (i + 2)) Mm _ _ h2) wdX8_begin q_1228 ⟨Nat.le_of_ble_eq_true rfl, Nat.le_of_ble_eq_true rfl⟩ ⟨by rw [← Z.2.2.2.2.2.2.2.2.2.2.2.2.1]; omega, by rw [← Z.2.2.2.2.2.2.2.2.2.2.2.2.2]; omega⟩ rfl (Nat.le_of_ble_eq_true rfl) dL_law_200) (LWP.mod Z.G) ?_
    refine g_istore (lv2 := [(7, .int r), (6, .int (1 : Int32)), (0, .ref b), (1, .ref (hY X.2.1.2 + 0)), (2, .ref (hY X.2.1.2 + 281 + 0)), (3, .ref (hY X.2.1.2 + 295)), (4, .ref (hY X.2.1.2 + 296)), (5, .int (nI i))]) S1 dL_law_203 (by decide) rfl ?_
    refine g_aload_n S1 dL_law_205 4 rfl ?_
    refine gc_I S1 Z.aM (gn_V S1 (Y := YM X.2.1.2) (G2 := gM) rfl Z.K (fun H h => h.2.1) fc8 (by decide) (c_MD_thrown _ (YM X.2.1.2) rfl Mm1 _ rfl) wdX8_thrown q_1233 ⟨Nat.le_of_ble_eq_true rfl, Nat.le_of_ble_eq_true rfl⟩ ⟨by rw [← Z.2.2.2.2.2.2.2.2.2.2.2.2.1]; omega, by rw [← Z.2.2.2.2.2.2.2.2.2.2.2.2.2]; omega⟩ rfl (Nat.le_of_ble_eq_true rfl) dL_law_206) (LWP.mod Z.G) ?_
    refine g_iload S1 dL_law_209 1 rfl ?_
    refine g_icmp_eq S1 216 dL_law_211 (by decide) (fun _ => ?_) (fun c9 => absurd ht c9)
    refine g_iload S1 dL_law_216 1 rfl ?_
    refine g_if_ne S1 233 dL_law_218 (by decide) (fun _ => ?_) (fun c9 => absurd c9 (by decide))
    refine g_goto S1 1691 dL_law_233 (by decide) ?_
    exact g_sub [2, 3, 4, 5, 6, 7] rfl (k9 _ _ _ _ hI1)
set_option maxRecDepth 100000 in
set_option maxHeartbeats 4000000 in
theorem lc_1 {X : Cx} {b L : Nat} {xs : Nat → Int32} {cD : ClassId} (Z : LX X b L xs cD) {Inv : Mem → Mem → Prop} (hs : Sim1 Inv) (i : Nat) (hi : i + 4 ≤ L) {Mc Mm : Mem} {vo : Nat → Int64} {vd : Nat → UInt64} (hI : Inv Mc Mm) (c s : Nat) (hc : c + 2 ≤ 601024) (hs9 : s + 12 ≤ 7293034) (k9 : ∀ Mc1 Mm1 vo1 vd1, Inv Mc1 Mm1 → AG (setX X (c + 2) (s + 12)) 1691 [(0, .ref b), (1, .ref (hY X.2.1.2 + 0)), (2, .ref (hY X.2.1.2 + 281 + 0)), (3, .ref (hY X.2.1.2 + 295)), (4, .ref (hY X.2.1.2 + 296)), (5, .int (nI i))] [] (LWP X.2.1.2 cD Mc1 Mm1 vo1 vd1)) : AG (setX X c s) 236 [(0, .ref b), (1, .ref (hY X.2.1.2 + 0)), (2, .ref (hY X.2.1.2 + 281 + 0)), (3, .ref (hY X.2.1.2 + 295)), (4, .ref (hY X.2.1.2 + 296)), (5, .int (nI i))] [] (LWP X.2.1.2 cD Mc Mm vo vd) := by
  have S0 := Z.1 c s (by omega) (by omega)
  have S1 := Z.1 (c + 2) (s + 12) hc hs9
  have hL := Z.2.2.2.2.2.1
  refine g_aload_n S0 dL_law_236 1 rfl ?_
  refine g_aload_n S0 dL_law_237 0 rfl ?_
  refine g_iload S0 dL_law_238 5 rfl ?_
  refine g_iconst S0 (1 : Int32) dL_law_240 rfl ?_
  refine g_iadd S0 dL_law_241 ?_
  refine g_sld Z S0 (i + 1) (show nI i + nI 1 = nI (i + 1) from nI_add i 1) (by omega) dL_law_242 ?_
  refine g_aload_n S0 dL_law_243 0 rfl ?_
  refine g_iload S0 dL_law_244 5 rfl ?_
  refine g_iconst S0 (2 : Int32) dL_law_246 rfl ?_
  refine g_iadd S0 dL_law_247 ?_
  refine g_sld Z S0 (i + 2) (show nI i + nI 2 = nI (i + 2) from nI_add i 2) (by omega) dL_law_248 ?_
  refine g_aload_n S0 dL_law_249 3 rfl ?_
  obtain ⟨res, Mc1, r, Mm1, h1, h2, hI1, hcase⟩ := hs Mc Mm (xs (i + 1)) (xs (i + 2)) hI
  rcases hcase with ⟨v, rfl, ht, rfl⟩ | ⟨rfl, ht⟩ | ⟨rfl, ht⟩
  · refine gw Z S0 (c_LW_setHeight _ Z.2.2.2.2.2.2.2.2.2.2.2.1 _ Z.G (hY X.2.1.2 + 295) (fun z => by have := AYC Z.G z; omega) (xs (i + 1)) (xs (i + 2)) X.2.1.2.2.1.2.1 vo Mc _ Mc1 h1 0 (.inl (X.2.1.2.2.1.2.1, 1, .inr (.inl (vp_updL vo 0 r.toInt64)))) (fun z hz => by cases hz; exact ⟨rfl, rfl⟩) (fun k hk => by cases hk)) (Nat.le_add_right _ _) (Z.K.sub [1] rfl) (fun H h => ⟨h.1, h.2.2.1⟩) wdL_setHeight q_1238 (Nat.le_of_ble_eq_true rfl) hc hs9 rfl (Nat.le_of_ble_eq_true rfl) dL_law_250 (LWP.wrL Z.G) ?_
    refine g_istore (lv2 := [(6, .int (0 : Int32)), (0, .ref b), (1, .ref (hY X.2.1.2 + 0)), (2, .ref (hY X.2.1.2 + 281 + 0)), (3, .ref (hY X.2.1.2 + 295)), (4, .ref (hY X.2.1.2 + 296)), (5, .int (nI i))]) S1 dL_law_253 (by decide) rfl ?_
    refine g_aload_n S1 dL_law_255 3 rfl ?_
    refine g_aload_n S1 dL_law_256 1 rfl ?_
    refine g_iload S1 dL_law_257 6 rfl ?_
    refine g_iconst S1 (1 : Int32) dL_law_259 rfl ?_
    refine g_iadd S1 dL_law_260 ?_
    refine g_sld Z S1 (i + 1) (show nI i + nI 1 = nI (i + 1) from nI_add i 1) (by omega) dL_law_261 ?_
    refine g_aload_n S1 dL_law_262 1 rfl ?_
    refine g_iload S1 dL_law_263 6 rfl ?_
    refine g_iconst S1 (2 : Int32) dL_law_265 rfl ?_
    refine g_iadd S1 dL_law_266 ?_
    refine g_sld Z S1 (i + 2) (show nI i + nI 2 = nI (i + 2) from nI_add i 2) (by omega) dL_law_267 ?_
    refine gc_I S1 Z.aM (gn_V S1 (Y := YM X.2.1.2) (G2 := gM) rfl Z.K (fun H h => h.2.1) fc8 (by decide) (c_MD_setHeight _ (YM X.2.1.2) rfl (xs (i + 1)) (xs (i + 2)) Mm _ _ h2) wdX8_setHeight q_1239 ⟨Nat.le_of_ble_eq_true rfl, Nat.le_of_ble_eq_true rfl⟩ ⟨by rw [← Z.2.2.2.2.2.2.2.2.2.2.2.2.1]; omega, by rw [← Z.2.2.2.2.2.2.2.2.2.2.2.2.2]; omega⟩ rfl (Nat.le_of_ble_eq_true rfl) dL_law_268) (LWP.mod Z.G) ?_
    refine g_istore (lv2 := [(7, .int r), (6, .int (0 : Int32)), (0, .ref b), (1, .ref (hY X.2.1.2 + 0)), (2, .ref (hY X.2.1.2 + 281 + 0)), (3, .ref (hY X.2.1.2 + 295)), (4, .ref (hY X.2.1.2 + 296)), (5, .int (nI i))]) S1 dL_law_271 (by decide) rfl ?_
    refine g_aload_n S1 dL_law_273 4 rfl ?_
    refine gc_I S1 Z.aM (gn_V S1 (Y := YM X.2.1.2) (G2 := gM) rfl Z.K (fun H h => h.2.1) fc8 (by decide) (c_MD_thrown _ (YM X.2.1.2) rfl Mm1 _ rfl) wdX8_thrown q_1233 ⟨Nat.le_of_ble_eq_true rfl, Nat.le_of_ble_eq_true rfl⟩ ⟨by rw [← Z.2.2.2.2.2.2.2.2.2.2.2.2.1]; omega, by rw [← Z.2.2.2.2.2.2.2.2.2.2.2.2.2]; omega⟩ rfl (Nat.le_of_ble_eq_true rfl) dL_law_274) (LWP.mod Z.G) ?_
    refine g_iload S1 dL_law_277 1 rfl ?_
    refine g_icmp_eq S1 284 dL_law_279 (by decide) (fun _ => ?_) (fun c9 => absurd ht c9)
    refine g_iload S1 dL_law_284 1 rfl ?_
    refine g_if_ne S1 301 dL_law_286 (by decide) (fun c9 => absurd rfl c9) (fun _ => ?_)
    refine g_aload_n S1 dL_law_289 5 rfl ?_
    refine g_iconst S1 (0 : Int32) dL_law_290 rfl ?_
    refine g_lldE S1 (fun H h => h.2.2.1) (Z.K.sub [1] rfl) (by decide) dL_law_291 ?_
    refine g_iload S1 dL_law_292 0 rfl ?_
    refine g_i2l S1 dL_law_294 ?_
    refine g_lcmp_eq S1 301 dL_law_295 dL_law_296 (by decide) (fun _ => ?_) (fun c9 => absurd (by first | rfl | exact heq) c9)
    refine g_goto S1 1691 dL_law_301 (by decide) ?_
    exact g_sub [2, 3, 4, 5, 6, 7] rfl (k9 _ _ _ _ hI1)
  · refine gw Z S0 (c_LW_setHeight _ Z.2.2.2.2.2.2.2.2.2.2.2.1 _ Z.G (hY X.2.1.2 + 295) (fun z => by have := AYC Z.G z; omega) (xs (i + 1)) (xs (i + 2)) X.2.1.2.2.1.2.1 vo Mc _ Mc1 h1 1 (.inl (X.2.1.2.2.1.2.1, 1, .inr (.inl vo))) (fun z hz => by cases hz) (fun k hk => by cases hk; exact Or.inl ⟨rfl, rfl, rfl⟩)) (Nat.le_add_right _ _) (Z.K.sub [1] rfl) (fun H h => ⟨h.1, h.2.2.1⟩) wdL_setHeight q_1238 (Nat.le_of_ble_eq_true rfl) hc hs9 rfl (Nat.le_of_ble_eq_true rfl) dL_law_250 (LWP.wrL Z.G) ?_
    refine g_istore (lv2 := [(6, .int (1 : Int32)), (0, .ref b), (1, .ref (hY X.2.1.2 + 0)), (2, .ref (hY X.2.1.2 + 281 + 0)), (3, .ref (hY X.2.1.2 + 295)), (4, .ref (hY X.2.1.2 + 296)), (5, .int (nI i))]) S1 dL_law_253 (by decide) rfl ?_
    refine g_aload_n S1 dL_law_255 3 rfl ?_
    refine g_aload_n S1 dL_law_256 1 rfl ?_
    refine g_iload S1 dL_law_257 6 rfl ?_
    refine g_iconst S1 (1 : Int32) dL_law_259 rfl ?_
    refine g_iadd S1 dL_law_260 ?_
    refine g_sld Z S1 (i + 1) (show nI i + nI 1 = nI (i + 1) from nI_add i 1) (by omega) dL_law_261 ?_
    refine g_aload_n S1 dL_law_262 1 rfl ?_
    refine g_iload S1 dL_law_263 6 rfl ?_
    refine g_iconst S1 (2 : Int32) dL_law_265 rfl ?_
    refine g_iadd S1 dL_law_266 ?_
    refine g_sld Z S1 (i + 2) (show nI i + nI 2 = nI (i + 2) from nI_add i 2) (by omega) dL_law_267 ?_
    refine gc_I S1 Z.aM (gn_V S1 (Y := YM X.2.1.2) (G2 := gM) rfl Z.K (fun H h => h.2.1) fc8 (by decide) (c_MD_setHeight _ (YM X.2.1.2) rfl (xs (i + 1)) (xs (i + 2)) Mm _ _ h2) wdX8_setHeight q_1239 ⟨Nat.le_of_ble_eq_true rfl, Nat.le_of_ble_eq_true rfl⟩ ⟨by rw [← Z.2.2.2.2.2.2.2.2.2.2.2.2.1]; omega, by rw [← Z.2.2.2.2.2.2.2.2.2.2.2.2.2]; omega⟩ rfl (Nat.le_of_ble_eq_true rfl) dL_law_268) (LWP.mod Z.G) ?_
    refine g_istore (lv2 := [(7, .int r), (6, .int (1 : Int32)), (0, .ref b), (1, .ref (hY X.2.1.2 + 0)), (2, .ref (hY X.2.1.2 + 281 + 0)), (3, .ref (hY X.2.1.2 + 295)), (4, .ref (hY X.2.1.2 + 296)), (5, .int (nI i))]) S1 dL_law_271 (by decide) rfl ?_
    refine g_aload_n S1 dL_law_273 4 rfl ?_
    refine gc_I S1 Z.aM (gn_V S1 (Y := YM X.2.1.2) (G2 := gM) rfl Z.K (fun H h => h.2.1) fc8 (by decide) (c_MD_thrown _ (YM X.2.1.2) rfl Mm1 _ rfl) wdX8_thrown q_1233 ⟨Nat.le_of_ble_eq_true rfl, Nat.le_of_ble_eq_true rfl⟩ ⟨by rw [← Z.2.2.2.2.2.2.2.2.2.2.2.2.1]; omega, by rw [← Z.2.2.2.2.2.2.2.2.2.2.2.2.2]; omega⟩ rfl (Nat.le_of_ble_eq_true rfl) dL_law_274) (LWP.mod Z.G) ?_
    refine g_iload S1 dL_law_277 1 rfl ?_
    refine g_icmp_eq S1 284 dL_law_279 (by decide) (fun _ => ?_) (fun c9 => absurd ht c9)
    refine g_iload S1 dL_law_284 1 rfl ?_
    refine g_if_ne S1 301 dL_law_286 (by decide) (fun _ => ?_) (fun c9 => absurd c9 (by decide))
    refine g_goto S1 1691 dL_law_301 (by decide) ?_
    exact g_sub [2, 3, 4, 5, 6, 7] rfl (k9 _ _ _ _ hI1)
  · refine gw Z S0 (c_LW_setHeight _ Z.2.2.2.2.2.2.2.2.2.2.2.1 _ Z.G (hY X.2.1.2 + 295) (fun z => by have := AYC Z.G z; omega) (xs (i + 1)) (xs (i + 2)) X.2.1.2.2.1.2.1 vo Mc _ Mc1 h1 2 (.inl (X.2.1.2.2.1.2.1, 1, .inr (.inl vo))) (fun z hz => by cases hz) (fun k hk => by cases hk; exact Or.inr (⟨rfl, rfl, rfl⟩))) (Nat.le_add_right _ _) (Z.K.sub [1] rfl) (fun H h => ⟨h.1, h.2.2.1⟩) wdL_setHeight q_1238 (Nat.le_of_ble_eq_true rfl) hc hs9 rfl (Nat.le_of_ble_eq_true rfl) dL_law_250 (LWP.wrL Z.G) ?_
    refine g_istore (lv2 := [(6, .int (2 : Int32)), (0, .ref b), (1, .ref (hY X.2.1.2 + 0)), (2, .ref (hY X.2.1.2 + 281 + 0)), (3, .ref (hY X.2.1.2 + 295)), (4, .ref (hY X.2.1.2 + 296)), (5, .int (nI i))]) S1 dL_law_253 (by decide) rfl ?_
    refine g_aload_n S1 dL_law_255 3 rfl ?_
    refine g_aload_n S1 dL_law_256 1 rfl ?_
    refine g_iload S1 dL_law_257 6 rfl ?_
    refine g_iconst S1 (1 : Int32) dL_law_259 rfl ?_
    refine g_iadd S1 dL_law_260 ?_
    refine g_sld Z S1 (i + 1) (show nI i + nI 1 = nI (i + 1) from nI_add i 1) (by omega) dL_law_261 ?_
    refine g_aload_n S1 dL_law_262 1 rfl ?_
    refine g_iload S1 dL_law_263 6 rfl ?_
    refine g_iconst S1 (2 : Int32) dL_law_265 rfl ?_
    refine g_iadd S1 dL_law_266 ?_
    refine g_sld Z S1 (i + 2) (show nI i + nI 2 = nI (i + 2) from nI_add i 2) (by omega) dL_law_267 ?_
    refine gc_I S1 Z.aM (gn_V S1 (Y := YM X.2.1.2) (G2 := gM) rfl Z.K (fun H h => h.2.1) fc8 (by decide) (c_MD_setHeight _ (YM X.2.1.2) rfl (xs (i + 1)) (xs (i + 2)) Mm _ _ h2) wdX8_setHeight q_1239 ⟨Nat.le_of_ble_eq_true rfl, Nat.le_of_ble_eq_true rfl⟩ ⟨by rw [← Z.2.2.2.2.2.2.2.2.2.2.2.2.1]; omega, by rw [← Z.2.2.2.2.2.2.2.2.2.2.2.2.2]; omega⟩ rfl (Nat.le_of_ble_eq_true rfl) dL_law_268) (LWP.mod Z.G) ?_
    refine g_istore (lv2 := [(7, .int r), (6, .int (2 : Int32)), (0, .ref b), (1, .ref (hY X.2.1.2 + 0)), (2, .ref (hY X.2.1.2 + 281 + 0)), (3, .ref (hY X.2.1.2 + 295)), (4, .ref (hY X.2.1.2 + 296)), (5, .int (nI i))]) S1 dL_law_271 (by decide) rfl ?_
    refine g_aload_n S1 dL_law_273 4 rfl ?_
    refine gc_I S1 Z.aM (gn_V S1 (Y := YM X.2.1.2) (G2 := gM) rfl Z.K (fun H h => h.2.1) fc8 (by decide) (c_MD_thrown _ (YM X.2.1.2) rfl Mm1 _ rfl) wdX8_thrown q_1233 ⟨Nat.le_of_ble_eq_true rfl, Nat.le_of_ble_eq_true rfl⟩ ⟨by rw [← Z.2.2.2.2.2.2.2.2.2.2.2.2.1]; omega, by rw [← Z.2.2.2.2.2.2.2.2.2.2.2.2.2]; omega⟩ rfl (Nat.le_of_ble_eq_true rfl) dL_law_274) (LWP.mod Z.G) ?_
    refine g_iload S1 dL_law_277 1 rfl ?_
    refine g_icmp_eq S1 284 dL_law_279 (by decide) (fun _ => ?_) (fun c9 => absurd ht c9)
    refine g_iload S1 dL_law_284 1 rfl ?_
    refine g_if_ne S1 301 dL_law_286 (by decide) (fun _ => ?_) (fun c9 => absurd c9 (by decide))
    refine g_goto S1 1691 dL_law_301 (by decide) ?_
    exact g_sub [2, 3, 4, 5, 6, 7] rfl (k9 _ _ _ _ hI1)
set_option maxRecDepth 100000 in
set_option maxHeartbeats 4000000 in
theorem lc_2 {X : Cx} {b L : Nat} {xs : Nat → Int32} {cD : ClassId} (Z : LX X b L xs cD) {Inv : Mem → Mem → Prop} (hs : Sim2 Inv) (i : Nat) (hi : i + 4 ≤ L) {Mc Mm : Mem} {vo : Nat → Int64} {vd : Nat → UInt64} (hI : Inv Mc Mm) (c s : Nat) (hc : c + 1 ≤ 601024) (hs9 : s + 6 ≤ 7293034) (k9 : ∀ Mc1 Mm1 vo1 vd1, Inv Mc1 Mm1 → AG (setX X (c + 1) (s + 6)) 1691 [(0, .ref b), (1, .ref (hY X.2.1.2 + 0)), (2, .ref (hY X.2.1.2 + 281 + 0)), (3, .ref (hY X.2.1.2 + 295)), (4, .ref (hY X.2.1.2 + 296)), (5, .int (nI i))] [] (LWP X.2.1.2 cD Mc1 Mm1 vo1 vd1)) : AG (setX X c s) 304 [(0, .ref b), (1, .ref (hY X.2.1.2 + 0)), (2, .ref (hY X.2.1.2 + 281 + 0)), (3, .ref (hY X.2.1.2 + 295)), (4, .ref (hY X.2.1.2 + 296)), (5, .int (nI i))] [] (LWP X.2.1.2 cD Mc Mm vo vd) := by
  have S0 := Z.1 c s (by omega) (by omega)
  have S1 := Z.1 (c + 1) (s + 6) hc hs9
  have hL := Z.2.2.2.2.2.1
  refine g_aload_n S0 dL_law_304 1 rfl ?_
  refine g_aload_n S0 dL_law_305 0 rfl ?_
  refine g_iload S0 dL_law_306 5 rfl ?_
  refine g_iconst S0 (1 : Int32) dL_law_308 rfl ?_
  refine g_iadd S0 dL_law_309 ?_
  refine g_sld Z S0 (i + 1) (show nI i + nI 1 = nI (i + 1) from nI_add i 1) (by omega) dL_law_310 ?_
  refine g_aload_n S0 dL_law_311 0 rfl ?_
  refine g_iload S0 dL_law_312 5 rfl ?_
  refine g_iconst S0 (2 : Int32) dL_law_314 rfl ?_
  refine g_iadd S0 dL_law_315 ?_
  refine g_sld Z S0 (i + 2) (show nI i + nI 2 = nI (i + 2) from nI_add i 2) (by omega) dL_law_316 ?_
  refine g_if_eq S0 324 dL_law_317 (by decide) (fun cb => ?_) (fun cb => ?_)
  · refine g_iconst S0 (0 : Int32) dL_law_324 rfl ?_
    refine g_aload_n S0 dL_law_325 3 rfl ?_
    obtain ⟨res, Mc1, r, Mm1, h1, h2, hI1, hcase⟩ := hs Mc Mm (xs (i + 1)) (0 : Int32) hI
    rcases hcase with ⟨v, rfl, ht, ⟨rfl, rfl⟩ | ⟨hr, hv⟩⟩ | ⟨rfl, ht⟩
    · refine gw Z S0 (c_LW_setDrain _ Z.2.2.2.2.2.2.2.2.2.2.2.1 _ Z.G (hY X.2.1.2 + 295) (fun z => by have := AYC Z.G z; omega) (xs (i + 1)) (0 : Int32) X.2.1.2.2.1.2.1 vo Mc _ Mc1 h1 0 (.inl (X.2.1.2.2.1.2.1, 1, .inr (.inl (vp_updL vo 0 (if (0 : Int32) = 0 then (0 : Int64) else (1 : Int64)))))) (fun z hz => by cases hz; exact ⟨rfl, rfl⟩) (fun k hk => by cases hk)) (Nat.le_add_right _ _) (Z.K.sub [1] rfl) (fun H h => ⟨h.1, h.2.2.1⟩) wdL_setDrain q_1244 (Nat.le_of_ble_eq_true rfl) hc hs9 rfl (Nat.le_of_ble_eq_true rfl) dL_law_326 (LWP.wrL Z.G) ?_
      refine g_istore (lv2 := [(6, .int (0 : Int32)), (0, .ref b), (1, .ref (hY X.2.1.2 + 0)), (2, .ref (hY X.2.1.2 + 281 + 0)), (3, .ref (hY X.2.1.2 + 295)), (4, .ref (hY X.2.1.2 + 296)), (5, .int (nI i))]) S1 dL_law_329 (by decide) rfl ?_
      refine g_aload_n S1 dL_law_331 3 rfl ?_
      refine g_aload_n S1 dL_law_332 1 rfl ?_
      refine g_iload S1 dL_law_333 6 rfl ?_
      refine g_iconst S1 (1 : Int32) dL_law_335 rfl ?_
      refine g_iadd S1 dL_law_336 ?_
      refine g_sld Z S1 (i + 1) (show nI i + nI 1 = nI (i + 1) from nI_add i 1) (by omega) dL_law_337 ?_
      refine g_aload_n S1 dL_law_338 1 rfl ?_
      refine g_iload S1 dL_law_339 6 rfl ?_
      refine g_iconst S1 (2 : Int32) dL_law_341 rfl ?_
      refine g_iadd S1 dL_law_342 ?_
      refine g_sld Z S1 (i + 2) (show nI i + nI 2 = nI (i + 2) from nI_add i 2) (by omega) dL_law_343 ?_
      refine g_if_eq S1 351 dL_law_344 (by decide) (fun _ => ?_) (fun c9 => absurd cb c9)
      refine g_iconst S1 (0 : Int32) dL_law_351 rfl ?_
      refine gc_I S1 Z.aM (gn_V S1 (Y := YM X.2.1.2) (G2 := gM) rfl Z.K (fun H h => h.2.1) fc8 (by decide) (c_MD_setDrain _ (YM X.2.1.2) rfl (xs (i + 1)) (0 : Int32) Mm _ _ h2) wdX8_setDrain q_1245 ⟨Nat.le_of_ble_eq_true rfl, Nat.le_of_ble_eq_true rfl⟩ ⟨by rw [← Z.2.2.2.2.2.2.2.2.2.2.2.2.1]; omega, by rw [← Z.2.2.2.2.2.2.2.2.2.2.2.2.2]; omega⟩ rfl (Nat.le_of_ble_eq_true rfl) dL_law_352) (LWP.mod Z.G) ?_
      refine g_istore (lv2 := [(7, .int (0 : Int32)), (6, .int (0 : Int32)), (0, .ref b), (1, .ref (hY X.2.1.2 + 0)), (2, .ref (hY X.2.1.2 + 281 + 0)), (3, .ref (hY X.2.1.2 + 295)), (4, .ref (hY X.2.1.2 + 296)), (5, .int (nI i))]) S1 dL_law_355 (by decide) rfl ?_
      refine g_aload_n S1 dL_law_357 4 rfl ?_
      refine gc_I S1 Z.aM (gn_V S1 (Y := YM X.2.1.2) (G2 := gM) rfl Z.K (fun H h => h.2.1) fc8 (by decide) (c_MD_thrown _ (YM X.2.1.2) rfl Mm1 _ rfl) wdX8_thrown q_1233 ⟨Nat.le_of_ble_eq_true rfl, Nat.le_of_ble_eq_true rfl⟩ ⟨by rw [← Z.2.2.2.2.2.2.2.2.2.2.2.2.1]; omega, by rw [← Z.2.2.2.2.2.2.2.2.2.2.2.2.2]; omega⟩ rfl (Nat.le_of_ble_eq_true rfl) dL_law_358) (LWP.mod Z.G) ?_
      refine g_iload S1 dL_law_361 1 rfl ?_
      refine g_icmp_eq S1 368 dL_law_363 (by decide) (fun _ => ?_) (fun c9 => absurd ht c9)
      refine g_iload S1 dL_law_368 1 rfl ?_
      refine g_if_ne S1 392 dL_law_370 (by decide) (fun c9 => absurd rfl c9) (fun _ => ?_)
      refine g_aload_n S1 dL_law_373 5 rfl ?_
      refine g_iconst S1 (0 : Int32) dL_law_374 rfl ?_
      refine g_lldE S1 (fun H h => h.2.2.1) (Z.K.sub [1] rfl) (by decide) dL_law_375 ?_
      refine g_iload S1 dL_law_376 0 rfl ?_
      refine g_if_eq S1 385 dL_law_378 (by decide) (fun _ => ?_) (fun c9 => absurd (by decide) c9)
      refine g_lconst S1 (0 : Int64) dL_law_385 rfl ?_
      refine g_lcmp_eq S1 392 dL_law_386 dL_law_387 (by decide) (fun _ => ?_) (fun c9 => absurd (by first | rfl | exact heq) c9)
      refine g_goto S1 1691 dL_law_392 (by decide) ?_
      exact g_sub [2, 3, 4, 5, 6, 7] rfl (k9 _ _ _ _ hI1)
    · refine gw Z S0 (c_LW_setDrain _ Z.2.2.2.2.2.2.2.2.2.2.2.1 _ Z.G (hY X.2.1.2 + 295) (fun z => by have := AYC Z.G z; omega) (xs (i + 1)) (0 : Int32) X.2.1.2.2.1.2.1 vo Mc _ Mc1 h1 0 (.inl (X.2.1.2.2.1.2.1, 1, .inr (.inl (vp_updL vo 0 (if v = 0 then (0 : Int64) else (1 : Int64)))))) (fun z hz => by cases hz; exact ⟨rfl, rfl⟩) (fun k hk => by cases hk)) (Nat.le_add_right _ _) (Z.K.sub [1] rfl) (fun H h => ⟨h.1, h.2.2.1⟩) wdL_setDrain q_1244 (Nat.le_of_ble_eq_true rfl) hc hs9 rfl (Nat.le_of_ble_eq_true rfl) dL_law_326 (LWP.wrL Z.G) ?_
      have heq : (vp_updL vo 0 (if v = 0 then (0 : Int64) else (1 : Int64))) (0 : Int32).toNatClampNeg = 1 := by rw [if_neg hv]; rfl
      refine g_istore (lv2 := [(6, .int (0 : Int32)), (0, .ref b), (1, .ref (hY X.2.1.2 + 0)), (2, .ref (hY X.2.1.2 + 281 + 0)), (3, .ref (hY X.2.1.2 + 295)), (4, .ref (hY X.2.1.2 + 296)), (5, .int (nI i))]) S1 dL_law_329 (by decide) rfl ?_
      refine g_aload_n S1 dL_law_331 3 rfl ?_
      refine g_aload_n S1 dL_law_332 1 rfl ?_
      refine g_iload S1 dL_law_333 6 rfl ?_
      refine g_iconst S1 (1 : Int32) dL_law_335 rfl ?_
      refine g_iadd S1 dL_law_336 ?_
      refine g_sld Z S1 (i + 1) (show nI i + nI 1 = nI (i + 1) from nI_add i 1) (by omega) dL_law_337 ?_
      refine g_aload_n S1 dL_law_338 1 rfl ?_
      refine g_iload S1 dL_law_339 6 rfl ?_
      refine g_iconst S1 (2 : Int32) dL_law_341 rfl ?_
      refine g_iadd S1 dL_law_342 ?_
      refine g_sld Z S1 (i + 2) (show nI i + nI 2 = nI (i + 2) from nI_add i 2) (by omega) dL_law_343 ?_
      refine g_if_eq S1 351 dL_law_344 (by decide) (fun _ => ?_) (fun c9 => absurd cb c9)
      refine g_iconst S1 (0 : Int32) dL_law_351 rfl ?_
      refine gc_I S1 Z.aM (gn_V S1 (Y := YM X.2.1.2) (G2 := gM) rfl Z.K (fun H h => h.2.1) fc8 (by decide) (c_MD_setDrain _ (YM X.2.1.2) rfl (xs (i + 1)) (0 : Int32) Mm _ _ h2) wdX8_setDrain q_1245 ⟨Nat.le_of_ble_eq_true rfl, Nat.le_of_ble_eq_true rfl⟩ ⟨by rw [← Z.2.2.2.2.2.2.2.2.2.2.2.2.1]; omega, by rw [← Z.2.2.2.2.2.2.2.2.2.2.2.2.2]; omega⟩ rfl (Nat.le_of_ble_eq_true rfl) dL_law_352) (LWP.mod Z.G) ?_
      refine g_istore (lv2 := [(7, .int r), (6, .int (0 : Int32)), (0, .ref b), (1, .ref (hY X.2.1.2 + 0)), (2, .ref (hY X.2.1.2 + 281 + 0)), (3, .ref (hY X.2.1.2 + 295)), (4, .ref (hY X.2.1.2 + 296)), (5, .int (nI i))]) S1 dL_law_355 (by decide) rfl ?_
      refine g_aload_n S1 dL_law_357 4 rfl ?_
      refine gc_I S1 Z.aM (gn_V S1 (Y := YM X.2.1.2) (G2 := gM) rfl Z.K (fun H h => h.2.1) fc8 (by decide) (c_MD_thrown _ (YM X.2.1.2) rfl Mm1 _ rfl) wdX8_thrown q_1233 ⟨Nat.le_of_ble_eq_true rfl, Nat.le_of_ble_eq_true rfl⟩ ⟨by rw [← Z.2.2.2.2.2.2.2.2.2.2.2.2.1]; omega, by rw [← Z.2.2.2.2.2.2.2.2.2.2.2.2.2]; omega⟩ rfl (Nat.le_of_ble_eq_true rfl) dL_law_358) (LWP.mod Z.G) ?_
      refine g_iload S1 dL_law_361 1 rfl ?_
      refine g_icmp_eq S1 368 dL_law_363 (by decide) (fun _ => ?_) (fun c9 => absurd ht c9)
      refine g_iload S1 dL_law_368 1 rfl ?_
      refine g_if_ne S1 392 dL_law_370 (by decide) (fun c9 => absurd rfl c9) (fun _ => ?_)
      refine g_aload_n S1 dL_law_373 5 rfl ?_
      refine g_iconst S1 (0 : Int32) dL_law_374 rfl ?_
      refine g_lldE S1 (fun H h => h.2.2.1) (Z.K.sub [1] rfl) (by decide) dL_law_375 ?_
      refine g_iload S1 dL_law_376 0 rfl ?_
      refine g_if_eq S1 385 dL_law_378 (by decide) (fun c9 => absurd c9 hr) (fun _ => ?_)
      refine g_lconst S1 (1 : Int64) dL_law_381 rfl ?_
      refine g_goto S1 386 dL_law_382 (by decide) ?_
      refine g_lcmp_eq S1 392 dL_law_386 dL_law_387 (by decide) (fun _ => ?_) (fun c9 => absurd (by first | rfl | exact heq) c9)
      refine g_goto S1 1691 dL_law_392 (by decide) ?_
      exact g_sub [2, 3, 4, 5, 6, 7] rfl (k9 _ _ _ _ hI1)
    · refine gw Z S0 (c_LW_setDrain _ Z.2.2.2.2.2.2.2.2.2.2.2.1 _ Z.G (hY X.2.1.2 + 295) (fun z => by have := AYC Z.G z; omega) (xs (i + 1)) (0 : Int32) X.2.1.2.2.1.2.1 vo Mc _ Mc1 h1 1 (.inl (X.2.1.2.2.1.2.1, 1, .inr (.inl vo))) (fun z hz => by cases hz) (fun k hk => by cases hk; exact ⟨rfl, rfl, rfl⟩)) (Nat.le_add_right _ _) (Z.K.sub [1] rfl) (fun H h => ⟨h.1, h.2.2.1⟩) wdL_setDrain q_1244 (Nat.le_of_ble_eq_true rfl) hc hs9 rfl (Nat.le_of_ble_eq_true rfl) dL_law_326 (LWP.wrL Z.G) ?_
      refine g_istore (lv2 := [(6, .int (1 : Int32)), (0, .ref b), (1, .ref (hY X.2.1.2 + 0)), (2, .ref (hY X.2.1.2 + 281 + 0)), (3, .ref (hY X.2.1.2 + 295)), (4, .ref (hY X.2.1.2 + 296)), (5, .int (nI i))]) S1 dL_law_329 (by decide) rfl ?_
      refine g_aload_n S1 dL_law_331 3 rfl ?_
      refine g_aload_n S1 dL_law_332 1 rfl ?_
      refine g_iload S1 dL_law_333 6 rfl ?_
      refine g_iconst S1 (1 : Int32) dL_law_335 rfl ?_
      refine g_iadd S1 dL_law_336 ?_
      refine g_sld Z S1 (i + 1) (show nI i + nI 1 = nI (i + 1) from nI_add i 1) (by omega) dL_law_337 ?_
      refine g_aload_n S1 dL_law_338 1 rfl ?_
      refine g_iload S1 dL_law_339 6 rfl ?_
      refine g_iconst S1 (2 : Int32) dL_law_341 rfl ?_
      refine g_iadd S1 dL_law_342 ?_
      refine g_sld Z S1 (i + 2) (show nI i + nI 2 = nI (i + 2) from nI_add i 2) (by omega) dL_law_343 ?_
      refine g_if_eq S1 351 dL_law_344 (by decide) (fun _ => ?_) (fun c9 => absurd cb c9)
      refine g_iconst S1 (0 : Int32) dL_law_351 rfl ?_
      refine gc_I S1 Z.aM (gn_V S1 (Y := YM X.2.1.2) (G2 := gM) rfl Z.K (fun H h => h.2.1) fc8 (by decide) (c_MD_setDrain _ (YM X.2.1.2) rfl (xs (i + 1)) (0 : Int32) Mm _ _ h2) wdX8_setDrain q_1245 ⟨Nat.le_of_ble_eq_true rfl, Nat.le_of_ble_eq_true rfl⟩ ⟨by rw [← Z.2.2.2.2.2.2.2.2.2.2.2.2.1]; omega, by rw [← Z.2.2.2.2.2.2.2.2.2.2.2.2.2]; omega⟩ rfl (Nat.le_of_ble_eq_true rfl) dL_law_352) (LWP.mod Z.G) ?_
      refine g_istore (lv2 := [(7, .int r), (6, .int (1 : Int32)), (0, .ref b), (1, .ref (hY X.2.1.2 + 0)), (2, .ref (hY X.2.1.2 + 281 + 0)), (3, .ref (hY X.2.1.2 + 295)), (4, .ref (hY X.2.1.2 + 296)), (5, .int (nI i))]) S1 dL_law_355 (by decide) rfl ?_
      refine g_aload_n S1 dL_law_357 4 rfl ?_
      refine gc_I S1 Z.aM (gn_V S1 (Y := YM X.2.1.2) (G2 := gM) rfl Z.K (fun H h => h.2.1) fc8 (by decide) (c_MD_thrown _ (YM X.2.1.2) rfl Mm1 _ rfl) wdX8_thrown q_1233 ⟨Nat.le_of_ble_eq_true rfl, Nat.le_of_ble_eq_true rfl⟩ ⟨by rw [← Z.2.2.2.2.2.2.2.2.2.2.2.2.1]; omega, by rw [← Z.2.2.2.2.2.2.2.2.2.2.2.2.2]; omega⟩ rfl (Nat.le_of_ble_eq_true rfl) dL_law_358) (LWP.mod Z.G) ?_
      refine g_iload S1 dL_law_361 1 rfl ?_
      refine g_icmp_eq S1 368 dL_law_363 (by decide) (fun _ => ?_) (fun c9 => absurd ht c9)
      refine g_iload S1 dL_law_368 1 rfl ?_
      refine g_if_ne S1 392 dL_law_370 (by decide) (fun _ => ?_) (fun c9 => absurd c9 (by decide))
      refine g_goto S1 1691 dL_law_392 (by decide) ?_
      exact g_sub [2, 3, 4, 5, 6, 7] rfl (k9 _ _ _ _ hI1)
  · refine g_iconst S0 (1 : Int32) dL_law_320 rfl ?_
    refine g_goto S0 325 dL_law_321 (by decide) ?_
    refine g_aload_n S0 dL_law_325 3 rfl ?_
    obtain ⟨res, Mc1, r, Mm1, h1, h2, hI1, hcase⟩ := hs Mc Mm (xs (i + 1)) (1 : Int32) hI
    rcases hcase with ⟨v, rfl, ht, ⟨rfl, rfl⟩ | ⟨hr, hv⟩⟩ | ⟨rfl, ht⟩
    · refine gw Z S0 (c_LW_setDrain _ Z.2.2.2.2.2.2.2.2.2.2.2.1 _ Z.G (hY X.2.1.2 + 295) (fun z => by have := AYC Z.G z; omega) (xs (i + 1)) (1 : Int32) X.2.1.2.2.1.2.1 vo Mc _ Mc1 h1 0 (.inl (X.2.1.2.2.1.2.1, 1, .inr (.inl (vp_updL vo 0 (if (0 : Int32) = 0 then (0 : Int64) else (1 : Int64)))))) (fun z hz => by cases hz; exact ⟨rfl, rfl⟩) (fun k hk => by cases hk)) (Nat.le_add_right _ _) (Z.K.sub [1] rfl) (fun H h => ⟨h.1, h.2.2.1⟩) wdL_setDrain q_1244 (Nat.le_of_ble_eq_true rfl) hc hs9 rfl (Nat.le_of_ble_eq_true rfl) dL_law_326 (LWP.wrL Z.G) ?_
      refine g_istore (lv2 := [(6, .int (0 : Int32)), (0, .ref b), (1, .ref (hY X.2.1.2 + 0)), (2, .ref (hY X.2.1.2 + 281 + 0)), (3, .ref (hY X.2.1.2 + 295)), (4, .ref (hY X.2.1.2 + 296)), (5, .int (nI i))]) S1 dL_law_329 (by decide) rfl ?_
      refine g_aload_n S1 dL_law_331 3 rfl ?_
      refine g_aload_n S1 dL_law_332 1 rfl ?_
      refine g_iload S1 dL_law_333 6 rfl ?_
      refine g_iconst S1 (1 : Int32) dL_law_335 rfl ?_
      refine g_iadd S1 dL_law_336 ?_
      refine g_sld Z S1 (i + 1) (show nI i + nI 1 = nI (i + 1) from nI_add i 1) (by omega) dL_law_337 ?_
      refine g_aload_n S1 dL_law_338 1 rfl ?_
      refine g_iload S1 dL_law_339 6 rfl ?_
      refine g_iconst S1 (2 : Int32) dL_law_341 rfl ?_
      refine g_iadd S1 dL_law_342 ?_
      refine g_sld Z S1 (i + 2) (show nI i + nI 2 = nI (i + 2) from nI_add i 2) (by omega) dL_law_343 ?_
      refine g_if_eq S1 351 dL_law_344 (by decide) (fun c9 => absurd c9 cb) (fun _ => ?_)
      refine g_iconst S1 (1 : Int32) dL_law_347 rfl ?_
      refine g_goto S1 352 dL_law_348 (by decide) ?_
      refine gc_I S1 Z.aM (gn_V S1 (Y := YM X.2.1.2) (G2 := gM) rfl Z.K (fun H h => h.2.1) fc8 (by decide) (c_MD_setDrain _ (YM X.2.1.2) rfl (xs (i + 1)) (1 : Int32) Mm _ _ h2) wdX8_setDrain q_1245 ⟨Nat.le_of_ble_eq_true rfl, Nat.le_of_ble_eq_true rfl⟩ ⟨by rw [← Z.2.2.2.2.2.2.2.2.2.2.2.2.1]; omega, by rw [← Z.2.2.2.2.2.2.2.2.2.2.2.2.2]; omega⟩ rfl (Nat.le_of_ble_eq_true rfl) dL_law_352) (LWP.mod Z.G) ?_
      refine g_istore (lv2 := [(7, .int (0 : Int32)), (6, .int (0 : Int32)), (0, .ref b), (1, .ref (hY X.2.1.2 + 0)), (2, .ref (hY X.2.1.2 + 281 + 0)), (3, .ref (hY X.2.1.2 + 295)), (4, .ref (hY X.2.1.2 + 296)), (5, .int (nI i))]) S1 dL_law_355 (by decide) rfl ?_
      refine g_aload_n S1 dL_law_357 4 rfl ?_
      refine gc_I S1 Z.aM (gn_V S1 (Y := YM X.2.1.2) (G2 := gM) rfl Z.K (fun H h => h.2.1) fc8 (by decide) (c_MD_thrown _ (YM X.2.1.2) rfl Mm1 _ rfl) wdX8_thrown q_1233 ⟨Nat.le_of_ble_eq_true rfl, Nat.le_of_ble_eq_true rfl⟩ ⟨by rw [← Z.2.2.2.2.2.2.2.2.2.2.2.2.1]; omega, by rw [← Z.2.2.2.2.2.2.2.2.2.2.2.2.2]; omega⟩ rfl (Nat.le_of_ble_eq_true rfl) dL_law_358) (LWP.mod Z.G) ?_
      refine g_iload S1 dL_law_361 1 rfl ?_
      refine g_icmp_eq S1 368 dL_law_363 (by decide) (fun _ => ?_) (fun c9 => absurd ht c9)
      refine g_iload S1 dL_law_368 1 rfl ?_
      refine g_if_ne S1 392 dL_law_370 (by decide) (fun c9 => absurd rfl c9) (fun _ => ?_)
      refine g_aload_n S1 dL_law_373 5 rfl ?_
      refine g_iconst S1 (0 : Int32) dL_law_374 rfl ?_
      refine g_lldE S1 (fun H h => h.2.2.1) (Z.K.sub [1] rfl) (by decide) dL_law_375 ?_
      refine g_iload S1 dL_law_376 0 rfl ?_
      refine g_if_eq S1 385 dL_law_378 (by decide) (fun _ => ?_) (fun c9 => absurd (by decide) c9)
      refine g_lconst S1 (0 : Int64) dL_law_385 rfl ?_
      refine g_lcmp_eq S1 392 dL_law_386 dL_law_387 (by decide) (fun _ => ?_) (fun c9 => absurd (by first | rfl | exact heq) c9)
      refine g_goto S1 1691 dL_law_392 (by decide) ?_
      exact g_sub [2, 3, 4, 5, 6, 7] rfl (k9 _ _ _ _ hI1)
    · refine gw Z S0 (c_LW_setDrain _ Z.2.2.2.2.2.2.2.2.2.2.2.1 _ Z.G (hY X.2.1.2 + 295) (fun z => by have := AYC Z.G z; omega) (xs (i + 1)) (1 : Int32) X.2.1.2.2.1.2.1 vo Mc _ Mc1 h1 0 (.inl (X.2.1.2.2.1.2.1, 1, .inr (.inl (vp_updL vo 0 (if v = 0 then (0 : Int64) else (1 : Int64)))))) (fun z hz => by cases hz; exact ⟨rfl, rfl⟩) (fun k hk => by cases hk)) (Nat.le_add_right _ _) (Z.K.sub [1] rfl) (fun H h => ⟨h.1, h.2.2.1⟩) wdL_setDrain q_1244 (Nat.le_of_ble_eq_true rfl) hc hs9 rfl (Nat.le_of_ble_eq_true rfl) dL_law_326 (LWP.wrL Z.G) ?_
      have heq : (vp_updL vo 0 (if v = 0 then (0 : Int64) else (1 : Int64))) (0 : Int32).toNatClampNeg = 1 := by rw [if_neg hv]; rfl
      refine g_istore (lv2 := [(6, .int (0 : Int32)), (0, .ref b), (1, .ref (hY X.2.1.2 + 0)), (2, .ref (hY X.2.1.2 + 281 + 0)), (3, .ref (hY X.2.1.2 + 295)), (4, .ref (hY X.2.1.2 + 296)), (5, .int (nI i))]) S1 dL_law_329 (by decide) rfl ?_
      refine g_aload_n S1 dL_law_331 3 rfl ?_
      refine g_aload_n S1 dL_law_332 1 rfl ?_
      refine g_iload S1 dL_law_333 6 rfl ?_
      refine g_iconst S1 (1 : Int32) dL_law_335 rfl ?_
      refine g_iadd S1 dL_law_336 ?_
      refine g_sld Z S1 (i + 1) (show nI i + nI 1 = nI (i + 1) from nI_add i 1) (by omega) dL_law_337 ?_
      refine g_aload_n S1 dL_law_338 1 rfl ?_
      refine g_iload S1 dL_law_339 6 rfl ?_
      refine g_iconst S1 (2 : Int32) dL_law_341 rfl ?_
      refine g_iadd S1 dL_law_342 ?_
      refine g_sld Z S1 (i + 2) (show nI i + nI 2 = nI (i + 2) from nI_add i 2) (by omega) dL_law_343 ?_
      refine g_if_eq S1 351 dL_law_344 (by decide) (fun c9 => absurd c9 cb) (fun _ => ?_)
      refine g_iconst S1 (1 : Int32) dL_law_347 rfl ?_
      refine g_goto S1 352 dL_law_348 (by decide) ?_
      refine gc_I S1 Z.aM (gn_V S1 (Y := YM X.2.1.2) (G2 := gM) rfl Z.K (fun H h => h.2.1) fc8 (by decide) (c_MD_setDrain _ (YM X.2.1.2) rfl (xs (i + 1)) (1 : Int32) Mm _ _ h2) wdX8_setDrain q_1245 ⟨Nat.le_of_ble_eq_true rfl, Nat.le_of_ble_eq_true rfl⟩ ⟨by rw [← Z.2.2.2.2.2.2.2.2.2.2.2.2.1]; omega, by rw [← Z.2.2.2.2.2.2.2.2.2.2.2.2.2]; omega⟩ rfl (Nat.le_of_ble_eq_true rfl) dL_law_352) (LWP.mod Z.G) ?_
      refine g_istore (lv2 := [(7, .int r), (6, .int (0 : Int32)), (0, .ref b), (1, .ref (hY X.2.1.2 + 0)), (2, .ref (hY X.2.1.2 + 281 + 0)), (3, .ref (hY X.2.1.2 + 295)), (4, .ref (hY X.2.1.2 + 296)), (5, .int (nI i))]) S1 dL_law_355 (by decide) rfl ?_
      refine g_aload_n S1 dL_law_357 4 rfl ?_
      refine gc_I S1 Z.aM (gn_V S1 (Y := YM X.2.1.2) (G2 := gM) rfl Z.K (fun H h => h.2.1) fc8 (by decide) (c_MD_thrown _ (YM X.2.1.2) rfl Mm1 _ rfl) wdX8_thrown q_1233 ⟨Nat.le_of_ble_eq_true rfl, Nat.le_of_ble_eq_true rfl⟩ ⟨by rw [← Z.2.2.2.2.2.2.2.2.2.2.2.2.1]; omega, by rw [← Z.2.2.2.2.2.2.2.2.2.2.2.2.2]; omega⟩ rfl (Nat.le_of_ble_eq_true rfl) dL_law_358) (LWP.mod Z.G) ?_
      refine g_iload S1 dL_law_361 1 rfl ?_
      refine g_icmp_eq S1 368 dL_law_363 (by decide) (fun _ => ?_) (fun c9 => absurd ht c9)
      refine g_iload S1 dL_law_368 1 rfl ?_
      refine g_if_ne S1 392 dL_law_370 (by decide) (fun c9 => absurd rfl c9) (fun _ => ?_)
      refine g_aload_n S1 dL_law_373 5 rfl ?_
      refine g_iconst S1 (0 : Int32) dL_law_374 rfl ?_
      refine g_lldE S1 (fun H h => h.2.2.1) (Z.K.sub [1] rfl) (by decide) dL_law_375 ?_
      refine g_iload S1 dL_law_376 0 rfl ?_
      refine g_if_eq S1 385 dL_law_378 (by decide) (fun c9 => absurd c9 hr) (fun _ => ?_)
      refine g_lconst S1 (1 : Int64) dL_law_381 rfl ?_
      refine g_goto S1 386 dL_law_382 (by decide) ?_
      refine g_lcmp_eq S1 392 dL_law_386 dL_law_387 (by decide) (fun _ => ?_) (fun c9 => absurd (by first | rfl | exact heq) c9)
      refine g_goto S1 1691 dL_law_392 (by decide) ?_
      exact g_sub [2, 3, 4, 5, 6, 7] rfl (k9 _ _ _ _ hI1)
    · refine gw Z S0 (c_LW_setDrain _ Z.2.2.2.2.2.2.2.2.2.2.2.1 _ Z.G (hY X.2.1.2 + 295) (fun z => by have := AYC Z.G z; omega) (xs (i + 1)) (1 : Int32) X.2.1.2.2.1.2.1 vo Mc _ Mc1 h1 1 (.inl (X.2.1.2.2.1.2.1, 1, .inr (.inl vo))) (fun z hz => by cases hz) (fun k hk => by cases hk; exact ⟨rfl, rfl, rfl⟩)) (Nat.le_add_right _ _) (Z.K.sub [1] rfl) (fun H h => ⟨h.1, h.2.2.1⟩) wdL_setDrain q_1244 (Nat.le_of_ble_eq_true rfl) hc hs9 rfl (Nat.le_of_ble_eq_true rfl) dL_law_326 (LWP.wrL Z.G) ?_
      refine g_istore (lv2 := [(6, .int (1 : Int32)), (0, .ref b), (1, .ref (hY X.2.1.2 + 0)), (2, .ref (hY X.2.1.2 + 281 + 0)), (3, .ref (hY X.2.1.2 + 295)), (4, .ref (hY X.2.1.2 + 296)), (5, .int (nI i))]) S1 dL_law_329 (by decide) rfl ?_
      refine g_aload_n S1 dL_law_331 3 rfl ?_
      refine g_aload_n S1 dL_law_332 1 rfl ?_
      refine g_iload S1 dL_law_333 6 rfl ?_
      refine g_iconst S1 (1 : Int32) dL_law_335 rfl ?_
      refine g_iadd S1 dL_law_336 ?_
      refine g_sld Z S1 (i + 1) (show nI i + nI 1 = nI (i + 1) from nI_add i 1) (by omega) dL_law_337 ?_
      refine g_aload_n S1 dL_law_338 1 rfl ?_
      refine g_iload S1 dL_law_339 6 rfl ?_
      refine g_iconst S1 (2 : Int32) dL_law_341 rfl ?_
      refine g_iadd S1 dL_law_342 ?_
      refine g_sld Z S1 (i + 2) (show nI i + nI 2 = nI (i + 2) from nI_add i 2) (by omega) dL_law_343 ?_
      refine g_if_eq S1 351 dL_law_344 (by decide) (fun c9 => absurd c9 cb) (fun _ => ?_)
      refine g_iconst S1 (1 : Int32) dL_law_347 rfl ?_
      refine g_goto S1 352 dL_law_348 (by decide) ?_
      refine gc_I S1 Z.aM (gn_V S1 (Y := YM X.2.1.2) (G2 := gM) rfl Z.K (fun H h => h.2.1) fc8 (by decide) (c_MD_setDrain _ (YM X.2.1.2) rfl (xs (i + 1)) (1 : Int32) Mm _ _ h2) wdX8_setDrain q_1245 ⟨Nat.le_of_ble_eq_true rfl, Nat.le_of_ble_eq_true rfl⟩ ⟨by rw [← Z.2.2.2.2.2.2.2.2.2.2.2.2.1]; omega, by rw [← Z.2.2.2.2.2.2.2.2.2.2.2.2.2]; omega⟩ rfl (Nat.le_of_ble_eq_true rfl) dL_law_352) (LWP.mod Z.G) ?_
      refine g_istore (lv2 := [(7, .int r), (6, .int (1 : Int32)), (0, .ref b), (1, .ref (hY X.2.1.2 + 0)), (2, .ref (hY X.2.1.2 + 281 + 0)), (3, .ref (hY X.2.1.2 + 295)), (4, .ref (hY X.2.1.2 + 296)), (5, .int (nI i))]) S1 dL_law_355 (by decide) rfl ?_
      refine g_aload_n S1 dL_law_357 4 rfl ?_
      refine gc_I S1 Z.aM (gn_V S1 (Y := YM X.2.1.2) (G2 := gM) rfl Z.K (fun H h => h.2.1) fc8 (by decide) (c_MD_thrown _ (YM X.2.1.2) rfl Mm1 _ rfl) wdX8_thrown q_1233 ⟨Nat.le_of_ble_eq_true rfl, Nat.le_of_ble_eq_true rfl⟩ ⟨by rw [← Z.2.2.2.2.2.2.2.2.2.2.2.2.1]; omega, by rw [← Z.2.2.2.2.2.2.2.2.2.2.2.2.2]; omega⟩ rfl (Nat.le_of_ble_eq_true rfl) dL_law_358) (LWP.mod Z.G) ?_
      refine g_iload S1 dL_law_361 1 rfl ?_
      refine g_icmp_eq S1 368 dL_law_363 (by decide) (fun _ => ?_) (fun c9 => absurd ht c9)
      refine g_iload S1 dL_law_368 1 rfl ?_
      refine g_if_ne S1 392 dL_law_370 (by decide) (fun _ => ?_) (fun c9 => absurd c9 (by decide))
      refine g_goto S1 1691 dL_law_392 (by decide) ?_
      exact g_sub [2, 3, 4, 5, 6, 7] rfl (k9 _ _ _ _ hI1)
set_option maxRecDepth 100000 in
set_option maxHeartbeats 4000000 in
theorem lc_3 {X : Cx} {b L : Nat} {xs : Nat → Int32} {cD : ClassId} (Z : LX X b L xs cD) {Inv : Mem → Mem → Prop} (hs : Sim3 Inv) (i : Nat) (hi : i + 4 ≤ L) {Mc Mm : Mem} {vo : Nat → Int64} {vd : Nat → UInt64} (hI : Inv Mc Mm) (c s : Nat) (hc : c + 2 ≤ 601024) (hs9 : s + 12 ≤ 7293034) (k9 : ∀ Mc1 Mm1 vo1 vd1, Inv Mc1 Mm1 → AG (setX X (c + 2) (s + 12)) 1691 [(0, .ref b), (1, .ref (hY X.2.1.2 + 0)), (2, .ref (hY X.2.1.2 + 281 + 0)), (3, .ref (hY X.2.1.2 + 295)), (4, .ref (hY X.2.1.2 + 296)), (5, .int (nI i))] [] (LWP X.2.1.2 cD Mc1 Mm1 vo1 vd1)) : AG (setX X c s) 395 [(0, .ref b), (1, .ref (hY X.2.1.2 + 0)), (2, .ref (hY X.2.1.2 + 281 + 0)), (3, .ref (hY X.2.1.2 + 295)), (4, .ref (hY X.2.1.2 + 296)), (5, .int (nI i))] [] (LWP X.2.1.2 cD Mc Mm vo vd) := by
  have S0 := Z.1 c s (by omega) (by omega)
  have S1 := Z.1 (c + 2) (s + 12) hc hs9
  have hL := Z.2.2.2.2.2.1
  refine g_aload_n S0 dL_law_395 1 rfl ?_
  refine g_aload_n S0 dL_law_396 0 rfl ?_
  refine g_iload S0 dL_law_397 5 rfl ?_
  refine g_iconst S0 (1 : Int32) dL_law_399 rfl ?_
  refine g_iadd S0 dL_law_400 ?_
  refine g_sld Z S0 (i + 1) (show nI i + nI 1 = nI (i + 1) from nI_add i 1) (by omega) dL_law_401 ?_
  refine g_aload_n S0 dL_law_402 0 rfl ?_
  refine g_iload S0 dL_law_403 5 rfl ?_
  refine g_iconst S0 (2 : Int32) dL_law_405 rfl ?_
  refine g_iadd S0 dL_law_406 ?_
  refine g_sld Z S0 (i + 2) (show nI i + nI 2 = nI (i + 2) from nI_add i 2) (by omega) dL_law_407 ?_
  refine g_aload_n S0 dL_law_408 0 rfl ?_
  refine g_iload S0 dL_law_409 5 rfl ?_
  refine g_iconst S0 (3 : Int32) dL_law_411 rfl ?_
  refine g_iadd S0 dL_law_412 ?_
  refine g_sld Z S0 (i + 3) (show nI i + nI 3 = nI (i + 3) from nI_add i 3) (by omega) dL_law_413 ?_
  refine g_aload_n S0 dL_law_414 3 rfl ?_
  obtain ⟨res, Mc1, r, Mm1, h1, h2, hI1, hcase⟩ := hs Mc Mm (xs (i + 1)) (xs (i + 2)) (xs (i + 3)) hI
  rcases hcase with ⟨v, rfl, ht, rfl⟩ | ⟨rfl, ht⟩ | ⟨rfl, ht⟩
  · refine gw Z S0 (c_LW_setGate _ Z.2.2.2.2.2.2.2.2.2.2.2.1 _ Z.G (hY X.2.1.2 + 295) (fun z => by have := AYC Z.G z; omega) (xs (i + 1)) (xs (i + 2)) (xs (i + 3)) X.2.1.2.2.1.2.1 vo Mc _ Mc1 h1 0 (.inl (X.2.1.2.2.1.2.1, 1, .inr (.inl (vp_updL vo 0 r.toInt64)))) (fun z hz => by cases hz; exact ⟨rfl, rfl⟩) (fun k hk => by cases hk)) (Nat.le_add_right _ _) (Z.K.sub [1] rfl) (fun H h => ⟨h.1, h.2.2.1⟩) wdL_setGate q_1250 (Nat.le_of_ble_eq_true rfl) hc hs9 rfl (Nat.le_of_ble_eq_true rfl) dL_law_415 (LWP.wrL Z.G) ?_
    refine g_istore (lv2 := [(6, .int (0 : Int32)), (0, .ref b), (1, .ref (hY X.2.1.2 + 0)), (2, .ref (hY X.2.1.2 + 281 + 0)), (3, .ref (hY X.2.1.2 + 295)), (4, .ref (hY X.2.1.2 + 296)), (5, .int (nI i))]) S1 dL_law_418 (by decide) rfl ?_
    refine g_aload_n S1 dL_law_420 3 rfl ?_
    refine g_aload_n S1 dL_law_421 1 rfl ?_
    refine g_iload S1 dL_law_422 6 rfl ?_
    refine g_iconst S1 (1 : Int32) dL_law_424 rfl ?_
    refine g_iadd S1 dL_law_425 ?_
    refine g_sld Z S1 (i + 1) (show nI i + nI 1 = nI (i + 1) from nI_add i 1) (by omega) dL_law_426 ?_
    refine g_aload_n S1 dL_law_427 1 rfl ?_
    refine g_iload S1 dL_law_428 6 rfl ?_
    refine g_iconst S1 (2 : Int32) dL_law_430 rfl ?_
    refine g_iadd S1 dL_law_431 ?_
    refine g_sld Z S1 (i + 2) (show nI i + nI 2 = nI (i + 2) from nI_add i 2) (by omega) dL_law_432 ?_
    refine g_aload_n S1 dL_law_433 1 rfl ?_
    refine g_iload S1 dL_law_434 6 rfl ?_
    refine g_iconst S1 (3 : Int32) dL_law_436 rfl ?_
    refine g_iadd S1 dL_law_437 ?_
    refine g_sld Z S1 (i + 3) (show nI i + nI 3 = nI (i + 3) from nI_add i 3) (by omega) dL_law_438 ?_
    refine gc_I S1 Z.aM (gn_V S1 (Y := YM X.2.1.2) (G2 := gM) rfl Z.K (fun H h => h.2.1) fc8 (by decide) (c_MD_setGate _ (YM X.2.1.2) rfl (xs (i + 1)) (xs (i + 2)) (xs (i + 3)) Mm _ _ h2) wdX8_setGate q_1251 ⟨Nat.le_of_ble_eq_true rfl, Nat.le_of_ble_eq_true rfl⟩ ⟨by rw [← Z.2.2.2.2.2.2.2.2.2.2.2.2.1]; omega, by rw [← Z.2.2.2.2.2.2.2.2.2.2.2.2.2]; omega⟩ rfl (Nat.le_of_ble_eq_true rfl) dL_law_439) (LWP.mod Z.G) ?_
    refine g_istore (lv2 := [(7, .int r), (6, .int (0 : Int32)), (0, .ref b), (1, .ref (hY X.2.1.2 + 0)), (2, .ref (hY X.2.1.2 + 281 + 0)), (3, .ref (hY X.2.1.2 + 295)), (4, .ref (hY X.2.1.2 + 296)), (5, .int (nI i))]) S1 dL_law_442 (by decide) rfl ?_
    refine g_aload_n S1 dL_law_444 4 rfl ?_
    refine gc_I S1 Z.aM (gn_V S1 (Y := YM X.2.1.2) (G2 := gM) rfl Z.K (fun H h => h.2.1) fc8 (by decide) (c_MD_thrown _ (YM X.2.1.2) rfl Mm1 _ rfl) wdX8_thrown q_1233 ⟨Nat.le_of_ble_eq_true rfl, Nat.le_of_ble_eq_true rfl⟩ ⟨by rw [← Z.2.2.2.2.2.2.2.2.2.2.2.2.1]; omega, by rw [← Z.2.2.2.2.2.2.2.2.2.2.2.2.2]; omega⟩ rfl (Nat.le_of_ble_eq_true rfl) dL_law_445) (LWP.mod Z.G) ?_
    refine g_iload S1 dL_law_448 1 rfl ?_
    refine g_icmp_eq S1 455 dL_law_450 (by decide) (fun _ => ?_) (fun c9 => absurd ht c9)
    refine g_iload S1 dL_law_455 1 rfl ?_
    refine g_if_ne S1 472 dL_law_457 (by decide) (fun c9 => absurd rfl c9) (fun _ => ?_)
    refine g_aload_n S1 dL_law_460 5 rfl ?_
    refine g_iconst S1 (0 : Int32) dL_law_461 rfl ?_
    refine g_lldE S1 (fun H h => h.2.2.1) (Z.K.sub [1] rfl) (by decide) dL_law_462 ?_
    refine g_iload S1 dL_law_463 0 rfl ?_
    refine g_i2l S1 dL_law_465 ?_
    refine g_lcmp_eq S1 472 dL_law_466 dL_law_467 (by decide) (fun _ => ?_) (fun c9 => absurd (by first | rfl | exact heq) c9)
    refine g_goto S1 1691 dL_law_472 (by decide) ?_
    exact g_sub [2, 3, 4, 5, 6, 7] rfl (k9 _ _ _ _ hI1)
  · refine gw Z S0 (c_LW_setGate _ Z.2.2.2.2.2.2.2.2.2.2.2.1 _ Z.G (hY X.2.1.2 + 295) (fun z => by have := AYC Z.G z; omega) (xs (i + 1)) (xs (i + 2)) (xs (i + 3)) X.2.1.2.2.1.2.1 vo Mc _ Mc1 h1 1 (.inl (X.2.1.2.2.1.2.1, 1, .inr (.inl vo))) (fun z hz => by cases hz) (fun k hk => by cases hk; exact Or.inl ⟨rfl, rfl, rfl⟩)) (Nat.le_add_right _ _) (Z.K.sub [1] rfl) (fun H h => ⟨h.1, h.2.2.1⟩) wdL_setGate q_1250 (Nat.le_of_ble_eq_true rfl) hc hs9 rfl (Nat.le_of_ble_eq_true rfl) dL_law_415 (LWP.wrL Z.G) ?_
    refine g_istore (lv2 := [(6, .int (1 : Int32)), (0, .ref b), (1, .ref (hY X.2.1.2 + 0)), (2, .ref (hY X.2.1.2 + 281 + 0)), (3, .ref (hY X.2.1.2 + 295)), (4, .ref (hY X.2.1.2 + 296)), (5, .int (nI i))]) S1 dL_law_418 (by decide) rfl ?_
    refine g_aload_n S1 dL_law_420 3 rfl ?_
    refine g_aload_n S1 dL_law_421 1 rfl ?_
    refine g_iload S1 dL_law_422 6 rfl ?_
    refine g_iconst S1 (1 : Int32) dL_law_424 rfl ?_
    refine g_iadd S1 dL_law_425 ?_
    refine g_sld Z S1 (i + 1) (show nI i + nI 1 = nI (i + 1) from nI_add i 1) (by omega) dL_law_426 ?_
    refine g_aload_n S1 dL_law_427 1 rfl ?_
    refine g_iload S1 dL_law_428 6 rfl ?_
    refine g_iconst S1 (2 : Int32) dL_law_430 rfl ?_
    refine g_iadd S1 dL_law_431 ?_
    refine g_sld Z S1 (i + 2) (show nI i + nI 2 = nI (i + 2) from nI_add i 2) (by omega) dL_law_432 ?_
    refine g_aload_n S1 dL_law_433 1 rfl ?_
    refine g_iload S1 dL_law_434 6 rfl ?_
    refine g_iconst S1 (3 : Int32) dL_law_436 rfl ?_
    refine g_iadd S1 dL_law_437 ?_
    refine g_sld Z S1 (i + 3) (show nI i + nI 3 = nI (i + 3) from nI_add i 3) (by omega) dL_law_438 ?_
    refine gc_I S1 Z.aM (gn_V S1 (Y := YM X.2.1.2) (G2 := gM) rfl Z.K (fun H h => h.2.1) fc8 (by decide) (c_MD_setGate _ (YM X.2.1.2) rfl (xs (i + 1)) (xs (i + 2)) (xs (i + 3)) Mm _ _ h2) wdX8_setGate q_1251 ⟨Nat.le_of_ble_eq_true rfl, Nat.le_of_ble_eq_true rfl⟩ ⟨by rw [← Z.2.2.2.2.2.2.2.2.2.2.2.2.1]; omega, by rw [← Z.2.2.2.2.2.2.2.2.2.2.2.2.2]; omega⟩ rfl (Nat.le_of_ble_eq_true rfl) dL_law_439) (LWP.mod Z.G) ?_
    refine g_istore (lv2 := [(7, .int r), (6, .int (1 : Int32)), (0, .ref b), (1, .ref (hY X.2.1.2 + 0)), (2, .ref (hY X.2.1.2 + 281 + 0)), (3, .ref (hY X.2.1.2 + 295)), (4, .ref (hY X.2.1.2 + 296)), (5, .int (nI i))]) S1 dL_law_442 (by decide) rfl ?_
    refine g_aload_n S1 dL_law_444 4 rfl ?_
    refine gc_I S1 Z.aM (gn_V S1 (Y := YM X.2.1.2) (G2 := gM) rfl Z.K (fun H h => h.2.1) fc8 (by decide) (c_MD_thrown _ (YM X.2.1.2) rfl Mm1 _ rfl) wdX8_thrown q_1233 ⟨Nat.le_of_ble_eq_true rfl, Nat.le_of_ble_eq_true rfl⟩ ⟨by rw [← Z.2.2.2.2.2.2.2.2.2.2.2.2.1]; omega, by rw [← Z.2.2.2.2.2.2.2.2.2.2.2.2.2]; omega⟩ rfl (Nat.le_of_ble_eq_true rfl) dL_law_445) (LWP.mod Z.G) ?_
    refine g_iload S1 dL_law_448 1 rfl ?_
    refine g_icmp_eq S1 455 dL_law_450 (by decide) (fun _ => ?_) (fun c9 => absurd ht c9)
    refine g_iload S1 dL_law_455 1 rfl ?_
    refine g_if_ne S1 472 dL_law_457 (by decide) (fun _ => ?_) (fun c9 => absurd c9 (by decide))
    refine g_goto S1 1691 dL_law_472 (by decide) ?_
    exact g_sub [2, 3, 4, 5, 6, 7] rfl (k9 _ _ _ _ hI1)
  · refine gw Z S0 (c_LW_setGate _ Z.2.2.2.2.2.2.2.2.2.2.2.1 _ Z.G (hY X.2.1.2 + 295) (fun z => by have := AYC Z.G z; omega) (xs (i + 1)) (xs (i + 2)) (xs (i + 3)) X.2.1.2.2.1.2.1 vo Mc _ Mc1 h1 2 (.inl (X.2.1.2.2.1.2.1, 1, .inr (.inl vo))) (fun z hz => by cases hz) (fun k hk => by cases hk; exact Or.inr (⟨rfl, rfl, rfl⟩))) (Nat.le_add_right _ _) (Z.K.sub [1] rfl) (fun H h => ⟨h.1, h.2.2.1⟩) wdL_setGate q_1250 (Nat.le_of_ble_eq_true rfl) hc hs9 rfl (Nat.le_of_ble_eq_true rfl) dL_law_415 (LWP.wrL Z.G) ?_
    refine g_istore (lv2 := [(6, .int (2 : Int32)), (0, .ref b), (1, .ref (hY X.2.1.2 + 0)), (2, .ref (hY X.2.1.2 + 281 + 0)), (3, .ref (hY X.2.1.2 + 295)), (4, .ref (hY X.2.1.2 + 296)), (5, .int (nI i))]) S1 dL_law_418 (by decide) rfl ?_
    refine g_aload_n S1 dL_law_420 3 rfl ?_
    refine g_aload_n S1 dL_law_421 1 rfl ?_
    refine g_iload S1 dL_law_422 6 rfl ?_
    refine g_iconst S1 (1 : Int32) dL_law_424 rfl ?_
    refine g_iadd S1 dL_law_425 ?_
    refine g_sld Z S1 (i + 1) (show nI i + nI 1 = nI (i + 1) from nI_add i 1) (by omega) dL_law_426 ?_
    refine g_aload_n S1 dL_law_427 1 rfl ?_
    refine g_iload S1 dL_law_428 6 rfl ?_
    refine g_iconst S1 (2 : Int32) dL_law_430 rfl ?_
    refine g_iadd S1 dL_law_431 ?_
    refine g_sld Z S1 (i + 2) (show nI i + nI 2 = nI (i + 2) from nI_add i 2) (by omega) dL_law_432 ?_
    refine g_aload_n S1 dL_law_433 1 rfl ?_
    refine g_iload S1 dL_law_434 6 rfl ?_
    refine g_iconst S1 (3 : Int32) dL_law_436 rfl ?_
    refine g_iadd S1 dL_law_437 ?_
    refine g_sld Z S1 (i + 3) (show nI i + nI 3 = nI (i + 3) from nI_add i 3) (by omega) dL_law_438 ?_
    refine gc_I S1 Z.aM (gn_V S1 (Y := YM X.2.1.2) (G2 := gM) rfl Z.K (fun H h => h.2.1) fc8 (by decide) (c_MD_setGate _ (YM X.2.1.2) rfl (xs (i + 1)) (xs (i + 2)) (xs (i + 3)) Mm _ _ h2) wdX8_setGate q_1251 ⟨Nat.le_of_ble_eq_true rfl, Nat.le_of_ble_eq_true rfl⟩ ⟨by rw [← Z.2.2.2.2.2.2.2.2.2.2.2.2.1]; omega, by rw [← Z.2.2.2.2.2.2.2.2.2.2.2.2.2]; omega⟩ rfl (Nat.le_of_ble_eq_true rfl) dL_law_439) (LWP.mod Z.G) ?_
    refine g_istore (lv2 := [(7, .int r), (6, .int (2 : Int32)), (0, .ref b), (1, .ref (hY X.2.1.2 + 0)), (2, .ref (hY X.2.1.2 + 281 + 0)), (3, .ref (hY X.2.1.2 + 295)), (4, .ref (hY X.2.1.2 + 296)), (5, .int (nI i))]) S1 dL_law_442 (by decide) rfl ?_
    refine g_aload_n S1 dL_law_444 4 rfl ?_
    refine gc_I S1 Z.aM (gn_V S1 (Y := YM X.2.1.2) (G2 := gM) rfl Z.K (fun H h => h.2.1) fc8 (by decide) (c_MD_thrown _ (YM X.2.1.2) rfl Mm1 _ rfl) wdX8_thrown q_1233 ⟨Nat.le_of_ble_eq_true rfl, Nat.le_of_ble_eq_true rfl⟩ ⟨by rw [← Z.2.2.2.2.2.2.2.2.2.2.2.2.1]; omega, by rw [← Z.2.2.2.2.2.2.2.2.2.2.2.2.2]; omega⟩ rfl (Nat.le_of_ble_eq_true rfl) dL_law_445) (LWP.mod Z.G) ?_
    refine g_iload S1 dL_law_448 1 rfl ?_
    refine g_icmp_eq S1 455 dL_law_450 (by decide) (fun _ => ?_) (fun c9 => absurd ht c9)
    refine g_iload S1 dL_law_455 1 rfl ?_
    refine g_if_ne S1 472 dL_law_457 (by decide) (fun _ => ?_) (fun c9 => absurd c9 (by decide))
    refine g_goto S1 1691 dL_law_472 (by decide) ?_
    exact g_sub [2, 3, 4, 5, 6, 7] rfl (k9 _ _ _ _ hI1)
set_option maxRecDepth 100000 in
set_option maxHeartbeats 4000000 in
theorem lc_4 {X : Cx} {b L : Nat} {xs : Nat → Int32} {cD : ClassId} (Z : LX X b L xs cD) {Inv : Mem → Mem → Prop} (hs : Sim4 Inv) (i : Nat) (hi : i + 4 ≤ L) {Mc Mm : Mem} {vo : Nat → Int64} {vd : Nat → UInt64} (hI : Inv Mc Mm) (c s : Nat) (hc : c + 2 ≤ 601024) (hs9 : s + 12 ≤ 7293034) (k9 : ∀ Mc1 Mm1 vo1 vd1, Inv Mc1 Mm1 → AG (setX X (c + 2) (s + 12)) 1691 [(0, .ref b), (1, .ref (hY X.2.1.2 + 0)), (2, .ref (hY X.2.1.2 + 281 + 0)), (3, .ref (hY X.2.1.2 + 295)), (4, .ref (hY X.2.1.2 + 296)), (5, .int (nI i))] [] (LWP X.2.1.2 cD Mc1 Mm1 vo1 vd1)) : AG (setX X c s) 475 [(0, .ref b), (1, .ref (hY X.2.1.2 + 0)), (2, .ref (hY X.2.1.2 + 281 + 0)), (3, .ref (hY X.2.1.2 + 295)), (4, .ref (hY X.2.1.2 + 296)), (5, .int (nI i))] [] (LWP X.2.1.2 cD Mc Mm vo vd) := by
  have S0 := Z.1 c s (by omega) (by omega)
  have S1 := Z.1 (c + 2) (s + 12) hc hs9
  have hL := Z.2.2.2.2.2.1
  refine g_aload_n S0 dL_law_475 1 rfl ?_
  refine g_aload_n S0 dL_law_476 0 rfl ?_
  refine g_iload S0 dL_law_477 5 rfl ?_
  refine g_iconst S0 (1 : Int32) dL_law_479 rfl ?_
  refine g_iadd S0 dL_law_480 ?_
  refine g_sld Z S0 (i + 1) (show nI i + nI 1 = nI (i + 1) from nI_add i 1) (by omega) dL_law_481 ?_
  refine g_aload_n S0 dL_law_482 0 rfl ?_
  refine g_iload S0 dL_law_483 5 rfl ?_
  refine g_iconst S0 (2 : Int32) dL_law_485 rfl ?_
  refine g_iadd S0 dL_law_486 ?_
  refine g_sld Z S0 (i + 2) (show nI i + nI 2 = nI (i + 2) from nI_add i 2) (by omega) dL_law_487 ?_
  refine g_aload_n S0 dL_law_488 3 rfl ?_
  obtain ⟨res, Mc1, r, Mm1, h1, h2, hI1, hcase⟩ := hs Mc Mm (xs (i + 1)) (xs (i + 2)) hI
  rcases hcase with ⟨v, rfl, ht, rfl⟩ | ⟨rfl, ht⟩
  · refine gw Z S0 (c_LW_random _ Z.2.2.2.2.2.2.2.2.2.2.2.1 _ Z.G (hY X.2.1.2 + 295) (fun z => by have := AYC Z.G z; omega) (xs (i + 1)) (xs (i + 2)) X.2.1.2.2.1.2.1 vo Mc _ Mc1 h1 0 (.inl (X.2.1.2.2.1.2.1, 1, .inr (.inl (vp_updL vo 0 r.toInt64)))) (fun z hz => by cases hz; exact ⟨rfl, rfl⟩) (fun k hk => by cases hk)) (Nat.le_add_right _ _) (Z.K.sub [1] rfl) (fun H h => ⟨h.1, h.2.2.1⟩) wdL_random q_1256 (Nat.le_of_ble_eq_true rfl) hc hs9 rfl (Nat.le_of_ble_eq_true rfl) dL_law_489 (LWP.wrL Z.G) ?_
    refine g_istore (lv2 := [(6, .int (0 : Int32)), (0, .ref b), (1, .ref (hY X.2.1.2 + 0)), (2, .ref (hY X.2.1.2 + 281 + 0)), (3, .ref (hY X.2.1.2 + 295)), (4, .ref (hY X.2.1.2 + 296)), (5, .int (nI i))]) S1 dL_law_492 (by decide) rfl ?_
    refine g_aload_n S1 dL_law_494 3 rfl ?_
    refine g_aload_n S1 dL_law_495 1 rfl ?_
    refine g_iload S1 dL_law_496 6 rfl ?_
    refine g_iconst S1 (1 : Int32) dL_law_498 rfl ?_
    refine g_iadd S1 dL_law_499 ?_
    refine g_sld Z S1 (i + 1) (show nI i + nI 1 = nI (i + 1) from nI_add i 1) (by omega) dL_law_500 ?_
    refine g_aload_n S1 dL_law_501 1 rfl ?_
    refine g_iload S1 dL_law_502 6 rfl ?_
    refine g_iconst S1 (2 : Int32) dL_law_504 rfl ?_
    refine g_iadd S1 dL_law_505 ?_
    refine g_sld Z S1 (i + 2) (show nI i + nI 2 = nI (i + 2) from nI_add i 2) (by omega) dL_law_506 ?_
    refine gc_I S1 Z.aM (gn_V S1 (Y := YM X.2.1.2) (G2 := gM) rfl Z.K (fun H h => h.2.1) fc8 (by decide) (c_MD_random _ (YM X.2.1.2) rfl (xs (i + 1)) (xs (i + 2)) Mm _ _ h2) wdX8_random q_1257 ⟨Nat.le_of_ble_eq_true rfl, Nat.le_of_ble_eq_true rfl⟩ ⟨by rw [← Z.2.2.2.2.2.2.2.2.2.2.2.2.1]; omega, by rw [← Z.2.2.2.2.2.2.2.2.2.2.2.2.2]; omega⟩ rfl (Nat.le_of_ble_eq_true rfl) dL_law_507) (LWP.mod Z.G) ?_
    refine g_istore (lv2 := [(7, .int r), (6, .int (0 : Int32)), (0, .ref b), (1, .ref (hY X.2.1.2 + 0)), (2, .ref (hY X.2.1.2 + 281 + 0)), (3, .ref (hY X.2.1.2 + 295)), (4, .ref (hY X.2.1.2 + 296)), (5, .int (nI i))]) S1 dL_law_510 (by decide) rfl ?_
    refine g_aload_n S1 dL_law_512 4 rfl ?_
    refine gc_I S1 Z.aM (gn_V S1 (Y := YM X.2.1.2) (G2 := gM) rfl Z.K (fun H h => h.2.1) fc8 (by decide) (c_MD_thrown _ (YM X.2.1.2) rfl Mm1 _ rfl) wdX8_thrown q_1233 ⟨Nat.le_of_ble_eq_true rfl, Nat.le_of_ble_eq_true rfl⟩ ⟨by rw [← Z.2.2.2.2.2.2.2.2.2.2.2.2.1]; omega, by rw [← Z.2.2.2.2.2.2.2.2.2.2.2.2.2]; omega⟩ rfl (Nat.le_of_ble_eq_true rfl) dL_law_513) (LWP.mod Z.G) ?_
    refine g_iload S1 dL_law_516 1 rfl ?_
    refine g_icmp_eq S1 523 dL_law_518 (by decide) (fun _ => ?_) (fun c9 => absurd ht c9)
    refine g_iload S1 dL_law_523 1 rfl ?_
    refine g_if_ne S1 540 dL_law_525 (by decide) (fun c9 => absurd rfl c9) (fun _ => ?_)
    refine g_aload_n S1 dL_law_528 5 rfl ?_
    refine g_iconst S1 (0 : Int32) dL_law_529 rfl ?_
    refine g_lldE S1 (fun H h => h.2.2.1) (Z.K.sub [1] rfl) (by decide) dL_law_530 ?_
    refine g_iload S1 dL_law_531 0 rfl ?_
    refine g_i2l S1 dL_law_533 ?_
    refine g_lcmp_eq S1 540 dL_law_534 dL_law_535 (by decide) (fun _ => ?_) (fun c9 => absurd (by first | rfl | exact heq) c9)
    refine g_goto S1 1691 dL_law_540 (by decide) ?_
    exact g_sub [2, 3, 4, 5, 6, 7] rfl (k9 _ _ _ _ hI1)
  · refine gw Z S0 (c_LW_random _ Z.2.2.2.2.2.2.2.2.2.2.2.1 _ Z.G (hY X.2.1.2 + 295) (fun z => by have := AYC Z.G z; omega) (xs (i + 1)) (xs (i + 2)) X.2.1.2.2.1.2.1 vo Mc _ Mc1 h1 1 (.inl (X.2.1.2.2.1.2.1, 1, .inr (.inl vo))) (fun z hz => by cases hz) (fun k hk => by cases hk; exact ⟨rfl, rfl, rfl⟩)) (Nat.le_add_right _ _) (Z.K.sub [1] rfl) (fun H h => ⟨h.1, h.2.2.1⟩) wdL_random q_1256 (Nat.le_of_ble_eq_true rfl) hc hs9 rfl (Nat.le_of_ble_eq_true rfl) dL_law_489 (LWP.wrL Z.G) ?_
    refine g_istore (lv2 := [(6, .int (1 : Int32)), (0, .ref b), (1, .ref (hY X.2.1.2 + 0)), (2, .ref (hY X.2.1.2 + 281 + 0)), (3, .ref (hY X.2.1.2 + 295)), (4, .ref (hY X.2.1.2 + 296)), (5, .int (nI i))]) S1 dL_law_492 (by decide) rfl ?_
    refine g_aload_n S1 dL_law_494 3 rfl ?_
    refine g_aload_n S1 dL_law_495 1 rfl ?_
    refine g_iload S1 dL_law_496 6 rfl ?_
    refine g_iconst S1 (1 : Int32) dL_law_498 rfl ?_
    refine g_iadd S1 dL_law_499 ?_
    refine g_sld Z S1 (i + 1) (show nI i + nI 1 = nI (i + 1) from nI_add i 1) (by omega) dL_law_500 ?_
    refine g_aload_n S1 dL_law_501 1 rfl ?_
    refine g_iload S1 dL_law_502 6 rfl ?_
    refine g_iconst S1 (2 : Int32) dL_law_504 rfl ?_
    refine g_iadd S1 dL_law_505 ?_
    refine g_sld Z S1 (i + 2) (show nI i + nI 2 = nI (i + 2) from nI_add i 2) (by omega) dL_law_506 ?_
    refine gc_I S1 Z.aM (gn_V S1 (Y := YM X.2.1.2) (G2 := gM) rfl Z.K (fun H h => h.2.1) fc8 (by decide) (c_MD_random _ (YM X.2.1.2) rfl (xs (i + 1)) (xs (i + 2)) Mm _ _ h2) wdX8_random q_1257 ⟨Nat.le_of_ble_eq_true rfl, Nat.le_of_ble_eq_true rfl⟩ ⟨by rw [← Z.2.2.2.2.2.2.2.2.2.2.2.2.1]; omega, by rw [← Z.2.2.2.2.2.2.2.2.2.2.2.2.2]; omega⟩ rfl (Nat.le_of_ble_eq_true rfl) dL_law_507) (LWP.mod Z.G) ?_
    refine g_istore (lv2 := [(7, .int r), (6, .int (1 : Int32)), (0, .ref b), (1, .ref (hY X.2.1.2 + 0)), (2, .ref (hY X.2.1.2 + 281 + 0)), (3, .ref (hY X.2.1.2 + 295)), (4, .ref (hY X.2.1.2 + 296)), (5, .int (nI i))]) S1 dL_law_510 (by decide) rfl ?_
    refine g_aload_n S1 dL_law_512 4 rfl ?_
    refine gc_I S1 Z.aM (gn_V S1 (Y := YM X.2.1.2) (G2 := gM) rfl Z.K (fun H h => h.2.1) fc8 (by decide) (c_MD_thrown _ (YM X.2.1.2) rfl Mm1 _ rfl) wdX8_thrown q_1233 ⟨Nat.le_of_ble_eq_true rfl, Nat.le_of_ble_eq_true rfl⟩ ⟨by rw [← Z.2.2.2.2.2.2.2.2.2.2.2.2.1]; omega, by rw [← Z.2.2.2.2.2.2.2.2.2.2.2.2.2]; omega⟩ rfl (Nat.le_of_ble_eq_true rfl) dL_law_513) (LWP.mod Z.G) ?_
    refine g_iload S1 dL_law_516 1 rfl ?_
    refine g_icmp_eq S1 523 dL_law_518 (by decide) (fun _ => ?_) (fun c9 => absurd ht c9)
    refine g_iload S1 dL_law_523 1 rfl ?_
    refine g_if_ne S1 540 dL_law_525 (by decide) (fun _ => ?_) (fun c9 => absurd c9 (by decide))
    refine g_goto S1 1691 dL_law_540 (by decide) ?_
    exact g_sub [2, 3, 4, 5, 6, 7] rfl (k9 _ _ _ _ hI1)
set_option maxRecDepth 100000 in
set_option maxHeartbeats 4000000 in
theorem lc_5 {X : Cx} {b L : Nat} {xs : Nat → Int32} {cD : ClassId} (Z : LX X b L xs cD) {Inv : Mem → Mem → Prop} (hs : Sim5 Inv) (i : Nat) (hi : i + 4 ≤ L) {Mc Mm : Mem} {vo : Nat → Int64} {vd : Nat → UInt64} (hI : Inv Mc Mm) (c s : Nat) (hc : c + 2 ≤ 601024) (hs9 : s + 12 ≤ 7293034) (k9 : ∀ Mc1 Mm1 vo1 vd1, Inv Mc1 Mm1 → AG (setX X (c + 2) (s + 12)) 1691 [(0, .ref b), (1, .ref (hY X.2.1.2 + 0)), (2, .ref (hY X.2.1.2 + 281 + 0)), (3, .ref (hY X.2.1.2 + 295)), (4, .ref (hY X.2.1.2 + 296)), (5, .int (nI i))] [] (LWP X.2.1.2 cD Mc1 Mm1 vo1 vd1)) : AG (setX X c s) 543 [(0, .ref b), (1, .ref (hY X.2.1.2 + 0)), (2, .ref (hY X.2.1.2 + 281 + 0)), (3, .ref (hY X.2.1.2 + 295)), (4, .ref (hY X.2.1.2 + 296)), (5, .int (nI i))] [] (LWP X.2.1.2 cD Mc Mm vo vd) := by
  have S0 := Z.1 c s (by omega) (by omega)
  have S1 := Z.1 (c + 2) (s + 12) hc hs9
  have hL := Z.2.2.2.2.2.1
  refine g_aload_n S0 dL_law_543 1 rfl ?_
  refine g_aload_n S0 dL_law_544 0 rfl ?_
  refine g_iload S0 dL_law_545 5 rfl ?_
  refine g_iconst S0 (1 : Int32) dL_law_547 rfl ?_
  refine g_iadd S0 dL_law_548 ?_
  refine g_sld Z S0 (i + 1) (show nI i + nI 1 = nI (i + 1) from nI_add i 1) (by omega) dL_law_549 ?_
  refine g_aload_n S0 dL_law_550 0 rfl ?_
  refine g_iload S0 dL_law_551 5 rfl ?_
  refine g_iconst S0 (2 : Int32) dL_law_553 rfl ?_
  refine g_iadd S0 dL_law_554 ?_
  refine g_sld Z S0 (i + 2) (show nI i + nI 2 = nI (i + 2) from nI_add i 2) (by omega) dL_law_555 ?_
  refine g_aload_n S0 dL_law_556 3 rfl ?_
  obtain ⟨res, Mc1, r, Mm1, h1, h2, hI1, hcase⟩ := hs Mc Mm (xs (i + 1)) (xs (i + 2)) hI
  rcases hcase with ⟨v, rfl, ht, rfl⟩ | ⟨rfl, ht⟩ | ⟨rfl, ht⟩
  · refine gw Z S0 (c_LW_cell _ Z.2.2.2.2.2.2.2.2.2.2.2.1 _ Z.G (hY X.2.1.2 + 295) (fun z => by have := AYC Z.G z; omega) (xs (i + 1)) (xs (i + 2)) X.2.1.2.2.1.2.1 vo Mc _ Mc1 h1 0 (.inl (X.2.1.2.2.1.2.1, 1, .inr (.inl (vp_updL vo 0 r.toInt64)))) (fun z hz => by cases hz; exact ⟨rfl, rfl⟩) (fun k hk => by cases hk)) (Nat.le_add_right _ _) (Z.K.sub [1] rfl) (fun H h => ⟨h.1, h.2.2.1⟩) wdL_cell q_1262 (Nat.le_of_ble_eq_true rfl) hc hs9 rfl (Nat.le_of_ble_eq_true rfl) dL_law_557 (LWP.wrL Z.G) ?_
    refine g_istore (lv2 := [(6, .int (0 : Int32)), (0, .ref b), (1, .ref (hY X.2.1.2 + 0)), (2, .ref (hY X.2.1.2 + 281 + 0)), (3, .ref (hY X.2.1.2 + 295)), (4, .ref (hY X.2.1.2 + 296)), (5, .int (nI i))]) S1 dL_law_560 (by decide) rfl ?_
    refine g_aload_n S1 dL_law_562 3 rfl ?_
    refine g_aload_n S1 dL_law_563 1 rfl ?_
    refine g_iload S1 dL_law_564 6 rfl ?_
    refine g_iconst S1 (1 : Int32) dL_law_566 rfl ?_
    refine g_iadd S1 dL_law_567 ?_
    refine g_sld Z S1 (i + 1) (show nI i + nI 1 = nI (i + 1) from nI_add i 1) (by omega) dL_law_568 ?_
    refine g_aload_n S1 dL_law_569 1 rfl ?_
    refine g_iload S1 dL_law_570 6 rfl ?_
    refine g_iconst S1 (2 : Int32) dL_law_572 rfl ?_
    refine g_iadd S1 dL_law_573 ?_
    refine g_sld Z S1 (i + 2) (show nI i + nI 2 = nI (i + 2) from nI_add i 2) (by omega) dL_law_574 ?_
    refine gc_I S1 Z.aM (gn_V S1 (Y := YM X.2.1.2) (G2 := gM) rfl Z.K (fun H h => h.2.1) fc8 (by decide) (c_MD_cell _ (YM X.2.1.2) rfl (xs (i + 1)) (xs (i + 2)) Mm _ _ h2) wdX8_cell q_1263 ⟨Nat.le_of_ble_eq_true rfl, Nat.le_of_ble_eq_true rfl⟩ ⟨by rw [← Z.2.2.2.2.2.2.2.2.2.2.2.2.1]; omega, by rw [← Z.2.2.2.2.2.2.2.2.2.2.2.2.2]; omega⟩ rfl (Nat.le_of_ble_eq_true rfl) dL_law_575) (LWP.mod Z.G) ?_
    refine g_istore (lv2 := [(7, .int r), (6, .int (0 : Int32)), (0, .ref b), (1, .ref (hY X.2.1.2 + 0)), (2, .ref (hY X.2.1.2 + 281 + 0)), (3, .ref (hY X.2.1.2 + 295)), (4, .ref (hY X.2.1.2 + 296)), (5, .int (nI i))]) S1 dL_law_578 (by decide) rfl ?_
    refine g_aload_n S1 dL_law_580 4 rfl ?_
    refine gc_I S1 Z.aM (gn_V S1 (Y := YM X.2.1.2) (G2 := gM) rfl Z.K (fun H h => h.2.1) fc8 (by decide) (c_MD_thrown _ (YM X.2.1.2) rfl Mm1 _ rfl) wdX8_thrown q_1233 ⟨Nat.le_of_ble_eq_true rfl, Nat.le_of_ble_eq_true rfl⟩ ⟨by rw [← Z.2.2.2.2.2.2.2.2.2.2.2.2.1]; omega, by rw [← Z.2.2.2.2.2.2.2.2.2.2.2.2.2]; omega⟩ rfl (Nat.le_of_ble_eq_true rfl) dL_law_581) (LWP.mod Z.G) ?_
    refine g_iload S1 dL_law_584 1 rfl ?_
    refine g_icmp_eq S1 591 dL_law_586 (by decide) (fun _ => ?_) (fun c9 => absurd ht c9)
    refine g_iload S1 dL_law_591 1 rfl ?_
    refine g_if_ne S1 608 dL_law_593 (by decide) (fun c9 => absurd rfl c9) (fun _ => ?_)
    refine g_aload_n S1 dL_law_596 5 rfl ?_
    refine g_iconst S1 (0 : Int32) dL_law_597 rfl ?_
    refine g_lldE S1 (fun H h => h.2.2.1) (Z.K.sub [1] rfl) (by decide) dL_law_598 ?_
    refine g_iload S1 dL_law_599 0 rfl ?_
    refine g_i2l S1 dL_law_601 ?_
    refine g_lcmp_eq S1 608 dL_law_602 dL_law_603 (by decide) (fun _ => ?_) (fun c9 => absurd (by first | rfl | exact heq) c9)
    refine g_goto S1 1691 dL_law_608 (by decide) ?_
    exact g_sub [2, 3, 4, 5, 6, 7] rfl (k9 _ _ _ _ hI1)
  · refine gw Z S0 (c_LW_cell _ Z.2.2.2.2.2.2.2.2.2.2.2.1 _ Z.G (hY X.2.1.2 + 295) (fun z => by have := AYC Z.G z; omega) (xs (i + 1)) (xs (i + 2)) X.2.1.2.2.1.2.1 vo Mc _ Mc1 h1 1 (.inl (X.2.1.2.2.1.2.1, 1, .inr (.inl vo))) (fun z hz => by cases hz) (fun k hk => by cases hk; exact Or.inl ⟨rfl, rfl, rfl⟩)) (Nat.le_add_right _ _) (Z.K.sub [1] rfl) (fun H h => ⟨h.1, h.2.2.1⟩) wdL_cell q_1262 (Nat.le_of_ble_eq_true rfl) hc hs9 rfl (Nat.le_of_ble_eq_true rfl) dL_law_557 (LWP.wrL Z.G) ?_
    refine g_istore (lv2 := [(6, .int (1 : Int32)), (0, .ref b), (1, .ref (hY X.2.1.2 + 0)), (2, .ref (hY X.2.1.2 + 281 + 0)), (3, .ref (hY X.2.1.2 + 295)), (4, .ref (hY X.2.1.2 + 296)), (5, .int (nI i))]) S1 dL_law_560 (by decide) rfl ?_
    refine g_aload_n S1 dL_law_562 3 rfl ?_
    refine g_aload_n S1 dL_law_563 1 rfl ?_
    refine g_iload S1 dL_law_564 6 rfl ?_
    refine g_iconst S1 (1 : Int32) dL_law_566 rfl ?_
    refine g_iadd S1 dL_law_567 ?_
    refine g_sld Z S1 (i + 1) (show nI i + nI 1 = nI (i + 1) from nI_add i 1) (by omega) dL_law_568 ?_
    refine g_aload_n S1 dL_law_569 1 rfl ?_
    refine g_iload S1 dL_law_570 6 rfl ?_
    refine g_iconst S1 (2 : Int32) dL_law_572 rfl ?_
    refine g_iadd S1 dL_law_573 ?_
    refine g_sld Z S1 (i + 2) (show nI i + nI 2 = nI (i + 2) from nI_add i 2) (by omega) dL_law_574 ?_
    refine gc_I S1 Z.aM (gn_V S1 (Y := YM X.2.1.2) (G2 := gM) rfl Z.K (fun H h => h.2.1) fc8 (by decide) (c_MD_cell _ (YM X.2.1.2) rfl (xs (i + 1)) (xs (i + 2)) Mm _ _ h2) wdX8_cell q_1263 ⟨Nat.le_of_ble_eq_true rfl, Nat.le_of_ble_eq_true rfl⟩ ⟨by rw [← Z.2.2.2.2.2.2.2.2.2.2.2.2.1]; omega, by rw [← Z.2.2.2.2.2.2.2.2.2.2.2.2.2]; omega⟩ rfl (Nat.le_of_ble_eq_true rfl) dL_law_575) (LWP.mod Z.G) ?_
    refine g_istore (lv2 := [(7, .int r), (6, .int (1 : Int32)), (0, .ref b), (1, .ref (hY X.2.1.2 + 0)), (2, .ref (hY X.2.1.2 + 281 + 0)), (3, .ref (hY X.2.1.2 + 295)), (4, .ref (hY X.2.1.2 + 296)), (5, .int (nI i))]) S1 dL_law_578 (by decide) rfl ?_
    refine g_aload_n S1 dL_law_580 4 rfl ?_
    refine gc_I S1 Z.aM (gn_V S1 (Y := YM X.2.1.2) (G2 := gM) rfl Z.K (fun H h => h.2.1) fc8 (by decide) (c_MD_thrown _ (YM X.2.1.2) rfl Mm1 _ rfl) wdX8_thrown q_1233 ⟨Nat.le_of_ble_eq_true rfl, Nat.le_of_ble_eq_true rfl⟩ ⟨by rw [← Z.2.2.2.2.2.2.2.2.2.2.2.2.1]; omega, by rw [← Z.2.2.2.2.2.2.2.2.2.2.2.2.2]; omega⟩ rfl (Nat.le_of_ble_eq_true rfl) dL_law_581) (LWP.mod Z.G) ?_
    refine g_iload S1 dL_law_584 1 rfl ?_
    refine g_icmp_eq S1 591 dL_law_586 (by decide) (fun _ => ?_) (fun c9 => absurd ht c9)
    refine g_iload S1 dL_law_591 1 rfl ?_
    refine g_if_ne S1 608 dL_law_593 (by decide) (fun _ => ?_) (fun c9 => absurd c9 (by decide))
    refine g_goto S1 1691 dL_law_608 (by decide) ?_
    exact g_sub [2, 3, 4, 5, 6, 7] rfl (k9 _ _ _ _ hI1)
  · refine gw Z S0 (c_LW_cell _ Z.2.2.2.2.2.2.2.2.2.2.2.1 _ Z.G (hY X.2.1.2 + 295) (fun z => by have := AYC Z.G z; omega) (xs (i + 1)) (xs (i + 2)) X.2.1.2.2.1.2.1 vo Mc _ Mc1 h1 2 (.inl (X.2.1.2.2.1.2.1, 1, .inr (.inl vo))) (fun z hz => by cases hz) (fun k hk => by cases hk; exact Or.inr (⟨rfl, rfl, rfl⟩))) (Nat.le_add_right _ _) (Z.K.sub [1] rfl) (fun H h => ⟨h.1, h.2.2.1⟩) wdL_cell q_1262 (Nat.le_of_ble_eq_true rfl) hc hs9 rfl (Nat.le_of_ble_eq_true rfl) dL_law_557 (LWP.wrL Z.G) ?_
    refine g_istore (lv2 := [(6, .int (2 : Int32)), (0, .ref b), (1, .ref (hY X.2.1.2 + 0)), (2, .ref (hY X.2.1.2 + 281 + 0)), (3, .ref (hY X.2.1.2 + 295)), (4, .ref (hY X.2.1.2 + 296)), (5, .int (nI i))]) S1 dL_law_560 (by decide) rfl ?_
    refine g_aload_n S1 dL_law_562 3 rfl ?_
    refine g_aload_n S1 dL_law_563 1 rfl ?_
    refine g_iload S1 dL_law_564 6 rfl ?_
    refine g_iconst S1 (1 : Int32) dL_law_566 rfl ?_
    refine g_iadd S1 dL_law_567 ?_
    refine g_sld Z S1 (i + 1) (show nI i + nI 1 = nI (i + 1) from nI_add i 1) (by omega) dL_law_568 ?_
    refine g_aload_n S1 dL_law_569 1 rfl ?_
    refine g_iload S1 dL_law_570 6 rfl ?_
    refine g_iconst S1 (2 : Int32) dL_law_572 rfl ?_
    refine g_iadd S1 dL_law_573 ?_
    refine g_sld Z S1 (i + 2) (show nI i + nI 2 = nI (i + 2) from nI_add i 2) (by omega) dL_law_574 ?_
    refine gc_I S1 Z.aM (gn_V S1 (Y := YM X.2.1.2) (G2 := gM) rfl Z.K (fun H h => h.2.1) fc8 (by decide) (c_MD_cell _ (YM X.2.1.2) rfl (xs (i + 1)) (xs (i + 2)) Mm _ _ h2) wdX8_cell q_1263 ⟨Nat.le_of_ble_eq_true rfl, Nat.le_of_ble_eq_true rfl⟩ ⟨by rw [← Z.2.2.2.2.2.2.2.2.2.2.2.2.1]; omega, by rw [← Z.2.2.2.2.2.2.2.2.2.2.2.2.2]; omega⟩ rfl (Nat.le_of_ble_eq_true rfl) dL_law_575) (LWP.mod Z.G) ?_
    refine g_istore (lv2 := [(7, .int r), (6, .int (2 : Int32)), (0, .ref b), (1, .ref (hY X.2.1.2 + 0)), (2, .ref (hY X.2.1.2 + 281 + 0)), (3, .ref (hY X.2.1.2 + 295)), (4, .ref (hY X.2.1.2 + 296)), (5, .int (nI i))]) S1 dL_law_578 (by decide) rfl ?_
    refine g_aload_n S1 dL_law_580 4 rfl ?_
    refine gc_I S1 Z.aM (gn_V S1 (Y := YM X.2.1.2) (G2 := gM) rfl Z.K (fun H h => h.2.1) fc8 (by decide) (c_MD_thrown _ (YM X.2.1.2) rfl Mm1 _ rfl) wdX8_thrown q_1233 ⟨Nat.le_of_ble_eq_true rfl, Nat.le_of_ble_eq_true rfl⟩ ⟨by rw [← Z.2.2.2.2.2.2.2.2.2.2.2.2.1]; omega, by rw [← Z.2.2.2.2.2.2.2.2.2.2.2.2.2]; omega⟩ rfl (Nat.le_of_ble_eq_true rfl) dL_law_581) (LWP.mod Z.G) ?_
    refine g_iload S1 dL_law_584 1 rfl ?_
    refine g_icmp_eq S1 591 dL_law_586 (by decide) (fun _ => ?_) (fun c9 => absurd ht c9)
    refine g_iload S1 dL_law_591 1 rfl ?_
    refine g_if_ne S1 608 dL_law_593 (by decide) (fun _ => ?_) (fun c9 => absurd c9 (by decide))
    refine g_goto S1 1691 dL_law_608 (by decide) ?_
    exact g_sub [2, 3, 4, 5, 6, 7] rfl (k9 _ _ _ _ hI1)
set_option maxRecDepth 100000 in
set_option maxHeartbeats 4000000 in
theorem lc_6 {X : Cx} {b L : Nat} {xs : Nat → Int32} {cD : ClassId} (Z : LX X b L xs cD) {Inv : Mem → Mem → Prop} (hs : Sim6 Inv) (i : Nat) (hi : i + 4 ≤ L) {Mc Mm : Mem} {vo : Nat → Int64} {vd : Nat → UInt64} (hI : Inv Mc Mm) (c s : Nat) (hc : c + 1 ≤ 601024) (hs9 : s + 6 ≤ 7293034) (k9 : ∀ Mc1 Mm1 vo1 vd1, Inv Mc1 Mm1 → AG (setX X (c + 1) (s + 6)) 1691 [(0, .ref b), (1, .ref (hY X.2.1.2 + 0)), (2, .ref (hY X.2.1.2 + 281 + 0)), (3, .ref (hY X.2.1.2 + 295)), (4, .ref (hY X.2.1.2 + 296)), (5, .int (nI i))] [] (LWP X.2.1.2 cD Mc1 Mm1 vo1 vd1)) : AG (setX X c s) 611 [(0, .ref b), (1, .ref (hY X.2.1.2 + 0)), (2, .ref (hY X.2.1.2 + 281 + 0)), (3, .ref (hY X.2.1.2 + 295)), (4, .ref (hY X.2.1.2 + 296)), (5, .int (nI i))] [] (LWP X.2.1.2 cD Mc Mm vo vd) := by
  have S0 := Z.1 c s (by omega) (by omega)
  have S1 := Z.1 (c + 1) (s + 6) hc hs9
  have hL := Z.2.2.2.2.2.1
  refine g_aload_n S0 dL_law_611 1 rfl ?_
  refine g_aload_n S0 dL_law_612 0 rfl ?_
  refine g_iload S0 dL_law_613 5 rfl ?_
  refine g_iconst S0 (1 : Int32) dL_law_615 rfl ?_
  refine g_iadd S0 dL_law_616 ?_
  refine g_sld Z S0 (i + 1) (show nI i + nI 1 = nI (i + 1) from nI_add i 1) (by omega) dL_law_617 ?_
  refine g_aload_n S0 dL_law_618 0 rfl ?_
  refine g_iload S0 dL_law_619 5 rfl ?_
  refine g_iconst S0 (2 : Int32) dL_law_621 rfl ?_
  refine g_iadd S0 dL_law_622 ?_
  refine g_sld Z S0 (i + 2) (show nI i + nI 2 = nI (i + 2) from nI_add i 2) (by omega) dL_law_623 ?_
  refine g_aload_n S0 dL_law_624 0 rfl ?_
  refine g_iload S0 dL_law_625 5 rfl ?_
  refine g_iconst S0 (3 : Int32) dL_law_627 rfl ?_
  refine g_iadd S0 dL_law_628 ?_
  refine g_sld Z S0 (i + 3) (show nI i + nI 3 = nI (i + 3) from nI_add i 3) (by omega) dL_law_629 ?_
  refine g_if_eq S0 637 dL_law_630 (by decide) (fun cb => ?_) (fun cb => ?_)
  · refine g_iconst S0 (0 : Int32) dL_law_637 rfl ?_
    refine g_aload_n S0 dL_law_638 3 rfl ?_
    obtain ⟨res, Mc1, r, Mm1, h1, h2, hI1, hcase⟩ := hs Mc Mm (xs (i + 1)) (xs (i + 2)) (0 : Int32) hI
    rcases hcase with ⟨v, rfl, ht, rfl⟩ | ⟨rfl, ht⟩
    · refine gw Z S0 (c_LW_between _ Z.2.2.2.2.2.2.2.2.2.2.2.1 _ Z.G (hY X.2.1.2 + 295) (fun z => by have := AYC Z.G z; omega) (xs (i + 1)) (xs (i + 2)) (0 : Int32) X.2.1.2.2.1.2.1 vo Mc _ Mc1 h1 0 (.inl (X.2.1.2.2.1.2.1, 1, .inr (.inl (vp_updL vo 0 r.toInt64)))) (fun z hz => by cases hz; exact ⟨rfl, rfl⟩) (fun k hk => by cases hk)) (Nat.le_add_right _ _) (Z.K.sub [1] rfl) (fun H h => ⟨h.1, h.2.2.1⟩) wdL_between q_1268 (Nat.le_of_ble_eq_true rfl) hc hs9 rfl (Nat.le_of_ble_eq_true rfl) dL_law_639 (LWP.wrL Z.G) ?_
      refine g_istore (lv2 := [(6, .int (0 : Int32)), (0, .ref b), (1, .ref (hY X.2.1.2 + 0)), (2, .ref (hY X.2.1.2 + 281 + 0)), (3, .ref (hY X.2.1.2 + 295)), (4, .ref (hY X.2.1.2 + 296)), (5, .int (nI i))]) S1 dL_law_642 (by decide) rfl ?_
      refine g_aload_n S1 dL_law_644 3 rfl ?_
      refine g_aload_n S1 dL_law_645 1 rfl ?_
      refine g_iload S1 dL_law_646 6 rfl ?_
      refine g_iconst S1 (1 : Int32) dL_law_648 rfl ?_
      refine g_iadd S1 dL_law_649 ?_
      refine g_sld Z S1 (i + 1) (show nI i + nI 1 = nI (i + 1) from nI_add i 1) (by omega) dL_law_650 ?_
      refine g_aload_n S1 dL_law_651 1 rfl ?_
      refine g_iload S1 dL_law_652 6 rfl ?_
      refine g_iconst S1 (2 : Int32) dL_law_654 rfl ?_
      refine g_iadd S1 dL_law_655 ?_
      refine g_sld Z S1 (i + 2) (show nI i + nI 2 = nI (i + 2) from nI_add i 2) (by omega) dL_law_656 ?_
      refine g_aload_n S1 dL_law_657 1 rfl ?_
      refine g_iload S1 dL_law_658 6 rfl ?_
      refine g_iconst S1 (3 : Int32) dL_law_660 rfl ?_
      refine g_iadd S1 dL_law_661 ?_
      refine g_sld Z S1 (i + 3) (show nI i + nI 3 = nI (i + 3) from nI_add i 3) (by omega) dL_law_662 ?_
      refine g_if_eq S1 670 dL_law_663 (by decide) (fun _ => ?_) (fun c9 => absurd cb c9)
      refine g_iconst S1 (0 : Int32) dL_law_670 rfl ?_
      refine gc_I S1 Z.aM (gn_V S1 (Y := YM X.2.1.2) (G2 := gM) rfl Z.K (fun H h => h.2.1) fc8 (by decide) (c_MD_between _ (YM X.2.1.2) rfl (xs (i + 1)) (xs (i + 2)) (0 : Int32) Mm _ _ h2) wdX8_between q_1269 ⟨Nat.le_of_ble_eq_true rfl, Nat.le_of_ble_eq_true rfl⟩ ⟨by rw [← Z.2.2.2.2.2.2.2.2.2.2.2.2.1]; omega, by rw [← Z.2.2.2.2.2.2.2.2.2.2.2.2.2]; omega⟩ rfl (Nat.le_of_ble_eq_true rfl) dL_law_671) (LWP.mod Z.G) ?_
      refine g_istore (lv2 := [(7, .int r), (6, .int (0 : Int32)), (0, .ref b), (1, .ref (hY X.2.1.2 + 0)), (2, .ref (hY X.2.1.2 + 281 + 0)), (3, .ref (hY X.2.1.2 + 295)), (4, .ref (hY X.2.1.2 + 296)), (5, .int (nI i))]) S1 dL_law_674 (by decide) rfl ?_
      refine g_aload_n S1 dL_law_676 4 rfl ?_
      refine gc_I S1 Z.aM (gn_V S1 (Y := YM X.2.1.2) (G2 := gM) rfl Z.K (fun H h => h.2.1) fc8 (by decide) (c_MD_thrown _ (YM X.2.1.2) rfl Mm1 _ rfl) wdX8_thrown q_1233 ⟨Nat.le_of_ble_eq_true rfl, Nat.le_of_ble_eq_true rfl⟩ ⟨by rw [← Z.2.2.2.2.2.2.2.2.2.2.2.2.1]; omega, by rw [← Z.2.2.2.2.2.2.2.2.2.2.2.2.2]; omega⟩ rfl (Nat.le_of_ble_eq_true rfl) dL_law_677) (LWP.mod Z.G) ?_
      refine g_iload S1 dL_law_680 1 rfl ?_
      refine g_icmp_eq S1 687 dL_law_682 (by decide) (fun _ => ?_) (fun c9 => absurd ht c9)
      refine g_iload S1 dL_law_687 1 rfl ?_
      refine g_if_ne S1 704 dL_law_689 (by decide) (fun c9 => absurd rfl c9) (fun _ => ?_)
      refine g_aload_n S1 dL_law_692 5 rfl ?_
      refine g_iconst S1 (0 : Int32) dL_law_693 rfl ?_
      refine g_lldE S1 (fun H h => h.2.2.1) (Z.K.sub [1] rfl) (by decide) dL_law_694 ?_
      refine g_iload S1 dL_law_695 0 rfl ?_
      refine g_i2l S1 dL_law_697 ?_
      refine g_lcmp_eq S1 704 dL_law_698 dL_law_699 (by decide) (fun _ => ?_) (fun c9 => absurd (by first | rfl | exact heq) c9)
      refine g_goto S1 1691 dL_law_704 (by decide) ?_
      exact g_sub [2, 3, 4, 5, 6, 7] rfl (k9 _ _ _ _ hI1)
    · refine gw Z S0 (c_LW_between _ Z.2.2.2.2.2.2.2.2.2.2.2.1 _ Z.G (hY X.2.1.2 + 295) (fun z => by have := AYC Z.G z; omega) (xs (i + 1)) (xs (i + 2)) (0 : Int32) X.2.1.2.2.1.2.1 vo Mc _ Mc1 h1 1 (.inl (X.2.1.2.2.1.2.1, 1, .inr (.inl vo))) (fun z hz => by cases hz) (fun k hk => by cases hk; exact ⟨rfl, rfl, rfl⟩)) (Nat.le_add_right _ _) (Z.K.sub [1] rfl) (fun H h => ⟨h.1, h.2.2.1⟩) wdL_between q_1268 (Nat.le_of_ble_eq_true rfl) hc hs9 rfl (Nat.le_of_ble_eq_true rfl) dL_law_639 (LWP.wrL Z.G) ?_
      refine g_istore (lv2 := [(6, .int (1 : Int32)), (0, .ref b), (1, .ref (hY X.2.1.2 + 0)), (2, .ref (hY X.2.1.2 + 281 + 0)), (3, .ref (hY X.2.1.2 + 295)), (4, .ref (hY X.2.1.2 + 296)), (5, .int (nI i))]) S1 dL_law_642 (by decide) rfl ?_
      refine g_aload_n S1 dL_law_644 3 rfl ?_
      refine g_aload_n S1 dL_law_645 1 rfl ?_
      refine g_iload S1 dL_law_646 6 rfl ?_
      refine g_iconst S1 (1 : Int32) dL_law_648 rfl ?_
      refine g_iadd S1 dL_law_649 ?_
      refine g_sld Z S1 (i + 1) (show nI i + nI 1 = nI (i + 1) from nI_add i 1) (by omega) dL_law_650 ?_
      refine g_aload_n S1 dL_law_651 1 rfl ?_
      refine g_iload S1 dL_law_652 6 rfl ?_
      refine g_iconst S1 (2 : Int32) dL_law_654 rfl ?_
      refine g_iadd S1 dL_law_655 ?_
      refine g_sld Z S1 (i + 2) (show nI i + nI 2 = nI (i + 2) from nI_add i 2) (by omega) dL_law_656 ?_
      refine g_aload_n S1 dL_law_657 1 rfl ?_
      refine g_iload S1 dL_law_658 6 rfl ?_
      refine g_iconst S1 (3 : Int32) dL_law_660 rfl ?_
      refine g_iadd S1 dL_law_661 ?_
      refine g_sld Z S1 (i + 3) (show nI i + nI 3 = nI (i + 3) from nI_add i 3) (by omega) dL_law_662 ?_
      refine g_if_eq S1 670 dL_law_663 (by decide) (fun _ => ?_) (fun c9 => absurd cb c9)
      refine g_iconst S1 (0 : Int32) dL_law_670 rfl ?_
      refine gc_I S1 Z.aM (gn_V S1 (Y := YM X.2.1.2) (G2 := gM) rfl Z.K (fun H h => h.2.1) fc8 (by decide) (c_MD_between _ (YM X.2.1.2) rfl (xs (i + 1)) (xs (i + 2)) (0 : Int32) Mm _ _ h2) wdX8_between q_1269 ⟨Nat.le_of_ble_eq_true rfl, Nat.le_of_ble_eq_true rfl⟩ ⟨by rw [← Z.2.2.2.2.2.2.2.2.2.2.2.2.1]; omega, by rw [← Z.2.2.2.2.2.2.2.2.2.2.2.2.2]; omega⟩ rfl (Nat.le_of_ble_eq_true rfl) dL_law_671) (LWP.mod Z.G) ?_
      refine g_istore (lv2 := [(7, .int r), (6, .int (1 : Int32)), (0, .ref b), (1, .ref (hY X.2.1.2 + 0)), (2, .ref (hY X.2.1.2 + 281 + 0)), (3, .ref (hY X.2.1.2 + 295)), (4, .ref (hY X.2.1.2 + 296)), (5, .int (nI i))]) S1 dL_law_674 (by decide) rfl ?_
      refine g_aload_n S1 dL_law_676 4 rfl ?_
      refine gc_I S1 Z.aM (gn_V S1 (Y := YM X.2.1.2) (G2 := gM) rfl Z.K (fun H h => h.2.1) fc8 (by decide) (c_MD_thrown _ (YM X.2.1.2) rfl Mm1 _ rfl) wdX8_thrown q_1233 ⟨Nat.le_of_ble_eq_true rfl, Nat.le_of_ble_eq_true rfl⟩ ⟨by rw [← Z.2.2.2.2.2.2.2.2.2.2.2.2.1]; omega, by rw [← Z.2.2.2.2.2.2.2.2.2.2.2.2.2]; omega⟩ rfl (Nat.le_of_ble_eq_true rfl) dL_law_677) (LWP.mod Z.G) ?_
      refine g_iload S1 dL_law_680 1 rfl ?_
      refine g_icmp_eq S1 687 dL_law_682 (by decide) (fun _ => ?_) (fun c9 => absurd ht c9)
      refine g_iload S1 dL_law_687 1 rfl ?_
      refine g_if_ne S1 704 dL_law_689 (by decide) (fun _ => ?_) (fun c9 => absurd c9 (by decide))
      refine g_goto S1 1691 dL_law_704 (by decide) ?_
      exact g_sub [2, 3, 4, 5, 6, 7] rfl (k9 _ _ _ _ hI1)
  · refine g_iconst S0 (1 : Int32) dL_law_633 rfl ?_
    refine g_goto S0 638 dL_law_634 (by decide) ?_
    refine g_aload_n S0 dL_law_638 3 rfl ?_
    obtain ⟨res, Mc1, r, Mm1, h1, h2, hI1, hcase⟩ := hs Mc Mm (xs (i + 1)) (xs (i + 2)) (1 : Int32) hI
    rcases hcase with ⟨v, rfl, ht, rfl⟩ | ⟨rfl, ht⟩
    · refine gw Z S0 (c_LW_between _ Z.2.2.2.2.2.2.2.2.2.2.2.1 _ Z.G (hY X.2.1.2 + 295) (fun z => by have := AYC Z.G z; omega) (xs (i + 1)) (xs (i + 2)) (1 : Int32) X.2.1.2.2.1.2.1 vo Mc _ Mc1 h1 0 (.inl (X.2.1.2.2.1.2.1, 1, .inr (.inl (vp_updL vo 0 r.toInt64)))) (fun z hz => by cases hz; exact ⟨rfl, rfl⟩) (fun k hk => by cases hk)) (Nat.le_add_right _ _) (Z.K.sub [1] rfl) (fun H h => ⟨h.1, h.2.2.1⟩) wdL_between q_1268 (Nat.le_of_ble_eq_true rfl) hc hs9 rfl (Nat.le_of_ble_eq_true rfl) dL_law_639 (LWP.wrL Z.G) ?_
      refine g_istore (lv2 := [(6, .int (0 : Int32)), (0, .ref b), (1, .ref (hY X.2.1.2 + 0)), (2, .ref (hY X.2.1.2 + 281 + 0)), (3, .ref (hY X.2.1.2 + 295)), (4, .ref (hY X.2.1.2 + 296)), (5, .int (nI i))]) S1 dL_law_642 (by decide) rfl ?_
      refine g_aload_n S1 dL_law_644 3 rfl ?_
      refine g_aload_n S1 dL_law_645 1 rfl ?_
      refine g_iload S1 dL_law_646 6 rfl ?_
      refine g_iconst S1 (1 : Int32) dL_law_648 rfl ?_
      refine g_iadd S1 dL_law_649 ?_
      refine g_sld Z S1 (i + 1) (show nI i + nI 1 = nI (i + 1) from nI_add i 1) (by omega) dL_law_650 ?_
      refine g_aload_n S1 dL_law_651 1 rfl ?_
      refine g_iload S1 dL_law_652 6 rfl ?_
      refine g_iconst S1 (2 : Int32) dL_law_654 rfl ?_
      refine g_iadd S1 dL_law_655 ?_
      refine g_sld Z S1 (i + 2) (show nI i + nI 2 = nI (i + 2) from nI_add i 2) (by omega) dL_law_656 ?_
      refine g_aload_n S1 dL_law_657 1 rfl ?_
      refine g_iload S1 dL_law_658 6 rfl ?_
      refine g_iconst S1 (3 : Int32) dL_law_660 rfl ?_
      refine g_iadd S1 dL_law_661 ?_
      refine g_sld Z S1 (i + 3) (show nI i + nI 3 = nI (i + 3) from nI_add i 3) (by omega) dL_law_662 ?_
      refine g_if_eq S1 670 dL_law_663 (by decide) (fun c9 => absurd c9 cb) (fun _ => ?_)
      refine g_iconst S1 (1 : Int32) dL_law_666 rfl ?_
      refine g_goto S1 671 dL_law_667 (by decide) ?_
      refine gc_I S1 Z.aM (gn_V S1 (Y := YM X.2.1.2) (G2 := gM) rfl Z.K (fun H h => h.2.1) fc8 (by decide) (c_MD_between _ (YM X.2.1.2) rfl (xs (i + 1)) (xs (i + 2)) (1 : Int32) Mm _ _ h2) wdX8_between q_1269 ⟨Nat.le_of_ble_eq_true rfl, Nat.le_of_ble_eq_true rfl⟩ ⟨by rw [← Z.2.2.2.2.2.2.2.2.2.2.2.2.1]; omega, by rw [← Z.2.2.2.2.2.2.2.2.2.2.2.2.2]; omega⟩ rfl (Nat.le_of_ble_eq_true rfl) dL_law_671) (LWP.mod Z.G) ?_
      refine g_istore (lv2 := [(7, .int r), (6, .int (0 : Int32)), (0, .ref b), (1, .ref (hY X.2.1.2 + 0)), (2, .ref (hY X.2.1.2 + 281 + 0)), (3, .ref (hY X.2.1.2 + 295)), (4, .ref (hY X.2.1.2 + 296)), (5, .int (nI i))]) S1 dL_law_674 (by decide) rfl ?_
      refine g_aload_n S1 dL_law_676 4 rfl ?_
      refine gc_I S1 Z.aM (gn_V S1 (Y := YM X.2.1.2) (G2 := gM) rfl Z.K (fun H h => h.2.1) fc8 (by decide) (c_MD_thrown _ (YM X.2.1.2) rfl Mm1 _ rfl) wdX8_thrown q_1233 ⟨Nat.le_of_ble_eq_true rfl, Nat.le_of_ble_eq_true rfl⟩ ⟨by rw [← Z.2.2.2.2.2.2.2.2.2.2.2.2.1]; omega, by rw [← Z.2.2.2.2.2.2.2.2.2.2.2.2.2]; omega⟩ rfl (Nat.le_of_ble_eq_true rfl) dL_law_677) (LWP.mod Z.G) ?_
      refine g_iload S1 dL_law_680 1 rfl ?_
      refine g_icmp_eq S1 687 dL_law_682 (by decide) (fun _ => ?_) (fun c9 => absurd ht c9)
      refine g_iload S1 dL_law_687 1 rfl ?_
      refine g_if_ne S1 704 dL_law_689 (by decide) (fun c9 => absurd rfl c9) (fun _ => ?_)
      refine g_aload_n S1 dL_law_692 5 rfl ?_
      refine g_iconst S1 (0 : Int32) dL_law_693 rfl ?_
      refine g_lldE S1 (fun H h => h.2.2.1) (Z.K.sub [1] rfl) (by decide) dL_law_694 ?_
      refine g_iload S1 dL_law_695 0 rfl ?_
      refine g_i2l S1 dL_law_697 ?_
      refine g_lcmp_eq S1 704 dL_law_698 dL_law_699 (by decide) (fun _ => ?_) (fun c9 => absurd (by first | rfl | exact heq) c9)
      refine g_goto S1 1691 dL_law_704 (by decide) ?_
      exact g_sub [2, 3, 4, 5, 6, 7] rfl (k9 _ _ _ _ hI1)
    · refine gw Z S0 (c_LW_between _ Z.2.2.2.2.2.2.2.2.2.2.2.1 _ Z.G (hY X.2.1.2 + 295) (fun z => by have := AYC Z.G z; omega) (xs (i + 1)) (xs (i + 2)) (1 : Int32) X.2.1.2.2.1.2.1 vo Mc _ Mc1 h1 1 (.inl (X.2.1.2.2.1.2.1, 1, .inr (.inl vo))) (fun z hz => by cases hz) (fun k hk => by cases hk; exact ⟨rfl, rfl, rfl⟩)) (Nat.le_add_right _ _) (Z.K.sub [1] rfl) (fun H h => ⟨h.1, h.2.2.1⟩) wdL_between q_1268 (Nat.le_of_ble_eq_true rfl) hc hs9 rfl (Nat.le_of_ble_eq_true rfl) dL_law_639 (LWP.wrL Z.G) ?_
      refine g_istore (lv2 := [(6, .int (1 : Int32)), (0, .ref b), (1, .ref (hY X.2.1.2 + 0)), (2, .ref (hY X.2.1.2 + 281 + 0)), (3, .ref (hY X.2.1.2 + 295)), (4, .ref (hY X.2.1.2 + 296)), (5, .int (nI i))]) S1 dL_law_642 (by decide) rfl ?_
      refine g_aload_n S1 dL_law_644 3 rfl ?_
      refine g_aload_n S1 dL_law_645 1 rfl ?_
      refine g_iload S1 dL_law_646 6 rfl ?_
      refine g_iconst S1 (1 : Int32) dL_law_648 rfl ?_
      refine g_iadd S1 dL_law_649 ?_
      refine g_sld Z S1 (i + 1) (show nI i + nI 1 = nI (i + 1) from nI_add i 1) (by omega) dL_law_650 ?_
      refine g_aload_n S1 dL_law_651 1 rfl ?_
      refine g_iload S1 dL_law_652 6 rfl ?_
      refine g_iconst S1 (2 : Int32) dL_law_654 rfl ?_
      refine g_iadd S1 dL_law_655 ?_
      refine g_sld Z S1 (i + 2) (show nI i + nI 2 = nI (i + 2) from nI_add i 2) (by omega) dL_law_656 ?_
      refine g_aload_n S1 dL_law_657 1 rfl ?_
      refine g_iload S1 dL_law_658 6 rfl ?_
      refine g_iconst S1 (3 : Int32) dL_law_660 rfl ?_
      refine g_iadd S1 dL_law_661 ?_
      refine g_sld Z S1 (i + 3) (show nI i + nI 3 = nI (i + 3) from nI_add i 3) (by omega) dL_law_662 ?_
      refine g_if_eq S1 670 dL_law_663 (by decide) (fun c9 => absurd c9 cb) (fun _ => ?_)
      refine g_iconst S1 (1 : Int32) dL_law_666 rfl ?_
      refine g_goto S1 671 dL_law_667 (by decide) ?_
      refine gc_I S1 Z.aM (gn_V S1 (Y := YM X.2.1.2) (G2 := gM) rfl Z.K (fun H h => h.2.1) fc8 (by decide) (c_MD_between _ (YM X.2.1.2) rfl (xs (i + 1)) (xs (i + 2)) (1 : Int32) Mm _ _ h2) wdX8_between q_1269 ⟨Nat.le_of_ble_eq_true rfl, Nat.le_of_ble_eq_true rfl⟩ ⟨by rw [← Z.2.2.2.2.2.2.2.2.2.2.2.2.1]; omega, by rw [← Z.2.2.2.2.2.2.2.2.2.2.2.2.2]; omega⟩ rfl (Nat.le_of_ble_eq_true rfl) dL_law_671) (LWP.mod Z.G) ?_
      refine g_istore (lv2 := [(7, .int r), (6, .int (1 : Int32)), (0, .ref b), (1, .ref (hY X.2.1.2 + 0)), (2, .ref (hY X.2.1.2 + 281 + 0)), (3, .ref (hY X.2.1.2 + 295)), (4, .ref (hY X.2.1.2 + 296)), (5, .int (nI i))]) S1 dL_law_674 (by decide) rfl ?_
      refine g_aload_n S1 dL_law_676 4 rfl ?_
      refine gc_I S1 Z.aM (gn_V S1 (Y := YM X.2.1.2) (G2 := gM) rfl Z.K (fun H h => h.2.1) fc8 (by decide) (c_MD_thrown _ (YM X.2.1.2) rfl Mm1 _ rfl) wdX8_thrown q_1233 ⟨Nat.le_of_ble_eq_true rfl, Nat.le_of_ble_eq_true rfl⟩ ⟨by rw [← Z.2.2.2.2.2.2.2.2.2.2.2.2.1]; omega, by rw [← Z.2.2.2.2.2.2.2.2.2.2.2.2.2]; omega⟩ rfl (Nat.le_of_ble_eq_true rfl) dL_law_677) (LWP.mod Z.G) ?_
      refine g_iload S1 dL_law_680 1 rfl ?_
      refine g_icmp_eq S1 687 dL_law_682 (by decide) (fun _ => ?_) (fun c9 => absurd ht c9)
      refine g_iload S1 dL_law_687 1 rfl ?_
      refine g_if_ne S1 704 dL_law_689 (by decide) (fun _ => ?_) (fun c9 => absurd c9 (by decide))
      refine g_goto S1 1691 dL_law_704 (by decide) ?_
      exact g_sub [2, 3, 4, 5, 6, 7] rfl (k9 _ _ _ _ hI1)
set_option maxRecDepth 100000 in
set_option maxHeartbeats 4000000 in
theorem lc_7 {X : Cx} {b L : Nat} {xs : Nat → Int32} {cD : ClassId} (Z : LX X b L xs cD) {Inv : Mem → Mem → Prop} (hs : Sim7 Inv) (i : Nat) (hi : i + 4 ≤ L) {Mc Mm : Mem} {vo : Nat → Int64} {vd : Nat → UInt64} (hI : Inv Mc Mm) (c s : Nat) (hc : c + 1 ≤ 601024) (hs9 : s + 6 ≤ 7293034) (k9 : ∀ Mc1 Mm1 vo1 vd1, Inv Mc1 Mm1 → AG (setX X (c + 1) (s + 6)) 1691 [(0, .ref b), (1, .ref (hY X.2.1.2 + 0)), (2, .ref (hY X.2.1.2 + 281 + 0)), (3, .ref (hY X.2.1.2 + 295)), (4, .ref (hY X.2.1.2 + 296)), (5, .int (nI i))] [] (LWP X.2.1.2 cD Mc1 Mm1 vo1 vd1)) : AG (setX X c s) 707 [(0, .ref b), (1, .ref (hY X.2.1.2 + 0)), (2, .ref (hY X.2.1.2 + 281 + 0)), (3, .ref (hY X.2.1.2 + 295)), (4, .ref (hY X.2.1.2 + 296)), (5, .int (nI i))] [] (LWP X.2.1.2 cD Mc Mm vo vd) := by
  have S0 := Z.1 c s (by omega) (by omega)
  have S1 := Z.1 (c + 1) (s + 6) hc hs9
  have hL := Z.2.2.2.2.2.1
  refine g_aload_n S0 dL_law_707 1 rfl ?_
  refine g_aload_n S0 dL_law_708 0 rfl ?_
  refine g_iload S0 dL_law_709 5 rfl ?_
  refine g_iconst S0 (1 : Int32) dL_law_711 rfl ?_
  refine g_iadd S0 dL_law_712 ?_
  refine g_sld Z S0 (i + 1) (show nI i + nI 1 = nI (i + 1) from nI_add i 1) (by omega) dL_law_713 ?_
  refine g_aload_n S0 dL_law_714 3 rfl ?_
  obtain ⟨res, Mc1, r, Mm1, h1, h2, hI1, hcase⟩ := hs Mc Mm (xs (i + 1)) hI
  rcases hcase with ⟨v, rfl, ht, rfl⟩ | ⟨rfl, ht⟩
  · refine gw Z S0 (c_LW_count _ Z.2.2.2.2.2.2.2.2.2.2.2.1 _ Z.G (hY X.2.1.2 + 295) (fun z => by have := AYC Z.G z; omega) (xs (i + 1)) X.2.1.2.2.1.2.1 vo Mc _ Mc1 h1 0 (.inl (X.2.1.2.2.1.2.1, 1, .inr (.inl (vp_updL vo 0 r.toInt64)))) (fun z hz => by cases hz; exact ⟨rfl, rfl⟩) (fun k hk => by cases hk)) (Nat.le_add_right _ _) (Z.K.sub [1] rfl) (fun H h => ⟨h.1, h.2.2.1⟩) wdL_count q_1274 (Nat.le_of_ble_eq_true rfl) hc hs9 rfl (Nat.le_of_ble_eq_true rfl) dL_law_715 (LWP.wrL Z.G) ?_
    refine g_istore (lv2 := [(6, .int (0 : Int32)), (0, .ref b), (1, .ref (hY X.2.1.2 + 0)), (2, .ref (hY X.2.1.2 + 281 + 0)), (3, .ref (hY X.2.1.2 + 295)), (4, .ref (hY X.2.1.2 + 296)), (5, .int (nI i))]) S1 dL_law_718 (by decide) rfl ?_
    refine g_aload_n S1 dL_law_720 3 rfl ?_
    refine g_aload_n S1 dL_law_721 1 rfl ?_
    refine g_iload S1 dL_law_722 6 rfl ?_
    refine g_iconst S1 (1 : Int32) dL_law_724 rfl ?_
    refine g_iadd S1 dL_law_725 ?_
    refine g_sld Z S1 (i + 1) (show nI i + nI 1 = nI (i + 1) from nI_add i 1) (by omega) dL_law_726 ?_
    refine gc_I S1 Z.aM (gn_V S1 (Y := YM X.2.1.2) (G2 := gM) rfl Z.K (fun H h => h.2.1) fc8 (by decide) (c_MD_count _ (YM X.2.1.2) rfl (xs (i + 1)) Mm _ _ h2) wdX8_count q_1275 ⟨Nat.le_of_ble_eq_true rfl, Nat.le_of_ble_eq_true rfl⟩ ⟨by rw [← Z.2.2.2.2.2.2.2.2.2.2.2.2.1]; omega, by rw [← Z.2.2.2.2.2.2.2.2.2.2.2.2.2]; omega⟩ rfl (Nat.le_of_ble_eq_true rfl) dL_law_727) (LWP.mod Z.G) ?_
    refine g_istore (lv2 := [(7, .int r), (6, .int (0 : Int32)), (0, .ref b), (1, .ref (hY X.2.1.2 + 0)), (2, .ref (hY X.2.1.2 + 281 + 0)), (3, .ref (hY X.2.1.2 + 295)), (4, .ref (hY X.2.1.2 + 296)), (5, .int (nI i))]) S1 dL_law_730 (by decide) rfl ?_
    refine g_aload_n S1 dL_law_732 4 rfl ?_
    refine gc_I S1 Z.aM (gn_V S1 (Y := YM X.2.1.2) (G2 := gM) rfl Z.K (fun H h => h.2.1) fc8 (by decide) (c_MD_thrown _ (YM X.2.1.2) rfl Mm1 _ rfl) wdX8_thrown q_1233 ⟨Nat.le_of_ble_eq_true rfl, Nat.le_of_ble_eq_true rfl⟩ ⟨by rw [← Z.2.2.2.2.2.2.2.2.2.2.2.2.1]; omega, by rw [← Z.2.2.2.2.2.2.2.2.2.2.2.2.2]; omega⟩ rfl (Nat.le_of_ble_eq_true rfl) dL_law_733) (LWP.mod Z.G) ?_
    refine g_iload S1 dL_law_736 1 rfl ?_
    refine g_icmp_eq S1 743 dL_law_738 (by decide) (fun _ => ?_) (fun c9 => absurd ht c9)
    refine g_iload S1 dL_law_743 1 rfl ?_
    refine g_if_ne S1 760 dL_law_745 (by decide) (fun c9 => absurd rfl c9) (fun _ => ?_)
    refine g_aload_n S1 dL_law_748 5 rfl ?_
    refine g_iconst S1 (0 : Int32) dL_law_749 rfl ?_
    refine g_lldE S1 (fun H h => h.2.2.1) (Z.K.sub [1] rfl) (by decide) dL_law_750 ?_
    refine g_iload S1 dL_law_751 0 rfl ?_
    refine g_i2l S1 dL_law_753 ?_
    refine g_lcmp_eq S1 760 dL_law_754 dL_law_755 (by decide) (fun _ => ?_) (fun c9 => absurd (by first | rfl | exact heq) c9)
    refine g_goto S1 1691 dL_law_760 (by decide) ?_
    exact g_sub [2, 3, 4, 5, 6, 7] rfl (k9 _ _ _ _ hI1)
  · refine gw Z S0 (c_LW_count _ Z.2.2.2.2.2.2.2.2.2.2.2.1 _ Z.G (hY X.2.1.2 + 295) (fun z => by have := AYC Z.G z; omega) (xs (i + 1)) X.2.1.2.2.1.2.1 vo Mc _ Mc1 h1 1 (.inl (X.2.1.2.2.1.2.1, 1, .inr (.inl vo))) (fun z hz => by cases hz) (fun k hk => by cases hk; exact ⟨rfl, rfl, rfl⟩)) (Nat.le_add_right _ _) (Z.K.sub [1] rfl) (fun H h => ⟨h.1, h.2.2.1⟩) wdL_count q_1274 (Nat.le_of_ble_eq_true rfl) hc hs9 rfl (Nat.le_of_ble_eq_true rfl) dL_law_715 (LWP.wrL Z.G) ?_
    refine g_istore (lv2 := [(6, .int (1 : Int32)), (0, .ref b), (1, .ref (hY X.2.1.2 + 0)), (2, .ref (hY X.2.1.2 + 281 + 0)), (3, .ref (hY X.2.1.2 + 295)), (4, .ref (hY X.2.1.2 + 296)), (5, .int (nI i))]) S1 dL_law_718 (by decide) rfl ?_
    refine g_aload_n S1 dL_law_720 3 rfl ?_
    refine g_aload_n S1 dL_law_721 1 rfl ?_
    refine g_iload S1 dL_law_722 6 rfl ?_
    refine g_iconst S1 (1 : Int32) dL_law_724 rfl ?_
    refine g_iadd S1 dL_law_725 ?_
    refine g_sld Z S1 (i + 1) (show nI i + nI 1 = nI (i + 1) from nI_add i 1) (by omega) dL_law_726 ?_
    refine gc_I S1 Z.aM (gn_V S1 (Y := YM X.2.1.2) (G2 := gM) rfl Z.K (fun H h => h.2.1) fc8 (by decide) (c_MD_count _ (YM X.2.1.2) rfl (xs (i + 1)) Mm _ _ h2) wdX8_count q_1275 ⟨Nat.le_of_ble_eq_true rfl, Nat.le_of_ble_eq_true rfl⟩ ⟨by rw [← Z.2.2.2.2.2.2.2.2.2.2.2.2.1]; omega, by rw [← Z.2.2.2.2.2.2.2.2.2.2.2.2.2]; omega⟩ rfl (Nat.le_of_ble_eq_true rfl) dL_law_727) (LWP.mod Z.G) ?_
    refine g_istore (lv2 := [(7, .int r), (6, .int (1 : Int32)), (0, .ref b), (1, .ref (hY X.2.1.2 + 0)), (2, .ref (hY X.2.1.2 + 281 + 0)), (3, .ref (hY X.2.1.2 + 295)), (4, .ref (hY X.2.1.2 + 296)), (5, .int (nI i))]) S1 dL_law_730 (by decide) rfl ?_
    refine g_aload_n S1 dL_law_732 4 rfl ?_
    refine gc_I S1 Z.aM (gn_V S1 (Y := YM X.2.1.2) (G2 := gM) rfl Z.K (fun H h => h.2.1) fc8 (by decide) (c_MD_thrown _ (YM X.2.1.2) rfl Mm1 _ rfl) wdX8_thrown q_1233 ⟨Nat.le_of_ble_eq_true rfl, Nat.le_of_ble_eq_true rfl⟩ ⟨by rw [← Z.2.2.2.2.2.2.2.2.2.2.2.2.1]; omega, by rw [← Z.2.2.2.2.2.2.2.2.2.2.2.2.2]; omega⟩ rfl (Nat.le_of_ble_eq_true rfl) dL_law_733) (LWP.mod Z.G) ?_
    refine g_iload S1 dL_law_736 1 rfl ?_
    refine g_icmp_eq S1 743 dL_law_738 (by decide) (fun _ => ?_) (fun c9 => absurd ht c9)
    refine g_iload S1 dL_law_743 1 rfl ?_
    refine g_if_ne S1 760 dL_law_745 (by decide) (fun _ => ?_) (fun c9 => absurd c9 (by decide))
    refine g_goto S1 1691 dL_law_760 (by decide) ?_
    exact g_sub [2, 3, 4, 5, 6, 7] rfl (k9 _ _ _ _ hI1)
set_option maxRecDepth 100000 in
set_option maxHeartbeats 4000000 in
theorem lc_8 {X : Cx} {b L : Nat} {xs : Nat → Int32} {cD : ClassId} (Z : LX X b L xs cD) {Inv : Mem → Mem → Prop} (hs : Sim8 Inv) (i : Nat) (hi : i + 4 ≤ L) {Mc Mm : Mem} {vo : Nat → Int64} {vd : Nat → UInt64} (hI : Inv Mc Mm) (c s : Nat) (hc : c + 3 ≤ 601024) (hs9 : s + 18 ≤ 7293034) (k9 : ∀ Mc1 Mm1 vo1 vd1, Inv Mc1 Mm1 → AG (setX X (c + 3) (s + 18)) 1691 [(0, .ref b), (1, .ref (hY X.2.1.2 + 0)), (2, .ref (hY X.2.1.2 + 281 + 0)), (3, .ref (hY X.2.1.2 + 295)), (4, .ref (hY X.2.1.2 + 296)), (5, .int (nI i))] [] (LWP X.2.1.2 cD Mc1 Mm1 vo1 vd1)) : AG (setX X c s) 763 [(0, .ref b), (1, .ref (hY X.2.1.2 + 0)), (2, .ref (hY X.2.1.2 + 281 + 0)), (3, .ref (hY X.2.1.2 + 295)), (4, .ref (hY X.2.1.2 + 296)), (5, .int (nI i))] [] (LWP X.2.1.2 cD Mc Mm vo vd) := by
  have S0 := Z.1 c s (by omega) (by omega)
  have S1 := Z.1 (c + 3) (s + 18) hc hs9
  have hL := Z.2.2.2.2.2.1
  refine g_aload_n S0 dL_law_763 1 rfl ?_
  refine g_aload_n S0 dL_law_764 0 rfl ?_
  refine g_iload S0 dL_law_765 5 rfl ?_
  refine g_iconst S0 (1 : Int32) dL_law_767 rfl ?_
  refine g_iadd S0 dL_law_768 ?_
  refine g_sld Z S0 (i + 1) (show nI i + nI 1 = nI (i + 1) from nI_add i 1) (by omega) dL_law_769 ?_
  refine g_aload_n S0 dL_law_770 0 rfl ?_
  refine g_iload S0 dL_law_771 5 rfl ?_
  refine g_iconst S0 (2 : Int32) dL_law_773 rfl ?_
  refine g_iadd S0 dL_law_774 ?_
  refine g_sld Z S0 (i + 2) (show nI i + nI 2 = nI (i + 2) from nI_add i 2) (by omega) dL_law_775 ?_
  refine g_aload_n S0 dL_law_776 3 rfl ?_
  obtain ⟨res, Mc1, r, Mm1, h1, h2, hI1, hcase⟩ := hs Mc Mm (xs (i + 1)) (xs (i + 2)) hI
  rcases hcase with ⟨v, rfl, ht, rfl⟩ | ⟨rfl, ht⟩ | ⟨rfl, ht⟩ | ⟨rfl, ht⟩
  · refine gw Z S0 (c_LW_pour _ Z.2.2.2.2.2.2.2.2.2.2.2.1 _ Z.G (hY X.2.1.2 + 295) (fun z => by have := AYC Z.G z; omega) (xs (i + 1)) (xs (i + 2)) X.2.1.2.2.1.2.1 vo Mc _ Mc1 h1 0 (.inl (X.2.1.2.2.1.2.1, 1, .inr (.inl (vp_updL vo 0 r.toInt64)))) (fun z hz => by cases hz; exact ⟨rfl, rfl⟩) (fun k hk => by cases hk)) (Nat.le_add_right _ _) (Z.K.sub [1] rfl) (fun H h => ⟨h.1, h.2.2.1⟩) wdL_pour q_1280 (Nat.le_of_ble_eq_true rfl) hc hs9 rfl (Nat.le_of_ble_eq_true rfl) dL_law_777 (LWP.wrL Z.G) ?_
    refine g_istore (lv2 := [(6, .int (0 : Int32)), (0, .ref b), (1, .ref (hY X.2.1.2 + 0)), (2, .ref (hY X.2.1.2 + 281 + 0)), (3, .ref (hY X.2.1.2 + 295)), (4, .ref (hY X.2.1.2 + 296)), (5, .int (nI i))]) S1 dL_law_780 (by decide) rfl ?_
    refine g_aload_n S1 dL_law_782 3 rfl ?_
    refine g_aload_n S1 dL_law_783 1 rfl ?_
    refine g_iload S1 dL_law_784 6 rfl ?_
    refine g_iconst S1 (1 : Int32) dL_law_786 rfl ?_
    refine g_iadd S1 dL_law_787 ?_
    refine g_sld Z S1 (i + 1) (show nI i + nI 1 = nI (i + 1) from nI_add i 1) (by omega) dL_law_788 ?_
    refine g_aload_n S1 dL_law_789 1 rfl ?_
    refine g_iload S1 dL_law_790 6 rfl ?_
    refine g_iconst S1 (2 : Int32) dL_law_792 rfl ?_
    refine g_iadd S1 dL_law_793 ?_
    refine g_sld Z S1 (i + 2) (show nI i + nI 2 = nI (i + 2) from nI_add i 2) (by omega) dL_law_794 ?_
    refine gc_I S1 Z.aM (gn_V S1 (Y := YM X.2.1.2) (G2 := gM) rfl Z.K (fun H h => h.2.1) fc8 (by decide) (c_MD_pour _ (YM X.2.1.2) rfl (xs (i + 1)) (xs (i + 2)) Mm _ _ h2) wdX8_pour q_1281 ⟨Nat.le_of_ble_eq_true rfl, Nat.le_of_ble_eq_true rfl⟩ ⟨by rw [← Z.2.2.2.2.2.2.2.2.2.2.2.2.1]; omega, by rw [← Z.2.2.2.2.2.2.2.2.2.2.2.2.2]; omega⟩ rfl (Nat.le_of_ble_eq_true rfl) dL_law_795) (LWP.mod Z.G) ?_
    refine g_istore (lv2 := [(7, .int r), (6, .int (0 : Int32)), (0, .ref b), (1, .ref (hY X.2.1.2 + 0)), (2, .ref (hY X.2.1.2 + 281 + 0)), (3, .ref (hY X.2.1.2 + 295)), (4, .ref (hY X.2.1.2 + 296)), (5, .int (nI i))]) S1 dL_law_798 (by decide) rfl ?_
    refine g_aload_n S1 dL_law_800 4 rfl ?_
    refine gc_I S1 Z.aM (gn_V S1 (Y := YM X.2.1.2) (G2 := gM) rfl Z.K (fun H h => h.2.1) fc8 (by decide) (c_MD_thrown _ (YM X.2.1.2) rfl Mm1 _ rfl) wdX8_thrown q_1233 ⟨Nat.le_of_ble_eq_true rfl, Nat.le_of_ble_eq_true rfl⟩ ⟨by rw [← Z.2.2.2.2.2.2.2.2.2.2.2.2.1]; omega, by rw [← Z.2.2.2.2.2.2.2.2.2.2.2.2.2]; omega⟩ rfl (Nat.le_of_ble_eq_true rfl) dL_law_801) (LWP.mod Z.G) ?_
    refine g_iload S1 dL_law_804 1 rfl ?_
    refine g_icmp_eq S1 811 dL_law_806 (by decide) (fun _ => ?_) (fun c9 => absurd ht c9)
    refine g_iload S1 dL_law_811 1 rfl ?_
    refine g_if_ne S1 828 dL_law_813 (by decide) (fun c9 => absurd rfl c9) (fun _ => ?_)
    refine g_aload_n S1 dL_law_816 5 rfl ?_
    refine g_iconst S1 (0 : Int32) dL_law_817 rfl ?_
    refine g_lldE S1 (fun H h => h.2.2.1) (Z.K.sub [1] rfl) (by decide) dL_law_818 ?_
    refine g_iload S1 dL_law_819 0 rfl ?_
    refine g_i2l S1 dL_law_821 ?_
    refine g_lcmp_eq S1 828 dL_law_822 dL_law_823 (by decide) (fun _ => ?_) (fun c9 => absurd (by first | rfl | exact heq) c9)
    refine g_goto S1 1691 dL_law_828 (by decide) ?_
    exact g_sub [2, 3, 4, 5, 6, 7] rfl (k9 _ _ _ _ hI1)
  · refine gw Z S0 (c_LW_pour _ Z.2.2.2.2.2.2.2.2.2.2.2.1 _ Z.G (hY X.2.1.2 + 295) (fun z => by have := AYC Z.G z; omega) (xs (i + 1)) (xs (i + 2)) X.2.1.2.2.1.2.1 vo Mc _ Mc1 h1 1 (.inl (X.2.1.2.2.1.2.1, 1, .inr (.inl vo))) (fun z hz => by cases hz) (fun k hk => by cases hk; exact Or.inl ⟨rfl, rfl, rfl⟩)) (Nat.le_add_right _ _) (Z.K.sub [1] rfl) (fun H h => ⟨h.1, h.2.2.1⟩) wdL_pour q_1280 (Nat.le_of_ble_eq_true rfl) hc hs9 rfl (Nat.le_of_ble_eq_true rfl) dL_law_777 (LWP.wrL Z.G) ?_
    refine g_istore (lv2 := [(6, .int (1 : Int32)), (0, .ref b), (1, .ref (hY X.2.1.2 + 0)), (2, .ref (hY X.2.1.2 + 281 + 0)), (3, .ref (hY X.2.1.2 + 295)), (4, .ref (hY X.2.1.2 + 296)), (5, .int (nI i))]) S1 dL_law_780 (by decide) rfl ?_
    refine g_aload_n S1 dL_law_782 3 rfl ?_
    refine g_aload_n S1 dL_law_783 1 rfl ?_
    refine g_iload S1 dL_law_784 6 rfl ?_
    refine g_iconst S1 (1 : Int32) dL_law_786 rfl ?_
    refine g_iadd S1 dL_law_787 ?_
    refine g_sld Z S1 (i + 1) (show nI i + nI 1 = nI (i + 1) from nI_add i 1) (by omega) dL_law_788 ?_
    refine g_aload_n S1 dL_law_789 1 rfl ?_
    refine g_iload S1 dL_law_790 6 rfl ?_
    refine g_iconst S1 (2 : Int32) dL_law_792 rfl ?_
    refine g_iadd S1 dL_law_793 ?_
    refine g_sld Z S1 (i + 2) (show nI i + nI 2 = nI (i + 2) from nI_add i 2) (by omega) dL_law_794 ?_
    refine gc_I S1 Z.aM (gn_V S1 (Y := YM X.2.1.2) (G2 := gM) rfl Z.K (fun H h => h.2.1) fc8 (by decide) (c_MD_pour _ (YM X.2.1.2) rfl (xs (i + 1)) (xs (i + 2)) Mm _ _ h2) wdX8_pour q_1281 ⟨Nat.le_of_ble_eq_true rfl, Nat.le_of_ble_eq_true rfl⟩ ⟨by rw [← Z.2.2.2.2.2.2.2.2.2.2.2.2.1]; omega, by rw [← Z.2.2.2.2.2.2.2.2.2.2.2.2.2]; omega⟩ rfl (Nat.le_of_ble_eq_true rfl) dL_law_795) (LWP.mod Z.G) ?_
    refine g_istore (lv2 := [(7, .int r), (6, .int (1 : Int32)), (0, .ref b), (1, .ref (hY X.2.1.2 + 0)), (2, .ref (hY X.2.1.2 + 281 + 0)), (3, .ref (hY X.2.1.2 + 295)), (4, .ref (hY X.2.1.2 + 296)), (5, .int (nI i))]) S1 dL_law_798 (by decide) rfl ?_
    refine g_aload_n S1 dL_law_800 4 rfl ?_
    refine gc_I S1 Z.aM (gn_V S1 (Y := YM X.2.1.2) (G2 := gM) rfl Z.K (fun H h => h.2.1) fc8 (by decide) (c_MD_thrown _ (YM X.2.1.2) rfl Mm1 _ rfl) wdX8_thrown q_1233 ⟨Nat.le_of_ble_eq_true rfl, Nat.le_of_ble_eq_true rfl⟩ ⟨by rw [← Z.2.2.2.2.2.2.2.2.2.2.2.2.1]; omega, by rw [← Z.2.2.2.2.2.2.2.2.2.2.2.2.2]; omega⟩ rfl (Nat.le_of_ble_eq_true rfl) dL_law_801) (LWP.mod Z.G) ?_
    refine g_iload S1 dL_law_804 1 rfl ?_
    refine g_icmp_eq S1 811 dL_law_806 (by decide) (fun _ => ?_) (fun c9 => absurd ht c9)
    refine g_iload S1 dL_law_811 1 rfl ?_
    refine g_if_ne S1 828 dL_law_813 (by decide) (fun _ => ?_) (fun c9 => absurd c9 (by decide))
    refine g_goto S1 1691 dL_law_828 (by decide) ?_
    exact g_sub [2, 3, 4, 5, 6, 7] rfl (k9 _ _ _ _ hI1)
  · refine gw Z S0 (c_LW_pour _ Z.2.2.2.2.2.2.2.2.2.2.2.1 _ Z.G (hY X.2.1.2 + 295) (fun z => by have := AYC Z.G z; omega) (xs (i + 1)) (xs (i + 2)) X.2.1.2.2.1.2.1 vo Mc _ Mc1 h1 2 (.inl (X.2.1.2.2.1.2.1, 1, .inr (.inl vo))) (fun z hz => by cases hz) (fun k hk => by cases hk; exact Or.inr (Or.inl ⟨rfl, rfl, rfl⟩))) (Nat.le_add_right _ _) (Z.K.sub [1] rfl) (fun H h => ⟨h.1, h.2.2.1⟩) wdL_pour q_1280 (Nat.le_of_ble_eq_true rfl) hc hs9 rfl (Nat.le_of_ble_eq_true rfl) dL_law_777 (LWP.wrL Z.G) ?_
    refine g_istore (lv2 := [(6, .int (2 : Int32)), (0, .ref b), (1, .ref (hY X.2.1.2 + 0)), (2, .ref (hY X.2.1.2 + 281 + 0)), (3, .ref (hY X.2.1.2 + 295)), (4, .ref (hY X.2.1.2 + 296)), (5, .int (nI i))]) S1 dL_law_780 (by decide) rfl ?_
    refine g_aload_n S1 dL_law_782 3 rfl ?_
    refine g_aload_n S1 dL_law_783 1 rfl ?_
    refine g_iload S1 dL_law_784 6 rfl ?_
    refine g_iconst S1 (1 : Int32) dL_law_786 rfl ?_
    refine g_iadd S1 dL_law_787 ?_
    refine g_sld Z S1 (i + 1) (show nI i + nI 1 = nI (i + 1) from nI_add i 1) (by omega) dL_law_788 ?_
    refine g_aload_n S1 dL_law_789 1 rfl ?_
    refine g_iload S1 dL_law_790 6 rfl ?_
    refine g_iconst S1 (2 : Int32) dL_law_792 rfl ?_
    refine g_iadd S1 dL_law_793 ?_
    refine g_sld Z S1 (i + 2) (show nI i + nI 2 = nI (i + 2) from nI_add i 2) (by omega) dL_law_794 ?_
    refine gc_I S1 Z.aM (gn_V S1 (Y := YM X.2.1.2) (G2 := gM) rfl Z.K (fun H h => h.2.1) fc8 (by decide) (c_MD_pour _ (YM X.2.1.2) rfl (xs (i + 1)) (xs (i + 2)) Mm _ _ h2) wdX8_pour q_1281 ⟨Nat.le_of_ble_eq_true rfl, Nat.le_of_ble_eq_true rfl⟩ ⟨by rw [← Z.2.2.2.2.2.2.2.2.2.2.2.2.1]; omega, by rw [← Z.2.2.2.2.2.2.2.2.2.2.2.2.2]; omega⟩ rfl (Nat.le_of_ble_eq_true rfl) dL_law_795) (LWP.mod Z.G) ?_
    refine g_istore (lv2 := [(7, .int r), (6, .int (2 : Int32)), (0, .ref b), (1, .ref (hY X.2.1.2 + 0)), (2, .ref (hY X.2.1.2 + 281 + 0)), (3, .ref (hY X.2.1.2 + 295)), (4, .ref (hY X.2.1.2 + 296)), (5, .int (nI i))]) S1 dL_law_798 (by decide) rfl ?_
    refine g_aload_n S1 dL_law_800 4 rfl ?_
    refine gc_I S1 Z.aM (gn_V S1 (Y := YM X.2.1.2) (G2 := gM) rfl Z.K (fun H h => h.2.1) fc8 (by decide) (c_MD_thrown _ (YM X.2.1.2) rfl Mm1 _ rfl) wdX8_thrown q_1233 ⟨Nat.le_of_ble_eq_true rfl, Nat.le_of_ble_eq_true rfl⟩ ⟨by rw [← Z.2.2.2.2.2.2.2.2.2.2.2.2.1]; omega, by rw [← Z.2.2.2.2.2.2.2.2.2.2.2.2.2]; omega⟩ rfl (Nat.le_of_ble_eq_true rfl) dL_law_801) (LWP.mod Z.G) ?_
    refine g_iload S1 dL_law_804 1 rfl ?_
    refine g_icmp_eq S1 811 dL_law_806 (by decide) (fun _ => ?_) (fun c9 => absurd ht c9)
    refine g_iload S1 dL_law_811 1 rfl ?_
    refine g_if_ne S1 828 dL_law_813 (by decide) (fun _ => ?_) (fun c9 => absurd c9 (by decide))
    refine g_goto S1 1691 dL_law_828 (by decide) ?_
    exact g_sub [2, 3, 4, 5, 6, 7] rfl (k9 _ _ _ _ hI1)
  · refine gw Z S0 (c_LW_pour _ Z.2.2.2.2.2.2.2.2.2.2.2.1 _ Z.G (hY X.2.1.2 + 295) (fun z => by have := AYC Z.G z; omega) (xs (i + 1)) (xs (i + 2)) X.2.1.2.2.1.2.1 vo Mc _ Mc1 h1 3 (.inl (X.2.1.2.2.1.2.1, 1, .inr (.inl vo))) (fun z hz => by cases hz) (fun k hk => by cases hk; exact Or.inr (Or.inr (⟨rfl, rfl, rfl⟩)))) (Nat.le_add_right _ _) (Z.K.sub [1] rfl) (fun H h => ⟨h.1, h.2.2.1⟩) wdL_pour q_1280 (Nat.le_of_ble_eq_true rfl) hc hs9 rfl (Nat.le_of_ble_eq_true rfl) dL_law_777 (LWP.wrL Z.G) ?_
    refine g_istore (lv2 := [(6, .int (3 : Int32)), (0, .ref b), (1, .ref (hY X.2.1.2 + 0)), (2, .ref (hY X.2.1.2 + 281 + 0)), (3, .ref (hY X.2.1.2 + 295)), (4, .ref (hY X.2.1.2 + 296)), (5, .int (nI i))]) S1 dL_law_780 (by decide) rfl ?_
    refine g_aload_n S1 dL_law_782 3 rfl ?_
    refine g_aload_n S1 dL_law_783 1 rfl ?_
    refine g_iload S1 dL_law_784 6 rfl ?_
    refine g_iconst S1 (1 : Int32) dL_law_786 rfl ?_
    refine g_iadd S1 dL_law_787 ?_
    refine g_sld Z S1 (i + 1) (show nI i + nI 1 = nI (i + 1) from nI_add i 1) (by omega) dL_law_788 ?_
    refine g_aload_n S1 dL_law_789 1 rfl ?_
    refine g_iload S1 dL_law_790 6 rfl ?_
    refine g_iconst S1 (2 : Int32) dL_law_792 rfl ?_
    refine g_iadd S1 dL_law_793 ?_
    refine g_sld Z S1 (i + 2) (show nI i + nI 2 = nI (i + 2) from nI_add i 2) (by omega) dL_law_794 ?_
    refine gc_I S1 Z.aM (gn_V S1 (Y := YM X.2.1.2) (G2 := gM) rfl Z.K (fun H h => h.2.1) fc8 (by decide) (c_MD_pour _ (YM X.2.1.2) rfl (xs (i + 1)) (xs (i + 2)) Mm _ _ h2) wdX8_pour q_1281 ⟨Nat.le_of_ble_eq_true rfl, Nat.le_of_ble_eq_true rfl⟩ ⟨by rw [← Z.2.2.2.2.2.2.2.2.2.2.2.2.1]; omega, by rw [← Z.2.2.2.2.2.2.2.2.2.2.2.2.2]; omega⟩ rfl (Nat.le_of_ble_eq_true rfl) dL_law_795) (LWP.mod Z.G) ?_
    refine g_istore (lv2 := [(7, .int r), (6, .int (3 : Int32)), (0, .ref b), (1, .ref (hY X.2.1.2 + 0)), (2, .ref (hY X.2.1.2 + 281 + 0)), (3, .ref (hY X.2.1.2 + 295)), (4, .ref (hY X.2.1.2 + 296)), (5, .int (nI i))]) S1 dL_law_798 (by decide) rfl ?_
    refine g_aload_n S1 dL_law_800 4 rfl ?_
    refine gc_I S1 Z.aM (gn_V S1 (Y := YM X.2.1.2) (G2 := gM) rfl Z.K (fun H h => h.2.1) fc8 (by decide) (c_MD_thrown _ (YM X.2.1.2) rfl Mm1 _ rfl) wdX8_thrown q_1233 ⟨Nat.le_of_ble_eq_true rfl, Nat.le_of_ble_eq_true rfl⟩ ⟨by rw [← Z.2.2.2.2.2.2.2.2.2.2.2.2.1]; omega, by rw [← Z.2.2.2.2.2.2.2.2.2.2.2.2.2]; omega⟩ rfl (Nat.le_of_ble_eq_true rfl) dL_law_801) (LWP.mod Z.G) ?_
    refine g_iload S1 dL_law_804 1 rfl ?_
    refine g_icmp_eq S1 811 dL_law_806 (by decide) (fun _ => ?_) (fun c9 => absurd ht c9)
    refine g_iload S1 dL_law_811 1 rfl ?_
    refine g_if_ne S1 828 dL_law_813 (by decide) (fun _ => ?_) (fun c9 => absurd c9 (by decide))
    refine g_goto S1 1691 dL_law_828 (by decide) ?_
    exact g_sub [2, 3, 4, 5, 6, 7] rfl (k9 _ _ _ _ hI1)
set_option maxRecDepth 100000 in
set_option maxHeartbeats 4000000 in
theorem lc_9 {X : Cx} {b L : Nat} {xs : Nat → Int32} {cD : ClassId} (Z : LX X b L xs cD) {Inv : Mem → Mem → Prop} (hs : Sim9 Inv) (i : Nat) (hi : i + 4 ≤ L) {Mc Mm : Mem} {vo : Nat → Int64} {vd : Nat → UInt64} (hI : Inv Mc Mm) (c s : Nat) (hc : c + 2 ≤ 601024) (hs9 : s + 12 ≤ 7293034) (k9 : ∀ Mc1 Mm1 vo1 vd1, Inv Mc1 Mm1 → AG (setX X (c + 2) (s + 12)) 1691 [(0, .ref b), (1, .ref (hY X.2.1.2 + 0)), (2, .ref (hY X.2.1.2 + 281 + 0)), (3, .ref (hY X.2.1.2 + 295)), (4, .ref (hY X.2.1.2 + 296)), (5, .int (nI i))] [] (LWP X.2.1.2 cD Mc1 Mm1 vo1 vd1)) : AG (setX X c s) 831 [(0, .ref b), (1, .ref (hY X.2.1.2 + 0)), (2, .ref (hY X.2.1.2 + 281 + 0)), (3, .ref (hY X.2.1.2 + 295)), (4, .ref (hY X.2.1.2 + 296)), (5, .int (nI i))] [] (LWP X.2.1.2 cD Mc Mm vo vd) := by
  have S0 := Z.1 c s (by omega) (by omega)
  have S1 := Z.1 (c + 2) (s + 12) hc hs9
  have hL := Z.2.2.2.2.2.1
  refine g_aload_n S0 dL_law_831 1 rfl ?_
  refine g_aload_n S0 dL_law_832 0 rfl ?_
  refine g_iload S0 dL_law_833 5 rfl ?_
  refine g_iconst S0 (1 : Int32) dL_law_835 rfl ?_
  refine g_iadd S0 dL_law_836 ?_
  refine g_sld Z S0 (i + 1) (show nI i + nI 1 = nI (i + 1) from nI_add i 1) (by omega) dL_law_837 ?_
  refine g_aload_n S0 dL_law_838 3 rfl ?_
  obtain ⟨res, Mc1, r, Mm1, h1, h2, hI1, hcase⟩ := hs Mc Mm (xs (i + 1)) hI
  rcases hcase with ⟨v, rfl, ht, rfl⟩ | ⟨rfl, ht⟩ | ⟨rfl, ht⟩
  · refine gw Z S0 (c_LW_rain _ Z.2.2.2.2.2.2.2.2.2.2.2.1 _ Z.G (hY X.2.1.2 + 295) (fun z => by have := AYC Z.G z; omega) (xs (i + 1)) X.2.1.2.2.1.2.1 vo Mc _ Mc1 h1 0 (.inl (X.2.1.2.2.1.2.1, 1, .inr (.inl (vp_updL vo 0 r.toInt64)))) (fun z hz => by cases hz; exact ⟨rfl, rfl⟩) (fun k hk => by cases hk)) (Nat.le_add_right _ _) (Z.K.sub [1] rfl) (fun H h => ⟨h.1, h.2.2.1⟩) wdL_rain q_1286 (Nat.le_of_ble_eq_true rfl) hc hs9 rfl (Nat.le_of_ble_eq_true rfl) dL_law_839 (LWP.wrL Z.G) ?_
    refine g_istore (lv2 := [(6, .int (0 : Int32)), (0, .ref b), (1, .ref (hY X.2.1.2 + 0)), (2, .ref (hY X.2.1.2 + 281 + 0)), (3, .ref (hY X.2.1.2 + 295)), (4, .ref (hY X.2.1.2 + 296)), (5, .int (nI i))]) S1 dL_law_842 (by decide) rfl ?_
    refine g_aload_n S1 dL_law_844 3 rfl ?_
    refine g_aload_n S1 dL_law_845 1 rfl ?_
    refine g_iload S1 dL_law_846 6 rfl ?_
    refine g_iconst S1 (1 : Int32) dL_law_848 rfl ?_
    refine g_iadd S1 dL_law_849 ?_
    refine g_sld Z S1 (i + 1) (show nI i + nI 1 = nI (i + 1) from nI_add i 1) (by omega) dL_law_850 ?_
    refine gc_I S1 Z.aM (gn_V S1 (Y := YM X.2.1.2) (G2 := gM) rfl Z.K (fun H h => h.2.1) fc8 (by decide) (c_MD_rain _ (YM X.2.1.2) rfl (xs (i + 1)) Mm _ _ h2) wdX8_rain q_1287 ⟨Nat.le_of_ble_eq_true rfl, Nat.le_of_ble_eq_true rfl⟩ ⟨by rw [← Z.2.2.2.2.2.2.2.2.2.2.2.2.1]; omega, by rw [← Z.2.2.2.2.2.2.2.2.2.2.2.2.2]; omega⟩ rfl (Nat.le_of_ble_eq_true rfl) dL_law_851) (LWP.mod Z.G) ?_
    refine g_istore (lv2 := [(7, .int r), (6, .int (0 : Int32)), (0, .ref b), (1, .ref (hY X.2.1.2 + 0)), (2, .ref (hY X.2.1.2 + 281 + 0)), (3, .ref (hY X.2.1.2 + 295)), (4, .ref (hY X.2.1.2 + 296)), (5, .int (nI i))]) S1 dL_law_854 (by decide) rfl ?_
    refine g_aload_n S1 dL_law_856 4 rfl ?_
    refine gc_I S1 Z.aM (gn_V S1 (Y := YM X.2.1.2) (G2 := gM) rfl Z.K (fun H h => h.2.1) fc8 (by decide) (c_MD_thrown _ (YM X.2.1.2) rfl Mm1 _ rfl) wdX8_thrown q_1233 ⟨Nat.le_of_ble_eq_true rfl, Nat.le_of_ble_eq_true rfl⟩ ⟨by rw [← Z.2.2.2.2.2.2.2.2.2.2.2.2.1]; omega, by rw [← Z.2.2.2.2.2.2.2.2.2.2.2.2.2]; omega⟩ rfl (Nat.le_of_ble_eq_true rfl) dL_law_857) (LWP.mod Z.G) ?_
    refine g_iload S1 dL_law_860 1 rfl ?_
    refine g_icmp_eq S1 867 dL_law_862 (by decide) (fun _ => ?_) (fun c9 => absurd ht c9)
    refine g_iload S1 dL_law_867 1 rfl ?_
    refine g_if_ne S1 884 dL_law_869 (by decide) (fun c9 => absurd rfl c9) (fun _ => ?_)
    refine g_aload_n S1 dL_law_872 5 rfl ?_
    refine g_iconst S1 (0 : Int32) dL_law_873 rfl ?_
    refine g_lldE S1 (fun H h => h.2.2.1) (Z.K.sub [1] rfl) (by decide) dL_law_874 ?_
    refine g_iload S1 dL_law_875 0 rfl ?_
    refine g_i2l S1 dL_law_877 ?_
    refine g_lcmp_eq S1 884 dL_law_878 dL_law_879 (by decide) (fun _ => ?_) (fun c9 => absurd (by first | rfl | exact heq) c9)
    refine g_goto S1 1691 dL_law_884 (by decide) ?_
    exact g_sub [2, 3, 4, 5, 6, 7] rfl (k9 _ _ _ _ hI1)
  · refine gw Z S0 (c_LW_rain _ Z.2.2.2.2.2.2.2.2.2.2.2.1 _ Z.G (hY X.2.1.2 + 295) (fun z => by have := AYC Z.G z; omega) (xs (i + 1)) X.2.1.2.2.1.2.1 vo Mc _ Mc1 h1 1 (.inl (X.2.1.2.2.1.2.1, 1, .inr (.inl vo))) (fun z hz => by cases hz) (fun k hk => by cases hk; exact Or.inl ⟨rfl, rfl, rfl⟩)) (Nat.le_add_right _ _) (Z.K.sub [1] rfl) (fun H h => ⟨h.1, h.2.2.1⟩) wdL_rain q_1286 (Nat.le_of_ble_eq_true rfl) hc hs9 rfl (Nat.le_of_ble_eq_true rfl) dL_law_839 (LWP.wrL Z.G) ?_
    refine g_istore (lv2 := [(6, .int (1 : Int32)), (0, .ref b), (1, .ref (hY X.2.1.2 + 0)), (2, .ref (hY X.2.1.2 + 281 + 0)), (3, .ref (hY X.2.1.2 + 295)), (4, .ref (hY X.2.1.2 + 296)), (5, .int (nI i))]) S1 dL_law_842 (by decide) rfl ?_
    refine g_aload_n S1 dL_law_844 3 rfl ?_
    refine g_aload_n S1 dL_law_845 1 rfl ?_
    refine g_iload S1 dL_law_846 6 rfl ?_
    refine g_iconst S1 (1 : Int32) dL_law_848 rfl ?_
    refine g_iadd S1 dL_law_849 ?_
    refine g_sld Z S1 (i + 1) (show nI i + nI 1 = nI (i + 1) from nI_add i 1) (by omega) dL_law_850 ?_
    refine gc_I S1 Z.aM (gn_V S1 (Y := YM X.2.1.2) (G2 := gM) rfl Z.K (fun H h => h.2.1) fc8 (by decide) (c_MD_rain _ (YM X.2.1.2) rfl (xs (i + 1)) Mm _ _ h2) wdX8_rain q_1287 ⟨Nat.le_of_ble_eq_true rfl, Nat.le_of_ble_eq_true rfl⟩ ⟨by rw [← Z.2.2.2.2.2.2.2.2.2.2.2.2.1]; omega, by rw [← Z.2.2.2.2.2.2.2.2.2.2.2.2.2]; omega⟩ rfl (Nat.le_of_ble_eq_true rfl) dL_law_851) (LWP.mod Z.G) ?_
    refine g_istore (lv2 := [(7, .int r), (6, .int (1 : Int32)), (0, .ref b), (1, .ref (hY X.2.1.2 + 0)), (2, .ref (hY X.2.1.2 + 281 + 0)), (3, .ref (hY X.2.1.2 + 295)), (4, .ref (hY X.2.1.2 + 296)), (5, .int (nI i))]) S1 dL_law_854 (by decide) rfl ?_
    refine g_aload_n S1 dL_law_856 4 rfl ?_
    refine gc_I S1 Z.aM (gn_V S1 (Y := YM X.2.1.2) (G2 := gM) rfl Z.K (fun H h => h.2.1) fc8 (by decide) (c_MD_thrown _ (YM X.2.1.2) rfl Mm1 _ rfl) wdX8_thrown q_1233 ⟨Nat.le_of_ble_eq_true rfl, Nat.le_of_ble_eq_true rfl⟩ ⟨by rw [← Z.2.2.2.2.2.2.2.2.2.2.2.2.1]; omega, by rw [← Z.2.2.2.2.2.2.2.2.2.2.2.2.2]; omega⟩ rfl (Nat.le_of_ble_eq_true rfl) dL_law_857) (LWP.mod Z.G) ?_
    refine g_iload S1 dL_law_860 1 rfl ?_
    refine g_icmp_eq S1 867 dL_law_862 (by decide) (fun _ => ?_) (fun c9 => absurd ht c9)
    refine g_iload S1 dL_law_867 1 rfl ?_
    refine g_if_ne S1 884 dL_law_869 (by decide) (fun _ => ?_) (fun c9 => absurd c9 (by decide))
    refine g_goto S1 1691 dL_law_884 (by decide) ?_
    exact g_sub [2, 3, 4, 5, 6, 7] rfl (k9 _ _ _ _ hI1)
  · refine gw Z S0 (c_LW_rain _ Z.2.2.2.2.2.2.2.2.2.2.2.1 _ Z.G (hY X.2.1.2 + 295) (fun z => by have := AYC Z.G z; omega) (xs (i + 1)) X.2.1.2.2.1.2.1 vo Mc _ Mc1 h1 2 (.inl (X.2.1.2.2.1.2.1, 1, .inr (.inl vo))) (fun z hz => by cases hz) (fun k hk => by cases hk; exact Or.inr (⟨rfl, rfl, rfl⟩))) (Nat.le_add_right _ _) (Z.K.sub [1] rfl) (fun H h => ⟨h.1, h.2.2.1⟩) wdL_rain q_1286 (Nat.le_of_ble_eq_true rfl) hc hs9 rfl (Nat.le_of_ble_eq_true rfl) dL_law_839 (LWP.wrL Z.G) ?_
    refine g_istore (lv2 := [(6, .int (2 : Int32)), (0, .ref b), (1, .ref (hY X.2.1.2 + 0)), (2, .ref (hY X.2.1.2 + 281 + 0)), (3, .ref (hY X.2.1.2 + 295)), (4, .ref (hY X.2.1.2 + 296)), (5, .int (nI i))]) S1 dL_law_842 (by decide) rfl ?_
    refine g_aload_n S1 dL_law_844 3 rfl ?_
    refine g_aload_n S1 dL_law_845 1 rfl ?_
    refine g_iload S1 dL_law_846 6 rfl ?_
    refine g_iconst S1 (1 : Int32) dL_law_848 rfl ?_
    refine g_iadd S1 dL_law_849 ?_
    refine g_sld Z S1 (i + 1) (show nI i + nI 1 = nI (i + 1) from nI_add i 1) (by omega) dL_law_850 ?_
    refine gc_I S1 Z.aM (gn_V S1 (Y := YM X.2.1.2) (G2 := gM) rfl Z.K (fun H h => h.2.1) fc8 (by decide) (c_MD_rain _ (YM X.2.1.2) rfl (xs (i + 1)) Mm _ _ h2) wdX8_rain q_1287 ⟨Nat.le_of_ble_eq_true rfl, Nat.le_of_ble_eq_true rfl⟩ ⟨by rw [← Z.2.2.2.2.2.2.2.2.2.2.2.2.1]; omega, by rw [← Z.2.2.2.2.2.2.2.2.2.2.2.2.2]; omega⟩ rfl (Nat.le_of_ble_eq_true rfl) dL_law_851) (LWP.mod Z.G) ?_
    refine g_istore (lv2 := [(7, .int r), (6, .int (2 : Int32)), (0, .ref b), (1, .ref (hY X.2.1.2 + 0)), (2, .ref (hY X.2.1.2 + 281 + 0)), (3, .ref (hY X.2.1.2 + 295)), (4, .ref (hY X.2.1.2 + 296)), (5, .int (nI i))]) S1 dL_law_854 (by decide) rfl ?_
    refine g_aload_n S1 dL_law_856 4 rfl ?_
    refine gc_I S1 Z.aM (gn_V S1 (Y := YM X.2.1.2) (G2 := gM) rfl Z.K (fun H h => h.2.1) fc8 (by decide) (c_MD_thrown _ (YM X.2.1.2) rfl Mm1 _ rfl) wdX8_thrown q_1233 ⟨Nat.le_of_ble_eq_true rfl, Nat.le_of_ble_eq_true rfl⟩ ⟨by rw [← Z.2.2.2.2.2.2.2.2.2.2.2.2.1]; omega, by rw [← Z.2.2.2.2.2.2.2.2.2.2.2.2.2]; omega⟩ rfl (Nat.le_of_ble_eq_true rfl) dL_law_857) (LWP.mod Z.G) ?_
    refine g_iload S1 dL_law_860 1 rfl ?_
    refine g_icmp_eq S1 867 dL_law_862 (by decide) (fun _ => ?_) (fun c9 => absurd ht c9)
    refine g_iload S1 dL_law_867 1 rfl ?_
    refine g_if_ne S1 884 dL_law_869 (by decide) (fun _ => ?_) (fun c9 => absurd c9 (by decide))
    refine g_goto S1 1691 dL_law_884 (by decide) ?_
    exact g_sub [2, 3, 4, 5, 6, 7] rfl (k9 _ _ _ _ hI1)
set_option maxRecDepth 100000 in
set_option maxHeartbeats 4000000 in
theorem lc_10 {X : Cx} {b L : Nat} {xs : Nat → Int32} {cD : ClassId} (Z : LX X b L xs cD) {Inv : Mem → Mem → Prop} (hs : Sim10 Inv) (i : Nat) (hi : i + 4 ≤ L) {Mc Mm : Mem} {vo : Nat → Int64} {vd : Nat → UInt64} (hI : Inv Mc Mm) (c s : Nat) (hc : c + 1 ≤ 601024) (hs9 : s + 6 ≤ 7293034) (k9 : ∀ Mc1 Mm1 vo1 vd1, Inv Mc1 Mm1 → AG (setX X (c + 1) (s + 6)) 1691 [(0, .ref b), (1, .ref (hY X.2.1.2 + 0)), (2, .ref (hY X.2.1.2 + 281 + 0)), (3, .ref (hY X.2.1.2 + 295)), (4, .ref (hY X.2.1.2 + 296)), (5, .int (nI i))] [] (LWP X.2.1.2 cD Mc1 Mm1 vo1 vd1)) : AG (setX X c s) 887 [(0, .ref b), (1, .ref (hY X.2.1.2 + 0)), (2, .ref (hY X.2.1.2 + 281 + 0)), (3, .ref (hY X.2.1.2 + 295)), (4, .ref (hY X.2.1.2 + 296)), (5, .int (nI i))] [] (LWP X.2.1.2 cD Mc Mm vo vd) := by
  have S0 := Z.1 c s (by omega) (by omega)
  have S1 := Z.1 (c + 1) (s + 6) hc hs9
  have hL := Z.2.2.2.2.2.1
  refine g_aload_n S0 dL_law_887 1 rfl ?_
  refine g_aload_n S0 dL_law_888 0 rfl ?_
  refine g_iload S0 dL_law_889 5 rfl ?_
  refine g_iconst S0 (1 : Int32) dL_law_891 rfl ?_
  refine g_iadd S0 dL_law_892 ?_
  refine g_sld Z S0 (i + 1) (show nI i + nI 1 = nI (i + 1) from nI_add i 1) (by omega) dL_law_893 ?_
  refine g_aload_n S0 dL_law_894 3 rfl ?_
  obtain ⟨res, Mc1, r, Mm1, h1, h2, hI1, hcase⟩ := hs Mc Mm (xs (i + 1)) hI
  rcases hcase with ⟨v, rfl, ht, rfl⟩ | ⟨rfl, ht⟩
  · refine gw Z S0 (c_LW_evaporate _ Z.2.2.2.2.2.2.2.2.2.2.2.1 _ Z.G (hY X.2.1.2 + 295) (fun z => by have := AYC Z.G z; omega) (xs (i + 1)) X.2.1.2.2.1.2.1 vo Mc _ Mc1 h1 0 (.inl (X.2.1.2.2.1.2.1, 1, .inr (.inl (vp_updL vo 0 r.toInt64)))) (fun z hz => by cases hz; exact ⟨rfl, rfl⟩) (fun k hk => by cases hk)) (Nat.le_add_right _ _) (Z.K.sub [1] rfl) (fun H h => ⟨h.1, h.2.2.1⟩) wdL_evaporate q_1292 (Nat.le_of_ble_eq_true rfl) hc hs9 rfl (Nat.le_of_ble_eq_true rfl) dL_law_895 (LWP.wrL Z.G) ?_
    refine g_istore (lv2 := [(6, .int (0 : Int32)), (0, .ref b), (1, .ref (hY X.2.1.2 + 0)), (2, .ref (hY X.2.1.2 + 281 + 0)), (3, .ref (hY X.2.1.2 + 295)), (4, .ref (hY X.2.1.2 + 296)), (5, .int (nI i))]) S1 dL_law_898 (by decide) rfl ?_
    refine g_aload_n S1 dL_law_900 3 rfl ?_
    refine g_aload_n S1 dL_law_901 1 rfl ?_
    refine g_iload S1 dL_law_902 6 rfl ?_
    refine g_iconst S1 (1 : Int32) dL_law_904 rfl ?_
    refine g_iadd S1 dL_law_905 ?_
    refine g_sld Z S1 (i + 1) (show nI i + nI 1 = nI (i + 1) from nI_add i 1) (by omega) dL_law_906 ?_
    refine gc_I S1 Z.aM (gn_V S1 (Y := YM X.2.1.2) (G2 := gM) rfl Z.K (fun H h => h.2.1) fc8 (by decide) (c_MD_evaporate _ (YM X.2.1.2) rfl (xs (i + 1)) Mm _ _ h2) wdX8_evaporate q_1293 ⟨Nat.le_of_ble_eq_true rfl, Nat.le_of_ble_eq_true rfl⟩ ⟨by rw [← Z.2.2.2.2.2.2.2.2.2.2.2.2.1]; omega, by rw [← Z.2.2.2.2.2.2.2.2.2.2.2.2.2]; omega⟩ rfl (Nat.le_of_ble_eq_true rfl) dL_law_907) (LWP.mod Z.G) ?_
    refine g_istore (lv2 := [(7, .int r), (6, .int (0 : Int32)), (0, .ref b), (1, .ref (hY X.2.1.2 + 0)), (2, .ref (hY X.2.1.2 + 281 + 0)), (3, .ref (hY X.2.1.2 + 295)), (4, .ref (hY X.2.1.2 + 296)), (5, .int (nI i))]) S1 dL_law_910 (by decide) rfl ?_
    refine g_aload_n S1 dL_law_912 4 rfl ?_
    refine gc_I S1 Z.aM (gn_V S1 (Y := YM X.2.1.2) (G2 := gM) rfl Z.K (fun H h => h.2.1) fc8 (by decide) (c_MD_thrown _ (YM X.2.1.2) rfl Mm1 _ rfl) wdX8_thrown q_1233 ⟨Nat.le_of_ble_eq_true rfl, Nat.le_of_ble_eq_true rfl⟩ ⟨by rw [← Z.2.2.2.2.2.2.2.2.2.2.2.2.1]; omega, by rw [← Z.2.2.2.2.2.2.2.2.2.2.2.2.2]; omega⟩ rfl (Nat.le_of_ble_eq_true rfl) dL_law_913) (LWP.mod Z.G) ?_
    refine g_iload S1 dL_law_916 1 rfl ?_
    refine g_icmp_eq S1 923 dL_law_918 (by decide) (fun _ => ?_) (fun c9 => absurd ht c9)
    refine g_iload S1 dL_law_923 1 rfl ?_
    refine g_if_ne S1 940 dL_law_925 (by decide) (fun c9 => absurd rfl c9) (fun _ => ?_)
    refine g_aload_n S1 dL_law_928 5 rfl ?_
    refine g_iconst S1 (0 : Int32) dL_law_929 rfl ?_
    refine g_lldE S1 (fun H h => h.2.2.1) (Z.K.sub [1] rfl) (by decide) dL_law_930 ?_
    refine g_iload S1 dL_law_931 0 rfl ?_
    refine g_i2l S1 dL_law_933 ?_
    refine g_lcmp_eq S1 940 dL_law_934 dL_law_935 (by decide) (fun _ => ?_) (fun c9 => absurd (by first | rfl | exact heq) c9)
    refine g_goto S1 1691 dL_law_940 (by decide) ?_
    exact g_sub [2, 3, 4, 5, 6, 7] rfl (k9 _ _ _ _ hI1)
  · refine gw Z S0 (c_LW_evaporate _ Z.2.2.2.2.2.2.2.2.2.2.2.1 _ Z.G (hY X.2.1.2 + 295) (fun z => by have := AYC Z.G z; omega) (xs (i + 1)) X.2.1.2.2.1.2.1 vo Mc _ Mc1 h1 1 (.inl (X.2.1.2.2.1.2.1, 1, .inr (.inl vo))) (fun z hz => by cases hz) (fun k hk => by cases hk; exact ⟨rfl, rfl, rfl⟩)) (Nat.le_add_right _ _) (Z.K.sub [1] rfl) (fun H h => ⟨h.1, h.2.2.1⟩) wdL_evaporate q_1292 (Nat.le_of_ble_eq_true rfl) hc hs9 rfl (Nat.le_of_ble_eq_true rfl) dL_law_895 (LWP.wrL Z.G) ?_
    refine g_istore (lv2 := [(6, .int (1 : Int32)), (0, .ref b), (1, .ref (hY X.2.1.2 + 0)), (2, .ref (hY X.2.1.2 + 281 + 0)), (3, .ref (hY X.2.1.2 + 295)), (4, .ref (hY X.2.1.2 + 296)), (5, .int (nI i))]) S1 dL_law_898 (by decide) rfl ?_
    refine g_aload_n S1 dL_law_900 3 rfl ?_
    refine g_aload_n S1 dL_law_901 1 rfl ?_
    refine g_iload S1 dL_law_902 6 rfl ?_
    refine g_iconst S1 (1 : Int32) dL_law_904 rfl ?_
    refine g_iadd S1 dL_law_905 ?_
    refine g_sld Z S1 (i + 1) (show nI i + nI 1 = nI (i + 1) from nI_add i 1) (by omega) dL_law_906 ?_
    refine gc_I S1 Z.aM (gn_V S1 (Y := YM X.2.1.2) (G2 := gM) rfl Z.K (fun H h => h.2.1) fc8 (by decide) (c_MD_evaporate _ (YM X.2.1.2) rfl (xs (i + 1)) Mm _ _ h2) wdX8_evaporate q_1293 ⟨Nat.le_of_ble_eq_true rfl, Nat.le_of_ble_eq_true rfl⟩ ⟨by rw [← Z.2.2.2.2.2.2.2.2.2.2.2.2.1]; omega, by rw [← Z.2.2.2.2.2.2.2.2.2.2.2.2.2]; omega⟩ rfl (Nat.le_of_ble_eq_true rfl) dL_law_907) (LWP.mod Z.G) ?_
    refine g_istore (lv2 := [(7, .int r), (6, .int (1 : Int32)), (0, .ref b), (1, .ref (hY X.2.1.2 + 0)), (2, .ref (hY X.2.1.2 + 281 + 0)), (3, .ref (hY X.2.1.2 + 295)), (4, .ref (hY X.2.1.2 + 296)), (5, .int (nI i))]) S1 dL_law_910 (by decide) rfl ?_
    refine g_aload_n S1 dL_law_912 4 rfl ?_
    refine gc_I S1 Z.aM (gn_V S1 (Y := YM X.2.1.2) (G2 := gM) rfl Z.K (fun H h => h.2.1) fc8 (by decide) (c_MD_thrown _ (YM X.2.1.2) rfl Mm1 _ rfl) wdX8_thrown q_1233 ⟨Nat.le_of_ble_eq_true rfl, Nat.le_of_ble_eq_true rfl⟩ ⟨by rw [← Z.2.2.2.2.2.2.2.2.2.2.2.2.1]; omega, by rw [← Z.2.2.2.2.2.2.2.2.2.2.2.2.2]; omega⟩ rfl (Nat.le_of_ble_eq_true rfl) dL_law_913) (LWP.mod Z.G) ?_
    refine g_iload S1 dL_law_916 1 rfl ?_
    refine g_icmp_eq S1 923 dL_law_918 (by decide) (fun _ => ?_) (fun c9 => absurd ht c9)
    refine g_iload S1 dL_law_923 1 rfl ?_
    refine g_if_ne S1 940 dL_law_925 (by decide) (fun _ => ?_) (fun c9 => absurd c9 (by decide))
    refine g_goto S1 1691 dL_law_940 (by decide) ?_
    exact g_sub [2, 3, 4, 5, 6, 7] rfl (k9 _ _ _ _ hI1)
set_option maxRecDepth 100000 in
set_option maxHeartbeats 4000000 in
theorem lc_11 {X : Cx} {b L : Nat} {xs : Nat → Int32} {cD : ClassId} (Z : LX X b L xs cD) {Inv : Mem → Mem → Prop} (hs : Sim11 Inv) (i : Nat) (hi : i + 4 ≤ L) {Mc Mm : Mem} {vo : Nat → Int64} {vd : Nat → UInt64} (hI : Inv Mc Mm) (c s : Nat) (hc : c + 2 ≤ 601024) (hs9 : s + 12 ≤ 7293034) (k9 : ∀ Mc1 Mm1 vo1 vd1, Inv Mc1 Mm1 → AG (setX X (c + 2) (s + 12)) 1691 [(0, .ref b), (1, .ref (hY X.2.1.2 + 0)), (2, .ref (hY X.2.1.2 + 281 + 0)), (3, .ref (hY X.2.1.2 + 295)), (4, .ref (hY X.2.1.2 + 296)), (5, .int (nI i))] [] (LWP X.2.1.2 cD Mc1 Mm1 vo1 vd1)) : AG (setX X c s) 943 [(0, .ref b), (1, .ref (hY X.2.1.2 + 0)), (2, .ref (hY X.2.1.2 + 281 + 0)), (3, .ref (hY X.2.1.2 + 295)), (4, .ref (hY X.2.1.2 + 296)), (5, .int (nI i))] [] (LWP X.2.1.2 cD Mc Mm vo vd) := by
  have S0 := Z.1 c s (by omega) (by omega)
  have S1 := Z.1 (c + 2) (s + 12) hc hs9
  have hL := Z.2.2.2.2.2.1
  refine g_aload_n S0 dL_law_943 1 rfl ?_
  refine g_aload_n S0 dL_law_944 0 rfl ?_
  refine g_iload S0 dL_law_945 5 rfl ?_
  refine g_iconst S0 (1 : Int32) dL_law_947 rfl ?_
  refine g_iadd S0 dL_law_948 ?_
  refine g_sld Z S0 (i + 1) (show nI i + nI 1 = nI (i + 1) from nI_add i 1) (by omega) dL_law_949 ?_
  refine g_aload_n S0 dL_law_950 0 rfl ?_
  refine g_iload S0 dL_law_951 5 rfl ?_
  refine g_iconst S0 (2 : Int32) dL_law_953 rfl ?_
  refine g_iadd S0 dL_law_954 ?_
  refine g_sld Z S0 (i + 2) (show nI i + nI 2 = nI (i + 2) from nI_add i 2) (by omega) dL_law_955 ?_
  refine g_aload_n S0 dL_law_956 3 rfl ?_
  obtain ⟨res, Mc1, r, Mm1, h1, h2, hI1, hcase⟩ := hs Mc Mm (xs (i + 1)) (xs (i + 2)) hI
  rcases hcase with ⟨v, rfl, ht, rfl⟩ | ⟨rfl, ht⟩ | ⟨rfl, ht⟩
  · refine gw Z S0 (c_LW_take _ Z.2.2.2.2.2.2.2.2.2.2.2.1 _ Z.G (hY X.2.1.2 + 295) (fun z => by have := AYC Z.G z; omega) (xs (i + 1)) (xs (i + 2)) X.2.1.2.2.1.2.1 vo Mc _ Mc1 h1 0 (.inl (X.2.1.2.2.1.2.1, 1, .inr (.inl (vp_updL vo 0 r.toInt64)))) (fun z hz => by cases hz; exact ⟨rfl, rfl⟩) (fun k hk => by cases hk)) (Nat.le_add_right _ _) (Z.K.sub [1] rfl) (fun H h => ⟨h.1, h.2.2.1⟩) wdL_take q_1298 (Nat.le_of_ble_eq_true rfl) hc hs9 rfl (Nat.le_of_ble_eq_true rfl) dL_law_957 (LWP.wrL Z.G) ?_
    refine g_istore (lv2 := [(6, .int (0 : Int32)), (0, .ref b), (1, .ref (hY X.2.1.2 + 0)), (2, .ref (hY X.2.1.2 + 281 + 0)), (3, .ref (hY X.2.1.2 + 295)), (4, .ref (hY X.2.1.2 + 296)), (5, .int (nI i))]) S1 dL_law_960 (by decide) rfl ?_
    refine g_aload_n S1 dL_law_962 3 rfl ?_
    refine g_aload_n S1 dL_law_963 1 rfl ?_
    refine g_iload S1 dL_law_964 6 rfl ?_
    refine g_iconst S1 (1 : Int32) dL_law_966 rfl ?_
    refine g_iadd S1 dL_law_967 ?_
    refine g_sld Z S1 (i + 1) (show nI i + nI 1 = nI (i + 1) from nI_add i 1) (by omega) dL_law_968 ?_
    refine g_aload_n S1 dL_law_969 1 rfl ?_
    refine g_iload S1 dL_law_970 6 rfl ?_
    refine g_iconst S1 (2 : Int32) dL_law_972 rfl ?_
    refine g_iadd S1 dL_law_973 ?_
    refine g_sld Z S1 (i + 2) (show nI i + nI 2 = nI (i + 2) from nI_add i 2) (by omega) dL_law_974 ?_
    refine gc_I S1 Z.aM (gn_V S1 (Y := YM X.2.1.2) (G2 := gM) rfl Z.K (fun H h => h.2.1) fc8 (by decide) (c_MD_take _ (YM X.2.1.2) rfl (xs (i + 1)) (xs (i + 2)) Mm _ _ h2) wdX8_take q_1299 ⟨Nat.le_of_ble_eq_true rfl, Nat.le_of_ble_eq_true rfl⟩ ⟨by rw [← Z.2.2.2.2.2.2.2.2.2.2.2.2.1]; omega, by rw [← Z.2.2.2.2.2.2.2.2.2.2.2.2.2]; omega⟩ rfl (Nat.le_of_ble_eq_true rfl) dL_law_975) (LWP.mod Z.G) ?_
    refine g_istore (lv2 := [(7, .int r), (6, .int (0 : Int32)), (0, .ref b), (1, .ref (hY X.2.1.2 + 0)), (2, .ref (hY X.2.1.2 + 281 + 0)), (3, .ref (hY X.2.1.2 + 295)), (4, .ref (hY X.2.1.2 + 296)), (5, .int (nI i))]) S1 dL_law_978 (by decide) rfl ?_
    refine g_aload_n S1 dL_law_980 4 rfl ?_
    refine gc_I S1 Z.aM (gn_V S1 (Y := YM X.2.1.2) (G2 := gM) rfl Z.K (fun H h => h.2.1) fc8 (by decide) (c_MD_thrown _ (YM X.2.1.2) rfl Mm1 _ rfl) wdX8_thrown q_1233 ⟨Nat.le_of_ble_eq_true rfl, Nat.le_of_ble_eq_true rfl⟩ ⟨by rw [← Z.2.2.2.2.2.2.2.2.2.2.2.2.1]; omega, by rw [← Z.2.2.2.2.2.2.2.2.2.2.2.2.2]; omega⟩ rfl (Nat.le_of_ble_eq_true rfl) dL_law_981) (LWP.mod Z.G) ?_
    refine g_iload S1 dL_law_984 1 rfl ?_
    refine g_icmp_eq S1 991 dL_law_986 (by decide) (fun _ => ?_) (fun c9 => absurd ht c9)
    refine g_iload S1 dL_law_991 1 rfl ?_
    refine g_if_ne S1 1008 dL_law_993 (by decide) (fun c9 => absurd rfl c9) (fun _ => ?_)
    refine g_aload_n S1 dL_law_996 5 rfl ?_
    refine g_iconst S1 (0 : Int32) dL_law_997 rfl ?_
    refine g_lldE S1 (fun H h => h.2.2.1) (Z.K.sub [1] rfl) (by decide) dL_law_998 ?_
    refine g_iload S1 dL_law_999 0 rfl ?_
    refine g_i2l S1 dL_law_1001 ?_
    refine g_lcmp_eq S1 1008 dL_law_1002 dL_law_1003 (by decide) (fun _ => ?_) (fun c9 => absurd (by first | rfl | exact heq) c9)
    refine g_goto S1 1691 dL_law_1008 (by decide) ?_
    exact g_sub [2, 3, 4, 5, 6, 7] rfl (k9 _ _ _ _ hI1)
  · refine gw Z S0 (c_LW_take _ Z.2.2.2.2.2.2.2.2.2.2.2.1 _ Z.G (hY X.2.1.2 + 295) (fun z => by have := AYC Z.G z; omega) (xs (i + 1)) (xs (i + 2)) X.2.1.2.2.1.2.1 vo Mc _ Mc1 h1 1 (.inl (X.2.1.2.2.1.2.1, 1, .inr (.inl vo))) (fun z hz => by cases hz) (fun k hk => by cases hk; exact Or.inl ⟨rfl, rfl, rfl⟩)) (Nat.le_add_right _ _) (Z.K.sub [1] rfl) (fun H h => ⟨h.1, h.2.2.1⟩) wdL_take q_1298 (Nat.le_of_ble_eq_true rfl) hc hs9 rfl (Nat.le_of_ble_eq_true rfl) dL_law_957 (LWP.wrL Z.G) ?_
    refine g_istore (lv2 := [(6, .int (1 : Int32)), (0, .ref b), (1, .ref (hY X.2.1.2 + 0)), (2, .ref (hY X.2.1.2 + 281 + 0)), (3, .ref (hY X.2.1.2 + 295)), (4, .ref (hY X.2.1.2 + 296)), (5, .int (nI i))]) S1 dL_law_960 (by decide) rfl ?_
    refine g_aload_n S1 dL_law_962 3 rfl ?_
    refine g_aload_n S1 dL_law_963 1 rfl ?_
    refine g_iload S1 dL_law_964 6 rfl ?_
    refine g_iconst S1 (1 : Int32) dL_law_966 rfl ?_
    refine g_iadd S1 dL_law_967 ?_
    refine g_sld Z S1 (i + 1) (show nI i + nI 1 = nI (i + 1) from nI_add i 1) (by omega) dL_law_968 ?_
    refine g_aload_n S1 dL_law_969 1 rfl ?_
    refine g_iload S1 dL_law_970 6 rfl ?_
    refine g_iconst S1 (2 : Int32) dL_law_972 rfl ?_
    refine g_iadd S1 dL_law_973 ?_
    refine g_sld Z S1 (i + 2) (show nI i + nI 2 = nI (i + 2) from nI_add i 2) (by omega) dL_law_974 ?_
    refine gc_I S1 Z.aM (gn_V S1 (Y := YM X.2.1.2) (G2 := gM) rfl Z.K (fun H h => h.2.1) fc8 (by decide) (c_MD_take _ (YM X.2.1.2) rfl (xs (i + 1)) (xs (i + 2)) Mm _ _ h2) wdX8_take q_1299 ⟨Nat.le_of_ble_eq_true rfl, Nat.le_of_ble_eq_true rfl⟩ ⟨by rw [← Z.2.2.2.2.2.2.2.2.2.2.2.2.1]; omega, by rw [← Z.2.2.2.2.2.2.2.2.2.2.2.2.2]; omega⟩ rfl (Nat.le_of_ble_eq_true rfl) dL_law_975) (LWP.mod Z.G) ?_
    refine g_istore (lv2 := [(7, .int r), (6, .int (1 : Int32)), (0, .ref b), (1, .ref (hY X.2.1.2 + 0)), (2, .ref (hY X.2.1.2 + 281 + 0)), (3, .ref (hY X.2.1.2 + 295)), (4, .ref (hY X.2.1.2 + 296)), (5, .int (nI i))]) S1 dL_law_978 (by decide) rfl ?_
    refine g_aload_n S1 dL_law_980 4 rfl ?_
    refine gc_I S1 Z.aM (gn_V S1 (Y := YM X.2.1.2) (G2 := gM) rfl Z.K (fun H h => h.2.1) fc8 (by decide) (c_MD_thrown _ (YM X.2.1.2) rfl Mm1 _ rfl) wdX8_thrown q_1233 ⟨Nat.le_of_ble_eq_true rfl, Nat.le_of_ble_eq_true rfl⟩ ⟨by rw [← Z.2.2.2.2.2.2.2.2.2.2.2.2.1]; omega, by rw [← Z.2.2.2.2.2.2.2.2.2.2.2.2.2]; omega⟩ rfl (Nat.le_of_ble_eq_true rfl) dL_law_981) (LWP.mod Z.G) ?_
    refine g_iload S1 dL_law_984 1 rfl ?_
    refine g_icmp_eq S1 991 dL_law_986 (by decide) (fun _ => ?_) (fun c9 => absurd ht c9)
    refine g_iload S1 dL_law_991 1 rfl ?_
    refine g_if_ne S1 1008 dL_law_993 (by decide) (fun _ => ?_) (fun c9 => absurd c9 (by decide))
    refine g_goto S1 1691 dL_law_1008 (by decide) ?_
    exact g_sub [2, 3, 4, 5, 6, 7] rfl (k9 _ _ _ _ hI1)
  · refine gw Z S0 (c_LW_take _ Z.2.2.2.2.2.2.2.2.2.2.2.1 _ Z.G (hY X.2.1.2 + 295) (fun z => by have := AYC Z.G z; omega) (xs (i + 1)) (xs (i + 2)) X.2.1.2.2.1.2.1 vo Mc _ Mc1 h1 2 (.inl (X.2.1.2.2.1.2.1, 1, .inr (.inl vo))) (fun z hz => by cases hz) (fun k hk => by cases hk; exact Or.inr (⟨rfl, rfl, rfl⟩))) (Nat.le_add_right _ _) (Z.K.sub [1] rfl) (fun H h => ⟨h.1, h.2.2.1⟩) wdL_take q_1298 (Nat.le_of_ble_eq_true rfl) hc hs9 rfl (Nat.le_of_ble_eq_true rfl) dL_law_957 (LWP.wrL Z.G) ?_
    refine g_istore (lv2 := [(6, .int (2 : Int32)), (0, .ref b), (1, .ref (hY X.2.1.2 + 0)), (2, .ref (hY X.2.1.2 + 281 + 0)), (3, .ref (hY X.2.1.2 + 295)), (4, .ref (hY X.2.1.2 + 296)), (5, .int (nI i))]) S1 dL_law_960 (by decide) rfl ?_
    refine g_aload_n S1 dL_law_962 3 rfl ?_
    refine g_aload_n S1 dL_law_963 1 rfl ?_
    refine g_iload S1 dL_law_964 6 rfl ?_
    refine g_iconst S1 (1 : Int32) dL_law_966 rfl ?_
    refine g_iadd S1 dL_law_967 ?_
    refine g_sld Z S1 (i + 1) (show nI i + nI 1 = nI (i + 1) from nI_add i 1) (by omega) dL_law_968 ?_
    refine g_aload_n S1 dL_law_969 1 rfl ?_
    refine g_iload S1 dL_law_970 6 rfl ?_
    refine g_iconst S1 (2 : Int32) dL_law_972 rfl ?_
    refine g_iadd S1 dL_law_973 ?_
    refine g_sld Z S1 (i + 2) (show nI i + nI 2 = nI (i + 2) from nI_add i 2) (by omega) dL_law_974 ?_
    refine gc_I S1 Z.aM (gn_V S1 (Y := YM X.2.1.2) (G2 := gM) rfl Z.K (fun H h => h.2.1) fc8 (by decide) (c_MD_take _ (YM X.2.1.2) rfl (xs (i + 1)) (xs (i + 2)) Mm _ _ h2) wdX8_take q_1299 ⟨Nat.le_of_ble_eq_true rfl, Nat.le_of_ble_eq_true rfl⟩ ⟨by rw [← Z.2.2.2.2.2.2.2.2.2.2.2.2.1]; omega, by rw [← Z.2.2.2.2.2.2.2.2.2.2.2.2.2]; omega⟩ rfl (Nat.le_of_ble_eq_true rfl) dL_law_975) (LWP.mod Z.G) ?_
    refine g_istore (lv2 := [(7, .int r), (6, .int (2 : Int32)), (0, .ref b), (1, .ref (hY X.2.1.2 + 0)), (2, .ref (hY X.2.1.2 + 281 + 0)), (3, .ref (hY X.2.1.2 + 295)), (4, .ref (hY X.2.1.2 + 296)), (5, .int (nI i))]) S1 dL_law_978 (by decide) rfl ?_
    refine g_aload_n S1 dL_law_980 4 rfl ?_
    refine gc_I S1 Z.aM (gn_V S1 (Y := YM X.2.1.2) (G2 := gM) rfl Z.K (fun H h => h.2.1) fc8 (by decide) (c_MD_thrown _ (YM X.2.1.2) rfl Mm1 _ rfl) wdX8_thrown q_1233 ⟨Nat.le_of_ble_eq_true rfl, Nat.le_of_ble_eq_true rfl⟩ ⟨by rw [← Z.2.2.2.2.2.2.2.2.2.2.2.2.1]; omega, by rw [← Z.2.2.2.2.2.2.2.2.2.2.2.2.2]; omega⟩ rfl (Nat.le_of_ble_eq_true rfl) dL_law_981) (LWP.mod Z.G) ?_
    refine g_iload S1 dL_law_984 1 rfl ?_
    refine g_icmp_eq S1 991 dL_law_986 (by decide) (fun _ => ?_) (fun c9 => absurd ht c9)
    refine g_iload S1 dL_law_991 1 rfl ?_
    refine g_if_ne S1 1008 dL_law_993 (by decide) (fun _ => ?_) (fun c9 => absurd c9 (by decide))
    refine g_goto S1 1691 dL_law_1008 (by decide) ?_
    exact g_sub [2, 3, 4, 5, 6, 7] rfl (k9 _ _ _ _ hI1)
set_option maxRecDepth 100000 in
set_option maxHeartbeats 4000000 in
theorem lc_12 {X : Cx} {b L : Nat} {xs : Nat → Int32} {cD : ClassId} (Z : LX X b L xs cD) {Inv : Mem → Mem → Prop} (hs : Sim12 Inv) (i : Nat) (hi : i + 4 ≤ L) {Mc Mm : Mem} {vo : Nat → Int64} {vd : Nat → UInt64} (hI : Inv Mc Mm) (c s : Nat) (hc : c + 1 ≤ 601024) (hs9 : s + 6 ≤ 7293034) (k9 : ∀ Mc1 Mm1 vo1 vd1, Inv Mc1 Mm1 → AG (setX X (c + 1) (s + 6)) 1691 [(0, .ref b), (1, .ref (hY X.2.1.2 + 0)), (2, .ref (hY X.2.1.2 + 281 + 0)), (3, .ref (hY X.2.1.2 + 295)), (4, .ref (hY X.2.1.2 + 296)), (5, .int (nI i))] [] (LWP X.2.1.2 cD Mc1 Mm1 vo1 vd1)) : AG (setX X c s) 1011 [(0, .ref b), (1, .ref (hY X.2.1.2 + 0)), (2, .ref (hY X.2.1.2 + 281 + 0)), (3, .ref (hY X.2.1.2 + 295)), (4, .ref (hY X.2.1.2 + 296)), (5, .int (nI i))] [] (LWP X.2.1.2 cD Mc Mm vo vd) := by
  have S0 := Z.1 c s (by omega) (by omega)
  have S1 := Z.1 (c + 1) (s + 6) hc hs9
  have hL := Z.2.2.2.2.2.1
  refine g_aload_n S0 dL_law_1011 1 rfl ?_
  refine g_aload_n S0 dL_law_1012 0 rfl ?_
  refine g_iload S0 dL_law_1013 5 rfl ?_
  refine g_iconst S0 (1 : Int32) dL_law_1015 rfl ?_
  refine g_iadd S0 dL_law_1016 ?_
  refine g_sld Z S0 (i + 1) (show nI i + nI 1 = nI (i + 1) from nI_add i 1) (by omega) dL_law_1017 ?_
  refine g_aload_n S0 dL_law_1018 3 rfl ?_
  obtain ⟨res, Mc1, r, Mm1, h1, h2, hI1, hcase⟩ := hs Mc Mm (xs (i + 1)) hI
  rcases hcase with ⟨v, rfl, ht, rfl⟩ | ⟨rfl, ht⟩
  · refine gw Z S0 (c_LW_balance _ Z.2.2.2.2.2.2.2.2.2.2.2.1 _ Z.G (hY X.2.1.2 + 295) (fun z => by have := AYC Z.G z; omega) (xs (i + 1)) X.2.1.2.2.1.2.1 vo Mc _ Mc1 h1 0 (.inl (X.2.1.2.2.1.2.1, 1, .inr (.inl (vp_updL vo 0 r)))) (fun z hz => by cases hz; exact ⟨rfl, rfl⟩) (fun k hk => by cases hk)) (Nat.le_add_right _ _) (Z.K.sub [1] rfl) (fun H h => ⟨h.1, h.2.2.1⟩) wdL_balance q_1304 (Nat.le_of_ble_eq_true rfl) hc hs9 rfl (Nat.le_of_ble_eq_true rfl) dL_law_1019 (LWP.wrL Z.G) ?_
    refine g_istore (lv2 := [(6, .int (0 : Int32)), (0, .ref b), (1, .ref (hY X.2.1.2 + 0)), (2, .ref (hY X.2.1.2 + 281 + 0)), (3, .ref (hY X.2.1.2 + 295)), (4, .ref (hY X.2.1.2 + 296)), (5, .int (nI i))]) S1 dL_law_1022 (by decide) rfl ?_
    refine g_aload_n S1 dL_law_1024 3 rfl ?_
    refine g_aload_n S1 dL_law_1025 1 rfl ?_
    refine g_iload S1 dL_law_1026 6 rfl ?_
    refine g_iconst S1 (1 : Int32) dL_law_1028 rfl ?_
    refine g_iadd S1 dL_law_1029 ?_
    refine g_sld Z S1 (i + 1) (show nI i + nI 1 = nI (i + 1) from nI_add i 1) (by omega) dL_law_1030 ?_
    refine gc_L S1 Z.aM (gn_V S1 (Y := YM X.2.1.2) (G2 := gM) rfl Z.K (fun H h => h.2.1) fc8 (by decide) (c_MD_balance _ (YM X.2.1.2) rfl (xs (i + 1)) Mm _ _ h2) wdX8_balance q_1305 ⟨Nat.le_of_ble_eq_true rfl, Nat.le_of_ble_eq_true rfl⟩ ⟨by rw [← Z.2.2.2.2.2.2.2.2.2.2.2.2.1]; omega, by rw [← Z.2.2.2.2.2.2.2.2.2.2.2.2.2]; omega⟩ rfl (Nat.le_of_ble_eq_true rfl) dL_law_1031) (LWP.mod Z.G) ?_
    refine g_lstore (lv2 := [(7, .long r), (6, .int (0 : Int32)), (0, .ref b), (1, .ref (hY X.2.1.2 + 0)), (2, .ref (hY X.2.1.2 + 281 + 0)), (3, .ref (hY X.2.1.2 + 295)), (4, .ref (hY X.2.1.2 + 296)), (5, .int (nI i))]) S1 dL_law_1034 (by decide) rfl ?_
    refine g_aload_n S1 dL_law_1036 4 rfl ?_
    refine gc_I S1 Z.aM (gn_V S1 (Y := YM X.2.1.2) (G2 := gM) rfl Z.K (fun H h => h.2.1) fc8 (by decide) (c_MD_thrown _ (YM X.2.1.2) rfl Mm1 _ rfl) wdX8_thrown q_1233 ⟨Nat.le_of_ble_eq_true rfl, Nat.le_of_ble_eq_true rfl⟩ ⟨by rw [← Z.2.2.2.2.2.2.2.2.2.2.2.2.1]; omega, by rw [← Z.2.2.2.2.2.2.2.2.2.2.2.2.2]; omega⟩ rfl (Nat.le_of_ble_eq_true rfl) dL_law_1037) (LWP.mod Z.G) ?_
    refine g_iload S1 dL_law_1040 1 rfl ?_
    refine g_icmp_eq S1 1047 dL_law_1042 (by decide) (fun _ => ?_) (fun c9 => absurd ht c9)
    refine g_iload S1 dL_law_1047 1 rfl ?_
    refine g_if_ne S1 1063 dL_law_1049 (by decide) (fun c9 => absurd rfl c9) (fun _ => ?_)
    refine g_aload_n S1 dL_law_1052 5 rfl ?_
    refine g_iconst S1 (0 : Int32) dL_law_1053 rfl ?_
    refine g_lldE S1 (fun H h => h.2.2.1) (Z.K.sub [1] rfl) (by decide) dL_law_1054 ?_
    refine g_lload S1 dL_law_1055 0 rfl ?_
    refine g_lcmp_eq S1 1063 dL_law_1057 dL_law_1058 (by decide) (fun _ => ?_) (fun c9 => absurd (by first | rfl | exact heq) c9)
    refine g_goto S1 1691 dL_law_1063 (by decide) ?_
    exact g_sub [2, 3, 4, 5, 6, 7] rfl (k9 _ _ _ _ hI1)
  · refine gw Z S0 (c_LW_balance _ Z.2.2.2.2.2.2.2.2.2.2.2.1 _ Z.G (hY X.2.1.2 + 295) (fun z => by have := AYC Z.G z; omega) (xs (i + 1)) X.2.1.2.2.1.2.1 vo Mc _ Mc1 h1 1 (.inl (X.2.1.2.2.1.2.1, 1, .inr (.inl vo))) (fun z hz => by cases hz) (fun k hk => by cases hk; exact ⟨rfl, rfl, rfl⟩)) (Nat.le_add_right _ _) (Z.K.sub [1] rfl) (fun H h => ⟨h.1, h.2.2.1⟩) wdL_balance q_1304 (Nat.le_of_ble_eq_true rfl) hc hs9 rfl (Nat.le_of_ble_eq_true rfl) dL_law_1019 (LWP.wrL Z.G) ?_
    refine g_istore (lv2 := [(6, .int (1 : Int32)), (0, .ref b), (1, .ref (hY X.2.1.2 + 0)), (2, .ref (hY X.2.1.2 + 281 + 0)), (3, .ref (hY X.2.1.2 + 295)), (4, .ref (hY X.2.1.2 + 296)), (5, .int (nI i))]) S1 dL_law_1022 (by decide) rfl ?_
    refine g_aload_n S1 dL_law_1024 3 rfl ?_
    refine g_aload_n S1 dL_law_1025 1 rfl ?_
    refine g_iload S1 dL_law_1026 6 rfl ?_
    refine g_iconst S1 (1 : Int32) dL_law_1028 rfl ?_
    refine g_iadd S1 dL_law_1029 ?_
    refine g_sld Z S1 (i + 1) (show nI i + nI 1 = nI (i + 1) from nI_add i 1) (by omega) dL_law_1030 ?_
    refine gc_L S1 Z.aM (gn_V S1 (Y := YM X.2.1.2) (G2 := gM) rfl Z.K (fun H h => h.2.1) fc8 (by decide) (c_MD_balance _ (YM X.2.1.2) rfl (xs (i + 1)) Mm _ _ h2) wdX8_balance q_1305 ⟨Nat.le_of_ble_eq_true rfl, Nat.le_of_ble_eq_true rfl⟩ ⟨by rw [← Z.2.2.2.2.2.2.2.2.2.2.2.2.1]; omega, by rw [← Z.2.2.2.2.2.2.2.2.2.2.2.2.2]; omega⟩ rfl (Nat.le_of_ble_eq_true rfl) dL_law_1031) (LWP.mod Z.G) ?_
    refine g_lstore (lv2 := [(7, .long r), (6, .int (1 : Int32)), (0, .ref b), (1, .ref (hY X.2.1.2 + 0)), (2, .ref (hY X.2.1.2 + 281 + 0)), (3, .ref (hY X.2.1.2 + 295)), (4, .ref (hY X.2.1.2 + 296)), (5, .int (nI i))]) S1 dL_law_1034 (by decide) rfl ?_
    refine g_aload_n S1 dL_law_1036 4 rfl ?_
    refine gc_I S1 Z.aM (gn_V S1 (Y := YM X.2.1.2) (G2 := gM) rfl Z.K (fun H h => h.2.1) fc8 (by decide) (c_MD_thrown _ (YM X.2.1.2) rfl Mm1 _ rfl) wdX8_thrown q_1233 ⟨Nat.le_of_ble_eq_true rfl, Nat.le_of_ble_eq_true rfl⟩ ⟨by rw [← Z.2.2.2.2.2.2.2.2.2.2.2.2.1]; omega, by rw [← Z.2.2.2.2.2.2.2.2.2.2.2.2.2]; omega⟩ rfl (Nat.le_of_ble_eq_true rfl) dL_law_1037) (LWP.mod Z.G) ?_
    refine g_iload S1 dL_law_1040 1 rfl ?_
    refine g_icmp_eq S1 1047 dL_law_1042 (by decide) (fun _ => ?_) (fun c9 => absurd ht c9)
    refine g_iload S1 dL_law_1047 1 rfl ?_
    refine g_if_ne S1 1063 dL_law_1049 (by decide) (fun _ => ?_) (fun c9 => absurd c9 (by decide))
    refine g_goto S1 1691 dL_law_1063 (by decide) ?_
    exact g_sub [2, 3, 4, 5, 6, 7] rfl (k9 _ _ _ _ hI1)
set_option maxRecDepth 100000 in
set_option maxHeartbeats 4000000 in
theorem lc_13 {X : Cx} {b L : Nat} {xs : Nat → Int32} {cD : ClassId} (Z : LX X b L xs cD) {Inv : Mem → Mem → Prop} (hs : Sim13 Inv) (i : Nat) (hi : i + 4 ≤ L) {Mc Mm : Mem} {vo : Nat → Int64} {vd : Nat → UInt64} (hI : Inv Mc Mm) (c s : Nat) (hc : c + 2 ≤ 601024) (hs9 : s + 12 ≤ 7293034) (k9 : ∀ Mc1 Mm1 vo1 vd1, Inv Mc1 Mm1 → AG (setX X (c + 2) (s + 12)) 1691 [(0, .ref b), (1, .ref (hY X.2.1.2 + 0)), (2, .ref (hY X.2.1.2 + 281 + 0)), (3, .ref (hY X.2.1.2 + 295)), (4, .ref (hY X.2.1.2 + 296)), (5, .int (nI i))] [] (LWP X.2.1.2 cD Mc1 Mm1 vo1 vd1)) : AG (setX X c s) 1066 [(0, .ref b), (1, .ref (hY X.2.1.2 + 0)), (2, .ref (hY X.2.1.2 + 281 + 0)), (3, .ref (hY X.2.1.2 + 295)), (4, .ref (hY X.2.1.2 + 296)), (5, .int (nI i))] [] (LWP X.2.1.2 cD Mc Mm vo vd) := by
  have S0 := Z.1 c s (by omega) (by omega)
  have S1 := Z.1 (c + 2) (s + 12) hc hs9
  have hL := Z.2.2.2.2.2.1
  refine g_aload_n S0 dL_law_1066 1 rfl ?_
  refine g_aload_n S0 dL_law_1067 0 rfl ?_
  refine g_iload S0 dL_law_1068 5 rfl ?_
  refine g_iconst S0 (1 : Int32) dL_law_1070 rfl ?_
  refine g_iadd S0 dL_law_1071 ?_
  refine g_sld Z S0 (i + 1) (show nI i + nI 1 = nI (i + 1) from nI_add i 1) (by omega) dL_law_1072 ?_
  refine g_aload_n S0 dL_law_1073 0 rfl ?_
  refine g_iload S0 dL_law_1074 5 rfl ?_
  refine g_iconst S0 (2 : Int32) dL_law_1076 rfl ?_
  refine g_iadd S0 dL_law_1077 ?_
  refine g_sld Z S0 (i + 2) (show nI i + nI 2 = nI (i + 2) from nI_add i 2) (by omega) dL_law_1078 ?_
  refine g_aload_n S0 dL_law_1079 3 rfl ?_
  obtain ⟨res, Mc1, r, Mm1, h1, h2, hI1, hcase⟩ := hs Mc Mm (xs (i + 1)) (xs (i + 2)) hI
  rcases hcase with ⟨v, rfl, ht, rfl⟩ | ⟨rfl, ht⟩ | ⟨rfl, ht⟩
  · refine gw Z S0 (c_LW_lake _ Z.2.2.2.2.2.2.2.2.2.2.2.1 _ Z.G (hY X.2.1.2 + 295) (fun z => by have := AYC Z.G z; omega) (xs (i + 1)) (xs (i + 2)) X.2.1.2.2.1.2.1 vo Mc _ Mc1 h1 0 (.inl (X.2.1.2.2.1.2.1, 1, .inr (.inl (vp_updL vo 0 r.toInt64)))) (fun z hz => by cases hz; exact ⟨rfl, rfl⟩) (fun k hk => by cases hk)) (Nat.le_add_right _ _) (Z.K.sub [1] rfl) (fun H h => ⟨h.1, h.2.2.1⟩) wdL_lake q_1310 (Nat.le_of_ble_eq_true rfl) hc hs9 rfl (Nat.le_of_ble_eq_true rfl) dL_law_1080 (LWP.wrL Z.G) ?_
    refine g_istore (lv2 := [(6, .int (0 : Int32)), (0, .ref b), (1, .ref (hY X.2.1.2 + 0)), (2, .ref (hY X.2.1.2 + 281 + 0)), (3, .ref (hY X.2.1.2 + 295)), (4, .ref (hY X.2.1.2 + 296)), (5, .int (nI i))]) S1 dL_law_1083 (by decide) rfl ?_
    refine g_aload_n S1 dL_law_1085 3 rfl ?_
    refine g_aload_n S1 dL_law_1086 1 rfl ?_
    refine g_iload S1 dL_law_1087 6 rfl ?_
    refine g_iconst S1 (1 : Int32) dL_law_1089 rfl ?_
    refine g_iadd S1 dL_law_1090 ?_
    refine g_sld Z S1 (i + 1) (show nI i + nI 1 = nI (i + 1) from nI_add i 1) (by omega) dL_law_1091 ?_
    refine g_aload_n S1 dL_law_1092 1 rfl ?_
    refine g_iload S1 dL_law_1093 6 rfl ?_
    refine g_iconst S1 (2 : Int32) dL_law_1095 rfl ?_
    refine g_iadd S1 dL_law_1096 ?_
    refine g_sld Z S1 (i + 2) (show nI i + nI 2 = nI (i + 2) from nI_add i 2) (by omega) dL_law_1097 ?_
    refine gc_I S1 Z.aM (gn_V S1 (Y := YM X.2.1.2) (G2 := gM) rfl Z.K (fun H h => h.2.1) fc8 (by decide) (c_MD_lake _ (YM X.2.1.2) rfl (xs (i + 1)) (xs (i + 2)) Mm _ _ h2) wdX8_lake q_1311 ⟨Nat.le_of_ble_eq_true rfl, Nat.le_of_ble_eq_true rfl⟩ ⟨by rw [← Z.2.2.2.2.2.2.2.2.2.2.2.2.1]; omega, by rw [← Z.2.2.2.2.2.2.2.2.2.2.2.2.2]; omega⟩ rfl (Nat.le_of_ble_eq_true rfl) dL_law_1098) (LWP.mod Z.G) ?_
    refine g_istore (lv2 := [(7, .int r), (6, .int (0 : Int32)), (0, .ref b), (1, .ref (hY X.2.1.2 + 0)), (2, .ref (hY X.2.1.2 + 281 + 0)), (3, .ref (hY X.2.1.2 + 295)), (4, .ref (hY X.2.1.2 + 296)), (5, .int (nI i))]) S1 dL_law_1101 (by decide) rfl ?_
    refine g_aload_n S1 dL_law_1103 4 rfl ?_
    refine gc_I S1 Z.aM (gn_V S1 (Y := YM X.2.1.2) (G2 := gM) rfl Z.K (fun H h => h.2.1) fc8 (by decide) (c_MD_thrown _ (YM X.2.1.2) rfl Mm1 _ rfl) wdX8_thrown q_1233 ⟨Nat.le_of_ble_eq_true rfl, Nat.le_of_ble_eq_true rfl⟩ ⟨by rw [← Z.2.2.2.2.2.2.2.2.2.2.2.2.1]; omega, by rw [← Z.2.2.2.2.2.2.2.2.2.2.2.2.2]; omega⟩ rfl (Nat.le_of_ble_eq_true rfl) dL_law_1104) (LWP.mod Z.G) ?_
    refine g_iload S1 dL_law_1107 1 rfl ?_
    refine g_icmp_eq S1 1114 dL_law_1109 (by decide) (fun _ => ?_) (fun c9 => absurd ht c9)
    refine g_iload S1 dL_law_1114 1 rfl ?_
    refine g_if_ne S1 1131 dL_law_1116 (by decide) (fun c9 => absurd rfl c9) (fun _ => ?_)
    refine g_aload_n S1 dL_law_1119 5 rfl ?_
    refine g_iconst S1 (0 : Int32) dL_law_1120 rfl ?_
    refine g_lldE S1 (fun H h => h.2.2.1) (Z.K.sub [1] rfl) (by decide) dL_law_1121 ?_
    refine g_iload S1 dL_law_1122 0 rfl ?_
    refine g_i2l S1 dL_law_1124 ?_
    refine g_lcmp_eq S1 1131 dL_law_1125 dL_law_1126 (by decide) (fun _ => ?_) (fun c9 => absurd (by first | rfl | exact heq) c9)
    refine g_goto S1 1691 dL_law_1131 (by decide) ?_
    exact g_sub [2, 3, 4, 5, 6, 7] rfl (k9 _ _ _ _ hI1)
  · refine gw Z S0 (c_LW_lake _ Z.2.2.2.2.2.2.2.2.2.2.2.1 _ Z.G (hY X.2.1.2 + 295) (fun z => by have := AYC Z.G z; omega) (xs (i + 1)) (xs (i + 2)) X.2.1.2.2.1.2.1 vo Mc _ Mc1 h1 1 (.inl (X.2.1.2.2.1.2.1, 1, .inr (.inl vo))) (fun z hz => by cases hz) (fun k hk => by cases hk; exact Or.inl ⟨rfl, rfl, rfl⟩)) (Nat.le_add_right _ _) (Z.K.sub [1] rfl) (fun H h => ⟨h.1, h.2.2.1⟩) wdL_lake q_1310 (Nat.le_of_ble_eq_true rfl) hc hs9 rfl (Nat.le_of_ble_eq_true rfl) dL_law_1080 (LWP.wrL Z.G) ?_
    refine g_istore (lv2 := [(6, .int (1 : Int32)), (0, .ref b), (1, .ref (hY X.2.1.2 + 0)), (2, .ref (hY X.2.1.2 + 281 + 0)), (3, .ref (hY X.2.1.2 + 295)), (4, .ref (hY X.2.1.2 + 296)), (5, .int (nI i))]) S1 dL_law_1083 (by decide) rfl ?_
    refine g_aload_n S1 dL_law_1085 3 rfl ?_
    refine g_aload_n S1 dL_law_1086 1 rfl ?_
    refine g_iload S1 dL_law_1087 6 rfl ?_
    refine g_iconst S1 (1 : Int32) dL_law_1089 rfl ?_
    refine g_iadd S1 dL_law_1090 ?_
    refine g_sld Z S1 (i + 1) (show nI i + nI 1 = nI (i + 1) from nI_add i 1) (by omega) dL_law_1091 ?_
    refine g_aload_n S1 dL_law_1092 1 rfl ?_
    refine g_iload S1 dL_law_1093 6 rfl ?_
    refine g_iconst S1 (2 : Int32) dL_law_1095 rfl ?_
    refine g_iadd S1 dL_law_1096 ?_
    refine g_sld Z S1 (i + 2) (show nI i + nI 2 = nI (i + 2) from nI_add i 2) (by omega) dL_law_1097 ?_
    refine gc_I S1 Z.aM (gn_V S1 (Y := YM X.2.1.2) (G2 := gM) rfl Z.K (fun H h => h.2.1) fc8 (by decide) (c_MD_lake _ (YM X.2.1.2) rfl (xs (i + 1)) (xs (i + 2)) Mm _ _ h2) wdX8_lake q_1311 ⟨Nat.le_of_ble_eq_true rfl, Nat.le_of_ble_eq_true rfl⟩ ⟨by rw [← Z.2.2.2.2.2.2.2.2.2.2.2.2.1]; omega, by rw [← Z.2.2.2.2.2.2.2.2.2.2.2.2.2]; omega⟩ rfl (Nat.le_of_ble_eq_true rfl) dL_law_1098) (LWP.mod Z.G) ?_
    refine g_istore (lv2 := [(7, .int r), (6, .int (1 : Int32)), (0, .ref b), (1, .ref (hY X.2.1.2 + 0)), (2, .ref (hY X.2.1.2 + 281 + 0)), (3, .ref (hY X.2.1.2 + 295)), (4, .ref (hY X.2.1.2 + 296)), (5, .int (nI i))]) S1 dL_law_1101 (by decide) rfl ?_
    refine g_aload_n S1 dL_law_1103 4 rfl ?_
    refine gc_I S1 Z.aM (gn_V S1 (Y := YM X.2.1.2) (G2 := gM) rfl Z.K (fun H h => h.2.1) fc8 (by decide) (c_MD_thrown _ (YM X.2.1.2) rfl Mm1 _ rfl) wdX8_thrown q_1233 ⟨Nat.le_of_ble_eq_true rfl, Nat.le_of_ble_eq_true rfl⟩ ⟨by rw [← Z.2.2.2.2.2.2.2.2.2.2.2.2.1]; omega, by rw [← Z.2.2.2.2.2.2.2.2.2.2.2.2.2]; omega⟩ rfl (Nat.le_of_ble_eq_true rfl) dL_law_1104) (LWP.mod Z.G) ?_
    refine g_iload S1 dL_law_1107 1 rfl ?_
    refine g_icmp_eq S1 1114 dL_law_1109 (by decide) (fun _ => ?_) (fun c9 => absurd ht c9)
    refine g_iload S1 dL_law_1114 1 rfl ?_
    refine g_if_ne S1 1131 dL_law_1116 (by decide) (fun _ => ?_) (fun c9 => absurd c9 (by decide))
    refine g_goto S1 1691 dL_law_1131 (by decide) ?_
    exact g_sub [2, 3, 4, 5, 6, 7] rfl (k9 _ _ _ _ hI1)
  · refine gw Z S0 (c_LW_lake _ Z.2.2.2.2.2.2.2.2.2.2.2.1 _ Z.G (hY X.2.1.2 + 295) (fun z => by have := AYC Z.G z; omega) (xs (i + 1)) (xs (i + 2)) X.2.1.2.2.1.2.1 vo Mc _ Mc1 h1 2 (.inl (X.2.1.2.2.1.2.1, 1, .inr (.inl vo))) (fun z hz => by cases hz) (fun k hk => by cases hk; exact Or.inr (⟨rfl, rfl, rfl⟩))) (Nat.le_add_right _ _) (Z.K.sub [1] rfl) (fun H h => ⟨h.1, h.2.2.1⟩) wdL_lake q_1310 (Nat.le_of_ble_eq_true rfl) hc hs9 rfl (Nat.le_of_ble_eq_true rfl) dL_law_1080 (LWP.wrL Z.G) ?_
    refine g_istore (lv2 := [(6, .int (2 : Int32)), (0, .ref b), (1, .ref (hY X.2.1.2 + 0)), (2, .ref (hY X.2.1.2 + 281 + 0)), (3, .ref (hY X.2.1.2 + 295)), (4, .ref (hY X.2.1.2 + 296)), (5, .int (nI i))]) S1 dL_law_1083 (by decide) rfl ?_
    refine g_aload_n S1 dL_law_1085 3 rfl ?_
    refine g_aload_n S1 dL_law_1086 1 rfl ?_
    refine g_iload S1 dL_law_1087 6 rfl ?_
    refine g_iconst S1 (1 : Int32) dL_law_1089 rfl ?_
    refine g_iadd S1 dL_law_1090 ?_
    refine g_sld Z S1 (i + 1) (show nI i + nI 1 = nI (i + 1) from nI_add i 1) (by omega) dL_law_1091 ?_
    refine g_aload_n S1 dL_law_1092 1 rfl ?_
    refine g_iload S1 dL_law_1093 6 rfl ?_
    refine g_iconst S1 (2 : Int32) dL_law_1095 rfl ?_
    refine g_iadd S1 dL_law_1096 ?_
    refine g_sld Z S1 (i + 2) (show nI i + nI 2 = nI (i + 2) from nI_add i 2) (by omega) dL_law_1097 ?_
    refine gc_I S1 Z.aM (gn_V S1 (Y := YM X.2.1.2) (G2 := gM) rfl Z.K (fun H h => h.2.1) fc8 (by decide) (c_MD_lake _ (YM X.2.1.2) rfl (xs (i + 1)) (xs (i + 2)) Mm _ _ h2) wdX8_lake q_1311 ⟨Nat.le_of_ble_eq_true rfl, Nat.le_of_ble_eq_true rfl⟩ ⟨by rw [← Z.2.2.2.2.2.2.2.2.2.2.2.2.1]; omega, by rw [← Z.2.2.2.2.2.2.2.2.2.2.2.2.2]; omega⟩ rfl (Nat.le_of_ble_eq_true rfl) dL_law_1098) (LWP.mod Z.G) ?_
    refine g_istore (lv2 := [(7, .int r), (6, .int (2 : Int32)), (0, .ref b), (1, .ref (hY X.2.1.2 + 0)), (2, .ref (hY X.2.1.2 + 281 + 0)), (3, .ref (hY X.2.1.2 + 295)), (4, .ref (hY X.2.1.2 + 296)), (5, .int (nI i))]) S1 dL_law_1101 (by decide) rfl ?_
    refine g_aload_n S1 dL_law_1103 4 rfl ?_
    refine gc_I S1 Z.aM (gn_V S1 (Y := YM X.2.1.2) (G2 := gM) rfl Z.K (fun H h => h.2.1) fc8 (by decide) (c_MD_thrown _ (YM X.2.1.2) rfl Mm1 _ rfl) wdX8_thrown q_1233 ⟨Nat.le_of_ble_eq_true rfl, Nat.le_of_ble_eq_true rfl⟩ ⟨by rw [← Z.2.2.2.2.2.2.2.2.2.2.2.2.1]; omega, by rw [← Z.2.2.2.2.2.2.2.2.2.2.2.2.2]; omega⟩ rfl (Nat.le_of_ble_eq_true rfl) dL_law_1104) (LWP.mod Z.G) ?_
    refine g_iload S1 dL_law_1107 1 rfl ?_
    refine g_icmp_eq S1 1114 dL_law_1109 (by decide) (fun _ => ?_) (fun c9 => absurd ht c9)
    refine g_iload S1 dL_law_1114 1 rfl ?_
    refine g_if_ne S1 1131 dL_law_1116 (by decide) (fun _ => ?_) (fun c9 => absurd c9 (by decide))
    refine g_goto S1 1691 dL_law_1131 (by decide) ?_
    exact g_sub [2, 3, 4, 5, 6, 7] rfl (k9 _ _ _ _ hI1)
set_option maxRecDepth 100000 in
set_option maxHeartbeats 4000000 in
theorem lc_14 {X : Cx} {b L : Nat} {xs : Nat → Int32} {cD : ClassId} (Z : LX X b L xs cD) {Inv : Mem → Mem → Prop} (hs : Sim14 Inv) (i : Nat) (hi : i + 4 ≤ L) {Mc Mm : Mem} {vo : Nat → Int64} {vd : Nat → UInt64} (hI : Inv Mc Mm) (c s : Nat) (hc : c + 1 ≤ 601024) (hs9 : s + 6 ≤ 7293034) (k9 : ∀ Mc1 Mm1 vo1 vd1, Inv Mc1 Mm1 → AG (setX X (c + 1) (s + 6)) 1691 [(0, .ref b), (1, .ref (hY X.2.1.2 + 0)), (2, .ref (hY X.2.1.2 + 281 + 0)), (3, .ref (hY X.2.1.2 + 295)), (4, .ref (hY X.2.1.2 + 296)), (5, .int (nI i))] [] (LWP X.2.1.2 cD Mc1 Mm1 vo1 vd1)) : AG (setX X c s) 1134 [(0, .ref b), (1, .ref (hY X.2.1.2 + 0)), (2, .ref (hY X.2.1.2 + 281 + 0)), (3, .ref (hY X.2.1.2 + 295)), (4, .ref (hY X.2.1.2 + 296)), (5, .int (nI i))] [] (LWP X.2.1.2 cD Mc Mm vo vd) := by
  have S0 := Z.1 c s (by omega) (by omega)
  have S1 := Z.1 (c + 1) (s + 6) hc hs9
  have hL := Z.2.2.2.2.2.1
  refine g_aload_n S0 dL_law_1134 1 rfl ?_
  refine g_aload_n S0 dL_law_1135 0 rfl ?_
  refine g_iload S0 dL_law_1136 5 rfl ?_
  refine g_iconst S0 (1 : Int32) dL_law_1138 rfl ?_
  refine g_iadd S0 dL_law_1139 ?_
  refine g_sld Z S0 (i + 1) (show nI i + nI 1 = nI (i + 1) from nI_add i 1) (by omega) dL_law_1140 ?_
  refine g_aload_n S0 dL_law_1141 3 rfl ?_
  obtain ⟨res, Mc1, r, Mm1, h1, h2, hI1, hcase⟩ := hs Mc Mm (xs (i + 1)) hI
  rcases hcase with ⟨v, rfl, ht, rfl⟩ | ⟨rfl, ht⟩
  · refine gw Z S0 (c_LW_lakeCells _ Z.2.2.2.2.2.2.2.2.2.2.2.1 _ Z.G (hY X.2.1.2 + 295) (fun z => by have := AYC Z.G z; omega) (xs (i + 1)) X.2.1.2.2.1.2.1 vo Mc _ Mc1 h1 0 (.inl (X.2.1.2.2.1.2.1, 1, .inr (.inl (vp_updL vo 0 r)))) (fun z hz => by cases hz; exact ⟨rfl, rfl⟩) (fun k hk => by cases hk)) (Nat.le_add_right _ _) (Z.K.sub [1] rfl) (fun H h => ⟨h.1, h.2.2.1⟩) wdL_lakeCells q_1316 (Nat.le_of_ble_eq_true rfl) hc hs9 rfl (Nat.le_of_ble_eq_true rfl) dL_law_1142 (LWP.wrL Z.G) ?_
    refine g_istore (lv2 := [(6, .int (0 : Int32)), (0, .ref b), (1, .ref (hY X.2.1.2 + 0)), (2, .ref (hY X.2.1.2 + 281 + 0)), (3, .ref (hY X.2.1.2 + 295)), (4, .ref (hY X.2.1.2 + 296)), (5, .int (nI i))]) S1 dL_law_1145 (by decide) rfl ?_
    refine g_aload_n S1 dL_law_1147 3 rfl ?_
    refine g_aload_n S1 dL_law_1148 1 rfl ?_
    refine g_iload S1 dL_law_1149 6 rfl ?_
    refine g_iconst S1 (1 : Int32) dL_law_1151 rfl ?_
    refine g_iadd S1 dL_law_1152 ?_
    refine g_sld Z S1 (i + 1) (show nI i + nI 1 = nI (i + 1) from nI_add i 1) (by omega) dL_law_1153 ?_
    refine gc_L S1 Z.aM (gn_V S1 (Y := YM X.2.1.2) (G2 := gM) rfl Z.K (fun H h => h.2.1) fc8 (by decide) (c_MD_lakeCells _ (YM X.2.1.2) rfl (xs (i + 1)) Mm _ _ h2) wdX8_lakeCells q_1317 ⟨Nat.le_of_ble_eq_true rfl, Nat.le_of_ble_eq_true rfl⟩ ⟨by rw [← Z.2.2.2.2.2.2.2.2.2.2.2.2.1]; omega, by rw [← Z.2.2.2.2.2.2.2.2.2.2.2.2.2]; omega⟩ rfl (Nat.le_of_ble_eq_true rfl) dL_law_1154) (LWP.mod Z.G) ?_
    refine g_lstore (lv2 := [(7, .long r), (6, .int (0 : Int32)), (0, .ref b), (1, .ref (hY X.2.1.2 + 0)), (2, .ref (hY X.2.1.2 + 281 + 0)), (3, .ref (hY X.2.1.2 + 295)), (4, .ref (hY X.2.1.2 + 296)), (5, .int (nI i))]) S1 dL_law_1157 (by decide) rfl ?_
    refine g_aload_n S1 dL_law_1159 4 rfl ?_
    refine gc_I S1 Z.aM (gn_V S1 (Y := YM X.2.1.2) (G2 := gM) rfl Z.K (fun H h => h.2.1) fc8 (by decide) (c_MD_thrown _ (YM X.2.1.2) rfl Mm1 _ rfl) wdX8_thrown q_1233 ⟨Nat.le_of_ble_eq_true rfl, Nat.le_of_ble_eq_true rfl⟩ ⟨by rw [← Z.2.2.2.2.2.2.2.2.2.2.2.2.1]; omega, by rw [← Z.2.2.2.2.2.2.2.2.2.2.2.2.2]; omega⟩ rfl (Nat.le_of_ble_eq_true rfl) dL_law_1160) (LWP.mod Z.G) ?_
    refine g_iload S1 dL_law_1163 1 rfl ?_
    refine g_icmp_eq S1 1170 dL_law_1165 (by decide) (fun _ => ?_) (fun c9 => absurd ht c9)
    refine g_iload S1 dL_law_1170 1 rfl ?_
    refine g_if_ne S1 1186 dL_law_1172 (by decide) (fun c9 => absurd rfl c9) (fun _ => ?_)
    refine g_aload_n S1 dL_law_1175 5 rfl ?_
    refine g_iconst S1 (0 : Int32) dL_law_1176 rfl ?_
    refine g_lldE S1 (fun H h => h.2.2.1) (Z.K.sub [1] rfl) (by decide) dL_law_1177 ?_
    refine g_lload S1 dL_law_1178 0 rfl ?_
    refine g_lcmp_eq S1 1186 dL_law_1180 dL_law_1181 (by decide) (fun _ => ?_) (fun c9 => absurd (by first | rfl | exact heq) c9)
    refine g_goto S1 1691 dL_law_1186 (by decide) ?_
    exact g_sub [2, 3, 4, 5, 6, 7] rfl (k9 _ _ _ _ hI1)
  · refine gw Z S0 (c_LW_lakeCells _ Z.2.2.2.2.2.2.2.2.2.2.2.1 _ Z.G (hY X.2.1.2 + 295) (fun z => by have := AYC Z.G z; omega) (xs (i + 1)) X.2.1.2.2.1.2.1 vo Mc _ Mc1 h1 1 (.inl (X.2.1.2.2.1.2.1, 1, .inr (.inl vo))) (fun z hz => by cases hz) (fun k hk => by cases hk; exact ⟨rfl, rfl, rfl⟩)) (Nat.le_add_right _ _) (Z.K.sub [1] rfl) (fun H h => ⟨h.1, h.2.2.1⟩) wdL_lakeCells q_1316 (Nat.le_of_ble_eq_true rfl) hc hs9 rfl (Nat.le_of_ble_eq_true rfl) dL_law_1142 (LWP.wrL Z.G) ?_
    refine g_istore (lv2 := [(6, .int (1 : Int32)), (0, .ref b), (1, .ref (hY X.2.1.2 + 0)), (2, .ref (hY X.2.1.2 + 281 + 0)), (3, .ref (hY X.2.1.2 + 295)), (4, .ref (hY X.2.1.2 + 296)), (5, .int (nI i))]) S1 dL_law_1145 (by decide) rfl ?_
    refine g_aload_n S1 dL_law_1147 3 rfl ?_
    refine g_aload_n S1 dL_law_1148 1 rfl ?_
    refine g_iload S1 dL_law_1149 6 rfl ?_
    refine g_iconst S1 (1 : Int32) dL_law_1151 rfl ?_
    refine g_iadd S1 dL_law_1152 ?_
    refine g_sld Z S1 (i + 1) (show nI i + nI 1 = nI (i + 1) from nI_add i 1) (by omega) dL_law_1153 ?_
    refine gc_L S1 Z.aM (gn_V S1 (Y := YM X.2.1.2) (G2 := gM) rfl Z.K (fun H h => h.2.1) fc8 (by decide) (c_MD_lakeCells _ (YM X.2.1.2) rfl (xs (i + 1)) Mm _ _ h2) wdX8_lakeCells q_1317 ⟨Nat.le_of_ble_eq_true rfl, Nat.le_of_ble_eq_true rfl⟩ ⟨by rw [← Z.2.2.2.2.2.2.2.2.2.2.2.2.1]; omega, by rw [← Z.2.2.2.2.2.2.2.2.2.2.2.2.2]; omega⟩ rfl (Nat.le_of_ble_eq_true rfl) dL_law_1154) (LWP.mod Z.G) ?_
    refine g_lstore (lv2 := [(7, .long r), (6, .int (1 : Int32)), (0, .ref b), (1, .ref (hY X.2.1.2 + 0)), (2, .ref (hY X.2.1.2 + 281 + 0)), (3, .ref (hY X.2.1.2 + 295)), (4, .ref (hY X.2.1.2 + 296)), (5, .int (nI i))]) S1 dL_law_1157 (by decide) rfl ?_
    refine g_aload_n S1 dL_law_1159 4 rfl ?_
    refine gc_I S1 Z.aM (gn_V S1 (Y := YM X.2.1.2) (G2 := gM) rfl Z.K (fun H h => h.2.1) fc8 (by decide) (c_MD_thrown _ (YM X.2.1.2) rfl Mm1 _ rfl) wdX8_thrown q_1233 ⟨Nat.le_of_ble_eq_true rfl, Nat.le_of_ble_eq_true rfl⟩ ⟨by rw [← Z.2.2.2.2.2.2.2.2.2.2.2.2.1]; omega, by rw [← Z.2.2.2.2.2.2.2.2.2.2.2.2.2]; omega⟩ rfl (Nat.le_of_ble_eq_true rfl) dL_law_1160) (LWP.mod Z.G) ?_
    refine g_iload S1 dL_law_1163 1 rfl ?_
    refine g_icmp_eq S1 1170 dL_law_1165 (by decide) (fun _ => ?_) (fun c9 => absurd ht c9)
    refine g_iload S1 dL_law_1170 1 rfl ?_
    refine g_if_ne S1 1186 dL_law_1172 (by decide) (fun _ => ?_) (fun c9 => absurd c9 (by decide))
    refine g_goto S1 1691 dL_law_1186 (by decide) ?_
    exact g_sub [2, 3, 4, 5, 6, 7] rfl (k9 _ _ _ _ hI1)
set_option maxRecDepth 100000 in
set_option maxHeartbeats 4000000 in
theorem lc_15 {X : Cx} {b L : Nat} {xs : Nat → Int32} {cD : ClassId} (Z : LX X b L xs cD) {Inv : Mem → Mem → Prop} (hs : Sim15 Inv) (i : Nat) (hi : i + 4 ≤ L) {Mc Mm : Mem} {vo : Nat → Int64} {vd : Nat → UInt64} (hI : Inv Mc Mm) (c s : Nat) (hc : c + 2 ≤ 601024) (hs9 : s + 12 ≤ 7293034) (k9 : ∀ Mc1 Mm1 vo1 vd1, Inv Mc1 Mm1 → AG (setX X (c + 2) (s + 12)) 1691 [(0, .ref b), (1, .ref (hY X.2.1.2 + 0)), (2, .ref (hY X.2.1.2 + 281 + 0)), (3, .ref (hY X.2.1.2 + 295)), (4, .ref (hY X.2.1.2 + 296)), (5, .int (nI i))] [] (LWP X.2.1.2 cD Mc1 Mm1 vo1 vd1)) : AG (setX X c s) 1189 [(0, .ref b), (1, .ref (hY X.2.1.2 + 0)), (2, .ref (hY X.2.1.2 + 281 + 0)), (3, .ref (hY X.2.1.2 + 295)), (4, .ref (hY X.2.1.2 + 296)), (5, .int (nI i))] [] (LWP X.2.1.2 cD Mc Mm vo vd) := by
  have S0 := Z.1 c s (by omega) (by omega)
  have S1 := Z.1 (c + 2) (s + 12) hc hs9
  have hL := Z.2.2.2.2.2.1
  refine g_aload_n S0 dL_law_1189 1 rfl ?_
  refine g_aload_n S0 dL_law_1190 0 rfl ?_
  refine g_iload S0 dL_law_1191 5 rfl ?_
  refine g_iconst S0 (1 : Int32) dL_law_1193 rfl ?_
  refine g_iadd S0 dL_law_1194 ?_
  refine g_sld Z S0 (i + 1) (show nI i + nI 1 = nI (i + 1) from nI_add i 1) (by omega) dL_law_1195 ?_
  refine g_aload_n S0 dL_law_1196 0 rfl ?_
  refine g_iload S0 dL_law_1197 5 rfl ?_
  refine g_iconst S0 (2 : Int32) dL_law_1199 rfl ?_
  refine g_iadd S0 dL_law_1200 ?_
  refine g_sld Z S0 (i + 2) (show nI i + nI 2 = nI (i + 2) from nI_add i 2) (by omega) dL_law_1201 ?_
  refine g_aload_n S0 dL_law_1202 3 rfl ?_
  obtain ⟨res, Mc1, r, Mm1, h1, h2, hI1, hcase⟩ := hs Mc Mm (xs (i + 1)) (xs (i + 2)) hI
  rcases hcase with ⟨v, rfl, ht, rfl⟩ | ⟨rfl, ht⟩ | ⟨rfl, ht⟩
  · refine gw Z S0 (c_LW_level _ Z.2.2.2.2.2.2.2.2.2.2.2.1 _ Z.G (hY X.2.1.2 + 295) (fun z => by have := AYC Z.G z; omega) (xs (i + 1)) (xs (i + 2)) X.2.1.2.2.1.2.1 vo Mc _ Mc1 h1 0 (.inl (X.2.1.2.2.1.2.1, 1, .inr (.inl (vp_updL vo 0 r.toInt64)))) (fun z hz => by cases hz; exact ⟨rfl, rfl⟩) (fun k hk => by cases hk)) (Nat.le_add_right _ _) (Z.K.sub [1] rfl) (fun H h => ⟨h.1, h.2.2.1⟩) wdL_level q_1322 (Nat.le_of_ble_eq_true rfl) hc hs9 rfl (Nat.le_of_ble_eq_true rfl) dL_law_1203 (LWP.wrL Z.G) ?_
    refine g_istore (lv2 := [(6, .int (0 : Int32)), (0, .ref b), (1, .ref (hY X.2.1.2 + 0)), (2, .ref (hY X.2.1.2 + 281 + 0)), (3, .ref (hY X.2.1.2 + 295)), (4, .ref (hY X.2.1.2 + 296)), (5, .int (nI i))]) S1 dL_law_1206 (by decide) rfl ?_
    refine g_aload_n S1 dL_law_1208 3 rfl ?_
    refine g_aload_n S1 dL_law_1209 1 rfl ?_
    refine g_iload S1 dL_law_1210 6 rfl ?_
    refine g_iconst S1 (1 : Int32) dL_law_1212 rfl ?_
    refine g_iadd S1 dL_law_1213 ?_
    refine g_sld Z S1 (i + 1) (show nI i + nI 1 = nI (i + 1) from nI_add i 1) (by omega) dL_law_1214 ?_
    refine g_aload_n S1 dL_law_1215 1 rfl ?_
    refine g_iload S1 dL_law_1216 6 rfl ?_
    refine g_iconst S1 (2 : Int32) dL_law_1218 rfl ?_
    refine g_iadd S1 dL_law_1219 ?_
    refine g_sld Z S1 (i + 2) (show nI i + nI 2 = nI (i + 2) from nI_add i 2) (by omega) dL_law_1220 ?_
    refine gc_I S1 Z.aM (gn_V S1 (Y := YM X.2.1.2) (G2 := gM) rfl Z.K (fun H h => h.2.1) fc8 (by decide) (c_MD_level _ (YM X.2.1.2) rfl (xs (i + 1)) (xs (i + 2)) Mm _ _ h2) wdX8_level q_1323 ⟨Nat.le_of_ble_eq_true rfl, Nat.le_of_ble_eq_true rfl⟩ ⟨by rw [← Z.2.2.2.2.2.2.2.2.2.2.2.2.1]; omega, by rw [← Z.2.2.2.2.2.2.2.2.2.2.2.2.2]; omega⟩ rfl (Nat.le_of_ble_eq_true rfl) dL_law_1221) (LWP.mod Z.G) ?_
    refine g_istore (lv2 := [(7, .int r), (6, .int (0 : Int32)), (0, .ref b), (1, .ref (hY X.2.1.2 + 0)), (2, .ref (hY X.2.1.2 + 281 + 0)), (3, .ref (hY X.2.1.2 + 295)), (4, .ref (hY X.2.1.2 + 296)), (5, .int (nI i))]) S1 dL_law_1224 (by decide) rfl ?_
    refine g_aload_n S1 dL_law_1226 4 rfl ?_
    refine gc_I S1 Z.aM (gn_V S1 (Y := YM X.2.1.2) (G2 := gM) rfl Z.K (fun H h => h.2.1) fc8 (by decide) (c_MD_thrown _ (YM X.2.1.2) rfl Mm1 _ rfl) wdX8_thrown q_1233 ⟨Nat.le_of_ble_eq_true rfl, Nat.le_of_ble_eq_true rfl⟩ ⟨by rw [← Z.2.2.2.2.2.2.2.2.2.2.2.2.1]; omega, by rw [← Z.2.2.2.2.2.2.2.2.2.2.2.2.2]; omega⟩ rfl (Nat.le_of_ble_eq_true rfl) dL_law_1227) (LWP.mod Z.G) ?_
    refine g_iload S1 dL_law_1230 1 rfl ?_
    refine g_icmp_eq S1 1237 dL_law_1232 (by decide) (fun _ => ?_) (fun c9 => absurd ht c9)
    refine g_iload S1 dL_law_1237 1 rfl ?_
    refine g_if_ne S1 1254 dL_law_1239 (by decide) (fun c9 => absurd rfl c9) (fun _ => ?_)
    refine g_aload_n S1 dL_law_1242 5 rfl ?_
    refine g_iconst S1 (0 : Int32) dL_law_1243 rfl ?_
    refine g_lldE S1 (fun H h => h.2.2.1) (Z.K.sub [1] rfl) (by decide) dL_law_1244 ?_
    refine g_iload S1 dL_law_1245 0 rfl ?_
    refine g_i2l S1 dL_law_1247 ?_
    refine g_lcmp_eq S1 1254 dL_law_1248 dL_law_1249 (by decide) (fun _ => ?_) (fun c9 => absurd (by first | rfl | exact heq) c9)
    refine g_goto S1 1691 dL_law_1254 (by decide) ?_
    exact g_sub [2, 3, 4, 5, 6, 7] rfl (k9 _ _ _ _ hI1)
  · refine gw Z S0 (c_LW_level _ Z.2.2.2.2.2.2.2.2.2.2.2.1 _ Z.G (hY X.2.1.2 + 295) (fun z => by have := AYC Z.G z; omega) (xs (i + 1)) (xs (i + 2)) X.2.1.2.2.1.2.1 vo Mc _ Mc1 h1 1 (.inl (X.2.1.2.2.1.2.1, 1, .inr (.inl vo))) (fun z hz => by cases hz) (fun k hk => by cases hk; exact Or.inl ⟨rfl, rfl, rfl⟩)) (Nat.le_add_right _ _) (Z.K.sub [1] rfl) (fun H h => ⟨h.1, h.2.2.1⟩) wdL_level q_1322 (Nat.le_of_ble_eq_true rfl) hc hs9 rfl (Nat.le_of_ble_eq_true rfl) dL_law_1203 (LWP.wrL Z.G) ?_
    refine g_istore (lv2 := [(6, .int (1 : Int32)), (0, .ref b), (1, .ref (hY X.2.1.2 + 0)), (2, .ref (hY X.2.1.2 + 281 + 0)), (3, .ref (hY X.2.1.2 + 295)), (4, .ref (hY X.2.1.2 + 296)), (5, .int (nI i))]) S1 dL_law_1206 (by decide) rfl ?_
    refine g_aload_n S1 dL_law_1208 3 rfl ?_
    refine g_aload_n S1 dL_law_1209 1 rfl ?_
    refine g_iload S1 dL_law_1210 6 rfl ?_
    refine g_iconst S1 (1 : Int32) dL_law_1212 rfl ?_
    refine g_iadd S1 dL_law_1213 ?_
    refine g_sld Z S1 (i + 1) (show nI i + nI 1 = nI (i + 1) from nI_add i 1) (by omega) dL_law_1214 ?_
    refine g_aload_n S1 dL_law_1215 1 rfl ?_
    refine g_iload S1 dL_law_1216 6 rfl ?_
    refine g_iconst S1 (2 : Int32) dL_law_1218 rfl ?_
    refine g_iadd S1 dL_law_1219 ?_
    refine g_sld Z S1 (i + 2) (show nI i + nI 2 = nI (i + 2) from nI_add i 2) (by omega) dL_law_1220 ?_
    refine gc_I S1 Z.aM (gn_V S1 (Y := YM X.2.1.2) (G2 := gM) rfl Z.K (fun H h => h.2.1) fc8 (by decide) (c_MD_level _ (YM X.2.1.2) rfl (xs (i + 1)) (xs (i + 2)) Mm _ _ h2) wdX8_level q_1323 ⟨Nat.le_of_ble_eq_true rfl, Nat.le_of_ble_eq_true rfl⟩ ⟨by rw [← Z.2.2.2.2.2.2.2.2.2.2.2.2.1]; omega, by rw [← Z.2.2.2.2.2.2.2.2.2.2.2.2.2]; omega⟩ rfl (Nat.le_of_ble_eq_true rfl) dL_law_1221) (LWP.mod Z.G) ?_
    refine g_istore (lv2 := [(7, .int r), (6, .int (1 : Int32)), (0, .ref b), (1, .ref (hY X.2.1.2 + 0)), (2, .ref (hY X.2.1.2 + 281 + 0)), (3, .ref (hY X.2.1.2 + 295)), (4, .ref (hY X.2.1.2 + 296)), (5, .int (nI i))]) S1 dL_law_1224 (by decide) rfl ?_
    refine g_aload_n S1 dL_law_1226 4 rfl ?_
    refine gc_I S1 Z.aM (gn_V S1 (Y := YM X.2.1.2) (G2 := gM) rfl Z.K (fun H h => h.2.1) fc8 (by decide) (c_MD_thrown _ (YM X.2.1.2) rfl Mm1 _ rfl) wdX8_thrown q_1233 ⟨Nat.le_of_ble_eq_true rfl, Nat.le_of_ble_eq_true rfl⟩ ⟨by rw [← Z.2.2.2.2.2.2.2.2.2.2.2.2.1]; omega, by rw [← Z.2.2.2.2.2.2.2.2.2.2.2.2.2]; omega⟩ rfl (Nat.le_of_ble_eq_true rfl) dL_law_1227) (LWP.mod Z.G) ?_
    refine g_iload S1 dL_law_1230 1 rfl ?_
    refine g_icmp_eq S1 1237 dL_law_1232 (by decide) (fun _ => ?_) (fun c9 => absurd ht c9)
    refine g_iload S1 dL_law_1237 1 rfl ?_
    refine g_if_ne S1 1254 dL_law_1239 (by decide) (fun _ => ?_) (fun c9 => absurd c9 (by decide))
    refine g_goto S1 1691 dL_law_1254 (by decide) ?_
    exact g_sub [2, 3, 4, 5, 6, 7] rfl (k9 _ _ _ _ hI1)
  · refine gw Z S0 (c_LW_level _ Z.2.2.2.2.2.2.2.2.2.2.2.1 _ Z.G (hY X.2.1.2 + 295) (fun z => by have := AYC Z.G z; omega) (xs (i + 1)) (xs (i + 2)) X.2.1.2.2.1.2.1 vo Mc _ Mc1 h1 2 (.inl (X.2.1.2.2.1.2.1, 1, .inr (.inl vo))) (fun z hz => by cases hz) (fun k hk => by cases hk; exact Or.inr (⟨rfl, rfl, rfl⟩))) (Nat.le_add_right _ _) (Z.K.sub [1] rfl) (fun H h => ⟨h.1, h.2.2.1⟩) wdL_level q_1322 (Nat.le_of_ble_eq_true rfl) hc hs9 rfl (Nat.le_of_ble_eq_true rfl) dL_law_1203 (LWP.wrL Z.G) ?_
    refine g_istore (lv2 := [(6, .int (2 : Int32)), (0, .ref b), (1, .ref (hY X.2.1.2 + 0)), (2, .ref (hY X.2.1.2 + 281 + 0)), (3, .ref (hY X.2.1.2 + 295)), (4, .ref (hY X.2.1.2 + 296)), (5, .int (nI i))]) S1 dL_law_1206 (by decide) rfl ?_
    refine g_aload_n S1 dL_law_1208 3 rfl ?_
    refine g_aload_n S1 dL_law_1209 1 rfl ?_
    refine g_iload S1 dL_law_1210 6 rfl ?_
    refine g_iconst S1 (1 : Int32) dL_law_1212 rfl ?_
    refine g_iadd S1 dL_law_1213 ?_
    refine g_sld Z S1 (i + 1) (show nI i + nI 1 = nI (i + 1) from nI_add i 1) (by omega) dL_law_1214 ?_
    refine g_aload_n S1 dL_law_1215 1 rfl ?_
    refine g_iload S1 dL_law_1216 6 rfl ?_
    refine g_iconst S1 (2 : Int32) dL_law_1218 rfl ?_
    refine g_iadd S1 dL_law_1219 ?_
    refine g_sld Z S1 (i + 2) (show nI i + nI 2 = nI (i + 2) from nI_add i 2) (by omega) dL_law_1220 ?_
    refine gc_I S1 Z.aM (gn_V S1 (Y := YM X.2.1.2) (G2 := gM) rfl Z.K (fun H h => h.2.1) fc8 (by decide) (c_MD_level _ (YM X.2.1.2) rfl (xs (i + 1)) (xs (i + 2)) Mm _ _ h2) wdX8_level q_1323 ⟨Nat.le_of_ble_eq_true rfl, Nat.le_of_ble_eq_true rfl⟩ ⟨by rw [← Z.2.2.2.2.2.2.2.2.2.2.2.2.1]; omega, by rw [← Z.2.2.2.2.2.2.2.2.2.2.2.2.2]; omega⟩ rfl (Nat.le_of_ble_eq_true rfl) dL_law_1221) (LWP.mod Z.G) ?_
    refine g_istore (lv2 := [(7, .int r), (6, .int (2 : Int32)), (0, .ref b), (1, .ref (hY X.2.1.2 + 0)), (2, .ref (hY X.2.1.2 + 281 + 0)), (3, .ref (hY X.2.1.2 + 295)), (4, .ref (hY X.2.1.2 + 296)), (5, .int (nI i))]) S1 dL_law_1224 (by decide) rfl ?_
    refine g_aload_n S1 dL_law_1226 4 rfl ?_
    refine gc_I S1 Z.aM (gn_V S1 (Y := YM X.2.1.2) (G2 := gM) rfl Z.K (fun H h => h.2.1) fc8 (by decide) (c_MD_thrown _ (YM X.2.1.2) rfl Mm1 _ rfl) wdX8_thrown q_1233 ⟨Nat.le_of_ble_eq_true rfl, Nat.le_of_ble_eq_true rfl⟩ ⟨by rw [← Z.2.2.2.2.2.2.2.2.2.2.2.2.1]; omega, by rw [← Z.2.2.2.2.2.2.2.2.2.2.2.2.2]; omega⟩ rfl (Nat.le_of_ble_eq_true rfl) dL_law_1227) (LWP.mod Z.G) ?_
    refine g_iload S1 dL_law_1230 1 rfl ?_
    refine g_icmp_eq S1 1237 dL_law_1232 (by decide) (fun _ => ?_) (fun c9 => absurd ht c9)
    refine g_iload S1 dL_law_1237 1 rfl ?_
    refine g_if_ne S1 1254 dL_law_1239 (by decide) (fun _ => ?_) (fun c9 => absurd c9 (by decide))
    refine g_goto S1 1691 dL_law_1254 (by decide) ?_
    exact g_sub [2, 3, 4, 5, 6, 7] rfl (k9 _ _ _ _ hI1)
set_option maxRecDepth 100000 in
set_option maxHeartbeats 4000000 in
theorem lc_16 {X : Cx} {b L : Nat} {xs : Nat → Int32} {cD : ClassId} (Z : LX X b L xs cD) {Inv : Mem → Mem → Prop} (hs : Sim16 Inv) (i : Nat) (hi : i + 4 ≤ L) {Mc Mm : Mem} {vo : Nat → Int64} {vd : Nat → UInt64} (hI : Inv Mc Mm) (c s : Nat) (hc : c + 1 ≤ 601024) (hs9 : s + 6 ≤ 7293034) (k9 : ∀ Mc1 Mm1 vo1 vd1, Inv Mc1 Mm1 → AG (setX X (c + 1) (s + 6)) 1691 [(0, .ref b), (1, .ref (hY X.2.1.2 + 0)), (2, .ref (hY X.2.1.2 + 281 + 0)), (3, .ref (hY X.2.1.2 + 295)), (4, .ref (hY X.2.1.2 + 296)), (5, .int (nI i))] [] (LWP X.2.1.2 cD Mc1 Mm1 vo1 vd1)) : AG (setX X c s) 1257 [(0, .ref b), (1, .ref (hY X.2.1.2 + 0)), (2, .ref (hY X.2.1.2 + 281 + 0)), (3, .ref (hY X.2.1.2 + 295)), (4, .ref (hY X.2.1.2 + 296)), (5, .int (nI i))] [] (LWP X.2.1.2 cD Mc Mm vo vd) := by
  have S0 := Z.1 c s (by omega) (by omega)
  have S1 := Z.1 (c + 1) (s + 6) hc hs9
  have hL := Z.2.2.2.2.2.1
  refine g_aload_n S0 dL_law_1257 1 rfl ?_
  refine g_aload_n S0 dL_law_1258 0 rfl ?_
  refine g_iload S0 dL_law_1259 5 rfl ?_
  refine g_iconst S0 (1 : Int32) dL_law_1261 rfl ?_
  refine g_iadd S0 dL_law_1262 ?_
  refine g_sld Z S0 (i + 1) (show nI i + nI 1 = nI (i + 1) from nI_add i 1) (by omega) dL_law_1263 ?_
  refine g_aload S0 dL_law_1264 4 rfl ?_
  obtain ⟨res, Mc1, r, Mm1, h1, h2, hI1, hcase⟩ := hs Mc Mm (xs (i + 1)) hI
  rcases hcase with ⟨v, rfl, ht, rfl, heq⟩ | ⟨rfl, ht⟩
  · refine gw Z S0 (c_LW_depth _ Z.2.2.2.2.2.2.2.2.2.2.2.1 _ Z.G (hY X.2.1.2 + 296) (fun z => by have := AYC Z.G z; omega) (xs (i + 1)) cD vd Mc _ Mc1 h1 0 (.inl (cD, 1, .inr (.inr (.inr (.inl (vf_upd vd 0 r)))))) (fun z hz => by cases hz; exact ⟨rfl, rfl⟩) (fun k hk => by cases hk)) (Nat.le_add_right _ _) Z.2.2.2.2.2.2.2.1 (fun H h => ⟨h.1, h.2.2.2⟩) wdL_depth q_1328 (Nat.le_of_ble_eq_true rfl) hc hs9 rfl (Nat.le_of_ble_eq_true rfl) dL_law_1266 (LWP.wrD Z.G) ?_
    refine g_istore (lv2 := [(6, .int (0 : Int32)), (0, .ref b), (1, .ref (hY X.2.1.2 + 0)), (2, .ref (hY X.2.1.2 + 281 + 0)), (3, .ref (hY X.2.1.2 + 295)), (4, .ref (hY X.2.1.2 + 296)), (5, .int (nI i))]) S1 dL_law_1269 (by decide) rfl ?_
    refine g_aload_n S1 dL_law_1271 3 rfl ?_
    refine g_aload_n S1 dL_law_1272 1 rfl ?_
    refine g_iload S1 dL_law_1273 6 rfl ?_
    refine g_iconst S1 (1 : Int32) dL_law_1275 rfl ?_
    refine g_iadd S1 dL_law_1276 ?_
    refine g_sld Z S1 (i + 1) (show nI i + nI 1 = nI (i + 1) from nI_add i 1) (by omega) dL_law_1277 ?_
    refine gc_D S1 Z.aM (gn_V S1 (Y := YM X.2.1.2) (G2 := gM) rfl Z.K (fun H h => h.2.1) fc8 (by decide) (c_MD_depth _ (YM X.2.1.2) rfl (xs (i + 1)) Mm _ _ h2) wdX8_depth q_1329 ⟨Nat.le_of_ble_eq_true rfl, Nat.le_of_ble_eq_true rfl⟩ ⟨by rw [← Z.2.2.2.2.2.2.2.2.2.2.2.2.1]; omega, by rw [← Z.2.2.2.2.2.2.2.2.2.2.2.2.2]; omega⟩ rfl (Nat.le_of_ble_eq_true rfl) dL_law_1278) (LWP.mod Z.G) ?_
    refine g_dstore (lv2 := [(7, .double r), (6, .int (0 : Int32)), (0, .ref b), (1, .ref (hY X.2.1.2 + 0)), (2, .ref (hY X.2.1.2 + 281 + 0)), (3, .ref (hY X.2.1.2 + 295)), (4, .ref (hY X.2.1.2 + 296)), (5, .int (nI i))]) S1 dL_law_1281 (by decide) rfl ?_
    refine g_aload_n S1 dL_law_1283 4 rfl ?_
    refine gc_I S1 Z.aM (gn_V S1 (Y := YM X.2.1.2) (G2 := gM) rfl Z.K (fun H h => h.2.1) fc8 (by decide) (c_MD_thrown _ (YM X.2.1.2) rfl Mm1 _ rfl) wdX8_thrown q_1233 ⟨Nat.le_of_ble_eq_true rfl, Nat.le_of_ble_eq_true rfl⟩ ⟨by rw [← Z.2.2.2.2.2.2.2.2.2.2.2.2.1]; omega, by rw [← Z.2.2.2.2.2.2.2.2.2.2.2.2.2]; omega⟩ rfl (Nat.le_of_ble_eq_true rfl) dL_law_1284) (LWP.mod Z.G) ?_
    refine g_iload S1 dL_law_1287 1 rfl ?_
    refine g_icmp_eq S1 1294 dL_law_1289 (by decide) (fun _ => ?_) (fun c9 => absurd ht c9)
    refine g_iload S1 dL_law_1294 1 rfl ?_
    refine g_if_ne S1 1331 dL_law_1296 (by decide) (fun c9 => absurd rfl c9) (fun _ => ?_)
    refine g_aload S1 dL_law_1299 6 rfl ?_
    refine g_iconst S1 (0 : Int32) dL_law_1301 rfl ?_
    refine g_dldE S1 (fun H h => h.2.2.2) Z.2.2.2.2.2.2.2.1 (by decide) dL_law_1302 ?_
    refine g_dload S1 dL_law_1303 0 rfl ?_
    refine g_dcmpl S1 dL_law_1305 ?_
    refine g_if_eq S1 1331 dL_law_1306 (by decide) (fun _ => ?_) (fun c9 => absurd heq c9)
    refine g_goto S1 1691 dL_law_1331 (by decide) ?_
    exact g_sub [2, 3, 4, 5, 6, 7] rfl (k9 _ _ _ _ hI1)
  · refine gw Z S0 (c_LW_depth _ Z.2.2.2.2.2.2.2.2.2.2.2.1 _ Z.G (hY X.2.1.2 + 296) (fun z => by have := AYC Z.G z; omega) (xs (i + 1)) cD vd Mc _ Mc1 h1 1 (.inl (cD, 1, .inr (.inr (.inr (.inl vd))))) (fun z hz => by cases hz) (fun k hk => by cases hk; exact ⟨rfl, rfl, rfl⟩)) (Nat.le_add_right _ _) Z.2.2.2.2.2.2.2.1 (fun H h => ⟨h.1, h.2.2.2⟩) wdL_depth q_1328 (Nat.le_of_ble_eq_true rfl) hc hs9 rfl (Nat.le_of_ble_eq_true rfl) dL_law_1266 (LWP.wrD Z.G) ?_
    refine g_istore (lv2 := [(6, .int (1 : Int32)), (0, .ref b), (1, .ref (hY X.2.1.2 + 0)), (2, .ref (hY X.2.1.2 + 281 + 0)), (3, .ref (hY X.2.1.2 + 295)), (4, .ref (hY X.2.1.2 + 296)), (5, .int (nI i))]) S1 dL_law_1269 (by decide) rfl ?_
    refine g_aload_n S1 dL_law_1271 3 rfl ?_
    refine g_aload_n S1 dL_law_1272 1 rfl ?_
    refine g_iload S1 dL_law_1273 6 rfl ?_
    refine g_iconst S1 (1 : Int32) dL_law_1275 rfl ?_
    refine g_iadd S1 dL_law_1276 ?_
    refine g_sld Z S1 (i + 1) (show nI i + nI 1 = nI (i + 1) from nI_add i 1) (by omega) dL_law_1277 ?_
    refine gc_D S1 Z.aM (gn_V S1 (Y := YM X.2.1.2) (G2 := gM) rfl Z.K (fun H h => h.2.1) fc8 (by decide) (c_MD_depth _ (YM X.2.1.2) rfl (xs (i + 1)) Mm _ _ h2) wdX8_depth q_1329 ⟨Nat.le_of_ble_eq_true rfl, Nat.le_of_ble_eq_true rfl⟩ ⟨by rw [← Z.2.2.2.2.2.2.2.2.2.2.2.2.1]; omega, by rw [← Z.2.2.2.2.2.2.2.2.2.2.2.2.2]; omega⟩ rfl (Nat.le_of_ble_eq_true rfl) dL_law_1278) (LWP.mod Z.G) ?_
    refine g_dstore (lv2 := [(7, .double r), (6, .int (1 : Int32)), (0, .ref b), (1, .ref (hY X.2.1.2 + 0)), (2, .ref (hY X.2.1.2 + 281 + 0)), (3, .ref (hY X.2.1.2 + 295)), (4, .ref (hY X.2.1.2 + 296)), (5, .int (nI i))]) S1 dL_law_1281 (by decide) rfl ?_
    refine g_aload_n S1 dL_law_1283 4 rfl ?_
    refine gc_I S1 Z.aM (gn_V S1 (Y := YM X.2.1.2) (G2 := gM) rfl Z.K (fun H h => h.2.1) fc8 (by decide) (c_MD_thrown _ (YM X.2.1.2) rfl Mm1 _ rfl) wdX8_thrown q_1233 ⟨Nat.le_of_ble_eq_true rfl, Nat.le_of_ble_eq_true rfl⟩ ⟨by rw [← Z.2.2.2.2.2.2.2.2.2.2.2.2.1]; omega, by rw [← Z.2.2.2.2.2.2.2.2.2.2.2.2.2]; omega⟩ rfl (Nat.le_of_ble_eq_true rfl) dL_law_1284) (LWP.mod Z.G) ?_
    refine g_iload S1 dL_law_1287 1 rfl ?_
    refine g_icmp_eq S1 1294 dL_law_1289 (by decide) (fun _ => ?_) (fun c9 => absurd ht c9)
    refine g_iload S1 dL_law_1294 1 rfl ?_
    refine g_if_ne S1 1331 dL_law_1296 (by decide) (fun _ => ?_) (fun c9 => absurd c9 (by decide))
    refine g_goto S1 1691 dL_law_1331 (by decide) ?_
    exact g_sub [2, 3, 4, 5, 6, 7] rfl (k9 _ _ _ _ hI1)
set_option maxRecDepth 100000 in
set_option maxHeartbeats 4000000 in
theorem lc_17 {X : Cx} {b L : Nat} {xs : Nat → Int32} {cD : ClassId} (Z : LX X b L xs cD) {Inv : Mem → Mem → Prop} (hs : Sim17 Inv) (i : Nat) (hi : i + 4 ≤ L) {Mc Mm : Mem} {vo : Nat → Int64} {vd : Nat → UInt64} (hI : Inv Mc Mm) (c s : Nat) (hc : c + 0 ≤ 601024) (hs9 : s + 0 ≤ 7293034) (k9 : ∀ Mc1 Mm1 vo1 vd1, Inv Mc1 Mm1 → AG (setX X (c + 0) (s + 0)) 1691 [(0, .ref b), (1, .ref (hY X.2.1.2 + 0)), (2, .ref (hY X.2.1.2 + 281 + 0)), (3, .ref (hY X.2.1.2 + 295)), (4, .ref (hY X.2.1.2 + 296)), (5, .int (nI i))] [] (LWP X.2.1.2 cD Mc1 Mm1 vo1 vd1)) : AG (setX X c s) 1334 [(0, .ref b), (1, .ref (hY X.2.1.2 + 0)), (2, .ref (hY X.2.1.2 + 281 + 0)), (3, .ref (hY X.2.1.2 + 295)), (4, .ref (hY X.2.1.2 + 296)), (5, .int (nI i))] [] (LWP X.2.1.2 cD Mc Mm vo vd) := by
  have S0 := Z.1 c s (by omega) (by omega)
  have S1 := Z.1 (c + 0) (s + 0) hc hs9
  have hL := Z.2.2.2.2.2.1
  refine g_aload_n S0 dL_law_1334 1 rfl ?_
  obtain ⟨v, Mm1, h1, h2, hI1⟩ := hs Mc Mm hI
  refine gc_I S0 Z.aC (gn_V S0 Z.G Z.K (fun H h => h.1) fc7 (by decide) (c_LL_deepest _ _ Z.G Mc _ h1) wdX7_deepest q_1334 ⟨Nat.le_of_ble_eq_true rfl, Nat.le_of_ble_eq_true rfl⟩ ⟨by rw [← Z.2.2.2.2.2.2.2.2.2.2.2.2.1]; omega, by rw [← Z.2.2.2.2.2.2.2.2.2.2.2.2.2]; omega⟩ rfl (Nat.le_of_ble_eq_true rfl) dL_law_1335) (LWP.cls Z.G) ?_
  refine g_aload_n S0 dL_law_1338 2 rfl ?_
  refine gc_I S0 Z.aM (gn_V S0 (Y := YM X.2.1.2) (G2 := gM) rfl Z.K (fun H h => h.2.1) fc8 (by decide) (c_MD_deepest _ (YM X.2.1.2) rfl  Mm _ _ h2) wdX8_deepest q_1339 ⟨Nat.le_of_ble_eq_true rfl, Nat.le_of_ble_eq_true rfl⟩ ⟨by rw [← Z.2.2.2.2.2.2.2.2.2.2.2.2.1]; omega, by rw [← Z.2.2.2.2.2.2.2.2.2.2.2.2.2]; omega⟩ rfl (Nat.le_of_ble_eq_true rfl) dL_law_1339) (LWP.mod Z.G) ?_
  refine g_icmp_eq S0 1691 dL_law_1342 (by decide) (fun _ => ?_) (fun c9 => absurd rfl c9)
  exact g_sub [0, 1, 2, 3, 4, 5] rfl (k9 _ _ _ _ hI1)
set_option maxRecDepth 100000 in
set_option maxHeartbeats 4000000 in
theorem lc_18 {X : Cx} {b L : Nat} {xs : Nat → Int32} {cD : ClassId} (Z : LX X b L xs cD) {Inv : Mem → Mem → Prop} (hs : Sim18 Inv) (i : Nat) (hi : i + 4 ≤ L) {Mc Mm : Mem} {vo : Nat → Int64} {vd : Nat → UInt64} (hI : Inv Mc Mm) (c s : Nat) (hc : c + 1 ≤ 601024) (hs9 : s + 6 ≤ 7293034) (k9 : ∀ Mc1 Mm1 vo1 vd1, Inv Mc1 Mm1 → AG (setX X (c + 1) (s + 6)) 1691 [(0, .ref b), (1, .ref (hY X.2.1.2 + 0)), (2, .ref (hY X.2.1.2 + 281 + 0)), (3, .ref (hY X.2.1.2 + 295)), (4, .ref (hY X.2.1.2 + 296)), (5, .int (nI i))] [] (LWP X.2.1.2 cD Mc1 Mm1 vo1 vd1)) : AG (setX X c s) 1347 [(0, .ref b), (1, .ref (hY X.2.1.2 + 0)), (2, .ref (hY X.2.1.2 + 281 + 0)), (3, .ref (hY X.2.1.2 + 295)), (4, .ref (hY X.2.1.2 + 296)), (5, .int (nI i))] [] (LWP X.2.1.2 cD Mc Mm vo vd) := by
  have S0 := Z.1 c s (by omega) (by omega)
  have S1 := Z.1 (c + 1) (s + 6) hc hs9
  have hL := Z.2.2.2.2.2.1
  refine g_aload_n S0 dL_law_1347 1 rfl ?_
  refine g_aload_n S0 dL_law_1348 0 rfl ?_
  refine g_iload S0 dL_law_1349 5 rfl ?_
  refine g_iconst S0 (1 : Int32) dL_law_1351 rfl ?_
  refine g_iadd S0 dL_law_1352 ?_
  refine g_sld Z S0 (i + 1) (show nI i + nI 1 = nI (i + 1) from nI_add i 1) (by omega) dL_law_1353 ?_
  refine g_aload_n S0 dL_law_1354 3 rfl ?_
  obtain ⟨res, Mc1, r, Mm1, h1, h2, hI1, hcase⟩ := hs Mc Mm (xs (i + 1)) hI
  rcases hcase with ⟨v, rfl, ht, rfl⟩ | ⟨rfl, ht⟩
  · refine gw Z S0 (c_LW_course _ Z.2.2.2.2.2.2.2.2.2.2.2.1 _ Z.G (hY X.2.1.2 + 295) (fun z => by have := AYC Z.G z; omega) (xs (i + 1)) X.2.1.2.2.1.2.1 vo Mc _ Mc1 h1 0 (.inl (X.2.1.2.2.1.2.1, 1, .inr (.inl (vp_updL vo 0 r)))) (fun z hz => by cases hz; exact ⟨rfl, rfl⟩) (fun k hk => by cases hk)) (Nat.le_add_right _ _) (Z.K.sub [1] rfl) (fun H h => ⟨h.1, h.2.2.1⟩) wdL_course q_1344 (Nat.le_of_ble_eq_true rfl) hc hs9 rfl (Nat.le_of_ble_eq_true rfl) dL_law_1355 (LWP.wrL Z.G) ?_
    refine g_istore (lv2 := [(6, .int (0 : Int32)), (0, .ref b), (1, .ref (hY X.2.1.2 + 0)), (2, .ref (hY X.2.1.2 + 281 + 0)), (3, .ref (hY X.2.1.2 + 295)), (4, .ref (hY X.2.1.2 + 296)), (5, .int (nI i))]) S1 dL_law_1358 (by decide) rfl ?_
    refine g_aload_n S1 dL_law_1360 3 rfl ?_
    refine g_aload_n S1 dL_law_1361 1 rfl ?_
    refine g_iload S1 dL_law_1362 6 rfl ?_
    refine g_iconst S1 (1 : Int32) dL_law_1364 rfl ?_
    refine g_iadd S1 dL_law_1365 ?_
    refine g_sld Z S1 (i + 1) (show nI i + nI 1 = nI (i + 1) from nI_add i 1) (by omega) dL_law_1366 ?_
    refine gc_L S1 Z.aM (gn_V S1 (Y := YM X.2.1.2) (G2 := gM) rfl Z.K (fun H h => h.2.1) fc8 (by decide) (c_MD_course _ (YM X.2.1.2) rfl (xs (i + 1)) Mm _ _ h2) wdX8_course q_1345 ⟨Nat.le_of_ble_eq_true rfl, Nat.le_of_ble_eq_true rfl⟩ ⟨by rw [← Z.2.2.2.2.2.2.2.2.2.2.2.2.1]; omega, by rw [← Z.2.2.2.2.2.2.2.2.2.2.2.2.2]; omega⟩ rfl (Nat.le_of_ble_eq_true rfl) dL_law_1367) (LWP.mod Z.G) ?_
    refine g_lstore (lv2 := [(7, .long r), (6, .int (0 : Int32)), (0, .ref b), (1, .ref (hY X.2.1.2 + 0)), (2, .ref (hY X.2.1.2 + 281 + 0)), (3, .ref (hY X.2.1.2 + 295)), (4, .ref (hY X.2.1.2 + 296)), (5, .int (nI i))]) S1 dL_law_1370 (by decide) rfl ?_
    refine g_aload_n S1 dL_law_1372 4 rfl ?_
    refine gc_I S1 Z.aM (gn_V S1 (Y := YM X.2.1.2) (G2 := gM) rfl Z.K (fun H h => h.2.1) fc8 (by decide) (c_MD_thrown _ (YM X.2.1.2) rfl Mm1 _ rfl) wdX8_thrown q_1233 ⟨Nat.le_of_ble_eq_true rfl, Nat.le_of_ble_eq_true rfl⟩ ⟨by rw [← Z.2.2.2.2.2.2.2.2.2.2.2.2.1]; omega, by rw [← Z.2.2.2.2.2.2.2.2.2.2.2.2.2]; omega⟩ rfl (Nat.le_of_ble_eq_true rfl) dL_law_1373) (LWP.mod Z.G) ?_
    refine g_iload S1 dL_law_1376 1 rfl ?_
    refine g_icmp_eq S1 1383 dL_law_1378 (by decide) (fun _ => ?_) (fun c9 => absurd ht c9)
    refine g_iload S1 dL_law_1383 1 rfl ?_
    refine g_if_ne S1 1399 dL_law_1385 (by decide) (fun c9 => absurd rfl c9) (fun _ => ?_)
    refine g_aload_n S1 dL_law_1388 5 rfl ?_
    refine g_iconst S1 (0 : Int32) dL_law_1389 rfl ?_
    refine g_lldE S1 (fun H h => h.2.2.1) (Z.K.sub [1] rfl) (by decide) dL_law_1390 ?_
    refine g_lload S1 dL_law_1391 0 rfl ?_
    refine g_lcmp_eq S1 1399 dL_law_1393 dL_law_1394 (by decide) (fun _ => ?_) (fun c9 => absurd (by first | rfl | exact heq) c9)
    refine g_goto S1 1691 dL_law_1399 (by decide) ?_
    exact g_sub [2, 3, 4, 5, 6, 7] rfl (k9 _ _ _ _ hI1)
  · refine gw Z S0 (c_LW_course _ Z.2.2.2.2.2.2.2.2.2.2.2.1 _ Z.G (hY X.2.1.2 + 295) (fun z => by have := AYC Z.G z; omega) (xs (i + 1)) X.2.1.2.2.1.2.1 vo Mc _ Mc1 h1 1 (.inl (X.2.1.2.2.1.2.1, 1, .inr (.inl vo))) (fun z hz => by cases hz) (fun k hk => by cases hk; exact ⟨rfl, rfl, rfl⟩)) (Nat.le_add_right _ _) (Z.K.sub [1] rfl) (fun H h => ⟨h.1, h.2.2.1⟩) wdL_course q_1344 (Nat.le_of_ble_eq_true rfl) hc hs9 rfl (Nat.le_of_ble_eq_true rfl) dL_law_1355 (LWP.wrL Z.G) ?_
    refine g_istore (lv2 := [(6, .int (1 : Int32)), (0, .ref b), (1, .ref (hY X.2.1.2 + 0)), (2, .ref (hY X.2.1.2 + 281 + 0)), (3, .ref (hY X.2.1.2 + 295)), (4, .ref (hY X.2.1.2 + 296)), (5, .int (nI i))]) S1 dL_law_1358 (by decide) rfl ?_
    refine g_aload_n S1 dL_law_1360 3 rfl ?_
    refine g_aload_n S1 dL_law_1361 1 rfl ?_
    refine g_iload S1 dL_law_1362 6 rfl ?_
    refine g_iconst S1 (1 : Int32) dL_law_1364 rfl ?_
    refine g_iadd S1 dL_law_1365 ?_
    refine g_sld Z S1 (i + 1) (show nI i + nI 1 = nI (i + 1) from nI_add i 1) (by omega) dL_law_1366 ?_
    refine gc_L S1 Z.aM (gn_V S1 (Y := YM X.2.1.2) (G2 := gM) rfl Z.K (fun H h => h.2.1) fc8 (by decide) (c_MD_course _ (YM X.2.1.2) rfl (xs (i + 1)) Mm _ _ h2) wdX8_course q_1345 ⟨Nat.le_of_ble_eq_true rfl, Nat.le_of_ble_eq_true rfl⟩ ⟨by rw [← Z.2.2.2.2.2.2.2.2.2.2.2.2.1]; omega, by rw [← Z.2.2.2.2.2.2.2.2.2.2.2.2.2]; omega⟩ rfl (Nat.le_of_ble_eq_true rfl) dL_law_1367) (LWP.mod Z.G) ?_
    refine g_lstore (lv2 := [(7, .long r), (6, .int (1 : Int32)), (0, .ref b), (1, .ref (hY X.2.1.2 + 0)), (2, .ref (hY X.2.1.2 + 281 + 0)), (3, .ref (hY X.2.1.2 + 295)), (4, .ref (hY X.2.1.2 + 296)), (5, .int (nI i))]) S1 dL_law_1370 (by decide) rfl ?_
    refine g_aload_n S1 dL_law_1372 4 rfl ?_
    refine gc_I S1 Z.aM (gn_V S1 (Y := YM X.2.1.2) (G2 := gM) rfl Z.K (fun H h => h.2.1) fc8 (by decide) (c_MD_thrown _ (YM X.2.1.2) rfl Mm1 _ rfl) wdX8_thrown q_1233 ⟨Nat.le_of_ble_eq_true rfl, Nat.le_of_ble_eq_true rfl⟩ ⟨by rw [← Z.2.2.2.2.2.2.2.2.2.2.2.2.1]; omega, by rw [← Z.2.2.2.2.2.2.2.2.2.2.2.2.2]; omega⟩ rfl (Nat.le_of_ble_eq_true rfl) dL_law_1373) (LWP.mod Z.G) ?_
    refine g_iload S1 dL_law_1376 1 rfl ?_
    refine g_icmp_eq S1 1383 dL_law_1378 (by decide) (fun _ => ?_) (fun c9 => absurd ht c9)
    refine g_iload S1 dL_law_1383 1 rfl ?_
    refine g_if_ne S1 1399 dL_law_1385 (by decide) (fun _ => ?_) (fun c9 => absurd c9 (by decide))
    refine g_goto S1 1691 dL_law_1399 (by decide) ?_
    exact g_sub [2, 3, 4, 5, 6, 7] rfl (k9 _ _ _ _ hI1)
set_option maxRecDepth 100000 in
set_option maxHeartbeats 4000000 in
theorem lc_19 {X : Cx} {b L : Nat} {xs : Nat → Int32} {cD : ClassId} (Z : LX X b L xs cD) {Inv : Mem → Mem → Prop} (hs : Sim19 Inv) (i : Nat) (hi : i + 4 ≤ L) {Mc Mm : Mem} {vo : Nat → Int64} {vd : Nat → UInt64} (hI : Inv Mc Mm) (c s : Nat) (hc : c + 2 ≤ 601024) (hs9 : s + 12 ≤ 7293034) (k9 : ∀ Mc1 Mm1 vo1 vd1, Inv Mc1 Mm1 → AG (setX X (c + 2) (s + 12)) 1691 [(0, .ref b), (1, .ref (hY X.2.1.2 + 0)), (2, .ref (hY X.2.1.2 + 281 + 0)), (3, .ref (hY X.2.1.2 + 295)), (4, .ref (hY X.2.1.2 + 296)), (5, .int (nI i))] [] (LWP X.2.1.2 cD Mc1 Mm1 vo1 vd1)) : AG (setX X c s) 1402 [(0, .ref b), (1, .ref (hY X.2.1.2 + 0)), (2, .ref (hY X.2.1.2 + 281 + 0)), (3, .ref (hY X.2.1.2 + 295)), (4, .ref (hY X.2.1.2 + 296)), (5, .int (nI i))] [] (LWP X.2.1.2 cD Mc Mm vo vd) := by
  have S0 := Z.1 c s (by omega) (by omega)
  have S1 := Z.1 (c + 2) (s + 12) hc hs9
  have hL := Z.2.2.2.2.2.1
  refine g_aload_n S0 dL_law_1402 1 rfl ?_
  refine g_aload_n S0 dL_law_1403 0 rfl ?_
  refine g_iload S0 dL_law_1404 5 rfl ?_
  refine g_iconst S0 (1 : Int32) dL_law_1406 rfl ?_
  refine g_iadd S0 dL_law_1407 ?_
  refine g_sld Z S0 (i + 1) (show nI i + nI 1 = nI (i + 1) from nI_add i 1) (by omega) dL_law_1408 ?_
  refine g_aload_n S0 dL_law_1409 0 rfl ?_
  refine g_iload S0 dL_law_1410 5 rfl ?_
  refine g_iconst S0 (2 : Int32) dL_law_1412 rfl ?_
  refine g_iadd S0 dL_law_1413 ?_
  refine g_sld Z S0 (i + 2) (show nI i + nI 2 = nI (i + 2) from nI_add i 2) (by omega) dL_law_1414 ?_
  refine g_aload_n S0 dL_law_1415 3 rfl ?_
  obtain ⟨res, Mc1, r, Mm1, h1, h2, hI1, hcase⟩ := hs Mc Mm (xs (i + 1)) (xs (i + 2)) hI
  rcases hcase with ⟨v, rfl, ht, rfl⟩ | ⟨rfl, ht⟩
  · refine gw Z S0 (c_LW_amountFor _ Z.2.2.2.2.2.2.2.2.2.2.2.1 _ Z.G (hY X.2.1.2 + 295) (fun z => by have := AYC Z.G z; omega) (xs (i + 1)) (xs (i + 2)) X.2.1.2.2.1.2.1 vo Mc _ Mc1 h1 0 (.inl (X.2.1.2.2.1.2.1, 1, .inr (.inl (vp_updL vo 0 r.toInt64)))) (fun z hz => by cases hz; exact ⟨rfl, rfl⟩) (fun k hk => by cases hk)) (Nat.le_add_right _ _) (Z.K.sub [1] rfl) (fun H h => ⟨h.1, h.2.2.1⟩) wdL_amountFor q_1350 (Nat.le_of_ble_eq_true rfl) hc hs9 rfl (Nat.le_of_ble_eq_true rfl) dL_law_1416 (LWP.wrL Z.G) ?_
    refine g_istore (lv2 := [(6, .int (0 : Int32)), (0, .ref b), (1, .ref (hY X.2.1.2 + 0)), (2, .ref (hY X.2.1.2 + 281 + 0)), (3, .ref (hY X.2.1.2 + 295)), (4, .ref (hY X.2.1.2 + 296)), (5, .int (nI i))]) S1 dL_law_1419 (by decide) rfl ?_
    refine g_aload_n S1 dL_law_1421 3 rfl ?_
    refine g_aload_n S1 dL_law_1422 1 rfl ?_
    refine g_iload S1 dL_law_1423 6 rfl ?_
    refine g_iconst S1 (1 : Int32) dL_law_1425 rfl ?_
    refine g_iadd S1 dL_law_1426 ?_
    refine g_sld Z S1 (i + 1) (show nI i + nI 1 = nI (i + 1) from nI_add i 1) (by omega) dL_law_1427 ?_
    refine g_aload_n S1 dL_law_1428 1 rfl ?_
    refine g_iload S1 dL_law_1429 6 rfl ?_
    refine g_iconst S1 (2 : Int32) dL_law_1431 rfl ?_
    refine g_iadd S1 dL_law_1432 ?_
    refine g_sld Z S1 (i + 2) (show nI i + nI 2 = nI (i + 2) from nI_add i 2) (by omega) dL_law_1433 ?_
    refine gc_I S1 Z.aM (gn_V S1 (Y := YM X.2.1.2) (G2 := gM) rfl Z.K (fun H h => h.2.1) fc8 (by decide) (c_MD_amountFor _ (YM X.2.1.2) rfl (xs (i + 1)) (xs (i + 2)) Mm _ _ h2) wdX8_amountFor q_1351 ⟨Nat.le_of_ble_eq_true rfl, Nat.le_of_ble_eq_true rfl⟩ ⟨by rw [← Z.2.2.2.2.2.2.2.2.2.2.2.2.1]; omega, by rw [← Z.2.2.2.2.2.2.2.2.2.2.2.2.2]; omega⟩ rfl (Nat.le_of_ble_eq_true rfl) dL_law_1434) (LWP.mod Z.G) ?_
    refine g_istore (lv2 := [(7, .int r), (6, .int (0 : Int32)), (0, .ref b), (1, .ref (hY X.2.1.2 + 0)), (2, .ref (hY X.2.1.2 + 281 + 0)), (3, .ref (hY X.2.1.2 + 295)), (4, .ref (hY X.2.1.2 + 296)), (5, .int (nI i))]) S1 dL_law_1437 (by decide) rfl ?_
    refine g_aload_n S1 dL_law_1439 4 rfl ?_
    refine gc_I S1 Z.aM (gn_V S1 (Y := YM X.2.1.2) (G2 := gM) rfl Z.K (fun H h => h.2.1) fc8 (by decide) (c_MD_thrown _ (YM X.2.1.2) rfl Mm1 _ rfl) wdX8_thrown q_1233 ⟨Nat.le_of_ble_eq_true rfl, Nat.le_of_ble_eq_true rfl⟩ ⟨by rw [← Z.2.2.2.2.2.2.2.2.2.2.2.2.1]; omega, by rw [← Z.2.2.2.2.2.2.2.2.2.2.2.2.2]; omega⟩ rfl (Nat.le_of_ble_eq_true rfl) dL_law_1440) (LWP.mod Z.G) ?_
    refine g_iload S1 dL_law_1443 1 rfl ?_
    refine g_icmp_eq S1 1450 dL_law_1445 (by decide) (fun _ => ?_) (fun c9 => absurd ht c9)
    refine g_iload S1 dL_law_1450 1 rfl ?_
    refine g_if_ne S1 1467 dL_law_1452 (by decide) (fun c9 => absurd rfl c9) (fun _ => ?_)
    refine g_aload_n S1 dL_law_1455 5 rfl ?_
    refine g_iconst S1 (0 : Int32) dL_law_1456 rfl ?_
    refine g_lldE S1 (fun H h => h.2.2.1) (Z.K.sub [1] rfl) (by decide) dL_law_1457 ?_
    refine g_iload S1 dL_law_1458 0 rfl ?_
    refine g_i2l S1 dL_law_1460 ?_
    refine g_lcmp_eq S1 1467 dL_law_1461 dL_law_1462 (by decide) (fun _ => ?_) (fun c9 => absurd (by first | rfl | exact heq) c9)
    refine g_goto S1 1691 dL_law_1467 (by decide) ?_
    exact g_sub [2, 3, 4, 5, 6, 7] rfl (k9 _ _ _ _ hI1)
  · refine gw Z S0 (c_LW_amountFor _ Z.2.2.2.2.2.2.2.2.2.2.2.1 _ Z.G (hY X.2.1.2 + 295) (fun z => by have := AYC Z.G z; omega) (xs (i + 1)) (xs (i + 2)) X.2.1.2.2.1.2.1 vo Mc _ Mc1 h1 1 (.inl (X.2.1.2.2.1.2.1, 1, .inr (.inl vo))) (fun z hz => by cases hz) (fun k hk => by cases hk; exact ⟨rfl, rfl, rfl⟩)) (Nat.le_add_right _ _) (Z.K.sub [1] rfl) (fun H h => ⟨h.1, h.2.2.1⟩) wdL_amountFor q_1350 (Nat.le_of_ble_eq_true rfl) hc hs9 rfl (Nat.le_of_ble_eq_true rfl) dL_law_1416 (LWP.wrL Z.G) ?_
    refine g_istore (lv2 := [(6, .int (1 : Int32)), (0, .ref b), (1, .ref (hY X.2.1.2 + 0)), (2, .ref (hY X.2.1.2 + 281 + 0)), (3, .ref (hY X.2.1.2 + 295)), (4, .ref (hY X.2.1.2 + 296)), (5, .int (nI i))]) S1 dL_law_1419 (by decide) rfl ?_
    refine g_aload_n S1 dL_law_1421 3 rfl ?_
    refine g_aload_n S1 dL_law_1422 1 rfl ?_
    refine g_iload S1 dL_law_1423 6 rfl ?_
    refine g_iconst S1 (1 : Int32) dL_law_1425 rfl ?_
    refine g_iadd S1 dL_law_1426 ?_
    refine g_sld Z S1 (i + 1) (show nI i + nI 1 = nI (i + 1) from nI_add i 1) (by omega) dL_law_1427 ?_
    refine g_aload_n S1 dL_law_1428 1 rfl ?_
    refine g_iload S1 dL_law_1429 6 rfl ?_
    refine g_iconst S1 (2 : Int32) dL_law_1431 rfl ?_
    refine g_iadd S1 dL_law_1432 ?_
    refine g_sld Z S1 (i + 2) (show nI i + nI 2 = nI (i + 2) from nI_add i 2) (by omega) dL_law_1433 ?_
    refine gc_I S1 Z.aM (gn_V S1 (Y := YM X.2.1.2) (G2 := gM) rfl Z.K (fun H h => h.2.1) fc8 (by decide) (c_MD_amountFor _ (YM X.2.1.2) rfl (xs (i + 1)) (xs (i + 2)) Mm _ _ h2) wdX8_amountFor q_1351 ⟨Nat.le_of_ble_eq_true rfl, Nat.le_of_ble_eq_true rfl⟩ ⟨by rw [← Z.2.2.2.2.2.2.2.2.2.2.2.2.1]; omega, by rw [← Z.2.2.2.2.2.2.2.2.2.2.2.2.2]; omega⟩ rfl (Nat.le_of_ble_eq_true rfl) dL_law_1434) (LWP.mod Z.G) ?_
    refine g_istore (lv2 := [(7, .int r), (6, .int (1 : Int32)), (0, .ref b), (1, .ref (hY X.2.1.2 + 0)), (2, .ref (hY X.2.1.2 + 281 + 0)), (3, .ref (hY X.2.1.2 + 295)), (4, .ref (hY X.2.1.2 + 296)), (5, .int (nI i))]) S1 dL_law_1437 (by decide) rfl ?_
    refine g_aload_n S1 dL_law_1439 4 rfl ?_
    refine gc_I S1 Z.aM (gn_V S1 (Y := YM X.2.1.2) (G2 := gM) rfl Z.K (fun H h => h.2.1) fc8 (by decide) (c_MD_thrown _ (YM X.2.1.2) rfl Mm1 _ rfl) wdX8_thrown q_1233 ⟨Nat.le_of_ble_eq_true rfl, Nat.le_of_ble_eq_true rfl⟩ ⟨by rw [← Z.2.2.2.2.2.2.2.2.2.2.2.2.1]; omega, by rw [← Z.2.2.2.2.2.2.2.2.2.2.2.2.2]; omega⟩ rfl (Nat.le_of_ble_eq_true rfl) dL_law_1440) (LWP.mod Z.G) ?_
    refine g_iload S1 dL_law_1443 1 rfl ?_
    refine g_icmp_eq S1 1450 dL_law_1445 (by decide) (fun _ => ?_) (fun c9 => absurd ht c9)
    refine g_iload S1 dL_law_1450 1 rfl ?_
    refine g_if_ne S1 1467 dL_law_1452 (by decide) (fun _ => ?_) (fun c9 => absurd c9 (by decide))
    refine g_goto S1 1691 dL_law_1467 (by decide) ?_
    exact g_sub [2, 3, 4, 5, 6, 7] rfl (k9 _ _ _ _ hI1)
set_option maxRecDepth 100000 in
set_option maxHeartbeats 4000000 in
theorem lc_20 {X : Cx} {b L : Nat} {xs : Nat → Int32} {cD : ClassId} (Z : LX X b L xs cD) {Inv : Mem → Mem → Prop} (hs : Sim20 Inv) (i : Nat) (hi : i + 4 ≤ L) {Mc Mm : Mem} {vo : Nat → Int64} {vd : Nat → UInt64} (hI : Inv Mc Mm) (c s : Nat) (hc : c + 0 ≤ 601024) (hs9 : s + 0 ≤ 7293034) (k9 : ∀ Mc1 Mm1 vo1 vd1, Inv Mc1 Mm1 → AG (setX X (c + 0) (s + 0)) 1691 [(0, .ref b), (1, .ref (hY X.2.1.2 + 0)), (2, .ref (hY X.2.1.2 + 281 + 0)), (3, .ref (hY X.2.1.2 + 295)), (4, .ref (hY X.2.1.2 + 296)), (5, .int (nI i))] [] (LWP X.2.1.2 cD Mc1 Mm1 vo1 vd1)) : AG (setX X c s) 1470 [(0, .ref b), (1, .ref (hY X.2.1.2 + 0)), (2, .ref (hY X.2.1.2 + 281 + 0)), (3, .ref (hY X.2.1.2 + 295)), (4, .ref (hY X.2.1.2 + 296)), (5, .int (nI i))] [] (LWP X.2.1.2 cD Mc Mm vo vd) := by
  have S0 := Z.1 c s (by omega) (by omega)
  have S1 := Z.1 (c + 0) (s + 0) hc hs9
  have hL := Z.2.2.2.2.2.1
  refine g_aload_n S0 dL_law_1470 1 rfl ?_
  obtain ⟨v, Mc1, Mm1, h1, h2, hI1⟩ := hs Mc Mm hI
  refine gc_I S0 Z.aC (gn_V S0 Z.G Z.K (fun H h => h.1) fc7 (by decide) (c_LL_rainToJoin _ _ Z.G Mc _ _ h1) wdX7_rainToJoin q_1356 ⟨Nat.le_of_ble_eq_true rfl, Nat.le_of_ble_eq_true rfl⟩ ⟨by rw [← Z.2.2.2.2.2.2.2.2.2.2.2.2.1]; omega, by rw [← Z.2.2.2.2.2.2.2.2.2.2.2.2.2]; omega⟩ rfl (Nat.le_of_ble_eq_true rfl) dL_law_1471) (LWP.cls Z.G) ?_
  refine g_aload_n S0 dL_law_1474 2 rfl ?_
  refine gc_I S0 Z.aM (gn_V S0 (Y := YM X.2.1.2) (G2 := gM) rfl Z.K (fun H h => h.2.1) fc8 (by decide) (c_MD_rainToJoin _ (YM X.2.1.2) rfl  Mm _ _ h2) wdX8_rainToJoin q_1361 ⟨Nat.le_of_ble_eq_true rfl, Nat.le_of_ble_eq_true rfl⟩ ⟨by rw [← Z.2.2.2.2.2.2.2.2.2.2.2.2.1]; omega, by rw [← Z.2.2.2.2.2.2.2.2.2.2.2.2.2]; omega⟩ rfl (Nat.le_of_ble_eq_true rfl) dL_law_1475) (LWP.mod Z.G) ?_
  refine g_icmp_eq S0 1691 dL_law_1478 (by decide) (fun _ => ?_) (fun c9 => absurd rfl c9)
  exact g_sub [0, 1, 2, 3, 4, 5] rfl (k9 _ _ _ _ hI1)
set_option maxRecDepth 100000 in
set_option maxHeartbeats 4000000 in
theorem lc_21 {X : Cx} {b L : Nat} {xs : Nat → Int32} {cD : ClassId} (Z : LX X b L xs cD) {Inv : Mem → Mem → Prop} (hs : Sim21 Inv) (i : Nat) (hi : i + 4 ≤ L) {Mc Mm : Mem} {vo : Nat → Int64} {vd : Nat → UInt64} (hI : Inv Mc Mm) (c s : Nat) (hc : c + 1 ≤ 601024) (hs9 : s + 6 ≤ 7293034) (k9 : ∀ Mc1 Mm1 vo1 vd1, Inv Mc1 Mm1 → AG (setX X (c + 1) (s + 6)) 1691 [(0, .ref b), (1, .ref (hY X.2.1.2 + 0)), (2, .ref (hY X.2.1.2 + 281 + 0)), (3, .ref (hY X.2.1.2 + 295)), (4, .ref (hY X.2.1.2 + 296)), (5, .int (nI i))] [] (LWP X.2.1.2 cD Mc1 Mm1 vo1 vd1)) : AG (setX X c s) 1483 [(0, .ref b), (1, .ref (hY X.2.1.2 + 0)), (2, .ref (hY X.2.1.2 + 281 + 0)), (3, .ref (hY X.2.1.2 + 295)), (4, .ref (hY X.2.1.2 + 296)), (5, .int (nI i))] [] (LWP X.2.1.2 cD Mc Mm vo vd) := by
  have S0 := Z.1 c s (by omega) (by omega)
  have S1 := Z.1 (c + 1) (s + 6) hc hs9
  have hL := Z.2.2.2.2.2.1
  refine g_aload_n S0 dL_law_1483 1 rfl ?_
  refine g_aload_n S0 dL_law_1484 0 rfl ?_
  refine g_iload S0 dL_law_1485 5 rfl ?_
  refine g_iconst S0 (1 : Int32) dL_law_1487 rfl ?_
  refine g_iadd S0 dL_law_1488 ?_
  refine g_sld Z S0 (i + 1) (show nI i + nI 1 = nI (i + 1) from nI_add i 1) (by omega) dL_law_1489 ?_
  refine g_aload_n S0 dL_law_1490 0 rfl ?_
  refine g_iload S0 dL_law_1491 5 rfl ?_
  refine g_iconst S0 (2 : Int32) dL_law_1493 rfl ?_
  refine g_iadd S0 dL_law_1494 ?_
  refine g_sld Z S0 (i + 2) (show nI i + nI 2 = nI (i + 2) from nI_add i 2) (by omega) dL_law_1495 ?_
  refine g_aload_n S0 dL_law_1496 3 rfl ?_
  obtain ⟨res, Mc1, r, Mm1, h1, h2, hI1, hcase⟩ := hs Mc Mm (xs (i + 1)) (xs (i + 2)) hI
  rcases hcase with ⟨v, rfl, ht, rfl⟩ | ⟨rfl, ht⟩
  · refine gw Z S0 (c_LW_withoutGate _ Z.2.2.2.2.2.2.2.2.2.2.2.1 _ Z.G (hY X.2.1.2 + 295) (fun z => by have := AYC Z.G z; omega) (xs (i + 1)) (xs (i + 2)) X.2.1.2.2.1.2.1 vo Mc _ Mc1 h1 0 (.inl (X.2.1.2.2.1.2.1, 1, .inr (.inl (vp_updL vo 0 r.toInt64)))) (fun z hz => by cases hz; exact ⟨rfl, rfl⟩) (fun k hk => by cases hk)) (Nat.le_add_right _ _) (Z.K.sub [1] rfl) (fun H h => ⟨h.1, h.2.2.1⟩) wdL_withoutGate q_1366 (Nat.le_of_ble_eq_true rfl) hc hs9 rfl (Nat.le_of_ble_eq_true rfl) dL_law_1497 (LWP.wrL Z.G) ?_
    refine g_istore (lv2 := [(6, .int (0 : Int32)), (0, .ref b), (1, .ref (hY X.2.1.2 + 0)), (2, .ref (hY X.2.1.2 + 281 + 0)), (3, .ref (hY X.2.1.2 + 295)), (4, .ref (hY X.2.1.2 + 296)), (5, .int (nI i))]) S1 dL_law_1500 (by decide) rfl ?_
    refine g_aload_n S1 dL_law_1502 3 rfl ?_
    refine g_aload_n S1 dL_law_1503 1 rfl ?_
    refine g_iload S1 dL_law_1504 6 rfl ?_
    refine g_iconst S1 (1 : Int32) dL_law_1506 rfl ?_
    refine g_iadd S1 dL_law_1507 ?_
    refine g_sld Z S1 (i + 1) (show nI i + nI 1 = nI (i + 1) from nI_add i 1) (by omega) dL_law_1508 ?_
    refine g_aload_n S1 dL_law_1509 1 rfl ?_
    refine g_iload S1 dL_law_1510 6 rfl ?_
    refine g_iconst S1 (2 : Int32) dL_law_1512 rfl ?_
    refine g_iadd S1 dL_law_1513 ?_
    refine g_sld Z S1 (i + 2) (show nI i + nI 2 = nI (i + 2) from nI_add i 2) (by omega) dL_law_1514 ?_
    refine gc_I S1 Z.aM (gn_V S1 (Y := YM X.2.1.2) (G2 := gM) rfl Z.K (fun H h => h.2.1) fc8 (by decide) (c_MD_withoutGate _ (YM X.2.1.2) rfl (xs (i + 1)) (xs (i + 2)) Mm _ _ h2) wdX8_withoutGate q_1367 ⟨Nat.le_of_ble_eq_true rfl, Nat.le_of_ble_eq_true rfl⟩ ⟨by rw [← Z.2.2.2.2.2.2.2.2.2.2.2.2.1]; omega, by rw [← Z.2.2.2.2.2.2.2.2.2.2.2.2.2]; omega⟩ rfl (Nat.le_of_ble_eq_true rfl) dL_law_1515) (LWP.mod Z.G) ?_
    refine g_istore (lv2 := [(7, .int r), (6, .int (0 : Int32)), (0, .ref b), (1, .ref (hY X.2.1.2 + 0)), (2, .ref (hY X.2.1.2 + 281 + 0)), (3, .ref (hY X.2.1.2 + 295)), (4, .ref (hY X.2.1.2 + 296)), (5, .int (nI i))]) S1 dL_law_1518 (by decide) rfl ?_
    refine g_aload_n S1 dL_law_1520 4 rfl ?_
    refine gc_I S1 Z.aM (gn_V S1 (Y := YM X.2.1.2) (G2 := gM) rfl Z.K (fun H h => h.2.1) fc8 (by decide) (c_MD_thrown _ (YM X.2.1.2) rfl Mm1 _ rfl) wdX8_thrown q_1233 ⟨Nat.le_of_ble_eq_true rfl, Nat.le_of_ble_eq_true rfl⟩ ⟨by rw [← Z.2.2.2.2.2.2.2.2.2.2.2.2.1]; omega, by rw [← Z.2.2.2.2.2.2.2.2.2.2.2.2.2]; omega⟩ rfl (Nat.le_of_ble_eq_true rfl) dL_law_1521) (LWP.mod Z.G) ?_
    refine g_iload S1 dL_law_1524 1 rfl ?_
    refine g_icmp_eq S1 1531 dL_law_1526 (by decide) (fun _ => ?_) (fun c9 => absurd ht c9)
    refine g_iload S1 dL_law_1531 1 rfl ?_
    refine g_if_ne S1 1548 dL_law_1533 (by decide) (fun c9 => absurd rfl c9) (fun _ => ?_)
    refine g_aload_n S1 dL_law_1536 5 rfl ?_
    refine g_iconst S1 (0 : Int32) dL_law_1537 rfl ?_
    refine g_lldE S1 (fun H h => h.2.2.1) (Z.K.sub [1] rfl) (by decide) dL_law_1538 ?_
    refine g_iload S1 dL_law_1539 0 rfl ?_
    refine g_i2l S1 dL_law_1541 ?_
    refine g_lcmp_eq S1 1548 dL_law_1542 dL_law_1543 (by decide) (fun _ => ?_) (fun c9 => absurd (by first | rfl | exact heq) c9)
    refine g_goto S1 1691 dL_law_1548 (by decide) ?_
    exact g_sub [2, 3, 4, 5, 6, 7] rfl (k9 _ _ _ _ hI1)
  · refine gw Z S0 (c_LW_withoutGate _ Z.2.2.2.2.2.2.2.2.2.2.2.1 _ Z.G (hY X.2.1.2 + 295) (fun z => by have := AYC Z.G z; omega) (xs (i + 1)) (xs (i + 2)) X.2.1.2.2.1.2.1 vo Mc _ Mc1 h1 1 (.inl (X.2.1.2.2.1.2.1, 1, .inr (.inl vo))) (fun z hz => by cases hz) (fun k hk => by cases hk; exact ⟨rfl, rfl, rfl⟩)) (Nat.le_add_right _ _) (Z.K.sub [1] rfl) (fun H h => ⟨h.1, h.2.2.1⟩) wdL_withoutGate q_1366 (Nat.le_of_ble_eq_true rfl) hc hs9 rfl (Nat.le_of_ble_eq_true rfl) dL_law_1497 (LWP.wrL Z.G) ?_
    refine g_istore (lv2 := [(6, .int (1 : Int32)), (0, .ref b), (1, .ref (hY X.2.1.2 + 0)), (2, .ref (hY X.2.1.2 + 281 + 0)), (3, .ref (hY X.2.1.2 + 295)), (4, .ref (hY X.2.1.2 + 296)), (5, .int (nI i))]) S1 dL_law_1500 (by decide) rfl ?_
    refine g_aload_n S1 dL_law_1502 3 rfl ?_
    refine g_aload_n S1 dL_law_1503 1 rfl ?_
    refine g_iload S1 dL_law_1504 6 rfl ?_
    refine g_iconst S1 (1 : Int32) dL_law_1506 rfl ?_
    refine g_iadd S1 dL_law_1507 ?_
    refine g_sld Z S1 (i + 1) (show nI i + nI 1 = nI (i + 1) from nI_add i 1) (by omega) dL_law_1508 ?_
    refine g_aload_n S1 dL_law_1509 1 rfl ?_
    refine g_iload S1 dL_law_1510 6 rfl ?_
    refine g_iconst S1 (2 : Int32) dL_law_1512 rfl ?_
    refine g_iadd S1 dL_law_1513 ?_
    refine g_sld Z S1 (i + 2) (show nI i + nI 2 = nI (i + 2) from nI_add i 2) (by omega) dL_law_1514 ?_
    refine gc_I S1 Z.aM (gn_V S1 (Y := YM X.2.1.2) (G2 := gM) rfl Z.K (fun H h => h.2.1) fc8 (by decide) (c_MD_withoutGate _ (YM X.2.1.2) rfl (xs (i + 1)) (xs (i + 2)) Mm _ _ h2) wdX8_withoutGate q_1367 ⟨Nat.le_of_ble_eq_true rfl, Nat.le_of_ble_eq_true rfl⟩ ⟨by rw [← Z.2.2.2.2.2.2.2.2.2.2.2.2.1]; omega, by rw [← Z.2.2.2.2.2.2.2.2.2.2.2.2.2]; omega⟩ rfl (Nat.le_of_ble_eq_true rfl) dL_law_1515) (LWP.mod Z.G) ?_
    refine g_istore (lv2 := [(7, .int r), (6, .int (1 : Int32)), (0, .ref b), (1, .ref (hY X.2.1.2 + 0)), (2, .ref (hY X.2.1.2 + 281 + 0)), (3, .ref (hY X.2.1.2 + 295)), (4, .ref (hY X.2.1.2 + 296)), (5, .int (nI i))]) S1 dL_law_1518 (by decide) rfl ?_
    refine g_aload_n S1 dL_law_1520 4 rfl ?_
    refine gc_I S1 Z.aM (gn_V S1 (Y := YM X.2.1.2) (G2 := gM) rfl Z.K (fun H h => h.2.1) fc8 (by decide) (c_MD_thrown _ (YM X.2.1.2) rfl Mm1 _ rfl) wdX8_thrown q_1233 ⟨Nat.le_of_ble_eq_true rfl, Nat.le_of_ble_eq_true rfl⟩ ⟨by rw [← Z.2.2.2.2.2.2.2.2.2.2.2.2.1]; omega, by rw [← Z.2.2.2.2.2.2.2.2.2.2.2.2.2]; omega⟩ rfl (Nat.le_of_ble_eq_true rfl) dL_law_1521) (LWP.mod Z.G) ?_
    refine g_iload S1 dL_law_1524 1 rfl ?_
    refine g_icmp_eq S1 1531 dL_law_1526 (by decide) (fun _ => ?_) (fun c9 => absurd ht c9)
    refine g_iload S1 dL_law_1531 1 rfl ?_
    refine g_if_ne S1 1548 dL_law_1533 (by decide) (fun _ => ?_) (fun c9 => absurd c9 (by decide))
    refine g_goto S1 1691 dL_law_1548 (by decide) ?_
    exact g_sub [2, 3, 4, 5, 6, 7] rfl (k9 _ _ _ _ hI1)
set_option maxRecDepth 100000 in
set_option maxHeartbeats 4000000 in
theorem lc_22 {X : Cx} {b L : Nat} {xs : Nat → Int32} {cD : ClassId} (Z : LX X b L xs cD) {Inv : Mem → Mem → Prop} (hs : Sim22 Inv) (i : Nat) (hi : i + 4 ≤ L) {Mc Mm : Mem} {vo : Nat → Int64} {vd : Nat → UInt64} (hI : Inv Mc Mm) (c s : Nat) (hc : c + 2 ≤ 601024) (hs9 : s + 12 ≤ 7293034) (k9 : ∀ Mc1 Mm1 vo1 vd1, Inv Mc1 Mm1 → AG (setX X (c + 2) (s + 12)) 1691 [(0, .ref b), (1, .ref (hY X.2.1.2 + 0)), (2, .ref (hY X.2.1.2 + 281 + 0)), (3, .ref (hY X.2.1.2 + 295)), (4, .ref (hY X.2.1.2 + 296)), (5, .int (nI i))] [] (LWP X.2.1.2 cD Mc1 Mm1 vo1 vd1)) : AG (setX X c s) 1551 [(0, .ref b), (1, .ref (hY X.2.1.2 + 0)), (2, .ref (hY X.2.1.2 + 281 + 0)), (3, .ref (hY X.2.1.2 + 295)), (4, .ref (hY X.2.1.2 + 296)), (5, .int (nI i))] [] (LWP X.2.1.2 cD Mc Mm vo vd) := by
  have S0 := Z.1 c s (by omega) (by omega)
  have S1 := Z.1 (c + 2) (s + 12) hc hs9
  have hL := Z.2.2.2.2.2.1
  refine g_aload_n S0 dL_law_1551 1 rfl ?_
  refine g_aload_n S0 dL_law_1552 0 rfl ?_
  refine g_iload S0 dL_law_1553 5 rfl ?_
  refine g_iconst S0 (1 : Int32) dL_law_1555 rfl ?_
  refine g_iadd S0 dL_law_1556 ?_
  refine g_sld Z S0 (i + 1) (show nI i + nI 1 = nI (i + 1) from nI_add i 1) (by omega) dL_law_1557 ?_
  refine g_aload_n S0 dL_law_1558 3 rfl ?_
  obtain ⟨res, Mc1, r, Mm1, h1, h2, hI1, hcase⟩ := hs Mc Mm (xs (i + 1)) hI
  rcases hcase with ⟨v, rfl, ht, rfl⟩ | ⟨rfl, ht⟩ | ⟨rfl, ht⟩
  · refine gw Z S0 (c_LW_append _ Z.2.2.2.2.2.2.2.2.2.2.2.1 _ Z.G (hY X.2.1.2 + 295) (fun z => by have := AYC Z.G z; omega) (xs (i + 1)) X.2.1.2.2.1.2.1 vo Mc _ Mc1 h1 0 (.inl (X.2.1.2.2.1.2.1, 1, .inr (.inl (vp_updL vo 0 r.toInt64)))) (fun z hz => by cases hz; exact ⟨rfl, rfl⟩) (fun k hk => by cases hk)) (Nat.le_add_right _ _) (Z.K.sub [1] rfl) (fun H h => ⟨h.1, h.2.2.1⟩) wdL_append q_1372 (Nat.le_of_ble_eq_true rfl) hc hs9 rfl (Nat.le_of_ble_eq_true rfl) dL_law_1559 (LWP.wrL Z.G) ?_
    refine g_istore (lv2 := [(6, .int (0 : Int32)), (0, .ref b), (1, .ref (hY X.2.1.2 + 0)), (2, .ref (hY X.2.1.2 + 281 + 0)), (3, .ref (hY X.2.1.2 + 295)), (4, .ref (hY X.2.1.2 + 296)), (5, .int (nI i))]) S1 dL_law_1562 (by decide) rfl ?_
    refine g_aload_n S1 dL_law_1564 3 rfl ?_
    refine g_aload_n S1 dL_law_1565 1 rfl ?_
    refine g_iload S1 dL_law_1566 6 rfl ?_
    refine g_iconst S1 (1 : Int32) dL_law_1568 rfl ?_
    refine g_iadd S1 dL_law_1569 ?_
    refine g_sld Z S1 (i + 1) (show nI i + nI 1 = nI (i + 1) from nI_add i 1) (by omega) dL_law_1570 ?_
    refine gc_I S1 Z.aM (gn_V S1 (Y := YM X.2.1.2) (G2 := gM) rfl Z.K (fun H h => h.2.1) fc8 (by decide) (c_MD_append _ (YM X.2.1.2) rfl (xs (i + 1)) Mm _ _ h2) wdX8_append q_1373 ⟨Nat.le_of_ble_eq_true rfl, Nat.le_of_ble_eq_true rfl⟩ ⟨by rw [← Z.2.2.2.2.2.2.2.2.2.2.2.2.1]; omega, by rw [← Z.2.2.2.2.2.2.2.2.2.2.2.2.2]; omega⟩ rfl (Nat.le_of_ble_eq_true rfl) dL_law_1571) (LWP.mod Z.G) ?_
    refine g_istore (lv2 := [(7, .int r), (6, .int (0 : Int32)), (0, .ref b), (1, .ref (hY X.2.1.2 + 0)), (2, .ref (hY X.2.1.2 + 281 + 0)), (3, .ref (hY X.2.1.2 + 295)), (4, .ref (hY X.2.1.2 + 296)), (5, .int (nI i))]) S1 dL_law_1574 (by decide) rfl ?_
    refine g_aload_n S1 dL_law_1576 4 rfl ?_
    refine gc_I S1 Z.aM (gn_V S1 (Y := YM X.2.1.2) (G2 := gM) rfl Z.K (fun H h => h.2.1) fc8 (by decide) (c_MD_thrown _ (YM X.2.1.2) rfl Mm1 _ rfl) wdX8_thrown q_1233 ⟨Nat.le_of_ble_eq_true rfl, Nat.le_of_ble_eq_true rfl⟩ ⟨by rw [← Z.2.2.2.2.2.2.2.2.2.2.2.2.1]; omega, by rw [← Z.2.2.2.2.2.2.2.2.2.2.2.2.2]; omega⟩ rfl (Nat.le_of_ble_eq_true rfl) dL_law_1577) (LWP.mod Z.G) ?_
    refine g_iload S1 dL_law_1580 1 rfl ?_
    refine g_icmp_eq S1 1587 dL_law_1582 (by decide) (fun _ => ?_) (fun c9 => absurd ht c9)
    refine g_iload S1 dL_law_1587 1 rfl ?_
    refine g_if_ne S1 1604 dL_law_1589 (by decide) (fun c9 => absurd rfl c9) (fun _ => ?_)
    refine g_aload_n S1 dL_law_1592 5 rfl ?_
    refine g_iconst S1 (0 : Int32) dL_law_1593 rfl ?_
    refine g_lldE S1 (fun H h => h.2.2.1) (Z.K.sub [1] rfl) (by decide) dL_law_1594 ?_
    refine g_iload S1 dL_law_1595 0 rfl ?_
    refine g_i2l S1 dL_law_1597 ?_
    refine g_lcmp_eq S1 1604 dL_law_1598 dL_law_1599 (by decide) (fun _ => ?_) (fun c9 => absurd (by first | rfl | exact heq) c9)
    refine g_goto S1 1691 dL_law_1604 (by decide) ?_
    exact g_sub [2, 3, 4, 5, 6, 7] rfl (k9 _ _ _ _ hI1)
  · refine gw Z S0 (c_LW_append _ Z.2.2.2.2.2.2.2.2.2.2.2.1 _ Z.G (hY X.2.1.2 + 295) (fun z => by have := AYC Z.G z; omega) (xs (i + 1)) X.2.1.2.2.1.2.1 vo Mc _ Mc1 h1 1 (.inl (X.2.1.2.2.1.2.1, 1, .inr (.inl vo))) (fun z hz => by cases hz) (fun k hk => by cases hk; exact Or.inl ⟨rfl, rfl, rfl⟩)) (Nat.le_add_right _ _) (Z.K.sub [1] rfl) (fun H h => ⟨h.1, h.2.2.1⟩) wdL_append q_1372 (Nat.le_of_ble_eq_true rfl) hc hs9 rfl (Nat.le_of_ble_eq_true rfl) dL_law_1559 (LWP.wrL Z.G) ?_
    refine g_istore (lv2 := [(6, .int (1 : Int32)), (0, .ref b), (1, .ref (hY X.2.1.2 + 0)), (2, .ref (hY X.2.1.2 + 281 + 0)), (3, .ref (hY X.2.1.2 + 295)), (4, .ref (hY X.2.1.2 + 296)), (5, .int (nI i))]) S1 dL_law_1562 (by decide) rfl ?_
    refine g_aload_n S1 dL_law_1564 3 rfl ?_
    refine g_aload_n S1 dL_law_1565 1 rfl ?_
    refine g_iload S1 dL_law_1566 6 rfl ?_
    refine g_iconst S1 (1 : Int32) dL_law_1568 rfl ?_
    refine g_iadd S1 dL_law_1569 ?_
    refine g_sld Z S1 (i + 1) (show nI i + nI 1 = nI (i + 1) from nI_add i 1) (by omega) dL_law_1570 ?_
    refine gc_I S1 Z.aM (gn_V S1 (Y := YM X.2.1.2) (G2 := gM) rfl Z.K (fun H h => h.2.1) fc8 (by decide) (c_MD_append _ (YM X.2.1.2) rfl (xs (i + 1)) Mm _ _ h2) wdX8_append q_1373 ⟨Nat.le_of_ble_eq_true rfl, Nat.le_of_ble_eq_true rfl⟩ ⟨by rw [← Z.2.2.2.2.2.2.2.2.2.2.2.2.1]; omega, by rw [← Z.2.2.2.2.2.2.2.2.2.2.2.2.2]; omega⟩ rfl (Nat.le_of_ble_eq_true rfl) dL_law_1571) (LWP.mod Z.G) ?_
    refine g_istore (lv2 := [(7, .int r), (6, .int (1 : Int32)), (0, .ref b), (1, .ref (hY X.2.1.2 + 0)), (2, .ref (hY X.2.1.2 + 281 + 0)), (3, .ref (hY X.2.1.2 + 295)), (4, .ref (hY X.2.1.2 + 296)), (5, .int (nI i))]) S1 dL_law_1574 (by decide) rfl ?_
    refine g_aload_n S1 dL_law_1576 4 rfl ?_
    refine gc_I S1 Z.aM (gn_V S1 (Y := YM X.2.1.2) (G2 := gM) rfl Z.K (fun H h => h.2.1) fc8 (by decide) (c_MD_thrown _ (YM X.2.1.2) rfl Mm1 _ rfl) wdX8_thrown q_1233 ⟨Nat.le_of_ble_eq_true rfl, Nat.le_of_ble_eq_true rfl⟩ ⟨by rw [← Z.2.2.2.2.2.2.2.2.2.2.2.2.1]; omega, by rw [← Z.2.2.2.2.2.2.2.2.2.2.2.2.2]; omega⟩ rfl (Nat.le_of_ble_eq_true rfl) dL_law_1577) (LWP.mod Z.G) ?_
    refine g_iload S1 dL_law_1580 1 rfl ?_
    refine g_icmp_eq S1 1587 dL_law_1582 (by decide) (fun _ => ?_) (fun c9 => absurd ht c9)
    refine g_iload S1 dL_law_1587 1 rfl ?_
    refine g_if_ne S1 1604 dL_law_1589 (by decide) (fun _ => ?_) (fun c9 => absurd c9 (by decide))
    refine g_goto S1 1691 dL_law_1604 (by decide) ?_
    exact g_sub [2, 3, 4, 5, 6, 7] rfl (k9 _ _ _ _ hI1)
  · refine gw Z S0 (c_LW_append _ Z.2.2.2.2.2.2.2.2.2.2.2.1 _ Z.G (hY X.2.1.2 + 295) (fun z => by have := AYC Z.G z; omega) (xs (i + 1)) X.2.1.2.2.1.2.1 vo Mc _ Mc1 h1 2 (.inl (X.2.1.2.2.1.2.1, 1, .inr (.inl vo))) (fun z hz => by cases hz) (fun k hk => by cases hk; exact Or.inr (⟨rfl, rfl, rfl⟩))) (Nat.le_add_right _ _) (Z.K.sub [1] rfl) (fun H h => ⟨h.1, h.2.2.1⟩) wdL_append q_1372 (Nat.le_of_ble_eq_true rfl) hc hs9 rfl (Nat.le_of_ble_eq_true rfl) dL_law_1559 (LWP.wrL Z.G) ?_
    refine g_istore (lv2 := [(6, .int (2 : Int32)), (0, .ref b), (1, .ref (hY X.2.1.2 + 0)), (2, .ref (hY X.2.1.2 + 281 + 0)), (3, .ref (hY X.2.1.2 + 295)), (4, .ref (hY X.2.1.2 + 296)), (5, .int (nI i))]) S1 dL_law_1562 (by decide) rfl ?_
    refine g_aload_n S1 dL_law_1564 3 rfl ?_
    refine g_aload_n S1 dL_law_1565 1 rfl ?_
    refine g_iload S1 dL_law_1566 6 rfl ?_
    refine g_iconst S1 (1 : Int32) dL_law_1568 rfl ?_
    refine g_iadd S1 dL_law_1569 ?_
    refine g_sld Z S1 (i + 1) (show nI i + nI 1 = nI (i + 1) from nI_add i 1) (by omega) dL_law_1570 ?_
    refine gc_I S1 Z.aM (gn_V S1 (Y := YM X.2.1.2) (G2 := gM) rfl Z.K (fun H h => h.2.1) fc8 (by decide) (c_MD_append _ (YM X.2.1.2) rfl (xs (i + 1)) Mm _ _ h2) wdX8_append q_1373 ⟨Nat.le_of_ble_eq_true rfl, Nat.le_of_ble_eq_true rfl⟩ ⟨by rw [← Z.2.2.2.2.2.2.2.2.2.2.2.2.1]; omega, by rw [← Z.2.2.2.2.2.2.2.2.2.2.2.2.2]; omega⟩ rfl (Nat.le_of_ble_eq_true rfl) dL_law_1571) (LWP.mod Z.G) ?_
    refine g_istore (lv2 := [(7, .int r), (6, .int (2 : Int32)), (0, .ref b), (1, .ref (hY X.2.1.2 + 0)), (2, .ref (hY X.2.1.2 + 281 + 0)), (3, .ref (hY X.2.1.2 + 295)), (4, .ref (hY X.2.1.2 + 296)), (5, .int (nI i))]) S1 dL_law_1574 (by decide) rfl ?_
    refine g_aload_n S1 dL_law_1576 4 rfl ?_
    refine gc_I S1 Z.aM (gn_V S1 (Y := YM X.2.1.2) (G2 := gM) rfl Z.K (fun H h => h.2.1) fc8 (by decide) (c_MD_thrown _ (YM X.2.1.2) rfl Mm1 _ rfl) wdX8_thrown q_1233 ⟨Nat.le_of_ble_eq_true rfl, Nat.le_of_ble_eq_true rfl⟩ ⟨by rw [← Z.2.2.2.2.2.2.2.2.2.2.2.2.1]; omega, by rw [← Z.2.2.2.2.2.2.2.2.2.2.2.2.2]; omega⟩ rfl (Nat.le_of_ble_eq_true rfl) dL_law_1577) (LWP.mod Z.G) ?_
    refine g_iload S1 dL_law_1580 1 rfl ?_
    refine g_icmp_eq S1 1587 dL_law_1582 (by decide) (fun _ => ?_) (fun c9 => absurd ht c9)
    refine g_iload S1 dL_law_1587 1 rfl ?_
    refine g_if_ne S1 1604 dL_law_1589 (by decide) (fun _ => ?_) (fun c9 => absurd c9 (by decide))
    refine g_goto S1 1691 dL_law_1604 (by decide) ?_
    exact g_sub [2, 3, 4, 5, 6, 7] rfl (k9 _ _ _ _ hI1)
set_option maxRecDepth 100000 in
set_option maxHeartbeats 4000000 in
theorem lc_23 {X : Cx} {b L : Nat} {xs : Nat → Int32} {cD : ClassId} (Z : LX X b L xs cD) {Inv : Mem → Mem → Prop} (hs : Sim23 Inv) (i : Nat) (hi : i + 4 ≤ L) {Mc Mm : Mem} {vo : Nat → Int64} {vd : Nat → UInt64} (hI : Inv Mc Mm) (c s : Nat) (hc : c + 0 ≤ 601024) (hs9 : s + 0 ≤ 7293034) (k9 : ∀ Mc1 Mm1 vo1 vd1, Inv Mc1 Mm1 → AG (setX X (c + 0) (s + 0)) 1691 [(0, .ref b), (1, .ref (hY X.2.1.2 + 0)), (2, .ref (hY X.2.1.2 + 281 + 0)), (3, .ref (hY X.2.1.2 + 295)), (4, .ref (hY X.2.1.2 + 296)), (5, .int (nI i))] [] (LWP X.2.1.2 cD Mc1 Mm1 vo1 vd1)) : AG (setX X c s) 1607 [(0, .ref b), (1, .ref (hY X.2.1.2 + 0)), (2, .ref (hY X.2.1.2 + 281 + 0)), (3, .ref (hY X.2.1.2 + 295)), (4, .ref (hY X.2.1.2 + 296)), (5, .int (nI i))] [] (LWP X.2.1.2 cD Mc Mm vo vd) := by
  have S0 := Z.1 c s (by omega) (by omega)
  have S1 := Z.1 (c + 0) (s + 0) hc hs9
  have hL := Z.2.2.2.2.2.1
  refine g_aload_n S0 dL_law_1607 1 rfl ?_
  obtain ⟨v, Mc1, Mm1, h1, h2, hI1⟩ := hs Mc Mm hI
  refine gc_I S0 Z.aC (gn_V S0 Z.G Z.K (fun H h => h.1) fc7 (by decide) (c_LL_clearText _ _ Z.G Mc _ _ h1) wdX7_clearText q_1378 ⟨Nat.le_of_ble_eq_true rfl, Nat.le_of_ble_eq_true rfl⟩ ⟨by rw [← Z.2.2.2.2.2.2.2.2.2.2.2.2.1]; omega, by rw [← Z.2.2.2.2.2.2.2.2.2.2.2.2.2]; omega⟩ rfl (Nat.le_of_ble_eq_true rfl) dL_law_1608) (LWP.cls Z.G) ?_
  refine g_aload_n S0 dL_law_1611 2 rfl ?_
  refine gc_I S0 Z.aM (gn_V S0 (Y := YM X.2.1.2) (G2 := gM) rfl Z.K (fun H h => h.2.1) fc8 (by decide) (c_MD_clearText _ (YM X.2.1.2) rfl  Mm _ _ h2) wdX8_clearText q_1383 ⟨Nat.le_of_ble_eq_true rfl, Nat.le_of_ble_eq_true rfl⟩ ⟨by rw [← Z.2.2.2.2.2.2.2.2.2.2.2.2.1]; omega, by rw [← Z.2.2.2.2.2.2.2.2.2.2.2.2.2]; omega⟩ rfl (Nat.le_of_ble_eq_true rfl) dL_law_1612) (LWP.mod Z.G) ?_
  refine g_icmp_eq S0 1691 dL_law_1615 (by decide) (fun _ => ?_) (fun c9 => absurd rfl c9)
  exact g_sub [0, 1, 2, 3, 4, 5] rfl (k9 _ _ _ _ hI1)
set_option maxRecDepth 100000 in
set_option maxHeartbeats 4000000 in
theorem lc_24 {X : Cx} {b L : Nat} {xs : Nat → Int32} {cD : ClassId} (Z : LX X b L xs cD) {Inv : Mem → Mem → Prop} (hs : Sim24 Inv) (i : Nat) (hi : i + 4 ≤ L) {Mc Mm : Mem} {vo : Nat → Int64} {vd : Nat → UInt64} (hI : Inv Mc Mm) (c s : Nat) (hc : c + 0 ≤ 601024) (hs9 : s + 0 ≤ 7293034) (k9 : ∀ Mc1 Mm1 vo1 vd1, Inv Mc1 Mm1 → AG (setX X (c + 0) (s + 0)) 1691 [(0, .ref b), (1, .ref (hY X.2.1.2 + 0)), (2, .ref (hY X.2.1.2 + 281 + 0)), (3, .ref (hY X.2.1.2 + 295)), (4, .ref (hY X.2.1.2 + 296)), (5, .int (nI i))] [] (LWP X.2.1.2 cD Mc1 Mm1 vo1 vd1)) : AG (setX X c s) 1620 [(0, .ref b), (1, .ref (hY X.2.1.2 + 0)), (2, .ref (hY X.2.1.2 + 281 + 0)), (3, .ref (hY X.2.1.2 + 295)), (4, .ref (hY X.2.1.2 + 296)), (5, .int (nI i))] [] (LWP X.2.1.2 cD Mc Mm vo vd) := by
  have S0 := Z.1 c s (by omega) (by omega)
  have S1 := Z.1 (c + 0) (s + 0) hc hs9
  have hL := Z.2.2.2.2.2.1
  refine g_aload_n S0 dL_law_1620 1 rfl ?_
  obtain ⟨v, Mc1, Mm1, h1, h2, hI1⟩ := hs Mc Mm hI
  refine gc_I S0 Z.aC (gn_V S0 Z.G Z.K (fun H h => h.1) fc7 (by decide) (c_LL_parse _ _ Z.G Mc _ _ h1) wdX7_parse q_1388 ⟨Nat.le_of_ble_eq_true rfl, Nat.le_of_ble_eq_true rfl⟩ ⟨by rw [← Z.2.2.2.2.2.2.2.2.2.2.2.2.1]; omega, by rw [← Z.2.2.2.2.2.2.2.2.2.2.2.2.2]; omega⟩ rfl (Nat.le_of_ble_eq_true rfl) dL_law_1621) (LWP.cls Z.G) ?_
  refine g_aload_n S0 dL_law_1624 2 rfl ?_
  refine gc_I S0 Z.aM (gn_V S0 (Y := YM X.2.1.2) (G2 := gM) rfl Z.K (fun H h => h.2.1) fc8 (by decide) (c_MD_parse _ (YM X.2.1.2) rfl  Mm _ _ h2) wdX8_parse q_1393 ⟨Nat.le_of_ble_eq_true rfl, Nat.le_of_ble_eq_true rfl⟩ ⟨by rw [← Z.2.2.2.2.2.2.2.2.2.2.2.2.1]; omega, by rw [← Z.2.2.2.2.2.2.2.2.2.2.2.2.2]; omega⟩ rfl (Nat.le_of_ble_eq_true rfl) dL_law_1625) (LWP.mod Z.G) ?_
  refine g_icmp_eq S0 1691 dL_law_1628 (by decide) (fun _ => ?_) (fun c9 => absurd rfl c9)
  exact g_sub [0, 1, 2, 3, 4, 5] rfl (k9 _ _ _ _ hI1)
set_option maxRecDepth 100000 in
set_option maxHeartbeats 4000000 in
theorem lc_25 {X : Cx} {b L : Nat} {xs : Nat → Int32} {cD : ClassId} (Z : LX X b L xs cD) {Inv : Mem → Mem → Prop} (hs : Sim25 Inv) (i : Nat) (hi : i + 4 ≤ L) {Mc Mm : Mem} {vo : Nat → Int64} {vd : Nat → UInt64} (hI : Inv Mc Mm) (c s : Nat) (hc : c + 1 ≤ 601024) (hs9 : s + 6 ≤ 7293034) (k9 : ∀ Mc1 Mm1 vo1 vd1, Inv Mc1 Mm1 → AG (setX X (c + 1) (s + 6)) 1691 [(0, .ref b), (1, .ref (hY X.2.1.2 + 0)), (2, .ref (hY X.2.1.2 + 281 + 0)), (3, .ref (hY X.2.1.2 + 295)), (4, .ref (hY X.2.1.2 + 296)), (5, .int (nI i))] [] (LWP X.2.1.2 cD Mc1 Mm1 vo1 vd1)) : AG (setX X c s) 1633 [(0, .ref b), (1, .ref (hY X.2.1.2 + 0)), (2, .ref (hY X.2.1.2 + 281 + 0)), (3, .ref (hY X.2.1.2 + 295)), (4, .ref (hY X.2.1.2 + 296)), (5, .int (nI i))] [] (LWP X.2.1.2 cD Mc Mm vo vd) := by
  have S0 := Z.1 c s (by omega) (by omega)
  have S1 := Z.1 (c + 1) (s + 6) hc hs9
  have hL := Z.2.2.2.2.2.1
  refine g_aload_n S0 dL_law_1633 1 rfl ?_
  refine g_aload_n S0 dL_law_1634 3 rfl ?_
  obtain ⟨res, Mc1, r, Mm1, h1, h2, hI1, hcase⟩ := hs Mc Mm  hI
  rcases hcase with ⟨v, rfl, ht, rfl⟩ | ⟨rfl, ht⟩
  · refine gw Z S0 (c_LW_undo _ Z.2.2.2.2.2.2.2.2.2.2.2.1 _ Z.G (hY X.2.1.2 + 295) (fun z => by have := AYC Z.G z; omega)  X.2.1.2.2.1.2.1 vo Mc _ Mc1 h1 0 (.inl (X.2.1.2.2.1.2.1, 1, .inr (.inl (vp_updL vo 0 r.toInt64)))) (fun z hz => by cases hz; exact ⟨rfl, rfl⟩) (fun k hk => by cases hk)) (Nat.le_add_right _ _) (Z.K.sub [1] rfl) (fun H h => ⟨h.1, h.2.2.1⟩) wdL_undo q_1398 (Nat.le_of_ble_eq_true rfl) hc hs9 rfl (Nat.le_of_ble_eq_true rfl) dL_law_1635 (LWP.wrL Z.G) ?_
    refine g_istore (lv2 := [(6, .int (0 : Int32)), (0, .ref b), (1, .ref (hY X.2.1.2 + 0)), (2, .ref (hY X.2.1.2 + 281 + 0)), (3, .ref (hY X.2.1.2 + 295)), (4, .ref (hY X.2.1.2 + 296)), (5, .int (nI i))]) S1 dL_law_1638 (by decide) rfl ?_
    refine g_aload_n S1 dL_law_1640 3 rfl ?_
    refine gc_I S1 Z.aM (gn_V S1 (Y := YM X.2.1.2) (G2 := gM) rfl Z.K (fun H h => h.2.1) fc8 (by decide) (c_MD_undo _ (YM X.2.1.2) rfl  Mm _ _ h2) wdX8_undo q_1399 ⟨Nat.le_of_ble_eq_true rfl, Nat.le_of_ble_eq_true rfl⟩ ⟨by rw [← Z.2.2.2.2.2.2.2.2.2.2.2.2.1]; omega, by rw [← Z.2.2.2.2.2.2.2.2.2.2.2.2.2]; omega⟩ rfl (Nat.le_of_ble_eq_true rfl) dL_law_1641) (LWP.mod Z.G) ?_
    refine g_istore (lv2 := [(7, .int r), (6, .int (0 : Int32)), (0, .ref b), (1, .ref (hY X.2.1.2 + 0)), (2, .ref (hY X.2.1.2 + 281 + 0)), (3, .ref (hY X.2.1.2 + 295)), (4, .ref (hY X.2.1.2 + 296)), (5, .int (nI i))]) S1 dL_law_1644 (by decide) rfl ?_
    refine g_aload_n S1 dL_law_1646 4 rfl ?_
    refine gc_I S1 Z.aM (gn_V S1 (Y := YM X.2.1.2) (G2 := gM) rfl Z.K (fun H h => h.2.1) fc8 (by decide) (c_MD_thrown _ (YM X.2.1.2) rfl Mm1 _ rfl) wdX8_thrown q_1233 ⟨Nat.le_of_ble_eq_true rfl, Nat.le_of_ble_eq_true rfl⟩ ⟨by rw [← Z.2.2.2.2.2.2.2.2.2.2.2.2.1]; omega, by rw [← Z.2.2.2.2.2.2.2.2.2.2.2.2.2]; omega⟩ rfl (Nat.le_of_ble_eq_true rfl) dL_law_1647) (LWP.mod Z.G) ?_
    refine g_iload S1 dL_law_1650 1 rfl ?_
    refine g_icmp_eq S1 1657 dL_law_1652 (by decide) (fun _ => ?_) (fun c9 => absurd ht c9)
    refine g_iload S1 dL_law_1657 1 rfl ?_
    refine g_if_ne S1 1674 dL_law_1659 (by decide) (fun c9 => absurd rfl c9) (fun _ => ?_)
    refine g_aload_n S1 dL_law_1662 5 rfl ?_
    refine g_iconst S1 (0 : Int32) dL_law_1663 rfl ?_
    refine g_lldE S1 (fun H h => h.2.2.1) (Z.K.sub [1] rfl) (by decide) dL_law_1664 ?_
    refine g_iload S1 dL_law_1665 0 rfl ?_
    refine g_i2l S1 dL_law_1667 ?_
    refine g_lcmp_eq S1 1674 dL_law_1668 dL_law_1669 (by decide) (fun _ => ?_) (fun c9 => absurd (by first | rfl | exact heq) c9)
    refine g_goto S1 1691 dL_law_1674 (by decide) ?_
    exact g_sub [2, 3, 4, 5, 6, 7] rfl (k9 _ _ _ _ hI1)
  · refine gw Z S0 (c_LW_undo _ Z.2.2.2.2.2.2.2.2.2.2.2.1 _ Z.G (hY X.2.1.2 + 295) (fun z => by have := AYC Z.G z; omega)  X.2.1.2.2.1.2.1 vo Mc _ Mc1 h1 1 (.inl (X.2.1.2.2.1.2.1, 1, .inr (.inl vo))) (fun z hz => by cases hz) (fun k hk => by cases hk; exact ⟨rfl, rfl, rfl⟩)) (Nat.le_add_right _ _) (Z.K.sub [1] rfl) (fun H h => ⟨h.1, h.2.2.1⟩) wdL_undo q_1398 (Nat.le_of_ble_eq_true rfl) hc hs9 rfl (Nat.le_of_ble_eq_true rfl) dL_law_1635 (LWP.wrL Z.G) ?_
    refine g_istore (lv2 := [(6, .int (1 : Int32)), (0, .ref b), (1, .ref (hY X.2.1.2 + 0)), (2, .ref (hY X.2.1.2 + 281 + 0)), (3, .ref (hY X.2.1.2 + 295)), (4, .ref (hY X.2.1.2 + 296)), (5, .int (nI i))]) S1 dL_law_1638 (by decide) rfl ?_
    refine g_aload_n S1 dL_law_1640 3 rfl ?_
    refine gc_I S1 Z.aM (gn_V S1 (Y := YM X.2.1.2) (G2 := gM) rfl Z.K (fun H h => h.2.1) fc8 (by decide) (c_MD_undo _ (YM X.2.1.2) rfl  Mm _ _ h2) wdX8_undo q_1399 ⟨Nat.le_of_ble_eq_true rfl, Nat.le_of_ble_eq_true rfl⟩ ⟨by rw [← Z.2.2.2.2.2.2.2.2.2.2.2.2.1]; omega, by rw [← Z.2.2.2.2.2.2.2.2.2.2.2.2.2]; omega⟩ rfl (Nat.le_of_ble_eq_true rfl) dL_law_1641) (LWP.mod Z.G) ?_
    refine g_istore (lv2 := [(7, .int r), (6, .int (1 : Int32)), (0, .ref b), (1, .ref (hY X.2.1.2 + 0)), (2, .ref (hY X.2.1.2 + 281 + 0)), (3, .ref (hY X.2.1.2 + 295)), (4, .ref (hY X.2.1.2 + 296)), (5, .int (nI i))]) S1 dL_law_1644 (by decide) rfl ?_
    refine g_aload_n S1 dL_law_1646 4 rfl ?_
    refine gc_I S1 Z.aM (gn_V S1 (Y := YM X.2.1.2) (G2 := gM) rfl Z.K (fun H h => h.2.1) fc8 (by decide) (c_MD_thrown _ (YM X.2.1.2) rfl Mm1 _ rfl) wdX8_thrown q_1233 ⟨Nat.le_of_ble_eq_true rfl, Nat.le_of_ble_eq_true rfl⟩ ⟨by rw [← Z.2.2.2.2.2.2.2.2.2.2.2.2.1]; omega, by rw [← Z.2.2.2.2.2.2.2.2.2.2.2.2.2]; omega⟩ rfl (Nat.le_of_ble_eq_true rfl) dL_law_1647) (LWP.mod Z.G) ?_
    refine g_iload S1 dL_law_1650 1 rfl ?_
    refine g_icmp_eq S1 1657 dL_law_1652 (by decide) (fun _ => ?_) (fun c9 => absurd ht c9)
    refine g_iload S1 dL_law_1657 1 rfl ?_
    refine g_if_ne S1 1674 dL_law_1659 (by decide) (fun _ => ?_) (fun c9 => absurd c9 (by decide))
    refine g_goto S1 1691 dL_law_1674 (by decide) ?_
    exact g_sub [2, 3, 4, 5, 6, 7] rfl (k9 _ _ _ _ hI1)
set_option maxRecDepth 100000 in
set_option maxHeartbeats 4000000 in
theorem lc_26 {X : Cx} {b L : Nat} {xs : Nat → Int32} {cD : ClassId} (Z : LX X b L xs cD) {Inv : Mem → Mem → Prop} (hs : Sim26 Inv) (i : Nat) (hi : i + 4 ≤ L) {Mc Mm : Mem} {vo : Nat → Int64} {vd : Nat → UInt64} (hI : Inv Mc Mm) (c s : Nat) (hc : c + 0 ≤ 601024) (hs9 : s + 0 ≤ 7293034) (k9 : ∀ Mc1 Mm1 vo1 vd1, Inv Mc1 Mm1 → AG (setX X (c + 0) (s + 0)) 1691 [(0, .ref b), (1, .ref (hY X.2.1.2 + 0)), (2, .ref (hY X.2.1.2 + 281 + 0)), (3, .ref (hY X.2.1.2 + 295)), (4, .ref (hY X.2.1.2 + 296)), (5, .int (nI i))] [] (LWP X.2.1.2 cD Mc1 Mm1 vo1 vd1)) : AG (setX X c s) 1677 [(0, .ref b), (1, .ref (hY X.2.1.2 + 0)), (2, .ref (hY X.2.1.2 + 281 + 0)), (3, .ref (hY X.2.1.2 + 295)), (4, .ref (hY X.2.1.2 + 296)), (5, .int (nI i))] [] (LWP X.2.1.2 cD Mc Mm vo vd) := by
  have S0 := Z.1 c s (by omega) (by omega)
  have S1 := Z.1 (c + 0) (s + 0) hc hs9
  have hL := Z.2.2.2.2.2.1
  refine g_aload_n S0 dL_law_1677 1 rfl ?_
  obtain ⟨v, Mm1, h1, h2, hI1⟩ := hs Mc Mm hI
  refine gc_L S0 Z.aC (gn_V S0 Z.G Z.K (fun H h => h.1) fc7 (by decide) (c_LL_digest _ _ Z.G Mc _ h1) wdX7_digest q_1404 ⟨Nat.le_of_ble_eq_true rfl, Nat.le_of_ble_eq_true rfl⟩ ⟨by rw [← Z.2.2.2.2.2.2.2.2.2.2.2.2.1]; omega, by rw [← Z.2.2.2.2.2.2.2.2.2.2.2.2.2]; omega⟩ rfl (Nat.le_of_ble_eq_true rfl) dL_law_1678) (LWP.cls Z.G) ?_
  refine g_aload_n S0 dL_law_1681 2 rfl ?_
  refine gc_L S0 Z.aM (gn_V S0 (Y := YM X.2.1.2) (G2 := gM) rfl Z.K (fun H h => h.2.1) fc8 (by decide) (c_MD_digest _ (YM X.2.1.2) rfl  Mm _ _ h2) wdX8_digest q_1409 ⟨Nat.le_of_ble_eq_true rfl, Nat.le_of_ble_eq_true rfl⟩ ⟨by rw [← Z.2.2.2.2.2.2.2.2.2.2.2.2.1]; omega, by rw [← Z.2.2.2.2.2.2.2.2.2.2.2.2.2]; omega⟩ rfl (Nat.le_of_ble_eq_true rfl) dL_law_1682) (LWP.mod Z.G) ?_
  refine g_lcmp_eq S0 1691 dL_law_1685 dL_law_1686 (by decide) (fun _ => ?_) (fun c9 => absurd (by first | rfl | exact heq) c9)
  exact g_sub [0, 1, 2, 3, 4, 5] rfl (k9 _ _ _ _ hI1)
