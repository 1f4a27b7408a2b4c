theorem lcmp_self (x : Int64) : lg_cmp x x = 0 := by
  unfold lg_cmp
  simp
theorem lc_0 {b L X j : Nat} {xs : Nat → Int32} {S : TS} {h : Hp} (hj : 6 * j + 6 ≤ L) (hL : L ≤ 3072) (hI : SInv S) (hC : CRep h X S) (hM : MRep h (X + 126) S) (kk : ∀ (S1 : TS) (h1 : Hp), SInv S1 → CRep h1 X S1 → MRep h1 (X + 126) S1 → AW mL_law (gL b L xs) 1102 [some (.ref b), some (.ref X), some (.ref (X + 126)), some (.int (nI (6 * j)))] [] (158 + 10 * (j + 1)) (28596 + 1010 * (j + 1)) (cn X S1) h1) : AW mL_law (gL b L xs) 152 [some (.ref b), some (.ref X), some (.ref (X + 126)), some (.int (nI (6 * j)))] [] (158 + 10 * j) (28596 + 1010 * j) (cn X S) h := by
  refine aw_aload_n (i := 1) dL_law_152 rfl rfl ?_
  refine aw_aload_n (i := 0) dL_law_153 rfl rfl ?_
  refine aw_iload_n (i := 3) dL_law_154 rfl rfl ?_
  refine aw_iconst (v := 1) dL_law_155 (by decide +kernel) ?_
  refine aw_iadd dL_law_156 ?_
  refine aw_sld dL_law_157 (vin (k := 1) hj hL (by decide) rfl) ?_
  refine aw_invokevirtual kL_13 dL_law_158 hC.at (ck_weight h X S _ hC hI) rfl rfl (Nat.le_of_ble_eq_true rfl) ⟨Nat.le_of_ble_eq_true rfl, Nat.le_of_ble_eq_true rfl⟩ ⟨by show _ ≤ 600000; omega, by show _ ≤ 7302249; omega⟩ ?_
  rintro _ _ h1 ⟨rfl, rfl, hC1, hf1⟩
  have hM1 := hf1.mr hM
  refine aw_aload_n (i := 2) dL_law_161 rfl rfl ?_
  refine aw_aload_n (i := 0) dL_law_162 rfl rfl ?_
  refine aw_iload_n (i := 3) dL_law_163 rfl rfl ?_
  refine aw_iconst (v := 1) dL_law_164 (by decide +kernel) ?_
  refine aw_iadd dL_law_165 ?_
  refine aw_sld dL_law_166 (vin (k := 1) hj hL (by decide) rfl) ?_
  refine aw_invokevirtual kL_17 dL_law_167 hM1.at (mt_weight _ h1 (X + 126) S _ hM1 hI) rfl rfl (Nat.le_of_ble_eq_true rfl) ⟨Nat.le_of_ble_eq_true rfl, Nat.le_of_ble_eq_true rfl⟩ ⟨by show _ ≤ 600000; omega, by show _ ≤ 7302249; omega⟩ ?_
  rintro _ _ h2 ⟨rfl, rfl, hM2, hf2⟩
  refine aw_icmp_eq (tgt := 1102) dL_law_170 (by decide) (fun _ => ?_) (fun c => (c rfl).elim)
  exact AW.widen (by omega) (by omega) (kk _ h2 (iv_weight hI _) (hf2.cr hC1) hM2)
theorem lc_1 {b L X j : Nat} {xs : Nat → Int32} {S : TS} {h : Hp} (hj : 6 * j + 6 ≤ L) (hL : L ≤ 3072) (hI : SInv S) (hC : CRep h X S) (hM : MRep h (X + 126) S) (kk : ∀ (S1 : TS) (h1 : Hp), SInv S1 → CRep h1 X S1 → MRep h1 (X + 126) S1 → AW mL_law (gL b L xs) 1102 [some (.ref b), some (.ref X), some (.ref (X + 126)), some (.int (nI (6 * j)))] [] (158 + 10 * (j + 1)) (28596 + 1010 * (j + 1)) (cn X S1) h1) : AW mL_law (gL b L xs) 175 [some (.ref b), some (.ref X), some (.ref (X + 126)), some (.int (nI (6 * j)))] [] (158 + 10 * j) (28596 + 1010 * j) (cn X S) h := by
  refine aw_aload_n (i := 1) dL_law_175 rfl rfl ?_
  refine aw_invokevirtual kL_18 dL_law_176 hC.at (ck_wipe h X S  hC) rfl rfl (Nat.le_of_ble_eq_true rfl) ⟨Nat.le_of_ble_eq_true rfl, Nat.le_of_ble_eq_true rfl⟩ ⟨by show _ ≤ 600000; omega, by show _ ≤ 7302249; omega⟩ ?_
  rintro _ _ h1 ⟨rfl, rfl, hC1, hf1⟩
  have hM1 := hf1.mr hM
  refine aw_aload_n (i := 2) dL_law_179 rfl rfl ?_
  refine aw_invokevirtual kL_22 dL_law_180 hM1.at (mt_wipe _ h1 (X + 126) S  hM1) rfl rfl (Nat.le_of_ble_eq_true rfl) ⟨Nat.le_of_ble_eq_true rfl, Nat.le_of_ble_eq_true rfl⟩ ⟨by show _ ≤ 600000; omega, by show _ ≤ 7302249; omega⟩ ?_
  rintro _ _ h2 ⟨rfl, rfl, hM2, hf2⟩
  refine aw_icmp_eq (tgt := 1102) dL_law_183 (by decide) (fun _ => ?_) (fun c => (c rfl).elim)
  exact AW.widen (by omega) (by omega) (kk _ h2 (iv_wipe hI ) (hf2.cr hC1) hM2)
theorem lc_2 {b L X j : Nat} {xs : Nat → Int32} {S : TS} {h : Hp} (hj : 6 * j + 6 ≤ L) (hL : L ≤ 3072) (hI : SInv S) (hC : CRep h X S) (hM : MRep h (X + 126) S) (kk : ∀ (S1 : TS) (h1 : Hp), SInv S1 → CRep h1 X S1 → MRep h1 (X + 126) S1 → AW mL_law (gL b L xs) 1102 [some (.ref b), some (.ref X), some (.ref (X + 126)), some (.int (nI (6 * j)))] [] (158 + 10 * (j + 1)) (28596 + 1010 * (j + 1)) (cn X S1) h1) : AW mL_law (gL b L xs) 188 [some (.ref b), some (.ref X), some (.ref (X + 126)), some (.int (nI (6 * j)))] [] (158 + 10 * j) (28596 + 1010 * j) (cn X S) h := by
  refine aw_aload_n (i := 1) dL_law_188 rfl rfl ?_
  refine aw_aload_n (i := 0) dL_law_189 rfl rfl ?_
  refine aw_iload_n (i := 3) dL_law_190 rfl rfl ?_
  refine aw_iconst (v := 1) dL_law_191 (by decide +kernel) ?_
  refine aw_iadd dL_law_192 ?_
  refine aw_sld dL_law_193 (vin (k := 1) hj hL (by decide) rfl) ?_
  refine aw_aload_n (i := 0) dL_law_194 rfl rfl ?_
  refine aw_iload_n (i := 3) dL_law_195 rfl rfl ?_
  refine aw_iconst (v := 2) dL_law_196 (by decide +kernel) ?_
  refine aw_iadd dL_law_197 ?_
  refine aw_sld dL_law_198 (vin (k := 2) hj hL (by decide) rfl) ?_
  refine aw_aload_n (i := 0) dL_law_199 rfl rfl ?_
  refine aw_iload_n (i := 3) dL_law_200 rfl rfl ?_
  refine aw_iconst (v := 3) dL_law_201 (by decide +kernel) ?_
  refine aw_iadd dL_law_202 ?_
  refine aw_sld dL_law_203 (vin (k := 3) hj hL (by decide) rfl) ?_
  refine aw_invokevirtual kL_23 dL_law_204 hC.at (ck_coins h X S _ _ _ hC hI) rfl rfl (Nat.le_of_ble_eq_true rfl) ⟨Nat.le_of_ble_eq_true rfl, Nat.le_of_ble_eq_true rfl⟩ ⟨by show _ ≤ 600000; omega, by show _ ≤ 7302249; omega⟩ ?_
  rintro _ _ h1 ⟨rfl, rfl, hC1, hf1⟩
  have hM1 := hf1.mr hM
  refine aw_aload_n (i := 2) dL_law_207 rfl rfl ?_
  refine aw_aload_n (i := 0) dL_law_208 rfl rfl ?_
  refine aw_iload_n (i := 3) dL_law_209 rfl rfl ?_
  refine aw_iconst (v := 1) dL_law_210 (by decide +kernel) ?_
  refine aw_iadd dL_law_211 ?_
  refine aw_sld dL_law_212 (vin (k := 1) hj hL (by decide) rfl) ?_
  refine aw_aload_n (i := 0) dL_law_213 rfl rfl ?_
  refine aw_iload_n (i := 3) dL_law_214 rfl rfl ?_
  refine aw_iconst (v := 2) dL_law_215 (by decide +kernel) ?_
  refine aw_iadd dL_law_216 ?_
  refine aw_sld dL_law_217 (vin (k := 2) hj hL (by decide) rfl) ?_
  refine aw_aload_n (i := 0) dL_law_218 rfl rfl ?_
  refine aw_iload_n (i := 3) dL_law_219 rfl rfl ?_
  refine aw_iconst (v := 3) dL_law_220 (by decide +kernel) ?_
  refine aw_iadd dL_law_221 ?_
  refine aw_sld dL_law_222 (vin (k := 3) hj hL (by decide) rfl) ?_
  refine aw_invokevirtual kL_27 dL_law_223 hM1.at (mt_coins _ h1 (X + 126) S _ _ _ hM1 hI) rfl rfl (Nat.le_of_ble_eq_true rfl) ⟨Nat.le_of_ble_eq_true rfl, Nat.le_of_ble_eq_true rfl⟩ ⟨by show _ ≤ 600000; omega, by show _ ≤ 7302249; omega⟩ ?_
  rintro _ _ h2 ⟨rfl, rfl, hM2, hf2⟩
  refine aw_icmp_eq (tgt := 1102) dL_law_226 (by decide) (fun _ => ?_) (fun c => (c rfl).elim)
  exact AW.widen (by omega) (by omega) (kk _ h2 (iv_coins hI _ _ _) (hf2.cr hC1) hM2)
theorem lc_3 {b L X j : Nat} {xs : Nat → Int32} {S : TS} {h : Hp} (hj : 6 * j + 6 ≤ L) (hL : L ≤ 3072) (hI : SInv S) (hC : CRep h X S) (hM : MRep h (X + 126) S) (kk : ∀ (S1 : TS) (h1 : Hp), SInv S1 → CRep h1 X S1 → MRep h1 (X + 126) S1 → AW mL_law (gL b L xs) 1102 [some (.ref b), some (.ref X), some (.ref (X + 126)), some (.int (nI (6 * j)))] [] (158 + 10 * (j + 1)) (28596 + 1010 * (j + 1)) (cn X S1) h1) : AW mL_law (gL b L xs) 231 [some (.ref b), some (.ref X), some (.ref (X + 126)), some (.int (nI (6 * j)))] [] (158 + 10 * j) (28596 + 1010 * j) (cn X S) h := by
  refine aw_aload_n (i := 1) dL_law_231 rfl rfl ?_
  refine aw_aload_n (i := 0) dL_law_232 rfl rfl ?_
  refine aw_iload_n (i := 3) dL_law_233 rfl rfl ?_
  refine aw_iconst (v := 1) dL_law_234 (by decide +kernel) ?_
  refine aw_iadd dL_law_235 ?_
  refine aw_sld dL_law_236 (vin (k := 1) hj hL (by decide) rfl) ?_
  refine aw_aload_n (i := 0) dL_law_237 rfl rfl ?_
  refine aw_iload_n (i := 3) dL_law_238 rfl rfl ?_
  refine aw_iconst (v := 2) dL_law_239 (by decide +kernel) ?_
  refine aw_iadd dL_law_240 ?_
  refine aw_sld dL_law_241 (vin (k := 2) hj hL (by decide) rfl) ?_
  refine aw_aload_n (i := 0) dL_law_242 rfl rfl ?_
  refine aw_iload_n (i := 3) dL_law_243 rfl rfl ?_
  refine aw_iconst (v := 3) dL_law_244 (by decide +kernel) ?_
  refine aw_iadd dL_law_245 ?_
  refine aw_sld dL_law_246 (vin (k := 3) hj hL (by decide) rfl) ?_
  refine aw_invokevirtual kL_28 dL_law_247 hC.at (ck_drawn h X S _ _ _ hC hI) rfl rfl (Nat.le_of_ble_eq_true rfl) ⟨Nat.le_of_ble_eq_true rfl, Nat.le_of_ble_eq_true rfl⟩ ⟨by show _ ≤ 600000; omega, by show _ ≤ 7302249; omega⟩ ?_
  rintro _ _ h1 ⟨rfl, rfl, hC1, hf1⟩
  have hM1 := hf1.mr hM
  refine aw_aload_n (i := 2) dL_law_250 rfl rfl ?_
  refine aw_aload_n (i := 0) dL_law_251 rfl rfl ?_
  refine aw_iload_n (i := 3) dL_law_252 rfl rfl ?_
  refine aw_iconst (v := 1) dL_law_253 (by decide +kernel) ?_
  refine aw_iadd dL_law_254 ?_
  refine aw_sld dL_law_255 (vin (k := 1) hj hL (by decide) rfl) ?_
  refine aw_aload_n (i := 0) dL_law_256 rfl rfl ?_
  refine aw_iload_n (i := 3) dL_law_257 rfl rfl ?_
  refine aw_iconst (v := 2) dL_law_258 (by decide +kernel) ?_
  refine aw_iadd dL_law_259 ?_
  refine aw_sld dL_law_260 (vin (k := 2) hj hL (by decide) rfl) ?_
  refine aw_aload_n (i := 0) dL_law_261 rfl rfl ?_
  refine aw_iload_n (i := 3) dL_law_262 rfl rfl ?_
  refine aw_iconst (v := 3) dL_law_263 (by decide +kernel) ?_
  refine aw_iadd dL_law_264 ?_
  refine aw_sld dL_law_265 (vin (k := 3) hj hL (by decide) rfl) ?_
  refine aw_invokevirtual kL_31 dL_law_266 hM1.at (mt_drawn _ h1 (X + 126) S _ _ _ hM1 hI) rfl rfl (Nat.le_of_ble_eq_true rfl) ⟨Nat.le_of_ble_eq_true rfl, Nat.le_of_ble_eq_true rfl⟩ ⟨by show _ ≤ 600000; omega, by show _ ≤ 7302249; omega⟩ ?_
  rintro _ _ h2 ⟨rfl, rfl, hM2, hf2⟩
  refine aw_icmp_eq (tgt := 1102) dL_law_269 (by decide) (fun _ => ?_) (fun c => (c rfl).elim)
  exact AW.widen (by omega) (by omega) (kk _ h2 (iv_drawn hI _ _ _) (hf2.cr hC1) hM2)
theorem lc_4 {b L X j : Nat} {xs : Nat → Int32} {S : TS} {h : Hp} (hj : 6 * j + 6 ≤ L) (hL : L ≤ 3072) (hI : SInv S) (hC : CRep h X S) (hM : MRep h (X + 126) S) (kk : ∀ (S1 : TS) (h1 : Hp), SInv S1 → CRep h1 X S1 → MRep h1 (X + 126) S1 → AW mL_law (gL b L xs) 1102 [some (.ref b), some (.ref X), some (.ref (X + 126)), some (.int (nI (6 * j)))] [] (158 + 10 * (j + 1)) (28596 + 1010 * (j + 1)) (cn X S1) h1) : AW mL_law (gL b L xs) 274 [some (.ref b), some (.ref X), some (.ref (X + 126)), some (.int (nI (6 * j)))] [] (158 + 10 * j) (28596 + 1010 * j) (cn X S) h := by
  refine aw_aload_n (i := 1) dL_law_274 rfl rfl ?_
  refine aw_aload_n (i := 0) dL_law_275 rfl rfl ?_
  refine aw_iload_n (i := 3) dL_law_276 rfl rfl ?_
  refine aw_iconst (v := 1) dL_law_277 (by decide +kernel) ?_
  refine aw_iadd dL_law_278 ?_
  refine aw_sld dL_law_279 (vin (k := 1) hj hL (by decide) rfl) ?_
  refine aw_invokevirtual kL_32 dL_law_280 hC.at (ck_sums h X S _ hC hI) rfl rfl (Nat.le_of_ble_eq_true rfl) ⟨Nat.le_of_ble_eq_true rfl, Nat.le_of_ble_eq_true rfl⟩ ⟨by show _ ≤ 600000; omega, by show _ ≤ 7302249; omega⟩ ?_
  rintro _ _ h1 ⟨rfl, rfl, hC1, hf1⟩
  have hM1 := hf1.mr hM
  refine aw_aload_n (i := 2) dL_law_283 rfl rfl ?_
  refine aw_aload_n (i := 0) dL_law_284 rfl rfl ?_
  refine aw_iload_n (i := 3) dL_law_285 rfl rfl ?_
  refine aw_iconst (v := 1) dL_law_286 (by decide +kernel) ?_
  refine aw_iadd dL_law_287 ?_
  refine aw_sld dL_law_288 (vin (k := 1) hj hL (by decide) rfl) ?_
  refine aw_invokevirtual kL_35 dL_law_289 hM1.at (mt_sums _ h1 (X + 126) S _ hM1 hI) rfl rfl (Nat.le_of_ble_eq_true rfl) ⟨Nat.le_of_ble_eq_true rfl, Nat.le_of_ble_eq_true rfl⟩ ⟨by show _ ≤ 600000; omega, by show _ ≤ 7302249; omega⟩ ?_
  rintro _ _ h2 ⟨rfl, rfl, hM2, hf2⟩
  refine aw_icmp_eq (tgt := 1102) dL_law_292 (by decide) (fun _ => ?_) (fun c => (c rfl).elim)
  exact AW.widen (by omega) (by omega) (kk _ h2 (iv_sums hI _) (hf2.cr hC1) hM2)
theorem lc_5 {b L X j : Nat} {xs : Nat → Int32} {S : TS} {h : Hp} (hj : 6 * j + 6 ≤ L) (hL : L ≤ 3072) (hI : SInv S) (hC : CRep h X S) (hM : MRep h (X + 126) S) (kk : ∀ (S1 : TS) (h1 : Hp), SInv S1 → CRep h1 X S1 → MRep h1 (X + 126) S1 → AW mL_law (gL b L xs) 1102 [some (.ref b), some (.ref X), some (.ref (X + 126)), some (.int (nI (6 * j)))] [] (158 + 10 * (j + 1)) (28596 + 1010 * (j + 1)) (cn X S1) h1) : AW mL_law (gL b L xs) 297 [some (.ref b), some (.ref X), some (.ref (X + 126)), some (.int (nI (6 * j)))] [] (158 + 10 * j) (28596 + 1010 * j) (cn X S) h := by
  refine aw_aload_n (i := 1) dL_law_297 rfl rfl ?_
  refine aw_aload_n (i := 0) dL_law_298 rfl rfl ?_
  refine aw_iload_n (i := 3) dL_law_299 rfl rfl ?_
  refine aw_iconst (v := 1) dL_law_300 (by decide +kernel) ?_
  refine aw_iadd dL_law_301 ?_
  refine aw_sld dL_law_302 (vin (k := 1) hj hL (by decide) rfl) ?_
  refine aw_aload_n (i := 0) dL_law_303 rfl rfl ?_
  refine aw_iload_n (i := 3) dL_law_304 rfl rfl ?_
  refine aw_iconst (v := 2) dL_law_305 (by decide +kernel) ?_
  refine aw_iadd dL_law_306 ?_
  refine aw_sld dL_law_307 (vin (k := 2) hj hL (by decide) rfl) ?_
  refine aw_invokevirtual kL_36 dL_law_308 hC.at (ck_both h X S _ _ hC hI) rfl rfl (Nat.le_of_ble_eq_true rfl) ⟨Nat.le_of_ble_eq_true rfl, Nat.le_of_ble_eq_true rfl⟩ ⟨by show _ ≤ 600000; omega, by show _ ≤ 7302249; omega⟩ ?_
  rintro _ _ h1 ⟨rfl, rfl, hC1, hf1⟩
  have hM1 := hf1.mr hM
  refine aw_aload_n (i := 2) dL_law_311 rfl rfl ?_
  refine aw_aload_n (i := 0) dL_law_312 rfl rfl ?_
  refine aw_iload_n (i := 3) dL_law_313 rfl rfl ?_
  refine aw_iconst (v := 1) dL_law_314 (by decide +kernel) ?_
  refine aw_iadd dL_law_315 ?_
  refine aw_sld dL_law_316 (vin (k := 1) hj hL (by decide) rfl) ?_
  refine aw_aload_n (i := 0) dL_law_317 rfl rfl ?_
  refine aw_iload_n (i := 3) dL_law_318 rfl rfl ?_
  refine aw_iconst (v := 2) dL_law_319 (by decide +kernel) ?_
  refine aw_iadd dL_law_320 ?_
  refine aw_sld dL_law_321 (vin (k := 2) hj hL (by decide) rfl) ?_
  refine aw_invokevirtual kL_40 dL_law_322 hM1.at (mt_both _ h1 (X + 126) S _ _ hM1 hI) rfl rfl (Nat.le_of_ble_eq_true rfl) ⟨Nat.le_of_ble_eq_true rfl, Nat.le_of_ble_eq_true rfl⟩ ⟨by show _ ≤ 600000; omega, by show _ ≤ 7302249; omega⟩ ?_
  rintro _ _ h2 ⟨rfl, rfl, hM2, hf2⟩
  refine aw_icmp_eq (tgt := 1102) dL_law_325 (by decide) (fun _ => ?_) (fun c => (c rfl).elim)
  exact AW.widen (by omega) (by omega) (kk _ h2 (iv_both hI _ _) (hf2.cr hC1) hM2)
theorem lc_6 {b L X j : Nat} {xs : Nat → Int32} {S : TS} {h : Hp} (hj : 6 * j + 6 ≤ L) (hL : L ≤ 3072) (hI : SInv S) (hC : CRep h X S) (hM : MRep h (X + 126) S) (kk : ∀ (S1 : TS) (h1 : Hp), SInv S1 → CRep h1 X S1 → MRep h1 (X + 126) S1 → AW mL_law (gL b L xs) 1102 [some (.ref b), some (.ref X), some (.ref (X + 126)), some (.int (nI (6 * j)))] [] (158 + 10 * (j + 1)) (28596 + 1010 * (j + 1)) (cn X S1) h1) : AW mL_law (gL b L xs) 330 [some (.ref b), some (.ref X), some (.ref (X + 126)), some (.int (nI (6 * j)))] [] (158 + 10 * j) (28596 + 1010 * j) (cn X S) h := by
  refine aw_aload_n (i := 1) dL_law_330 rfl rfl ?_
  refine aw_aload_n (i := 0) dL_law_331 rfl rfl ?_
  refine aw_iload_n (i := 3) dL_law_332 rfl rfl ?_
  refine aw_iconst (v := 1) dL_law_333 (by decide +kernel) ?_
  refine aw_iadd dL_law_334 ?_
  refine aw_sld dL_law_335 (vin (k := 1) hj hL (by decide) rfl) ?_
  refine aw_aload_n (i := 0) dL_law_336 rfl rfl ?_
  refine aw_iload_n (i := 3) dL_law_337 rfl rfl ?_
  refine aw_iconst (v := 2) dL_law_338 (by decide +kernel) ?_
  refine aw_iadd dL_law_339 ?_
  refine aw_sld dL_law_340 (vin (k := 2) hj hL (by decide) rfl) ?_
  refine aw_aload_n (i := 0) dL_law_341 rfl rfl ?_
  refine aw_iload_n (i := 3) dL_law_342 rfl rfl ?_
  refine aw_iconst (v := 3) dL_law_343 (by decide +kernel) ?_
  refine aw_iadd dL_law_344 ?_
  refine aw_sld dL_law_345 (vin (k := 3) hj hL (by decide) rfl) ?_
  refine aw_invokevirtual kL_41 dL_law_346 hC.at (ck_held h X S _ _ _ hC hI) rfl rfl (Nat.le_of_ble_eq_true rfl) ⟨Nat.le_of_ble_eq_true rfl, Nat.le_of_ble_eq_true rfl⟩ ⟨by show _ ≤ 600000; omega, by show _ ≤ 7302249; omega⟩ ?_
  rintro _ _ h1 ⟨rfl, rfl, hC1, hf1⟩
  have hM1 := hf1.mr hM
  refine aw_aload_n (i := 2) dL_law_349 rfl rfl ?_
  refine aw_aload_n (i := 0) dL_law_350 rfl rfl ?_
  refine aw_iload_n (i := 3) dL_law_351 rfl rfl ?_
  refine aw_iconst (v := 1) dL_law_352 (by decide +kernel) ?_
  refine aw_iadd dL_law_353 ?_
  refine aw_sld dL_law_354 (vin (k := 1) hj hL (by decide) rfl) ?_
  refine aw_aload_n (i := 0) dL_law_355 rfl rfl ?_
  refine aw_iload_n (i := 3) dL_law_356 rfl rfl ?_
  refine aw_iconst (v := 2) dL_law_357 (by decide +kernel) ?_
  refine aw_iadd dL_law_358 ?_
  refine aw_sld dL_law_359 (vin (k := 2) hj hL (by decide) rfl) ?_
  refine aw_aload_n (i := 0) dL_law_360 rfl rfl ?_
  refine aw_iload_n (i := 3) dL_law_361 rfl rfl ?_
  refine aw_iconst (v := 3) dL_law_362 (by decide +kernel) ?_
  refine aw_iadd dL_law_363 ?_
  refine aw_sld dL_law_364 (vin (k := 3) hj hL (by decide) rfl) ?_
  refine aw_invokevirtual kL_44 dL_law_365 hM1.at (mt_held _ h1 (X + 126) S _ _ _ hM1 hI) rfl rfl (Nat.le_of_ble_eq_true rfl) ⟨Nat.le_of_ble_eq_true rfl, Nat.le_of_ble_eq_true rfl⟩ ⟨by show _ ≤ 600000; omega, by show _ ≤ 7302249; omega⟩ ?_
  rintro _ _ h2 ⟨rfl, rfl, hM2, hf2⟩
  refine aw_icmp_eq (tgt := 1102) dL_law_368 (by decide) (fun _ => ?_) (fun c => (c rfl).elim)
  exact AW.widen (by omega) (by omega) (kk _ h2 (iv_held hI _ _ _) (hf2.cr hC1) hM2)
theorem lc_7 {b L X j : Nat} {xs : Nat → Int32} {S : TS} {h : Hp} (hj : 6 * j + 6 ≤ L) (hL : L ≤ 3072) (hI : SInv S) (hC : CRep h X S) (hM : MRep h (X + 126) S) (kk : ∀ (S1 : TS) (h1 : Hp), SInv S1 → CRep h1 X S1 → MRep h1 (X + 126) S1 → AW mL_law (gL b L xs) 1102 [some (.ref b), some (.ref X), some (.ref (X + 126)), some (.int (nI (6 * j)))] [] (158 + 10 * (j + 1)) (28596 + 1010 * (j + 1)) (cn X S1) h1) : AW mL_law (gL b L xs) 373 [some (.ref b), some (.ref X), some (.ref (X + 126)), some (.int (nI (6 * j)))] [] (158 + 10 * j) (28596 + 1010 * j) (cn X S) h := by
  refine aw_aload_n (i := 1) dL_law_373 rfl rfl ?_
  refine aw_aload_n (i := 0) dL_law_374 rfl rfl ?_
  refine aw_iload_n (i := 3) dL_law_375 rfl rfl ?_
  refine aw_iconst (v := 1) dL_law_376 (by decide +kernel) ?_
  refine aw_iadd dL_law_377 ?_
  refine aw_sld dL_law_378 (vin (k := 1) hj hL (by decide) rfl) ?_
  refine aw_aload_n (i := 0) dL_law_379 rfl rfl ?_
  refine aw_iload_n (i := 3) dL_law_380 rfl rfl ?_
  refine aw_iconst (v := 2) dL_law_381 (by decide +kernel) ?_
  refine aw_iadd dL_law_382 ?_
  refine aw_sld dL_law_383 (vin (k := 2) hj hL (by decide) rfl) ?_
  refine aw_invokevirtual kL_45 dL_law_384 hC.at (ck_source h X S _ _ hC hI) rfl rfl (Nat.le_of_ble_eq_true rfl) ⟨Nat.le_of_ble_eq_true rfl, Nat.le_of_ble_eq_true rfl⟩ ⟨by show _ ≤ 600000; omega, by show _ ≤ 7302249; omega⟩ ?_
  rintro _ _ h1 ⟨rfl, rfl, hC1, hf1⟩
  have hM1 := hf1.mr hM
  refine aw_aload_n (i := 2) dL_law_387 rfl rfl ?_
  refine aw_aload_n (i := 0) dL_law_388 rfl rfl ?_
  refine aw_iload_n (i := 3) dL_law_389 rfl rfl ?_
  refine aw_iconst (v := 1) dL_law_390 (by decide +kernel) ?_
  refine aw_iadd dL_law_391 ?_
  refine aw_sld dL_law_392 (vin (k := 1) hj hL (by decide) rfl) ?_
  refine aw_aload_n (i := 0) dL_law_393 rfl rfl ?_
  refine aw_iload_n (i := 3) dL_law_394 rfl rfl ?_
  refine aw_iconst (v := 2) dL_law_395 (by decide +kernel) ?_
  refine aw_iadd dL_law_396 ?_
  refine aw_sld dL_law_397 (vin (k := 2) hj hL (by decide) rfl) ?_
  refine aw_invokevirtual kL_48 dL_law_398 hM1.at (mt_source _ h1 (X + 126) S _ _ hM1 hI) rfl rfl (Nat.le_of_ble_eq_true rfl) ⟨Nat.le_of_ble_eq_true rfl, Nat.le_of_ble_eq_true rfl⟩ ⟨by show _ ≤ 600000; omega, by show _ ≤ 7302249; omega⟩ ?_
  rintro _ _ h2 ⟨rfl, rfl, hM2, hf2⟩
  refine aw_icmp_eq (tgt := 1102) dL_law_401 (by decide) (fun _ => ?_) (fun c => (c rfl).elim)
  exact AW.widen (by omega) (by omega) (kk _ h2 (iv_source hI _ _) (hf2.cr hC1) hM2)
theorem lc_8 {b L X j : Nat} {xs : Nat → Int32} {S : TS} {h : Hp} (hj : 6 * j + 6 ≤ L) (hL : L ≤ 3072) (hI : SInv S) (hC : CRep h X S) (hM : MRep h (X + 126) S) (kk : ∀ (S1 : TS) (h1 : Hp), SInv S1 → CRep h1 X S1 → MRep h1 (X + 126) S1 → AW mL_law (gL b L xs) 1102 [some (.ref b), some (.ref X), some (.ref (X + 126)), some (.int (nI (6 * j)))] [] (158 + 10 * (j + 1)) (28596 + 1010 * (j + 1)) (cn X S1) h1) : AW mL_law (gL b L xs) 406 [some (.ref b), some (.ref X), some (.ref (X + 126)), some (.int (nI (6 * j)))] [] (158 + 10 * j) (28596 + 1010 * j) (cn X S) h := by
  refine aw_aload_n (i := 1) dL_law_406 rfl rfl ?_
  refine aw_aload_n (i := 0) dL_law_407 rfl rfl ?_
  refine aw_iload_n (i := 3) dL_law_408 rfl rfl ?_
  refine aw_iconst (v := 1) dL_law_409 (by decide +kernel) ?_
  refine aw_iadd dL_law_410 ?_
  refine aw_sld dL_law_411 (vin (k := 1) hj hL (by decide) rfl) ?_
  refine aw_aload_n (i := 0) dL_law_412 rfl rfl ?_
  refine aw_iload_n (i := 3) dL_law_413 rfl rfl ?_
  refine aw_iconst (v := 2) dL_law_414 (by decide +kernel) ?_
  refine aw_iadd dL_law_415 ?_
  refine aw_sld dL_law_416 (vin (k := 2) hj hL (by decide) rfl) ?_
  refine aw_invokevirtual kL_49 dL_law_417 hC.at (ck_counted h X S _ _ hC hI) rfl rfl (Nat.le_of_ble_eq_true rfl) ⟨Nat.le_of_ble_eq_true rfl, Nat.le_of_ble_eq_true rfl⟩ ⟨by show _ ≤ 600000; omega, by show _ ≤ 7302249; omega⟩ ?_
  rintro _ _ h1 ⟨rfl, rfl, hC1, hf1⟩
  have hM1 := hf1.mr hM
  refine aw_aload_n (i := 2) dL_law_420 rfl rfl ?_
  refine aw_aload_n (i := 0) dL_law_421 rfl rfl ?_
  refine aw_iload_n (i := 3) dL_law_422 rfl rfl ?_
  refine aw_iconst (v := 1) dL_law_423 (by decide +kernel) ?_
  refine aw_iadd dL_law_424 ?_
  refine aw_sld dL_law_425 (vin (k := 1) hj hL (by decide) rfl) ?_
  refine aw_aload_n (i := 0) dL_law_426 rfl rfl ?_
  refine aw_iload_n (i := 3) dL_law_427 rfl rfl ?_
  refine aw_iconst (v := 2) dL_law_428 (by decide +kernel) ?_
  refine aw_iadd dL_law_429 ?_
  refine aw_sld dL_law_430 (vin (k := 2) hj hL (by decide) rfl) ?_
  refine aw_invokevirtual kL_52 dL_law_431 hM1.at (mt_counted _ h1 (X + 126) S _ _ hM1 hI) rfl rfl (Nat.le_of_ble_eq_true rfl) ⟨Nat.le_of_ble_eq_true rfl, Nat.le_of_ble_eq_true rfl⟩ ⟨by show _ ≤ 600000; omega, by show _ ≤ 7302249; omega⟩ ?_
  rintro _ _ h2 ⟨rfl, rfl, hM2, hf2⟩
  refine aw_icmp_eq (tgt := 1102) dL_law_434 (by decide) (fun _ => ?_) (fun c => (c rfl).elim)
  exact AW.widen (by omega) (by omega) (kk _ h2 (iv_counted hI _ _) (hf2.cr hC1) hM2)
theorem lc_9 {b L X j : Nat} {xs : Nat → Int32} {S : TS} {h : Hp} (hj : 6 * j + 6 ≤ L) (hL : L ≤ 3072) (hI : SInv S) (hC : CRep h X S) (hM : MRep h (X + 126) S) (kk : ∀ (S1 : TS) (h1 : Hp), SInv S1 → CRep h1 X S1 → MRep h1 (X + 126) S1 → AW mL_law (gL b L xs) 1102 [some (.ref b), some (.ref X), some (.ref (X + 126)), some (.int (nI (6 * j)))] [] (158 + 10 * (j + 1)) (28596 + 1010 * (j + 1)) (cn X S1) h1) : AW mL_law (gL b L xs) 439 [some (.ref b), some (.ref X), some (.ref (X + 126)), some (.int (nI (6 * j)))] [] (158 + 10 * j) (28596 + 1010 * j) (cn X S) h := by
  refine aw_aload_n (i := 1) dL_law_439 rfl rfl ?_
  refine aw_aload_n (i := 0) dL_law_440 rfl rfl ?_
  refine aw_iload_n (i := 3) dL_law_441 rfl rfl ?_
  refine aw_iconst (v := 1) dL_law_442 (by decide +kernel) ?_
  refine aw_iadd dL_law_443 ?_
  refine aw_sld dL_law_444 (vin (k := 1) hj hL (by decide) rfl) ?_
  refine aw_aload_n (i := 0) dL_law_445 rfl rfl ?_
  refine aw_iload_n (i := 3) dL_law_446 rfl rfl ?_
  refine aw_iconst (v := 2) dL_law_447 (by decide +kernel) ?_
  refine aw_iadd dL_law_448 ?_
  refine aw_sld dL_law_449 (vin (k := 2) hj hL (by decide) rfl) ?_
  refine aw_aload_n (i := 0) dL_law_450 rfl rfl ?_
  refine aw_iload_n (i := 3) dL_law_451 rfl rfl ?_
  refine aw_iconst (v := 3) dL_law_452 (by decide +kernel) ?_
  refine aw_iadd dL_law_453 ?_
  refine aw_sld dL_law_454 (vin (k := 3) hj hL (by decide) rfl) ?_
  refine aw_invokevirtual kL_53 dL_law_455 hC.at (ck_set h X S _ _ _ hC) rfl rfl (Nat.le_of_ble_eq_true rfl) ⟨Nat.le_of_ble_eq_true rfl, Nat.le_of_ble_eq_true rfl⟩ ⟨by show _ ≤ 600000; omega, by show _ ≤ 7302249; omega⟩ ?_
  rintro _ _ h1 ⟨rfl, rfl, hC1, hf1⟩
  have hM1 := hf1.mr hM
  refine aw_aload_n (i := 2) dL_law_458 rfl rfl ?_
  refine aw_aload_n (i := 0) dL_law_459 rfl rfl ?_
  refine aw_iload_n (i := 3) dL_law_460 rfl rfl ?_
  refine aw_iconst (v := 1) dL_law_461 (by decide +kernel) ?_
  refine aw_iadd dL_law_462 ?_
  refine aw_sld dL_law_463 (vin (k := 1) hj hL (by decide) rfl) ?_
  refine aw_aload_n (i := 0) dL_law_464 rfl rfl ?_
  refine aw_iload_n (i := 3) dL_law_465 rfl rfl ?_
  refine aw_iconst (v := 2) dL_law_466 (by decide +kernel) ?_
  refine aw_iadd dL_law_467 ?_
  refine aw_sld dL_law_468 (vin (k := 2) hj hL (by decide) rfl) ?_
  refine aw_aload_n (i := 0) dL_law_469 rfl rfl ?_
  refine aw_iload_n (i := 3) dL_law_470 rfl rfl ?_
  refine aw_iconst (v := 3) dL_law_471 (by decide +kernel) ?_
  refine aw_iadd dL_law_472 ?_
  refine aw_sld dL_law_473 (vin (k := 3) hj hL (by decide) rfl) ?_
  refine aw_invokevirtual kL_56 dL_law_474 hM1.at (mt_set _ h1 (X + 126) S _ _ _ hM1 hI) rfl rfl (Nat.le_of_ble_eq_true rfl) ⟨Nat.le_of_ble_eq_true rfl, Nat.le_of_ble_eq_true rfl⟩ ⟨by show _ ≤ 600000; omega, by show _ ≤ 7302249; omega⟩ ?_
  rintro _ _ h2 ⟨rfl, rfl, hM2, hf2⟩
  refine aw_icmp_eq (tgt := 1102) dL_law_477 (by decide) (fun _ => ?_) (fun c => (c rfl).elim)
  exact AW.widen (by omega) (by omega) (kk _ h2 (iv_set hI _ _ _) (hf2.cr hC1) hM2)
theorem lc_10 {b L X j : Nat} {xs : Nat → Int32} {S : TS} {h : Hp} (hj : 6 * j + 6 ≤ L) (hL : L ≤ 3072) (hI : SInv S) (hC : CRep h X S) (hM : MRep h (X + 126) S) (kk : ∀ (S1 : TS) (h1 : Hp), SInv S1 → CRep h1 X S1 → MRep h1 (X + 126) S1 → AW mL_law (gL b L xs) 1102 [some (.ref b), some (.ref X), some (.ref (X + 126)), some (.int (nI (6 * j)))] [] (158 + 10 * (j + 1)) (28596 + 1010 * (j + 1)) (cn X S1) h1) : AW mL_law (gL b L xs) 482 [some (.ref b), some (.ref X), some (.ref (X + 126)), some (.int (nI (6 * j)))] [] (158 + 10 * j) (28596 + 1010 * j) (cn X S) h := by
  refine aw_aload_n (i := 1) dL_law_482 rfl rfl ?_
  refine aw_aload_n (i := 0) dL_law_483 rfl rfl ?_
  refine aw_iload_n (i := 3) dL_law_484 rfl rfl ?_
  refine aw_iconst (v := 1) dL_law_485 (by decide +kernel) ?_
  refine aw_iadd dL_law_486 ?_
  refine aw_sld dL_law_487 (vin (k := 1) hj hL (by decide) rfl) ?_
  refine aw_aload_n (i := 0) dL_law_488 rfl rfl ?_
  refine aw_iload_n (i := 3) dL_law_489 rfl rfl ?_
  refine aw_iconst (v := 2) dL_law_490 (by decide +kernel) ?_
  refine aw_iadd dL_law_491 ?_
  refine aw_sld dL_law_492 (vin (k := 2) hj hL (by decide) rfl) ?_
  refine aw_invokevirtual kL_57 dL_law_493 hC.at (ck_mean h X S _ _ hC hI) rfl rfl (Nat.le_of_ble_eq_true rfl) ⟨Nat.le_of_ble_eq_true rfl, Nat.le_of_ble_eq_true rfl⟩ ⟨by show _ ≤ 600000; omega, by show _ ≤ 7302249; omega⟩ ?_
  rintro _ _ h1 ⟨rfl, rfl, hC1, hf1⟩
  have hM1 := hf1.mr hM
  refine aw_aload_n (i := 2) dL_law_496 rfl rfl ?_
  refine aw_aload_n (i := 0) dL_law_497 rfl rfl ?_
  refine aw_iload_n (i := 3) dL_law_498 rfl rfl ?_
  refine aw_iconst (v := 1) dL_law_499 (by decide +kernel) ?_
  refine aw_iadd dL_law_500 ?_
  refine aw_sld dL_law_501 (vin (k := 1) hj hL (by decide) rfl) ?_
  refine aw_aload_n (i := 0) dL_law_502 rfl rfl ?_
  refine aw_iload_n (i := 3) dL_law_503 rfl rfl ?_
  refine aw_iconst (v := 2) dL_law_504 (by decide +kernel) ?_
  refine aw_iadd dL_law_505 ?_
  refine aw_sld dL_law_506 (vin (k := 2) hj hL (by decide) rfl) ?_
  refine aw_invokevirtual kL_60 dL_law_507 hM1.at (mt_mean _ h1 (X + 126) S _ _ hM1 hI) rfl rfl (Nat.le_of_ble_eq_true rfl) ⟨Nat.le_of_ble_eq_true rfl, Nat.le_of_ble_eq_true rfl⟩ ⟨by show _ ≤ 600000; omega, by show _ ≤ 7302249; omega⟩ ?_
  rintro _ _ h2 ⟨rfl, rfl, hM2, hf2⟩
  refine aw_icmp_eq (tgt := 1102) dL_law_510 (by decide) (fun _ => ?_) (fun c => (c rfl).elim)
  exact AW.widen (by omega) (by omega) (kk _ h2 (iv_mean hI _ _) (hf2.cr hC1) hM2)
theorem lc_11 {b L X j : Nat} {xs : Nat → Int32} {S : TS} {h : Hp} (hj : 6 * j + 6 ≤ L) (hL : L ≤ 3072) (hI : SInv S) (hC : CRep h X S) (hM : MRep h (X + 126) S) (kk : ∀ (S1 : TS) (h1 : Hp), SInv S1 → CRep h1 X S1 → MRep h1 (X + 126) S1 → AW mL_law (gL b L xs) 1102 [some (.ref b), some (.ref X), some (.ref (X + 126)), some (.int (nI (6 * j)))] [] (158 + 10 * (j + 1)) (28596 + 1010 * (j + 1)) (cn X S1) h1) : AW mL_law (gL b L xs) 515 [some (.ref b), some (.ref X), some (.ref (X + 126)), some (.int (nI (6 * j)))] [] (158 + 10 * j) (28596 + 1010 * j) (cn X S) h := by
  refine aw_aload_n (i := 1) dL_law_515 rfl rfl ?_
  refine aw_aload_n (i := 0) dL_law_516 rfl rfl ?_
  refine aw_iload_n (i := 3) dL_law_517 rfl rfl ?_
  refine aw_iconst (v := 1) dL_law_518 (by decide +kernel) ?_
  refine aw_iadd dL_law_519 ?_
  refine aw_sld dL_law_520 (vin (k := 1) hj hL (by decide) rfl) ?_
  refine aw_aload_n (i := 0) dL_law_521 rfl rfl ?_
  refine aw_iload_n (i := 3) dL_law_522 rfl rfl ?_
  refine aw_iconst (v := 2) dL_law_523 (by decide +kernel) ?_
  refine aw_iadd dL_law_524 ?_
  refine aw_sld dL_law_525 (vin (k := 2) hj hL (by decide) rfl) ?_
  refine aw_aload_n (i := 0) dL_law_526 rfl rfl ?_
  refine aw_iload_n (i := 3) dL_law_527 rfl rfl ?_
  refine aw_iconst (v := 3) dL_law_528 (by decide +kernel) ?_
  refine aw_iadd dL_law_529 ?_
  refine aw_sld dL_law_530 (vin (k := 3) hj hL (by decide) rfl) ?_
  refine aw_invokevirtual kL_61 dL_law_531 hC.at (ck_moment h X S _ _ _ hC hI) rfl rfl (Nat.le_of_ble_eq_true rfl) ⟨Nat.le_of_ble_eq_true rfl, Nat.le_of_ble_eq_true rfl⟩ ⟨by show _ ≤ 600000; omega, by show _ ≤ 7302249; omega⟩ ?_
  rintro _ _ h1 ⟨rfl, rfl, hC1, hf1⟩
  have hM1 := hf1.mr hM
  refine aw_aload_n (i := 2) dL_law_534 rfl rfl ?_
  refine aw_aload_n (i := 0) dL_law_535 rfl rfl ?_
  refine aw_iload_n (i := 3) dL_law_536 rfl rfl ?_
  refine aw_iconst (v := 1) dL_law_537 (by decide +kernel) ?_
  refine aw_iadd dL_law_538 ?_
  refine aw_sld dL_law_539 (vin (k := 1) hj hL (by decide) rfl) ?_
  refine aw_aload_n (i := 0) dL_law_540 rfl rfl ?_
  refine aw_iload_n (i := 3) dL_law_541 rfl rfl ?_
  refine aw_iconst (v := 2) dL_law_542 (by decide +kernel) ?_
  refine aw_iadd dL_law_543 ?_
  refine aw_sld dL_law_544 (vin (k := 2) hj hL (by decide) rfl) ?_
  refine aw_aload_n (i := 0) dL_law_545 rfl rfl ?_
  refine aw_iload_n (i := 3) dL_law_546 rfl rfl ?_
  refine aw_iconst (v := 3) dL_law_547 (by decide +kernel) ?_
  refine aw_iadd dL_law_548 ?_
  refine aw_sld dL_law_549 (vin (k := 3) hj hL (by decide) rfl) ?_
  refine aw_invokevirtual kL_64 dL_law_550 hM1.at (mt_moment _ h1 (X + 126) S _ _ _ hM1 hI) rfl rfl (Nat.le_of_ble_eq_true rfl) ⟨Nat.le_of_ble_eq_true rfl, Nat.le_of_ble_eq_true rfl⟩ ⟨by show _ ≤ 600000; omega, by show _ ≤ 7302249; omega⟩ ?_
  rintro _ _ h2 ⟨rfl, rfl, hM2, hf2⟩
  refine aw_icmp_eq (tgt := 1102) dL_law_553 (by decide) (fun _ => ?_) (fun c => (c rfl).elim)
  exact AW.widen (by omega) (by omega) (kk _ h2 (iv_moment hI _ _ _) (hf2.cr hC1) hM2)
theorem lc_12 {b L X j : Nat} {xs : Nat → Int32} {S : TS} {h : Hp} (hj : 6 * j + 6 ≤ L) (hL : L ≤ 3072) (hI : SInv S) (hC : CRep h X S) (hM : MRep h (X + 126) S) (kk : ∀ (S1 : TS) (h1 : Hp), SInv S1 → CRep h1 X S1 → MRep h1 (X + 126) S1 → AW mL_law (gL b L xs) 1102 [some (.ref b), some (.ref X), some (.ref (X + 126)), some (.int (nI (6 * j)))] [] (158 + 10 * (j + 1)) (28596 + 1010 * (j + 1)) (cn X S1) h1) : AW mL_law (gL b L xs) 558 [some (.ref b), some (.ref X), some (.ref (X + 126)), some (.int (nI (6 * j)))] [] (158 + 10 * j) (28596 + 1010 * j) (cn X S) h := by
  refine aw_aload_n (i := 1) dL_law_558 rfl rfl ?_
  refine aw_aload_n (i := 0) dL_law_559 rfl rfl ?_
  refine aw_iload_n (i := 3) dL_law_560 rfl rfl ?_
  refine aw_iconst (v := 1) dL_law_561 (by decide +kernel) ?_
  refine aw_iadd dL_law_562 ?_
  refine aw_sld dL_law_563 (vin (k := 1) hj hL (by decide) rfl) ?_
  refine aw_aload_n (i := 0) dL_law_564 rfl rfl ?_
  refine aw_iload_n (i := 3) dL_law_565 rfl rfl ?_
  refine aw_iconst (v := 2) dL_law_566 (by decide +kernel) ?_
  refine aw_iadd dL_law_567 ?_
  refine aw_sld dL_law_568 (vin (k := 2) hj hL (by decide) rfl) ?_
  refine aw_aload_n (i := 0) dL_law_569 rfl rfl ?_
  refine aw_iload_n (i := 3) dL_law_570 rfl rfl ?_
  refine aw_iconst (v := 3) dL_law_571 (by decide +kernel) ?_
  refine aw_iadd dL_law_572 ?_
  refine aw_sld dL_law_573 (vin (k := 3) hj hL (by decide) rfl) ?_
  refine aw_aload_n (i := 0) dL_law_574 rfl rfl ?_
  refine aw_iload_n (i := 3) dL_law_575 rfl rfl ?_
  refine aw_iconst (v := 4) dL_law_576 (by decide +kernel) ?_
  refine aw_iadd dL_law_577 ?_
  refine aw_sld dL_law_578 (vin (k := 4) hj hL (by decide) rfl) ?_
  refine aw_invokevirtual kL_65 dL_law_579 hC.at (ck_tail h X S _ _ _ _ hC hI) rfl rfl (Nat.le_of_ble_eq_true rfl) ⟨Nat.le_of_ble_eq_true rfl, Nat.le_of_ble_eq_true rfl⟩ ⟨by show _ ≤ 600000; omega, by show _ ≤ 7302249; omega⟩ ?_
  rintro _ _ h1 ⟨rfl, rfl, hC1, hf1⟩
  have hM1 := hf1.mr hM
  refine aw_aload_n (i := 2) dL_law_582 rfl rfl ?_
  refine aw_aload_n (i := 0) dL_law_583 rfl rfl ?_
  refine aw_iload_n (i := 3) dL_law_584 rfl rfl ?_
  refine aw_iconst (v := 1) dL_law_585 (by decide +kernel) ?_
  refine aw_iadd dL_law_586 ?_
  refine aw_sld dL_law_587 (vin (k := 1) hj hL (by decide) rfl) ?_
  refine aw_aload_n (i := 0) dL_law_588 rfl rfl ?_
  refine aw_iload_n (i := 3) dL_law_589 rfl rfl ?_
  refine aw_iconst (v := 2) dL_law_590 (by decide +kernel) ?_
  refine aw_iadd dL_law_591 ?_
  refine aw_sld dL_law_592 (vin (k := 2) hj hL (by decide) rfl) ?_
  refine aw_aload_n (i := 0) dL_law_593 rfl rfl ?_
  refine aw_iload_n (i := 3) dL_law_594 rfl rfl ?_
  refine aw_iconst (v := 3) dL_law_595 (by decide +kernel) ?_
  refine aw_iadd dL_law_596 ?_
  refine aw_sld dL_law_597 (vin (k := 3) hj hL (by decide) rfl) ?_
  refine aw_aload_n (i := 0) dL_law_598 rfl rfl ?_
  refine aw_iload_n (i := 3) dL_law_599 rfl rfl ?_
  refine aw_iconst (v := 4) dL_law_600 (by decide +kernel) ?_
  refine aw_iadd dL_law_601 ?_
  refine aw_sld dL_law_602 (vin (k := 4) hj hL (by decide) rfl) ?_
  refine aw_invokevirtual kL_69 dL_law_603 hM1.at (mt_tail _ h1 (X + 126) S _ _ _ _ hM1 hI) rfl rfl (Nat.le_of_ble_eq_true rfl) ⟨Nat.le_of_ble_eq_true rfl, Nat.le_of_ble_eq_true rfl⟩ ⟨by show _ ≤ 600000; omega, by show _ ≤ 7302249; omega⟩ ?_
  rintro _ _ h2 ⟨rfl, rfl, hM2, hf2⟩
  refine aw_icmp_eq (tgt := 1102) dL_law_606 (by decide) (fun _ => ?_) (fun c => (c rfl).elim)
  exact AW.widen (by omega) (by omega) (kk _ h2 (iv_tail hI _ _ _ _) (hf2.cr hC1) hM2)
