section M47
variable {K : KT} {d RC RS x y bb c L : Nat} {xs : Nat → Int32} {M : HM} {Rf : HR} {Lg : HL}
/-- the law's locals: the script, class, reference, the place in the script -/
abbrev lL (bb c : Nat) : List (Option Value) := [some (.retAddr bb), some (.ref 0), some (.ref 96), some (.int (nI (5 * c)))]
theorem lg_cmp_self (a : Int64) : lg_cmp a a = 0 := by
  unfold lg_cmp
  simp
set_option maxHeartbeats 1000000 in
set_option maxRecDepth 20000 in
theorem L_type (o : Ok K code R_law 4 (d + 9) RC RS) (hxy : x ≤ RC ∧ y ≤ RS) (hX : va_X bb L xs K.2.2.2.2.1 K.2.2.2.2.1.heap) (hbl : bb < K.2.2.2.2.1.heap.size) (hbA : bb < K.1.2.1) (hc : 5 * c + 4 < L) (hL : L ≤ 320) (inv : INV c M Rf Lg) (kk : ∀ M' Rf' Lg', INV (c + 1) M' Rf' Lg' → G K 771 (lL bb c) [] (109, M', Rf', Lg') x y) : G K 152 (lL bb c) [] (109, M, Rf, Lg) x y := by
  obtain ⟨t, T, S, lat, pk, P, I, ik, cn, ch, cm, tl, tx, ic, im, hlg⟩ := inv
  refine g_aload_n (pc := 152) o 1 dL_law_152 rfl rfl ?_
  refine g_aload_nX (pc := 153) o 0 dL_law_153 rfl rfl ?_
  refine g_iload_n (pc := 154) o 3 dL_law_154 rfl rfl ?_
  refine g_iconst (pc := 155) (v := 1) o dL_law_155 (by decide) ?_
  refine g_iadd (pc := 156) o dL_law_156 ?_
  refine g_sld (pc := 157) o hX hbl hbA (5 * c + 1) (nI_addE rfl rfl) (by omega) (by omega) dL_law_157 ?_
  refine g_V1i (pc := 158) o lkR_law_13 cmX3_type (cX3type ic.1.2.2.1 ic.1.1.1 (ic.1.1).2.2.2.2.2.2.2.2.2.2.2.2.2.2.2.2.2.2.1 ic.2.2.2.2.2.2.1 ic.2.2.2.2.2.1) rfl (by show (0 : Nat) < 109; decide) rfl rfl hxy dL_law_158 ?_
  have im1 := im.over (M' := mType M tl (xs (5 * c + 1))) (fun z hz => mType_ne _ _ (by omega) (by omega))
  refine g_aload_n (pc := 161) o 2 dL_law_161 rfl rfl ?_
  refine g_aload_nX (pc := 162) o 0 dL_law_162 rfl rfl ?_
  refine g_iload_n (pc := 163) o 3 dL_law_163 rfl rfl ?_
  refine g_iconst (pc := 164) (v := 1) o dL_law_164 (by decide) ?_
  refine g_iadd (pc := 165) o dL_law_165 ?_
  refine g_sld (pc := 166) o hX hbl hbA (5 * c + 1) (nI_addE rfl rfl) (by omega) (by omega) dL_law_166 ?_
  refine g_V1i (pc := 167) o lkR_law_17 cmX4_type (cX4type im1.1.1 (Nat.le_refl _) im1.2.2.2.2.2.2.1 im1.2.2.2.2.2.1) rfl (by show (96 : Nat) < 109; decide) rfl rfl hxy dL_law_167 ?_
  refine g_icmp_eq (pc := 170) o 771 dL_law_170 (by decide) (fun _ => ?_) (fun q => absurd rfl q)
  exact kk _ _ _ (INV_mk ((ic.type (xs (5 * c + 1))).over (fun z hz => nType_ne _ _ (by omega) (by omega))) (im1.type (xs (5 * c + 1))) (by omega) (by omega) hlg)

set_option maxHeartbeats 1000000 in
set_option maxRecDepth 20000 in
theorem L_clear (o : Ok K code R_law 4 (d + 9) RC RS) (hxy : x ≤ RC ∧ y ≤ RS) (hX : va_X bb L xs K.2.2.2.2.1 K.2.2.2.2.1.heap) (hbl : bb < K.2.2.2.2.1.heap.size) (hbA : bb < K.1.2.1) (hc : 5 * c + 4 < L) (hL : L ≤ 320) (inv : INV c M Rf Lg) (kk : ∀ M' Rf' Lg', INV (c + 1) M' Rf' Lg' → G K 771 (lL bb c) [] (109, M', Rf', Lg') x y) : G K 175 (lL bb c) [] (109, M, Rf, Lg) x y := by
  obtain ⟨t, T, S, lat, pk, P, I, ik, cn, ch, cm, tl, tx, ic, im, hlg⟩ := inv
  refine g_aload_n (pc := 175) o 1 dL_law_175 rfl rfl ?_
  refine g_V0i (pc := 176) o lkR_law_18 cmX3_clear (cX3clear ic.1.2.2.1 ic.1.1.1 ic.2.2.2.2.2.2.1) rfl (by show (0 : Nat) < 109; decide) rfl rfl hxy dL_law_176 ?_
  have im1 := im.over (M' := st2 M 1 1 0) (fun z hz => st2_ne _ _ _ (by omega))
  refine g_aload_n (pc := 179) o 2 dL_law_179 rfl rfl ?_
  refine g_V0i (pc := 180) o lkR_law_22 cmX4_clear (cX4clear (Nat.le_refl _) im1.2.2.2.2.2.2.1) rfl (by show (96 : Nat) < 109; decide) rfl rfl hxy dL_law_180 ?_
  refine g_icmp_eq (pc := 183) o 771 dL_law_183 (by decide) (fun _ => ?_) (fun q => absurd rfl q)
  exact kk _ _ _ (INV_mk (ic.clear.over (fun z hz => st2_ne _ _ _ (by omega))) im1.clear (by omega) (by omega) hlg)

set_option maxHeartbeats 1000000 in
set_option maxRecDepth 20000 in
theorem L_district (o : Ok K code R_law 4 (d + 9) RC RS) (hxy : x ≤ RC ∧ y ≤ RS) (hX : va_X bb L xs K.2.2.2.2.1 K.2.2.2.2.1.heap) (hbl : bb < K.2.2.2.2.1.heap.size) (hbA : bb < K.1.2.1) (hc : 5 * c + 4 < L) (hL : L ≤ 320) (inv : INV c M Rf Lg) (kk : ∀ M' Rf' Lg', INV (c + 1) M' Rf' Lg' → G K 771 (lL bb c) [] (109, M', Rf', Lg') x y) : G K 201 (lL bb c) [] (109, M, Rf, Lg) x y := by
  obtain ⟨t, T, S, lat, pk, P, I, ik, cn, ch, cm, tl, tx, ic, im, hlg⟩ := inv
  refine g_aload_n (pc := 201) o 1 dL_law_201 rfl rfl ?_
  refine g_aload_nX (pc := 202) o 0 dL_law_202 rfl rfl ?_
  refine g_iload_n (pc := 203) o 3 dL_law_203 rfl rfl ?_
  refine g_iconst (pc := 204) (v := 1) o dL_law_204 (by decide) ?_
  refine g_iadd (pc := 205) o dL_law_205 ?_
  refine g_sld (pc := 206) o hX hbl hbA (5 * c + 1) (nI_addE rfl rfl) (by omega) (by omega) dL_law_206 ?_
  refine g_aload_nX (pc := 207) o 0 dL_law_207 rfl rfl ?_
  refine g_iload_n (pc := 208) o 3 dL_law_208 rfl rfl ?_
  refine g_iconst (pc := 209) (v := 2) o dL_law_209 (by decide) ?_
  refine g_iadd (pc := 210) o dL_law_210 ?_
  refine g_sld (pc := 211) o hX hbl hbA (5 * c + 2) (nI_addE rfl rfl) (by omega) (by omega) dL_law_211 ?_
  refine g_V2i (pc := 212) o lkR_law_27 cmX3_district (cX3district ic.1) rfl (by show (0 : Nat) < 109; decide) rfl rfl hxy dL_law_212 ?_
  refine g_aload_n (pc := 215) o 2 dL_law_215 rfl rfl ?_
  refine g_aload_nX (pc := 216) o 0 dL_law_216 rfl rfl ?_
  refine g_iload_n (pc := 217) o 3 dL_law_217 rfl rfl ?_
  refine g_iconst (pc := 218) (v := 1) o dL_law_218 (by decide) ?_
  refine g_iadd (pc := 219) o dL_law_219 ?_
  refine g_sld (pc := 220) o hX hbl hbA (5 * c + 1) (nI_addE rfl rfl) (by omega) (by omega) dL_law_220 ?_
  refine g_aload_nX (pc := 221) o 0 dL_law_221 rfl rfl ?_
  refine g_iload_n (pc := 222) o 3 dL_law_222 rfl rfl ?_
  refine g_iconst (pc := 223) (v := 2) o dL_law_223 (by decide) ?_
  refine g_iadd (pc := 224) o dL_law_224 ?_
  refine g_sld (pc := 225) o hX hbl hbA (5 * c + 2) (nI_addE rfl rfl) (by omega) (by omega) dL_law_225 ?_
  refine g_V2i (pc := 226) o lkR_law_31 cmX4_district (cX4district im.1) rfl (by show (96 : Nat) < 109; decide) rfl rfl hxy dL_law_226 ?_
  refine g_icmp_eq (pc := 229) o 771 dL_law_229 (by decide) (fun _ => ?_) (fun q => absurd rfl q)
  exact kk _ _ _ (INV_mk ic im (by omega) (by omega) hlg)

set_option maxHeartbeats 1000000 in
set_option maxRecDepth 20000 in
theorem L_citizen (o : Ok K code R_law 4 (d + 9) RC RS) (hxy : x ≤ RC ∧ y ≤ RS) (hX : va_X bb L xs K.2.2.2.2.1 K.2.2.2.2.1.heap) (hbl : bb < K.2.2.2.2.1.heap.size) (hbA : bb < K.1.2.1) (hc : 5 * c + 4 < L) (hL : L ≤ 320) (inv : INV c M Rf Lg) (kk : ∀ M' Rf' Lg', INV (c + 1) M' Rf' Lg' → G K 771 (lL bb c) [] (109, M', Rf', Lg') x y) : G K 234 (lL bb c) [] (109, M, Rf, Lg) x y := by
  obtain ⟨t, T, S, lat, pk, P, I, ik, cn, ch, cm, tl, tx, ic, im, hlg⟩ := inv
  refine g_aload_n (pc := 234) o 1 dL_law_234 rfl rfl ?_
  refine g_aload_nX (pc := 235) o 0 dL_law_235 rfl rfl ?_
  refine g_iload_n (pc := 236) o 3 dL_law_236 rfl rfl ?_
  refine g_iconst (pc := 237) (v := 1) o dL_law_237 (by decide) ?_
  refine g_iadd (pc := 238) o dL_law_238 ?_
  refine g_sld (pc := 239) o hX hbl hbA (5 * c + 1) (nI_addE rfl rfl) (by omega) (by omega) dL_law_239 ?_
  refine g_aload_nX (pc := 240) o 0 dL_law_240 rfl rfl ?_
  refine g_iload_n (pc := 241) o 3 dL_law_241 rfl rfl ?_
  refine g_iconst (pc := 242) (v := 2) o dL_law_242 (by decide) ?_
  refine g_iadd (pc := 243) o dL_law_243 ?_
  refine g_sld (pc := 244) o hX hbl hbA (5 * c + 2) (nI_addE rfl rfl) (by omega) (by omega) dL_law_244 ?_
  refine g_V2i (pc := 245) o lkR_law_32 cmX3_citizen (cX3citizen ic.1) rfl (by show (0 : Nat) < 109; decide) rfl rfl hxy dL_law_245 ?_
  refine g_aload_n (pc := 248) o 2 dL_law_248 rfl rfl ?_
  refine g_aload_nX (pc := 249) o 0 dL_law_249 rfl rfl ?_
  refine g_iload_n (pc := 250) o 3 dL_law_250 rfl rfl ?_
  refine g_iconst (pc := 251) (v := 1) o dL_law_251 (by decide) ?_
  refine g_iadd (pc := 252) o dL_law_252 ?_
  refine g_sld (pc := 253) o hX hbl hbA (5 * c + 1) (nI_addE rfl rfl) (by omega) (by omega) dL_law_253 ?_
  refine g_aload_nX (pc := 254) o 0 dL_law_254 rfl rfl ?_
  refine g_iload_n (pc := 255) o 3 dL_law_255 rfl rfl ?_
  refine g_iconst (pc := 256) (v := 2) o dL_law_256 (by decide) ?_
  refine g_iadd (pc := 257) o dL_law_257 ?_
  refine g_sld (pc := 258) o hX hbl hbA (5 * c + 2) (nI_addE rfl rfl) (by omega) (by omega) dL_law_258 ?_
  refine g_V2i (pc := 259) o lkR_law_35 cmX4_citizen (cX4citizen im.1) rfl (by show (96 : Nat) < 109; decide) rfl rfl hxy dL_law_259 ?_
  refine g_icmp_eq (pc := 262) o 771 dL_law_262 (by decide) (fun _ => ?_) (fun q => absurd rfl q)
  exact kk _ _ _ (INV_mk ic im (by omega) (by omega) hlg)

set_option maxHeartbeats 1000000 in
set_option maxRecDepth 20000 in
theorem L_noise (o : Ok K code R_law 4 (d + 9) RC RS) (hxy : x ≤ RC ∧ y ≤ RS) (hX : va_X bb L xs K.2.2.2.2.1 K.2.2.2.2.1.heap) (hbl : bb < K.2.2.2.2.1.heap.size) (hbA : bb < K.1.2.1) (hc : 5 * c + 4 < L) (hL : L ≤ 320) (inv : INV c M Rf Lg) (kk : ∀ M' Rf' Lg', INV (c + 1) M' Rf' Lg' → G K 771 (lL bb c) [] (109, M', Rf', Lg') x y) : G K 267 (lL bb c) [] (109, M, Rf, Lg) x y := by
  obtain ⟨t, T, S, lat, pk, P, I, ik, cn, ch, cm, tl, tx, ic, im, hlg⟩ := inv
  refine g_aload_n (pc := 267) o 1 dL_law_267 rfl rfl ?_
  refine g_aload_nX (pc := 268) o 0 dL_law_268 rfl rfl ?_
  refine g_iload_n (pc := 269) o 3 dL_law_269 rfl rfl ?_
  refine g_iconst (pc := 270) (v := 1) o dL_law_270 (by decide) ?_
  refine g_iadd (pc := 271) o dL_law_271 ?_
  refine g_sld (pc := 272) o hX hbl hbA (5 * c + 1) (nI_addE rfl rfl) (by omega) (by omega) dL_law_272 ?_
  refine g_aload_nX (pc := 273) o 0 dL_law_273 rfl rfl ?_
  refine g_iload_n (pc := 274) o 3 dL_law_274 rfl rfl ?_
  refine g_iconst (pc := 275) (v := 2) o dL_law_275 (by decide) ?_
  refine g_iadd (pc := 276) o dL_law_276 ?_
  refine g_sld (pc := 277) o hX hbl hbA (5 * c + 2) (nI_addE rfl rfl) (by omega) (by omega) dL_law_277 ?_
  refine g_V2i (pc := 278) o lkR_law_36 cmX3_noise (cX3noise ic.1) rfl (by show (0 : Nat) < 109; decide) rfl rfl hxy dL_law_278 ?_
  refine g_aload_n (pc := 281) o 2 dL_law_281 rfl rfl ?_
  refine g_aload_nX (pc := 282) o 0 dL_law_282 rfl rfl ?_
  refine g_iload_n (pc := 283) o 3 dL_law_283 rfl rfl ?_
  refine g_iconst (pc := 284) (v := 1) o dL_law_284 (by decide) ?_
  refine g_iadd (pc := 285) o dL_law_285 ?_
  refine g_sld (pc := 286) o hX hbl hbA (5 * c + 1) (nI_addE rfl rfl) (by omega) (by omega) dL_law_286 ?_
  refine g_aload_nX (pc := 287) o 0 dL_law_287 rfl rfl ?_
  refine g_iload_n (pc := 288) o 3 dL_law_288 rfl rfl ?_
  refine g_iconst (pc := 289) (v := 2) o dL_law_289 (by decide) ?_
  refine g_iadd (pc := 290) o dL_law_290 ?_
  refine g_sld (pc := 291) o hX hbl hbA (5 * c + 2) (nI_addE rfl rfl) (by omega) (by omega) dL_law_291 ?_
  refine g_V2i (pc := 292) o lkR_law_39 cmX4_noise (cX4noise im.1) rfl (by show (96 : Nat) < 109; decide) rfl rfl hxy dL_law_292 ?_
  refine g_icmp_eq (pc := 295) o 771 dL_law_295 (by decide) (fun _ => ?_) (fun q => absurd rfl q)
  exact kk _ _ _ (INV_mk ic im (by omega) (by omega) hlg)

set_option maxHeartbeats 1000000 in
set_option maxRecDepth 20000 in
theorem L_now (o : Ok K code R_law 4 (d + 9) RC RS) (hxy : x ≤ RC ∧ y ≤ RS) (hX : va_X bb L xs K.2.2.2.2.1 K.2.2.2.2.1.heap) (hbl : bb < K.2.2.2.2.1.heap.size) (hbA : bb < K.1.2.1) (hc : 5 * c + 4 < L) (hL : L ≤ 320) (inv : INV c M Rf Lg) (kk : ∀ M' Rf' Lg', INV (c + 1) M' Rf' Lg' → G K 771 (lL bb c) [] (109, M', Rf', Lg') x y) : G K 300 (lL bb c) [] (109, M, Rf, Lg) x y := by
  obtain ⟨t, T, S, lat, pk, P, I, ik, cn, ch, cm, tl, tx, ic, im, hlg⟩ := inv
  refine g_aload_n (pc := 300) o 1 dL_law_300 rfl rfl ?_
  refine g_aload_nX (pc := 301) o 0 dL_law_301 rfl rfl ?_
  refine g_iload_n (pc := 302) o 3 dL_law_302 rfl rfl ?_
  refine g_iconst (pc := 303) (v := 1) o dL_law_303 (by decide) ?_
  refine g_iadd (pc := 304) o dL_law_304 ?_
  refine g_sld (pc := 305) o hX hbl hbA (5 * c + 1) (nI_addE rfl rfl) (by omega) (by omega) dL_law_305 ?_
  refine g_V1i (pc := 306) o lkR_law_40 cmX3_now (cX3now ic.1 ic.2.2.1.2.2.2.1) rfl (by show (0 : Nat) < 109; decide) rfl rfl hxy dL_law_306 ?_
  refine g_aload_n (pc := 309) o 2 dL_law_309 rfl rfl ?_
  refine g_aload_nX (pc := 310) o 0 dL_law_310 rfl rfl ?_
  refine g_iload_n (pc := 311) o 3 dL_law_311 rfl rfl ?_
  refine g_iconst (pc := 312) (v := 1) o dL_law_312 (by decide) ?_
  refine g_iadd (pc := 313) o dL_law_313 ?_
  refine g_sld (pc := 314) o hX hbl hbA (5 * c + 1) (nI_addE rfl rfl) (by omega) (by omega) dL_law_314 ?_
  refine g_V1i (pc := 315) o lkR_law_43 cmX4_now (cX4now im.1 im.2.2.1.1) rfl (by show (96 : Nat) < 109; decide) rfl rfl hxy dL_law_315 ?_
  refine g_icmp_eq (pc := 318) o 771 dL_law_318 (by decide) (fun _ => ?_) (fun q => absurd rfl q)
  exact kk _ _ _ (INV_mk ic im (by omega) (by omega) hlg)

set_option maxHeartbeats 1000000 in
set_option maxRecDepth 20000 in
theorem L_calls (o : Ok K code R_law 4 (d + 9) RC RS) (hxy : x ≤ RC ∧ y ≤ RS) (hX : va_X bb L xs K.2.2.2.2.1 K.2.2.2.2.1.heap) (hbl : bb < K.2.2.2.2.1.heap.size) (hbA : bb < K.1.2.1) (hc : 5 * c + 4 < L) (hL : L ≤ 320) (inv : INV c M Rf Lg) (kk : ∀ M' Rf' Lg', INV (c + 1) M' Rf' Lg' → G K 771 (lL bb c) [] (109, M', Rf', Lg') x y) : G K 323 (lL bb c) [] (109, M, Rf, Lg) x y := by
  obtain ⟨t, T, S, lat, pk, P, I, ik, cn, ch, cm, tl, tx, ic, im, hlg⟩ := inv
  refine g_aload_n (pc := 323) o 1 dL_law_323 rfl rfl ?_
  refine g_aload_nX (pc := 324) o 0 dL_law_324 rfl rfl ?_
  refine g_iload_n (pc := 325) o 3 dL_law_325 rfl rfl ?_
  refine g_iconst (pc := 326) (v := 1) o dL_law_326 (by decide) ?_
  refine g_iadd (pc := 327) o dL_law_327 ?_
  refine g_sld (pc := 328) o hX hbl hbA (5 * c + 1) (nI_addE rfl rfl) (by omega) (by omega) dL_law_328 ?_
  refine g_aload_nX (pc := 329) o 0 dL_law_329 rfl rfl ?_
  refine g_iload_n (pc := 330) o 3 dL_law_330 rfl rfl ?_
  refine g_iconst (pc := 331) (v := 2) o dL_law_331 (by decide) ?_
  refine g_iadd (pc := 332) o dL_law_332 ?_
  refine g_sld (pc := 333) o hX hbl hbA (5 * c + 2) (nI_addE rfl rfl) (by omega) (by omega) dL_law_333 ?_
  refine g_V2i (pc := 334) o lkR_law_44 cmX3_calls (cX3calls ic.1 ic.2.2.1.2.2.1 ic.2.2.1.1 ic.2.2.1.2.2.2.1 ic.2.2.1.2.1) rfl (by show (0 : Nat) < 109; decide) rfl rfl hxy dL_law_334 ?_
  have im1 := im.over (M' := mCalls T M lat pk (xs (5 * c + 1)) (xs (5 * c + 2))) (fun z hz => mCalls_ne _ _ hz)
  refine g_aload_n (pc := 337) o 2 dL_law_337 rfl rfl ?_
  refine g_aload_nX (pc := 338) o 0 dL_law_338 rfl rfl ?_
  refine g_iload_n (pc := 339) o 3 dL_law_339 rfl rfl ?_
  refine g_iconst (pc := 340) (v := 1) o dL_law_340 (by decide) ?_
  refine g_iadd (pc := 341) o dL_law_341 ?_
  refine g_sld (pc := 342) o hX hbl hbA (5 * c + 1) (nI_addE rfl rfl) (by omega) (by omega) dL_law_342 ?_
  refine g_aload_nX (pc := 343) o 0 dL_law_343 rfl rfl ?_
  refine g_iload_n (pc := 344) o 3 dL_law_344 rfl rfl ?_
  refine g_iconst (pc := 345) (v := 2) o dL_law_345 (by decide) ?_
  refine g_iadd (pc := 346) o dL_law_346 ?_
  refine g_sld (pc := 347) o hX hbl hbA (5 * c + 2) (nI_addE rfl rfl) (by omega) (by omega) dL_law_347 ?_
  refine g_V2i (pc := 348) o lkR_law_47 cmX4_calls (cX4calls im1.1 im1.2.2.1.1 ic.2.2.1.2.1) rfl (by show (96 : Nat) < 109; decide) rfl rfl hxy dL_law_348 ?_
  refine g_icmp_eq (pc := 351) o 771 dL_law_351 (by decide) (fun _ => ?_) (fun q => absurd rfl q)
  exact kk _ _ _ (INV_calls ic im (by omega) hlg (xs (5 * c + 1)) (xs (5 * c + 2)))

set_option maxHeartbeats 1000000 in
set_option maxRecDepth 20000 in
theorem L_hour (o : Ok K code R_law 4 (d + 9) RC RS) (hxy : x ≤ RC ∧ y ≤ RS) (hX : va_X bb L xs K.2.2.2.2.1 K.2.2.2.2.1.heap) (hbl : bb < K.2.2.2.2.1.heap.size) (hbA : bb < K.1.2.1) (hc : 5 * c + 4 < L) (hL : L ≤ 320) (inv : INV c M Rf Lg) (kk : ∀ M' Rf' Lg', INV (c + 1) M' Rf' Lg' → G K 771 (lL bb c) [] (109, M', Rf', Lg') x y) : G K 356 (lL bb c) [] (109, M, Rf, Lg) x y := by
  obtain ⟨t, T, S, lat, pk, P, I, ik, cn, ch, cm, tl, tx, ic, im, hlg⟩ := inv
  refine g_aload_n (pc := 356) o 1 dL_law_356 rfl rfl ?_
  refine g_V0i (pc := 357) o lkR_law_48 cmX3_hour (cX3hour ic.1 ic.2.2.1.2.2.1 ic.2.2.1.1 ic.2.2.1.2.2.2.1 ic.2.2.1.2.1) rfl (by show (0 : Nat) < 109; decide) rfl rfl hxy dL_law_357 ?_
  have im1 := im.over (M' := mHour T S M lat pk) (fun z hz => by
    unfold mHour; split
    · rw [passM_ne _ _ _ _ _ (by omega), rmbM_ne _ _ _ (by omega) (by omega)]
    · rfl)
  obtain ⟨dl, mf⟩ := id im1.2.1
  refine g_aload_n (pc := 360) o 2 dL_law_360 rfl rfl ?_
  refine g_V0i (pc := 361) o lkR_law_51 cmX4_hour (cX4hour im1.1 mf im1.2.2.1.1 ic.2.2.1.2.1) rfl (by show (96 : Nat) < 109; decide) rfl rfl hxy dL_law_361 ?_
  refine g_icmp_eq (pc := 364) o 771 dL_law_364 (by decide) (fun _ => ?_) (fun q => absurd (INV_hour (Lg := Lg) ic im (by omega) hlg dl).2.symm q)
  exact kk _ _ _ ((INV_hour ic im (by omega) hlg dl).1)

set_option maxHeartbeats 1000000 in
set_option maxRecDepth 20000 in
theorem L_undo (o : Ok K code R_law 4 (d + 9) RC RS) (hxy : x ≤ RC ∧ y ≤ RS) (hX : va_X bb L xs K.2.2.2.2.1 K.2.2.2.2.1.heap) (hbl : bb < K.2.2.2.2.1.heap.size) (hbA : bb < K.1.2.1) (hc : 5 * c + 4 < L) (hL : L ≤ 320) (inv : INV c M Rf Lg) (kk : ∀ M' Rf' Lg', INV (c + 1) M' Rf' Lg' → G K 771 (lL bb c) [] (109, M', Rf', Lg') x y) : G K 369 (lL bb c) [] (109, M, Rf, Lg) x y := by
  obtain ⟨t, T, S, lat, pk, P, I, ik, cn, ch, cm, tl, tx, ic, im, hlg⟩ := inv
  refine g_aload_n (pc := 369) o 1 dL_law_369 rfl rfl ?_
  refine g_V0i (pc := 370) o lkR_law_52 cmX3_undo (cX3undo ic.1 ic.2.2.1.2.2.1 ic.2.2.1.1 ic.2.2.1.2.2.2.1 ic.2.2.1.2.1) rfl (by show (0 : Nat) < 109; decide) rfl rfl hxy dL_law_370 ?_
  have im1 := im.over (M' := mUndo M lat pk) (fun z hz => mUndo_ne _ _ hz)
  refine g_aload_n (pc := 373) o 2 dL_law_373 rfl rfl ?_
  refine g_V0i (pc := 374) o lkR_law_55 cmX4_undo (cX4undo im1.1.1 (Nat.le_refl _) im1.2.2.1.1 ic.2.2.1.2.1) rfl (by show (96 : Nat) < 109; decide) rfl rfl hxy dL_law_374 ?_
  refine g_icmp_eq (pc := 377) o 771 dL_law_377 (by decide) (fun _ => ?_) (fun q => absurd rfl q)
  exact kk _ _ _ (INV_undo ic im (by omega) hlg)

set_option maxHeartbeats 1000000 in
set_option maxRecDepth 20000 in
theorem L_asleepIn (o : Ok K code R_law 4 (d + 9) RC RS) (hxy : x ≤ RC ∧ y ≤ RS) (hX : va_X bb L xs K.2.2.2.2.1 K.2.2.2.2.1.heap) (hbl : bb < K.2.2.2.2.1.heap.size) (hbA : bb < K.1.2.1) (hc : 5 * c + 4 < L) (hL : L ≤ 320) (inv : INV c M Rf Lg) (kk : ∀ M' Rf' Lg', INV (c + 1) M' Rf' Lg' → G K 771 (lL bb c) [] (109, M', Rf', Lg') x y) : G K 382 (lL bb c) [] (109, M, Rf, Lg) x y := by
  obtain ⟨t, T, S, lat, pk, P, I, ik, cn, ch, cm, tl, tx, ic, im, hlg⟩ := inv
  refine g_aload_n (pc := 382) o 1 dL_law_382 rfl rfl ?_
  refine g_aload_nX (pc := 383) o 0 dL_law_383 rfl rfl ?_
  refine g_iload_n (pc := 384) o 3 dL_law_384 rfl rfl ?_
  refine g_iconst (pc := 385) (v := 1) o dL_law_385 (by decide) ?_
  refine g_iadd (pc := 386) o dL_law_386 ?_
  refine g_sld (pc := 387) o hX hbl hbA (5 * c + 1) (nI_addE rfl rfl) (by omega) (by omega) dL_law_387 ?_
  refine e_V1i (pc := 388) o lkR_law_56 cmX3_asleepIn (cX3asleepIn ic.1) rfl (by decide) rfl rfl hxy dL_law_388 (fun r M1 hq => ?_)
  obtain ⟨rfl, fr⟩ := hq
  have im1 := im.over (M' := M1) (fun z hz => fr z (by omega))
  have ic1 := ic.kept (M' := M1) (fun z g1 g2 g3 => fr z (by omega))
  obtain ⟨dl, mf⟩ := id im1.2.1
  refine g_aload_n (pc := 391) o 2 dL_law_391 rfl rfl ?_
  refine g_aload_nX (pc := 392) o 0 dL_law_392 rfl rfl ?_
  refine g_iload_n (pc := 393) o 3 dL_law_393 rfl rfl ?_
  refine g_iconst (pc := 394) (v := 1) o dL_law_394 (by decide) ?_
  refine g_iadd (pc := 395) o dL_law_395 ?_
  refine g_sld (pc := 396) o hX hbl hbA (5 * c + 1) (nI_addE rfl rfl) (by omega) (by omega) dL_law_396 ?_
  refine g_V1i (pc := 397) o lkR_law_59 cmX4_asleepIn (cX4asleepIn im1.1 (by omega) mf) rfl (by show (96 : Nat) < 109; decide) rfl rfl hxy dL_law_397 ?_
  refine g_icmp_eq (pc := 400) o 771 dL_law_400 (by decide) (fun _ => ?_) (fun q => absurd rfl q)
  exact kk _ _ _ (INV_mk (ic1.over (fun z hz => inM_ne _ (by omega))) (in_keep im1 (xs (5 * c + 1))) (by omega) (by omega) hlg)

set_option maxHeartbeats 1000000 in
set_option maxRecDepth 20000 in
theorem L_lapse (o : Ok K code R_law 4 (d + 9) RC RS) (hxy : x ≤ RC ∧ y ≤ RS) (hX : va_X bb L xs K.2.2.2.2.1 K.2.2.2.2.1.heap) (hbl : bb < K.2.2.2.2.1.heap.size) (hbA : bb < K.1.2.1) (hc : 5 * c + 4 < L) (hL : L ≤ 320) (inv : INV c M Rf Lg) (kk : ∀ M' Rf' Lg', INV (c + 1) M' Rf' Lg' → G K 771 (lL bb c) [] (109, M', Rf', Lg') x y) : G K 405 (lL bb c) [] (109, M, Rf, Lg) x y := by
  obtain ⟨t, T, S, lat, pk, P, I, ik, cn, ch, cm, tl, tx, ic, im, hlg⟩ := inv
  refine g_aload_n (pc := 405) o 1 dL_law_405 rfl rfl ?_
  refine e_V0i (pc := 406) o lkR_law_60 cmX3_lapse (cX3lapse ic.1) rfl (by decide) rfl rfl hxy dL_law_406 (fun r M1 hq => ?_)
  obtain ⟨rfl, fr⟩ := hq
  have im1 := im.over (M' := M1) (fun z hz => fr z (by omega))
  have ic1 := ic.kept (M' := M1) (fun z g1 g2 g3 => fr z (by omega))
  obtain ⟨dl, mf⟩ := id im1.2.1
  refine g_aload_n (pc := 409) o 2 dL_law_409 rfl rfl ?_
  refine g_V0i (pc := 410) o lkR_law_63 cmX4_lapse (cX4lapse im1.1 (by omega) mf) rfl (by show (96 : Nat) < 109; decide) rfl rfl hxy dL_law_410 ?_
  refine g_icmp_eq (pc := 413) o 771 dL_law_413 (by decide) (fun _ => ?_) (fun q => absurd rfl q)
  exact kk _ _ _ (INV_mk (ic1.over (fun z hz => hld_ne _ (by omega))) (hld_keep im1) (by omega) (by omega) hlg)

set_option maxHeartbeats 1000000 in
set_option maxRecDepth 20000 in
theorem L_city (o : Ok K code R_law 4 (d + 9) RC RS) (hxy : x ≤ RC ∧ y ≤ RS) (hX : va_X bb L xs K.2.2.2.2.1 K.2.2.2.2.1.heap) (hbl : bb < K.2.2.2.2.1.heap.size) (hbA : bb < K.1.2.1) (hc : 5 * c + 4 < L) (hL : L ≤ 320) (inv : INV c M Rf Lg) (kk : ∀ M' Rf' Lg', INV (c + 1) M' Rf' Lg' → G K 771 (lL bb c) [] (109, M', Rf', Lg') x y) : G K 188 (lL bb c) [] (109, M, Rf, Lg) x y := by
  obtain ⟨t, T, S, lat, pk, P, I, ik, cn, ch, cm, tl, tx, ic, im, hlg⟩ := inv
  refine g_aload_n (pc := 188) o 1 dL_law_188 rfl rfl ?_
  refine e_callV (pc := 189) (As := []) o lkR_law_23 cmX3_city (cX3city ic.1 (sp_of ic.1.2.1) ic.2.1 ic.2.2.2.2.2) rfl rfl (by show (0 : Nat) < 109; decide) rfl rfl hxy dL_law_189 (fun w h' hq => ?_)
  unfold cyX at hq
  cases e : rdT tl tx (tl + 1) iniT 0 with
  | inl f =>
    rw [e] at hq
    obtain ⟨M1, rfl, rfl, q1, q2⟩ := hq
    have ht := ic.1.2.1
    have im1 := im.over (M' := M1) (fun z hz => q1 z (by omega) (by omega) (by omega))
    have ic1 := ic.fault q1 q2
    refine g_aload_n (pc := 192) o 2 dL_law_192 rfl rfl ?_
    refine e_V0i (pc := 193) o lkR_law_26 cmX4_city (cX4city im1.1.1 (Nat.le_refl _) im1.2.2.2.2.2) rfl (by decide) rfl rfl hxy dL_law_193 (fun r M2 hq2 => ?_)
    unfold cyQ at hq2
    rw [e] at hq2
    obtain ⟨rfl, f2⟩ := hq2
    refine g_icmp_eq (pc := 196) o 771 dL_law_196 (by decide) (fun _ => ?_) (fun q => absurd rfl q)
    exact kk _ _ _ (INV_mk (ic1.over (fun z hz => f2.1 z (by omega) (by omega))) (im1.fault f2) (by omega) (by omega) hlg)
  | inr T' =>
    rw [e] at hq
    obtain ⟨M1, rfl, rfl, q1, q2, q3, q4, q5, q6, q7, q8, q9, q10, q11, q12⟩ := hq
    have im1 := (im.over (M' := M1) (fun z hz => q12 z hz)).sw (t := t) (sp := 20 - t)
    have ic1 := ic.told q1 q3 q4 q5 q6 q7 q8 q9 q10 q11
    refine g_aload_n (pc := 192) o 2 dL_law_192 rfl rfl ?_
    refine e_V0i (pc := 193) o lkR_law_26 cmX4_city (cX4city im1.1.1 (Nat.le_refl _) im1.2.2.2.2.2) rfl (by decide) rfl rfl hxy dL_law_193 (fun r M2 hq2 => ?_)
    unfold cyQ at hq2
    rw [e] at hq2
    obtain ⟨rfl, k1, k2, M3, f3, hm, rfl⟩ := hq2
    refine g_icmp_eq (pc := 196) o 771 dL_law_196 (by decide) (fun _ => ?_) (fun q => absurd rfl q)
    exact kk _ _ _ (INV_mk (ic1.over (fun z hz => by rw [st2_ne _ _ _ (by omega), tlM_ne _ (by omega) (by omega) (by omega) (by omega), f3.1 z (by omega) (by omega)])) (im1.told k1 f3 hm) (by omega) (by omega) hlg)
end M47
