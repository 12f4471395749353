/-! ===== the law's cases ===== -/
section LCASE
variable {Γ : Ct} {P : Pq} {nh i : Int} {ad : Ob → Nat} {μc μm : Me} {cs sl b n : Nat} {xs : Nat → Int32}
def LN0 (Γ : Ct) (nh i : Int) (ad : Ob → Nat) (cs sl b : Nat) : Prop := ∀ μc' μm', INV μc' μm' nh → XX Γ 4 (VL nh) ad (vl ad (mx μc' μm')) cs sl 1345 [(0, .ref b), (1, .ref (ad (0, 0, 0))), (2, .ref (ad (30, 0, 0))), (3, .int (I i))] []

theorem law_0 (F : Fx Γ cL_law "GatesBentLaw" 4 (some .boolean) P 2000 600000 7302250) (hS : Scr Γ b n xs) (hi : 0 ≤ i ∧ i + 6 ≤ n ∧ n ≤ 3072) (hcs : cs ≤ 500000) (hsl : sl ≤ 7000000) (hI : INV μc μm nh) (kk : LN0 Γ nh i ad cs sl b) : XX Γ 4 (VL nh) ad (vl ad (mx μc μm)) cs sl 184 [(0, .ref b), (1, .ref (ad (0, 0, 0))), (2, .ref (ad (30, 0, 0))), (3, .int (I i))] [] := by
  obtain ⟨hc, im, tl, T, K, tx, sT, ln, it, Hm, Lb, hC, hM, hP⟩ := hI
  have hR0 := hC.1
  have hTI := hP.1.1
  have hd := hP.1.2.1
  have h78 := hTI.2.2.2.2.1.1
  have hH := hC.2.2.2.2.2.2.2.2 (T 78) h78 hP.1.2.2
  have hE : MEn μm T (Hm (T 78)) := ⟨hM.1, hM.2.2.2.2.2.2.2.2.2 (T 78) h78 hP.1.2.2, hM.2.2.2.2.2.2.2.1⟩
  have hSB := hP.2.2.2.2.2.2.2 (T 78)
  have hMA := hM.2.2.2.2.2.2.2.2.1
  have hX1 := i32_rg (xs (i + 1).toNat)
  have hX2 := i32_rg (xs (i + 2).toNat)
  have hX3 := i32_rg (xs (i + 3).toNat)
  have hX4 := i32_rg (xs (i + 4).toNat)
  refine x_aload_n (i := 1) (pc := 184) F dL_law_184 rfl rfl ?_
  refine x_aload_n (i := 0) (pc := 185) F dL_law_185 rfl rfl ?_
  refine x_iload_n (i := 3) (pc := 186) F dL_law_186 rfl rfl ?_
  refine x_iconst (pc := 187) F dL_law_187 ?_
  refine x_iadd (pc := 188) F dL_law_188 ?_
  refine x_sld (pc := 189) F hS dL_law_189 (by omega) ?_
  refine x_aload_n (i := 0) (pc := 190) F dL_law_190 rfl rfl ?_
  refine x_iload_n (i := 3) (pc := 191) F dL_law_191 rfl rfl ?_
  refine x_iconst (pc := 192) F dL_law_192 ?_
  refine x_iadd (pc := 193) F dL_law_193 ?_
  refine x_sld (pc := 194) F hS dL_law_194 (by omega) ?_
  refine x_aload_n (i := 0) (pc := 195) F dL_law_195 rfl rfl ?_
  refine x_iload_n (i := 3) (pc := 196) F dL_law_196 rfl rfl ?_
  refine x_iconst (pc := 197) F dL_law_197 ?_
  refine x_iadd (pc := 198) F dL_law_198 ?_
  refine x_sld (pc := 199) F hS dL_law_199 (by omega) ?_
  refine x_aload_n (i := 0) (pc := 200) F dL_law_200 rfl rfl ?_
  refine x_iload_n (i := 3) (pc := 201) F dL_law_201 rfl rfl ?_
  refine x_iconst (pc := 202) F dL_law_202 ?_
  refine x_iadd (pc := 203) F dL_law_203 ?_
  refine x_sld (pc := 204) F hS dL_law_204 (by omega) ?_
  refine lc_Ci (As := [.int (I ((xs (i + 1).toNat).toInt)), .int (I ((xs (i + 2).toNat).toInt)), .int (I ((xs (i + 3).toNat).toInt)), .int (I ((xs (i + 4).toNat).toInt))]) (pc := 205) F dL_law_205 lk_L_13 rfl rfl rfl (by omega) (by omega) (by omega) (c_X7_comer ((xs (i + 1).toNat).toInt) ((xs (i + 2).toNat).toInt) ((xs (i + 3).toNat).toInt) ((xs (i + 4).toNat).toInt) hX1 hX2 hX3 hX4 hR0 hTI) ?_
  rintro _ μ1 ⟨rfl, c1, c2⟩
  refine x_aload_n (i := 2) (pc := 208) F dL_law_208 rfl rfl ?_
  refine x_aload_n (i := 0) (pc := 209) F dL_law_209 rfl rfl ?_
  refine x_iload_n (i := 3) (pc := 210) F dL_law_210 rfl rfl ?_
  refine x_iconst (pc := 211) F dL_law_211 ?_
  refine x_iadd (pc := 212) F dL_law_212 ?_
  refine x_sld (pc := 213) F hS dL_law_213 (by omega) ?_
  refine x_aload_n (i := 0) (pc := 214) F dL_law_214 rfl rfl ?_
  refine x_iload_n (i := 3) (pc := 215) F dL_law_215 rfl rfl ?_
  refine x_iconst (pc := 216) F dL_law_216 ?_
  refine x_iadd (pc := 217) F dL_law_217 ?_
  refine x_sld (pc := 218) F hS dL_law_218 (by omega) ?_
  refine x_aload_n (i := 0) (pc := 219) F dL_law_219 rfl rfl ?_
  refine x_iload_n (i := 3) (pc := 220) F dL_law_220 rfl rfl ?_
  refine x_iconst (pc := 221) F dL_law_221 ?_
  refine x_iadd (pc := 222) F dL_law_222 ?_
  refine x_sld (pc := 223) F hS dL_law_223 (by omega) ?_
  refine x_aload_n (i := 0) (pc := 224) F dL_law_224 rfl rfl ?_
  refine x_iload_n (i := 3) (pc := 225) F dL_law_225 rfl rfl ?_
  refine x_iconst (pc := 226) F dL_law_226 ?_
  refine x_iadd (pc := 227) F dL_law_227 ?_
  refine x_sld (pc := 228) F hS dL_law_228 (by omega) ?_
  refine lc_Mi (As := [.int (I ((xs (i + 1).toNat).toInt)), .int (I ((xs (i + 2).toNat).toInt)), .int (I ((xs (i + 3).toNat).toInt)), .int (I ((xs (i + 4).toNat).toInt))]) (pc := 229) F dL_law_229 lk_L_17 rfl rfl rfl (by omega) (by omega) (by omega) (c_X8_comer ((xs (i + 1).toNat).toInt) ((xs (i + 2).toNat).toInt) hX1 hX2 hX3 hX4 hM.1 hTI) ?_
  rintro _ μ2 ⟨rfl, m1, m2⟩
  refine x_icmp_same (tgt := 1345) (pc := 232) F dL_law_232 rfl ?_
  exact kk _ _ ⟨_, _, _, _, _, _, _, _, _, _, _, hC.nw c1 c2, hM.fx m2 m1, hP.up (comerT_TI hTI) (by rw [comerT_o hTI (by decide)]; exact hd) (comerT_o hTI (by decide))⟩
theorem law_1 (F : Fx Γ cL_law "GatesBentLaw" 4 (some .boolean) P 2000 600000 7302250) (hS : Scr Γ b n xs) (hi : 0 ≤ i ∧ i + 6 ≤ n ∧ n ≤ 3072) (hcs : cs ≤ 500000) (hsl : sl ≤ 7000000) (hI : INV μc μm nh) (kk : LN0 Γ nh i ad cs sl b) : XX Γ 4 (VL nh) ad (vl ad (mx μc μm)) cs sl 237 [(0, .ref b), (1, .ref (ad (0, 0, 0))), (2, .ref (ad (30, 0, 0))), (3, .int (I i))] [] := by
  obtain ⟨hc, im, tl, T, K, tx, sT, ln, it, Hm, Lb, hC, hM, hP⟩ := hI
  have hR0 := hC.1
  have hTI := hP.1.1
  have hd := hP.1.2.1
  have h78 := hTI.2.2.2.2.1.1
  have hH := hC.2.2.2.2.2.2.2.2 (T 78) h78 hP.1.2.2
  have hE : MEn μm T (Hm (T 78)) := ⟨hM.1, hM.2.2.2.2.2.2.2.2.2 (T 78) h78 hP.1.2.2, hM.2.2.2.2.2.2.2.1⟩
  have hSB := hP.2.2.2.2.2.2.2 (T 78)
  have hMA := hM.2.2.2.2.2.2.2.2.1
  have hX1 := i32_rg (xs (i + 1).toNat)
  have hX2 := i32_rg (xs (i + 2).toNat)
  refine x_aload_n (i := 1) (pc := 237) F dL_law_237 rfl rfl ?_
  refine x_aload_n (i := 0) (pc := 238) F dL_law_238 rfl rfl ?_
  refine x_iload_n (i := 3) (pc := 239) F dL_law_239 rfl rfl ?_
  refine x_iconst (pc := 240) F dL_law_240 ?_
  refine x_iadd (pc := 241) F dL_law_241 ?_
  refine x_sld (pc := 242) F hS dL_law_242 (by omega) ?_
  refine x_aload_n (i := 0) (pc := 243) F dL_law_243 rfl rfl ?_
  refine x_iload_n (i := 3) (pc := 244) F dL_law_244 rfl rfl ?_
  refine x_iconst (pc := 245) F dL_law_245 ?_
  refine x_iadd (pc := 246) F dL_law_246 ?_
  refine x_sld (pc := 247) F hS dL_law_247 (by omega) ?_
  refine lc_Ci (As := [.int (I ((xs (i + 1).toNat).toInt)), .int (I ((xs (i + 2).toNat).toInt))]) (pc := 248) F dL_law_248 lk_L_18 rfl rfl rfl (by omega) (by omega) (by omega) (c_X7_of ((xs (i + 1).toNat).toInt) ((xs (i + 2).toNat).toInt) hX1 hX2 hR0 hTI hH hd) ?_
  rintro _ μ1 ⟨rfl, c2⟩
  refine x_aload_n (i := 2) (pc := 251) F dL_law_251 rfl rfl ?_
  refine x_aload_n (i := 0) (pc := 252) F dL_law_252 rfl rfl ?_
  refine x_iload_n (i := 3) (pc := 253) F dL_law_253 rfl rfl ?_
  refine x_iconst (pc := 254) F dL_law_254 ?_
  refine x_iadd (pc := 255) F dL_law_255 ?_
  refine x_sld (pc := 256) F hS dL_law_256 (by omega) ?_
  refine x_aload_n (i := 0) (pc := 257) F dL_law_257 rfl rfl ?_
  refine x_iload_n (i := 3) (pc := 258) F dL_law_258 rfl rfl ?_
  refine x_iconst (pc := 259) F dL_law_259 ?_
  refine x_iadd (pc := 260) F dL_law_260 ?_
  refine x_sld (pc := 261) F hS dL_law_261 (by omega) ?_
  refine lc_Mi (As := [.int (I ((xs (i + 1).toNat).toInt)), .int (I ((xs (i + 2).toNat).toInt))]) (pc := 262) F dL_law_262 lk_L_22 rfl rfl rfl (by omega) (by omega) (by omega) (c_X8_of hE hTI hSB hd hX1 hX2) ?_
  rintro _ μ2 ⟨rfl, m1, m2⟩
  refine x_icmp_same (tgt := 1345) (pc := 265) F dL_law_265 rfl ?_
  exact kk _ _ ⟨_, _, _, _, _, _, _, _, _, _, _, hC.sc c2, hM.fx m2 m1, hP⟩
theorem law_2 (F : Fx Γ cL_law "GatesBentLaw" 4 (some .boolean) P 2000 600000 7302250) (hS : Scr Γ b n xs) (hi : 0 ≤ i ∧ i + 6 ≤ n ∧ n ≤ 3072) (hcs : cs ≤ 500000) (hsl : sl ≤ 7000000) (hI : INV μc μm nh) (kk : LN0 Γ nh i ad cs sl b) : XX Γ 4 (VL nh) ad (vl ad (mx μc μm)) cs sl 270 [(0, .ref b), (1, .ref (ad (0, 0, 0))), (2, .ref (ad (30, 0, 0))), (3, .int (I i))] [] := by
  obtain ⟨hc, im, tl, T, K, tx, sT, ln, it, Hm, Lb, hC, hM, hP⟩ := hI
  have hR0 := hC.1
  have hTI := hP.1.1
  have hd := hP.1.2.1
  have h78 := hTI.2.2.2.2.1.1
  have hH := hC.2.2.2.2.2.2.2.2 (T 78) h78 hP.1.2.2
  have hE : MEn μm T (Hm (T 78)) := ⟨hM.1, hM.2.2.2.2.2.2.2.2.2 (T 78) h78 hP.1.2.2, hM.2.2.2.2.2.2.2.1⟩
  have hSB := hP.2.2.2.2.2.2.2 (T 78)
  have hMA := hM.2.2.2.2.2.2.2.2.1
  have hX1 := i32_rg (xs (i + 1).toNat)
  have hX2 := i32_rg (xs (i + 2).toNat)
  have hX3 := i32_rg (xs (i + 3).toNat)
  refine x_aload_n (i := 1) (pc := 270) F dL_law_270 rfl rfl ?_
  refine x_aload_n (i := 0) (pc := 271) F dL_law_271 rfl rfl ?_
  refine x_iload_n (i := 3) (pc := 272) F dL_law_272 rfl rfl ?_
  refine x_iconst (pc := 273) F dL_law_273 ?_
  refine x_iadd (pc := 274) F dL_law_274 ?_
  refine x_sld (pc := 275) F hS dL_law_275 (by omega) ?_
  refine x_aload_n (i := 0) (pc := 276) F dL_law_276 rfl rfl ?_
  refine x_iload_n (i := 3) (pc := 277) F dL_law_277 rfl rfl ?_
  refine x_iconst (pc := 278) F dL_law_278 ?_
  refine x_iadd (pc := 279) F dL_law_279 ?_
  refine x_sld (pc := 280) F hS dL_law_280 (by omega) ?_
  refine x_aload_n (i := 0) (pc := 281) F dL_law_281 rfl rfl ?_
  refine x_iload_n (i := 3) (pc := 282) F dL_law_282 rfl rfl ?_
  refine x_iconst (pc := 283) F dL_law_283 ?_
  refine x_iadd (pc := 284) F dL_law_284 ?_
  refine x_sld (pc := 285) F hS dL_law_285 (by omega) ?_
  refine lc_Ci (As := [.int (I ((xs (i + 1).toNat).toInt)), .int (I ((xs (i + 2).toNat).toInt)), .int (I ((xs (i + 3).toNat).toInt))]) (pc := 286) F dL_law_286 lk_L_23 rfl rfl rfl (by omega) (by omega) (by omega) (c_X7_set ((xs (i + 1).toNat).toInt) ((xs (i + 2).toNat).toInt) ((xs (i + 3).toNat).toInt) hX1 hX2 hX3 hR0 hTI) ?_
  rintro _ μ1 ⟨rfl, c1, c2⟩
  refine x_aload_n (i := 2) (pc := 289) F dL_law_289 rfl rfl ?_
  refine x_aload_n (i := 0) (pc := 290) F dL_law_290 rfl rfl ?_
  refine x_iload_n (i := 3) (pc := 291) F dL_law_291 rfl rfl ?_
  refine x_iconst (pc := 292) F dL_law_292 ?_
  refine x_iadd (pc := 293) F dL_law_293 ?_
  refine x_sld (pc := 294) F hS dL_law_294 (by omega) ?_
  refine x_aload_n (i := 0) (pc := 295) F dL_law_295 rfl rfl ?_
  refine x_iload_n (i := 3) (pc := 296) F dL_law_296 rfl rfl ?_
  refine x_iconst (pc := 297) F dL_law_297 ?_
  refine x_iadd (pc := 298) F dL_law_298 ?_
  refine x_sld (pc := 299) F hS dL_law_299 (by omega) ?_
  refine x_aload_n (i := 0) (pc := 300) F dL_law_300 rfl rfl ?_
  refine x_iload_n (i := 3) (pc := 301) F dL_law_301 rfl rfl ?_
  refine x_iconst (pc := 302) F dL_law_302 ?_
  refine x_iadd (pc := 303) F dL_law_303 ?_
  refine x_sld (pc := 304) F hS dL_law_304 (by omega) ?_
  refine lc_Mi (As := [.int (I ((xs (i + 1).toNat).toInt)), .int (I ((xs (i + 2).toNat).toInt)), .int (I ((xs (i + 3).toNat).toInt))]) (pc := 305) F dL_law_305 lk_L_27 rfl rfl rfl (by omega) (by omega) (by omega) (c_X8_set hM.1 hTI hX1 hX2 hX3) ?_
  rintro _ μ2 ⟨rfl, m1, m2⟩
  refine x_icmp_same (tgt := 1345) (pc := 308) F dL_law_308 rfl ?_
  exact kk _ _ ⟨_, _, _, _, _, _, _, _, _, _, _, hC.nw c1 c2, hM.fx m2 m1, hP.up (setT_TI hTI) (by rw [setT_o hTI (by decide)]; exact hd) (setT_o hTI (by decide))⟩
theorem law_3 (F : Fx Γ cL_law "GatesBentLaw" 4 (some .boolean) P 2000 600000 7302250) (hS : Scr Γ b n xs) (hi : 0 ≤ i ∧ i + 6 ≤ n ∧ n ≤ 3072) (hcs : cs ≤ 500000) (hsl : sl ≤ 7000000) (hI : INV μc μm nh) (kk : LN0 Γ nh i ad cs sl b) : XX Γ 4 (VL nh) ad (vl ad (mx μc μm)) cs sl 313 [(0, .ref b), (1, .ref (ad (0, 0, 0))), (2, .ref (ad (30, 0, 0))), (3, .int (I i))] [] := by
  obtain ⟨hc, im, tl, T, K, tx, sT, ln, it, Hm, Lb, hC, hM, hP⟩ := hI
  have hR0 := hC.1
  have hTI := hP.1.1
  have hd := hP.1.2.1
  have h78 := hTI.2.2.2.2.1.1
  have hH := hC.2.2.2.2.2.2.2.2 (T 78) h78 hP.1.2.2
  have hE : MEn μm T (Hm (T 78)) := ⟨hM.1, hM.2.2.2.2.2.2.2.2.2 (T 78) h78 hP.1.2.2, hM.2.2.2.2.2.2.2.1⟩
  have hSB := hP.2.2.2.2.2.2.2 (T 78)
  have hMA := hM.2.2.2.2.2.2.2.2.1
  have hX1 := i32_rg (xs (i + 1).toNat)
  have hX2 := i32_rg (xs (i + 2).toNat)
  have hX3 := i32_rg (xs (i + 3).toNat)
  refine x_aload_n (i := 1) (pc := 313) F dL_law_313 rfl rfl ?_
  refine x_aload_n (i := 0) (pc := 314) F dL_law_314 rfl rfl ?_
  refine x_iload_n (i := 3) (pc := 315) F dL_law_315 rfl rfl ?_
  refine x_iconst (pc := 316) F dL_law_316 ?_
  refine x_iadd (pc := 317) F dL_law_317 ?_
  refine x_sld (pc := 318) F hS dL_law_318 (by omega) ?_
  refine x_aload_n (i := 0) (pc := 319) F dL_law_319 rfl rfl ?_
  refine x_iload_n (i := 3) (pc := 320) F dL_law_320 rfl rfl ?_
  refine x_iconst (pc := 321) F dL_law_321 ?_
  refine x_iadd (pc := 322) F dL_law_322 ?_
  refine x_sld (pc := 323) F hS dL_law_323 (by omega) ?_
  refine x_aload_n (i := 0) (pc := 324) F dL_law_324 rfl rfl ?_
  refine x_iload_n (i := 3) (pc := 325) F dL_law_325 rfl rfl ?_
  refine x_iconst (pc := 326) F dL_law_326 ?_
  refine x_iadd (pc := 327) F dL_law_327 ?_
  refine x_sld (pc := 328) F hS dL_law_328 (by omega) ?_
  refine lc_Ci (As := [.int (I ((xs (i + 1).toNat).toInt)), .int (I ((xs (i + 2).toNat).toInt)), .int (I ((xs (i + 3).toNat).toInt))]) (pc := 329) F dL_law_329 lk_L_28 rfl rfl rfl (by omega) (by omega) (by omega) (c_X7_like ((xs (i + 1).toNat).toInt) ((xs (i + 2).toNat).toInt) ((xs (i + 3).toNat).toInt) hX1 hX2 hX3 hR0 hTI hH hd) ?_
  rintro _ μ1 ⟨rfl, rfl⟩
  refine x_aload_n (i := 2) (pc := 332) F dL_law_332 rfl rfl ?_
  refine x_aload_n (i := 0) (pc := 333) F dL_law_333 rfl rfl ?_
  refine x_iload_n (i := 3) (pc := 334) F dL_law_334 rfl rfl ?_
  refine x_iconst (pc := 335) F dL_law_335 ?_
  refine x_iadd (pc := 336) F dL_law_336 ?_
  refine x_sld (pc := 337) F hS dL_law_337 (by omega) ?_
  refine x_aload_n (i := 0) (pc := 338) F dL_law_338 rfl rfl ?_
  refine x_iload_n (i := 3) (pc := 339) F dL_law_339 rfl rfl ?_
  refine x_iconst (pc := 340) F dL_law_340 ?_
  refine x_iadd (pc := 341) F dL_law_341 ?_
  refine x_sld (pc := 342) F hS dL_law_342 (by omega) ?_
  refine x_aload_n (i := 0) (pc := 343) F dL_law_343 rfl rfl ?_
  refine x_iload_n (i := 3) (pc := 344) F dL_law_344 rfl rfl ?_
  refine x_iconst (pc := 345) F dL_law_345 ?_
  refine x_iadd (pc := 346) F dL_law_346 ?_
  refine x_sld (pc := 347) F hS dL_law_347 (by omega) ?_
  refine lc_Mi (As := [.int (I ((xs (i + 1).toNat).toInt)), .int (I ((xs (i + 2).toNat).toInt)), .int (I ((xs (i + 3).toNat).toInt))]) (pc := 348) F dL_law_348 lk_L_31 rfl rfl rfl (by omega) (by omega) (by omega) (c_X8_like hE hTI hSB hd hX1 hX2 hX3) ?_
  rintro _ μ2 ⟨rfl, m1, m2⟩
  refine x_icmp_same (tgt := 1345) (pc := 351) F dL_law_351 rfl ?_
  exact kk _ _ ⟨_, _, _, _, _, _, _, _, _, _, _, hC, hM.fx m2 m1, hP⟩
theorem law_4 (F : Fx Γ cL_law "GatesBentLaw" 4 (some .boolean) P 2000 600000 7302250) (hS : Scr Γ b n xs) (hi : 0 ≤ i ∧ i + 6 ≤ n ∧ n ≤ 3072) (hcs : cs ≤ 500000) (hsl : sl ≤ 7000000) (hI : INV μc μm nh) (kk : LN0 Γ nh i ad cs sl b) : XX Γ 4 (VL nh) ad (vl ad (mx μc μm)) cs sl 356 [(0, .ref b), (1, .ref (ad (0, 0, 0))), (2, .ref (ad (30, 0, 0))), (3, .int (I i))] [] := by
  obtain ⟨hc, im, tl, T, K, tx, sT, ln, it, Hm, Lb, hC, hM, hP⟩ := hI
  have hR0 := hC.1
  have hTI := hP.1.1
  have hd := hP.1.2.1
  have h78 := hTI.2.2.2.2.1.1
  have hH := hC.2.2.2.2.2.2.2.2 (T 78) h78 hP.1.2.2
  have hE : MEn μm T (Hm (T 78)) := ⟨hM.1, hM.2.2.2.2.2.2.2.2.2 (T 78) h78 hP.1.2.2, hM.2.2.2.2.2.2.2.1⟩
  have hSB := hP.2.2.2.2.2.2.2 (T 78)
  have hMA := hM.2.2.2.2.2.2.2.2.1
  have hX1 := i32_rg (xs (i + 1).toNat)
  have hX2 := i32_rg (xs (i + 2).toNat)
  refine x_aload_n (i := 1) (pc := 356) F dL_law_356 rfl rfl ?_
  refine x_aload_n (i := 0) (pc := 357) F dL_law_357 rfl rfl ?_
  refine x_iload_n (i := 3) (pc := 358) F dL_law_358 rfl rfl ?_
  refine x_iconst (pc := 359) F dL_law_359 ?_
  refine x_iadd (pc := 360) F dL_law_360 ?_
  refine x_sld (pc := 361) F hS dL_law_361 (by omega) ?_
  refine x_aload_n (i := 0) (pc := 362) F dL_law_362 rfl rfl ?_
  refine x_iload_n (i := 3) (pc := 363) F dL_law_363 rfl rfl ?_
  refine x_iconst (pc := 364) F dL_law_364 ?_
  refine x_iadd (pc := 365) F dL_law_365 ?_
  refine x_sld (pc := 366) F hS dL_law_366 (by omega) ?_
  refine lc_Ci (As := [.int (I ((xs (i + 1).toNat).toInt)), .int (I ((xs (i + 2).toNat).toInt))]) (pc := 367) F dL_law_367 lk_L_32 rfl rfl rfl (by omega) (by omega) (by omega) (c_X7_teach ((xs (i + 1).toNat).toInt) ((xs (i + 2).toNat).toInt) hX2 hX1 hR0 hTI) ?_
  rintro _ μ1 ⟨rfl, c1, c2⟩
  refine x_aload_n (i := 2) (pc := 370) F dL_law_370 rfl rfl ?_
  refine x_aload_n (i := 0) (pc := 371) F dL_law_371 rfl rfl ?_
  refine x_iload_n (i := 3) (pc := 372) F dL_law_372 rfl rfl ?_
  refine x_iconst (pc := 373) F dL_law_373 ?_
  refine x_iadd (pc := 374) F dL_law_374 ?_
  refine x_sld (pc := 375) F hS dL_law_375 (by omega) ?_
  refine x_aload_n (i := 0) (pc := 376) F dL_law_376 rfl rfl ?_
  refine x_iload_n (i := 3) (pc := 377) F dL_law_377 rfl rfl ?_
  refine x_iconst (pc := 378) F dL_law_378 ?_
  refine x_iadd (pc := 379) F dL_law_379 ?_
  refine x_sld (pc := 380) F hS dL_law_380 (by omega) ?_
  refine lc_Mi (As := [.int (I ((xs (i + 1).toNat).toInt)), .int (I ((xs (i + 2).toNat).toInt))]) (pc := 381) F dL_law_381 lk_L_35 rfl rfl rfl (by omega) (by omega) (by omega) (c_X8_teach hM.1 hTI hX2 hX1) ?_
  rintro _ μ2 ⟨rfl, m1, m2⟩
  refine x_icmp_same (tgt := 1345) (pc := 384) F dL_law_384 rfl ?_
  exact kk _ _ ⟨_, _, _, _, _, _, _, _, _, _, _, hC.nw c1 c2, hM.fx m2 m1, hP.up (teachT_TI hTI) (by rw [teachT_o (by decide)]; exact hd) (teachT_o (by decide))⟩
theorem law_5 (F : Fx Γ cL_law "GatesBentLaw" 4 (some .boolean) P 2000 600000 7302250) (hS : Scr Γ b n xs) (hi : 0 ≤ i ∧ i + 6 ≤ n ∧ n ≤ 3072) (hcs : cs ≤ 500000) (hsl : sl ≤ 7000000) (hI : INV μc μm nh) (kk : LN0 Γ nh i ad cs sl b) : XX Γ 4 (VL nh) ad (vl ad (mx μc μm)) cs sl 389 [(0, .ref b), (1, .ref (ad (0, 0, 0))), (2, .ref (ad (30, 0, 0))), (3, .int (I i))] [] := by
  obtain ⟨hc, im, tl, T, K, tx, sT, ln, it, Hm, Lb, hC, hM, hP⟩ := hI
  have hR0 := hC.1
  have hTI := hP.1.1
  have hd := hP.1.2.1
  have h78 := hTI.2.2.2.2.1.1
  have hH := hC.2.2.2.2.2.2.2.2 (T 78) h78 hP.1.2.2
  have hE : MEn μm T (Hm (T 78)) := ⟨hM.1, hM.2.2.2.2.2.2.2.2.2 (T 78) h78 hP.1.2.2, hM.2.2.2.2.2.2.2.1⟩
  have hSB := hP.2.2.2.2.2.2.2 (T 78)
  have hMA := hM.2.2.2.2.2.2.2.2.1
  have hX1 := i32_rg (xs (i + 1).toNat)
  refine x_aload_n (i := 1) (pc := 389) F dL_law_389 rfl rfl ?_
  refine x_aload_n (i := 0) (pc := 390) F dL_law_390 rfl rfl ?_
  refine x_iload_n (i := 3) (pc := 391) F dL_law_391 rfl rfl ?_
  refine x_iconst (pc := 392) F dL_law_392 ?_
  refine x_iadd (pc := 393) F dL_law_393 ?_
  refine x_sld (pc := 394) F hS dL_law_394 (by omega) ?_
  refine lc_Ci (As := [.int (I ((xs (i + 1).toNat).toInt))]) (pc := 395) F dL_law_395 lk_L_36 rfl rfl rfl (by omega) (by omega) (by omega) (c_X7_forget ((xs (i + 1).toNat).toInt) hX1 hR0 hTI) ?_
  rintro _ μ1 ⟨rfl, c1, c2⟩
  refine x_aload_n (i := 2) (pc := 398) F dL_law_398 rfl rfl ?_
  refine x_aload_n (i := 0) (pc := 399) F dL_law_399 rfl rfl ?_
  refine x_iload_n (i := 3) (pc := 400) F dL_law_400 rfl rfl ?_
  refine x_iconst (pc := 401) F dL_law_401 ?_
  refine x_iadd (pc := 402) F dL_law_402 ?_
  refine x_sld (pc := 403) F hS dL_law_403 (by omega) ?_
  refine lc_Mi (As := [.int (I ((xs (i + 1).toNat).toInt))]) (pc := 404) F dL_law_404 lk_L_40 rfl rfl rfl (by omega) (by omega) (by omega) (c_X8_forget hM.1 hX1) ?_
  rintro _ μ2 ⟨rfl, m1, m2⟩
  refine x_icmp_same (tgt := 1345) (pc := 407) F dL_law_407 rfl ?_
  exact kk _ _ ⟨_, _, _, _, _, _, _, _, _, _, _, hC.nw c1 c2, hM.fx m2 m1, hP.up (forgetT_TI hTI) (by rw [forgetT_o (by decide)]; exact hd) (forgetT_o (by decide))⟩
theorem law_6 (F : Fx Γ cL_law "GatesBentLaw" 4 (some .boolean) P 2000 600000 7302250) (hS : Scr Γ b n xs) (hi : 0 ≤ i ∧ i + 6 ≤ n ∧ n ≤ 3072) (hcs : cs ≤ 500000) (hsl : sl ≤ 7000000) (hI : INV μc μm nh) (kk : LN0 Γ nh i ad cs sl b) : XX Γ 4 (VL nh) ad (vl ad (mx μc μm)) cs sl 412 [(0, .ref b), (1, .ref (ad (0, 0, 0))), (2, .ref (ad (30, 0, 0))), (3, .int (I i))] [] := by
  obtain ⟨hc, im, tl, T, K, tx, sT, ln, it, Hm, Lb, hC, hM, hP⟩ := hI
  have hR0 := hC.1
  have hTI := hP.1.1
  have hd := hP.1.2.1
  have h78 := hTI.2.2.2.2.1.1
  have hH := hC.2.2.2.2.2.2.2.2 (T 78) h78 hP.1.2.2
  have hE : MEn μm T (Hm (T 78)) := ⟨hM.1, hM.2.2.2.2.2.2.2.2.2 (T 78) h78 hP.1.2.2, hM.2.2.2.2.2.2.2.1⟩
  have hSB := hP.2.2.2.2.2.2.2 (T 78)
  have hMA := hM.2.2.2.2.2.2.2.2.1
  have hX1 := i32_rg (xs (i + 1).toNat)
  have hX2 := i32_rg (xs (i + 2).toNat)
  have hX3 := i32_rg (xs (i + 3).toNat)
  refine x_aload_n (i := 1) (pc := 412) F dL_law_412 rfl rfl ?_
  refine x_aload_n (i := 0) (pc := 413) F dL_law_413 rfl rfl ?_
  refine x_iload_n (i := 3) (pc := 414) F dL_law_414 rfl rfl ?_
  refine x_iconst (pc := 415) F dL_law_415 ?_
  refine x_iadd (pc := 416) F dL_law_416 ?_
  refine x_sld (pc := 417) F hS dL_law_417 (by omega) ?_
  refine x_aload_n (i := 0) (pc := 418) F dL_law_418 rfl rfl ?_
  refine x_iload_n (i := 3) (pc := 419) F dL_law_419 rfl rfl ?_
  refine x_iconst (pc := 420) F dL_law_420 ?_
  refine x_iadd (pc := 421) F dL_law_421 ?_
  refine x_sld (pc := 422) F hS dL_law_422 (by omega) ?_
  refine x_aload_n (i := 0) (pc := 423) F dL_law_423 rfl rfl ?_
  refine x_iload_n (i := 3) (pc := 424) F dL_law_424 rfl rfl ?_
  refine x_iconst (pc := 425) F dL_law_425 ?_
  refine x_iadd (pc := 426) F dL_law_426 ?_
  refine x_sld (pc := 427) F hS dL_law_427 (by omega) ?_
  refine lc_Ci (As := [.int (I ((xs (i + 1).toNat).toInt)), .int (I ((xs (i + 2).toNat).toInt)), .int (I ((xs (i + 3).toNat).toInt))]) (pc := 428) F dL_law_428 lk_L_41 rfl rfl rfl (by omega) (by omega) (by omega) (c_X7_row ((xs (i + 1).toNat).toInt) ((xs (i + 2).toNat).toInt) ((xs (i + 3).toNat).toInt) hX1 hX2 hX3 hR0 hTI) ?_
  rintro _ μ1 ⟨rfl, c1, c2⟩
  refine x_aload_n (i := 2) (pc := 431) F dL_law_431 rfl rfl ?_
  refine x_aload_n (i := 0) (pc := 432) F dL_law_432 rfl rfl ?_
  refine x_iload_n (i := 3) (pc := 433) F dL_law_433 rfl rfl ?_
  refine x_iconst (pc := 434) F dL_law_434 ?_
  refine x_iadd (pc := 435) F dL_law_435 ?_
  refine x_sld (pc := 436) F hS dL_law_436 (by omega) ?_
  refine x_aload_n (i := 0) (pc := 437) F dL_law_437 rfl rfl ?_
  refine x_iload_n (i := 3) (pc := 438) F dL_law_438 rfl rfl ?_
  refine x_iconst (pc := 439) F dL_law_439 ?_
  refine x_iadd (pc := 440) F dL_law_440 ?_
  refine x_sld (pc := 441) F hS dL_law_441 (by omega) ?_
  refine x_aload_n (i := 0) (pc := 442) F dL_law_442 rfl rfl ?_
  refine x_iload_n (i := 3) (pc := 443) F dL_law_443 rfl rfl ?_
  refine x_iconst (pc := 444) F dL_law_444 ?_
  refine x_iadd (pc := 445) F dL_law_445 ?_
  refine x_sld (pc := 446) F hS dL_law_446 (by omega) ?_
  refine lc_Mi (As := [.int (I ((xs (i + 1).toNat).toInt)), .int (I ((xs (i + 2).toNat).toInt)), .int (I ((xs (i + 3).toNat).toInt))]) (pc := 447) F dL_law_447 lk_L_44 rfl rfl rfl (by omega) (by omega) (by omega) (c_X8_row hM.1 hTI hX1 hX2 hX3) ?_
  rintro _ μ2 ⟨rfl, m1, m2⟩
  refine x_icmp_same (tgt := 1345) (pc := 450) F dL_law_450 rfl ?_
  exact kk _ _ ⟨_, _, _, _, _, _, _, _, _, _, _, hC.nw c1 c2, hM.fx m2 m1, hP.up (rowT_TI hTI) (by rw [rowT_o hTI (by decide)]; exact hd) (rowT_o hTI (by decide))⟩
theorem law_7 (F : Fx Γ cL_law "GatesBentLaw" 4 (some .boolean) P 2000 600000 7302250) (hS : Scr Γ b n xs) (hi : 0 ≤ i ∧ i + 6 ≤ n ∧ n ≤ 3072) (hcs : cs ≤ 500000) (hsl : sl ≤ 7000000) (hI : INV μc μm nh) (kk : LN0 Γ nh i ad cs sl b) : XX Γ 4 (VL nh) ad (vl ad (mx μc μm)) cs sl 455 [(0, .ref b), (1, .ref (ad (0, 0, 0))), (2, .ref (ad (30, 0, 0))), (3, .int (I i))] [] := by
  obtain ⟨hc, im, tl, T, K, tx, sT, ln, it, Hm, Lb, hC, hM, hP⟩ := hI
  have hR0 := hC.1
  have hTI := hP.1.1
  have hd := hP.1.2.1
  have h78 := hTI.2.2.2.2.1.1
  have hH := hC.2.2.2.2.2.2.2.2 (T 78) h78 hP.1.2.2
  have hE : MEn μm T (Hm (T 78)) := ⟨hM.1, hM.2.2.2.2.2.2.2.2.2 (T 78) h78 hP.1.2.2, hM.2.2.2.2.2.2.2.1⟩
  have hSB := hP.2.2.2.2.2.2.2 (T 78)
  have hMA := hM.2.2.2.2.2.2.2.2.1
  have hX1 := i32_rg (xs (i + 1).toNat)
  refine x_aload_n (i := 1) (pc := 455) F dL_law_455 rfl rfl ?_
  refine x_aload_n (i := 0) (pc := 456) F dL_law_456 rfl rfl ?_
  refine x_iload_n (i := 3) (pc := 457) F dL_law_457 rfl rfl ?_
  refine x_iconst (pc := 458) F dL_law_458 ?_
  refine x_iadd (pc := 459) F dL_law_459 ?_
  refine x_sld (pc := 460) F hS dL_law_460 (by omega) ?_
  refine lc_Ci (As := [.int (I ((xs (i + 1).toNat).toInt))]) (pc := 461) F dL_law_461 lk_L_45 rfl rfl rfl (by omega) (by omega) (by omega) (c_X7_feed ((xs (i + 1).toNat).toInt) hX1 hC.2.2.2.1) ?_
  rintro _ μ1 ⟨rfl, c1, c2, c3⟩
  refine x_aload_n (i := 2) (pc := 464) F dL_law_464 rfl rfl ?_
  refine x_aload_n (i := 0) (pc := 465) F dL_law_465 rfl rfl ?_
  refine x_iload_n (i := 3) (pc := 466) F dL_law_466 rfl rfl ?_
  refine x_iconst (pc := 467) F dL_law_467 ?_
  refine x_iadd (pc := 468) F dL_law_468 ?_
  refine x_sld (pc := 469) F hS dL_law_469 (by omega) ?_
  refine lc_Mi (As := [.int (I ((xs (i + 1).toNat).toInt))]) (pc := 470) F dL_law_470 lk_L_48 rfl rfl rfl (by omega) (by omega) (by omega) (c_X8_feed ((xs (i + 1).toNat).toInt) hX1 hM.2.2.2.1) ?_
  rintro _ μ2 ⟨rfl, m1, m2, m3⟩
  refine x_icmp_same (tgt := 1345) (pc := 473) F dL_law_473 rfl ?_
  exact kk _ _ ⟨_, _, _, _, _, _, _, _, _, _, _, hC.fd c1 c3, hM.fd m1 m2 m3, hP⟩
end LCASE
