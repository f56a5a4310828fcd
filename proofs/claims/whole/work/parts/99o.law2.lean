/-! THE LAW: its 34 questions, asked of both -/
section LAW3
variable {l : Launch} {E : qEv} {Q : List Frame → Array Value → State → State → Prop} {b N : Nat} {xs : Nat → Int32} {k j : Nat} {n : Nat} {sh : qSh} {x m : Nat} {I L : qI} {R : qR} {V : VV} {i : Int}
theorem lc_0 (hk : k ≤ 600000) (hj : j ≤ 7302250) (hL : N ≤ 3072) (h0 : 0 ≤ i) (h1 : i + 6 ≤ N) (h : LI E n sh x m I L R V) (K : ∀ I' L' R' V', LI E n sh x m I' L' R' V' → Wk l E (lwY E Q b N xs) mL k j 1262 [(0, .ref b), (1, .ref x), (2, .ref m), (3, .int (zI i))] [] (n, sh, I', L', R')) : Wk l E (lwY E Q b N xs) mL k j 184 [(0, .ref b), (1, .ref x), (2, .ref m), (3, .int (zI i))] [] (n, sh, I, L, R) := by
  have hX := h
  have hM := h.2.2.1
  refine wk_aload_n (i := 1) (q := 185) dL_law_184 rfl rfl rfl ?_
  refine wk_aload_n (i := 0) (q := 186) dL_law_185 rfl rfl rfl ?_
  refine wk_iload_n (i := 3) (q := 187) dL_law_186 rfl rfl rfl ?_
  refine wk_iconst (q := 188) dL_law_187 rfl ?_
  refine wk_iadd (q := 189) dL_law_188 rfl ?_
  refine wk_sld (q := 190) dL_law_189 rfl (by omega) hL ?_
  refine wk_aload_n (i := 0) (q := 191) dL_law_190 rfl rfl rfl ?_
  refine wk_iload_n (i := 3) (q := 192) dL_law_191 rfl rfl rfl ?_
  refine wk_iconst (q := 193) dL_law_192 rfl ?_
  refine wk_iadd (q := 194) dL_law_193 rfl ?_
  refine wk_sld (q := 195) dL_law_194 rfl (by omega) hL ?_
  refine wk_aload_n (i := 0) (q := 196) dL_law_195 rfl rfl rfl ?_
  refine wk_iload_n (i := 3) (q := 197) dL_law_196 rfl rfl rfl ?_
  refine wk_iconst (q := 198) dL_law_197 rfl ?_
  refine wk_iadd (q := 199) dL_law_198 rfl ?_
  refine wk_sld (q := 200) dL_law_199 rfl (by omega) hL ?_
  refine wk_aload_n (i := 0) (q := 201) dL_law_200 rfl rfl rfl ?_
  refine wk_iload_n (i := 3) (q := 202) dL_law_201 rfl rfl rfl ?_
  refine wk_iconst (q := 203) dL_law_202 rfl ?_
  refine wk_iadd (q := 204) dL_law_203 rfl ?_
  refine wk_sld (q := 205) dL_law_204 rfl (by omega) hL ?_
  refine wk_cZ4 (q := 208) dL_law_205 rfl vl_L_13 ⟨_, _, rfl⟩ hX.ob (oc_table h.1 (by first | exact sc_in _ | decide) (by first | exact sc_in _ | decide) (by first | exact sc_in _ | decide) (by first | exact sc_in _ | decide)) ⟨Nat.le_of_ble_eq_true rfl, Nat.le_of_ble_eq_true rfl, hk, hj⟩ (Nat.le_of_ble_eq_true rfl) (fun v205 I205 L205 R205 hv205 => ?_)
  obtain ⟨ea, hC, fI, fR⟩ := hv205
  have hM2 := h.2.1.frm h.2.2.2 fI
  have hQ := h.2.2.1.frm h.2.2.2 fR
  refine wk_aload_n (i := 2) (q := 209) dL_law_208 rfl rfl rfl ?_
  refine wk_aload_n (i := 0) (q := 210) dL_law_209 rfl rfl rfl ?_
  refine wk_iload_n (i := 3) (q := 211) dL_law_210 rfl rfl rfl ?_
  refine wk_iconst (q := 212) dL_law_211 rfl ?_
  refine wk_iadd (q := 213) dL_law_212 rfl ?_
  refine wk_sld (q := 214) dL_law_213 rfl (by omega) hL ?_
  refine wk_aload_n (i := 0) (q := 215) dL_law_214 rfl rfl rfl ?_
  refine wk_iload_n (i := 3) (q := 216) dL_law_215 rfl rfl rfl ?_
  refine wk_iconst (q := 217) dL_law_216 rfl ?_
  refine wk_iadd (q := 218) dL_law_217 rfl ?_
  refine wk_sld (q := 219) dL_law_218 rfl (by omega) hL ?_
  refine wk_aload_n (i := 0) (q := 220) dL_law_219 rfl rfl rfl ?_
  refine wk_iload_n (i := 3) (q := 221) dL_law_220 rfl rfl rfl ?_
  refine wk_iconst (q := 222) dL_law_221 rfl ?_
  refine wk_iadd (q := 223) dL_law_222 rfl ?_
  refine wk_sld (q := 224) dL_law_223 rfl (by omega) hL ?_
  refine wk_aload_n (i := 0) (q := 225) dL_law_224 rfl rfl rfl ?_
  refine wk_iload_n (i := 3) (q := 226) dL_law_225 rfl rfl rfl ?_
  refine wk_iconst (q := 227) dL_law_226 rfl ?_
  refine wk_iadd (q := 228) dL_law_227 rfl ?_
  refine wk_sld (q := 229) dL_law_228 rfl (by omega) hL ?_
  refine wk_cZ4 (q := 232) dL_law_229 rfl vl_L_17 ⟨_, _, rfl⟩ hM.ob (om_table hQ hM2 (by first | exact sc_in _ | decide) (by first | exact sc_in _ | decide) (by first | exact sc_in _ | decide) (by first | exact sc_in _ | decide)) ⟨Nat.le_of_ble_eq_true rfl, Nat.le_of_ble_eq_true rfl, hk, hj⟩ (Nat.le_of_ble_eq_true rfl) (fun v229 I229 L229 R229 hv229 => ?_)
  obtain ⟨eb, hM3, gI, gL, gR⟩ := hv229
  subst ea eb
  have hN := h.step hC fR hM3 gI gL gR
  refine wk_icmp_same (t := 1262) dL_law_232 rfl ?_
  exact K _ _ _ _ hN
theorem lc_1 (hk : k ≤ 600000) (hj : j ≤ 7302250) (hL : N ≤ 3072) (h0 : 0 ≤ i) (h1 : i + 6 ≤ N) (h : LI E n sh x m I L R V) (K : ∀ I' L' R' V', LI E n sh x m I' L' R' V' → Wk l E (lwY E Q b N xs) mL k j 1262 [(0, .ref b), (1, .ref x), (2, .ref m), (3, .int (zI i))] [] (n, sh, I', L', R')) : Wk l E (lwY E Q b N xs) mL k j 237 [(0, .ref b), (1, .ref x), (2, .ref m), (3, .int (zI i))] [] (n, sh, I, L, R) := by
  have hX := h
  have hM := h.2.2.1
  refine wk_aload_n (i := 1) (q := 238) dL_law_237 rfl rfl rfl ?_
  refine wk_aload_n (i := 0) (q := 239) dL_law_238 rfl rfl rfl ?_
  refine wk_iload_n (i := 3) (q := 240) dL_law_239 rfl rfl rfl ?_
  refine wk_iconst (q := 241) dL_law_240 rfl ?_
  refine wk_iadd (q := 242) dL_law_241 rfl ?_
  refine wk_sld (q := 243) dL_law_242 rfl (by omega) hL ?_
  refine wk_aload_n (i := 0) (q := 244) dL_law_243 rfl rfl rfl ?_
  refine wk_iload_n (i := 3) (q := 245) dL_law_244 rfl rfl rfl ?_
  refine wk_iconst (q := 246) dL_law_245 rfl ?_
  refine wk_iadd (q := 247) dL_law_246 rfl ?_
  refine wk_sld (q := 248) dL_law_247 rfl (by omega) hL ?_
  refine wk_cP2 (q := 251) dL_law_248 rfl vl_L_18 ⟨_, _, rfl⟩ hX.ob (oc_ofDish h.1 (by first | exact sc_in _ | decide) (by first | exact sc_in _ | decide)) ⟨Nat.le_of_ble_eq_true rfl, Nat.le_of_ble_eq_true rfl, hk, hj⟩ (Nat.le_of_ble_eq_true rfl) (fun v248 hv248 => ?_)
  subst hv248
  refine wk_aload_n (i := 2) (q := 252) dL_law_251 rfl rfl rfl ?_
  refine wk_aload_n (i := 0) (q := 253) dL_law_252 rfl rfl rfl ?_
  refine wk_iload_n (i := 3) (q := 254) dL_law_253 rfl rfl rfl ?_
  refine wk_iconst (q := 255) dL_law_254 rfl ?_
  refine wk_iadd (q := 256) dL_law_255 rfl ?_
  refine wk_sld (q := 257) dL_law_256 rfl (by omega) hL ?_
  refine wk_aload_n (i := 0) (q := 258) dL_law_257 rfl rfl rfl ?_
  refine wk_iload_n (i := 3) (q := 259) dL_law_258 rfl rfl rfl ?_
  refine wk_iconst (q := 260) dL_law_259 rfl ?_
  refine wk_iadd (q := 261) dL_law_260 rfl ?_
  refine wk_sld (q := 262) dL_law_261 rfl (by omega) hL ?_
  refine wk_cP2 (q := 265) dL_law_262 rfl vl_L_22 ⟨_, _, rfl⟩ hM.ob (om_ofDish hM h.2.1 (by first | exact sc_in _ | decide) (by first | exact sc_in _ | decide)) ⟨Nat.le_of_ble_eq_true rfl, Nat.le_of_ble_eq_true rfl, hk, hj⟩ (Nat.le_of_ble_eq_true rfl) (fun v262 hv262 => ?_)
  subst hv262
  refine wk_icmp_same (t := 1262) dL_law_265 rfl ?_
  exact K _ _ _ _ h
theorem lc_2 (hk : k ≤ 600000) (hj : j ≤ 7302250) (hL : N ≤ 3072) (h0 : 0 ≤ i) (h1 : i + 6 ≤ N) (h : LI E n sh x m I L R V) (K : ∀ I' L' R' V', LI E n sh x m I' L' R' V' → Wk l E (lwY E Q b N xs) mL k j 1262 [(0, .ref b), (1, .ref x), (2, .ref m), (3, .int (zI i))] [] (n, sh, I', L', R')) : Wk l E (lwY E Q b N xs) mL k j 270 [(0, .ref b), (1, .ref x), (2, .ref m), (3, .int (zI i))] [] (n, sh, I, L, R) := by
  have hX := h
  have hM := h.2.2.1
  refine wk_aload_n (i := 1) (q := 271) dL_law_270 rfl rfl rfl ?_
  refine wk_aload_n (i := 0) (q := 272) dL_law_271 rfl rfl rfl ?_
  refine wk_iload_n (i := 3) (q := 273) dL_law_272 rfl rfl rfl ?_
  refine wk_iconst (q := 274) dL_law_273 rfl ?_
  refine wk_iadd (q := 275) dL_law_274 rfl ?_
  refine wk_sld (q := 276) dL_law_275 rfl (by omega) hL ?_
  refine wk_aload_n (i := 0) (q := 277) dL_law_276 rfl rfl rfl ?_
  refine wk_iload_n (i := 3) (q := 278) dL_law_277 rfl rfl rfl ?_
  refine wk_iconst (q := 279) dL_law_278 rfl ?_
  refine wk_iadd (q := 280) dL_law_279 rfl ?_
  refine wk_sld (q := 281) dL_law_280 rfl (by omega) hL ?_
  refine wk_cP2 (q := 284) dL_law_281 rfl vl_L_23 ⟨_, _, rfl⟩ hX.ob (oc_ofGuest h.1 (by first | exact sc_in _ | decide) (by first | exact sc_in _ | decide)) ⟨Nat.le_of_ble_eq_true rfl, Nat.le_of_ble_eq_true rfl, hk, hj⟩ (Nat.le_of_ble_eq_true rfl) (fun v281 hv281 => ?_)
  subst hv281
  refine wk_aload_n (i := 2) (q := 285) dL_law_284 rfl rfl rfl ?_
  refine wk_aload_n (i := 0) (q := 286) dL_law_285 rfl rfl rfl ?_
  refine wk_iload_n (i := 3) (q := 287) dL_law_286 rfl rfl rfl ?_
  refine wk_iconst (q := 288) dL_law_287 rfl ?_
  refine wk_iadd (q := 289) dL_law_288 rfl ?_
  refine wk_sld (q := 290) dL_law_289 rfl (by omega) hL ?_
  refine wk_aload_n (i := 0) (q := 291) dL_law_290 rfl rfl rfl ?_
  refine wk_iload_n (i := 3) (q := 292) dL_law_291 rfl rfl rfl ?_
  refine wk_iconst (q := 293) dL_law_292 rfl ?_
  refine wk_iadd (q := 294) dL_law_293 rfl ?_
  refine wk_sld (q := 295) dL_law_294 rfl (by omega) hL ?_
  refine wk_cP2 (q := 298) dL_law_295 rfl vl_L_26 ⟨_, _, rfl⟩ hM.ob (om_ofGuest hM h.2.1 (by first | exact sc_in _ | decide) (by first | exact sc_in _ | decide)) ⟨Nat.le_of_ble_eq_true rfl, Nat.le_of_ble_eq_true rfl, hk, hj⟩ (Nat.le_of_ble_eq_true rfl) (fun v295 hv295 => ?_)
  subst hv295
  refine wk_icmp_same (t := 1262) dL_law_298 rfl ?_
  exact K _ _ _ _ h
theorem lc_3 (hk : k ≤ 600000) (hj : j ≤ 7302250) (hL : N ≤ 3072) (h0 : 0 ≤ i) (h1 : i + 6 ≤ N) (h : LI E n sh x m I L R V) (K : ∀ I' L' R' V', LI E n sh x m I' L' R' V' → Wk l E (lwY E Q b N xs) mL k j 1262 [(0, .ref b), (1, .ref x), (2, .ref m), (3, .int (zI i))] [] (n, sh, I', L', R')) : Wk l E (lwY E Q b N xs) mL k j 303 [(0, .ref b), (1, .ref x), (2, .ref m), (3, .int (zI i))] [] (n, sh, I, L, R) := by
  have hX := h
  have hM := h.2.2.1
  refine wk_aload_n (i := 1) (q := 304) dL_law_303 rfl rfl rfl ?_
  refine wk_aload_n (i := 0) (q := 305) dL_law_304 rfl rfl rfl ?_
  refine wk_iload_n (i := 3) (q := 306) dL_law_305 rfl rfl rfl ?_
  refine wk_iconst (q := 307) dL_law_306 rfl ?_
  refine wk_iadd (q := 308) dL_law_307 rfl ?_
  refine wk_sld (q := 309) dL_law_308 rfl (by omega) hL ?_
  refine wk_aload_n (i := 0) (q := 310) dL_law_309 rfl rfl rfl ?_
  refine wk_iload_n (i := 3) (q := 311) dL_law_310 rfl rfl rfl ?_
  refine wk_iconst (q := 312) dL_law_311 rfl ?_
  refine wk_iadd (q := 313) dL_law_312 rfl ?_
  refine wk_sld (q := 314) dL_law_313 rfl (by omega) hL ?_
  refine wk_aload_n (i := 0) (q := 315) dL_law_314 rfl rfl rfl ?_
  refine wk_iload_n (i := 3) (q := 316) dL_law_315 rfl rfl rfl ?_
  refine wk_iconst (q := 317) dL_law_316 rfl ?_
  refine wk_iadd (q := 318) dL_law_317 rfl ?_
  refine wk_sld (q := 319) dL_law_318 rfl (by omega) hL ?_
  refine wk_if_eq (t := 326) (q := 322) dL_law_319 rfl rfl (sc_in _) (fun hc319 => ?_) (fun hc319 => ?_)
  · refine wk_iconst (q := 327) dL_law_326 rfl ?_
    refine wk_cP3 (q := 330) dL_law_327 rfl vl_L_27 ⟨_, _, rfl⟩ hX.ob (oc_worth h.1 (by first | exact sc_in _ | decide) (by first | exact sc_in _ | decide) (by first | exact sc_in _ | decide)) ⟨Nat.le_of_ble_eq_true rfl, Nat.le_of_ble_eq_true rfl, hk, hj⟩ (Nat.le_of_ble_eq_true rfl) (fun v327 hv327 => ?_)
    subst hv327
    refine wk_aload_n (i := 2) (q := 331) dL_law_330 rfl rfl rfl ?_
    refine wk_aload_n (i := 0) (q := 332) dL_law_331 rfl rfl rfl ?_
    refine wk_iload_n (i := 3) (q := 333) dL_law_332 rfl rfl rfl ?_
    refine wk_iconst (q := 334) dL_law_333 rfl ?_
    refine wk_iadd (q := 335) dL_law_334 rfl ?_
    refine wk_sld (q := 336) dL_law_335 rfl (by omega) hL ?_
    refine wk_aload_n (i := 0) (q := 337) dL_law_336 rfl rfl rfl ?_
    refine wk_iload_n (i := 3) (q := 338) dL_law_337 rfl rfl rfl ?_
    refine wk_iconst (q := 339) dL_law_338 rfl ?_
    refine wk_iadd (q := 340) dL_law_339 rfl ?_
    refine wk_sld (q := 341) dL_law_340 rfl (by omega) hL ?_
    refine wk_aload_n (i := 0) (q := 342) dL_law_341 rfl rfl rfl ?_
    refine wk_iload_n (i := 3) (q := 343) dL_law_342 rfl rfl rfl ?_
    refine wk_iconst (q := 344) dL_law_343 rfl ?_
    refine wk_iadd (q := 345) dL_law_344 rfl ?_
    refine wk_sld (q := 346) dL_law_345 rfl (by omega) hL ?_
    refine wk_if_eq (t := 353) (q := 349) dL_law_346 rfl rfl (sc_in _) (fun hc346 => ?_) (fun hc346 => ?_)
    · refine wk_iconst (q := 354) dL_law_353 rfl ?_
      refine wk_cP3 (q := 357) dL_law_354 rfl vl_L_31 ⟨_, _, rfl⟩ hM.ob (om_worth hM h.2.1 (by first | exact sc_in _ | decide) (by first | exact sc_in _ | decide) (by first | exact sc_in _ | decide)) ⟨Nat.le_of_ble_eq_true rfl, Nat.le_of_ble_eq_true rfl, hk, hj⟩ (Nat.le_of_ble_eq_true rfl) (fun v354 hv354 => ?_)
      subst hv354
      first | exact absurd hc319 hc346 | exact absurd hc346 hc319 | skip
      all_goals (refine wk_icmp_same (t := 1262) dL_law_357 rfl ?_; exact K _ _ _ _ h)
    · refine wk_iconst (q := 350) dL_law_349 rfl ?_
      refine wk_goto (t := 354) dL_law_350 rfl ?_
      refine wk_cP3 (q := 357) dL_law_354 rfl vl_L_31 ⟨_, _, rfl⟩ hM.ob (om_worth hM h.2.1 (by first | exact sc_in _ | decide) (by first | exact sc_in _ | decide) (by first | exact sc_in _ | decide)) ⟨Nat.le_of_ble_eq_true rfl, Nat.le_of_ble_eq_true rfl, hk, hj⟩ (Nat.le_of_ble_eq_true rfl) (fun v354 hv354 => ?_)
      subst hv354
      first | exact absurd hc319 hc346 | exact absurd hc346 hc319 | skip
      all_goals (refine wk_icmp_same (t := 1262) dL_law_357 rfl ?_; exact K _ _ _ _ h)
  · refine wk_iconst (q := 323) dL_law_322 rfl ?_
    refine wk_goto (t := 327) dL_law_323 rfl ?_
    refine wk_cP3 (q := 330) dL_law_327 rfl vl_L_27 ⟨_, _, rfl⟩ hX.ob (oc_worth h.1 (by first | exact sc_in _ | decide) (by first | exact sc_in _ | decide) (by first | exact sc_in _ | decide)) ⟨Nat.le_of_ble_eq_true rfl, Nat.le_of_ble_eq_true rfl, hk, hj⟩ (Nat.le_of_ble_eq_true rfl) (fun v327 hv327 => ?_)
    subst hv327
    refine wk_aload_n (i := 2) (q := 331) dL_law_330 rfl rfl rfl ?_
    refine wk_aload_n (i := 0) (q := 332) dL_law_331 rfl rfl rfl ?_
    refine wk_iload_n (i := 3) (q := 333) dL_law_332 rfl rfl rfl ?_
    refine wk_iconst (q := 334) dL_law_333 rfl ?_
    refine wk_iadd (q := 335) dL_law_334 rfl ?_
    refine wk_sld (q := 336) dL_law_335 rfl (by omega) hL ?_
    refine wk_aload_n (i := 0) (q := 337) dL_law_336 rfl rfl rfl ?_
    refine wk_iload_n (i := 3) (q := 338) dL_law_337 rfl rfl rfl ?_
    refine wk_iconst (q := 339) dL_law_338 rfl ?_
    refine wk_iadd (q := 340) dL_law_339 rfl ?_
    refine wk_sld (q := 341) dL_law_340 rfl (by omega) hL ?_
    refine wk_aload_n (i := 0) (q := 342) dL_law_341 rfl rfl rfl ?_
    refine wk_iload_n (i := 3) (q := 343) dL_law_342 rfl rfl rfl ?_
    refine wk_iconst (q := 344) dL_law_343 rfl ?_
    refine wk_iadd (q := 345) dL_law_344 rfl ?_
    refine wk_sld (q := 346) dL_law_345 rfl (by omega) hL ?_
    refine wk_if_eq (t := 353) (q := 349) dL_law_346 rfl rfl (sc_in _) (fun hc346 => ?_) (fun hc346 => ?_)
    · refine wk_iconst (q := 354) dL_law_353 rfl ?_
      refine wk_cP3 (q := 357) dL_law_354 rfl vl_L_31 ⟨_, _, rfl⟩ hM.ob (om_worth hM h.2.1 (by first | exact sc_in _ | decide) (by first | exact sc_in _ | decide) (by first | exact sc_in _ | decide)) ⟨Nat.le_of_ble_eq_true rfl, Nat.le_of_ble_eq_true rfl, hk, hj⟩ (Nat.le_of_ble_eq_true rfl) (fun v354 hv354 => ?_)
      subst hv354
      first | exact absurd hc319 hc346 | exact absurd hc346 hc319 | skip
      all_goals (refine wk_icmp_same (t := 1262) dL_law_357 rfl ?_; exact K _ _ _ _ h)
    · refine wk_iconst (q := 350) dL_law_349 rfl ?_
      refine wk_goto (t := 354) dL_law_350 rfl ?_
      refine wk_cP3 (q := 357) dL_law_354 rfl vl_L_31 ⟨_, _, rfl⟩ hM.ob (om_worth hM h.2.1 (by first | exact sc_in _ | decide) (by first | exact sc_in _ | decide) (by first | exact sc_in _ | decide)) ⟨Nat.le_of_ble_eq_true rfl, Nat.le_of_ble_eq_true rfl, hk, hj⟩ (Nat.le_of_ble_eq_true rfl) (fun v354 hv354 => ?_)
      subst hv354
      first | exact absurd hc319 hc346 | exact absurd hc346 hc319 | skip
      all_goals (refine wk_icmp_same (t := 1262) dL_law_357 rfl ?_; exact K _ _ _ _ h)
theorem lc_4 (hk : k ≤ 600000) (hj : j ≤ 7302250) (hL : N ≤ 3072) (h0 : 0 ≤ i) (h1 : i + 6 ≤ N) (h : LI E n sh x m I L R V) (K : ∀ I' L' R' V', LI E n sh x m I' L' R' V' → Wk l E (lwY E Q b N xs) mL k j 1262 [(0, .ref b), (1, .ref x), (2, .ref m), (3, .int (zI i))] [] (n, sh, I', L', R')) : Wk l E (lwY E Q b N xs) mL k j 362 [(0, .ref b), (1, .ref x), (2, .ref m), (3, .int (zI i))] [] (n, sh, I, L, R) := by
  have hX := h
  have hM := h.2.2.1
  refine wk_aload_n (i := 1) (q := 363) dL_law_362 rfl rfl rfl ?_
  refine wk_aload_n (i := 0) (q := 364) dL_law_363 rfl rfl rfl ?_
  refine wk_iload_n (i := 3) (q := 365) dL_law_364 rfl rfl rfl ?_
  refine wk_iconst (q := 366) dL_law_365 rfl ?_
  refine wk_iadd (q := 367) dL_law_366 rfl ?_
  refine wk_sld (q := 368) dL_law_367 rfl (by omega) hL ?_
  refine wk_aload_n (i := 0) (q := 369) dL_law_368 rfl rfl rfl ?_
  refine wk_iload_n (i := 3) (q := 370) dL_law_369 rfl rfl rfl ?_
  refine wk_iconst (q := 371) dL_law_370 rfl ?_
  refine wk_iadd (q := 372) dL_law_371 rfl ?_
  refine wk_sld (q := 373) dL_law_372 rfl (by omega) hL ?_
  refine wk_aload_n (i := 0) (q := 374) dL_law_373 rfl rfl rfl ?_
  refine wk_iload_n (i := 3) (q := 375) dL_law_374 rfl rfl rfl ?_
  refine wk_iconst (q := 376) dL_law_375 rfl ?_
  refine wk_iadd (q := 377) dL_law_376 rfl ?_
  refine wk_sld (q := 378) dL_law_377 rfl (by omega) hL ?_
  refine wk_cZ3 (q := 381) dL_law_378 rfl vl_L_32 ⟨_, _, rfl⟩ hX.ob (oc_say h.1 (by first | exact sc_in _ | decide) (by first | exact sc_in _ | decide) (by first | exact sc_in _ | decide)) ⟨Nat.le_of_ble_eq_true rfl, Nat.le_of_ble_eq_true rfl, hk, hj⟩ (Nat.le_of_ble_eq_true rfl) (fun v378 I378 L378 R378 hv378 => ?_)
  obtain ⟨ea, hC, fI, fR⟩ := hv378
  have hM2 := h.2.1.frm h.2.2.2 fI
  have hQ := h.2.2.1.frm h.2.2.2 fR
  refine wk_aload_n (i := 2) (q := 382) dL_law_381 rfl rfl rfl ?_
  refine wk_aload_n (i := 0) (q := 383) dL_law_382 rfl rfl rfl ?_
  refine wk_iload_n (i := 3) (q := 384) dL_law_383 rfl rfl rfl ?_
  refine wk_iconst (q := 385) dL_law_384 rfl ?_
  refine wk_iadd (q := 386) dL_law_385 rfl ?_
  refine wk_sld (q := 387) dL_law_386 rfl (by omega) hL ?_
  refine wk_aload_n (i := 0) (q := 388) dL_law_387 rfl rfl rfl ?_
  refine wk_iload_n (i := 3) (q := 389) dL_law_388 rfl rfl rfl ?_
  refine wk_iconst (q := 390) dL_law_389 rfl ?_
  refine wk_iadd (q := 391) dL_law_390 rfl ?_
  refine wk_sld (q := 392) dL_law_391 rfl (by omega) hL ?_
  refine wk_aload_n (i := 0) (q := 393) dL_law_392 rfl rfl rfl ?_
  refine wk_iload_n (i := 3) (q := 394) dL_law_393 rfl rfl rfl ?_
  refine wk_iconst (q := 395) dL_law_394 rfl ?_
  refine wk_iadd (q := 396) dL_law_395 rfl ?_
  refine wk_sld (q := 397) dL_law_396 rfl (by omega) hL ?_
  refine wk_cZ3 (q := 400) dL_law_397 rfl vl_L_36 ⟨_, _, rfl⟩ hM.ob (om_say hQ hM2 (by first | exact sc_in _ | decide) (by first | exact sc_in _ | decide) (by first | exact sc_in _ | decide)) ⟨Nat.le_of_ble_eq_true rfl, Nat.le_of_ble_eq_true rfl, hk, hj⟩ (Nat.le_of_ble_eq_true rfl) (fun v397 I397 L397 R397 hv397 => ?_)
  obtain ⟨eb, hM3, gI, gL, gR⟩ := hv397
  subst ea eb
  have hN := h.step hC fR hM3 gI gL gR
  refine wk_icmp_same (t := 1262) dL_law_400 rfl ?_
  exact K _ _ _ _ hN
theorem lc_5 (hk : k ≤ 600000) (hj : j ≤ 7302250) (hL : N ≤ 3072) (h0 : 0 ≤ i) (h1 : i + 6 ≤ N) (h : LI E n sh x m I L R V) (K : ∀ I' L' R' V', LI E n sh x m I' L' R' V' → Wk l E (lwY E Q b N xs) mL k j 1262 [(0, .ref b), (1, .ref x), (2, .ref m), (3, .int (zI i))] [] (n, sh, I', L', R')) : Wk l E (lwY E Q b N xs) mL k j 405 [(0, .ref b), (1, .ref x), (2, .ref m), (3, .int (zI i))] [] (n, sh, I, L, R) := by
  have hX := h
  have hM := h.2.2.1
  refine wk_aload_n (i := 1) (q := 406) dL_law_405 rfl rfl rfl ?_
  refine wk_aload_n (i := 0) (q := 407) dL_law_406 rfl rfl rfl ?_
  refine wk_iload_n (i := 3) (q := 408) dL_law_407 rfl rfl rfl ?_
  refine wk_iconst (q := 409) dL_law_408 rfl ?_
  refine wk_iadd (q := 410) dL_law_409 rfl ?_
  refine wk_sld (q := 411) dL_law_410 rfl (by omega) hL ?_
  refine wk_aload_n (i := 0) (q := 412) dL_law_411 rfl rfl rfl ?_
  refine wk_iload_n (i := 3) (q := 413) dL_law_412 rfl rfl rfl ?_
  refine wk_iconst (q := 414) dL_law_413 rfl ?_
  refine wk_iadd (q := 415) dL_law_414 rfl ?_
  refine wk_sld (q := 416) dL_law_415 rfl (by omega) hL ?_
  refine wk_cZ2 (q := 419) dL_law_416 rfl vl_L_37 ⟨_, _, rfl⟩ hX.ob (oc_swap h.1 (by first | exact sc_in _ | decide) (by first | exact sc_in _ | decide)) ⟨Nat.le_of_ble_eq_true rfl, Nat.le_of_ble_eq_true rfl, hk, hj⟩ (Nat.le_of_ble_eq_true rfl) (fun v416 I416 L416 R416 hv416 => ?_)
  obtain ⟨ea, hC, fI, fR⟩ := hv416
  have hM2 := h.2.1.frm h.2.2.2 fI
  have hQ := h.2.2.1.frm h.2.2.2 fR
  refine wk_aload_n (i := 2) (q := 420) dL_law_419 rfl rfl rfl ?_
  refine wk_aload_n (i := 0) (q := 421) dL_law_420 rfl rfl rfl ?_
  refine wk_iload_n (i := 3) (q := 422) dL_law_421 rfl rfl rfl ?_
  refine wk_iconst (q := 423) dL_law_422 rfl ?_
  refine wk_iadd (q := 424) dL_law_423 rfl ?_
  refine wk_sld (q := 425) dL_law_424 rfl (by omega) hL ?_
  refine wk_aload_n (i := 0) (q := 426) dL_law_425 rfl rfl rfl ?_
  refine wk_iload_n (i := 3) (q := 427) dL_law_426 rfl rfl rfl ?_
  refine wk_iconst (q := 428) dL_law_427 rfl ?_
  refine wk_iadd (q := 429) dL_law_428 rfl ?_
  refine wk_sld (q := 430) dL_law_429 rfl (by omega) hL ?_
  refine wk_cZ2 (q := 433) dL_law_430 rfl vl_L_40 ⟨_, _, rfl⟩ hM.ob (om_swap hQ hM2 (by first | exact sc_in _ | decide) (by first | exact sc_in _ | decide)) ⟨Nat.le_of_ble_eq_true rfl, Nat.le_of_ble_eq_true rfl, hk, hj⟩ (Nat.le_of_ble_eq_true rfl) (fun v430 I430 L430 R430 hv430 => ?_)
  obtain ⟨eb, hM3, gI, gL, gR⟩ := hv430
  subst ea eb
  have hN := h.step hC fR hM3 gI gL gR
  refine wk_icmp_same (t := 1262) dL_law_433 rfl ?_
  exact K _ _ _ _ hN
theorem lc_6 (hk : k ≤ 600000) (hj : j ≤ 7302250) (hL : N ≤ 3072) (h0 : 0 ≤ i) (h1 : i + 6 ≤ N) (h : LI E n sh x m I L R V) (K : ∀ I' L' R' V', LI E n sh x m I' L' R' V' → Wk l E (lwY E Q b N xs) mL k j 1262 [(0, .ref b), (1, .ref x), (2, .ref m), (3, .int (zI i))] [] (n, sh, I', L', R')) : Wk l E (lwY E Q b N xs) mL k j 438 [(0, .ref b), (1, .ref x), (2, .ref m), (3, .int (zI i))] [] (n, sh, I, L, R) := by
  have hX := h
  have hM := h.2.2.1
  refine wk_aload_n (i := 1) (q := 439) dL_law_438 rfl rfl rfl ?_
  refine wk_aload_n (i := 0) (q := 440) dL_law_439 rfl rfl rfl ?_
  refine wk_iload_n (i := 3) (q := 441) dL_law_440 rfl rfl rfl ?_
  refine wk_iconst (q := 442) dL_law_441 rfl ?_
  refine wk_iadd (q := 443) dL_law_442 rfl ?_
  refine wk_sld (q := 444) dL_law_443 rfl (by omega) hL ?_
  refine wk_cZ1 (q := 447) dL_law_444 rfl vl_L_41 ⟨_, _, rfl⟩ hX.ob (oc_step h.1 (by first | exact sc_in _ | decide)) ⟨Nat.le_of_ble_eq_true rfl, Nat.le_of_ble_eq_true rfl, hk, hj⟩ (Nat.le_of_ble_eq_true rfl) (fun v444 I444 L444 R444 hv444 => ?_)
  obtain ⟨ea, hC, fI, fR⟩ := hv444
  have hM2 := h.2.1.frm h.2.2.2 fI
  have hQ := h.2.2.1.frm h.2.2.2 fR
  refine wk_aload_n (i := 2) (q := 448) dL_law_447 rfl rfl rfl ?_
  refine wk_aload_n (i := 0) (q := 449) dL_law_448 rfl rfl rfl ?_
  refine wk_iload_n (i := 3) (q := 450) dL_law_449 rfl rfl rfl ?_
  refine wk_iconst (q := 451) dL_law_450 rfl ?_
  refine wk_iadd (q := 452) dL_law_451 rfl ?_
  refine wk_sld (q := 453) dL_law_452 rfl (by omega) hL ?_
  refine wk_cZ1 (q := 456) dL_law_453 rfl vl_L_45 ⟨_, _, rfl⟩ hM.ob (om_step hQ hM2 (by first | exact sc_in _ | decide)) ⟨Nat.le_of_ble_eq_true rfl, Nat.le_of_ble_eq_true rfl, hk, hj⟩ (Nat.le_of_ble_eq_true rfl) (fun v453 I453 L453 R453 hv453 => ?_)
  obtain ⟨eb, hM3, gI, gL, gR⟩ := hv453
  subst ea eb
  have hN := h.step hC fR hM3 gI gL gR
  refine wk_icmp_same (t := 1262) dL_law_456 rfl ?_
  exact K _ _ _ _ hN
theorem lc_7 (hk : k ≤ 600000) (hj : j ≤ 7302250) (hL : N ≤ 3072) (h0 : 0 ≤ i) (h1 : i + 6 ≤ N) (h : LI E n sh x m I L R V) (K : ∀ I' L' R' V', LI E n sh x m I' L' R' V' → Wk l E (lwY E Q b N xs) mL k j 1262 [(0, .ref b), (1, .ref x), (2, .ref m), (3, .int (zI i))] [] (n, sh, I', L', R')) : Wk l E (lwY E Q b N xs) mL k j 461 [(0, .ref b), (1, .ref x), (2, .ref m), (3, .int (zI i))] [] (n, sh, I, L, R) := by
  have hX := h
  have hM := h.2.2.1
  refine wk_aload_n (i := 1) (q := 462) dL_law_461 rfl rfl rfl ?_
  refine wk_aload_n (i := 0) (q := 463) dL_law_462 rfl rfl rfl ?_
  refine wk_iload_n (i := 3) (q := 464) dL_law_463 rfl rfl rfl ?_
  refine wk_iconst (q := 465) dL_law_464 rfl ?_
  refine wk_iadd (q := 466) dL_law_465 rfl ?_
  refine wk_sld (q := 467) dL_law_466 rfl (by omega) hL ?_
  refine wk_cZ1 (q := 470) dL_law_467 rfl vl_L_46 ⟨_, _, rfl⟩ hX.ob (oc_courses h.1 (by first | exact sc_in _ | decide)) ⟨Nat.le_of_ble_eq_true rfl, Nat.le_of_ble_eq_true rfl, hk, hj⟩ (Nat.le_of_ble_eq_true rfl) (fun v467 I467 L467 R467 hv467 => ?_)
  obtain ⟨ea, hC, fI, fR⟩ := hv467
  have hM2 := h.2.1.frm h.2.2.2 fI
  have hQ := h.2.2.1.frm h.2.2.2 fR
  refine wk_aload_n (i := 2) (q := 471) dL_law_470 rfl rfl rfl ?_
  refine wk_aload_n (i := 0) (q := 472) dL_law_471 rfl rfl rfl ?_
  refine wk_iload_n (i := 3) (q := 473) dL_law_472 rfl rfl rfl ?_
  refine wk_iconst (q := 474) dL_law_473 rfl ?_
  refine wk_iadd (q := 475) dL_law_474 rfl ?_
  refine wk_sld (q := 476) dL_law_475 rfl (by omega) hL ?_
  refine wk_cZ1 (q := 479) dL_law_476 rfl vl_L_49 ⟨_, _, rfl⟩ hM.ob (om_courses hQ hM2 (by first | exact sc_in _ | decide)) ⟨Nat.le_of_ble_eq_true rfl, Nat.le_of_ble_eq_true rfl, hk, hj⟩ (Nat.le_of_ble_eq_true rfl) (fun v476 I476 L476 R476 hv476 => ?_)
  obtain ⟨eb, hM3, gI, gL, gR⟩ := hv476
  subst ea eb
  have hN := h.step hC fR hM3 gI gL gR
  refine wk_icmp_same (t := 1262) dL_law_479 rfl ?_
  exact K _ _ _ _ hN
theorem lc_8 (hk : k ≤ 600000) (hj : j ≤ 7302250) (hL : N ≤ 3072) (h0 : 0 ≤ i) (h1 : i + 6 ≤ N) (h : LI E n sh x m I L R V) (K : ∀ I' L' R' V', LI E n sh x m I' L' R' V' → Wk l E (lwY E Q b N xs) mL k j 1262 [(0, .ref b), (1, .ref x), (2, .ref m), (3, .int (zI i))] [] (n, sh, I', L', R')) : Wk l E (lwY E Q b N xs) mL k j 484 [(0, .ref b), (1, .ref x), (2, .ref m), (3, .int (zI i))] [] (n, sh, I, L, R) := by
  have hX := h
  have hM := h.2.2.1
  refine wk_aload_n (i := 1) (q := 485) dL_law_484 rfl rfl rfl ?_
  refine wk_cZ0 (q := 488) dL_law_485 rfl vl_L_50 ⟨_, _, rfl⟩ hX.ob (oc_dine h.1 ) ⟨Nat.le_of_ble_eq_true rfl, Nat.le_of_ble_eq_true rfl, hk, hj⟩ (Nat.le_of_ble_eq_true rfl) (fun v485 I485 L485 R485 hv485 => ?_)
  obtain ⟨ea, hC, fI, fR⟩ := hv485
  have hM2 := h.2.1.frm h.2.2.2 fI
  have hQ := h.2.2.1.frm h.2.2.2 fR
  refine wk_aload_n (i := 2) (q := 489) dL_law_488 rfl rfl rfl ?_
  refine wk_cZ0 (q := 492) dL_law_489 rfl vl_L_54 ⟨_, _, rfl⟩ hM.ob (om_dine hQ hM2 ) ⟨Nat.le_of_ble_eq_true rfl, Nat.le_of_ble_eq_true rfl, hk, hj⟩ (Nat.le_of_ble_eq_true rfl) (fun v489 I489 L489 R489 hv489 => ?_)
  obtain ⟨eb, hM3, gI, gL, gR⟩ := hv489
  subst ea eb
  have hN := h.step hC fR hM3 gI gL gR
  refine wk_icmp_same (t := 1262) dL_law_492 rfl ?_
  exact K _ _ _ _ hN
theorem lc_9 (hk : k ≤ 600000) (hj : j ≤ 7302250) (hL : N ≤ 3072) (h0 : 0 ≤ i) (h1 : i + 6 ≤ N) (h : LI E n sh x m I L R V) (K : ∀ I' L' R' V', LI E n sh x m I' L' R' V' → Wk l E (lwY E Q b N xs) mL k j 1262 [(0, .ref b), (1, .ref x), (2, .ref m), (3, .int (zI i))] [] (n, sh, I', L', R')) : Wk l E (lwY E Q b N xs) mL k j 497 [(0, .ref b), (1, .ref x), (2, .ref m), (3, .int (zI i))] [] (n, sh, I, L, R) := by
  have hX := h
  have hM := h.2.2.1
  refine wk_aload_n (i := 1) (q := 498) dL_law_497 rfl rfl rfl ?_
  refine wk_cZ0 (q := 501) dL_law_498 rfl vl_L_55 ⟨_, _, rfl⟩ hX.ob (oc_forget h.1 ) ⟨Nat.le_of_ble_eq_true rfl, Nat.le_of_ble_eq_true rfl, hk, hj⟩ (Nat.le_of_ble_eq_true rfl) (fun v498 I498 L498 R498 hv498 => ?_)
  obtain ⟨ea, hC, fI, fR⟩ := hv498
  have hM2 := h.2.1.frm h.2.2.2 fI
  have hQ := h.2.2.1.frm h.2.2.2 fR
  refine wk_aload_n (i := 2) (q := 502) dL_law_501 rfl rfl rfl ?_
  refine wk_cZ0 (q := 505) dL_law_502 rfl vl_L_58 ⟨_, _, rfl⟩ hM.ob (om_forget hQ hM2 ) ⟨Nat.le_of_ble_eq_true rfl, Nat.le_of_ble_eq_true rfl, hk, hj⟩ (Nat.le_of_ble_eq_true rfl) (fun v502 I502 L502 R502 hv502 => ?_)
  obtain ⟨eb, hM3, gI, gL, gR⟩ := hv502
  subst ea eb
  have hN := h.step hC fR hM3 gI gL gR
  refine wk_icmp_same (t := 1262) dL_law_505 rfl ?_
  exact K _ _ _ _ hN
theorem lc_10 (hk : k ≤ 600000) (hj : j ≤ 7302250) (hL : N ≤ 3072) (h0 : 0 ≤ i) (h1 : i + 6 ≤ N) (h : LI E n sh x m I L R V) (K : ∀ I' L' R' V', LI E n sh x m I' L' R' V' → Wk l E (lwY E Q b N xs) mL k j 1262 [(0, .ref b), (1, .ref x), (2, .ref m), (3, .int (zI i))] [] (n, sh, I', L', R')) : Wk l E (lwY E Q b N xs) mL k j 510 [(0, .ref b), (1, .ref x), (2, .ref m), (3, .int (zI i))] [] (n, sh, I, L, R) := by
  have hX := h
  have hM := h.2.2.1
  refine wk_aload_n (i := 1) (q := 511) dL_law_510 rfl rfl rfl ?_
  refine wk_aload_n (i := 0) (q := 512) dL_law_511 rfl rfl rfl ?_
  refine wk_iload_n (i := 3) (q := 513) dL_law_512 rfl rfl rfl ?_
  refine wk_iconst (q := 514) dL_law_513 rfl ?_
  refine wk_iadd (q := 515) dL_law_514 rfl ?_
  refine wk_sld (q := 516) dL_law_515 rfl (by omega) hL ?_
  refine wk_aload_n (i := 0) (q := 517) dL_law_516 rfl rfl rfl ?_
  refine wk_iload_n (i := 3) (q := 518) dL_law_517 rfl rfl rfl ?_
  refine wk_iconst (q := 519) dL_law_518 rfl ?_
  refine wk_iadd (q := 520) dL_law_519 rfl ?_
  refine wk_sld (q := 521) dL_law_520 rfl (by omega) hL ?_
  refine wk_cZ2 (q := 524) dL_law_521 rfl vl_L_59 ⟨_, _, rfl⟩ hX.ob (oc_gets h.1 (by first | exact sc_in _ | decide) (by first | exact sc_in _ | decide)) ⟨Nat.le_of_ble_eq_true rfl, Nat.le_of_ble_eq_true rfl, hk, hj⟩ (Nat.le_of_ble_eq_true rfl) (fun v521 I521 L521 R521 hv521 => ?_)
  obtain ⟨ea, hC, fI, fR⟩ := hv521
  have hM2 := h.2.1.frm h.2.2.2 fI
  have hQ := h.2.2.1.frm h.2.2.2 fR
  refine wk_aload_n (i := 2) (q := 525) dL_law_524 rfl rfl rfl ?_
  refine wk_aload_n (i := 0) (q := 526) dL_law_525 rfl rfl rfl ?_
  refine wk_iload_n (i := 3) (q := 527) dL_law_526 rfl rfl rfl ?_
  refine wk_iconst (q := 528) dL_law_527 rfl ?_
  refine wk_iadd (q := 529) dL_law_528 rfl ?_
  refine wk_sld (q := 530) dL_law_529 rfl (by omega) hL ?_
  refine wk_aload_n (i := 0) (q := 531) dL_law_530 rfl rfl rfl ?_
  refine wk_iload_n (i := 3) (q := 532) dL_law_531 rfl rfl rfl ?_
  refine wk_iconst (q := 533) dL_law_532 rfl ?_
  refine wk_iadd (q := 534) dL_law_533 rfl ?_
  refine wk_sld (q := 535) dL_law_534 rfl (by omega) hL ?_
  refine wk_cZ2 (q := 538) dL_law_535 rfl vl_L_62 ⟨_, _, rfl⟩ hM.ob (om_gets hQ hM2 (by first | exact sc_in _ | decide) (by first | exact sc_in _ | decide)) ⟨Nat.le_of_ble_eq_true rfl, Nat.le_of_ble_eq_true rfl, hk, hj⟩ (Nat.le_of_ble_eq_true rfl) (fun v535 I535 L535 R535 hv535 => ?_)
  obtain ⟨eb, hM3, gI, gL, gR⟩ := hv535
  subst ea eb
  have hN := h.step hC fR hM3 gI gL gR
  refine wk_icmp_same (t := 1262) dL_law_538 rfl ?_
  exact K _ _ _ _ hN
theorem lc_11 (hk : k ≤ 600000) (hj : j ≤ 7302250) (hL : N ≤ 3072) (h0 : 0 ≤ i) (h1 : i + 6 ≤ N) (h : LI E n sh x m I L R V) (K : ∀ I' L' R' V', LI E n sh x m I' L' R' V' → Wk l E (lwY E Q b N xs) mL k j 1262 [(0, .ref b), (1, .ref x), (2, .ref m), (3, .int (zI i))] [] (n, sh, I', L', R')) : Wk l E (lwY E Q b N xs) mL k j 543 [(0, .ref b), (1, .ref x), (2, .ref m), (3, .int (zI i))] [] (n, sh, I, L, R) := by
  have hX := h
  have hM := h.2.2.1
  refine wk_aload_n (i := 1) (q := 544) dL_law_543 rfl rfl rfl ?_
  refine wk_aload_n (i := 0) (q := 545) dL_law_544 rfl rfl rfl ?_
  refine wk_iload_n (i := 3) (q := 546) dL_law_545 rfl rfl rfl ?_
  refine wk_iconst (q := 547) dL_law_546 rfl ?_
  refine wk_iadd (q := 548) dL_law_547 rfl ?_
  refine wk_sld (q := 549) dL_law_548 rfl (by omega) hL ?_
  refine wk_cZ1 (q := 552) dL_law_549 rfl vl_L_63 ⟨_, _, rfl⟩ hX.ob (oc_glad h.1 (by first | exact sc_in _ | decide)) ⟨Nat.le_of_ble_eq_true rfl, Nat.le_of_ble_eq_true rfl, hk, hj⟩ (Nat.le_of_ble_eq_true rfl) (fun v549 I549 L549 R549 hv549 => ?_)
  obtain ⟨ea, hC, fI, fR⟩ := hv549
  have hM2 := h.2.1.frm h.2.2.2 fI
  have hQ := h.2.2.1.frm h.2.2.2 fR
  refine wk_aload_n (i := 2) (q := 553) dL_law_552 rfl rfl rfl ?_
  refine wk_aload_n (i := 0) (q := 554) dL_law_553 rfl rfl rfl ?_
  refine wk_iload_n (i := 3) (q := 555) dL_law_554 rfl rfl rfl ?_
  refine wk_iconst (q := 556) dL_law_555 rfl ?_
  refine wk_iadd (q := 557) dL_law_556 rfl ?_
  refine wk_sld (q := 558) dL_law_557 rfl (by omega) hL ?_
  refine wk_cZ1 (q := 561) dL_law_558 rfl vl_L_66 ⟨_, _, rfl⟩ hM.ob (om_glad hQ hM2 (by first | exact sc_in _ | decide)) ⟨Nat.le_of_ble_eq_true rfl, Nat.le_of_ble_eq_true rfl, hk, hj⟩ (Nat.le_of_ble_eq_true rfl) (fun v558 I558 L558 R558 hv558 => ?_)
  obtain ⟨eb, hM3, gI, gL, gR⟩ := hv558
  subst ea eb
  have hN := h.step hC fR hM3 gI gL gR
  refine wk_icmp_same (t := 1262) dL_law_561 rfl ?_
  exact K _ _ _ _ hN
theorem lc_12 (hk : k ≤ 600000) (hj : j ≤ 7302250) (hL : N ≤ 3072) (h0 : 0 ≤ i) (h1 : i + 6 ≤ N) (h : LI E n sh x m I L R V) (K : ∀ I' L' R' V', LI E n sh x m I' L' R' V' → Wk l E (lwY E Q b N xs) mL k j 1262 [(0, .ref b), (1, .ref x), (2, .ref m), (3, .int (zI i))] [] (n, sh, I', L', R')) : Wk l E (lwY E Q b N xs) mL k j 566 [(0, .ref b), (1, .ref x), (2, .ref m), (3, .int (zI i))] [] (n, sh, I, L, R) := by
  have hX := h
  have hM := h.2.2.1
  refine wk_aload_n (i := 1) (q := 567) dL_law_566 rfl rfl rfl ?_
  refine wk_aload_n (i := 0) (q := 568) dL_law_567 rfl rfl rfl ?_
  refine wk_iload_n (i := 3) (q := 569) dL_law_568 rfl rfl rfl ?_
  refine wk_iconst (q := 570) dL_law_569 rfl ?_
  refine wk_iadd (q := 571) dL_law_570 rfl ?_
  refine wk_sld (q := 572) dL_law_571 rfl (by omega) hL ?_
  refine wk_aload_n (i := 0) (q := 573) dL_law_572 rfl rfl rfl ?_
  refine wk_iload_n (i := 3) (q := 574) dL_law_573 rfl rfl rfl ?_
  refine wk_iconst (q := 575) dL_law_574 rfl ?_
  refine wk_iadd (q := 576) dL_law_575 rfl ?_
  refine wk_sld (q := 577) dL_law_576 rfl (by omega) hL ?_
  refine wk_if_eq (t := 584) (q := 580) dL_law_577 rfl rfl (sc_in _) (fun hc577 => ?_) (fun hc577 => ?_)
  · refine wk_iconst (q := 585) dL_law_584 rfl ?_
    refine wk_aload_n (i := 0) (q := 586) dL_law_585 rfl rfl rfl ?_
    refine wk_iload_n (i := 3) (q := 587) dL_law_586 rfl rfl rfl ?_
    refine wk_iconst (q := 588) dL_law_587 rfl ?_
    refine wk_iadd (q := 589) dL_law_588 rfl ?_
    refine wk_sld (q := 590) dL_law_589 rfl (by omega) hL ?_
    refine wk_cJ3 (q := 593) dL_law_590 rfl vl_L_67 ⟨_, _, rfl⟩ hX.ob (oc_pays h.1 (by first | exact sc_in _ | decide) (by first | exact sc_in _ | decide) (by first | exact sc_in _ | decide)) ⟨Nat.le_of_ble_eq_true rfl, Nat.le_of_ble_eq_true rfl, hk, hj⟩ (Nat.le_of_ble_eq_true rfl) (fun v590 I590 L590 R590 hv590 => ?_)
    obtain ⟨ea, hC, fI, fR⟩ := hv590
    have hM2 := h.2.1.frm h.2.2.2 fI
    have hQ := h.2.2.1.frm h.2.2.2 fR
    refine wk_aload_n (i := 2) (q := 594) dL_law_593 rfl rfl rfl ?_
    refine wk_aload_n (i := 0) (q := 595) dL_law_594 rfl rfl rfl ?_
    refine wk_iload_n (i := 3) (q := 596) dL_law_595 rfl rfl rfl ?_
    refine wk_iconst (q := 597) dL_law_596 rfl ?_
    refine wk_iadd (q := 598) dL_law_597 rfl ?_
    refine wk_sld (q := 599) dL_law_598 rfl (by omega) hL ?_
    refine wk_aload_n (i := 0) (q := 600) dL_law_599 rfl rfl rfl ?_
    refine wk_iload_n (i := 3) (q := 601) dL_law_600 rfl rfl rfl ?_
    refine wk_iconst (q := 602) dL_law_601 rfl ?_
    refine wk_iadd (q := 603) dL_law_602 rfl ?_
    refine wk_sld (q := 604) dL_law_603 rfl (by omega) hL ?_
    refine wk_if_eq (t := 611) (q := 607) dL_law_604 rfl rfl (sc_in _) (fun hc604 => ?_) (fun hc604 => ?_)
    · refine wk_iconst (q := 612) dL_law_611 rfl ?_
      refine wk_aload_n (i := 0) (q := 613) dL_law_612 rfl rfl rfl ?_
      refine wk_iload_n (i := 3) (q := 614) dL_law_613 rfl rfl rfl ?_
      refine wk_iconst (q := 615) dL_law_614 rfl ?_
      refine wk_iadd (q := 616) dL_law_615 rfl ?_
      refine wk_sld (q := 617) dL_law_616 rfl (by omega) hL ?_
      refine wk_cJ3 (q := 620) dL_law_617 rfl vl_L_71 ⟨_, _, rfl⟩ hM.ob (om_pays hQ hM2 (by first | exact sc_in _ | decide) (by first | exact sc_in _ | decide) (by first | exact sc_in _ | decide)) ⟨Nat.le_of_ble_eq_true rfl, Nat.le_of_ble_eq_true rfl, hk, hj⟩ (Nat.le_of_ble_eq_true rfl) (fun v617 I617 L617 R617 hv617 => ?_)
      obtain ⟨eb, hM3, gI, gL, gR⟩ := hv617
      subst ea eb
      have hN := h.step hC fR hM3 gI gL gR
      first | exact absurd hc577 hc604 | exact absurd hc604 hc577 | skip
      all_goals (refine wk_lcmp_same (q := 621) dL_law_620 rfl ?_; refine wk_if_eq (t := 1262) (q := 624) dL_law_621 rfl rfl (by decide) (fun _ => ?_) (fun z => absurd rfl z); exact K _ _ _ _ hN)
    · refine wk_iconst (q := 608) dL_law_607 rfl ?_
      refine wk_goto (t := 612) dL_law_608 rfl ?_
      refine wk_aload_n (i := 0) (q := 613) dL_law_612 rfl rfl rfl ?_
      refine wk_iload_n (i := 3) (q := 614) dL_law_613 rfl rfl rfl ?_
      refine wk_iconst (q := 615) dL_law_614 rfl ?_
      refine wk_iadd (q := 616) dL_law_615 rfl ?_
      refine wk_sld (q := 617) dL_law_616 rfl (by omega) hL ?_
      refine wk_cJ3 (q := 620) dL_law_617 rfl vl_L_71 ⟨_, _, rfl⟩ hM.ob (om_pays hQ hM2 (by first | exact sc_in _ | decide) (by first | exact sc_in _ | decide) (by first | exact sc_in _ | decide)) ⟨Nat.le_of_ble_eq_true rfl, Nat.le_of_ble_eq_true rfl, hk, hj⟩ (Nat.le_of_ble_eq_true rfl) (fun v617 I617 L617 R617 hv617 => ?_)
      obtain ⟨eb, hM3, gI, gL, gR⟩ := hv617
      subst ea eb
      have hN := h.step hC fR hM3 gI gL gR
      first | exact absurd hc577 hc604 | exact absurd hc604 hc577 | skip
      all_goals (refine wk_lcmp_same (q := 621) dL_law_620 rfl ?_; refine wk_if_eq (t := 1262) (q := 624) dL_law_621 rfl rfl (by decide) (fun _ => ?_) (fun z => absurd rfl z); exact K _ _ _ _ hN)
  · refine wk_iconst (q := 581) dL_law_580 rfl ?_
    refine wk_goto (t := 585) dL_law_581 rfl ?_
    refine wk_aload_n (i := 0) (q := 586) dL_law_585 rfl rfl rfl ?_
    refine wk_iload_n (i := 3) (q := 587) dL_law_586 rfl rfl rfl ?_
    refine wk_iconst (q := 588) dL_law_587 rfl ?_
    refine wk_iadd (q := 589) dL_law_588 rfl ?_
    refine wk_sld (q := 590) dL_law_589 rfl (by omega) hL ?_
    refine wk_cJ3 (q := 593) dL_law_590 rfl vl_L_67 ⟨_, _, rfl⟩ hX.ob (oc_pays h.1 (by first | exact sc_in _ | decide) (by first | exact sc_in _ | decide) (by first | exact sc_in _ | decide)) ⟨Nat.le_of_ble_eq_true rfl, Nat.le_of_ble_eq_true rfl, hk, hj⟩ (Nat.le_of_ble_eq_true rfl) (fun v590 I590 L590 R590 hv590 => ?_)
    obtain ⟨ea, hC, fI, fR⟩ := hv590
    have hM2 := h.2.1.frm h.2.2.2 fI
    have hQ := h.2.2.1.frm h.2.2.2 fR
    refine wk_aload_n (i := 2) (q := 594) dL_law_593 rfl rfl rfl ?_
    refine wk_aload_n (i := 0) (q := 595) dL_law_594 rfl rfl rfl ?_
    refine wk_iload_n (i := 3) (q := 596) dL_law_595 rfl rfl rfl ?_
    refine wk_iconst (q := 597) dL_law_596 rfl ?_
    refine wk_iadd (q := 598) dL_law_597 rfl ?_
    refine wk_sld (q := 599) dL_law_598 rfl (by omega) hL ?_
    refine wk_aload_n (i := 0) (q := 600) dL_law_599 rfl rfl rfl ?_
    refine wk_iload_n (i := 3) (q := 601) dL_law_600 rfl rfl rfl ?_
    refine wk_iconst (q := 602) dL_law_601 rfl ?_
    refine wk_iadd (q := 603) dL_law_602 rfl ?_
    refine wk_sld (q := 604) dL_law_603 rfl (by omega) hL ?_
    refine wk_if_eq (t := 611) (q := 607) dL_law_604 rfl rfl (sc_in _) (fun hc604 => ?_) (fun hc604 => ?_)
    · refine wk_iconst (q := 612) dL_law_611 rfl ?_
      refine wk_aload_n (i := 0) (q := 613) dL_law_612 rfl rfl rfl ?_
      refine wk_iload_n (i := 3) (q := 614) dL_law_613 rfl rfl rfl ?_
      refine wk_iconst (q := 615) dL_law_614 rfl ?_
      refine wk_iadd (q := 616) dL_law_615 rfl ?_
      refine wk_sld (q := 617) dL_law_616 rfl (by omega) hL ?_
      refine wk_cJ3 (q := 620) dL_law_617 rfl vl_L_71 ⟨_, _, rfl⟩ hM.ob (om_pays hQ hM2 (by first | exact sc_in _ | decide) (by first | exact sc_in _ | decide) (by first | exact sc_in _ | decide)) ⟨Nat.le_of_ble_eq_true rfl, Nat.le_of_ble_eq_true rfl, hk, hj⟩ (Nat.le_of_ble_eq_true rfl) (fun v617 I617 L617 R617 hv617 => ?_)
      obtain ⟨eb, hM3, gI, gL, gR⟩ := hv617
      subst ea eb
      have hN := h.step hC fR hM3 gI gL gR
      first | exact absurd hc577 hc604 | exact absurd hc604 hc577 | skip
      all_goals (refine wk_lcmp_same (q := 621) dL_law_620 rfl ?_; refine wk_if_eq (t := 1262) (q := 624) dL_law_621 rfl rfl (by decide) (fun _ => ?_) (fun z => absurd rfl z); exact K _ _ _ _ hN)
    · refine wk_iconst (q := 608) dL_law_607 rfl ?_
      refine wk_goto (t := 612) dL_law_608 rfl ?_
      refine wk_aload_n (i := 0) (q := 613) dL_law_612 rfl rfl rfl ?_
      refine wk_iload_n (i := 3) (q := 614) dL_law_613 rfl rfl rfl ?_
      refine wk_iconst (q := 615) dL_law_614 rfl ?_
      refine wk_iadd (q := 616) dL_law_615 rfl ?_
      refine wk_sld (q := 617) dL_law_616 rfl (by omega) hL ?_
      refine wk_cJ3 (q := 620) dL_law_617 rfl vl_L_71 ⟨_, _, rfl⟩ hM.ob (om_pays hQ hM2 (by first | exact sc_in _ | decide) (by first | exact sc_in _ | decide) (by first | exact sc_in _ | decide)) ⟨Nat.le_of_ble_eq_true rfl, Nat.le_of_ble_eq_true rfl, hk, hj⟩ (Nat.le_of_ble_eq_true rfl) (fun v617 I617 L617 R617 hv617 => ?_)
      obtain ⟨eb, hM3, gI, gL, gR⟩ := hv617
      subst ea eb
      have hN := h.step hC fR hM3 gI gL gR
      first | exact absurd hc577 hc604 | exact absurd hc604 hc577 | skip
      all_goals (refine wk_lcmp_same (q := 621) dL_law_620 rfl ?_; refine wk_if_eq (t := 1262) (q := 624) dL_law_621 rfl rfl (by decide) (fun _ => ?_) (fun z => absurd rfl z); exact K _ _ _ _ hN)
theorem lc_13 (hk : k ≤ 600000) (hj : j ≤ 7302250) (hL : N ≤ 3072) (h0 : 0 ≤ i) (h1 : i + 6 ≤ N) (h : LI E n sh x m I L R V) (K : ∀ I' L' R' V', LI E n sh x m I' L' R' V' → Wk l E (lwY E Q b N xs) mL k j 1262 [(0, .ref b), (1, .ref x), (2, .ref m), (3, .int (zI i))] [] (n, sh, I', L', R')) : Wk l E (lwY E Q b N xs) mL k j 626 [(0, .ref b), (1, .ref x), (2, .ref m), (3, .int (zI i))] [] (n, sh, I, L, R) := by
  have hX := h
  have hM := h.2.2.1
  refine wk_aload_n (i := 1) (q := 627) dL_law_626 rfl rfl rfl ?_
  refine wk_aload_n (i := 0) (q := 628) dL_law_627 rfl rfl rfl ?_
  refine wk_iload_n (i := 3) (q := 629) dL_law_628 rfl rfl rfl ?_
  refine wk_iconst (q := 630) dL_law_629 rfl ?_
  refine wk_iadd (q := 631) dL_law_630 rfl ?_
  refine wk_sld (q := 632) dL_law_631 rfl (by omega) hL ?_
  refine wk_aload_n (i := 0) (q := 633) dL_law_632 rfl rfl rfl ?_
  refine wk_iload_n (i := 3) (q := 634) dL_law_633 rfl rfl rfl ?_
  refine wk_iconst (q := 635) dL_law_634 rfl ?_
  refine wk_iadd (q := 636) dL_law_635 rfl ?_
  refine wk_sld (q := 637) dL_law_636 rfl (by omega) hL ?_
  refine wk_aload_n (i := 0) (q := 638) dL_law_637 rfl rfl rfl ?_
  refine wk_iload_n (i := 3) (q := 639) dL_law_638 rfl rfl rfl ?_
  refine wk_iconst (q := 640) dL_law_639 rfl ?_
  refine wk_iadd (q := 641) dL_law_640 rfl ?_
  refine wk_sld (q := 642) dL_law_641 rfl (by omega) hL ?_
  refine wk_aload_n (i := 0) (q := 643) dL_law_642 rfl rfl rfl ?_
  refine wk_iload_n (i := 3) (q := 644) dL_law_643 rfl rfl rfl ?_
  refine wk_iconst (q := 645) dL_law_644 rfl ?_
  refine wk_iadd (q := 646) dL_law_645 rfl ?_
  refine wk_sld (q := 647) dL_law_646 rfl (by omega) hL ?_
  refine wk_cZ4 (q := 650) dL_law_647 rfl vl_L_72 ⟨_, _, rfl⟩ hX.ob (oc_judge h.1 (by first | exact sc_in _ | decide) (by first | exact sc_in _ | decide) (by first | exact sc_in _ | decide) (by first | exact sc_in _ | decide)) ⟨Nat.le_of_ble_eq_true rfl, Nat.le_of_ble_eq_true rfl, hk, hj⟩ (Nat.le_of_ble_eq_true rfl) (fun v647 I647 L647 R647 hv647 => ?_)
  obtain ⟨ea, hC, fI, fR⟩ := hv647
  have hM2 := h.2.1.frm h.2.2.2 fI
  have hQ := h.2.2.1.frm h.2.2.2 fR
  refine wk_aload_n (i := 2) (q := 651) dL_law_650 rfl rfl rfl ?_
  refine wk_aload_n (i := 0) (q := 652) dL_law_651 rfl rfl rfl ?_
  refine wk_iload_n (i := 3) (q := 653) dL_law_652 rfl rfl rfl ?_
  refine wk_iconst (q := 654) dL_law_653 rfl ?_
  refine wk_iadd (q := 655) dL_law_654 rfl ?_
  refine wk_sld (q := 656) dL_law_655 rfl (by omega) hL ?_
  refine wk_aload_n (i := 0) (q := 657) dL_law_656 rfl rfl rfl ?_
  refine wk_iload_n (i := 3) (q := 658) dL_law_657 rfl rfl rfl ?_
  refine wk_iconst (q := 659) dL_law_658 rfl ?_
  refine wk_iadd (q := 660) dL_law_659 rfl ?_
  refine wk_sld (q := 661) dL_law_660 rfl (by omega) hL ?_
  refine wk_aload_n (i := 0) (q := 662) dL_law_661 rfl rfl rfl ?_
  refine wk_iload_n (i := 3) (q := 663) dL_law_662 rfl rfl rfl ?_
  refine wk_iconst (q := 664) dL_law_663 rfl ?_
  refine wk_iadd (q := 665) dL_law_664 rfl ?_
  refine wk_sld (q := 666) dL_law_665 rfl (by omega) hL ?_
  refine wk_aload_n (i := 0) (q := 667) dL_law_666 rfl rfl rfl ?_
  refine wk_iload_n (i := 3) (q := 668) dL_law_667 rfl rfl rfl ?_
  refine wk_iconst (q := 669) dL_law_668 rfl ?_
  refine wk_iadd (q := 670) dL_law_669 rfl ?_
  refine wk_sld (q := 671) dL_law_670 rfl (by omega) hL ?_
  refine wk_cZ4 (q := 674) dL_law_671 rfl vl_L_75 ⟨_, _, rfl⟩ hM.ob (om_judge hQ hM2 (by first | exact sc_in _ | decide) (by first | exact sc_in _ | decide) (by first | exact sc_in _ | decide) (by first | exact sc_in _ | decide)) ⟨Nat.le_of_ble_eq_true rfl, Nat.le_of_ble_eq_true rfl, hk, hj⟩ (Nat.le_of_ble_eq_true rfl) (fun v671 I671 L671 R671 hv671 => ?_)
  obtain ⟨eb, hM3, gI, gL, gR⟩ := hv671
  subst ea eb
  have hN := h.step hC fR hM3 gI gL gR
  refine wk_icmp_same (t := 1262) dL_law_674 rfl ?_
  exact K _ _ _ _ hN
theorem lc_14 (hk : k ≤ 600000) (hj : j ≤ 7302250) (hL : N ≤ 3072) (h0 : 0 ≤ i) (h1 : i + 6 ≤ N) (h : LI E n sh x m I L R V) (K : ∀ I' L' R' V', LI E n sh x m I' L' R' V' → Wk l E (lwY E Q b N xs) mL k j 1262 [(0, .ref b), (1, .ref x), (2, .ref m), (3, .int (zI i))] [] (n, sh, I', L', R')) : Wk l E (lwY E Q b N xs) mL k j 679 [(0, .ref b), (1, .ref x), (2, .ref m), (3, .int (zI i))] [] (n, sh, I, L, R) := by
  have hX := h
  have hM := h.2.2.1
  refine wk_aload_n (i := 1) (q := 680) dL_law_679 rfl rfl rfl ?_
  refine wk_aload_n (i := 0) (q := 681) dL_law_680 rfl rfl rfl ?_
  refine wk_iload_n (i := 3) (q := 682) dL_law_681 rfl rfl rfl ?_
  refine wk_iconst (q := 683) dL_law_682 rfl ?_
  refine wk_iadd (q := 684) dL_law_683 rfl ?_
  refine wk_sld (q := 685) dL_law_684 rfl (by omega) hL ?_
  refine wk_cZ1 (q := 688) dL_law_685 rfl vl_L_76 ⟨_, _, rfl⟩ hX.ob (oc_best h.1 (by first | exact sc_in _ | decide)) ⟨Nat.le_of_ble_eq_true rfl, Nat.le_of_ble_eq_true rfl, hk, hj⟩ (Nat.le_of_ble_eq_true rfl) (fun v685 I685 L685 R685 hv685 => ?_)
  obtain ⟨ea, hC, fI, fR⟩ := hv685
  have hM2 := h.2.1.frm h.2.2.2 fI
  have hQ := h.2.2.1.frm h.2.2.2 fR
  refine wk_aload_n (i := 2) (q := 689) dL_law_688 rfl rfl rfl ?_
  refine wk_aload_n (i := 0) (q := 690) dL_law_689 rfl rfl rfl ?_
  refine wk_iload_n (i := 3) (q := 691) dL_law_690 rfl rfl rfl ?_
  refine wk_iconst (q := 692) dL_law_691 rfl ?_
  refine wk_iadd (q := 693) dL_law_692 rfl ?_
  refine wk_sld (q := 694) dL_law_693 rfl (by omega) hL ?_
  refine wk_cZ1 (q := 697) dL_law_694 rfl vl_L_79 ⟨_, _, rfl⟩ hM.ob (om_best hQ hM2 (by first | exact sc_in _ | decide)) ⟨Nat.le_of_ble_eq_true rfl, Nat.le_of_ble_eq_true rfl, hk, hj⟩ (Nat.le_of_ble_eq_true rfl) (fun v694 I694 L694 R694 hv694 => ?_)
  obtain ⟨eb, hM3, gI, gL, gR⟩ := hv694
  subst ea eb
  have hN := h.step hC fR hM3 gI gL gR
  refine wk_icmp_same (t := 1262) dL_law_697 rfl ?_
  exact K _ _ _ _ hN
theorem lc_15 (hk : k ≤ 600000) (hj : j ≤ 7302250) (hL : N ≤ 3072) (h0 : 0 ≤ i) (h1 : i + 6 ≤ N) (h : LI E n sh x m I L R V) (K : ∀ I' L' R' V', LI E n sh x m I' L' R' V' → Wk l E (lwY E Q b N xs) mL k j 1262 [(0, .ref b), (1, .ref x), (2, .ref m), (3, .int (zI i))] [] (n, sh, I', L', R')) : Wk l E (lwY E Q b N xs) mL k j 702 [(0, .ref b), (1, .ref x), (2, .ref m), (3, .int (zI i))] [] (n, sh, I, L, R) := by
  have hX := h
  have hM := h.2.2.1
  refine wk_aload_n (i := 1) (q := 703) dL_law_702 rfl rfl rfl ?_
  refine wk_aload_n (i := 0) (q := 704) dL_law_703 rfl rfl rfl ?_
  refine wk_iload_n (i := 3) (q := 705) dL_law_704 rfl rfl rfl ?_
  refine wk_iconst (q := 706) dL_law_705 rfl ?_
  refine wk_iadd (q := 707) dL_law_706 rfl ?_
  refine wk_sld (q := 708) dL_law_707 rfl (by omega) hL ?_
  refine wk_aload_n (i := 0) (q := 709) dL_law_708 rfl rfl rfl ?_
  refine wk_iload_n (i := 3) (q := 710) dL_law_709 rfl rfl rfl ?_
  refine wk_iconst (q := 711) dL_law_710 rfl ?_
  refine wk_iadd (q := 712) dL_law_711 rfl ?_
  refine wk_sld (q := 713) dL_law_712 rfl (by omega) hL ?_
  refine wk_cZ2 (q := 716) dL_law_713 rfl vl_L_80 ⟨_, _, rfl⟩ hX.ob (oc_seats h.1 (by first | exact sc_in _ | decide) (by first | exact sc_in _ | decide)) ⟨Nat.le_of_ble_eq_true rfl, Nat.le_of_ble_eq_true rfl, hk, hj⟩ (Nat.le_of_ble_eq_true rfl) (fun v713 I713 L713 R713 hv713 => ?_)
  obtain ⟨ea, hC, fI, fR⟩ := hv713
  have hM2 := h.2.1.frm h.2.2.2 fI
  have hQ := h.2.2.1.frm h.2.2.2 fR
  refine wk_aload_n (i := 2) (q := 717) dL_law_716 rfl rfl rfl ?_
  refine wk_aload_n (i := 0) (q := 718) dL_law_717 rfl rfl rfl ?_
  refine wk_iload_n (i := 3) (q := 719) dL_law_718 rfl rfl rfl ?_
  refine wk_iconst (q := 720) dL_law_719 rfl ?_
  refine wk_iadd (q := 721) dL_law_720 rfl ?_
  refine wk_sld (q := 722) dL_law_721 rfl (by omega) hL ?_
  refine wk_aload_n (i := 0) (q := 723) dL_law_722 rfl rfl rfl ?_
  refine wk_iload_n (i := 3) (q := 724) dL_law_723 rfl rfl rfl ?_
  refine wk_iconst (q := 725) dL_law_724 rfl ?_
  refine wk_iadd (q := 726) dL_law_725 rfl ?_
  refine wk_sld (q := 727) dL_law_726 rfl (by omega) hL ?_
  refine wk_cZ2 (q := 730) dL_law_727 rfl vl_L_83 ⟨_, _, rfl⟩ hM.ob (om_seats hQ hM2 (by first | exact sc_in _ | decide) (by first | exact sc_in _ | decide)) ⟨Nat.le_of_ble_eq_true rfl, Nat.le_of_ble_eq_true rfl, hk, hj⟩ (Nat.le_of_ble_eq_true rfl) (fun v727 I727 L727 R727 hv727 => ?_)
  obtain ⟨eb, hM3, gI, gL, gR⟩ := hv727
  subst ea eb
  have hN := h.step hC fR hM3 gI gL gR
  refine wk_icmp_same (t := 1262) dL_law_730 rfl ?_
  exact K _ _ _ _ hN
theorem lc_16 (hk : k ≤ 600000) (hj : j ≤ 7302250) (hL : N ≤ 3072) (h0 : 0 ≤ i) (h1 : i + 6 ≤ N) (h : LI E n sh x m I L R V) (K : ∀ I' L' R' V', LI E n sh x m I' L' R' V' → Wk l E (lwY E Q b N xs) mL k j 1262 [(0, .ref b), (1, .ref x), (2, .ref m), (3, .int (zI i))] [] (n, sh, I', L', R')) : Wk l E (lwY E Q b N xs) mL k j 735 [(0, .ref b), (1, .ref x), (2, .ref m), (3, .int (zI i))] [] (n, sh, I, L, R) := by
  have hX := h
  have hM := h.2.2.1
  refine wk_aload_n (i := 1) (q := 736) dL_law_735 rfl rfl rfl ?_
  refine wk_aload_n (i := 0) (q := 737) dL_law_736 rfl rfl rfl ?_
  refine wk_iload_n (i := 3) (q := 738) dL_law_737 rfl rfl rfl ?_
  refine wk_iconst (q := 739) dL_law_738 rfl ?_
  refine wk_iadd (q := 740) dL_law_739 rfl ?_
  refine wk_sld (q := 741) dL_law_740 rfl (by omega) hL ?_
  refine wk_cZ1 (q := 744) dL_law_741 rfl vl_L_84 ⟨_, _, rfl⟩ hX.ob (oc_ever h.1 (by first | exact sc_in _ | decide)) ⟨Nat.le_of_ble_eq_true rfl, Nat.le_of_ble_eq_true rfl, hk, hj⟩ (Nat.le_of_ble_eq_true rfl) (fun v741 I741 L741 R741 hv741 => ?_)
  obtain ⟨ea, hC, fI, fR⟩ := hv741
  have hM2 := h.2.1.frm h.2.2.2 fI
  have hQ := h.2.2.1.frm h.2.2.2 fR
  refine wk_aload_n (i := 2) (q := 745) dL_law_744 rfl rfl rfl ?_
  refine wk_aload_n (i := 0) (q := 746) dL_law_745 rfl rfl rfl ?_
  refine wk_iload_n (i := 3) (q := 747) dL_law_746 rfl rfl rfl ?_
  refine wk_iconst (q := 748) dL_law_747 rfl ?_
  refine wk_iadd (q := 749) dL_law_748 rfl ?_
  refine wk_sld (q := 750) dL_law_749 rfl (by omega) hL ?_
  refine wk_cZ1 (q := 753) dL_law_750 rfl vl_L_87 ⟨_, _, rfl⟩ hM.ob (om_ever hQ hM2 (by first | exact sc_in _ | decide)) ⟨Nat.le_of_ble_eq_true rfl, Nat.le_of_ble_eq_true rfl, hk, hj⟩ (Nat.le_of_ble_eq_true rfl) (fun v750 I750 L750 R750 hv750 => ?_)
  obtain ⟨eb, hM3, gI, gL, gR⟩ := hv750
  subst ea eb
  have hN := h.step hC fR hM3 gI gL gR
  refine wk_icmp_same (t := 1262) dL_law_753 rfl ?_
  exact K _ _ _ _ hN
theorem lc_17 (hk : k ≤ 600000) (hj : j ≤ 7302250) (hL : N ≤ 3072) (h0 : 0 ≤ i) (h1 : i + 6 ≤ N) (h : LI E n sh x m I L R V) (K : ∀ I' L' R' V', LI E n sh x m I' L' R' V' → Wk l E (lwY E Q b N xs) mL k j 1262 [(0, .ref b), (1, .ref x), (2, .ref m), (3, .int (zI i))] [] (n, sh, I', L', R')) : Wk l E (lwY E Q b N xs) mL k j 758 [(0, .ref b), (1, .ref x), (2, .ref m), (3, .int (zI i))] [] (n, sh, I, L, R) := by
  have hX := h
  have hM := h.2.2.1
  refine wk_aload_n (i := 1) (q := 759) dL_law_758 rfl rfl rfl ?_
  refine wk_aload_n (i := 0) (q := 760) dL_law_759 rfl rfl rfl ?_
  refine wk_iload_n (i := 3) (q := 761) dL_law_760 rfl rfl rfl ?_
  refine wk_iconst (q := 762) dL_law_761 rfl ?_
  refine wk_iadd (q := 763) dL_law_762 rfl ?_
  refine wk_sld (q := 764) dL_law_763 rfl (by omega) hL ?_
  refine wk_aload_n (i := 0) (q := 765) dL_law_764 rfl rfl rfl ?_
  refine wk_iload_n (i := 3) (q := 766) dL_law_765 rfl rfl rfl ?_
  refine wk_iconst (q := 767) dL_law_766 rfl ?_
  refine wk_iadd (q := 768) dL_law_767 rfl ?_
  refine wk_sld (q := 769) dL_law_768 rfl (by omega) hL ?_
  refine wk_cJ2 (q := 772) dL_law_769 rfl vl_L_88 ⟨_, _, rfl⟩ hX.ob (oc_mean h.1 (by first | exact sc_in _ | decide) (by first | exact sc_in _ | decide)) ⟨Nat.le_of_ble_eq_true rfl, Nat.le_of_ble_eq_true rfl, hk, hj⟩ (Nat.le_of_ble_eq_true rfl) (fun v769 I769 L769 R769 hv769 => ?_)
  obtain ⟨ea, hC, fI, fR⟩ := hv769
  have hM2 := h.2.1.frm h.2.2.2 fI
  have hQ := h.2.2.1.frm h.2.2.2 fR
  refine wk_aload_n (i := 2) (q := 773) dL_law_772 rfl rfl rfl ?_
  refine wk_aload_n (i := 0) (q := 774) dL_law_773 rfl rfl rfl ?_
  refine wk_iload_n (i := 3) (q := 775) dL_law_774 rfl rfl rfl ?_
  refine wk_iconst (q := 776) dL_law_775 rfl ?_
  refine wk_iadd (q := 777) dL_law_776 rfl ?_
  refine wk_sld (q := 778) dL_law_777 rfl (by omega) hL ?_
  refine wk_aload_n (i := 0) (q := 779) dL_law_778 rfl rfl rfl ?_
  refine wk_iload_n (i := 3) (q := 780) dL_law_779 rfl rfl rfl ?_
  refine wk_iconst (q := 781) dL_law_780 rfl ?_
  refine wk_iadd (q := 782) dL_law_781 rfl ?_
  refine wk_sld (q := 783) dL_law_782 rfl (by omega) hL ?_
  refine wk_cJ2 (q := 786) dL_law_783 rfl vl_L_92 ⟨_, _, rfl⟩ hM.ob (om_mean hQ hM2 (by first | exact sc_in _ | decide) (by first | exact sc_in _ | decide)) ⟨Nat.le_of_ble_eq_true rfl, Nat.le_of_ble_eq_true rfl, hk, hj⟩ (Nat.le_of_ble_eq_true rfl) (fun v783 I783 L783 R783 hv783 => ?_)
  obtain ⟨eb, hM3, gI, gL, gR⟩ := hv783
  subst ea eb
  have hN := h.step hC fR hM3 gI gL gR
  refine wk_lcmp_same (q := 787) dL_law_786 rfl ?_
  refine wk_if_eq (t := 1262) (q := 790) dL_law_787 rfl rfl (by decide) (fun _ => ?_) (fun z => absurd rfl z)
  exact K _ _ _ _ hN
theorem lc_18 (hk : k ≤ 600000) (hj : j ≤ 7302250) (hL : N ≤ 3072) (h0 : 0 ≤ i) (h1 : i + 6 ≤ N) (h : LI E n sh x m I L R V) (K : ∀ I' L' R' V', LI E n sh x m I' L' R' V' → Wk l E (lwY E Q b N xs) mL k j 1262 [(0, .ref b), (1, .ref x), (2, .ref m), (3, .int (zI i))] [] (n, sh, I', L', R')) : Wk l E (lwY E Q b N xs) mL k j 792 [(0, .ref b), (1, .ref x), (2, .ref m), (3, .int (zI i))] [] (n, sh, I, L, R) := by
  have hX := h
  have hM := h.2.2.1
  refine wk_aload_n (i := 1) (q := 793) dL_law_792 rfl rfl rfl ?_
  refine wk_cZ0 (q := 796) dL_law_793 rfl vl_L_93 ⟨_, _, rfl⟩ hX.ob (oc_leaves h.1 ) ⟨Nat.le_of_ble_eq_true rfl, Nat.le_of_ble_eq_true rfl, hk, hj⟩ (Nat.le_of_ble_eq_true rfl) (fun v793 I793 L793 R793 hv793 => ?_)
  obtain ⟨ea, hC, fI, fR⟩ := hv793
  have hM2 := h.2.1.frm h.2.2.2 fI
  have hQ := h.2.2.1.frm h.2.2.2 fR
  refine wk_aload_n (i := 2) (q := 797) dL_law_796 rfl rfl rfl ?_
  refine wk_cZ0 (q := 800) dL_law_797 rfl vl_L_96 ⟨_, _, rfl⟩ hM.ob (om_leaves hQ hM2 ) ⟨Nat.le_of_ble_eq_true rfl, Nat.le_of_ble_eq_true rfl, hk, hj⟩ (Nat.le_of_ble_eq_true rfl) (fun v797 I797 L797 R797 hv797 => ?_)
  obtain ⟨eb, hM3, gI, gL, gR⟩ := hv797
  subst ea eb
  have hN := h.step hC fR hM3 gI gL gR
  refine wk_icmp_same (t := 1262) dL_law_800 rfl ?_
  exact K _ _ _ _ hN
theorem lc_19 (hk : k ≤ 600000) (hj : j ≤ 7302250) (hL : N ≤ 3072) (h0 : 0 ≤ i) (h1 : i + 6 ≤ N) (h : LI E n sh x m I L R V) (K : ∀ I' L' R' V', LI E n sh x m I' L' R' V' → Wk l E (lwY E Q b N xs) mL k j 1262 [(0, .ref b), (1, .ref x), (2, .ref m), (3, .int (zI i))] [] (n, sh, I', L', R')) : Wk l E (lwY E Q b N xs) mL k j 805 [(0, .ref b), (1, .ref x), (2, .ref m), (3, .int (zI i))] [] (n, sh, I, L, R) := by
  have hX := h
  have hM := h.2.2.1
  refine wk_aload_n (i := 1) (q := 806) dL_law_805 rfl rfl rfl ?_
  refine wk_aload_n (i := 0) (q := 807) dL_law_806 rfl rfl rfl ?_
  refine wk_iload_n (i := 3) (q := 808) dL_law_807 rfl rfl rfl ?_
  refine wk_iconst (q := 809) dL_law_808 rfl ?_
  refine wk_iadd (q := 810) dL_law_809 rfl ?_
  refine wk_sld (q := 811) dL_law_810 rfl (by omega) hL ?_
  refine wk_aload_n (i := 0) (q := 812) dL_law_811 rfl rfl rfl ?_
  refine wk_iload_n (i := 3) (q := 813) dL_law_812 rfl rfl rfl ?_
  refine wk_iconst (q := 814) dL_law_813 rfl ?_
  refine wk_iadd (q := 815) dL_law_814 rfl ?_
  refine wk_sld (q := 816) dL_law_815 rfl (by omega) hL ?_
  refine wk_cZ2 (q := 819) dL_law_816 rfl vl_L_97 ⟨_, _, rfl⟩ hX.ob (oc_spite h.1 (by first | exact sc_in _ | decide) (by first | exact sc_in _ | decide)) ⟨Nat.le_of_ble_eq_true rfl, Nat.le_of_ble_eq_true rfl, hk, hj⟩ (Nat.le_of_ble_eq_true rfl) (fun v816 I816 L816 R816 hv816 => ?_)
  obtain ⟨ea, hC, fI, fR⟩ := hv816
  have hM2 := h.2.1.frm h.2.2.2 fI
  have hQ := h.2.2.1.frm h.2.2.2 fR
  refine wk_aload_n (i := 2) (q := 820) dL_law_819 rfl rfl rfl ?_
  refine wk_aload_n (i := 0) (q := 821) dL_law_820 rfl rfl rfl ?_
  refine wk_iload_n (i := 3) (q := 822) dL_law_821 rfl rfl rfl ?_
  refine wk_iconst (q := 823) dL_law_822 rfl ?_
  refine wk_iadd (q := 824) dL_law_823 rfl ?_
  refine wk_sld (q := 825) dL_law_824 rfl (by omega) hL ?_
  refine wk_aload_n (i := 0) (q := 826) dL_law_825 rfl rfl rfl ?_
  refine wk_iload_n (i := 3) (q := 827) dL_law_826 rfl rfl rfl ?_
  refine wk_iconst (q := 828) dL_law_827 rfl ?_
  refine wk_iadd (q := 829) dL_law_828 rfl ?_
  refine wk_sld (q := 830) dL_law_829 rfl (by omega) hL ?_
  refine wk_cZ2 (q := 833) dL_law_830 rfl vl_L_100 ⟨_, _, rfl⟩ hM.ob (om_spite hQ hM2 (by first | exact sc_in _ | decide) (by first | exact sc_in _ | decide)) ⟨Nat.le_of_ble_eq_true rfl, Nat.le_of_ble_eq_true rfl, hk, hj⟩ (Nat.le_of_ble_eq_true rfl) (fun v830 I830 L830 R830 hv830 => ?_)
  obtain ⟨eb, hM3, gI, gL, gR⟩ := hv830
  subst ea eb
  have hN := h.step hC fR hM3 gI gL gR
  refine wk_icmp_same (t := 1262) dL_law_833 rfl ?_
  exact K _ _ _ _ hN
theorem lc_20 (hk : k ≤ 600000) (hj : j ≤ 7302250) (hL : N ≤ 3072) (h0 : 0 ≤ i) (h1 : i + 6 ≤ N) (h : LI E n sh x m I L R V) (K : ∀ I' L' R' V', LI E n sh x m I' L' R' V' → Wk l E (lwY E Q b N xs) mL k j 1262 [(0, .ref b), (1, .ref x), (2, .ref m), (3, .int (zI i))] [] (n, sh, I', L', R')) : Wk l E (lwY E Q b N xs) mL k j 838 [(0, .ref b), (1, .ref x), (2, .ref m), (3, .int (zI i))] [] (n, sh, I, L, R) := by
  have hX := h
  have hM := h.2.2.1
  refine wk_aload_n (i := 1) (q := 839) dL_law_838 rfl rfl rfl ?_
  refine wk_aload_n (i := 0) (q := 840) dL_law_839 rfl rfl rfl ?_
  refine wk_iload_n (i := 3) (q := 841) dL_law_840 rfl rfl rfl ?_
  refine wk_iconst (q := 842) dL_law_841 rfl ?_
  refine wk_iadd (q := 843) dL_law_842 rfl ?_
  refine wk_sld (q := 844) dL_law_843 rfl (by omega) hL ?_
  refine wk_aload_n (i := 0) (q := 845) dL_law_844 rfl rfl rfl ?_
  refine wk_iload_n (i := 3) (q := 846) dL_law_845 rfl rfl rfl ?_
  refine wk_iconst (q := 847) dL_law_846 rfl ?_
  refine wk_iadd (q := 848) dL_law_847 rfl ?_
  refine wk_sld (q := 849) dL_law_848 rfl (by omega) hL ?_
  refine wk_cZ2 (q := 852) dL_law_849 rfl vl_L_101 ⟨_, _, rfl⟩ hX.ob (oc_lies h.1 (by first | exact sc_in _ | decide) (by first | exact sc_in _ | decide)) ⟨Nat.le_of_ble_eq_true rfl, Nat.le_of_ble_eq_true rfl, hk, hj⟩ (Nat.le_of_ble_eq_true rfl) (fun v849 I849 L849 R849 hv849 => ?_)
  obtain ⟨ea, hC, fI, fR⟩ := hv849
  have hM2 := h.2.1.frm h.2.2.2 fI
  have hQ := h.2.2.1.frm h.2.2.2 fR
  refine wk_aload_n (i := 2) (q := 853) dL_law_852 rfl rfl rfl ?_
  refine wk_aload_n (i := 0) (q := 854) dL_law_853 rfl rfl rfl ?_
  refine wk_iload_n (i := 3) (q := 855) dL_law_854 rfl rfl rfl ?_
  refine wk_iconst (q := 856) dL_law_855 rfl ?_
  refine wk_iadd (q := 857) dL_law_856 rfl ?_
  refine wk_sld (q := 858) dL_law_857 rfl (by omega) hL ?_
  refine wk_aload_n (i := 0) (q := 859) dL_law_858 rfl rfl rfl ?_
  refine wk_iload_n (i := 3) (q := 860) dL_law_859 rfl rfl rfl ?_
  refine wk_iconst (q := 861) dL_law_860 rfl ?_
  refine wk_iadd (q := 862) dL_law_861 rfl ?_
  refine wk_sld (q := 863) dL_law_862 rfl (by omega) hL ?_
  refine wk_cZ2 (q := 866) dL_law_863 rfl vl_L_104 ⟨_, _, rfl⟩ hM.ob (om_lies hQ hM2 (by first | exact sc_in _ | decide) (by first | exact sc_in _ | decide)) ⟨Nat.le_of_ble_eq_true rfl, Nat.le_of_ble_eq_true rfl, hk, hj⟩ (Nat.le_of_ble_eq_true rfl) (fun v863 I863 L863 R863 hv863 => ?_)
  obtain ⟨eb, hM3, gI, gL, gR⟩ := hv863
  subst ea eb
  have hN := h.step hC fR hM3 gI gL gR
  refine wk_icmp_same (t := 1262) dL_law_866 rfl ?_
  exact K _ _ _ _ hN
theorem lc_21 (hk : k ≤ 600000) (hj : j ≤ 7302250) (hL : N ≤ 3072) (h0 : 0 ≤ i) (h1 : i + 6 ≤ N) (h : LI E n sh x m I L R V) (K : ∀ I' L' R' V', LI E n sh x m I' L' R' V' → Wk l E (lwY E Q b N xs) mL k j 1262 [(0, .ref b), (1, .ref x), (2, .ref m), (3, .int (zI i))] [] (n, sh, I', L', R')) : Wk l E (lwY E Q b N xs) mL k j 871 [(0, .ref b), (1, .ref x), (2, .ref m), (3, .int (zI i))] [] (n, sh, I, L, R) := by
  have hX := h
  have hM := h.2.2.1
  refine wk_aload_n (i := 1) (q := 872) dL_law_871 rfl rfl rfl ?_
  refine wk_aload_n (i := 0) (q := 873) dL_law_872 rfl rfl rfl ?_
  refine wk_iload_n (i := 3) (q := 874) dL_law_873 rfl rfl rfl ?_
  refine wk_iconst (q := 875) dL_law_874 rfl ?_
  refine wk_iadd (q := 876) dL_law_875 rfl ?_
  refine wk_sld (q := 877) dL_law_876 rfl (by omega) hL ?_
  refine wk_cJ1 (q := 880) dL_law_877 rfl vl_L_105 ⟨_, _, rfl⟩ hX.ob (oc_chair h.1 (by first | exact sc_in _ | decide)) ⟨Nat.le_of_ble_eq_true rfl, Nat.le_of_ble_eq_true rfl, hk, hj⟩ (Nat.le_of_ble_eq_true rfl) (fun v877 I877 L877 R877 hv877 => ?_)
  obtain ⟨ea, hC, fI, fR⟩ := hv877
  have hM2 := h.2.1.frm h.2.2.2 fI
  have hQ := h.2.2.1.frm h.2.2.2 fR
  refine wk_aload_n (i := 2) (q := 881) dL_law_880 rfl rfl rfl ?_
  refine wk_aload_n (i := 0) (q := 882) dL_law_881 rfl rfl rfl ?_
  refine wk_iload_n (i := 3) (q := 883) dL_law_882 rfl rfl rfl ?_
  refine wk_iconst (q := 884) dL_law_883 rfl ?_
  refine wk_iadd (q := 885) dL_law_884 rfl ?_
  refine wk_sld (q := 886) dL_law_885 rfl (by omega) hL ?_
  refine wk_cJ1 (q := 889) dL_law_886 rfl vl_L_109 ⟨_, _, rfl⟩ hM.ob (om_chair hQ hM2 (by first | exact sc_in _ | decide)) ⟨Nat.le_of_ble_eq_true rfl, Nat.le_of_ble_eq_true rfl, hk, hj⟩ (Nat.le_of_ble_eq_true rfl) (fun v886 I886 L886 R886 hv886 => ?_)
  obtain ⟨eb, hM3, gI, gL, gR⟩ := hv886
  subst ea eb
  have hN := h.step hC fR hM3 gI gL gR
  refine wk_lcmp_same (q := 890) dL_law_889 rfl ?_
  refine wk_if_eq (t := 1262) (q := 893) dL_law_890 rfl rfl (by decide) (fun _ => ?_) (fun z => absurd rfl z)
  exact K _ _ _ _ hN
theorem lc_22 (hk : k ≤ 600000) (hj : j ≤ 7302250) (hL : N ≤ 3072) (h0 : 0 ≤ i) (h1 : i + 6 ≤ N) (h : LI E n sh x m I L R V) (K : ∀ I' L' R' V', LI E n sh x m I' L' R' V' → Wk l E (lwY E Q b N xs) mL k j 1262 [(0, .ref b), (1, .ref x), (2, .ref m), (3, .int (zI i))] [] (n, sh, I', L', R')) : Wk l E (lwY E Q b N xs) mL k j 895 [(0, .ref b), (1, .ref x), (2, .ref m), (3, .int (zI i))] [] (n, sh, I, L, R) := by
  have hX := h
  have hM := h.2.2.1
  refine wk_aload_n (i := 1) (q := 896) dL_law_895 rfl rfl rfl ?_
  refine wk_aload_n (i := 0) (q := 897) dL_law_896 rfl rfl rfl ?_
  refine wk_iload_n (i := 3) (q := 898) dL_law_897 rfl rfl rfl ?_
  refine wk_iconst (q := 899) dL_law_898 rfl ?_
  refine wk_iadd (q := 900) dL_law_899 rfl ?_
  refine wk_sld (q := 901) dL_law_900 rfl (by omega) hL ?_
  refine wk_cZ1 (q := 904) dL_law_901 rfl vl_L_110 ⟨_, _, rfl⟩ hX.ob (oc_law h.1 (by first | exact sc_in _ | decide)) ⟨Nat.le_of_ble_eq_true rfl, Nat.le_of_ble_eq_true rfl, hk, hj⟩ (Nat.le_of_ble_eq_true rfl) (fun v901 I901 L901 R901 hv901 => ?_)
  obtain ⟨ea, hC, fI, fR⟩ := hv901
  have hM2 := h.2.1.frm h.2.2.2 fI
  have hQ := h.2.2.1.frm h.2.2.2 fR
  refine wk_aload_n (i := 2) (q := 905) dL_law_904 rfl rfl rfl ?_
  refine wk_aload_n (i := 0) (q := 906) dL_law_905 rfl rfl rfl ?_
  refine wk_iload_n (i := 3) (q := 907) dL_law_906 rfl rfl rfl ?_
  refine wk_iconst (q := 908) dL_law_907 rfl ?_
  refine wk_iadd (q := 909) dL_law_908 rfl ?_
  refine wk_sld (q := 910) dL_law_909 rfl (by omega) hL ?_
  refine wk_cZ1 (q := 913) dL_law_910 rfl vl_L_113 ⟨_, _, rfl⟩ hM.ob (om_law hQ hM2 (by first | exact sc_in _ | decide)) ⟨Nat.le_of_ble_eq_true rfl, Nat.le_of_ble_eq_true rfl, hk, hj⟩ (Nat.le_of_ble_eq_true rfl) (fun v910 I910 L910 R910 hv910 => ?_)
  obtain ⟨eb, hM3, gI, gL, gR⟩ := hv910
  subst ea eb
  have hN := h.step hC fR hM3 gI gL gR
  refine wk_icmp_same (t := 1262) dL_law_913 rfl ?_
  exact K _ _ _ _ hN
theorem lc_23 (hk : k ≤ 600000) (hj : j ≤ 7302250) (hL : N ≤ 3072) (h0 : 0 ≤ i) (h1 : i + 6 ≤ N) (h : LI E n sh x m I L R V) (K : ∀ I' L' R' V', LI E n sh x m I' L' R' V' → Wk l E (lwY E Q b N xs) mL k j 1262 [(0, .ref b), (1, .ref x), (2, .ref m), (3, .int (zI i))] [] (n, sh, I', L', R')) : Wk l E (lwY E Q b N xs) mL k j 918 [(0, .ref b), (1, .ref x), (2, .ref m), (3, .int (zI i))] [] (n, sh, I, L, R) := by
  have hX := h
  have hM := h.2.2.1
  refine wk_aload_n (i := 1) (q := 919) dL_law_918 rfl rfl rfl ?_
  refine wk_aload_n (i := 0) (q := 920) dL_law_919 rfl rfl rfl ?_
  refine wk_iload_n (i := 3) (q := 921) dL_law_920 rfl rfl rfl ?_
  refine wk_iconst (q := 922) dL_law_921 rfl ?_
  refine wk_iadd (q := 923) dL_law_922 rfl ?_
  refine wk_sld (q := 924) dL_law_923 rfl (by omega) hL ?_
  refine wk_aload_n (i := 0) (q := 925) dL_law_924 rfl rfl rfl ?_
  refine wk_iload_n (i := 3) (q := 926) dL_law_925 rfl rfl rfl ?_
  refine wk_iconst (q := 927) dL_law_926 rfl ?_
  refine wk_iadd (q := 928) dL_law_927 rfl ?_
  refine wk_sld (q := 929) dL_law_928 rfl (by omega) hL ?_
  refine wk_aload_n (i := 0) (q := 930) dL_law_929 rfl rfl rfl ?_
  refine wk_iload_n (i := 3) (q := 931) dL_law_930 rfl rfl rfl ?_
  refine wk_iconst (q := 932) dL_law_931 rfl ?_
  refine wk_iadd (q := 933) dL_law_932 rfl ?_
  refine wk_sld (q := 934) dL_law_933 rfl (by omega) hL ?_
  refine wk_cZ3 (q := 937) dL_law_934 rfl vl_L_114 ⟨_, _, rfl⟩ hX.ob (oc_sheet h.1 (by first | exact sc_in _ | decide) (by first | exact sc_in _ | decide) (by first | exact sc_in _ | decide)) ⟨Nat.le_of_ble_eq_true rfl, Nat.le_of_ble_eq_true rfl, hk, hj⟩ (Nat.le_of_ble_eq_true rfl) (fun v934 I934 L934 R934 hv934 => ?_)
  obtain ⟨ea, hC, fI, fR⟩ := hv934
  have hM2 := h.2.1.frm h.2.2.2 fI
  have hQ := h.2.2.1.frm h.2.2.2 fR
  refine wk_aload_n (i := 2) (q := 938) dL_law_937 rfl rfl rfl ?_
  refine wk_aload_n (i := 0) (q := 939) dL_law_938 rfl rfl rfl ?_
  refine wk_iload_n (i := 3) (q := 940) dL_law_939 rfl rfl rfl ?_
  refine wk_iconst (q := 941) dL_law_940 rfl ?_
  refine wk_iadd (q := 942) dL_law_941 rfl ?_
  refine wk_sld (q := 943) dL_law_942 rfl (by omega) hL ?_
  refine wk_aload_n (i := 0) (q := 944) dL_law_943 rfl rfl rfl ?_
  refine wk_iload_n (i := 3) (q := 945) dL_law_944 rfl rfl rfl ?_
  refine wk_iconst (q := 946) dL_law_945 rfl ?_
  refine wk_iadd (q := 947) dL_law_946 rfl ?_
  refine wk_sld (q := 948) dL_law_947 rfl (by omega) hL ?_
  refine wk_aload_n (i := 0) (q := 949) dL_law_948 rfl rfl rfl ?_
  refine wk_iload_n (i := 3) (q := 950) dL_law_949 rfl rfl rfl ?_
  refine wk_iconst (q := 951) dL_law_950 rfl ?_
  refine wk_iadd (q := 952) dL_law_951 rfl ?_
  refine wk_sld (q := 953) dL_law_952 rfl (by omega) hL ?_
  refine wk_cZ3 (q := 956) dL_law_953 rfl vl_L_117 ⟨_, _, rfl⟩ hM.ob (om_sheet hQ hM2 (by first | exact sc_in _ | decide) (by first | exact sc_in _ | decide) (by first | exact sc_in _ | decide)) ⟨Nat.le_of_ble_eq_true rfl, Nat.le_of_ble_eq_true rfl, hk, hj⟩ (Nat.le_of_ble_eq_true rfl) (fun v953 I953 L953 R953 hv953 => ?_)
  obtain ⟨eb, hM3, gI, gL, gR⟩ := hv953
  subst ea eb
  have hN := h.step hC fR hM3 gI gL gR
  refine wk_icmp_same (t := 1262) dL_law_956 rfl ?_
  exact K _ _ _ _ hN
theorem lc_24 (hk : k ≤ 600000) (hj : j ≤ 7302250) (hL : N ≤ 3072) (h0 : 0 ≤ i) (h1 : i + 6 ≤ N) (h : LI E n sh x m I L R V) (K : ∀ I' L' R' V', LI E n sh x m I' L' R' V' → Wk l E (lwY E Q b N xs) mL k j 1262 [(0, .ref b), (1, .ref x), (2, .ref m), (3, .int (zI i))] [] (n, sh, I', L', R')) : Wk l E (lwY E Q b N xs) mL k j 961 [(0, .ref b), (1, .ref x), (2, .ref m), (3, .int (zI i))] [] (n, sh, I, L, R) := by
  have hX := h
  have hM := h.2.2.1
  refine wk_aload_n (i := 1) (q := 962) dL_law_961 rfl rfl rfl ?_
  refine wk_aload_n (i := 0) (q := 963) dL_law_962 rfl rfl rfl ?_
  refine wk_iload_n (i := 3) (q := 964) dL_law_963 rfl rfl rfl ?_
  refine wk_iconst (q := 965) dL_law_964 rfl ?_
  refine wk_iadd (q := 966) dL_law_965 rfl ?_
  refine wk_sld (q := 967) dL_law_966 rfl (by omega) hL ?_
  refine wk_cZ1 (q := 970) dL_law_967 rfl vl_L_118 ⟨_, _, rfl⟩ hX.ob (oc_lose h.1 (by first | exact sc_in _ | decide)) ⟨Nat.le_of_ble_eq_true rfl, Nat.le_of_ble_eq_true rfl, hk, hj⟩ (Nat.le_of_ble_eq_true rfl) (fun v967 I967 L967 R967 hv967 => ?_)
  obtain ⟨ea, hC, fI, fR⟩ := hv967
  have hM2 := h.2.1.frm h.2.2.2 fI
  have hQ := h.2.2.1.frm h.2.2.2 fR
  refine wk_aload_n (i := 2) (q := 971) dL_law_970 rfl rfl rfl ?_
  refine wk_aload_n (i := 0) (q := 972) dL_law_971 rfl rfl rfl ?_
  refine wk_iload_n (i := 3) (q := 973) dL_law_972 rfl rfl rfl ?_
  refine wk_iconst (q := 974) dL_law_973 rfl ?_
  refine wk_iadd (q := 975) dL_law_974 rfl ?_
  refine wk_sld (q := 976) dL_law_975 rfl (by omega) hL ?_
  refine wk_cZ1 (q := 979) dL_law_976 rfl vl_L_121 ⟨_, _, rfl⟩ hM.ob (om_lose hQ hM2 (by first | exact sc_in _ | decide)) ⟨Nat.le_of_ble_eq_true rfl, Nat.le_of_ble_eq_true rfl, hk, hj⟩ (Nat.le_of_ble_eq_true rfl) (fun v976 I976 L976 R976 hv976 => ?_)
  obtain ⟨eb, hM3, gI, gL, gR⟩ := hv976
  subst ea eb
  have hN := h.step hC fR hM3 gI gL gR
  refine wk_icmp_same (t := 1262) dL_law_979 rfl ?_
  exact K _ _ _ _ hN
theorem lc_25 (hk : k ≤ 600000) (hj : j ≤ 7302250) (hL : N ≤ 3072) (h0 : 0 ≤ i) (h1 : i + 6 ≤ N) (h : LI E n sh x m I L R V) (K : ∀ I' L' R' V', LI E n sh x m I' L' R' V' → Wk l E (lwY E Q b N xs) mL k j 1262 [(0, .ref b), (1, .ref x), (2, .ref m), (3, .int (zI i))] [] (n, sh, I', L', R')) : Wk l E (lwY E Q b N xs) mL k j 984 [(0, .ref b), (1, .ref x), (2, .ref m), (3, .int (zI i))] [] (n, sh, I, L, R) := by
  have hX := h
  have hM := h.2.2.1
  refine wk_aload_n (i := 1) (q := 985) dL_law_984 rfl rfl rfl ?_
  refine wk_aload_n (i := 0) (q := 986) dL_law_985 rfl rfl rfl ?_
  refine wk_iload_n (i := 3) (q := 987) dL_law_986 rfl rfl rfl ?_
  refine wk_iconst (q := 988) dL_law_987 rfl ?_
  refine wk_iadd (q := 989) dL_law_988 rfl ?_
  refine wk_sld (q := 990) dL_law_989 rfl (by omega) hL ?_
  refine wk_aload_n (i := 0) (q := 991) dL_law_990 rfl rfl rfl ?_
  refine wk_iload_n (i := 3) (q := 992) dL_law_991 rfl rfl rfl ?_
  refine wk_iconst (q := 993) dL_law_992 rfl ?_
  refine wk_iadd (q := 994) dL_law_993 rfl ?_
  refine wk_sld (q := 995) dL_law_994 rfl (by omega) hL ?_
  refine wk_aload_n (i := 0) (q := 996) dL_law_995 rfl rfl rfl ?_
  refine wk_iload_n (i := 3) (q := 997) dL_law_996 rfl rfl rfl ?_
  refine wk_iconst (q := 998) dL_law_997 rfl ?_
  refine wk_iadd (q := 999) dL_law_998 rfl ?_
  refine wk_sld (q := 1000) dL_law_999 rfl (by omega) hL ?_
  refine wk_cZ3 (q := 1003) dL_law_1000 rfl vl_L_122 ⟨_, _, rfl⟩ hX.ob (oc_put h.1 (by first | exact sc_in _ | decide) (by first | exact sc_in _ | decide) (by first | exact sc_in _ | decide)) ⟨Nat.le_of_ble_eq_true rfl, Nat.le_of_ble_eq_true rfl, hk, hj⟩ (Nat.le_of_ble_eq_true rfl) (fun v1000 I1000 L1000 R1000 hv1000 => ?_)
  obtain ⟨ea, hC, fI, fR⟩ := hv1000
  have hM2 := h.2.1.frm h.2.2.2 fI
  have hQ := h.2.2.1.frm h.2.2.2 fR
  refine wk_aload_n (i := 2) (q := 1004) dL_law_1003 rfl rfl rfl ?_
  refine wk_aload_n (i := 0) (q := 1005) dL_law_1004 rfl rfl rfl ?_
  refine wk_iload_n (i := 3) (q := 1006) dL_law_1005 rfl rfl rfl ?_
  refine wk_iconst (q := 1007) dL_law_1006 rfl ?_
  refine wk_iadd (q := 1008) dL_law_1007 rfl ?_
  refine wk_sld (q := 1009) dL_law_1008 rfl (by omega) hL ?_
  refine wk_aload_n (i := 0) (q := 1010) dL_law_1009 rfl rfl rfl ?_
  refine wk_iload_n (i := 3) (q := 1011) dL_law_1010 rfl rfl rfl ?_
  refine wk_iconst (q := 1012) dL_law_1011 rfl ?_
  refine wk_iadd (q := 1013) dL_law_1012 rfl ?_
  refine wk_sld (q := 1014) dL_law_1013 rfl (by omega) hL ?_
  refine wk_aload_n (i := 0) (q := 1015) dL_law_1014 rfl rfl rfl ?_
  refine wk_iload_n (i := 3) (q := 1016) dL_law_1015 rfl rfl rfl ?_
  refine wk_iconst (q := 1017) dL_law_1016 rfl ?_
  refine wk_iadd (q := 1018) dL_law_1017 rfl ?_
  refine wk_sld (q := 1019) dL_law_1018 rfl (by omega) hL ?_
  refine wk_cZ3 (q := 1022) dL_law_1019 rfl vl_L_125 ⟨_, _, rfl⟩ hM.ob (om_put hQ hM2 (by first | exact sc_in _ | decide) (by first | exact sc_in _ | decide) (by first | exact sc_in _ | decide)) ⟨Nat.le_of_ble_eq_true rfl, Nat.le_of_ble_eq_true rfl, hk, hj⟩ (Nat.le_of_ble_eq_true rfl) (fun v1019 I1019 L1019 R1019 hv1019 => ?_)
  obtain ⟨eb, hM3, gI, gL, gR⟩ := hv1019
  subst ea eb
  have hN := h.step hC fR hM3 gI gL gR
  refine wk_icmp_same (t := 1262) dL_law_1022 rfl ?_
  exact K _ _ _ _ hN
theorem lc_26 (hk : k ≤ 600000) (hj : j ≤ 7302250) (hL : N ≤ 3072) (h0 : 0 ≤ i) (h1 : i + 6 ≤ N) (h : LI E n sh x m I L R V) (K : ∀ I' L' R' V', LI E n sh x m I' L' R' V' → Wk l E (lwY E Q b N xs) mL k j 1262 [(0, .ref b), (1, .ref x), (2, .ref m), (3, .int (zI i))] [] (n, sh, I', L', R')) : Wk l E (lwY E Q b N xs) mL k j 1027 [(0, .ref b), (1, .ref x), (2, .ref m), (3, .int (zI i))] [] (n, sh, I, L, R) := by
  have hX := h
  have hM := h.2.2.1
  refine wk_aload_n (i := 1) (q := 1028) dL_law_1027 rfl rfl rfl ?_
  refine wk_aload_n (i := 0) (q := 1029) dL_law_1028 rfl rfl rfl ?_
  refine wk_iload_n (i := 3) (q := 1030) dL_law_1029 rfl rfl rfl ?_
  refine wk_iconst (q := 1031) dL_law_1030 rfl ?_
  refine wk_iadd (q := 1032) dL_law_1031 rfl ?_
  refine wk_sld (q := 1033) dL_law_1032 rfl (by omega) hL ?_
  refine wk_aload_n (i := 0) (q := 1034) dL_law_1033 rfl rfl rfl ?_
  refine wk_iload_n (i := 3) (q := 1035) dL_law_1034 rfl rfl rfl ?_
  refine wk_iconst (q := 1036) dL_law_1035 rfl ?_
  refine wk_iadd (q := 1037) dL_law_1036 rfl ?_
  refine wk_sld (q := 1038) dL_law_1037 rfl (by omega) hL ?_
  refine wk_aload_n (i := 0) (q := 1039) dL_law_1038 rfl rfl rfl ?_
  refine wk_iload_n (i := 3) (q := 1040) dL_law_1039 rfl rfl rfl ?_
  refine wk_iconst (q := 1041) dL_law_1040 rfl ?_
  refine wk_iadd (q := 1042) dL_law_1041 rfl ?_
  refine wk_sld (q := 1043) dL_law_1042 rfl (by omega) hL ?_
  refine wk_cJ3 (q := 1046) dL_law_1043 rfl vl_L_126 ⟨_, _, rfl⟩ hX.ob (oc_cell h.1 (by first | exact sc_in _ | decide) (by first | exact sc_in _ | decide) (by first | exact sc_in _ | decide)) ⟨Nat.le_of_ble_eq_true rfl, Nat.le_of_ble_eq_true rfl, hk, hj⟩ (Nat.le_of_ble_eq_true rfl) (fun v1043 I1043 L1043 R1043 hv1043 => ?_)
  obtain ⟨ea, hC, fI, fR⟩ := hv1043
  have hM2 := h.2.1.frm h.2.2.2 fI
  have hQ := h.2.2.1.frm h.2.2.2 fR
  refine wk_aload_n (i := 2) (q := 1047) dL_law_1046 rfl rfl rfl ?_
  refine wk_aload_n (i := 0) (q := 1048) dL_law_1047 rfl rfl rfl ?_
  refine wk_iload_n (i := 3) (q := 1049) dL_law_1048 rfl rfl rfl ?_
  refine wk_iconst (q := 1050) dL_law_1049 rfl ?_
  refine wk_iadd (q := 1051) dL_law_1050 rfl ?_
  refine wk_sld (q := 1052) dL_law_1051 rfl (by omega) hL ?_
  refine wk_aload_n (i := 0) (q := 1053) dL_law_1052 rfl rfl rfl ?_
  refine wk_iload_n (i := 3) (q := 1054) dL_law_1053 rfl rfl rfl ?_
  refine wk_iconst (q := 1055) dL_law_1054 rfl ?_
  refine wk_iadd (q := 1056) dL_law_1055 rfl ?_
  refine wk_sld (q := 1057) dL_law_1056 rfl (by omega) hL ?_
  refine wk_aload_n (i := 0) (q := 1058) dL_law_1057 rfl rfl rfl ?_
  refine wk_iload_n (i := 3) (q := 1059) dL_law_1058 rfl rfl rfl ?_
  refine wk_iconst (q := 1060) dL_law_1059 rfl ?_
  refine wk_iadd (q := 1061) dL_law_1060 rfl ?_
  refine wk_sld (q := 1062) dL_law_1061 rfl (by omega) hL ?_
  refine wk_cJ3 (q := 1065) dL_law_1062 rfl vl_L_130 ⟨_, _, rfl⟩ hM.ob (om_cell hQ hM2 (by first | exact sc_in _ | decide) (by first | exact sc_in _ | decide) (by first | exact sc_in _ | decide)) ⟨Nat.le_of_ble_eq_true rfl, Nat.le_of_ble_eq_true rfl, hk, hj⟩ (Nat.le_of_ble_eq_true rfl) (fun v1062 I1062 L1062 R1062 hv1062 => ?_)
  obtain ⟨eb, hM3, gI, gL, gR⟩ := hv1062
  subst ea eb
  have hN := h.step hC fR hM3 gI gL gR
  refine wk_lcmp_same (q := 1066) dL_law_1065 rfl ?_
  refine wk_if_eq (t := 1262) (q := 1069) dL_law_1066 rfl rfl (by decide) (fun _ => ?_) (fun z => absurd rfl z)
  exact K _ _ _ _ hN
theorem lc_27 (hk : k ≤ 600000) (hj : j ≤ 7302250) (hL : N ≤ 3072) (h0 : 0 ≤ i) (h1 : i + 6 ≤ N) (h : LI E n sh x m I L R V) (K : ∀ I' L' R' V', LI E n sh x m I' L' R' V' → Wk l E (lwY E Q b N xs) mL k j 1262 [(0, .ref b), (1, .ref x), (2, .ref m), (3, .int (zI i))] [] (n, sh, I', L', R')) : Wk l E (lwY E Q b N xs) mL k j 1071 [(0, .ref b), (1, .ref x), (2, .ref m), (3, .int (zI i))] [] (n, sh, I, L, R) := by
  have hX := h
  have hM := h.2.2.1
  refine wk_aload_n (i := 1) (q := 1072) dL_law_1071 rfl rfl rfl ?_
  refine wk_aload_n (i := 0) (q := 1073) dL_law_1072 rfl rfl rfl ?_
  refine wk_iload_n (i := 3) (q := 1074) dL_law_1073 rfl rfl rfl ?_
  refine wk_iconst (q := 1075) dL_law_1074 rfl ?_
  refine wk_iadd (q := 1076) dL_law_1075 rfl ?_
  refine wk_sld (q := 1077) dL_law_1076 rfl (by omega) hL ?_
  refine wk_aload_n (i := 0) (q := 1078) dL_law_1077 rfl rfl rfl ?_
  refine wk_iload_n (i := 3) (q := 1079) dL_law_1078 rfl rfl rfl ?_
  refine wk_iconst (q := 1080) dL_law_1079 rfl ?_
  refine wk_iadd (q := 1081) dL_law_1080 rfl ?_
  refine wk_sld (q := 1082) dL_law_1081 rfl (by omega) hL ?_
  refine wk_aload_n (i := 0) (q := 1083) dL_law_1082 rfl rfl rfl ?_
  refine wk_iload_n (i := 3) (q := 1084) dL_law_1083 rfl rfl rfl ?_
  refine wk_iconst (q := 1085) dL_law_1084 rfl ?_
  refine wk_iadd (q := 1086) dL_law_1085 rfl ?_
  refine wk_sld (q := 1087) dL_law_1086 rfl (by omega) hL ?_
  refine wk_aload_n (i := 0) (q := 1088) dL_law_1087 rfl rfl rfl ?_
  refine wk_iload_n (i := 3) (q := 1089) dL_law_1088 rfl rfl rfl ?_
  refine wk_iconst (q := 1090) dL_law_1089 rfl ?_
  refine wk_iadd (q := 1091) dL_law_1090 rfl ?_
  refine wk_sld (q := 1092) dL_law_1091 rfl (by omega) hL ?_
  refine wk_aload_n (i := 0) (q := 1093) dL_law_1092 rfl rfl rfl ?_
  refine wk_iload_n (i := 3) (q := 1094) dL_law_1093 rfl rfl rfl ?_
  refine wk_iconst (q := 1095) dL_law_1094 rfl ?_
  refine wk_iadd (q := 1096) dL_law_1095 rfl ?_
  refine wk_sld (q := 1097) dL_law_1096 rfl (by omega) hL ?_
  refine wk_cZ5 (q := 1100) dL_law_1097 rfl vl_L_131 ⟨_, _, rfl⟩ hX.ob (oc_copy h.1 (by first | exact sc_in _ | decide) (by first | exact sc_in _ | decide) (by first | exact sc_in _ | decide) (by first | exact sc_in _ | decide) (by first | exact sc_in _ | decide)) ⟨Nat.le_of_ble_eq_true rfl, Nat.le_of_ble_eq_true rfl, hk, hj⟩ (Nat.le_of_ble_eq_true rfl) (fun v1097 I1097 L1097 R1097 hv1097 => ?_)
  obtain ⟨ea, hC, fI, fR⟩ := hv1097
  have hM2 := h.2.1.frm h.2.2.2 fI
  have hQ := h.2.2.1.frm h.2.2.2 fR
  refine wk_aload_n (i := 2) (q := 1101) dL_law_1100 rfl rfl rfl ?_
  refine wk_aload_n (i := 0) (q := 1102) dL_law_1101 rfl rfl rfl ?_
  refine wk_iload_n (i := 3) (q := 1103) dL_law_1102 rfl rfl rfl ?_
  refine wk_iconst (q := 1104) dL_law_1103 rfl ?_
  refine wk_iadd (q := 1105) dL_law_1104 rfl ?_
  refine wk_sld (q := 1106) dL_law_1105 rfl (by omega) hL ?_
  refine wk_aload_n (i := 0) (q := 1107) dL_law_1106 rfl rfl rfl ?_
  refine wk_iload_n (i := 3) (q := 1108) dL_law_1107 rfl rfl rfl ?_
  refine wk_iconst (q := 1109) dL_law_1108 rfl ?_
  refine wk_iadd (q := 1110) dL_law_1109 rfl ?_
  refine wk_sld (q := 1111) dL_law_1110 rfl (by omega) hL ?_
  refine wk_aload_n (i := 0) (q := 1112) dL_law_1111 rfl rfl rfl ?_
  refine wk_iload_n (i := 3) (q := 1113) dL_law_1112 rfl rfl rfl ?_
  refine wk_iconst (q := 1114) dL_law_1113 rfl ?_
  refine wk_iadd (q := 1115) dL_law_1114 rfl ?_
  refine wk_sld (q := 1116) dL_law_1115 rfl (by omega) hL ?_
  refine wk_aload_n (i := 0) (q := 1117) dL_law_1116 rfl rfl rfl ?_
  refine wk_iload_n (i := 3) (q := 1118) dL_law_1117 rfl rfl rfl ?_
  refine wk_iconst (q := 1119) dL_law_1118 rfl ?_
  refine wk_iadd (q := 1120) dL_law_1119 rfl ?_
  refine wk_sld (q := 1121) dL_law_1120 rfl (by omega) hL ?_
  refine wk_aload_n (i := 0) (q := 1122) dL_law_1121 rfl rfl rfl ?_
  refine wk_iload_n (i := 3) (q := 1123) dL_law_1122 rfl rfl rfl ?_
  refine wk_iconst (q := 1124) dL_law_1123 rfl ?_
  refine wk_iadd (q := 1125) dL_law_1124 rfl ?_
  refine wk_sld (q := 1126) dL_law_1125 rfl (by omega) hL ?_
  refine wk_cZ5 (q := 1129) dL_law_1126 rfl vl_L_135 ⟨_, _, rfl⟩ hM.ob (om_copy hQ hM2 (by first | exact sc_in _ | decide) (by first | exact sc_in _ | decide) (by first | exact sc_in _ | decide) (by first | exact sc_in _ | decide) (by first | exact sc_in _ | decide)) ⟨Nat.le_of_ble_eq_true rfl, Nat.le_of_ble_eq_true rfl, hk, hj⟩ (Nat.le_of_ble_eq_true rfl) (fun v1126 I1126 L1126 R1126 hv1126 => ?_)
  obtain ⟨eb, hM3, gI, gL, gR⟩ := hv1126
  subst ea eb
  have hN := h.step hC fR hM3 gI gL gR
  refine wk_icmp_same (t := 1262) dL_law_1129 rfl ?_
  exact K _ _ _ _ hN
theorem lc_28 (hk : k ≤ 600000) (hj : j ≤ 7302250) (hL : N ≤ 3072) (h0 : 0 ≤ i) (h1 : i + 6 ≤ N) (h : LI E n sh x m I L R V) (K : ∀ I' L' R' V', LI E n sh x m I' L' R' V' → Wk l E (lwY E Q b N xs) mL k j 1262 [(0, .ref b), (1, .ref x), (2, .ref m), (3, .int (zI i))] [] (n, sh, I', L', R')) : Wk l E (lwY E Q b N xs) mL k j 1134 [(0, .ref b), (1, .ref x), (2, .ref m), (3, .int (zI i))] [] (n, sh, I, L, R) := by
  have hX := h
  have hM := h.2.2.1
  refine wk_aload_n (i := 1) (q := 1135) dL_law_1134 rfl rfl rfl ?_
  refine wk_aload_n (i := 0) (q := 1136) dL_law_1135 rfl rfl rfl ?_
  refine wk_iload_n (i := 3) (q := 1137) dL_law_1136 rfl rfl rfl ?_
  refine wk_iconst (q := 1138) dL_law_1137 rfl ?_
  refine wk_iadd (q := 1139) dL_law_1138 rfl ?_
  refine wk_sld (q := 1140) dL_law_1139 rfl (by omega) hL ?_
  refine wk_cZ1 (q := 1143) dL_law_1140 rfl vl_L_136 ⟨_, _, rfl⟩ hX.ob (oc_tell h.1 (by first | exact sc_in _ | decide)) ⟨Nat.le_of_ble_eq_true rfl, Nat.le_of_ble_eq_true rfl, hk, hj⟩ (Nat.le_of_ble_eq_true rfl) (fun v1140 I1140 L1140 R1140 hv1140 => ?_)
  obtain ⟨ea, hC, fI, fR⟩ := hv1140
  have hM2 := h.2.1.frm h.2.2.2 fI
  have hQ := h.2.2.1.frm h.2.2.2 fR
  refine wk_aload_n (i := 2) (q := 1144) dL_law_1143 rfl rfl rfl ?_
  refine wk_aload_n (i := 0) (q := 1145) dL_law_1144 rfl rfl rfl ?_
  refine wk_iload_n (i := 3) (q := 1146) dL_law_1145 rfl rfl rfl ?_
  refine wk_iconst (q := 1147) dL_law_1146 rfl ?_
  refine wk_iadd (q := 1148) dL_law_1147 rfl ?_
  refine wk_sld (q := 1149) dL_law_1148 rfl (by omega) hL ?_
  refine wk_cZ1 (q := 1152) dL_law_1149 rfl vl_L_139 ⟨_, _, rfl⟩ hM.ob (om_tell hQ hM2 (by first | exact sc_in _ | decide)) ⟨Nat.le_of_ble_eq_true rfl, Nat.le_of_ble_eq_true rfl, hk, hj⟩ (Nat.le_of_ble_eq_true rfl) (fun v1149 I1149 L1149 R1149 hv1149 => ?_)
  obtain ⟨eb, hM3, gI, gL, gR⟩ := hv1149
  subst ea eb
  have hN := h.step hC fR hM3 gI gL gR
  refine wk_icmp_same (t := 1262) dL_law_1152 rfl ?_
  exact K _ _ _ _ hN
theorem lc_29 (hk : k ≤ 600000) (hj : j ≤ 7302250) (hL : N ≤ 3072) (h0 : 0 ≤ i) (h1 : i + 6 ≤ N) (h : LI E n sh x m I L R V) (K : ∀ I' L' R' V', LI E n sh x m I' L' R' V' → Wk l E (lwY E Q b N xs) mL k j 1262 [(0, .ref b), (1, .ref x), (2, .ref m), (3, .int (zI i))] [] (n, sh, I', L', R')) : Wk l E (lwY E Q b N xs) mL k j 1157 [(0, .ref b), (1, .ref x), (2, .ref m), (3, .int (zI i))] [] (n, sh, I, L, R) := by
  have hX := h
  have hM := h.2.2.1
  refine wk_aload_n (i := 1) (q := 1158) dL_law_1157 rfl rfl rfl ?_
  refine wk_aload_n (i := 0) (q := 1159) dL_law_1158 rfl rfl rfl ?_
  refine wk_iload_n (i := 3) (q := 1160) dL_law_1159 rfl rfl rfl ?_
  refine wk_iconst (q := 1161) dL_law_1160 rfl ?_
  refine wk_iadd (q := 1162) dL_law_1161 rfl ?_
  refine wk_sld (q := 1163) dL_law_1162 rfl (by omega) hL ?_
  refine wk_cZ1 (q := 1166) dL_law_1163 rfl vl_L_140 ⟨_, _, rfl⟩ hX.ob (oc_greet h.1 (by first | exact sc_in _ | decide)) ⟨Nat.le_of_ble_eq_true rfl, Nat.le_of_ble_eq_true rfl, hk, hj⟩ (Nat.le_of_ble_eq_true rfl) (fun v1163 I1163 L1163 R1163 hv1163 => ?_)
  obtain ⟨ea, hC, fI, fR⟩ := hv1163
  have hM2 := h.2.1.frm h.2.2.2 fI
  have hQ := h.2.2.1.frm h.2.2.2 fR
  refine wk_aload_n (i := 2) (q := 1167) dL_law_1166 rfl rfl rfl ?_
  refine wk_aload_n (i := 0) (q := 1168) dL_law_1167 rfl rfl rfl ?_
  refine wk_iload_n (i := 3) (q := 1169) dL_law_1168 rfl rfl rfl ?_
  refine wk_iconst (q := 1170) dL_law_1169 rfl ?_
  refine wk_iadd (q := 1171) dL_law_1170 rfl ?_
  refine wk_sld (q := 1172) dL_law_1171 rfl (by omega) hL ?_
  refine wk_cZ1 (q := 1175) dL_law_1172 rfl vl_L_143 ⟨_, _, rfl⟩ hM.ob (om_greet hQ hM2 (by first | exact sc_in _ | decide)) ⟨Nat.le_of_ble_eq_true rfl, Nat.le_of_ble_eq_true rfl, hk, hj⟩ (Nat.le_of_ble_eq_true rfl) (fun v1172 I1172 L1172 R1172 hv1172 => ?_)
  obtain ⟨eb, hM3, gI, gL, gR⟩ := hv1172
  subst ea eb
  have hN := h.step hC fR hM3 gI gL gR
  refine wk_icmp_same (t := 1262) dL_law_1175 rfl ?_
  exact K _ _ _ _ hN
theorem lc_30 (hk : k ≤ 600000) (hj : j ≤ 7302250) (hL : N ≤ 3072) (h0 : 0 ≤ i) (h1 : i + 6 ≤ N) (h : LI E n sh x m I L R V) (K : ∀ I' L' R' V', LI E n sh x m I' L' R' V' → Wk l E (lwY E Q b N xs) mL k j 1262 [(0, .ref b), (1, .ref x), (2, .ref m), (3, .int (zI i))] [] (n, sh, I', L', R')) : Wk l E (lwY E Q b N xs) mL k j 1180 [(0, .ref b), (1, .ref x), (2, .ref m), (3, .int (zI i))] [] (n, sh, I, L, R) := by
  have hX := h
  have hM := h.2.2.1
  refine wk_aload_n (i := 1) (q := 1181) dL_law_1180 rfl rfl rfl ?_
  refine wk_aload_n (i := 0) (q := 1182) dL_law_1181 rfl rfl rfl ?_
  refine wk_iload_n (i := 3) (q := 1183) dL_law_1182 rfl rfl rfl ?_
  refine wk_iconst (q := 1184) dL_law_1183 rfl ?_
  refine wk_iadd (q := 1185) dL_law_1184 rfl ?_
  refine wk_sld (q := 1186) dL_law_1185 rfl (by omega) hL ?_
  refine wk_aload_n (i := 0) (q := 1187) dL_law_1186 rfl rfl rfl ?_
  refine wk_iload_n (i := 3) (q := 1188) dL_law_1187 rfl rfl rfl ?_
  refine wk_iconst (q := 1189) dL_law_1188 rfl ?_
  refine wk_iadd (q := 1190) dL_law_1189 rfl ?_
  refine wk_sld (q := 1191) dL_law_1190 rfl (by omega) hL ?_
  refine wk_cZ2 (q := 1194) dL_law_1191 rfl vl_L_144 ⟨_, _, rfl⟩ hX.ob (oc_as h.1 (by first | exact sc_in _ | decide) (by first | exact sc_in _ | decide)) ⟨Nat.le_of_ble_eq_true rfl, Nat.le_of_ble_eq_true rfl, hk, hj⟩ (Nat.le_of_ble_eq_true rfl) (fun v1191 I1191 L1191 R1191 hv1191 => ?_)
  obtain ⟨ea, hC, fI, fR⟩ := hv1191
  have hM2 := h.2.1.frm h.2.2.2 fI
  have hQ := h.2.2.1.frm h.2.2.2 fR
  refine wk_aload_n (i := 2) (q := 1195) dL_law_1194 rfl rfl rfl ?_
  refine wk_aload_n (i := 0) (q := 1196) dL_law_1195 rfl rfl rfl ?_
  refine wk_iload_n (i := 3) (q := 1197) dL_law_1196 rfl rfl rfl ?_
  refine wk_iconst (q := 1198) dL_law_1197 rfl ?_
  refine wk_iadd (q := 1199) dL_law_1198 rfl ?_
  refine wk_sld (q := 1200) dL_law_1199 rfl (by omega) hL ?_
  refine wk_aload_n (i := 0) (q := 1201) dL_law_1200 rfl rfl rfl ?_
  refine wk_iload_n (i := 3) (q := 1202) dL_law_1201 rfl rfl rfl ?_
  refine wk_iconst (q := 1203) dL_law_1202 rfl ?_
  refine wk_iadd (q := 1204) dL_law_1203 rfl ?_
  refine wk_sld (q := 1205) dL_law_1204 rfl (by omega) hL ?_
  refine wk_cZ2 (q := 1208) dL_law_1205 rfl vl_L_147 ⟨_, _, rfl⟩ hM.ob (om_as hQ hM2 (by first | exact sc_in _ | decide) (by first | exact sc_in _ | decide)) ⟨Nat.le_of_ble_eq_true rfl, Nat.le_of_ble_eq_true rfl, hk, hj⟩ (Nat.le_of_ble_eq_true rfl) (fun v1205 I1205 L1205 R1205 hv1205 => ?_)
  obtain ⟨eb, hM3, gI, gL, gR⟩ := hv1205
  subst ea eb
  have hN := h.step hC fR hM3 gI gL gR
  refine wk_icmp_same (t := 1262) dL_law_1208 rfl ?_
  exact K _ _ _ _ hN
theorem lc_31 (hk : k ≤ 600000) (hj : j ≤ 7302250) (hL : N ≤ 3072) (h0 : 0 ≤ i) (h1 : i + 6 ≤ N) (h : LI E n sh x m I L R V) (K : ∀ I' L' R' V', LI E n sh x m I' L' R' V' → Wk l E (lwY E Q b N xs) mL k j 1262 [(0, .ref b), (1, .ref x), (2, .ref m), (3, .int (zI i))] [] (n, sh, I', L', R')) : Wk l E (lwY E Q b N xs) mL k j 1213 [(0, .ref b), (1, .ref x), (2, .ref m), (3, .int (zI i))] [] (n, sh, I, L, R) := by
  have hX := h
  have hM := h.2.2.1
  refine wk_aload_n (i := 1) (q := 1214) dL_law_1213 rfl rfl rfl ?_
  refine wk_cP0 (q := 1217) dL_law_1214 rfl vl_L_148 ⟨_, _, rfl⟩ hX.ob (oc_trace h.1 ) ⟨Nat.le_of_ble_eq_true rfl, Nat.le_of_ble_eq_true rfl, hk, hj⟩ (Nat.le_of_ble_eq_true rfl) (fun v1214 hv1214 => ?_)
  subst hv1214
  refine wk_aload_n (i := 2) (q := 1218) dL_law_1217 rfl rfl rfl ?_
  refine wk_cP0 (q := 1221) dL_law_1218 rfl vl_L_151 ⟨_, _, rfl⟩ hM.ob (om_trace hM h.2.1 ) ⟨Nat.le_of_ble_eq_true rfl, Nat.le_of_ble_eq_true rfl, hk, hj⟩ (Nat.le_of_ble_eq_true rfl) (fun v1218 hv1218 => ?_)
  subst hv1218
  refine wk_icmp_same (t := 1262) dL_law_1221 rfl ?_
  exact K _ _ _ _ h
theorem lc_32 (hk : k ≤ 600000) (hj : j ≤ 7302250) (hL : N ≤ 3072) (h0 : 0 ≤ i) (h1 : i + 6 ≤ N) (h : LI E n sh x m I L R V) (K : ∀ I' L' R' V', LI E n sh x m I' L' R' V' → Wk l E (lwY E Q b N xs) mL k j 1262 [(0, .ref b), (1, .ref x), (2, .ref m), (3, .int (zI i))] [] (n, sh, I', L', R')) : Wk l E (lwY E Q b N xs) mL k j 1226 [(0, .ref b), (1, .ref x), (2, .ref m), (3, .int (zI i))] [] (n, sh, I, L, R) := by
  have hX := h
  have hM := h.2.2.1
  refine wk_aload_n (i := 1) (q := 1227) dL_law_1226 rfl rfl rfl ?_
  refine wk_cP0 (q := 1230) dL_law_1227 rfl vl_L_152 ⟨_, _, rfl⟩ hX.ob (oc_fault h.1 ) ⟨Nat.le_of_ble_eq_true rfl, Nat.le_of_ble_eq_true rfl, hk, hj⟩ (Nat.le_of_ble_eq_true rfl) (fun v1227 hv1227 => ?_)
  subst hv1227
  refine wk_aload_n (i := 2) (q := 1231) dL_law_1230 rfl rfl rfl ?_
  refine wk_cP0 (q := 1234) dL_law_1231 rfl vl_L_155 ⟨_, _, rfl⟩ hM.ob (om_fault hM h.2.1 ) ⟨Nat.le_of_ble_eq_true rfl, Nat.le_of_ble_eq_true rfl, hk, hj⟩ (Nat.le_of_ble_eq_true rfl) (fun v1231 hv1231 => ?_)
  subst hv1231
  refine wk_icmp_same (t := 1262) dL_law_1234 rfl ?_
  exact K _ _ _ _ h
theorem lc_33 (hk : k ≤ 600000) (hj : j ≤ 7302250) (hL : N ≤ 3072) (h0 : 0 ≤ i) (h1 : i + 6 ≤ N) (h : LI E n sh x m I L R V) (K : ∀ I' L' R' V', LI E n sh x m I' L' R' V' → Wk l E (lwY E Q b N xs) mL k j 1262 [(0, .ref b), (1, .ref x), (2, .ref m), (3, .int (zI i))] [] (n, sh, I', L', R')) : Wk l E (lwY E Q b N xs) mL k j 1239 [(0, .ref b), (1, .ref x), (2, .ref m), (3, .int (zI i))] [] (n, sh, I, L, R) := by
  have hX := h
  have hM := h.2.2.1
  refine wk_aload_n (i := 1) (q := 1240) dL_law_1239 rfl rfl rfl ?_
  refine wk_aload_n (i := 0) (q := 1241) dL_law_1240 rfl rfl rfl ?_
  refine wk_iload_n (i := 3) (q := 1242) dL_law_1241 rfl rfl rfl ?_
  refine wk_iconst (q := 1243) dL_law_1242 rfl ?_
  refine wk_iadd (q := 1244) dL_law_1243 rfl ?_
  refine wk_sld (q := 1245) dL_law_1244 rfl (by omega) hL ?_
  refine wk_cP1 (q := 1248) dL_law_1245 rfl vl_L_156 ⟨_, _, rfl⟩ hX.ob (oc_many h.1 (by first | exact sc_in _ | decide)) ⟨Nat.le_of_ble_eq_true rfl, Nat.le_of_ble_eq_true rfl, hk, hj⟩ (Nat.le_of_ble_eq_true rfl) (fun v1245 hv1245 => ?_)
  subst hv1245
  refine wk_aload_n (i := 2) (q := 1249) dL_law_1248 rfl rfl rfl ?_
  refine wk_aload_n (i := 0) (q := 1250) dL_law_1249 rfl rfl rfl ?_
  refine wk_iload_n (i := 3) (q := 1251) dL_law_1250 rfl rfl rfl ?_
  refine wk_iconst (q := 1252) dL_law_1251 rfl ?_
  refine wk_iadd (q := 1253) dL_law_1252 rfl ?_
  refine wk_sld (q := 1254) dL_law_1253 rfl (by omega) hL ?_
  refine wk_cP1 (q := 1257) dL_law_1254 rfl vl_L_159 ⟨_, _, rfl⟩ hM.ob (om_many hM h.2.1 (by first | exact sc_in _ | decide)) ⟨Nat.le_of_ble_eq_true rfl, Nat.le_of_ble_eq_true rfl, hk, hj⟩ (Nat.le_of_ble_eq_true rfl) (fun v1254 hv1254 => ?_)
  subst hv1254
  refine wk_icmp_same (t := 1262) dL_law_1257 rfl ?_
  exact K _ _ _ _ h
end LAW3
