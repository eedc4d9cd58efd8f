/-! ===== the law, call by call ===== -/
section LWC
def tyA (G : GT) (i : Int) : Int := (Int64.ofInt (scI G (i + 1).toNat) <<< ((Int32.ofInt 32).toInt64 &&& 63)).toInt
def tyC (G : GT) (i : Int) : Int := (Int64.ofInt (scI G (i + 2).toNat) &&& Int64.ofInt 4294967295).toInt
def tyV (G : GT) (i : Int) : Int := (Int64.ofInt (tyA G i) ||| Int64.ofInt (tyC G i)).toInt
variable {G : GT} {h : Hp} {Q : PT} {s : SS} {nm : String} {b Ln : Nat} {i : Int} {c0 s0 n : Nat}
/-- what goes on behind a call -/
def nxt (G : GT) (nm : String) (i : Int) (c0 s0 : Nat) (Q : PT) : Prop := ∀ h n s, isC h n s → isM h s → gd s → At G (mLw nm) 1099 [vO 25, vR 0, vR 45, vI i] [] (c0, s0, n) h Q
theorem law_person (hG1 : G.2.2.2.2 25 = some b) (hG2 : G.2.2.2.2 26 = some Ln) (hG3 : Ln < 2147483648) (hi : 0 ≤ i ∧ i + 5 ≤ Ln) (hA : c0 ≤ 600000) (hB : s0 ≤ 7302250) (hC : isC h n s) (hM : isM h s) (hg : gd s) (hN : nxt G nm i c0 s0 Q) : At G (mLw nm) 176 [vO 25, vR 0, vR 45, vI i] [] (c0, s0, n) h Q := by
  have d0 := hC.1
  obtain ⟨e, it, g45, -⟩ := id hM.raw
  have hM' := g45
  unfold mF at hM'
  have a1 := scI_in G (i + 1).toNat
  have a2 := scI_in G (i + 2).toNat
  have a3 := scI_in G (i + 3).toNat
  have a4 := scI_in G (i + 4).toNat
  refine r_aload_n (pc := 176) dL_law_176 rfl <| r_aload_nO (pc := 177) dL_law_177 rfl <| r_iload_n (pc := 178) dL_law_178 rfl <| r_iconst (pc := 179) dL_law_179 <| r_iadd (pc := 180) dL_law_180 <| r_sld (pc := 181) dL_law_181 hG1 hG2 hG3 (by omega) <| r_aload_nO (pc := 182) dL_law_182 rfl <| r_iload_n (pc := 183) dL_law_183 rfl <| r_iconst (pc := 184) dL_law_184 <| r_iadd (pc := 185) dL_law_185 <| r_sld (pc := 186) dL_law_186 hG1 hG2 hG3 (by omega) <| r_aload_nO (pc := 187) dL_law_187 rfl <| r_iload_n (pc := 188) dL_law_188 rfl <| r_iconst (pc := 189) dL_law_189 <| r_iadd (pc := 190) dL_law_190 <| r_sld (pc := 191) dL_law_191 hG1 hG2 hG3 (by omega) <| r_aload_nO (pc := 192) dL_law_192 rfl <| r_iload_n (pc := 193) dL_law_193 rfl <| r_iconst (pc := 194) dL_law_194 <| r_iadd (pc := 195) dL_law_195 <| r_sld (pc := 196) dL_law_196 hG1 hG2 hG3 (by omega) <| cVi [_, _, _, _] (pc := 197) dL_law_197 k_L_13 ⟨⟨Nat.le_of_ble_eq_true rfl, Nat.le_of_ble_eq_true rfl⟩, ⟨hA, hB⟩, Nat.le_of_ble_eq_true rfl⟩ ⟨rfl, rfl⟩ d0 ?_
  refine cs_person hC hg.1 (scI_in _ _) (scI_in _ _) (scI_in _ _) (scI_in _ _) (fun h1 k1 k2 => ?_)
  refine ⟨_, rfl, ?_⟩
  have k3 := hM.cr k2
  obtain ⟨e, it, g45, -⟩ := id k3.raw
  clear d0
  have d0 := k1.1
  clear hM'
  have hM' := g45
  unfold mF at hM'
  refine r_aload_n (pc := 200) dL_law_200 rfl <| r_aload_nO (pc := 201) dL_law_201 rfl <| r_iload_n (pc := 202) dL_law_202 rfl <| r_iconst (pc := 203) dL_law_203 <| r_iadd (pc := 204) dL_law_204 <| r_sld (pc := 205) dL_law_205 hG1 hG2 hG3 (by omega) <| r_aload_nO (pc := 206) dL_law_206 rfl <| r_iload_n (pc := 207) dL_law_207 rfl <| r_iconst (pc := 208) dL_law_208 <| r_iadd (pc := 209) dL_law_209 <| r_sld (pc := 210) dL_law_210 hG1 hG2 hG3 (by omega) <| r_aload_nO (pc := 211) dL_law_211 rfl <| r_iload_n (pc := 212) dL_law_212 rfl <| r_iconst (pc := 213) dL_law_213 <| r_iadd (pc := 214) dL_law_214 <| r_sld (pc := 215) dL_law_215 hG1 hG2 hG3 (by omega) <| r_aload_nO (pc := 216) dL_law_216 rfl <| r_iload_n (pc := 217) dL_law_217 rfl <| r_iconst (pc := 218) dL_law_218 <| r_iadd (pc := 219) dL_law_219 <| r_sld (pc := 220) dL_law_220 hG1 hG2 hG3 (by omega) <| cVi [_, _, _, _] (pc := 221) dL_law_221 k_L_17 ⟨⟨Nat.le_of_ble_eq_true rfl, Nat.le_of_ble_eq_true rfl⟩, ⟨hA, hB⟩, Nat.le_of_ble_eq_true rfl⟩ ⟨rfl, rfl⟩ hM' ?_
  refine ms_person k3 hg.1 (scI_in _ _) (scI_in _ _) (scI_in _ _) (scI_in _ _) (fun h2 m1 m2 => ?_)
  refine ⟨_, rfl, ?_⟩
  refine r_eqS (pc := 224) 1099 dL_law_224 (by decide) <| ?_
  exact hN _ _ _ (k1.mr m2) m1 (gd_person hg)
theorem law_counts (hG1 : G.2.2.2.2 25 = some b) (hG2 : G.2.2.2.2 26 = some Ln) (hG3 : Ln < 2147483648) (hi : 0 ≤ i ∧ i + 5 ≤ Ln) (hA : c0 ≤ 600000) (hB : s0 ≤ 7302250) (hC : isC h n s) (hM : isM h s) (hg : gd s) (hN : nxt G nm i c0 s0 Q) : At G (mLw nm) 229 [vO 25, vR 0, vR 45, vI i] [] (c0, s0, n) h Q := by
  have d0 := hC.1
  obtain ⟨e, it, g45, -⟩ := id hM.raw
  have hM' := g45
  unfold mF at hM'
  have a1 := scI_in G (i + 1).toNat
  have a2 := scI_in G (i + 2).toNat
  have a3 := scI_in G (i + 3).toNat
  have a4 := scI_in G (i + 4).toNat
  refine r_aload_n (pc := 229) dL_law_229 rfl <| r_aload_nO (pc := 230) dL_law_230 rfl <| r_iload_n (pc := 231) dL_law_231 rfl <| r_iconst (pc := 232) dL_law_232 <| r_iadd (pc := 233) dL_law_233 <| r_sld (pc := 234) dL_law_234 hG1 hG2 hG3 (by omega) <| r_aload_nO (pc := 235) dL_law_235 rfl <| r_iload_n (pc := 236) dL_law_236 rfl <| r_iconst (pc := 237) dL_law_237 <| r_iadd (pc := 238) dL_law_238 <| r_sld (pc := 239) dL_law_239 hG1 hG2 hG3 (by omega) <| cVi [_, _] (pc := 240) dL_law_240 k_L_18 ⟨⟨Nat.le_of_ble_eq_true rfl, Nat.le_of_ble_eq_true rfl⟩, ⟨hA, hB⟩, Nat.le_of_ble_eq_true rfl⟩ ⟨rfl, rfl⟩ d0 ?_
  refine cs_counts hC hg.1 (scI_in _ _) (scI_in _ _) (fun h1 k1 k2 => ?_)
  refine ⟨_, rfl, ?_⟩
  have k3 := hM.cr k2
  obtain ⟨e, it, g45, -⟩ := id k3.raw
  clear d0
  have d0 := k1.1
  clear hM'
  have hM' := g45
  unfold mF at hM'
  refine r_aload_n (pc := 243) dL_law_243 rfl <| r_aload_nO (pc := 244) dL_law_244 rfl <| r_iload_n (pc := 245) dL_law_245 rfl <| r_iconst (pc := 246) dL_law_246 <| r_iadd (pc := 247) dL_law_247 <| r_sld (pc := 248) dL_law_248 hG1 hG2 hG3 (by omega) <| r_aload_nO (pc := 249) dL_law_249 rfl <| r_iload_n (pc := 250) dL_law_250 rfl <| r_iconst (pc := 251) dL_law_251 <| r_iadd (pc := 252) dL_law_252 <| r_sld (pc := 253) dL_law_253 hG1 hG2 hG3 (by omega) <| cVi [_, _] (pc := 254) dL_law_254 k_L_22 ⟨⟨Nat.le_of_ble_eq_true rfl, Nat.le_of_ble_eq_true rfl⟩, ⟨hA, hB⟩, Nat.le_of_ble_eq_true rfl⟩ ⟨rfl, rfl⟩ hM' ?_
  refine ms_counts k3 hg.1 (scI_in _ _) (scI_in _ _) (fun h2 m1 m2 => ?_)
  refine ⟨_, rfl, ?_⟩
  refine r_eqS (pc := 257) 1099 dL_law_257 (by decide) <| ?_
  exact hN _ _ _ (k1.mr m2) m1 (gd_counts hg)
theorem law_owe (hG1 : G.2.2.2.2 25 = some b) (hG2 : G.2.2.2.2 26 = some Ln) (hG3 : Ln < 2147483648) (hi : 0 ≤ i ∧ i + 5 ≤ Ln) (hA : c0 ≤ 600000) (hB : s0 ≤ 7302250) (hC : isC h n s) (hM : isM h s) (hg : gd s) (hN : nxt G nm i c0 s0 Q) : At G (mLw nm) 262 [vO 25, vR 0, vR 45, vI i] [] (c0, s0, n) h Q := by
  have d0 := hC.1
  obtain ⟨e, it, g45, -⟩ := id hM.raw
  have hM' := g45
  unfold mF at hM'
  have a1 := scI_in G (i + 1).toNat
  have a2 := scI_in G (i + 2).toNat
  have a3 := scI_in G (i + 3).toNat
  have a4 := scI_in G (i + 4).toNat
  refine r_aload_n (pc := 262) dL_law_262 rfl <| r_aload_nO (pc := 263) dL_law_263 rfl <| r_iload_n (pc := 264) dL_law_264 rfl <| r_iconst (pc := 265) dL_law_265 <| r_iadd (pc := 266) dL_law_266 <| r_sld (pc := 267) dL_law_267 hG1 hG2 hG3 (by omega) <| r_aload_nO (pc := 268) dL_law_268 rfl <| r_iload_n (pc := 269) dL_law_269 rfl <| r_iconst (pc := 270) dL_law_270 <| r_iadd (pc := 271) dL_law_271 <| r_sld (pc := 272) dL_law_272 hG1 hG2 hG3 (by omega) <| r_aload_nO (pc := 273) dL_law_273 rfl <| r_iload_n (pc := 274) dL_law_274 rfl <| r_iconst (pc := 275) dL_law_275 <| r_iadd (pc := 276) dL_law_276 <| r_sld (pc := 277) dL_law_277 hG1 hG2 hG3 (by omega) <| cVi [_, _, _] (pc := 278) dL_law_278 k_L_23 ⟨⟨Nat.le_of_ble_eq_true rfl, Nat.le_of_ble_eq_true rfl⟩, ⟨hA, hB⟩, Nat.le_of_ble_eq_true rfl⟩ ⟨rfl, rfl⟩ d0 ?_
  refine cs_owe hC hg.1 (scI_in _ _) (scI_in _ _) (scI_in _ _) (fun h1 k1 k2 => ?_)
  refine ⟨_, rfl, ?_⟩
  have k3 := hM.cr k2
  obtain ⟨e, it, g45, -⟩ := id k3.raw
  clear d0
  have d0 := k1.1
  clear hM'
  have hM' := g45
  unfold mF at hM'
  refine r_aload_n (pc := 281) dL_law_281 rfl <| r_aload_nO (pc := 282) dL_law_282 rfl <| r_iload_n (pc := 283) dL_law_283 rfl <| r_iconst (pc := 284) dL_law_284 <| r_iadd (pc := 285) dL_law_285 <| r_sld (pc := 286) dL_law_286 hG1 hG2 hG3 (by omega) <| r_aload_nO (pc := 287) dL_law_287 rfl <| r_iload_n (pc := 288) dL_law_288 rfl <| r_iconst (pc := 289) dL_law_289 <| r_iadd (pc := 290) dL_law_290 <| r_sld (pc := 291) dL_law_291 hG1 hG2 hG3 (by omega) <| r_aload_nO (pc := 292) dL_law_292 rfl <| r_iload_n (pc := 293) dL_law_293 rfl <| r_iconst (pc := 294) dL_law_294 <| r_iadd (pc := 295) dL_law_295 <| r_sld (pc := 296) dL_law_296 hG1 hG2 hG3 (by omega) <| cVi [_, _, _] (pc := 297) dL_law_297 k_L_27 ⟨⟨Nat.le_of_ble_eq_true rfl, Nat.le_of_ble_eq_true rfl⟩, ⟨hA, hB⟩, Nat.le_of_ble_eq_true rfl⟩ ⟨rfl, rfl⟩ hM' ?_
  refine ms_owe k3 hg.1 (scI_in _ _) (scI_in _ _) (scI_in _ _) (fun h2 m1 m2 => ?_)
  refine ⟨_, rfl, ?_⟩
  refine r_eqS (pc := 300) 1099 dL_law_300 (by decide) <| ?_
  exact hN _ _ _ (k1.mr m2) m1 (gd_owe hg)
theorem law_owes (hG1 : G.2.2.2.2 25 = some b) (hG2 : G.2.2.2.2 26 = some Ln) (hG3 : Ln < 2147483648) (hi : 0 ≤ i ∧ i + 5 ≤ Ln) (hA : c0 ≤ 600000) (hB : s0 ≤ 7302250) (hC : isC h n s) (hM : isM h s) (hg : gd s) (hN : nxt G nm i c0 s0 Q) : At G (mLw nm) 305 [vO 25, vR 0, vR 45, vI i] [] (c0, s0, n) h Q := by
  have d0 := hC.1
  obtain ⟨e, it, g45, -⟩ := id hM.raw
  have hM' := g45
  unfold mF at hM'
  have a1 := scI_in G (i + 1).toNat
  have a2 := scI_in G (i + 2).toNat
  have a3 := scI_in G (i + 3).toNat
  have a4 := scI_in G (i + 4).toNat
  refine r_aload_n (pc := 305) dL_law_305 rfl <| r_aload_nO (pc := 306) dL_law_306 rfl <| r_iload_n (pc := 307) dL_law_307 rfl <| r_iconst (pc := 308) dL_law_308 <| r_iadd (pc := 309) dL_law_309 <| r_sld (pc := 310) dL_law_310 hG1 hG2 hG3 (by omega) <| r_aload_nO (pc := 311) dL_law_311 rfl <| r_iload_n (pc := 312) dL_law_312 rfl <| r_iconst (pc := 313) dL_law_313 <| r_iadd (pc := 314) dL_law_314 <| r_sld (pc := 315) dL_law_315 hG1 hG2 hG3 (by omega) <| cVi [_, _] (pc := 316) dL_law_316 k_L_28 ⟨⟨Nat.le_of_ble_eq_true rfl, Nat.le_of_ble_eq_true rfl⟩, ⟨hA, hB⟩, Nat.le_of_ble_eq_true rfl⟩ ⟨rfl, rfl⟩ d0 ?_
  refine cs_owes hC hg.1 (scI_in _ _) (scI_in _ _) (fun h1 k1 k2 => ?_)
  refine ⟨_, rfl, ?_⟩
  have k3 := hM.cr k2
  obtain ⟨e, it, g45, -⟩ := id k3.raw
  clear d0
  have d0 := k1.1
  clear hM'
  have hM' := g45
  unfold mF at hM'
  refine r_aload_n (pc := 319) dL_law_319 rfl <| r_aload_nO (pc := 320) dL_law_320 rfl <| r_iload_n (pc := 321) dL_law_321 rfl <| r_iconst (pc := 322) dL_law_322 <| r_iadd (pc := 323) dL_law_323 <| r_sld (pc := 324) dL_law_324 hG1 hG2 hG3 (by omega) <| r_aload_nO (pc := 325) dL_law_325 rfl <| r_iload_n (pc := 326) dL_law_326 rfl <| r_iconst (pc := 327) dL_law_327 <| r_iadd (pc := 328) dL_law_328 <| r_sld (pc := 329) dL_law_329 hG1 hG2 hG3 (by omega) <| cVi [_, _] (pc := 330) dL_law_330 k_L_31 ⟨⟨Nat.le_of_ble_eq_true rfl, Nat.le_of_ble_eq_true rfl⟩, ⟨hA, hB⟩, Nat.le_of_ble_eq_true rfl⟩ ⟨rfl, rfl⟩ hM' ?_
  refine ms_owes k3 hg.1 (scI_in _ _) (scI_in _ _) (fun h2 m1 m2 => ?_)
  refine ⟨_, rfl, ?_⟩
  refine r_eqS (pc := 333) 1099 dL_law_333 (by decide) <| ?_
  exact hN _ _ _ (k1.mr m2) m1 (gd_owes hg)
theorem law_type (hG1 : G.2.2.2.2 25 = some b) (hG2 : G.2.2.2.2 26 = some Ln) (hG3 : Ln < 2147483648) (hi : 0 ≤ i ∧ i + 5 ≤ Ln) (hA : c0 ≤ 600000) (hB : s0 ≤ 7302250) (hC : isC h n s) (hM : isM h s) (hg : gd s) (hN : nxt G nm i c0 s0 Q) : At G (mLw nm) 338 [vO 25, vR 0, vR 45, vI i] [] (c0, s0, n) h Q := by
  have d0 := hC.1
  obtain ⟨e, it, g45, -⟩ := id hM.raw
  have hM' := g45
  unfold mF at hM'
  have a1 := scI_in G (i + 1).toNat
  have a2 := scI_in G (i + 2).toNat
  have a3 := scI_in G (i + 3).toNat
  have a4 := scI_in G (i + 4).toNat
  refine r_aload_n (pc := 338) dL_law_338 rfl <| r_aload_nO (pc := 339) dL_law_339 rfl <| r_iload_n (pc := 340) dL_law_340 rfl <| r_iconst (pc := 341) dL_law_341 <| r_iadd (pc := 342) dL_law_342 <| r_sld (pc := 343) dL_law_343 hG1 hG2 hG3 (by omega) <| r_i2l (pc := 344) dL_law_344 (by omega) <| r_bipush (pc := 345) dL_law_345 (by decide) <| r_lshl (pc := 347) (tyA G i) dL_law_347 (Int64.ofInt_toInt _).symm <| r_aload_nO (pc := 348) dL_law_348 rfl <| r_iload_n (pc := 349) dL_law_349 rfl <| r_iconst (pc := 350) dL_law_350 <| r_iadd (pc := 351) dL_law_351 <| r_sld (pc := 352) dL_law_352 hG1 hG2 hG3 (by omega) <| r_i2l (pc := 353) dL_law_353 (by omega) <| r_ldc2 (pc := 354) dL_law_354 cT_L_32 <| r_land (pc := 357) (tyC G i) dL_law_357 (Int64.ofInt_toInt _).symm <| r_lor (pc := 358) (tyV G i) dL_law_358 (Int64.ofInt_toInt _).symm <| r_aload_nO (pc := 359) dL_law_359 rfl <| r_iload_n (pc := 360) dL_law_360 rfl <| r_iconst (pc := 361) dL_law_361 <| r_iadd (pc := 362) dL_law_362 <| r_sld (pc := 363) dL_law_363 hG1 hG2 hG3 (by omega) <| cVi [_, _] (pc := 364) dL_law_364 k_L_34 ⟨⟨Nat.le_of_ble_eq_true rfl, Nat.le_of_ble_eq_true rfl⟩, ⟨hA, hB⟩, Nat.le_of_ble_eq_true rfl⟩ ⟨rfl, rfl⟩ d0 ?_
  refine cs_type hC hg.1 (scI_in _ _) (fun h1 k1 k2 => ?_)
  refine ⟨_, rfl, ?_⟩
  have k3 := hM.cr k2
  obtain ⟨e, it, g45, -⟩ := id k3.raw
  clear d0
  have d0 := k1.1
  clear hM'
  have hM' := g45
  unfold mF at hM'
  refine r_aload_n (pc := 367) dL_law_367 rfl <| r_aload_nO (pc := 368) dL_law_368 rfl <| r_iload_n (pc := 369) dL_law_369 rfl <| r_iconst (pc := 370) dL_law_370 <| r_iadd (pc := 371) dL_law_371 <| r_sld (pc := 372) dL_law_372 hG1 hG2 hG3 (by omega) <| r_i2l (pc := 373) dL_law_373 (by omega) <| r_bipush (pc := 374) dL_law_374 (by decide) <| r_lshl (pc := 376) (tyA G i) dL_law_376 (Int64.ofInt_toInt _).symm <| r_aload_nO (pc := 377) dL_law_377 rfl <| r_iload_n (pc := 378) dL_law_378 rfl <| r_iconst (pc := 379) dL_law_379 <| r_iadd (pc := 380) dL_law_380 <| r_sld (pc := 381) dL_law_381 hG1 hG2 hG3 (by omega) <| r_i2l (pc := 382) dL_law_382 (by omega) <| r_ldc2 (pc := 383) dL_law_383 cT_L_32 <| r_land (pc := 386) (tyC G i) dL_law_386 (Int64.ofInt_toInt _).symm <| r_lor (pc := 387) (tyV G i) dL_law_387 (Int64.ofInt_toInt _).symm <| r_aload_nO (pc := 388) dL_law_388 rfl <| r_iload_n (pc := 389) dL_law_389 rfl <| r_iconst (pc := 390) dL_law_390 <| r_iadd (pc := 391) dL_law_391 <| r_sld (pc := 392) dL_law_392 hG1 hG2 hG3 (by omega) <| cVi [_, _] (pc := 393) dL_law_393 k_L_38 ⟨⟨Nat.le_of_ble_eq_true rfl, Nat.le_of_ble_eq_true rfl⟩, ⟨hA, hB⟩, Nat.le_of_ble_eq_true rfl⟩ ⟨rfl, rfl⟩ hM' ?_
  refine ms_type k3 hg.1 (scI_in _ _) (fun h2 m1 m2 => ?_)
  refine ⟨_, rfl, ?_⟩
  refine r_eqS (pc := 396) 1099 dL_law_396 (by decide) <| ?_
  exact hN _ _ _ (k1.mr m2) m1 (gd_type hg)
theorem law_clear (hG1 : G.2.2.2.2 25 = some b) (hG2 : G.2.2.2.2 26 = some Ln) (hG3 : Ln < 2147483648) (hi : 0 ≤ i ∧ i + 5 ≤ Ln) (hA : c0 ≤ 600000) (hB : s0 ≤ 7302250) (hC : isC h n s) (hM : isM h s) (hg : gd s) (hN : nxt G nm i c0 s0 Q) : At G (mLw nm) 401 [vO 25, vR 0, vR 45, vI i] [] (c0, s0, n) h Q := by
  have d0 := hC.1
  obtain ⟨e, it, g45, -⟩ := id hM.raw
  have hM' := g45
  unfold mF at hM'
  have a1 := scI_in G (i + 1).toNat
  have a2 := scI_in G (i + 2).toNat
  have a3 := scI_in G (i + 3).toNat
  have a4 := scI_in G (i + 4).toNat
  refine r_aload_n (pc := 401) dL_law_401 rfl <| cVi [] (pc := 402) dL_law_402 k_L_39 ⟨⟨Nat.le_of_ble_eq_true rfl, Nat.le_of_ble_eq_true rfl⟩, ⟨hA, hB⟩, Nat.le_of_ble_eq_true rfl⟩ ⟨rfl, rfl⟩ d0 ?_
  refine cs_clear hC (fun h1 k1 k2 => ?_)
  refine ⟨_, rfl, ?_⟩
  have k3 := hM.cr k2
  obtain ⟨e, it, g45, -⟩ := id k3.raw
  clear d0
  have d0 := k1.1
  clear hM'
  have hM' := g45
  unfold mF at hM'
  refine r_aload_n (pc := 405) dL_law_405 rfl <| cVi [] (pc := 406) dL_law_406 k_L_43 ⟨⟨Nat.le_of_ble_eq_true rfl, Nat.le_of_ble_eq_true rfl⟩, ⟨hA, hB⟩, Nat.le_of_ble_eq_true rfl⟩ ⟨rfl, rfl⟩ hM' ?_
  refine ms_clear k3 (fun h2 m1 m2 => ?_)
  refine ⟨_, rfl, ?_⟩
  refine r_eqS (pc := 409) 1099 dL_law_409 (by decide) <| ?_
  exact hN _ _ _ (k1.mr m2) m1 (gd_clear hg)
theorem law_fault (hG1 : G.2.2.2.2 25 = some b) (hG2 : G.2.2.2.2 26 = some Ln) (hG3 : Ln < 2147483648) (hi : 0 ≤ i ∧ i + 5 ≤ Ln) (hA : c0 ≤ 600000) (hB : s0 ≤ 7302250) (hC : isC h n s) (hM : isM h s) (hg : gd s) (hN : nxt G nm i c0 s0 Q) : At G (mLw nm) 414 [vO 25, vR 0, vR 45, vI i] [] (c0, s0, n) h Q := by
  have d0 := hC.1
  obtain ⟨e, it, g45, -⟩ := id hM.raw
  have hM' := g45
  unfold mF at hM'
  have a1 := scI_in G (i + 1).toNat
  have a2 := scI_in G (i + 2).toNat
  have a3 := scI_in G (i + 3).toNat
  have a4 := scI_in G (i + 4).toNat
  refine r_aload_n (pc := 414) dL_law_414 rfl <| cVi [] (pc := 415) dL_law_415 k_L_44 ⟨⟨Nat.le_of_ble_eq_true rfl, Nat.le_of_ble_eq_true rfl⟩, ⟨hA, hB⟩, Nat.le_of_ble_eq_true rfl⟩ ⟨rfl, rfl⟩ d0 ?_
  refine cs_fault hC (fun h1 k1 k2 => ?_)
  refine ⟨_, rfl, ?_⟩
  have k3 := hM.cr k2
  obtain ⟨e, it, g45, -⟩ := id k3.raw
  clear d0
  have d0 := k1.1
  clear hM'
  have hM' := g45
  unfold mF at hM'
  refine r_aload_n (pc := 418) dL_law_418 rfl <| cVi [] (pc := 419) dL_law_419 k_L_47 ⟨⟨Nat.le_of_ble_eq_true rfl, Nat.le_of_ble_eq_true rfl⟩, ⟨hA, hB⟩, Nat.le_of_ble_eq_true rfl⟩ ⟨rfl, rfl⟩ hM' ?_
  refine ms_fault k3 hg.1 (fun h2 m1 m2 => ?_)
  refine ⟨_, rfl, ?_⟩
  refine r_eqS (pc := 422) 1099 dL_law_422 (by decide) <| ?_
  exact hN _ _ _ (k1.mr m2) m1 (gd_fault hg)
theorem law_item (hG1 : G.2.2.2.2 25 = some b) (hG2 : G.2.2.2.2 26 = some Ln) (hG3 : Ln < 2147483648) (hi : 0 ≤ i ∧ i + 5 ≤ Ln) (hA : c0 ≤ 600000) (hB : s0 ≤ 7302250) (hC : isC h n s) (hM : isM h s) (hg : gd s) (hN : nxt G nm i c0 s0 Q) : At G (mLw nm) 427 [vO 25, vR 0, vR 45, vI i] [] (c0, s0, n) h Q := by
  have d0 := hC.1
  obtain ⟨e, it, g45, -⟩ := id hM.raw
  have hM' := g45
  unfold mF at hM'
  have a1 := scI_in G (i + 1).toNat
  have a2 := scI_in G (i + 2).toNat
  have a3 := scI_in G (i + 3).toNat
  have a4 := scI_in G (i + 4).toNat
  refine r_aload_n (pc := 427) dL_law_427 rfl <| r_aload_nO (pc := 428) dL_law_428 rfl <| r_iload_n (pc := 429) dL_law_429 rfl <| r_iconst (pc := 430) dL_law_430 <| r_iadd (pc := 431) dL_law_431 <| r_sld (pc := 432) dL_law_432 hG1 hG2 hG3 (by omega) <| r_aload_nO (pc := 433) dL_law_433 rfl <| r_iload_n (pc := 434) dL_law_434 rfl <| r_iconst (pc := 435) dL_law_435 <| r_iadd (pc := 436) dL_law_436 <| r_sld (pc := 437) dL_law_437 hG1 hG2 hG3 (by omega) <| cVi [_, _] (pc := 438) dL_law_438 k_L_48 ⟨⟨Nat.le_of_ble_eq_true rfl, Nat.le_of_ble_eq_true rfl⟩, ⟨hA, hB⟩, Nat.le_of_ble_eq_true rfl⟩ ⟨rfl, rfl⟩ d0 ?_
  refine cs_item hC hg.1 (scI_in _ _) (scI_in _ _) (fun h1 k1 k2 => ?_)
  refine ⟨_, rfl, ?_⟩
  have k3 := hM.cr k2
  obtain ⟨e, it, g45, -⟩ := id k3.raw
  clear d0
  have d0 := k1.1
  clear hM'
  have hM' := g45
  unfold mF at hM'
  refine r_aload_n (pc := 441) dL_law_441 rfl <| r_aload_nO (pc := 442) dL_law_442 rfl <| r_iload_n (pc := 443) dL_law_443 rfl <| r_iconst (pc := 444) dL_law_444 <| r_iadd (pc := 445) dL_law_445 <| r_sld (pc := 446) dL_law_446 hG1 hG2 hG3 (by omega) <| r_aload_nO (pc := 447) dL_law_447 rfl <| r_iload_n (pc := 448) dL_law_448 rfl <| r_iconst (pc := 449) dL_law_449 <| r_iadd (pc := 450) dL_law_450 <| r_sld (pc := 451) dL_law_451 hG1 hG2 hG3 (by omega) <| cVi [_, _] (pc := 452) dL_law_452 k_L_51 ⟨⟨Nat.le_of_ble_eq_true rfl, Nat.le_of_ble_eq_true rfl⟩, ⟨hA, hB⟩, Nat.le_of_ble_eq_true rfl⟩ ⟨rfl, rfl⟩ hM' ?_
  refine ms_item k3 hg.1 (scI_in _ _) (scI_in _ _) (fun h2 m1 m2 => ?_)
  refine ⟨_, rfl, ?_⟩
  refine r_eqS (pc := 455) 1099 dL_law_455 (by decide) <| ?_
  exact hN _ _ _ (k1.mr m2) m1 (gd_item hg)
theorem law_talk (hG1 : G.2.2.2.2 25 = some b) (hG2 : G.2.2.2.2 26 = some Ln) (hG3 : Ln < 2147483648) (hi : 0 ≤ i ∧ i + 5 ≤ Ln) (hA : c0 ≤ 600000) (hB : s0 ≤ 7302250) (hC : isC h n s) (hM : isM h s) (hg : gd s) (hN : nxt G nm i c0 s0 Q) : At G (mLw nm) 460 [vO 25, vR 0, vR 45, vI i] [] (c0, s0, n) h Q := by
  have d0 := hC.1
  obtain ⟨e, it, g45, -⟩ := id hM.raw
  have hM' := g45
  unfold mF at hM'
  have a1 := scI_in G (i + 1).toNat
  have a2 := scI_in G (i + 2).toNat
  have a3 := scI_in G (i + 3).toNat
  have a4 := scI_in G (i + 4).toNat
  refine r_aload_n (pc := 460) dL_law_460 rfl <| r_aload_nO (pc := 461) dL_law_461 rfl <| r_iload_n (pc := 462) dL_law_462 rfl <| r_iconst (pc := 463) dL_law_463 <| r_iadd (pc := 464) dL_law_464 <| r_sld (pc := 465) dL_law_465 hG1 hG2 hG3 (by omega) <| r_aload_nO (pc := 466) dL_law_466 rfl <| r_iload_n (pc := 467) dL_law_467 rfl <| r_iconst (pc := 468) dL_law_468 <| r_iadd (pc := 469) dL_law_469 <| r_sld (pc := 470) dL_law_470 hG1 hG2 hG3 (by omega) <| r_aload_nO (pc := 471) dL_law_471 rfl <| r_iload_n (pc := 472) dL_law_472 rfl <| r_iconst (pc := 473) dL_law_473 <| r_iadd (pc := 474) dL_law_474 <| r_sld (pc := 475) dL_law_475 hG1 hG2 hG3 (by omega) <| cVi [_, _, _] (pc := 476) dL_law_476 k_L_52 ⟨⟨Nat.le_of_ble_eq_true rfl, Nat.le_of_ble_eq_true rfl⟩, ⟨hA, hB⟩, Nat.le_of_ble_eq_true rfl⟩ ⟨rfl, rfl⟩ d0 ?_
  refine cs_talk hC hg.1 (scI_in _ _) (scI_in _ _) (scI_in _ _) (fun h1 k1 k2 => ?_)
  refine ⟨_, rfl, ?_⟩
  have k3 := hM.cr k2
  obtain ⟨e, it, g45, -⟩ := id k3.raw
  clear d0
  have d0 := k1.1
  clear hM'
  have hM' := g45
  unfold mF at hM'
  refine r_aload_n (pc := 479) dL_law_479 rfl <| r_aload_nO (pc := 480) dL_law_480 rfl <| r_iload_n (pc := 481) dL_law_481 rfl <| r_iconst (pc := 482) dL_law_482 <| r_iadd (pc := 483) dL_law_483 <| r_sld (pc := 484) dL_law_484 hG1 hG2 hG3 (by omega) <| r_aload_nO (pc := 485) dL_law_485 rfl <| r_iload_n (pc := 486) dL_law_486 rfl <| r_iconst (pc := 487) dL_law_487 <| r_iadd (pc := 488) dL_law_488 <| r_sld (pc := 489) dL_law_489 hG1 hG2 hG3 (by omega) <| r_aload_nO (pc := 490) dL_law_490 rfl <| r_iload_n (pc := 491) dL_law_491 rfl <| r_iconst (pc := 492) dL_law_492 <| r_iadd (pc := 493) dL_law_493 <| r_sld (pc := 494) dL_law_494 hG1 hG2 hG3 (by omega) <| cVi [_, _, _] (pc := 495) dL_law_495 k_L_55 ⟨⟨Nat.le_of_ble_eq_true rfl, Nat.le_of_ble_eq_true rfl⟩, ⟨hA, hB⟩, Nat.le_of_ble_eq_true rfl⟩ ⟨rfl, rfl⟩ hM' ?_
  refine ms_talk k3 hg.1 (scI_in _ _) (scI_in _ _) (scI_in _ _) (fun h2 m1 m2 => ?_)
  refine ⟨_, rfl, ?_⟩
  refine r_eqS (pc := 498) 1099 dL_law_498 (by decide) <| ?_
  exact hN _ _ _ (k1.mr m2) m1 (gd_talk hg)
theorem law_meet (hG1 : G.2.2.2.2 25 = some b) (hG2 : G.2.2.2.2 26 = some Ln) (hG3 : Ln < 2147483648) (hi : 0 ≤ i ∧ i + 5 ≤ Ln) (hA : c0 ≤ 600000) (hB : s0 ≤ 7302250) (hC : isC h n s) (hM : isM h s) (hg : gd s) (hN : nxt G nm i c0 s0 Q) : At G (mLw nm) 503 [vO 25, vR 0, vR 45, vI i] [] (c0, s0, n) h Q := by
  have d0 := hC.1
  obtain ⟨e, it, g45, -⟩ := id hM.raw
  have hM' := g45
  unfold mF at hM'
  have a1 := scI_in G (i + 1).toNat
  have a2 := scI_in G (i + 2).toNat
  have a3 := scI_in G (i + 3).toNat
  have a4 := scI_in G (i + 4).toNat
  refine r_aload_n (pc := 503) dL_law_503 rfl <| r_aload_nO (pc := 504) dL_law_504 rfl <| r_iload_n (pc := 505) dL_law_505 rfl <| r_iconst (pc := 506) dL_law_506 <| r_iadd (pc := 507) dL_law_507 <| r_sld (pc := 508) dL_law_508 hG1 hG2 hG3 (by omega) <| r_aload_nO (pc := 509) dL_law_509 rfl <| r_iload_n (pc := 510) dL_law_510 rfl <| r_iconst (pc := 511) dL_law_511 <| r_iadd (pc := 512) dL_law_512 <| r_sld (pc := 513) dL_law_513 hG1 hG2 hG3 (by omega) <| cVi [_, _] (pc := 514) dL_law_514 k_L_56 ⟨⟨Nat.le_of_ble_eq_true rfl, Nat.le_of_ble_eq_true rfl⟩, ⟨hA, hB⟩, Nat.le_of_ble_eq_true rfl⟩ ⟨rfl, rfl⟩ d0 ?_
  refine cs_meet hC hg.1 (scI_in _ _) (scI_in _ _) (fun h1 k1 k2 => ?_)
  refine ⟨_, rfl, ?_⟩
  have k3 := hM.cr k2
  obtain ⟨e, it, g45, -⟩ := id k3.raw
  clear d0
  have d0 := k1.1
  clear hM'
  have hM' := g45
  unfold mF at hM'
  refine r_aload_n (pc := 517) dL_law_517 rfl <| r_aload_nO (pc := 518) dL_law_518 rfl <| r_iload_n (pc := 519) dL_law_519 rfl <| r_iconst (pc := 520) dL_law_520 <| r_iadd (pc := 521) dL_law_521 <| r_sld (pc := 522) dL_law_522 hG1 hG2 hG3 (by omega) <| r_aload_nO (pc := 523) dL_law_523 rfl <| r_iload_n (pc := 524) dL_law_524 rfl <| r_iconst (pc := 525) dL_law_525 <| r_iadd (pc := 526) dL_law_526 <| r_sld (pc := 527) dL_law_527 hG1 hG2 hG3 (by omega) <| cVi [_, _] (pc := 528) dL_law_528 k_L_59 ⟨⟨Nat.le_of_ble_eq_true rfl, Nat.le_of_ble_eq_true rfl⟩, ⟨hA, hB⟩, Nat.le_of_ble_eq_true rfl⟩ ⟨rfl, rfl⟩ hM' ?_
  refine ms_meet k3 hg.1 (scI_in _ _) (scI_in _ _) (fun h2 m1 m2 => ?_)
  refine ⟨_, rfl, ?_⟩
  refine r_eqS (pc := 531) 1099 dL_law_531 (by decide) <| ?_
  exact hN _ _ _ (k1.mr m2) m1 (gd_meet hg)
theorem law_come (hG1 : G.2.2.2.2 25 = some b) (hG2 : G.2.2.2.2 26 = some Ln) (hG3 : Ln < 2147483648) (hi : 0 ≤ i ∧ i + 5 ≤ Ln) (hA : c0 ≤ 600000) (hB : s0 ≤ 7302250) (hC : isC h n s) (hM : isM h s) (hg : gd s) (hN : nxt G nm i c0 s0 Q) : At G (mLw nm) 536 [vO 25, vR 0, vR 45, vI i] [] (c0, s0, n) h Q := by
  have d0 := hC.1
  obtain ⟨e, it, g45, -⟩ := id hM.raw
  have hM' := g45
  unfold mF at hM'
  have a1 := scI_in G (i + 1).toNat
  have a2 := scI_in G (i + 2).toNat
  have a3 := scI_in G (i + 3).toNat
  have a4 := scI_in G (i + 4).toNat
  refine r_aload_n (pc := 536) dL_law_536 rfl <| r_aload_nO (pc := 537) dL_law_537 rfl <| r_iload_n (pc := 538) dL_law_538 rfl <| r_iconst (pc := 539) dL_law_539 <| r_iadd (pc := 540) dL_law_540 <| r_sld (pc := 541) dL_law_541 hG1 hG2 hG3 (by omega) <| cVi [_] (pc := 542) dL_law_542 k_L_60 ⟨⟨Nat.le_of_ble_eq_true rfl, Nat.le_of_ble_eq_true rfl⟩, ⟨hA, hB⟩, Nat.le_of_ble_eq_true rfl⟩ ⟨rfl, rfl⟩ d0 ?_
  refine cs_come hC hg.1 (scI_in _ _) (fun h1 k1 k2 => ?_)
  refine ⟨_, rfl, ?_⟩
  have k3 := hM.cr k2
  obtain ⟨e, it, g45, -⟩ := id k3.raw
  clear d0
  have d0 := k1.1
  clear hM'
  have hM' := g45
  unfold mF at hM'
  refine r_aload_n (pc := 545) dL_law_545 rfl <| r_aload_nO (pc := 546) dL_law_546 rfl <| r_iload_n (pc := 547) dL_law_547 rfl <| r_iconst (pc := 548) dL_law_548 <| r_iadd (pc := 549) dL_law_549 <| r_sld (pc := 550) dL_law_550 hG1 hG2 hG3 (by omega) <| cVi [_] (pc := 551) dL_law_551 k_L_64 ⟨⟨Nat.le_of_ble_eq_true rfl, Nat.le_of_ble_eq_true rfl⟩, ⟨hA, hB⟩, Nat.le_of_ble_eq_true rfl⟩ ⟨rfl, rfl⟩ hM' ?_
  refine ms_come k3 hg.1 (scI_in _ _) (fun h2 m1 m2 => ?_)
  refine ⟨_, rfl, ?_⟩
  refine r_eqS (pc := 554) 1099 dL_law_554 (by decide) <| ?_
  exact hN _ _ _ (k1.mr m2) m1 (gd_come hg)
theorem law_disperse (hG1 : G.2.2.2.2 25 = some b) (hG2 : G.2.2.2.2 26 = some Ln) (hG3 : Ln < 2147483648) (hi : 0 ≤ i ∧ i + 5 ≤ Ln) (hA : c0 ≤ 600000) (hB : s0 ≤ 7302250) (hC : isC h n s) (hM : isM h s) (hg : gd s) (hN : nxt G nm i c0 s0 Q) : At G (mLw nm) 559 [vO 25, vR 0, vR 45, vI i] [] (c0, s0, n) h Q := by
  have d0 := hC.1
  obtain ⟨e, it, g45, -⟩ := id hM.raw
  have hM' := g45
  unfold mF at hM'
  have a1 := scI_in G (i + 1).toNat
  have a2 := scI_in G (i + 2).toNat
  have a3 := scI_in G (i + 3).toNat
  have a4 := scI_in G (i + 4).toNat
  refine r_aload_n (pc := 559) dL_law_559 rfl <| cVi [] (pc := 560) dL_law_560 k_L_65 ⟨⟨Nat.le_of_ble_eq_true rfl, Nat.le_of_ble_eq_true rfl⟩, ⟨hA, hB⟩, Nat.le_of_ble_eq_true rfl⟩ ⟨rfl, rfl⟩ d0 ?_
  refine cs_disperse hC hg.1 (fun h1 k1 k2 => ?_)
  refine ⟨_, rfl, ?_⟩
  have k3 := hM.cr k2
  obtain ⟨e, it, g45, -⟩ := id k3.raw
  clear d0
  have d0 := k1.1
  clear hM'
  have hM' := g45
  unfold mF at hM'
  refine r_aload_n (pc := 563) dL_law_563 rfl <| cVi [] (pc := 564) dL_law_564 k_L_68 ⟨⟨Nat.le_of_ble_eq_true rfl, Nat.le_of_ble_eq_true rfl⟩, ⟨hA, hB⟩, Nat.le_of_ble_eq_true rfl⟩ ⟨rfl, rfl⟩ hM' ?_
  refine ms_disperse k3 (fun h2 m1 m2 => ?_)
  refine ⟨_, rfl, ?_⟩
  refine r_eqS (pc := 567) 1099 dL_law_567 (by decide) <| ?_
  exact hN _ _ _ (k1.mr m2) m1 (gd_disperse hg)
theorem law_through (hG1 : G.2.2.2.2 25 = some b) (hG2 : G.2.2.2.2 26 = some Ln) (hG3 : Ln < 2147483648) (hi : 0 ≤ i ∧ i + 5 ≤ Ln) (hA : c0 ≤ 600000) (hB : s0 ≤ 7302250) (hC : isC h n s) (hM : isM h s) (hg : gd s) (hN : nxt G nm i c0 s0 Q) : At G (mLw nm) 572 [vO 25, vR 0, vR 45, vI i] [] (c0, s0, n) h Q := by
  have d0 := hC.1
  obtain ⟨e, it, g45, -⟩ := id hM.raw
  have hM' := g45
  unfold mF at hM'
  have a1 := scI_in G (i + 1).toNat
  have a2 := scI_in G (i + 2).toNat
  have a3 := scI_in G (i + 3).toNat
  have a4 := scI_in G (i + 4).toNat
  refine r_aload_n (pc := 572) dL_law_572 rfl <| r_aload_nO (pc := 573) dL_law_573 rfl <| r_iload_n (pc := 574) dL_law_574 rfl <| r_iconst (pc := 575) dL_law_575 <| r_iadd (pc := 576) dL_law_576 <| r_sld (pc := 577) dL_law_577 hG1 hG2 hG3 (by omega) <| cVi [_] (pc := 578) dL_law_578 k_L_69 ⟨⟨Nat.le_of_ble_eq_true rfl, Nat.le_of_ble_eq_true rfl⟩, ⟨hA, hB⟩, Nat.le_of_ble_eq_true rfl⟩ ⟨rfl, rfl⟩ d0 ?_
  refine cs_through hC hg.1 (scI_in _ _) (fun h1 k1 k2 => ?_)
  refine ⟨_, rfl, ?_⟩
  have k3 := hM.cr k2
  obtain ⟨e, it, g45, -⟩ := id k3.raw
  clear d0
  have d0 := k1.1
  clear hM'
  have hM' := g45
  unfold mF at hM'
  refine r_aload_n (pc := 581) dL_law_581 rfl <| r_aload_nO (pc := 582) dL_law_582 rfl <| r_iload_n (pc := 583) dL_law_583 rfl <| r_iconst (pc := 584) dL_law_584 <| r_iadd (pc := 585) dL_law_585 <| r_sld (pc := 586) dL_law_586 hG1 hG2 hG3 (by omega) <| cVi [_] (pc := 587) dL_law_587 k_L_72 ⟨⟨Nat.le_of_ble_eq_true rfl, Nat.le_of_ble_eq_true rfl⟩, ⟨hA, hB⟩, Nat.le_of_ble_eq_true rfl⟩ ⟨rfl, rfl⟩ hM' ?_
  refine ms_through k3 hg.1 (scI_in _ _) (fun h2 m1 m2 => ?_)
  refine ⟨_, rfl, ?_⟩
  refine r_eqS (pc := 590) 1099 dL_law_590 (by decide) <| ?_
  exact hN _ _ _ (k1.mr m2) m1 (gd_through hg)
theorem law_soonest (hG1 : G.2.2.2.2 25 = some b) (hG2 : G.2.2.2.2 26 = some Ln) (hG3 : Ln < 2147483648) (hi : 0 ≤ i ∧ i + 5 ≤ Ln) (hA : c0 ≤ 600000) (hB : s0 ≤ 7302250) (hC : isC h n s) (hM : isM h s) (hg : gd s) (hN : nxt G nm i c0 s0 Q) : At G (mLw nm) 595 [vO 25, vR 0, vR 45, vI i] [] (c0, s0, n) h Q := by
  have d0 := hC.1
  obtain ⟨e, it, g45, -⟩ := id hM.raw
  have hM' := g45
  unfold mF at hM'
  have a1 := scI_in G (i + 1).toNat
  have a2 := scI_in G (i + 2).toNat
  have a3 := scI_in G (i + 3).toNat
  have a4 := scI_in G (i + 4).toNat
  refine r_aload_n (pc := 595) dL_law_595 rfl <| r_aload_nO (pc := 596) dL_law_596 rfl <| r_iload_n (pc := 597) dL_law_597 rfl <| r_iconst (pc := 598) dL_law_598 <| r_iadd (pc := 599) dL_law_599 <| r_sld (pc := 600) dL_law_600 hG1 hG2 hG3 (by omega) <| cVi [_] (pc := 601) dL_law_601 k_L_73 ⟨⟨Nat.le_of_ble_eq_true rfl, Nat.le_of_ble_eq_true rfl⟩, ⟨hA, hB⟩, Nat.le_of_ble_eq_true rfl⟩ ⟨rfl, rfl⟩ d0 ?_
  refine cs_soonest hC hg.1 (scI_in _ _) (fun h1 k1 k2 => ?_)
  refine ⟨_, rfl, ?_⟩
  have k3 := hM.cr k2
  obtain ⟨e, it, g45, -⟩ := id k3.raw
  clear d0
  have d0 := k1.1
  clear hM'
  have hM' := g45
  unfold mF at hM'
  refine r_aload_n (pc := 604) dL_law_604 rfl <| r_aload_nO (pc := 605) dL_law_605 rfl <| r_iload_n (pc := 606) dL_law_606 rfl <| r_iconst (pc := 607) dL_law_607 <| r_iadd (pc := 608) dL_law_608 <| r_sld (pc := 609) dL_law_609 hG1 hG2 hG3 (by omega) <| cVi [_] (pc := 610) dL_law_610 k_L_76 ⟨⟨Nat.le_of_ble_eq_true rfl, Nat.le_of_ble_eq_true rfl⟩, ⟨hA, hB⟩, Nat.le_of_ble_eq_true rfl⟩ ⟨rfl, rfl⟩ hM' ?_
  refine ms_soonest k3 hg.1 (scI_in _ _) (fun h2 m1 m2 => ?_)
  refine ⟨_, rfl, ?_⟩
  refine r_eqS (pc := 613) 1099 dL_law_613 (by decide) <| ?_
  exact hN _ _ _ (k1.mr m2) m1 (gd_soonest hg)
theorem law_avoid (hG1 : G.2.2.2.2 25 = some b) (hG2 : G.2.2.2.2 26 = some Ln) (hG3 : Ln < 2147483648) (hi : 0 ≤ i ∧ i + 5 ≤ Ln) (hA : c0 ≤ 600000) (hB : s0 ≤ 7302250) (hC : isC h n s) (hM : isM h s) (hg : gd s) (hN : nxt G nm i c0 s0 Q) : At G (mLw nm) 618 [vO 25, vR 0, vR 45, vI i] [] (c0, s0, n) h Q := by
  have d0 := hC.1
  obtain ⟨e, it, g45, -⟩ := id hM.raw
  have hM' := g45
  unfold mF at hM'
  have a1 := scI_in G (i + 1).toNat
  have a2 := scI_in G (i + 2).toNat
  have a3 := scI_in G (i + 3).toNat
  have a4 := scI_in G (i + 4).toNat
  refine r_aload_n (pc := 618) dL_law_618 rfl <| cVi [] (pc := 619) dL_law_619 k_L_77 ⟨⟨Nat.le_of_ble_eq_true rfl, Nat.le_of_ble_eq_true rfl⟩, ⟨hA, hB⟩, Nat.le_of_ble_eq_true rfl⟩ ⟨rfl, rfl⟩ d0 ?_
  refine cs_avoid hC hg.1 (fun h1 k1 k2 => ?_)
  refine ⟨_, rfl, ?_⟩
  have k3 := hM.cr k2
  obtain ⟨e, it, g45, -⟩ := id k3.raw
  clear d0
  have d0 := k1.1
  clear hM'
  have hM' := g45
  unfold mF at hM'
  refine r_aload_n (pc := 622) dL_law_622 rfl <| cVi [] (pc := 623) dL_law_623 k_L_80 ⟨⟨Nat.le_of_ble_eq_true rfl, Nat.le_of_ble_eq_true rfl⟩, ⟨hA, hB⟩, Nat.le_of_ble_eq_true rfl⟩ ⟨rfl, rfl⟩ hM' ?_
  refine ms_avoid k3 hg.1 (fun h2 m1 m2 => ?_)
  refine ⟨_, rfl, ?_⟩
  refine r_eqS (pc := 626) 1099 dL_law_626 (by decide) <| ?_
  exact hN _ _ _ (k1.mr m2) m1 (gd_avoid hg)
theorem law_waits (hG1 : G.2.2.2.2 25 = some b) (hG2 : G.2.2.2.2 26 = some Ln) (hG3 : Ln < 2147483648) (hi : 0 ≤ i ∧ i + 5 ≤ Ln) (hA : c0 ≤ 600000) (hB : s0 ≤ 7302250) (hC : isC h n s) (hM : isM h s) (hg : gd s) (hN : nxt G nm i c0 s0 Q) : At G (mLw nm) 631 [vO 25, vR 0, vR 45, vI i] [] (c0, s0, n) h Q := by
  have d0 := hC.1
  obtain ⟨e, it, g45, -⟩ := id hM.raw
  have hM' := g45
  unfold mF at hM'
  have a1 := scI_in G (i + 1).toNat
  have a2 := scI_in G (i + 2).toNat
  have a3 := scI_in G (i + 3).toNat
  have a4 := scI_in G (i + 4).toNat
  refine r_aload_n (pc := 631) dL_law_631 rfl <| r_aload_nO (pc := 632) dL_law_632 rfl <| r_iload_n (pc := 633) dL_law_633 rfl <| r_iconst (pc := 634) dL_law_634 <| r_iadd (pc := 635) dL_law_635 <| r_sld (pc := 636) dL_law_636 hG1 hG2 hG3 (by omega) <| r_aload_nO (pc := 637) dL_law_637 rfl <| r_iload_n (pc := 638) dL_law_638 rfl <| r_iconst (pc := 639) dL_law_639 <| r_iadd (pc := 640) dL_law_640 <| r_sld (pc := 641) dL_law_641 hG1 hG2 hG3 (by omega) <| cVi [_, _] (pc := 642) dL_law_642 k_L_81 ⟨⟨Nat.le_of_ble_eq_true rfl, Nat.le_of_ble_eq_true rfl⟩, ⟨hA, hB⟩, Nat.le_of_ble_eq_true rfl⟩ ⟨rfl, rfl⟩ d0 ?_
  refine cs_waits hC hg.1 (scI_in _ _) (scI_in _ _) (fun h1 k1 k2 => ?_)
  refine ⟨_, rfl, ?_⟩
  have k3 := hM.cr k2
  obtain ⟨e, it, g45, -⟩ := id k3.raw
  clear d0
  have d0 := k1.1
  clear hM'
  have hM' := g45
  unfold mF at hM'
  refine r_aload_n (pc := 645) dL_law_645 rfl <| r_aload_nO (pc := 646) dL_law_646 rfl <| r_iload_n (pc := 647) dL_law_647 rfl <| r_iconst (pc := 648) dL_law_648 <| r_iadd (pc := 649) dL_law_649 <| r_sld (pc := 650) dL_law_650 hG1 hG2 hG3 (by omega) <| r_aload_nO (pc := 651) dL_law_651 rfl <| r_iload_n (pc := 652) dL_law_652 rfl <| r_iconst (pc := 653) dL_law_653 <| r_iadd (pc := 654) dL_law_654 <| r_sld (pc := 655) dL_law_655 hG1 hG2 hG3 (by omega) <| cVi [_, _] (pc := 656) dL_law_656 k_L_84 ⟨⟨Nat.le_of_ble_eq_true rfl, Nat.le_of_ble_eq_true rfl⟩, ⟨hA, hB⟩, Nat.le_of_ble_eq_true rfl⟩ ⟨rfl, rfl⟩ hM' ?_
  refine ms_waits k3 hg.1 (scI_in _ _) (scI_in _ _) (fun h2 m1 m2 => ?_)
  refine ⟨_, rfl, ?_⟩
  refine r_eqS (pc := 659) 1099 dL_law_659 (by decide) <| ?_
  exact hN _ _ _ (k1.mr m2) m1 (gd_waits hg)
theorem law_leg (hG1 : G.2.2.2.2 25 = some b) (hG2 : G.2.2.2.2 26 = some Ln) (hG3 : Ln < 2147483648) (hi : 0 ≤ i ∧ i + 5 ≤ Ln) (hA : c0 ≤ 600000) (hB : s0 ≤ 7302250) (hC : isC h n s) (hM : isM h s) (hg : gd s) (hN : nxt G nm i c0 s0 Q) : At G (mLw nm) 664 [vO 25, vR 0, vR 45, vI i] [] (c0, s0, n) h Q := by
  have d0 := hC.1
  obtain ⟨e, it, g45, -⟩ := id hM.raw
  have hM' := g45
  unfold mF at hM'
  have a1 := scI_in G (i + 1).toNat
  have a2 := scI_in G (i + 2).toNat
  have a3 := scI_in G (i + 3).toNat
  have a4 := scI_in G (i + 4).toNat
  refine r_aload_n (pc := 664) dL_law_664 rfl <| r_aload_nO (pc := 665) dL_law_665 rfl <| r_iload_n (pc := 666) dL_law_666 rfl <| r_iconst (pc := 667) dL_law_667 <| r_iadd (pc := 668) dL_law_668 <| r_sld (pc := 669) dL_law_669 hG1 hG2 hG3 (by omega) <| r_aload_nO (pc := 670) dL_law_670 rfl <| r_iload_n (pc := 671) dL_law_671 rfl <| r_iconst (pc := 672) dL_law_672 <| r_iadd (pc := 673) dL_law_673 <| r_sld (pc := 674) dL_law_674 hG1 hG2 hG3 (by omega) <| r_aload_nO (pc := 675) dL_law_675 rfl <| r_iload_n (pc := 676) dL_law_676 rfl <| r_iconst (pc := 677) dL_law_677 <| r_iadd (pc := 678) dL_law_678 <| r_sld (pc := 679) dL_law_679 hG1 hG2 hG3 (by omega) <| cVi [_, _, _] (pc := 680) dL_law_680 k_L_85 ⟨⟨Nat.le_of_ble_eq_true rfl, Nat.le_of_ble_eq_true rfl⟩, ⟨hA, hB⟩, Nat.le_of_ble_eq_true rfl⟩ ⟨rfl, rfl⟩ d0 ?_
  refine cs_leg hC hg.1 (scI_in _ _) (scI_in _ _) (scI_in _ _) (fun h1 k1 k2 => ?_)
  refine ⟨_, rfl, ?_⟩
  have k3 := hM.cr k2
  obtain ⟨e, it, g45, -⟩ := id k3.raw
  clear d0
  have d0 := k1.1
  clear hM'
  have hM' := g45
  unfold mF at hM'
  refine r_aload_n (pc := 683) dL_law_683 rfl <| r_aload_nO (pc := 684) dL_law_684 rfl <| r_iload_n (pc := 685) dL_law_685 rfl <| r_iconst (pc := 686) dL_law_686 <| r_iadd (pc := 687) dL_law_687 <| r_sld (pc := 688) dL_law_688 hG1 hG2 hG3 (by omega) <| r_aload_nO (pc := 689) dL_law_689 rfl <| r_iload_n (pc := 690) dL_law_690 rfl <| r_iconst (pc := 691) dL_law_691 <| r_iadd (pc := 692) dL_law_692 <| r_sld (pc := 693) dL_law_693 hG1 hG2 hG3 (by omega) <| r_aload_nO (pc := 694) dL_law_694 rfl <| r_iload_n (pc := 695) dL_law_695 rfl <| r_iconst (pc := 696) dL_law_696 <| r_iadd (pc := 697) dL_law_697 <| r_sld (pc := 698) dL_law_698 hG1 hG2 hG3 (by omega) <| cVi [_, _, _] (pc := 699) dL_law_699 k_L_88 ⟨⟨Nat.le_of_ble_eq_true rfl, Nat.le_of_ble_eq_true rfl⟩, ⟨hA, hB⟩, Nat.le_of_ble_eq_true rfl⟩ ⟨rfl, rfl⟩ hM' ?_
  refine ms_leg k3 hg.1 (scI_in _ _) (scI_in _ _) (scI_in _ _) (fun h2 m1 m2 => ?_)
  refine ⟨_, rfl, ?_⟩
  refine r_eqS (pc := 702) 1099 dL_law_702 (by decide) <| ?_
  exact hN _ _ _ (k1.mr m2) m1 (gd_leg hg)
theorem law_way (hG1 : G.2.2.2.2 25 = some b) (hG2 : G.2.2.2.2 26 = some Ln) (hG3 : Ln < 2147483648) (hi : 0 ≤ i ∧ i + 5 ≤ Ln) (hA : c0 ≤ 600000) (hB : s0 ≤ 7302250) (hC : isC h n s) (hM : isM h s) (hg : gd s) (hN : nxt G nm i c0 s0 Q) : At G (mLw nm) 707 [vO 25, vR 0, vR 45, vI i] [] (c0, s0, n) h Q := by
  have d0 := hC.1
  obtain ⟨e, it, g45, -⟩ := id hM.raw
  have hM' := g45
  unfold mF at hM'
  have a1 := scI_in G (i + 1).toNat
  have a2 := scI_in G (i + 2).toNat
  have a3 := scI_in G (i + 3).toNat
  have a4 := scI_in G (i + 4).toNat
  refine r_aload_n (pc := 707) dL_law_707 rfl <| r_aload_nO (pc := 708) dL_law_708 rfl <| r_iload_n (pc := 709) dL_law_709 rfl <| r_iconst (pc := 710) dL_law_710 <| r_iadd (pc := 711) dL_law_711 <| r_sld (pc := 712) dL_law_712 hG1 hG2 hG3 (by omega) <| r_aload_nO (pc := 713) dL_law_713 rfl <| r_iload_n (pc := 714) dL_law_714 rfl <| r_iconst (pc := 715) dL_law_715 <| r_iadd (pc := 716) dL_law_716 <| r_sld (pc := 717) dL_law_717 hG1 hG2 hG3 (by omega) <| r_aload_nO (pc := 718) dL_law_718 rfl <| r_iload_n (pc := 719) dL_law_719 rfl <| r_iconst (pc := 720) dL_law_720 <| r_iadd (pc := 721) dL_law_721 <| r_sld (pc := 722) dL_law_722 hG1 hG2 hG3 (by omega) <| r_aload_nO (pc := 723) dL_law_723 rfl <| r_iload_n (pc := 724) dL_law_724 rfl <| r_iconst (pc := 725) dL_law_725 <| r_iadd (pc := 726) dL_law_726 <| r_sld (pc := 727) dL_law_727 hG1 hG2 hG3 (by omega) <| cVi [_, _, _, _] (pc := 728) dL_law_728 k_L_89 ⟨⟨Nat.le_of_ble_eq_true rfl, Nat.le_of_ble_eq_true rfl⟩, ⟨hA, hB⟩, Nat.le_of_ble_eq_true rfl⟩ ⟨rfl, rfl⟩ d0 ?_
  refine cs_way hC hg.1 (scI_in _ _) (scI_in _ _) (scI_in _ _) (scI_in _ _) (fun h1 k1 k2 => ?_)
  refine ⟨_, rfl, ?_⟩
  have k3 := hM.cr k2
  obtain ⟨e, it, g45, -⟩ := id k3.raw
  clear d0
  have d0 := k1.1
  clear hM'
  have hM' := g45
  unfold mF at hM'
  refine r_aload_n (pc := 731) dL_law_731 rfl <| r_aload_nO (pc := 732) dL_law_732 rfl <| r_iload_n (pc := 733) dL_law_733 rfl <| r_iconst (pc := 734) dL_law_734 <| r_iadd (pc := 735) dL_law_735 <| r_sld (pc := 736) dL_law_736 hG1 hG2 hG3 (by omega) <| r_aload_nO (pc := 737) dL_law_737 rfl <| r_iload_n (pc := 738) dL_law_738 rfl <| r_iconst (pc := 739) dL_law_739 <| r_iadd (pc := 740) dL_law_740 <| r_sld (pc := 741) dL_law_741 hG1 hG2 hG3 (by omega) <| r_aload_nO (pc := 742) dL_law_742 rfl <| r_iload_n (pc := 743) dL_law_743 rfl <| r_iconst (pc := 744) dL_law_744 <| r_iadd (pc := 745) dL_law_745 <| r_sld (pc := 746) dL_law_746 hG1 hG2 hG3 (by omega) <| r_aload_nO (pc := 747) dL_law_747 rfl <| r_iload_n (pc := 748) dL_law_748 rfl <| r_iconst (pc := 749) dL_law_749 <| r_iadd (pc := 750) dL_law_750 <| r_sld (pc := 751) dL_law_751 hG1 hG2 hG3 (by omega) <| cVi [_, _, _, _] (pc := 752) dL_law_752 k_L_92 ⟨⟨Nat.le_of_ble_eq_true rfl, Nat.le_of_ble_eq_true rfl⟩, ⟨hA, hB⟩, Nat.le_of_ble_eq_true rfl⟩ ⟨rfl, rfl⟩ hM' ?_
  refine ms_way k3 hg.1 (scI_in _ _) (scI_in _ _) (scI_in _ _) (scI_in _ _) (fun h2 m1 m2 => ?_)
  refine ⟨_, rfl, ?_⟩
  refine r_eqS (pc := 755) 1099 dL_law_755 (by decide) <| ?_
  exact hN _ _ _ (k1.mr m2) m1 (gd_way hg)
theorem law_tell (hG1 : G.2.2.2.2 25 = some b) (hG2 : G.2.2.2.2 26 = some Ln) (hG3 : Ln < 2147483648) (hi : 0 ≤ i ∧ i + 5 ≤ Ln) (hA : c0 ≤ 600000) (hB : s0 ≤ 7302250) (hC : isC h n s) (hM : isM h s) (hg : gd s) (hN : nxt G nm i c0 s0 Q) : At G (mLw nm) 760 [vO 25, vR 0, vR 45, vI i] [] (c0, s0, n) h Q := by
  have d0 := hC.1
  obtain ⟨e, it, g45, -⟩ := id hM.raw
  have hM' := g45
  unfold mF at hM'
  have a1 := scI_in G (i + 1).toNat
  have a2 := scI_in G (i + 2).toNat
  have a3 := scI_in G (i + 3).toNat
  have a4 := scI_in G (i + 4).toNat
  refine r_aload_n (pc := 760) dL_law_760 rfl <| r_aload_nO (pc := 761) dL_law_761 rfl <| r_iload_n (pc := 762) dL_law_762 rfl <| r_iconst (pc := 763) dL_law_763 <| r_iadd (pc := 764) dL_law_764 <| r_sld (pc := 765) dL_law_765 hG1 hG2 hG3 (by omega) <| r_aload_nO (pc := 766) dL_law_766 rfl <| r_iload_n (pc := 767) dL_law_767 rfl <| r_iconst (pc := 768) dL_law_768 <| r_iadd (pc := 769) dL_law_769 <| r_sld (pc := 770) dL_law_770 hG1 hG2 hG3 (by omega) <| r_aload_nO (pc := 771) dL_law_771 rfl <| r_iload_n (pc := 772) dL_law_772 rfl <| r_iconst (pc := 773) dL_law_773 <| r_iadd (pc := 774) dL_law_774 <| r_sld (pc := 775) dL_law_775 hG1 hG2 hG3 (by omega) <| cVi [_, _, _] (pc := 776) dL_law_776 k_L_93 ⟨⟨Nat.le_of_ble_eq_true rfl, Nat.le_of_ble_eq_true rfl⟩, ⟨hA, hB⟩, Nat.le_of_ble_eq_true rfl⟩ ⟨rfl, rfl⟩ d0 ?_
  refine cs_tell hC hg.1 (scI_in _ _) (scI_in _ _) (scI_in _ _) (fun h1 k1 k2 => ?_)
  refine ⟨_, rfl, ?_⟩
  have k3 := hM.cr k2
  obtain ⟨e, it, g45, -⟩ := id k3.raw
  clear d0
  have d0 := k1.1
  clear hM'
  have hM' := g45
  unfold mF at hM'
  refine r_aload_n (pc := 779) dL_law_779 rfl <| r_aload_nO (pc := 780) dL_law_780 rfl <| r_iload_n (pc := 781) dL_law_781 rfl <| r_iconst (pc := 782) dL_law_782 <| r_iadd (pc := 783) dL_law_783 <| r_sld (pc := 784) dL_law_784 hG1 hG2 hG3 (by omega) <| r_aload_nO (pc := 785) dL_law_785 rfl <| r_iload_n (pc := 786) dL_law_786 rfl <| r_iconst (pc := 787) dL_law_787 <| r_iadd (pc := 788) dL_law_788 <| r_sld (pc := 789) dL_law_789 hG1 hG2 hG3 (by omega) <| r_aload_nO (pc := 790) dL_law_790 rfl <| r_iload_n (pc := 791) dL_law_791 rfl <| r_iconst (pc := 792) dL_law_792 <| r_iadd (pc := 793) dL_law_793 <| r_sld (pc := 794) dL_law_794 hG1 hG2 hG3 (by omega) <| cVi [_, _, _] (pc := 795) dL_law_795 k_L_96 ⟨⟨Nat.le_of_ble_eq_true rfl, Nat.le_of_ble_eq_true rfl⟩, ⟨hA, hB⟩, Nat.le_of_ble_eq_true rfl⟩ ⟨rfl, rfl⟩ hM' ?_
  refine ms_tell k3 hg.1 (scI_in _ _) (scI_in _ _) (scI_in _ _) (fun h2 m1 m2 => ?_)
  refine ⟨_, rfl, ?_⟩
  refine r_eqS (pc := 798) 1099 dL_law_798 (by decide) <| ?_
  exact hN _ _ _ (k1.mr m2) m1 (gd_tell hg)
theorem law_forget (hG1 : G.2.2.2.2 25 = some b) (hG2 : G.2.2.2.2 26 = some Ln) (hG3 : Ln < 2147483648) (hi : 0 ≤ i ∧ i + 5 ≤ Ln) (hA : c0 ≤ 600000) (hB : s0 ≤ 7302250) (hC : isC h n s) (hM : isM h s) (hg : gd s) (hN : nxt G nm i c0 s0 Q) : At G (mLw nm) 803 [vO 25, vR 0, vR 45, vI i] [] (c0, s0, n) h Q := by
  have d0 := hC.1
  obtain ⟨e, it, g45, -⟩ := id hM.raw
  have hM' := g45
  unfold mF at hM'
  have a1 := scI_in G (i + 1).toNat
  have a2 := scI_in G (i + 2).toNat
  have a3 := scI_in G (i + 3).toNat
  have a4 := scI_in G (i + 4).toNat
  refine r_aload_n (pc := 803) dL_law_803 rfl <| cVi [] (pc := 804) dL_law_804 k_L_97 ⟨⟨Nat.le_of_ble_eq_true rfl, Nat.le_of_ble_eq_true rfl⟩, ⟨hA, hB⟩, Nat.le_of_ble_eq_true rfl⟩ ⟨rfl, rfl⟩ d0 ?_
  refine cs_forget hC hg.1 (fun h1 k1 k2 => ?_)
  refine ⟨_, rfl, ?_⟩
  have k3 := hM.cr k2
  obtain ⟨e, it, g45, -⟩ := id k3.raw
  clear d0
  have d0 := k1.1
  clear hM'
  have hM' := g45
  unfold mF at hM'
  refine r_aload_n (pc := 807) dL_law_807 rfl <| cVi [] (pc := 808) dL_law_808 k_L_100 ⟨⟨Nat.le_of_ble_eq_true rfl, Nat.le_of_ble_eq_true rfl⟩, ⟨hA, hB⟩, Nat.le_of_ble_eq_true rfl⟩ ⟨rfl, rfl⟩ hM' ?_
  refine ms_forget k3 (fun h2 m1 m2 => ?_)
  refine ⟨_, rfl, ?_⟩
  refine r_eqS (pc := 811) 1099 dL_law_811 (by decide) <| ?_
  exact hN _ _ _ (k1.mr m2) m1 (gd_forget hg)
theorem law_judge (hG1 : G.2.2.2.2 25 = some b) (hG2 : G.2.2.2.2 26 = some Ln) (hG3 : Ln < 2147483648) (hi : 0 ≤ i ∧ i + 5 ≤ Ln) (hA : c0 ≤ 600000) (hB : s0 ≤ 7302250) (hC : isC h n s) (hM : isM h s) (hg : gd s) (hN : nxt G nm i c0 s0 Q) : At G (mLw nm) 816 [vO 25, vR 0, vR 45, vI i] [] (c0, s0, n) h Q := by
  have d0 := hC.1
  obtain ⟨e, it, g45, -⟩ := id hM.raw
  have hM' := g45
  unfold mF at hM'
  have a1 := scI_in G (i + 1).toNat
  have a2 := scI_in G (i + 2).toNat
  have a3 := scI_in G (i + 3).toNat
  have a4 := scI_in G (i + 4).toNat
  refine r_aload_n (pc := 816) dL_law_816 rfl <| cVi [] (pc := 817) dL_law_817 k_L_101 ⟨⟨Nat.le_of_ble_eq_true rfl, Nat.le_of_ble_eq_true rfl⟩, ⟨hA, hB⟩, Nat.le_of_ble_eq_true rfl⟩ ⟨rfl, rfl⟩ d0 ?_
  refine cs_judge hC hg.1 (fun h1 k1 k2 => ?_)
  refine ⟨_, rfl, ?_⟩
  have k3 := hM.cr k2
  obtain ⟨e, it, g45, -⟩ := id k3.raw
  clear d0
  have d0 := k1.1
  clear hM'
  have hM' := g45
  unfold mF at hM'
  refine r_aload_n (pc := 820) dL_law_820 rfl <| cVi [] (pc := 821) dL_law_821 k_L_104 ⟨⟨Nat.le_of_ble_eq_true rfl, Nat.le_of_ble_eq_true rfl⟩, ⟨hA, hB⟩, Nat.le_of_ble_eq_true rfl⟩ ⟨rfl, rfl⟩ hM' ?_
  refine ms_judge k3 hg.1 (fun h2 m1 m2 => ?_)
  refine ⟨_, rfl, ?_⟩
  refine r_eqS (pc := 824) 1099 dL_law_824 (by decide) <| ?_
  exact hN _ _ _ (k1.mr m2) m1 (gd_judge hg)
theorem law_learns (hG1 : G.2.2.2.2 25 = some b) (hG2 : G.2.2.2.2 26 = some Ln) (hG3 : Ln < 2147483648) (hi : 0 ≤ i ∧ i + 5 ≤ Ln) (hA : c0 ≤ 600000) (hB : s0 ≤ 7302250) (hC : isC h n s) (hM : isM h s) (hg : gd s) (hN : nxt G nm i c0 s0 Q) : At G (mLw nm) 829 [vO 25, vR 0, vR 45, vI i] [] (c0, s0, n) h Q := by
  have d0 := hC.1
  obtain ⟨e, it, g45, -⟩ := id hM.raw
  have hM' := g45
  unfold mF at hM'
  have a1 := scI_in G (i + 1).toNat
  have a2 := scI_in G (i + 2).toNat
  have a3 := scI_in G (i + 3).toNat
  have a4 := scI_in G (i + 4).toNat
  refine r_aload_n (pc := 829) dL_law_829 rfl <| cVi [] (pc := 830) dL_law_830 k_L_105 ⟨⟨Nat.le_of_ble_eq_true rfl, Nat.le_of_ble_eq_true rfl⟩, ⟨hA, hB⟩, Nat.le_of_ble_eq_true rfl⟩ ⟨rfl, rfl⟩ d0 ?_
  refine cs_learns hC hg.1 (fun h1 k1 k2 => ?_)
  refine ⟨_, rfl, ?_⟩
  have k3 := hM.cr k2
  obtain ⟨e, it, g45, -⟩ := id k3.raw
  clear d0
  have d0 := k1.1
  clear hM'
  have hM' := g45
  unfold mF at hM'
  refine r_aload_n (pc := 833) dL_law_833 rfl <| cVi [] (pc := 834) dL_law_834 k_L_108 ⟨⟨Nat.le_of_ble_eq_true rfl, Nat.le_of_ble_eq_true rfl⟩, ⟨hA, hB⟩, Nat.le_of_ble_eq_true rfl⟩ ⟨rfl, rfl⟩ hM' ?_
  refine ms_learns k3 hg.1 (fun h2 m1 m2 => ?_)
  refine ⟨_, rfl, ?_⟩
  refine r_eqS (pc := 837) 1099 dL_law_837 (by decide) <| ?_
  exact hN _ _ _ (k1.mr m2) m1 (gd_learns hg)
theorem law_struck (hG1 : G.2.2.2.2 25 = some b) (hG2 : G.2.2.2.2 26 = some Ln) (hG3 : Ln < 2147483648) (hi : 0 ≤ i ∧ i + 5 ≤ Ln) (hA : c0 ≤ 600000) (hB : s0 ≤ 7302250) (hC : isC h n s) (hM : isM h s) (hg : gd s) (hN : nxt G nm i c0 s0 Q) : At G (mLw nm) 842 [vO 25, vR 0, vR 45, vI i] [] (c0, s0, n) h Q := by
  have d0 := hC.1
  obtain ⟨e, it, g45, -⟩ := id hM.raw
  have hM' := g45
  unfold mF at hM'
  have a1 := scI_in G (i + 1).toNat
  have a2 := scI_in G (i + 2).toNat
  have a3 := scI_in G (i + 3).toNat
  have a4 := scI_in G (i + 4).toNat
  refine r_aload_n (pc := 842) dL_law_842 rfl <| r_aload_nO (pc := 843) dL_law_843 rfl <| r_iload_n (pc := 844) dL_law_844 rfl <| r_iconst (pc := 845) dL_law_845 <| r_iadd (pc := 846) dL_law_846 <| r_sld (pc := 847) dL_law_847 hG1 hG2 hG3 (by omega) <| r_aload_nO (pc := 848) dL_law_848 rfl <| r_iload_n (pc := 849) dL_law_849 rfl <| r_iconst (pc := 850) dL_law_850 <| r_iadd (pc := 851) dL_law_851 <| r_sld (pc := 852) dL_law_852 hG1 hG2 hG3 (by omega) <| cVi [_, _] (pc := 853) dL_law_853 k_L_109 ⟨⟨Nat.le_of_ble_eq_true rfl, Nat.le_of_ble_eq_true rfl⟩, ⟨hA, hB⟩, Nat.le_of_ble_eq_true rfl⟩ ⟨rfl, rfl⟩ d0 ?_
  refine cs_struck hC hg.1 (scI_in _ _) (scI_in _ _) (fun h1 k1 k2 => ?_)
  refine ⟨_, rfl, ?_⟩
  have k3 := hM.cr k2
  obtain ⟨e, it, g45, -⟩ := id k3.raw
  clear d0
  have d0 := k1.1
  clear hM'
  have hM' := g45
  unfold mF at hM'
  refine r_aload_n (pc := 856) dL_law_856 rfl <| r_aload_nO (pc := 857) dL_law_857 rfl <| r_iload_n (pc := 858) dL_law_858 rfl <| r_iconst (pc := 859) dL_law_859 <| r_iadd (pc := 860) dL_law_860 <| r_sld (pc := 861) dL_law_861 hG1 hG2 hG3 (by omega) <| r_aload_nO (pc := 862) dL_law_862 rfl <| r_iload_n (pc := 863) dL_law_863 rfl <| r_iconst (pc := 864) dL_law_864 <| r_iadd (pc := 865) dL_law_865 <| r_sld (pc := 866) dL_law_866 hG1 hG2 hG3 (by omega) <| cVi [_, _] (pc := 867) dL_law_867 k_L_112 ⟨⟨Nat.le_of_ble_eq_true rfl, Nat.le_of_ble_eq_true rfl⟩, ⟨hA, hB⟩, Nat.le_of_ble_eq_true rfl⟩ ⟨rfl, rfl⟩ hM' ?_
  refine ms_struck k3 hg.1 (scI_in _ _) (scI_in _ _) (fun h2 m1 m2 => ?_)
  refine ⟨_, rfl, ?_⟩
  refine r_eqS (pc := 870) 1099 dL_law_870 (by decide) <| ?_
  exact hN _ _ _ (k1.mr m2) m1 (gd_struck hg)
theorem law_have (hG1 : G.2.2.2.2 25 = some b) (hG2 : G.2.2.2.2 26 = some Ln) (hG3 : Ln < 2147483648) (hi : 0 ≤ i ∧ i + 5 ≤ Ln) (hA : c0 ≤ 600000) (hB : s0 ≤ 7302250) (hC : isC h n s) (hM : isM h s) (hg : gd s) (hN : nxt G nm i c0 s0 Q) : At G (mLw nm) 875 [vO 25, vR 0, vR 45, vI i] [] (c0, s0, n) h Q := by
  have d0 := hC.1
  obtain ⟨e, it, g45, -⟩ := id hM.raw
  have hM' := g45
  unfold mF at hM'
  have a1 := scI_in G (i + 1).toNat
  have a2 := scI_in G (i + 2).toNat
  have a3 := scI_in G (i + 3).toNat
  have a4 := scI_in G (i + 4).toNat
  by_cases hz : scI G (i + 3).toNat = 0
  · skip
    refine r_aload_n (pc := 875) dL_law_875 rfl <| r_aload_nO (pc := 876) dL_law_876 rfl <| r_iload_n (pc := 877) dL_law_877 rfl <| r_iconst (pc := 878) dL_law_878 <| r_iadd (pc := 879) dL_law_879 <| r_sld (pc := 880) dL_law_880 hG1 hG2 hG3 (by omega) <| r_aload_nO (pc := 881) dL_law_881 rfl <| r_iload_n (pc := 882) dL_law_882 rfl <| r_iconst (pc := 883) dL_law_883 <| r_iadd (pc := 884) dL_law_884 <| r_sld (pc := 885) dL_law_885 hG1 hG2 hG3 (by omega) <| r_aload_nO (pc := 886) dL_law_886 rfl <| r_iload_n (pc := 887) dL_law_887 rfl <| r_iconst (pc := 888) dL_law_888 <| r_iadd (pc := 889) dL_law_889 <| r_sld (pc := 890) dL_law_890 hG1 hG2 hG3 (by omega) <| r_if_eq (pc := 891) 898 dL_law_891 (by decide) (by omega) (fun hc_891 => ?_) (fun hc_891 => ?_)
    · skip
      refine r_iconst (pc := 898) dL_law_898 <| cVi [_, _, _] (pc := 899) dL_law_899 k_L_113 ⟨⟨Nat.le_of_ble_eq_true rfl, Nat.le_of_ble_eq_true rfl⟩, ⟨hA, hB⟩, Nat.le_of_ble_eq_true rfl⟩ ⟨rfl, rfl⟩ d0 ?_
      refine cs_have hC hg.1 (scI_in _ _) (scI_in _ _) (by omega) (fun h1 k1 k2 => ?_)
      refine ⟨_, rfl, ?_⟩
      have k3 := hM.cr k2
      obtain ⟨e, it, g45, -⟩ := id k3.raw
      clear d0
      have d0 := k1.1
      clear hM'
      have hM' := g45
      unfold mF at hM'
      refine r_aload_n (pc := 902) dL_law_902 rfl <| r_aload_nO (pc := 903) dL_law_903 rfl <| r_iload_n (pc := 904) dL_law_904 rfl <| r_iconst (pc := 905) dL_law_905 <| r_iadd (pc := 906) dL_law_906 <| r_sld (pc := 907) dL_law_907 hG1 hG2 hG3 (by omega) <| r_aload_nO (pc := 908) dL_law_908 rfl <| r_iload_n (pc := 909) dL_law_909 rfl <| r_iconst (pc := 910) dL_law_910 <| r_iadd (pc := 911) dL_law_911 <| r_sld (pc := 912) dL_law_912 hG1 hG2 hG3 (by omega) <| r_aload_nO (pc := 913) dL_law_913 rfl <| r_iload_n (pc := 914) dL_law_914 rfl <| r_iconst (pc := 915) dL_law_915 <| r_iadd (pc := 916) dL_law_916 <| r_sld (pc := 917) dL_law_917 hG1 hG2 hG3 (by omega) <| r_if_eq (pc := 918) 925 dL_law_918 (by decide) (by omega) (fun hc_918 => ?_) (fun hc_918 => ?_)
      · skip
        refine r_iconst (pc := 925) dL_law_925 <| cVi [_, _, _] (pc := 926) dL_law_926 k_L_117 ⟨⟨Nat.le_of_ble_eq_true rfl, Nat.le_of_ble_eq_true rfl⟩, ⟨hA, hB⟩, Nat.le_of_ble_eq_true rfl⟩ ⟨rfl, rfl⟩ hM' ?_
        refine ms_have k3 hg.1 (scI_in _ _) (scI_in _ _) (by omega) (fun h2 m1 m2 => ?_)
        refine ⟨_, rfl, ?_⟩
        refine r_eqS (pc := 929) 1099 dL_law_929 (by decide) <| ?_
        exact hN _ _ _ (k1.mr m2) m1 (gd_have hg)
      · skip
        exfalso; omega
    · skip
      exfalso; omega
  · skip
    refine r_aload_n (pc := 875) dL_law_875 rfl <| r_aload_nO (pc := 876) dL_law_876 rfl <| r_iload_n (pc := 877) dL_law_877 rfl <| r_iconst (pc := 878) dL_law_878 <| r_iadd (pc := 879) dL_law_879 <| r_sld (pc := 880) dL_law_880 hG1 hG2 hG3 (by omega) <| r_aload_nO (pc := 881) dL_law_881 rfl <| r_iload_n (pc := 882) dL_law_882 rfl <| r_iconst (pc := 883) dL_law_883 <| r_iadd (pc := 884) dL_law_884 <| r_sld (pc := 885) dL_law_885 hG1 hG2 hG3 (by omega) <| r_aload_nO (pc := 886) dL_law_886 rfl <| r_iload_n (pc := 887) dL_law_887 rfl <| r_iconst (pc := 888) dL_law_888 <| r_iadd (pc := 889) dL_law_889 <| r_sld (pc := 890) dL_law_890 hG1 hG2 hG3 (by omega) <| r_if_eq (pc := 891) 898 dL_law_891 (by decide) (by omega) (fun hc_891 => ?_) (fun hc_891 => ?_)
    · skip
      exfalso; omega
    · skip
      refine r_iconst (pc := 894) dL_law_894 <| r_goto (pc := 895) 899 dL_law_895 (by decide) <| cVi [_, _, _] (pc := 899) dL_law_899 k_L_113 ⟨⟨Nat.le_of_ble_eq_true rfl, Nat.le_of_ble_eq_true rfl⟩, ⟨hA, hB⟩, Nat.le_of_ble_eq_true rfl⟩ ⟨rfl, rfl⟩ d0 ?_
      refine cs_have hC hg.1 (scI_in _ _) (scI_in _ _) (by omega) (fun h1 k1 k2 => ?_)
      refine ⟨_, rfl, ?_⟩
      have k3 := hM.cr k2
      obtain ⟨e, it, g45, -⟩ := id k3.raw
      clear d0
      have d0 := k1.1
      clear hM'
      have hM' := g45
      unfold mF at hM'
      refine r_aload_n (pc := 902) dL_law_902 rfl <| r_aload_nO (pc := 903) dL_law_903 rfl <| r_iload_n (pc := 904) dL_law_904 rfl <| r_iconst (pc := 905) dL_law_905 <| r_iadd (pc := 906) dL_law_906 <| r_sld (pc := 907) dL_law_907 hG1 hG2 hG3 (by omega) <| r_aload_nO (pc := 908) dL_law_908 rfl <| r_iload_n (pc := 909) dL_law_909 rfl <| r_iconst (pc := 910) dL_law_910 <| r_iadd (pc := 911) dL_law_911 <| r_sld (pc := 912) dL_law_912 hG1 hG2 hG3 (by omega) <| r_aload_nO (pc := 913) dL_law_913 rfl <| r_iload_n (pc := 914) dL_law_914 rfl <| r_iconst (pc := 915) dL_law_915 <| r_iadd (pc := 916) dL_law_916 <| r_sld (pc := 917) dL_law_917 hG1 hG2 hG3 (by omega) <| r_if_eq (pc := 918) 925 dL_law_918 (by decide) (by omega) (fun hc_918 => ?_) (fun hc_918 => ?_)
      · skip
        exfalso; omega
      · skip
        refine r_iconst (pc := 921) dL_law_921 <| r_goto (pc := 922) 926 dL_law_922 (by decide) <| cVi [_, _, _] (pc := 926) dL_law_926 k_L_117 ⟨⟨Nat.le_of_ble_eq_true rfl, Nat.le_of_ble_eq_true rfl⟩, ⟨hA, hB⟩, Nat.le_of_ble_eq_true rfl⟩ ⟨rfl, rfl⟩ hM' ?_
        refine ms_have k3 hg.1 (scI_in _ _) (scI_in _ _) (by omega) (fun h2 m1 m2 => ?_)
        refine ⟨_, rfl, ?_⟩
        refine r_eqS (pc := 929) 1099 dL_law_929 (by decide) <| ?_
        exact hN _ _ _ (k1.mr m2) m1 (gd_have hg)
theorem law_firsts (hG1 : G.2.2.2.2 25 = some b) (hG2 : G.2.2.2.2 26 = some Ln) (hG3 : Ln < 2147483648) (hi : 0 ≤ i ∧ i + 5 ≤ Ln) (hA : c0 ≤ 600000) (hB : s0 ≤ 7302250) (hC : isC h n s) (hM : isM h s) (hg : gd s) (hN : nxt G nm i c0 s0 Q) : At G (mLw nm) 934 [vO 25, vR 0, vR 45, vI i] [] (c0, s0, n) h Q := by
  have d0 := hC.1
  obtain ⟨e, it, g45, -⟩ := id hM.raw
  have hM' := g45
  unfold mF at hM'
  have a1 := scI_in G (i + 1).toNat
  have a2 := scI_in G (i + 2).toNat
  have a3 := scI_in G (i + 3).toNat
  have a4 := scI_in G (i + 4).toNat
  refine r_aload_n (pc := 934) dL_law_934 rfl <| r_aload_nO (pc := 935) dL_law_935 rfl <| r_iload_n (pc := 936) dL_law_936 rfl <| r_iconst (pc := 937) dL_law_937 <| r_iadd (pc := 938) dL_law_938 <| r_sld (pc := 939) dL_law_939 hG1 hG2 hG3 (by omega) <| cVi [_] (pc := 940) dL_law_940 k_L_118 ⟨⟨Nat.le_of_ble_eq_true rfl, Nat.le_of_ble_eq_true rfl⟩, ⟨hA, hB⟩, Nat.le_of_ble_eq_true rfl⟩ ⟨rfl, rfl⟩ d0 ?_
  refine cs_firsts hC hg.1 (scI_in _ _) (fun h1 k1 k2 => ?_)
  refine ⟨_, rfl, ?_⟩
  have k3 := hM.cr k2
  obtain ⟨e, it, g45, -⟩ := id k3.raw
  clear d0
  have d0 := k1.1
  clear hM'
  have hM' := g45
  unfold mF at hM'
  refine r_aload_n (pc := 943) dL_law_943 rfl <| r_aload_nO (pc := 944) dL_law_944 rfl <| r_iload_n (pc := 945) dL_law_945 rfl <| r_iconst (pc := 946) dL_law_946 <| r_iadd (pc := 947) dL_law_947 <| r_sld (pc := 948) dL_law_948 hG1 hG2 hG3 (by omega) <| cVi [_] (pc := 949) dL_law_949 k_L_121 ⟨⟨Nat.le_of_ble_eq_true rfl, Nat.le_of_ble_eq_true rfl⟩, ⟨hA, hB⟩, Nat.le_of_ble_eq_true rfl⟩ ⟨rfl, rfl⟩ hM' ?_
  refine ms_firsts k3 hg.1 (scI_in _ _) (fun h2 m1 m2 => ?_)
  refine ⟨_, rfl, ?_⟩
  refine r_eqS (pc := 952) 1099 dL_law_952 (by decide) <| ?_
  exact hN _ _ _ (k1.mr m2) m1 (gd_firsts hg)
theorem law_strikes (hG1 : G.2.2.2.2 25 = some b) (hG2 : G.2.2.2.2 26 = some Ln) (hG3 : Ln < 2147483648) (hi : 0 ≤ i ∧ i + 5 ≤ Ln) (hA : c0 ≤ 600000) (hB : s0 ≤ 7302250) (hC : isC h n s) (hM : isM h s) (hg : gd s) (hN : nxt G nm i c0 s0 Q) : At G (mLw nm) 957 [vO 25, vR 0, vR 45, vI i] [] (c0, s0, n) h Q := by
  have d0 := hC.1
  obtain ⟨e, it, g45, -⟩ := id hM.raw
  have hM' := g45
  unfold mF at hM'
  have a1 := scI_in G (i + 1).toNat
  have a2 := scI_in G (i + 2).toNat
  have a3 := scI_in G (i + 3).toNat
  have a4 := scI_in G (i + 4).toNat
  refine r_aload_n (pc := 957) dL_law_957 rfl <| cVi [] (pc := 958) dL_law_958 k_L_122 ⟨⟨Nat.le_of_ble_eq_true rfl, Nat.le_of_ble_eq_true rfl⟩, ⟨hA, hB⟩, Nat.le_of_ble_eq_true rfl⟩ ⟨rfl, rfl⟩ d0 ?_
  refine cs_strikes hC hg.1 (fun h1 k1 k2 => ?_)
  refine ⟨_, rfl, ?_⟩
  have k3 := hM.cr k2
  obtain ⟨e, it, g45, -⟩ := id k3.raw
  clear d0
  have d0 := k1.1
  clear hM'
  have hM' := g45
  unfold mF at hM'
  refine r_aload_n (pc := 961) dL_law_961 rfl <| cVi [] (pc := 962) dL_law_962 k_L_125 ⟨⟨Nat.le_of_ble_eq_true rfl, Nat.le_of_ble_eq_true rfl⟩, ⟨hA, hB⟩, Nat.le_of_ble_eq_true rfl⟩ ⟨rfl, rfl⟩ hM' ?_
  refine ms_strikes k3 hg.1 (fun h2 m1 m2 => ?_)
  refine ⟨_, rfl, ?_⟩
  refine r_eqS (pc := 965) 1099 dL_law_965 (by decide) <| ?_
  exact hN _ _ _ (k1.mr m2) m1 (gd_strikes hg)
theorem law_part (hG1 : G.2.2.2.2 25 = some b) (hG2 : G.2.2.2.2 26 = some Ln) (hG3 : Ln < 2147483648) (hi : 0 ≤ i ∧ i + 5 ≤ Ln) (hA : c0 ≤ 600000) (hB : s0 ≤ 7302250) (hC : isC h n s) (hM : isM h s) (hg : gd s) (hN : nxt G nm i c0 s0 Q) : At G (mLw nm) 970 [vO 25, vR 0, vR 45, vI i] [] (c0, s0, n) h Q := by
  have d0 := hC.1
  obtain ⟨e, it, g45, -⟩ := id hM.raw
  have hM' := g45
  unfold mF at hM'
  have a1 := scI_in G (i + 1).toNat
  have a2 := scI_in G (i + 2).toNat
  have a3 := scI_in G (i + 3).toNat
  have a4 := scI_in G (i + 4).toNat
  refine r_aload_n (pc := 970) dL_law_970 rfl <| r_aload_nO (pc := 971) dL_law_971 rfl <| r_iload_n (pc := 972) dL_law_972 rfl <| r_iconst (pc := 973) dL_law_973 <| r_iadd (pc := 974) dL_law_974 <| r_sld (pc := 975) dL_law_975 hG1 hG2 hG3 (by omega) <| cVi [_] (pc := 976) dL_law_976 k_L_126 ⟨⟨Nat.le_of_ble_eq_true rfl, Nat.le_of_ble_eq_true rfl⟩, ⟨hA, hB⟩, Nat.le_of_ble_eq_true rfl⟩ ⟨rfl, rfl⟩ d0 ?_
  refine cs_part hC (scI_in _ _) (fun h1 k1 k2 => ?_)
  refine ⟨_, rfl, ?_⟩
  have k3 := hM.cr k2
  obtain ⟨e, it, g45, -⟩ := id k3.raw
  clear d0
  have d0 := k1.1
  clear hM'
  have hM' := g45
  unfold mF at hM'
  refine r_aload_n (pc := 979) dL_law_979 rfl <| r_aload_nO (pc := 980) dL_law_980 rfl <| r_iload_n (pc := 981) dL_law_981 rfl <| r_iconst (pc := 982) dL_law_982 <| r_iadd (pc := 983) dL_law_983 <| r_sld (pc := 984) dL_law_984 hG1 hG2 hG3 (by omega) <| cVi [_] (pc := 985) dL_law_985 k_L_129 ⟨⟨Nat.le_of_ble_eq_true rfl, Nat.le_of_ble_eq_true rfl⟩, ⟨hA, hB⟩, Nat.le_of_ble_eq_true rfl⟩ ⟨rfl, rfl⟩ hM' ?_
  refine ms_part k3 (scI_in _ _) (fun h2 m1 m2 => ?_)
  refine ⟨_, rfl, ?_⟩
  refine r_eqS (pc := 988) 1099 dL_law_988 (by decide) <| ?_
  exact hN _ _ _ (k1.mr m2) m1 (gd_part hg)
theorem law_image (hG1 : G.2.2.2.2 25 = some b) (hG2 : G.2.2.2.2 26 = some Ln) (hG3 : Ln < 2147483648) (hi : 0 ≤ i ∧ i + 5 ≤ Ln) (hA : c0 + 14 ≤ 600000) (hB : s0 + 435 ≤ 7302250) (hC : isC h n s) (hM : isM h s) (hg : gd s) (hN : nxt G nm i (c0 + mX8_image.mc) (s0 + mX8_image.ms) Q) : At G (mLw nm) 993 [vO 25, vR 0, vR 45, vI i] [] (c0, s0, n) h Q := by
  have d0 := hC.1
  obtain ⟨e, it, g45, -⟩ := id hM.raw
  have hM' := g45
  unfold mF at hM'
  have a1 := scI_in G (i + 1).toNat
  have a2 := scI_in G (i + 2).toNat
  have a3 := scI_in G (i + 3).toNat
  have a4 := scI_in G (i + 4).toNat
  refine r_aload_n (pc := 993) dL_law_993 rfl <| r_aload_nO (pc := 994) dL_law_994 rfl <| r_iload_n (pc := 995) dL_law_995 rfl <| r_iconst (pc := 996) dL_law_996 <| r_iadd (pc := 997) dL_law_997 <| r_sld (pc := 998) dL_law_998 hG1 hG2 hG3 (by omega) <| cVa [_] (pc := 999) dL_law_999 k_L_130 ⟨⟨Nat.le_of_ble_eq_true rfl, Nat.le_of_ble_eq_true rfl⟩, ⟨hA, hB⟩, Nat.le_of_ble_eq_true rfl⟩ d0 ?_
  refine cs_image hC hg.1 (scI_in _ _) (fun h1 n1 k1 k2 => ?_)
  refine ⟨_, rfl, ?_⟩
  have k3 := hM.cr k2
  obtain ⟨e, it, g45, -⟩ := id k3.raw
  clear d0
  have d0 := k1.1
  clear hM'
  have hM' := g45
  unfold mF at hM'
  refine r_aload_n (pc := 1002) dL_law_1002 rfl <| r_aload_nO (pc := 1003) dL_law_1003 rfl <| r_iload_n (pc := 1004) dL_law_1004 rfl <| r_iconst (pc := 1005) dL_law_1005 <| r_iadd (pc := 1006) dL_law_1006 <| r_sld (pc := 1007) dL_law_1007 hG1 hG2 hG3 (by omega) <| cVi [_] (pc := 1008) dL_law_1008 k_L_133 ⟨⟨Nat.le_of_ble_eq_true rfl, Nat.le_of_ble_eq_true rfl⟩, ⟨hA, hB⟩, Nat.le_of_ble_eq_true rfl⟩ ⟨rfl, rfl⟩ hM' ?_
  refine ms_image k3 hg.1 (scI_in _ _) (fun h2 m1 m2 => ?_)
  refine ⟨_, rfl, ?_⟩
  refine r_eqS (pc := 1011) 1099 dL_law_1011 (by decide) <| ?_
  exact hN _ _ _ (k1.mr m2) m1 (gd_image hg)
theorem law_from (hG1 : G.2.2.2.2 25 = some b) (hG2 : G.2.2.2.2 26 = some Ln) (hG3 : Ln < 2147483648) (hi : 0 ≤ i ∧ i + 5 ≤ Ln) (hA : c0 ≤ 600000) (hB : s0 ≤ 7302250) (hC : isC h n s) (hM : isM h s) (hg : gd s) (hN : nxt G nm i c0 s0 Q) : At G (mLw nm) 1016 [vO 25, vR 0, vR 45, vI i] [] (c0, s0, n) h Q := by
  have d0 := hC.1
  obtain ⟨e, it, g45, -⟩ := id hM.raw
  have hM' := g45
  unfold mF at hM'
  have a1 := scI_in G (i + 1).toNat
  have a2 := scI_in G (i + 2).toNat
  have a3 := scI_in G (i + 3).toNat
  have a4 := scI_in G (i + 4).toNat
  refine r_aload_n (pc := 1016) dL_law_1016 rfl <| r_aload_nO (pc := 1017) dL_law_1017 rfl <| r_iload_n (pc := 1018) dL_law_1018 rfl <| r_iconst (pc := 1019) dL_law_1019 <| r_iadd (pc := 1020) dL_law_1020 <| r_sld (pc := 1021) dL_law_1021 hG1 hG2 hG3 (by omega) <| cVi [_] (pc := 1022) dL_law_1022 k_L_134 ⟨⟨Nat.le_of_ble_eq_true rfl, Nat.le_of_ble_eq_true rfl⟩, ⟨hA, hB⟩, Nat.le_of_ble_eq_true rfl⟩ ⟨rfl, rfl⟩ d0 ?_
  refine cs_from hC hg.1 (scI_in _ _) (fun h1 k1 k2 => ?_)
  refine ⟨_, rfl, ?_⟩
  have k3 := hM.cr k2
  obtain ⟨e, it, g45, -⟩ := id k3.raw
  clear d0
  have d0 := k1.1
  clear hM'
  have hM' := g45
  unfold mF at hM'
  refine r_aload_n (pc := 1025) dL_law_1025 rfl <| r_aload_nO (pc := 1026) dL_law_1026 rfl <| r_iload_n (pc := 1027) dL_law_1027 rfl <| r_iconst (pc := 1028) dL_law_1028 <| r_iadd (pc := 1029) dL_law_1029 <| r_sld (pc := 1030) dL_law_1030 hG1 hG2 hG3 (by omega) <| cVi [_] (pc := 1031) dL_law_1031 k_L_137 ⟨⟨Nat.le_of_ble_eq_true rfl, Nat.le_of_ble_eq_true rfl⟩, ⟨hA, hB⟩, Nat.le_of_ble_eq_true rfl⟩ ⟨rfl, rfl⟩ hM' ?_
  refine ms_from k3 hg.1 (scI_in _ _) (fun h2 m1 m2 => ?_)
  refine ⟨_, rfl, ?_⟩
  refine r_eqS (pc := 1034) 1099 dL_law_1034 (by decide) <| ?_
  exact hN _ _ _ (k1.mr m2) m1 (gd_from hg)
theorem law_status (hG1 : G.2.2.2.2 25 = some b) (hG2 : G.2.2.2.2 26 = some Ln) (hG3 : Ln < 2147483648) (hi : 0 ≤ i ∧ i + 5 ≤ Ln) (hA : c0 ≤ 600000) (hB : s0 ≤ 7302250) (hC : isC h n s) (hM : isM h s) (hg : gd s) (hN : nxt G nm i c0 s0 Q) : At G (mLw nm) 1039 [vO 25, vR 0, vR 45, vI i] [] (c0, s0, n) h Q := by
  have d0 := hC.1
  obtain ⟨e, it, g45, -⟩ := id hM.raw
  have hM' := g45
  unfold mF at hM'
  have a1 := scI_in G (i + 1).toNat
  have a2 := scI_in G (i + 2).toNat
  have a3 := scI_in G (i + 3).toNat
  have a4 := scI_in G (i + 4).toNat
  refine r_aload_n (pc := 1039) dL_law_1039 rfl <| r_aload_nO (pc := 1040) dL_law_1040 rfl <| r_iload_n (pc := 1041) dL_law_1041 rfl <| r_iconst (pc := 1042) dL_law_1042 <| r_iadd (pc := 1043) dL_law_1043 <| r_sld (pc := 1044) dL_law_1044 hG1 hG2 hG3 (by omega) <| cVi [_] (pc := 1045) dL_law_1045 k_L_138 ⟨⟨Nat.le_of_ble_eq_true rfl, Nat.le_of_ble_eq_true rfl⟩, ⟨hA, hB⟩, Nat.le_of_ble_eq_true rfl⟩ ⟨rfl, rfl⟩ d0 ?_
  refine cs_status hC (scI_in _ _) (fun h1 k1 k2 => ?_)
  refine ⟨_, rfl, ?_⟩
  have k3 := hM.cr k2
  obtain ⟨e, it, g45, -⟩ := id k3.raw
  clear d0
  have d0 := k1.1
  clear hM'
  have hM' := g45
  unfold mF at hM'
  refine r_aload_n (pc := 1048) dL_law_1048 rfl <| r_aload_nO (pc := 1049) dL_law_1049 rfl <| r_iload_n (pc := 1050) dL_law_1050 rfl <| r_iconst (pc := 1051) dL_law_1051 <| r_iadd (pc := 1052) dL_law_1052 <| r_sld (pc := 1053) dL_law_1053 hG1 hG2 hG3 (by omega) <| cVi [_] (pc := 1054) dL_law_1054 k_L_141 ⟨⟨Nat.le_of_ble_eq_true rfl, Nat.le_of_ble_eq_true rfl⟩, ⟨hA, hB⟩, Nat.le_of_ble_eq_true rfl⟩ ⟨rfl, rfl⟩ hM' ?_
  refine ms_status k3 (scI_in _ _) (fun h2 m1 m2 => ?_)
  refine ⟨_, rfl, ?_⟩
  refine r_eqS (pc := 1057) 1099 dL_law_1057 (by decide) <| ?_
  exact hN _ _ _ (k1.mr m2) m1 (gd_status hg)
theorem law_count (hG1 : G.2.2.2.2 25 = some b) (hG2 : G.2.2.2.2 26 = some Ln) (hG3 : Ln < 2147483648) (hi : 0 ≤ i ∧ i + 5 ≤ Ln) (hA : c0 ≤ 600000) (hB : s0 ≤ 7302250) (hC : isC h n s) (hM : isM h s) (hg : gd s) (hN : nxt G nm i c0 s0 Q) : At G (mLw nm) 1062 [vO 25, vR 0, vR 45, vI i] [] (c0, s0, n) h Q := by
  have d0 := hC.1
  obtain ⟨e, it, g45, -⟩ := id hM.raw
  have hM' := g45
  unfold mF at hM'
  have a1 := scI_in G (i + 1).toNat
  have a2 := scI_in G (i + 2).toNat
  have a3 := scI_in G (i + 3).toNat
  have a4 := scI_in G (i + 4).toNat
  refine r_aload_n (pc := 1062) dL_law_1062 rfl <| r_aload_nO (pc := 1063) dL_law_1063 rfl <| r_iload_n (pc := 1064) dL_law_1064 rfl <| r_iconst (pc := 1065) dL_law_1065 <| r_iadd (pc := 1066) dL_law_1066 <| r_sld (pc := 1067) dL_law_1067 hG1 hG2 hG3 (by omega) <| cVi [_] (pc := 1068) dL_law_1068 k_L_142 ⟨⟨Nat.le_of_ble_eq_true rfl, Nat.le_of_ble_eq_true rfl⟩, ⟨hA, hB⟩, Nat.le_of_ble_eq_true rfl⟩ ⟨rfl, rfl⟩ d0 ?_
  refine cs_count hC (scI_in _ _) (fun h1 k1 k2 => ?_)
  refine ⟨_, rfl, ?_⟩
  have k3 := hM.cr k2
  obtain ⟨e, it, g45, -⟩ := id k3.raw
  clear d0
  have d0 := k1.1
  clear hM'
  have hM' := g45
  unfold mF at hM'
  refine r_aload_n (pc := 1071) dL_law_1071 rfl <| r_aload_nO (pc := 1072) dL_law_1072 rfl <| r_iload_n (pc := 1073) dL_law_1073 rfl <| r_iconst (pc := 1074) dL_law_1074 <| r_iadd (pc := 1075) dL_law_1075 <| r_sld (pc := 1076) dL_law_1076 hG1 hG2 hG3 (by omega) <| cVi [_] (pc := 1077) dL_law_1077 k_L_145 ⟨⟨Nat.le_of_ble_eq_true rfl, Nat.le_of_ble_eq_true rfl⟩, ⟨hA, hB⟩, Nat.le_of_ble_eq_true rfl⟩ ⟨rfl, rfl⟩ hM' ?_
  refine ms_count k3 (scI_in _ _) (fun h2 m1 m2 => ?_)
  refine ⟨_, rfl, ?_⟩
  refine r_eqS (pc := 1080) 1099 dL_law_1080 (by decide) <| ?_
  exact hN _ _ _ (k1.mr m2) m1 (gd_count hg)
theorem law_digest (hG1 : G.2.2.2.2 25 = some b) (hG2 : G.2.2.2.2 26 = some Ln) (hG3 : Ln < 2147483648) (hi : 0 ≤ i ∧ i + 5 ≤ Ln) (hA : c0 ≤ 600000) (hB : s0 ≤ 7302250) (hC : isC h n s) (hM : isM h s) (hg : gd s) (hN : nxt G nm i c0 s0 Q) : At G (mLw nm) 1085 [vO 25, vR 0, vR 45, vI i] [] (c0, s0, n) h Q := by
  have d0 := hC.1
  obtain ⟨e, it, g45, -⟩ := id hM.raw
  have hM' := g45
  unfold mF at hM'
  have a1 := scI_in G (i + 1).toNat
  have a2 := scI_in G (i + 2).toNat
  have a3 := scI_in G (i + 3).toNat
  have a4 := scI_in G (i + 4).toNat
  refine r_aload_n (pc := 1085) dL_law_1085 rfl <| cVi [] (pc := 1086) dL_law_1086 k_L_146 ⟨⟨Nat.le_of_ble_eq_true rfl, Nat.le_of_ble_eq_true rfl⟩, ⟨hA, hB⟩, Nat.le_of_ble_eq_true rfl⟩ ⟨rfl, rfl⟩ d0 ?_
  refine cs_digest hC hg.1 (by have := hg.2.2.2; omega) (by have := hg.2.2.2; omega) ?_
  refine ⟨_, rfl, ?_⟩
  refine r_aload_n (pc := 1089) dL_law_1089 rfl <| cVi [] (pc := 1090) dL_law_1090 k_L_150 ⟨⟨Nat.le_of_ble_eq_true rfl, Nat.le_of_ble_eq_true rfl⟩, ⟨hA, hB⟩, Nat.le_of_ble_eq_true rfl⟩ ⟨rfl, rfl⟩ hM' ?_
  refine ms_digest hM hg.1 (by have := hg.2.2.2; omega) (by have := hg.2.2.2; omega) ?_
  refine ⟨_, rfl, ?_⟩
  refine r_lcS (pc := 1093) 1099 dL_law_1093 dL_law_1094 (by decide) <| ?_
  exact hN _ _ _ hC hM hg
end LWC

