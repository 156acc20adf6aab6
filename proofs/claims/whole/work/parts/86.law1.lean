abbrev mL_law : zMd := (yL_law, cL_law, 4, some .boolean, 12)
set_option maxRecDepth 100000 in
set_option maxHeartbeats 4000000 in
theorem lc_row {l : zL} {I : Nat → Nat → Int32} {J : Nat → Nat → Int64} {nw : Bool} (h : Rel I I) (i : Nat) (hi : i + 6 ≤ l.2.1) (hL : l.2.1 ≤ 384) {Q : Option Value → zH → Prop} (hQ : ∀ (I : Nat → Nat → Int32) (J : Nat → Nat → Int64) (nw : Bool), Rel I I → zW l mL_law SH.length (zsl SH) 1327 [.ref 10002, .ref 0, .ref 85, .int (nI i)] [] (I, J, RF nw, SH) Q) : zW l mL_law SH.length (zsl SH) 184 [.ref 10002, .ref 0, .ref 85, .int (nI i)] [] (I, J, RF nw, SH) Q := by
  refine z_aload_1 (pc := 184) dL_law_184 ?_
  refine z_aload_0 (pc := 185) dL_law_185 ?_
  refine z_iload_3 (pc := 186) dL_law_186 ?_
  refine z_iconst (pc := 187) (1) dL_law_187 rfl ?_
  refine z_iadd (pc := 188) dL_law_188 ?_
  refine z_sld (pc := 189) dL_law_189 (pk_in (i + 1) l.2.1 (by omega) (nI_add i 1) (by omega)) ?_
  refine z_aload_0 (pc := 190) dL_law_190 ?_
  refine z_iload_3 (pc := 191) dL_law_191 ?_
  refine z_iconst (pc := 192) (2) dL_law_192 rfl ?_
  refine z_iadd (pc := 193) dL_law_193 ?_
  refine z_sld (pc := 194) dL_law_194 (pk_in (i + 2) l.2.1 (by omega) (nI_add i 2) (by omega)) ?_
  refine z_aload_0 (pc := 195) dL_law_195 ?_
  refine z_iload_3 (pc := 196) dL_law_196 ?_
  refine z_iconst (pc := 197) (3) dL_law_197 rfl ?_
  refine z_iadd (pc := 198) dL_law_198 ?_
  refine z_sld (pc := 199) dL_law_199 (pk_in (i + 3) l.2.1 (by omega) (nI_add i 3) (by omega)) ?_
  refine z_V3 (pc := 200) dL_law_200 mlL_13 kX8_row vX8_row (by decide) (by decide) (by first | rfl | assumption) (Nat.le_of_ble_eq_true rfl) (s_row h) ⟨Nat.le_refl _, Nat.le_refl _⟩ (fun r h1 hq => ?_)
  obtain ⟨w, I2, J2, nw2, rfl, rfl, hm⟩ := hq
  refine z_aload_2 (pc := 203) dL_law_203 ?_
  refine z_aload_0 (pc := 204) dL_law_204 ?_
  refine z_iload_3 (pc := 205) dL_law_205 ?_
  refine z_iconst (pc := 206) (1) dL_law_206 rfl ?_
  refine z_iadd (pc := 207) dL_law_207 ?_
  refine z_sld (pc := 208) dL_law_208 (pk_in (i + 1) l.2.1 (by omega) (nI_add i 1) (by omega)) ?_
  refine z_aload_0 (pc := 209) dL_law_209 ?_
  refine z_iload_3 (pc := 210) dL_law_210 ?_
  refine z_iconst (pc := 211) (2) dL_law_211 rfl ?_
  refine z_iadd (pc := 212) dL_law_212 ?_
  refine z_sld (pc := 213) dL_law_213 (pk_in (i + 2) l.2.1 (by omega) (nI_add i 2) (by omega)) ?_
  refine z_aload_0 (pc := 214) dL_law_214 ?_
  refine z_iload_3 (pc := 215) dL_law_215 ?_
  refine z_iconst (pc := 216) (3) dL_law_216 rfl ?_
  refine z_iadd (pc := 217) dL_law_217 ?_
  refine z_sld (pc := 218) dL_law_218 (pk_in (i + 3) l.2.1 (by omega) (nI_add i 3) (by omega)) ?_
  refine z_V3 (pc := 219) dL_law_219 mlL_17 kX9_row vX9_row (by decide) (by decide) (by first | rfl | assumption) (Nat.le_of_ble_eq_true rfl) (hm) ⟨Nat.le_refl _, Nat.le_refl _⟩ (fun r h1 hq => ?_)
  obtain ⟨rfl, I3, J3, nw3, rfl, hR3⟩ := hq
  refine z_icmp_eq (pc := 222) (tgt := 1327) dL_law_222 (by decide) (fun c222 => ?_) (fun c222 => ?_)
  · skip
    exact hQ I3 J3 nw3 hR3
  · exact absurd rfl c222
set_option maxRecDepth 100000 in
set_option maxHeartbeats 4000000 in
theorem lc_set {l : zL} {I : Nat → Nat → Int32} {J : Nat → Nat → Int64} {nw : Bool} (h : Rel I I) (i : Nat) (hi : i + 6 ≤ l.2.1) (hL : l.2.1 ≤ 384) {Q : Option Value → zH → Prop} (hQ : ∀ (I : Nat → Nat → Int32) (J : Nat → Nat → Int64) (nw : Bool), Rel I I → zW l mL_law SH.length (zsl SH) 1327 [.ref 10002, .ref 0, .ref 85, .int (nI i)] [] (I, J, RF nw, SH) Q) : zW l mL_law SH.length (zsl SH) 227 [.ref 10002, .ref 0, .ref 85, .int (nI i)] [] (I, J, RF nw, SH) Q := by
  refine z_aload_1 (pc := 227) dL_law_227 ?_
  refine z_aload_0 (pc := 228) dL_law_228 ?_
  refine z_iload_3 (pc := 229) dL_law_229 ?_
  refine z_iconst (pc := 230) (1) dL_law_230 rfl ?_
  refine z_iadd (pc := 231) dL_law_231 ?_
  refine z_sld (pc := 232) dL_law_232 (pk_in (i + 1) l.2.1 (by omega) (nI_add i 1) (by omega)) ?_
  refine z_aload_0 (pc := 233) dL_law_233 ?_
  refine z_iload_3 (pc := 234) dL_law_234 ?_
  refine z_iconst (pc := 235) (2) dL_law_235 rfl ?_
  refine z_iadd (pc := 236) dL_law_236 ?_
  refine z_sld (pc := 237) dL_law_237 (pk_in (i + 2) l.2.1 (by omega) (nI_add i 2) (by omega)) ?_
  refine z_aload_0 (pc := 238) dL_law_238 ?_
  refine z_iload_3 (pc := 239) dL_law_239 ?_
  refine z_iconst (pc := 240) (3) dL_law_240 rfl ?_
  refine z_iadd (pc := 241) dL_law_241 ?_
  refine z_sld (pc := 242) dL_law_242 (pk_in (i + 3) l.2.1 (by omega) (nI_add i 3) (by omega)) ?_
  refine z_V3 (pc := 243) dL_law_243 mlL_18 kX8_set vX8_set (by decide) (by decide) (by first | rfl | assumption) (Nat.le_of_ble_eq_true rfl) (s_set h) ⟨Nat.le_refl _, Nat.le_refl _⟩ (fun r h1 hq => ?_)
  obtain ⟨w, I2, J2, nw2, rfl, rfl, hm⟩ := hq
  refine z_aload_2 (pc := 246) dL_law_246 ?_
  refine z_aload_0 (pc := 247) dL_law_247 ?_
  refine z_iload_3 (pc := 248) dL_law_248 ?_
  refine z_iconst (pc := 249) (1) dL_law_249 rfl ?_
  refine z_iadd (pc := 250) dL_law_250 ?_
  refine z_sld (pc := 251) dL_law_251 (pk_in (i + 1) l.2.1 (by omega) (nI_add i 1) (by omega)) ?_
  refine z_aload_0 (pc := 252) dL_law_252 ?_
  refine z_iload_3 (pc := 253) dL_law_253 ?_
  refine z_iconst (pc := 254) (2) dL_law_254 rfl ?_
  refine z_iadd (pc := 255) dL_law_255 ?_
  refine z_sld (pc := 256) dL_law_256 (pk_in (i + 2) l.2.1 (by omega) (nI_add i 2) (by omega)) ?_
  refine z_aload_0 (pc := 257) dL_law_257 ?_
  refine z_iload_3 (pc := 258) dL_law_258 ?_
  refine z_iconst (pc := 259) (3) dL_law_259 rfl ?_
  refine z_iadd (pc := 260) dL_law_260 ?_
  refine z_sld (pc := 261) dL_law_261 (pk_in (i + 3) l.2.1 (by omega) (nI_add i 3) (by omega)) ?_
  refine z_V3 (pc := 262) dL_law_262 mlL_21 kX9_set vX9_set (by decide) (by decide) (by first | rfl | assumption) (Nat.le_of_ble_eq_true rfl) (hm) ⟨Nat.le_refl _, Nat.le_refl _⟩ (fun r h1 hq => ?_)
  obtain ⟨rfl, I3, J3, nw3, rfl, hR3⟩ := hq
  refine z_icmp_eq (pc := 265) (tgt := 1327) dL_law_265 (by decide) (fun c265 => ?_) (fun c265 => ?_)
  · skip
    exact hQ I3 J3 nw3 hR3
  · exact absurd rfl c265
set_option maxRecDepth 100000 in
set_option maxHeartbeats 4000000 in
theorem lc_copy {l : zL} {I : Nat → Nat → Int32} {J : Nat → Nat → Int64} {nw : Bool} (h : Rel I I) (i : Nat) (hi : i + 6 ≤ l.2.1) (hL : l.2.1 ≤ 384) {Q : Option Value → zH → Prop} (hQ : ∀ (I : Nat → Nat → Int32) (J : Nat → Nat → Int64) (nw : Bool), Rel I I → zW l mL_law SH.length (zsl SH) 1327 [.ref 10002, .ref 0, .ref 85, .int (nI i)] [] (I, J, RF nw, SH) Q) : zW l mL_law SH.length (zsl SH) 270 [.ref 10002, .ref 0, .ref 85, .int (nI i)] [] (I, J, RF nw, SH) Q := by
  refine z_aload_1 (pc := 270) dL_law_270 ?_
  refine z_aload_0 (pc := 271) dL_law_271 ?_
  refine z_iload_3 (pc := 272) dL_law_272 ?_
  refine z_iconst (pc := 273) (1) dL_law_273 rfl ?_
  refine z_iadd (pc := 274) dL_law_274 ?_
  refine z_sld (pc := 275) dL_law_275 (pk_in (i + 1) l.2.1 (by omega) (nI_add i 1) (by omega)) ?_
  refine z_aload_0 (pc := 276) dL_law_276 ?_
  refine z_iload_3 (pc := 277) dL_law_277 ?_
  refine z_iconst (pc := 278) (2) dL_law_278 rfl ?_
  refine z_iadd (pc := 279) dL_law_279 ?_
  refine z_sld (pc := 280) dL_law_280 (pk_in (i + 2) l.2.1 (by omega) (nI_add i 2) (by omega)) ?_
  refine z_aload_0 (pc := 281) dL_law_281 ?_
  refine z_iload_3 (pc := 282) dL_law_282 ?_
  refine z_iconst (pc := 283) (3) dL_law_283 rfl ?_
  refine z_iadd (pc := 284) dL_law_284 ?_
  refine z_sld (pc := 285) dL_law_285 (pk_in (i + 3) l.2.1 (by omega) (nI_add i 3) (by omega)) ?_
  refine z_aload_0 (pc := 286) dL_law_286 ?_
  refine z_iload_3 (pc := 287) dL_law_287 ?_
  refine z_iconst (pc := 288) (4) dL_law_288 rfl ?_
  refine z_iadd (pc := 289) dL_law_289 ?_
  refine z_sld (pc := 290) dL_law_290 (pk_in (i + 4) l.2.1 (by omega) (nI_add i 4) (by omega)) ?_
  refine z_aload_0 (pc := 291) dL_law_291 ?_
  refine z_iload_3 (pc := 292) dL_law_292 ?_
  refine z_iconst (pc := 293) (5) dL_law_293 rfl ?_
  refine z_iadd (pc := 294) dL_law_294 ?_
  refine z_sld (pc := 295) dL_law_295 (pk_in (i + 5) l.2.1 (by omega) (nI_add i 5) (by omega)) ?_
  refine z_V5 (pc := 296) dL_law_296 mlL_22 kX8_copy vX8_copy (by decide) (by decide) (by first | rfl | assumption) (Nat.le_of_ble_eq_true rfl) (s_copy h) ⟨Nat.le_refl _, Nat.le_refl _⟩ (fun r h1 hq => ?_)
  obtain ⟨w, I2, J2, nw2, rfl, rfl, hm⟩ := hq
  refine z_aload_2 (pc := 299) dL_law_299 ?_
  refine z_aload_0 (pc := 300) dL_law_300 ?_
  refine z_iload_3 (pc := 301) dL_law_301 ?_
  refine z_iconst (pc := 302) (1) dL_law_302 rfl ?_
  refine z_iadd (pc := 303) dL_law_303 ?_
  refine z_sld (pc := 304) dL_law_304 (pk_in (i + 1) l.2.1 (by omega) (nI_add i 1) (by omega)) ?_
  refine z_aload_0 (pc := 305) dL_law_305 ?_
  refine z_iload_3 (pc := 306) dL_law_306 ?_
  refine z_iconst (pc := 307) (2) dL_law_307 rfl ?_
  refine z_iadd (pc := 308) dL_law_308 ?_
  refine z_sld (pc := 309) dL_law_309 (pk_in (i + 2) l.2.1 (by omega) (nI_add i 2) (by omega)) ?_
  refine z_aload_0 (pc := 310) dL_law_310 ?_
  refine z_iload_3 (pc := 311) dL_law_311 ?_
  refine z_iconst (pc := 312) (3) dL_law_312 rfl ?_
  refine z_iadd (pc := 313) dL_law_313 ?_
  refine z_sld (pc := 314) dL_law_314 (pk_in (i + 3) l.2.1 (by omega) (nI_add i 3) (by omega)) ?_
  refine z_aload_0 (pc := 315) dL_law_315 ?_
  refine z_iload_3 (pc := 316) dL_law_316 ?_
  refine z_iconst (pc := 317) (4) dL_law_317 rfl ?_
  refine z_iadd (pc := 318) dL_law_318 ?_
  refine z_sld (pc := 319) dL_law_319 (pk_in (i + 4) l.2.1 (by omega) (nI_add i 4) (by omega)) ?_
  refine z_aload_0 (pc := 320) dL_law_320 ?_
  refine z_iload_3 (pc := 321) dL_law_321 ?_
  refine z_iconst (pc := 322) (5) dL_law_322 rfl ?_
  refine z_iadd (pc := 323) dL_law_323 ?_
  refine z_sld (pc := 324) dL_law_324 (pk_in (i + 5) l.2.1 (by omega) (nI_add i 5) (by omega)) ?_
  refine z_V5 (pc := 325) dL_law_325 mlL_26 kX9_copy vX9_copy (by decide) (by decide) (by first | rfl | assumption) (Nat.le_of_ble_eq_true rfl) (hm) ⟨Nat.le_refl _, Nat.le_refl _⟩ (fun r h1 hq => ?_)
  obtain ⟨rfl, I3, J3, nw3, rfl, hR3⟩ := hq
  refine z_icmp_eq (pc := 328) (tgt := 1327) dL_law_328 (by decide) (fun c328 => ?_) (fun c328 => ?_)
  · skip
    exact hQ I3 J3 nw3 hR3
  · exact absurd rfl c328
set_option maxRecDepth 100000 in
set_option maxHeartbeats 4000000 in
theorem lc_drop {l : zL} {I : Nat → Nat → Int32} {J : Nat → Nat → Int64} {nw : Bool} (h : Rel I I) (i : Nat) (hi : i + 6 ≤ l.2.1) (hL : l.2.1 ≤ 384) {Q : Option Value → zH → Prop} (hQ : ∀ (I : Nat → Nat → Int32) (J : Nat → Nat → Int64) (nw : Bool), Rel I I → zW l mL_law SH.length (zsl SH) 1327 [.ref 10002, .ref 0, .ref 85, .int (nI i)] [] (I, J, RF nw, SH) Q) : zW l mL_law SH.length (zsl SH) 333 [.ref 10002, .ref 0, .ref 85, .int (nI i)] [] (I, J, RF nw, SH) Q := by
  refine z_aload_1 (pc := 333) dL_law_333 ?_
  refine z_aload_0 (pc := 334) dL_law_334 ?_
  refine z_iload_3 (pc := 335) dL_law_335 ?_
  refine z_iconst (pc := 336) (1) dL_law_336 rfl ?_
  refine z_iadd (pc := 337) dL_law_337 ?_
  refine z_sld (pc := 338) dL_law_338 (pk_in (i + 1) l.2.1 (by omega) (nI_add i 1) (by omega)) ?_
  refine z_V1 (pc := 339) dL_law_339 mlL_27 kX8_drop vX8_drop (by decide) (by decide) (by first | rfl | assumption) (Nat.le_of_ble_eq_true rfl) (s_drop h) ⟨Nat.le_refl _, Nat.le_refl _⟩ (fun r h1 hq => ?_)
  obtain ⟨w, I2, J2, nw2, rfl, rfl, hm⟩ := hq
  refine z_aload_2 (pc := 342) dL_law_342 ?_
  refine z_aload_0 (pc := 343) dL_law_343 ?_
  refine z_iload_3 (pc := 344) dL_law_344 ?_
  refine z_iconst (pc := 345) (1) dL_law_345 rfl ?_
  refine z_iadd (pc := 346) dL_law_346 ?_
  refine z_sld (pc := 347) dL_law_347 (pk_in (i + 1) l.2.1 (by omega) (nI_add i 1) (by omega)) ?_
  refine z_V1 (pc := 348) dL_law_348 mlL_31 kX9_drop vX9_drop (by decide) (by decide) (by first | rfl | assumption) (Nat.le_of_ble_eq_true rfl) (hm) ⟨Nat.le_refl _, Nat.le_refl _⟩ (fun r h1 hq => ?_)
  obtain ⟨rfl, I3, J3, nw3, rfl, hR3⟩ := hq
  refine z_icmp_eq (pc := 351) (tgt := 1327) dL_law_351 (by decide) (fun c351 => ?_) (fun c351 => ?_)
  · skip
    exact hQ I3 J3 nw3 hR3
  · exact absurd rfl c351
set_option maxRecDepth 100000 in
set_option maxHeartbeats 4000000 in
theorem lc_feed {l : zL} {I : Nat → Nat → Int32} {J : Nat → Nat → Int64} {nw : Bool} (h : Rel I I) (i : Nat) (hi : i + 6 ≤ l.2.1) (hL : l.2.1 ≤ 384) {Q : Option Value → zH → Prop} (hQ : ∀ (I : Nat → Nat → Int32) (J : Nat → Nat → Int64) (nw : Bool), Rel I I → zW l mL_law SH.length (zsl SH) 1327 [.ref 10002, .ref 0, .ref 85, .int (nI i)] [] (I, J, RF nw, SH) Q) : zW l mL_law SH.length (zsl SH) 356 [.ref 10002, .ref 0, .ref 85, .int (nI i)] [] (I, J, RF nw, SH) Q := by
  refine z_aload_1 (pc := 356) dL_law_356 ?_
  refine z_aload_0 (pc := 357) dL_law_357 ?_
  refine z_iload_3 (pc := 358) dL_law_358 ?_
  refine z_iconst (pc := 359) (1) dL_law_359 rfl ?_
  refine z_iadd (pc := 360) dL_law_360 ?_
  refine z_sld (pc := 361) dL_law_361 (pk_in (i + 1) l.2.1 (by omega) (nI_add i 1) (by omega)) ?_
  refine z_V1 (pc := 362) dL_law_362 mlL_32 kX8_feed vX8_feed (by decide) (by decide) (by first | rfl | assumption) (Nat.le_of_ble_eq_true rfl) (s_feed h) ⟨Nat.le_refl _, Nat.le_refl _⟩ (fun r h1 hq => ?_)
  obtain ⟨w, I2, J2, nw2, rfl, rfl, hm⟩ := hq
  refine z_aload_2 (pc := 365) dL_law_365 ?_
  refine z_aload_0 (pc := 366) dL_law_366 ?_
  refine z_iload_3 (pc := 367) dL_law_367 ?_
  refine z_iconst (pc := 368) (1) dL_law_368 rfl ?_
  refine z_iadd (pc := 369) dL_law_369 ?_
  refine z_sld (pc := 370) dL_law_370 (pk_in (i + 1) l.2.1 (by omega) (nI_add i 1) (by omega)) ?_
  refine z_V1 (pc := 371) dL_law_371 mlL_35 kX9_feed vX9_feed (by decide) (by decide) (by first | rfl | assumption) (Nat.le_of_ble_eq_true rfl) (hm) ⟨Nat.le_refl _, Nat.le_refl _⟩ (fun r h1 hq => ?_)
  obtain ⟨rfl, I3, J3, nw3, rfl, hR3⟩ := hq
  refine z_icmp_eq (pc := 374) (tgt := 1327) dL_law_374 (by decide) (fun c374 => ?_) (fun c374 => ?_)
  · skip
    exact hQ I3 J3 nw3 hR3
  · exact absurd rfl c374
set_option maxRecDepth 100000 in
set_option maxHeartbeats 4000000 in
theorem lc_town {l : zL} {I : Nat → Nat → Int32} {J : Nat → Nat → Int64} {nw : Bool} (h : Rel I I) (i : Nat) (hi : i + 6 ≤ l.2.1) (hL : l.2.1 ≤ 384) {Q : Option Value → zH → Prop} (hQ : ∀ (I : Nat → Nat → Int32) (J : Nat → Nat → Int64) (nw : Bool), Rel I I → zW l mL_law SH.length (zsl SH) 1327 [.ref 10002, .ref 0, .ref 85, .int (nI i)] [] (I, J, RF nw, SH) Q) : zW l mL_law SH.length (zsl SH) 379 [.ref 10002, .ref 0, .ref 85, .int (nI i)] [] (I, J, RF nw, SH) Q := by
  refine z_aload_1 (pc := 379) dL_law_379 ?_
  refine z_V0 (pc := 380) dL_law_380 mlL_36 kX8_town vX8_town (by decide) (by decide) (by first | rfl | assumption) (Nat.le_of_ble_eq_true rfl) (s_town h) ⟨Nat.le_refl _, Nat.le_refl _⟩ (fun r h1 hq => ?_)
  obtain ⟨w, I2, J2, nw2, rfl, rfl, hm⟩ := hq
  refine z_aload_2 (pc := 383) dL_law_383 ?_
  refine z_V0 (pc := 384) dL_law_384 mlL_40 kX9_town vX9_town (by decide) (by decide) (by first | rfl | assumption) (Nat.le_of_ble_eq_true rfl) (hm) ⟨Nat.le_refl _, Nat.le_refl _⟩ (fun r h1 hq => ?_)
  obtain ⟨rfl, I3, J3, nw3, rfl, hR3⟩ := hq
  refine z_icmp_eq (pc := 387) (tgt := 1327) dL_law_387 (by decide) (fun c387 => ?_) (fun c387 => ?_)
  · skip
    exact hQ I3 J3 nw3 hR3
  · exact absurd rfl c387
set_option maxRecDepth 100000 in
set_option maxHeartbeats 4000000 in
theorem lc_fault {l : zL} {I : Nat → Nat → Int32} {J : Nat → Nat → Int64} {nw : Bool} (h : Rel I I) (i : Nat) (hi : i + 6 ≤ l.2.1) (hL : l.2.1 ≤ 384) {Q : Option Value → zH → Prop} (hQ : ∀ (I : Nat → Nat → Int32) (J : Nat → Nat → Int64) (nw : Bool), Rel I I → zW l mL_law SH.length (zsl SH) 1327 [.ref 10002, .ref 0, .ref 85, .int (nI i)] [] (I, J, RF nw, SH) Q) : zW l mL_law SH.length (zsl SH) 392 [.ref 10002, .ref 0, .ref 85, .int (nI i)] [] (I, J, RF nw, SH) Q := by
  refine z_aload_1 (pc := 392) dL_law_392 ?_
  refine z_V0 (pc := 393) dL_law_393 mlL_41 kX8_fault vX8_fault (by decide) (by decide) (by first | rfl | assumption) (Nat.le_of_ble_eq_true rfl) (s_fault h) ⟨Nat.le_refl _, Nat.le_refl _⟩ (fun r h1 hq => ?_)
  obtain ⟨w, I2, J2, nw2, rfl, rfl, hm⟩ := hq
  refine z_aload_2 (pc := 396) dL_law_396 ?_
  refine z_V0 (pc := 397) dL_law_397 mlL_44 kX9_fault vX9_fault (by decide) (by decide) (by first | rfl | assumption) (Nat.le_of_ble_eq_true rfl) (hm) ⟨Nat.le_refl _, Nat.le_refl _⟩ (fun r h1 hq => ?_)
  obtain ⟨rfl, I3, J3, nw3, rfl, hR3⟩ := hq
  refine z_icmp_eq (pc := 400) (tgt := 1327) dL_law_400 (by decide) (fun c400 => ?_) (fun c400 => ?_)
  · skip
    exact hQ I3 J3 nw3 hR3
  · exact absurd rfl c400
set_option maxRecDepth 100000 in
set_option maxHeartbeats 4000000 in
theorem lc_undo {l : zL} {I : Nat → Nat → Int32} {J : Nat → Nat → Int64} {nw : Bool} (h : Rel I I) (i : Nat) (hi : i + 6 ≤ l.2.1) (hL : l.2.1 ≤ 384) {Q : Option Value → zH → Prop} (hQ : ∀ (I : Nat → Nat → Int32) (J : Nat → Nat → Int64) (nw : Bool), Rel I I → zW l mL_law SH.length (zsl SH) 1327 [.ref 10002, .ref 0, .ref 85, .int (nI i)] [] (I, J, RF nw, SH) Q) : zW l mL_law SH.length (zsl SH) 405 [.ref 10002, .ref 0, .ref 85, .int (nI i)] [] (I, J, RF nw, SH) Q := by
  refine z_aload_1 (pc := 405) dL_law_405 ?_
  refine z_V0 (pc := 406) dL_law_406 mlL_45 kX8_undo vX8_undo (by decide) (by decide) (by first | rfl | assumption) (Nat.le_of_ble_eq_true rfl) (s_undo h) ⟨Nat.le_refl _, Nat.le_refl _⟩ (fun r h1 hq => ?_)
  obtain ⟨w, I2, J2, nw2, rfl, rfl, hm⟩ := hq
  refine z_aload_2 (pc := 409) dL_law_409 ?_
  refine z_V0 (pc := 410) dL_law_410 mlL_48 kX9_undo vX9_undo (by decide) (by decide) (by first | rfl | assumption) (Nat.le_of_ble_eq_true rfl) (hm) ⟨Nat.le_refl _, Nat.le_refl _⟩ (fun r h1 hq => ?_)
  obtain ⟨rfl, I3, J3, nw3, rfl, hR3⟩ := hq
  refine z_icmp_eq (pc := 413) (tgt := 1327) dL_law_413 (by decide) (fun c413 => ?_) (fun c413 => ?_)
  · skip
    exact hQ I3 J3 nw3 hR3
  · exact absurd rfl c413
set_option maxRecDepth 100000 in
set_option maxHeartbeats 4000000 in
theorem lc_brew {l : zL} {I : Nat → Nat → Int32} {J : Nat → Nat → Int64} {nw : Bool} (h : Rel I I) (i : Nat) (hi : i + 6 ≤ l.2.1) (hL : l.2.1 ≤ 384) {Q : Option Value → zH → Prop} (hQ : ∀ (I : Nat → Nat → Int32) (J : Nat → Nat → Int64) (nw : Bool), Rel I I → zW l mL_law SH.length (zsl SH) 1327 [.ref 10002, .ref 0, .ref 85, .int (nI i)] [] (I, J, RF nw, SH) Q) : zW l mL_law SH.length (zsl SH) 418 [.ref 10002, .ref 0, .ref 85, .int (nI i)] [] (I, J, RF nw, SH) Q := by
  refine z_aload_1 (pc := 418) dL_law_418 ?_
  refine z_aload_0 (pc := 419) dL_law_419 ?_
  refine z_iload_3 (pc := 420) dL_law_420 ?_
  refine z_iconst (pc := 421) (1) dL_law_421 rfl ?_
  refine z_iadd (pc := 422) dL_law_422 ?_
  refine z_sld (pc := 423) dL_law_423 (pk_in (i + 1) l.2.1 (by omega) (nI_add i 1) (by omega)) ?_
  refine z_aload_0 (pc := 424) dL_law_424 ?_
  refine z_iload_3 (pc := 425) dL_law_425 ?_
  refine z_iconst (pc := 426) (2) dL_law_426 rfl ?_
  refine z_iadd (pc := 427) dL_law_427 ?_
  refine z_sld (pc := 428) dL_law_428 (pk_in (i + 2) l.2.1 (by omega) (nI_add i 2) (by omega)) ?_
  refine z_V2 (pc := 429) dL_law_429 mlL_49 kX8_brew vX8_brew (by decide) (by decide) (by first | rfl | assumption) (Nat.le_of_ble_eq_true rfl) (s_brew h) ⟨Nat.le_refl _, Nat.le_refl _⟩ (fun r h1 hq => ?_)
  obtain ⟨w, I2, J2, nw2, rfl, rfl, hm⟩ := hq
  refine z_aload_2 (pc := 432) dL_law_432 ?_
  refine z_aload_0 (pc := 433) dL_law_433 ?_
  refine z_iload_3 (pc := 434) dL_law_434 ?_
  refine z_iconst (pc := 435) (1) dL_law_435 rfl ?_
  refine z_iadd (pc := 436) dL_law_436 ?_
  refine z_sld (pc := 437) dL_law_437 (pk_in (i + 1) l.2.1 (by omega) (nI_add i 1) (by omega)) ?_
  refine z_aload_0 (pc := 438) dL_law_438 ?_
  refine z_iload_3 (pc := 439) dL_law_439 ?_
  refine z_iconst (pc := 440) (2) dL_law_440 rfl ?_
  refine z_iadd (pc := 441) dL_law_441 ?_
  refine z_sld (pc := 442) dL_law_442 (pk_in (i + 2) l.2.1 (by omega) (nI_add i 2) (by omega)) ?_
  refine z_V2 (pc := 443) dL_law_443 mlL_53 kX9_brew vX9_brew (by decide) (by decide) (by first | rfl | assumption) (Nat.le_of_ble_eq_true rfl) (hm) ⟨Nat.le_refl _, Nat.le_refl _⟩ (fun r h1 hq => ?_)
  obtain ⟨rfl, I3, J3, nw3, rfl, hR3⟩ := hq
  refine z_icmp_eq (pc := 446) (tgt := 1327) dL_law_446 (by decide) (fun c446 => ?_) (fun c446 => ?_)
  · skip
    exact hQ I3 J3 nw3 hR3
  · exact absurd rfl c446
set_option maxRecDepth 100000 in
set_option maxHeartbeats 4000000 in
theorem lc_days {l : zL} {I : Nat → Nat → Int32} {J : Nat → Nat → Int64} {nw : Bool} (h : Rel I I) (i : Nat) (hi : i + 6 ≤ l.2.1) (hL : l.2.1 ≤ 384) {Q : Option Value → zH → Prop} (hQ : ∀ (I : Nat → Nat → Int32) (J : Nat → Nat → Int64) (nw : Bool), Rel I I → zW l mL_law SH.length (zsl SH) 1327 [.ref 10002, .ref 0, .ref 85, .int (nI i)] [] (I, J, RF nw, SH) Q) : zW l mL_law SH.length (zsl SH) 451 [.ref 10002, .ref 0, .ref 85, .int (nI i)] [] (I, J, RF nw, SH) Q := by
  refine z_aload_1 (pc := 451) dL_law_451 ?_
  refine z_aload_0 (pc := 452) dL_law_452 ?_
  refine z_iload_3 (pc := 453) dL_law_453 ?_
  refine z_iconst (pc := 454) (1) dL_law_454 rfl ?_
  refine z_iadd (pc := 455) dL_law_455 ?_
  refine z_sld (pc := 456) dL_law_456 (pk_in (i + 1) l.2.1 (by omega) (nI_add i 1) (by omega)) ?_
  refine z_V1 (pc := 457) dL_law_457 mlL_54 kX8_days vX8_days (by decide) (by decide) (by first | rfl | assumption) (Nat.le_of_ble_eq_true rfl) (s_days h) ⟨Nat.le_refl _, Nat.le_refl _⟩ (fun r h1 hq => ?_)
  obtain ⟨w, I2, J2, nw2, rfl, rfl, hm⟩ := hq
  refine z_aload_2 (pc := 460) dL_law_460 ?_
  refine z_aload_0 (pc := 461) dL_law_461 ?_
  refine z_iload_3 (pc := 462) dL_law_462 ?_
  refine z_iconst (pc := 463) (1) dL_law_463 rfl ?_
  refine z_iadd (pc := 464) dL_law_464 ?_
  refine z_sld (pc := 465) dL_law_465 (pk_in (i + 1) l.2.1 (by omega) (nI_add i 1) (by omega)) ?_
  refine z_V1 (pc := 466) dL_law_466 mlL_57 kX9_days vX9_days (by decide) (by decide) (by first | rfl | assumption) (Nat.le_of_ble_eq_true rfl) (hm) ⟨Nat.le_refl _, Nat.le_refl _⟩ (fun r h1 hq => ?_)
  obtain ⟨rfl, I3, J3, nw3, rfl, hR3⟩ := hq
  refine z_icmp_eq (pc := 469) (tgt := 1327) dL_law_469 (by decide) (fun c469 => ?_) (fun c469 => ?_)
  · skip
    exact hQ I3 J3 nw3 hR3
  · exact absurd rfl c469
set_option maxRecDepth 100000 in
set_option maxHeartbeats 4000000 in
theorem lc_tap {l : zL} {I : Nat → Nat → Int32} {J : Nat → Nat → Int64} {nw : Bool} (h : Rel I I) (i : Nat) (hi : i + 6 ≤ l.2.1) (hL : l.2.1 ≤ 384) {Q : Option Value → zH → Prop} (hQ : ∀ (I : Nat → Nat → Int32) (J : Nat → Nat → Int64) (nw : Bool), Rel I I → zW l mL_law SH.length (zsl SH) 1327 [.ref 10002, .ref 0, .ref 85, .int (nI i)] [] (I, J, RF nw, SH) Q) : zW l mL_law SH.length (zsl SH) 474 [.ref 10002, .ref 0, .ref 85, .int (nI i)] [] (I, J, RF nw, SH) Q := by
  refine z_aload_1 (pc := 474) dL_law_474 ?_
  refine z_aload_0 (pc := 475) dL_law_475 ?_
  refine z_iload_3 (pc := 476) dL_law_476 ?_
  refine z_iconst (pc := 477) (1) dL_law_477 rfl ?_
  refine z_iadd (pc := 478) dL_law_478 ?_
  refine z_sld (pc := 479) dL_law_479 (pk_in (i + 1) l.2.1 (by omega) (nI_add i 1) (by omega)) ?_
  refine z_aload_0 (pc := 480) dL_law_480 ?_
  refine z_iload_3 (pc := 481) dL_law_481 ?_
  refine z_iconst (pc := 482) (2) dL_law_482 rfl ?_
  refine z_iadd (pc := 483) dL_law_483 ?_
  refine z_sld (pc := 484) dL_law_484 (pk_in (i + 2) l.2.1 (by omega) (nI_add i 2) (by omega)) ?_
  refine z_V2 (pc := 485) dL_law_485 mlL_58 kX8_tap vX8_tap (by decide) (by decide) (by first | rfl | assumption) (Nat.le_of_ble_eq_true rfl) (s_tap h) ⟨Nat.le_refl _, Nat.le_refl _⟩ (fun r h1 hq => ?_)
  obtain ⟨w, I2, J2, nw2, rfl, rfl, hm⟩ := hq
  refine z_aload_2 (pc := 488) dL_law_488 ?_
  refine z_aload_0 (pc := 489) dL_law_489 ?_
  refine z_iload_3 (pc := 490) dL_law_490 ?_
  refine z_iconst (pc := 491) (1) dL_law_491 rfl ?_
  refine z_iadd (pc := 492) dL_law_492 ?_
  refine z_sld (pc := 493) dL_law_493 (pk_in (i + 1) l.2.1 (by omega) (nI_add i 1) (by omega)) ?_
  refine z_aload_0 (pc := 494) dL_law_494 ?_
  refine z_iload_3 (pc := 495) dL_law_495 ?_
  refine z_iconst (pc := 496) (2) dL_law_496 rfl ?_
  refine z_iadd (pc := 497) dL_law_497 ?_
  refine z_sld (pc := 498) dL_law_498 (pk_in (i + 2) l.2.1 (by omega) (nI_add i 2) (by omega)) ?_
  refine z_V2 (pc := 499) dL_law_499 mlL_61 kX9_tap vX9_tap (by decide) (by decide) (by first | rfl | assumption) (Nat.le_of_ble_eq_true rfl) (hm) ⟨Nat.le_refl _, Nat.le_refl _⟩ (fun r h1 hq => ?_)
  obtain ⟨rfl, I3, J3, nw3, rfl, hR3⟩ := hq
  refine z_icmp_eq (pc := 502) (tgt := 1327) dL_law_502 (by decide) (fun c502 => ?_) (fun c502 => ?_)
  · skip
    exact hQ I3 J3 nw3 hR3
  · exact absurd rfl c502
set_option maxRecDepth 100000 in
set_option maxHeartbeats 4000000 in
theorem lc_water {l : zL} {I : Nat → Nat → Int32} {J : Nat → Nat → Int64} {nw : Bool} (h : Rel I I) (i : Nat) (hi : i + 6 ≤ l.2.1) (hL : l.2.1 ≤ 384) {Q : Option Value → zH → Prop} (hQ : ∀ (I : Nat → Nat → Int32) (J : Nat → Nat → Int64) (nw : Bool), Rel I I → zW l mL_law SH.length (zsl SH) 1327 [.ref 10002, .ref 0, .ref 85, .int (nI i)] [] (I, J, RF nw, SH) Q) : zW l mL_law SH.length (zsl SH) 507 [.ref 10002, .ref 0, .ref 85, .int (nI i)] [] (I, J, RF nw, SH) Q := by
  refine z_aload_1 (pc := 507) dL_law_507 ?_
  refine z_aload_0 (pc := 508) dL_law_508 ?_
  refine z_iload_3 (pc := 509) dL_law_509 ?_
  refine z_iconst (pc := 510) (1) dL_law_510 rfl ?_
  refine z_iadd (pc := 511) dL_law_511 ?_
  refine z_sld (pc := 512) dL_law_512 (pk_in (i + 1) l.2.1 (by omega) (nI_add i 1) (by omega)) ?_
  refine z_V1 (pc := 513) dL_law_513 mlL_62 kX8_water vX8_water (by decide) (by decide) (by first | rfl | assumption) (Nat.le_of_ble_eq_true rfl) (s_water h) ⟨Nat.le_refl _, Nat.le_refl _⟩ (fun r h1 hq => ?_)
  obtain ⟨w, I2, J2, nw2, rfl, rfl, hm⟩ := hq
  refine z_aload_2 (pc := 516) dL_law_516 ?_
  refine z_aload_0 (pc := 517) dL_law_517 ?_
  refine z_iload_3 (pc := 518) dL_law_518 ?_
  refine z_iconst (pc := 519) (1) dL_law_519 rfl ?_
  refine z_iadd (pc := 520) dL_law_520 ?_
  refine z_sld (pc := 521) dL_law_521 (pk_in (i + 1) l.2.1 (by omega) (nI_add i 1) (by omega)) ?_
  refine z_V1 (pc := 522) dL_law_522 mlL_65 kX9_water vX9_water (by decide) (by decide) (by first | rfl | assumption) (Nat.le_of_ble_eq_true rfl) (hm) ⟨Nat.le_refl _, Nat.le_refl _⟩ (fun r h1 hq => ?_)
  obtain ⟨rfl, I3, J3, nw3, rfl, hR3⟩ := hq
  refine z_icmp_eq (pc := 525) (tgt := 1327) dL_law_525 (by decide) (fun c525 => ?_) (fun c525 => ?_)
  · skip
    exact hQ I3 J3 nw3 hR3
  · exact absurd rfl c525
set_option maxRecDepth 100000 in
set_option maxHeartbeats 4000000 in
theorem lc_blend {l : zL} {I : Nat → Nat → Int32} {J : Nat → Nat → Int64} {nw : Bool} (h : Rel I I) (i : Nat) (hi : i + 6 ≤ l.2.1) (hL : l.2.1 ≤ 384) {Q : Option Value → zH → Prop} (hQ : ∀ (I : Nat → Nat → Int32) (J : Nat → Nat → Int64) (nw : Bool), Rel I I → zW l mL_law SH.length (zsl SH) 1327 [.ref 10002, .ref 0, .ref 85, .int (nI i)] [] (I, J, RF nw, SH) Q) : zW l mL_law SH.length (zsl SH) 530 [.ref 10002, .ref 0, .ref 85, .int (nI i)] [] (I, J, RF nw, SH) Q := by
  refine z_aload_1 (pc := 530) dL_law_530 ?_
  refine z_aload_0 (pc := 531) dL_law_531 ?_
  refine z_iload_3 (pc := 532) dL_law_532 ?_
  refine z_iconst (pc := 533) (1) dL_law_533 rfl ?_
  refine z_iadd (pc := 534) dL_law_534 ?_
  refine z_sld (pc := 535) dL_law_535 (pk_in (i + 1) l.2.1 (by omega) (nI_add i 1) (by omega)) ?_
  refine z_aload_0 (pc := 536) dL_law_536 ?_
  refine z_iload_3 (pc := 537) dL_law_537 ?_
  refine z_iconst (pc := 538) (2) dL_law_538 rfl ?_
  refine z_iadd (pc := 539) dL_law_539 ?_
  refine z_sld (pc := 540) dL_law_540 (pk_in (i + 2) l.2.1 (by omega) (nI_add i 2) (by omega)) ?_
  refine z_V2 (pc := 541) dL_law_541 mlL_66 kX8_blend vX8_blend (by decide) (by decide) (by first | rfl | assumption) (Nat.le_of_ble_eq_true rfl) (s_blend h) ⟨Nat.le_refl _, Nat.le_refl _⟩ (fun r h1 hq => ?_)
  obtain ⟨w, I2, J2, nw2, rfl, rfl, hm⟩ := hq
  refine z_aload_2 (pc := 544) dL_law_544 ?_
  refine z_aload_0 (pc := 545) dL_law_545 ?_
  refine z_iload_3 (pc := 546) dL_law_546 ?_
  refine z_iconst (pc := 547) (1) dL_law_547 rfl ?_
  refine z_iadd (pc := 548) dL_law_548 ?_
  refine z_sld (pc := 549) dL_law_549 (pk_in (i + 1) l.2.1 (by omega) (nI_add i 1) (by omega)) ?_
  refine z_aload_0 (pc := 550) dL_law_550 ?_
  refine z_iload_3 (pc := 551) dL_law_551 ?_
  refine z_iconst (pc := 552) (2) dL_law_552 rfl ?_
  refine z_iadd (pc := 553) dL_law_553 ?_
  refine z_sld (pc := 554) dL_law_554 (pk_in (i + 2) l.2.1 (by omega) (nI_add i 2) (by omega)) ?_
  refine z_V2 (pc := 555) dL_law_555 mlL_69 kX9_blend vX9_blend (by decide) (by decide) (by first | rfl | assumption) (Nat.le_of_ble_eq_true rfl) (hm) ⟨Nat.le_refl _, Nat.le_refl _⟩ (fun r h1 hq => ?_)
  obtain ⟨rfl, I3, J3, nw3, rfl, hR3⟩ := hq
  refine z_icmp_eq (pc := 558) (tgt := 1327) dL_law_558 (by decide) (fun c558 => ?_) (fun c558 => ?_)
  · skip
    exact hQ I3 J3 nw3 hR3
  · exact absurd rfl c558
set_option maxRecDepth 100000 in
set_option maxHeartbeats 4000000 in
theorem lc_cask {l : zL} {I : Nat → Nat → Int32} {J : Nat → Nat → Int64} {nw : Bool} (h : Rel I I) (i : Nat) (hi : i + 6 ≤ l.2.1) (hL : l.2.1 ≤ 384) {Q : Option Value → zH → Prop} (hQ : ∀ (I : Nat → Nat → Int32) (J : Nat → Nat → Int64) (nw : Bool), Rel I I → zW l mL_law SH.length (zsl SH) 1327 [.ref 10002, .ref 0, .ref 85, .int (nI i)] [] (I, J, RF nw, SH) Q) : zW l mL_law SH.length (zsl SH) 563 [.ref 10002, .ref 0, .ref 85, .int (nI i)] [] (I, J, RF nw, SH) Q := by
  refine z_aload_1 (pc := 563) dL_law_563 ?_
  refine z_aload_0 (pc := 564) dL_law_564 ?_
  refine z_iload_3 (pc := 565) dL_law_565 ?_
  refine z_iconst (pc := 566) (1) dL_law_566 rfl ?_
  refine z_iadd (pc := 567) dL_law_567 ?_
  refine z_sld (pc := 568) dL_law_568 (pk_in (i + 1) l.2.1 (by omega) (nI_add i 1) (by omega)) ?_
  refine z_aload_0 (pc := 569) dL_law_569 ?_
  refine z_iload_3 (pc := 570) dL_law_570 ?_
  refine z_iconst (pc := 571) (2) dL_law_571 rfl ?_
  refine z_iadd (pc := 572) dL_law_572 ?_
  refine z_sld (pc := 573) dL_law_573 (pk_in (i + 2) l.2.1 (by omega) (nI_add i 2) (by omega)) ?_
  refine z_V2 (pc := 574) dL_law_574 mlL_70 kX8_cask vX8_cask (by decide) (by decide) (by first | rfl | assumption) (Nat.le_of_ble_eq_true rfl) (s_cask h) ⟨Nat.le_refl _, Nat.le_refl _⟩ (fun r h1 hq => ?_)
  obtain ⟨w, I2, J2, nw2, rfl, rfl, hm⟩ := hq
  refine z_aload_2 (pc := 577) dL_law_577 ?_
  refine z_aload_0 (pc := 578) dL_law_578 ?_
  refine z_iload_3 (pc := 579) dL_law_579 ?_
  refine z_iconst (pc := 580) (1) dL_law_580 rfl ?_
  refine z_iadd (pc := 581) dL_law_581 ?_
  refine z_sld (pc := 582) dL_law_582 (pk_in (i + 1) l.2.1 (by omega) (nI_add i 1) (by omega)) ?_
  refine z_aload_0 (pc := 583) dL_law_583 ?_
  refine z_iload_3 (pc := 584) dL_law_584 ?_
  refine z_iconst (pc := 585) (2) dL_law_585 rfl ?_
  refine z_iadd (pc := 586) dL_law_586 ?_
  refine z_sld (pc := 587) dL_law_587 (pk_in (i + 2) l.2.1 (by omega) (nI_add i 2) (by omega)) ?_
  refine z_V2 (pc := 588) dL_law_588 mlL_73 kX9_cask vX9_cask (by decide) (by decide) (by first | rfl | assumption) (Nat.le_of_ble_eq_true rfl) (hm) ⟨Nat.le_refl _, Nat.le_refl _⟩ (fun r h1 hq => ?_)
  obtain ⟨rfl, I3, J3, nw3, rfl, hR3⟩ := hq
  refine z_icmp_eq (pc := 591) (tgt := 1327) dL_law_591 (by decide) (fun c591 => ?_) (fun c591 => ?_)
  · skip
    exact hQ I3 J3 nw3 hR3
  · exact absurd rfl c591
set_option maxRecDepth 100000 in
set_option maxHeartbeats 4000000 in
theorem lc_drinker {l : zL} {I : Nat → Nat → Int32} {J : Nat → Nat → Int64} {nw : Bool} (h : Rel I I) (i : Nat) (hi : i + 6 ≤ l.2.1) (hL : l.2.1 ≤ 384) {Q : Option Value → zH → Prop} (hQ : ∀ (I : Nat → Nat → Int32) (J : Nat → Nat → Int64) (nw : Bool), Rel I I → zW l mL_law SH.length (zsl SH) 1327 [.ref 10002, .ref 0, .ref 85, .int (nI i)] [] (I, J, RF nw, SH) Q) : zW l mL_law SH.length (zsl SH) 596 [.ref 10002, .ref 0, .ref 85, .int (nI i)] [] (I, J, RF nw, SH) Q := by
  refine z_aload_1 (pc := 596) dL_law_596 ?_
  refine z_aload_0 (pc := 597) dL_law_597 ?_
  refine z_iload_3 (pc := 598) dL_law_598 ?_
  refine z_iconst (pc := 599) (1) dL_law_599 rfl ?_
  refine z_iadd (pc := 600) dL_law_600 ?_
  refine z_sld (pc := 601) dL_law_601 (pk_in (i + 1) l.2.1 (by omega) (nI_add i 1) (by omega)) ?_
  refine z_aload_0 (pc := 602) dL_law_602 ?_
  refine z_iload_3 (pc := 603) dL_law_603 ?_
  refine z_iconst (pc := 604) (2) dL_law_604 rfl ?_
  refine z_iadd (pc := 605) dL_law_605 ?_
  refine z_sld (pc := 606) dL_law_606 (pk_in (i + 2) l.2.1 (by omega) (nI_add i 2) (by omega)) ?_
  refine z_V2 (pc := 607) dL_law_607 mlL_74 kX8_drinker vX8_drinker (by decide) (by decide) (by first | rfl | assumption) (Nat.le_of_ble_eq_true rfl) (s_drinker h) ⟨Nat.le_refl _, Nat.le_refl _⟩ (fun r h1 hq => ?_)
  obtain ⟨w, I2, J2, nw2, rfl, rfl, hm⟩ := hq
  refine z_aload_2 (pc := 610) dL_law_610 ?_
  refine z_aload_0 (pc := 611) dL_law_611 ?_
  refine z_iload_3 (pc := 612) dL_law_612 ?_
  refine z_iconst (pc := 613) (1) dL_law_613 rfl ?_
  refine z_iadd (pc := 614) dL_law_614 ?_
  refine z_sld (pc := 615) dL_law_615 (pk_in (i + 1) l.2.1 (by omega) (nI_add i 1) (by omega)) ?_
  refine z_aload_0 (pc := 616) dL_law_616 ?_
  refine z_iload_3 (pc := 617) dL_law_617 ?_
  refine z_iconst (pc := 618) (2) dL_law_618 rfl ?_
  refine z_iadd (pc := 619) dL_law_619 ?_
  refine z_sld (pc := 620) dL_law_620 (pk_in (i + 2) l.2.1 (by omega) (nI_add i 2) (by omega)) ?_
  refine z_V2 (pc := 621) dL_law_621 mlL_77 kX9_drinker vX9_drinker (by decide) (by decide) (by first | rfl | assumption) (Nat.le_of_ble_eq_true rfl) (hm) ⟨Nat.le_refl _, Nat.le_refl _⟩ (fun r h1 hq => ?_)
  obtain ⟨rfl, I3, J3, nw3, rfl, hR3⟩ := hq
  refine z_icmp_eq (pc := 624) (tgt := 1327) dL_law_624 (by decide) (fun c624 => ?_) (fun c624 => ?_)
  · skip
    exact hQ I3 J3 nw3 hR3
  · exact absurd rfl c624
set_option maxRecDepth 100000 in
set_option maxHeartbeats 4000000 in
theorem lc_rumour {l : zL} {I : Nat → Nat → Int32} {J : Nat → Nat → Int64} {nw : Bool} (h : Rel I I) (i : Nat) (hi : i + 6 ≤ l.2.1) (hL : l.2.1 ≤ 384) {Q : Option Value → zH → Prop} (hQ : ∀ (I : Nat → Nat → Int32) (J : Nat → Nat → Int64) (nw : Bool), Rel I I → zW l mL_law SH.length (zsl SH) 1327 [.ref 10002, .ref 0, .ref 85, .int (nI i)] [] (I, J, RF nw, SH) Q) : zW l mL_law SH.length (zsl SH) 629 [.ref 10002, .ref 0, .ref 85, .int (nI i)] [] (I, J, RF nw, SH) Q := by
  refine z_aload_1 (pc := 629) dL_law_629 ?_
  refine z_aload_0 (pc := 630) dL_law_630 ?_
  refine z_iload_3 (pc := 631) dL_law_631 ?_
  refine z_iconst (pc := 632) (1) dL_law_632 rfl ?_
  refine z_iadd (pc := 633) dL_law_633 ?_
  refine z_sld (pc := 634) dL_law_634 (pk_in (i + 1) l.2.1 (by omega) (nI_add i 1) (by omega)) ?_
  refine z_V1 (pc := 635) dL_law_635 mlL_78 kX8_rumour vX8_rumour (by decide) (by decide) (by first | rfl | assumption) (Nat.le_of_ble_eq_true rfl) (s_rumour h) ⟨Nat.le_refl _, Nat.le_refl _⟩ (fun r h1 hq => ?_)
  obtain ⟨w, I2, J2, nw2, rfl, rfl, hm⟩ := hq
  refine z_aload_2 (pc := 638) dL_law_638 ?_
  refine z_aload_0 (pc := 639) dL_law_639 ?_
  refine z_iload_3 (pc := 640) dL_law_640 ?_
  refine z_iconst (pc := 641) (1) dL_law_641 rfl ?_
  refine z_iadd (pc := 642) dL_law_642 ?_
  refine z_sld (pc := 643) dL_law_643 (pk_in (i + 1) l.2.1 (by omega) (nI_add i 1) (by omega)) ?_
  refine z_V1 (pc := 644) dL_law_644 mlL_81 kX9_rumour vX9_rumour (by decide) (by decide) (by first | rfl | assumption) (Nat.le_of_ble_eq_true rfl) (hm) ⟨Nat.le_refl _, Nat.le_refl _⟩ (fun r h1 hq => ?_)
  obtain ⟨rfl, I3, J3, nw3, rfl, hR3⟩ := hq
  refine z_icmp_eq (pc := 647) (tgt := 1327) dL_law_647 (by decide) (fun c647 => ?_) (fun c647 => ?_)
  · skip
    exact hQ I3 J3 nw3 hR3
  · exact absurd rfl c647
set_option maxRecDepth 100000 in
set_option maxHeartbeats 4000000 in
theorem lc_telling {l : zL} {I : Nat → Nat → Int32} {J : Nat → Nat → Int64} {nw : Bool} (h : Rel I I) (i : Nat) (hi : i + 6 ≤ l.2.1) (hL : l.2.1 ≤ 384) {Q : Option Value → zH → Prop} (hQ : ∀ (I : Nat → Nat → Int32) (J : Nat → Nat → Int64) (nw : Bool), Rel I I → zW l mL_law SH.length (zsl SH) 1327 [.ref 10002, .ref 0, .ref 85, .int (nI i)] [] (I, J, RF nw, SH) Q) : zW l mL_law SH.length (zsl SH) 652 [.ref 10002, .ref 0, .ref 85, .int (nI i)] [] (I, J, RF nw, SH) Q := by
  refine z_aload_1 (pc := 652) dL_law_652 ?_
  refine z_aload_0 (pc := 653) dL_law_653 ?_
  refine z_iload_3 (pc := 654) dL_law_654 ?_
  refine z_iconst (pc := 655) (1) dL_law_655 rfl ?_
  refine z_iadd (pc := 656) dL_law_656 ?_
  refine z_sld (pc := 657) dL_law_657 (pk_in (i + 1) l.2.1 (by omega) (nI_add i 1) (by omega)) ?_
  refine z_aload_0 (pc := 658) dL_law_658 ?_
  refine z_iload_3 (pc := 659) dL_law_659 ?_
  refine z_iconst (pc := 660) (2) dL_law_660 rfl ?_
  refine z_iadd (pc := 661) dL_law_661 ?_
  refine z_sld (pc := 662) dL_law_662 (pk_in (i + 2) l.2.1 (by omega) (nI_add i 2) (by omega)) ?_
  refine z_aload_0 (pc := 663) dL_law_663 ?_
  refine z_iload_3 (pc := 664) dL_law_664 ?_
  refine z_iconst (pc := 665) (3) dL_law_665 rfl ?_
  refine z_iadd (pc := 666) dL_law_666 ?_
  refine z_sld (pc := 667) dL_law_667 (pk_in (i + 3) l.2.1 (by omega) (nI_add i 3) (by omega)) ?_
  refine z_V3 (pc := 668) dL_law_668 mlL_82 kX8_telling vX8_telling (by decide) (by decide) (by first | rfl | assumption) (Nat.le_of_ble_eq_true rfl) (s_telling h) ⟨Nat.le_refl _, Nat.le_refl _⟩ (fun r h1 hq => ?_)
  obtain ⟨w, I2, J2, nw2, rfl, rfl, hm⟩ := hq
  refine z_aload_2 (pc := 671) dL_law_671 ?_
  refine z_aload_0 (pc := 672) dL_law_672 ?_
  refine z_iload_3 (pc := 673) dL_law_673 ?_
  refine z_iconst (pc := 674) (1) dL_law_674 rfl ?_
  refine z_iadd (pc := 675) dL_law_675 ?_
  refine z_sld (pc := 676) dL_law_676 (pk_in (i + 1) l.2.1 (by omega) (nI_add i 1) (by omega)) ?_
  refine z_aload_0 (pc := 677) dL_law_677 ?_
  refine z_iload_3 (pc := 678) dL_law_678 ?_
  refine z_iconst (pc := 679) (2) dL_law_679 rfl ?_
  refine z_iadd (pc := 680) dL_law_680 ?_
  refine z_sld (pc := 681) dL_law_681 (pk_in (i + 2) l.2.1 (by omega) (nI_add i 2) (by omega)) ?_
  refine z_aload_0 (pc := 682) dL_law_682 ?_
  refine z_iload_3 (pc := 683) dL_law_683 ?_
  refine z_iconst (pc := 684) (3) dL_law_684 rfl ?_
  refine z_iadd (pc := 685) dL_law_685 ?_
  refine z_sld (pc := 686) dL_law_686 (pk_in (i + 3) l.2.1 (by omega) (nI_add i 3) (by omega)) ?_
  refine z_V3 (pc := 687) dL_law_687 mlL_85 kX9_telling vX9_telling (by decide) (by decide) (by first | rfl | assumption) (Nat.le_of_ble_eq_true rfl) (hm) ⟨Nat.le_refl _, Nat.le_refl _⟩ (fun r h1 hq => ?_)
  obtain ⟨rfl, I3, J3, nw3, rfl, hR3⟩ := hq
  refine z_icmp_eq (pc := 690) (tgt := 1327) dL_law_690 (by decide) (fun c690 => ?_) (fun c690 => ?_)
  · skip
    exact hQ I3 J3 nw3 hR3
  · exact absurd rfl c690
set_option maxRecDepth 100000 in
set_option maxHeartbeats 4000000 in
theorem lc_fewest {l : zL} {I : Nat → Nat → Int32} {J : Nat → Nat → Int64} {nw : Bool} (h : Rel I I) (i : Nat) (hi : i + 6 ≤ l.2.1) (hL : l.2.1 ≤ 384) {Q : Option Value → zH → Prop} (hQ : ∀ (I : Nat → Nat → Int32) (J : Nat → Nat → Int64) (nw : Bool), Rel I I → zW l mL_law SH.length (zsl SH) 1327 [.ref 10002, .ref 0, .ref 85, .int (nI i)] [] (I, J, RF nw, SH) Q) : zW l mL_law SH.length (zsl SH) 695 [.ref 10002, .ref 0, .ref 85, .int (nI i)] [] (I, J, RF nw, SH) Q := by
  refine z_aload_1 (pc := 695) dL_law_695 ?_
  refine z_aload_0 (pc := 696) dL_law_696 ?_
  refine z_iload_3 (pc := 697) dL_law_697 ?_
  refine z_iconst (pc := 698) (1) dL_law_698 rfl ?_
  refine z_iadd (pc := 699) dL_law_699 ?_
  refine z_sld (pc := 700) dL_law_700 (pk_in (i + 1) l.2.1 (by omega) (nI_add i 1) (by omega)) ?_
  refine z_aload_0 (pc := 701) dL_law_701 ?_
  refine z_iload_3 (pc := 702) dL_law_702 ?_
  refine z_iconst (pc := 703) (2) dL_law_703 rfl ?_
  refine z_iadd (pc := 704) dL_law_704 ?_
  refine z_sld (pc := 705) dL_law_705 (pk_in (i + 2) l.2.1 (by omega) (nI_add i 2) (by omega)) ?_
  refine z_aload_0 (pc := 706) dL_law_706 ?_
  refine z_iload_3 (pc := 707) dL_law_707 ?_
  refine z_iconst (pc := 708) (3) dL_law_708 rfl ?_
  refine z_iadd (pc := 709) dL_law_709 ?_
  refine z_sld (pc := 710) dL_law_710 (pk_in (i + 3) l.2.1 (by omega) (nI_add i 3) (by omega)) ?_
  refine z_aload_0 (pc := 711) dL_law_711 ?_
  refine z_iload_3 (pc := 712) dL_law_712 ?_
  refine z_iconst (pc := 713) (4) dL_law_713 rfl ?_
  refine z_iadd (pc := 714) dL_law_714 ?_
  refine z_sld (pc := 715) dL_law_715 (pk_in (i + 4) l.2.1 (by omega) (nI_add i 4) (by omega)) ?_
  refine z_V4 (pc := 716) dL_law_716 mlL_86 kX8_fewest vX8_fewest (by decide) (by decide) (by first | rfl | assumption) (Nat.le_of_ble_eq_true rfl) (s_fewest h) ⟨Nat.le_refl _, Nat.le_refl _⟩ (fun r h1 hq => ?_)
  obtain ⟨w, I2, J2, nw2, rfl, rfl, hm⟩ := hq
  refine z_aload_2 (pc := 719) dL_law_719 ?_
  refine z_aload_0 (pc := 720) dL_law_720 ?_
  refine z_iload_3 (pc := 721) dL_law_721 ?_
  refine z_iconst (pc := 722) (1) dL_law_722 rfl ?_
  refine z_iadd (pc := 723) dL_law_723 ?_
  refine z_sld (pc := 724) dL_law_724 (pk_in (i + 1) l.2.1 (by omega) (nI_add i 1) (by omega)) ?_
  refine z_aload_0 (pc := 725) dL_law_725 ?_
  refine z_iload_3 (pc := 726) dL_law_726 ?_
  refine z_iconst (pc := 727) (2) dL_law_727 rfl ?_
  refine z_iadd (pc := 728) dL_law_728 ?_
  refine z_sld (pc := 729) dL_law_729 (pk_in (i + 2) l.2.1 (by omega) (nI_add i 2) (by omega)) ?_
  refine z_aload_0 (pc := 730) dL_law_730 ?_
  refine z_iload_3 (pc := 731) dL_law_731 ?_
  refine z_iconst (pc := 732) (3) dL_law_732 rfl ?_
  refine z_iadd (pc := 733) dL_law_733 ?_
  refine z_sld (pc := 734) dL_law_734 (pk_in (i + 3) l.2.1 (by omega) (nI_add i 3) (by omega)) ?_
  refine z_aload_0 (pc := 735) dL_law_735 ?_
  refine z_iload_3 (pc := 736) dL_law_736 ?_
  refine z_iconst (pc := 737) (4) dL_law_737 rfl ?_
  refine z_iadd (pc := 738) dL_law_738 ?_
  refine z_sld (pc := 739) dL_law_739 (pk_in (i + 4) l.2.1 (by omega) (nI_add i 4) (by omega)) ?_
  refine z_V4 (pc := 740) dL_law_740 mlL_90 kX9_fewest vX9_fewest (by decide) (by decide) (by first | rfl | assumption) (Nat.le_of_ble_eq_true rfl) (hm) ⟨Nat.le_refl _, Nat.le_refl _⟩ (fun r h1 hq => ?_)
  obtain ⟨rfl, I3, J3, nw3, rfl, hR3⟩ := hq
  refine z_icmp_eq (pc := 743) (tgt := 1327) dL_law_743 (by decide) (fun c743 => ?_) (fun c743 => ?_)
  · skip
    exact hQ I3 J3 nw3 hR3
  · exact absurd rfl c743
set_option maxRecDepth 100000 in
set_option maxHeartbeats 4000000 in
theorem lc_silence {l : zL} {I : Nat → Nat → Int32} {J : Nat → Nat → Int64} {nw : Bool} (h : Rel I I) (i : Nat) (hi : i + 6 ≤ l.2.1) (hL : l.2.1 ≤ 384) {Q : Option Value → zH → Prop} (hQ : ∀ (I : Nat → Nat → Int32) (J : Nat → Nat → Int64) (nw : Bool), Rel I I → zW l mL_law SH.length (zsl SH) 1327 [.ref 10002, .ref 0, .ref 85, .int (nI i)] [] (I, J, RF nw, SH) Q) : zW l mL_law SH.length (zsl SH) 748 [.ref 10002, .ref 0, .ref 85, .int (nI i)] [] (I, J, RF nw, SH) Q := by
  refine z_aload_1 (pc := 748) dL_law_748 ?_
  refine z_aload_0 (pc := 749) dL_law_749 ?_
  refine z_iload_3 (pc := 750) dL_law_750 ?_
  refine z_iconst (pc := 751) (1) dL_law_751 rfl ?_
  refine z_iadd (pc := 752) dL_law_752 ?_
  refine z_sld (pc := 753) dL_law_753 (pk_in (i + 1) l.2.1 (by omega) (nI_add i 1) (by omega)) ?_
  refine z_aload_0 (pc := 754) dL_law_754 ?_
  refine z_iload_3 (pc := 755) dL_law_755 ?_
  refine z_iconst (pc := 756) (2) dL_law_756 rfl ?_
  refine z_iadd (pc := 757) dL_law_757 ?_
  refine z_sld (pc := 758) dL_law_758 (pk_in (i + 2) l.2.1 (by omega) (nI_add i 2) (by omega)) ?_
  refine z_aload_0 (pc := 759) dL_law_759 ?_
  refine z_iload_3 (pc := 760) dL_law_760 ?_
  refine z_iconst (pc := 761) (3) dL_law_761 rfl ?_
  refine z_iadd (pc := 762) dL_law_762 ?_
  refine z_sld (pc := 763) dL_law_763 (pk_in (i + 3) l.2.1 (by omega) (nI_add i 3) (by omega)) ?_
  refine z_aload_0 (pc := 764) dL_law_764 ?_
  refine z_iload_3 (pc := 765) dL_law_765 ?_
  refine z_iconst (pc := 766) (4) dL_law_766 rfl ?_
  refine z_iadd (pc := 767) dL_law_767 ?_
  refine z_sld (pc := 768) dL_law_768 (pk_in (i + 4) l.2.1 (by omega) (nI_add i 4) (by omega)) ?_
  refine z_V4 (pc := 769) dL_law_769 mlL_91 kX8_silence vX8_silence (by decide) (by decide) (by first | rfl | assumption) (Nat.le_of_ble_eq_true rfl) (s_silence h) ⟨Nat.le_refl _, Nat.le_refl _⟩ (fun r h1 hq => ?_)
  obtain ⟨w, I2, J2, nw2, rfl, rfl, hm⟩ := hq
  refine z_aload_2 (pc := 772) dL_law_772 ?_
  refine z_aload_0 (pc := 773) dL_law_773 ?_
  refine z_iload_3 (pc := 774) dL_law_774 ?_
  refine z_iconst (pc := 775) (1) dL_law_775 rfl ?_
  refine z_iadd (pc := 776) dL_law_776 ?_
  refine z_sld (pc := 777) dL_law_777 (pk_in (i + 1) l.2.1 (by omega) (nI_add i 1) (by omega)) ?_
  refine z_aload_0 (pc := 778) dL_law_778 ?_
  refine z_iload_3 (pc := 779) dL_law_779 ?_
  refine z_iconst (pc := 780) (2) dL_law_780 rfl ?_
  refine z_iadd (pc := 781) dL_law_781 ?_
  refine z_sld (pc := 782) dL_law_782 (pk_in (i + 2) l.2.1 (by omega) (nI_add i 2) (by omega)) ?_
  refine z_aload_0 (pc := 783) dL_law_783 ?_
  refine z_iload_3 (pc := 784) dL_law_784 ?_
  refine z_iconst (pc := 785) (3) dL_law_785 rfl ?_
  refine z_iadd (pc := 786) dL_law_786 ?_
  refine z_sld (pc := 787) dL_law_787 (pk_in (i + 3) l.2.1 (by omega) (nI_add i 3) (by omega)) ?_
  refine z_aload_0 (pc := 788) dL_law_788 ?_
  refine z_iload_3 (pc := 789) dL_law_789 ?_
  refine z_iconst (pc := 790) (4) dL_law_790 rfl ?_
  refine z_iadd (pc := 791) dL_law_791 ?_
  refine z_sld (pc := 792) dL_law_792 (pk_in (i + 4) l.2.1 (by omega) (nI_add i 4) (by omega)) ?_
  refine z_V4 (pc := 793) dL_law_793 mlL_94 kX9_silence vX9_silence (by decide) (by decide) (by first | rfl | assumption) (Nat.le_of_ble_eq_true rfl) (hm) ⟨Nat.le_refl _, Nat.le_refl _⟩ (fun r h1 hq => ?_)
  obtain ⟨rfl, I3, J3, nw3, rfl, hR3⟩ := hq
  refine z_icmp_eq (pc := 796) (tgt := 1327) dL_law_796 (by decide) (fun c796 => ?_) (fun c796 => ?_)
  · skip
    exact hQ I3 J3 nw3 hR3
  · exact absurd rfl c796
set_option maxRecDepth 100000 in
set_option maxHeartbeats 4000000 in
theorem lc_malts {l : zL} {I : Nat → Nat → Int32} {J : Nat → Nat → Int64} {nw : Bool} (h : Rel I I) (i : Nat) (hi : i + 6 ≤ l.2.1) (hL : l.2.1 ≤ 384) {Q : Option Value → zH → Prop} (hQ : ∀ (I : Nat → Nat → Int32) (J : Nat → Nat → Int64) (nw : Bool), Rel I I → zW l mL_law SH.length (zsl SH) 1327 [.ref 10002, .ref 0, .ref 85, .int (nI i)] [] (I, J, RF nw, SH) Q) : zW l mL_law SH.length (zsl SH) 801 [.ref 10002, .ref 0, .ref 85, .int (nI i)] [] (I, J, RF nw, SH) Q := by
  refine z_aload_1 (pc := 801) dL_law_801 ?_
  refine z_aload_0 (pc := 802) dL_law_802 ?_
  refine z_iload_3 (pc := 803) dL_law_803 ?_
  refine z_iconst (pc := 804) (1) dL_law_804 rfl ?_
  refine z_iadd (pc := 805) dL_law_805 ?_
  refine z_sld (pc := 806) dL_law_806 (pk_in (i + 1) l.2.1 (by omega) (nI_add i 1) (by omega)) ?_
  refine z_aload_0 (pc := 807) dL_law_807 ?_
  refine z_iload_3 (pc := 808) dL_law_808 ?_
  refine z_iconst (pc := 809) (2) dL_law_809 rfl ?_
  refine z_iadd (pc := 810) dL_law_810 ?_
  refine z_sld (pc := 811) dL_law_811 (pk_in (i + 2) l.2.1 (by omega) (nI_add i 2) (by omega)) ?_
  refine z_aload_0 (pc := 812) dL_law_812 ?_
  refine z_iload_3 (pc := 813) dL_law_813 ?_
  refine z_iconst (pc := 814) (3) dL_law_814 rfl ?_
  refine z_iadd (pc := 815) dL_law_815 ?_
  refine z_sld (pc := 816) dL_law_816 (pk_in (i + 3) l.2.1 (by omega) (nI_add i 3) (by omega)) ?_
  refine z_aload_0 (pc := 817) dL_law_817 ?_
  refine z_iload_3 (pc := 818) dL_law_818 ?_
  refine z_iconst (pc := 819) (4) dL_law_819 rfl ?_
  refine z_iadd (pc := 820) dL_law_820 ?_
  refine z_sld (pc := 821) dL_law_821 (pk_in (i + 4) l.2.1 (by omega) (nI_add i 4) (by omega)) ?_
  refine z_V4 (pc := 822) dL_law_822 mlL_95 kX8_malts vX8_malts (by decide) (by decide) (by first | rfl | assumption) (Nat.le_of_ble_eq_true rfl) (s_malts h) ⟨Nat.le_refl _, Nat.le_refl _⟩ (fun r h1 hq => ?_)
  obtain ⟨w, I2, J2, nw2, rfl, rfl, hm⟩ := hq
  refine z_aload_2 (pc := 825) dL_law_825 ?_
  refine z_aload_0 (pc := 826) dL_law_826 ?_
  refine z_iload_3 (pc := 827) dL_law_827 ?_
  refine z_iconst (pc := 828) (1) dL_law_828 rfl ?_
  refine z_iadd (pc := 829) dL_law_829 ?_
  refine z_sld (pc := 830) dL_law_830 (pk_in (i + 1) l.2.1 (by omega) (nI_add i 1) (by omega)) ?_
  refine z_aload_0 (pc := 831) dL_law_831 ?_
  refine z_iload_3 (pc := 832) dL_law_832 ?_
  refine z_iconst (pc := 833) (2) dL_law_833 rfl ?_
  refine z_iadd (pc := 834) dL_law_834 ?_
  refine z_sld (pc := 835) dL_law_835 (pk_in (i + 2) l.2.1 (by omega) (nI_add i 2) (by omega)) ?_
  refine z_aload_0 (pc := 836) dL_law_836 ?_
  refine z_iload_3 (pc := 837) dL_law_837 ?_
  refine z_iconst (pc := 838) (3) dL_law_838 rfl ?_
  refine z_iadd (pc := 839) dL_law_839 ?_
  refine z_sld (pc := 840) dL_law_840 (pk_in (i + 3) l.2.1 (by omega) (nI_add i 3) (by omega)) ?_
  refine z_aload_0 (pc := 841) dL_law_841 ?_
  refine z_iload_3 (pc := 842) dL_law_842 ?_
  refine z_iconst (pc := 843) (4) dL_law_843 rfl ?_
  refine z_iadd (pc := 844) dL_law_844 ?_
  refine z_sld (pc := 845) dL_law_845 (pk_in (i + 4) l.2.1 (by omega) (nI_add i 4) (by omega)) ?_
  refine z_V4 (pc := 846) dL_law_846 mlL_98 kX9_malts vX9_malts (by decide) (by decide) (by first | rfl | assumption) (Nat.le_of_ble_eq_true rfl) (hm) ⟨Nat.le_refl _, Nat.le_refl _⟩ (fun r h1 hq => ?_)
  obtain ⟨rfl, I3, J3, nw3, rfl, hR3⟩ := hq
  refine z_icmp_eq (pc := 849) (tgt := 1327) dL_law_849 (by decide) (fun c849 => ?_) (fun c849 => ?_)
  · skip
    exact hQ I3 J3 nw3 hR3
  · exact absurd rfl c849
set_option maxRecDepth 100000 in
set_option maxHeartbeats 4000000 in
theorem lc_who {l : zL} {I : Nat → Nat → Int32} {J : Nat → Nat → Int64} {nw : Bool} (h : Rel I I) (i : Nat) (hi : i + 6 ≤ l.2.1) (hL : l.2.1 ≤ 384) {Q : Option Value → zH → Prop} (hQ : ∀ (I : Nat → Nat → Int32) (J : Nat → Nat → Int64) (nw : Bool), Rel I I → zW l mL_law SH.length (zsl SH) 1327 [.ref 10002, .ref 0, .ref 85, .int (nI i)] [] (I, J, RF nw, SH) Q) : zW l mL_law SH.length (zsl SH) 854 [.ref 10002, .ref 0, .ref 85, .int (nI i)] [] (I, J, RF nw, SH) Q := by
  refine z_aload_1 (pc := 854) dL_law_854 ?_
  refine z_aload_0 (pc := 855) dL_law_855 ?_
  refine z_iload_3 (pc := 856) dL_law_856 ?_
  refine z_iconst (pc := 857) (1) dL_law_857 rfl ?_
  refine z_iadd (pc := 858) dL_law_858 ?_
  refine z_sld (pc := 859) dL_law_859 (pk_in (i + 1) l.2.1 (by omega) (nI_add i 1) (by omega)) ?_
  refine z_aload_0 (pc := 860) dL_law_860 ?_
  refine z_iload_3 (pc := 861) dL_law_861 ?_
  refine z_iconst (pc := 862) (2) dL_law_862 rfl ?_
  refine z_iadd (pc := 863) dL_law_863 ?_
  refine z_sld (pc := 864) dL_law_864 (pk_in (i + 2) l.2.1 (by omega) (nI_add i 2) (by omega)) ?_
  refine z_aload_0 (pc := 865) dL_law_865 ?_
  refine z_iload_3 (pc := 866) dL_law_866 ?_
  refine z_iconst (pc := 867) (3) dL_law_867 rfl ?_
  refine z_iadd (pc := 868) dL_law_868 ?_
  refine z_sld (pc := 869) dL_law_869 (pk_in (i + 3) l.2.1 (by omega) (nI_add i 3) (by omega)) ?_
  refine z_aload_0 (pc := 870) dL_law_870 ?_
  refine z_iload_3 (pc := 871) dL_law_871 ?_
  refine z_iconst (pc := 872) (4) dL_law_872 rfl ?_
  refine z_iadd (pc := 873) dL_law_873 ?_
  refine z_sld (pc := 874) dL_law_874 (pk_in (i + 4) l.2.1 (by omega) (nI_add i 4) (by omega)) ?_
  refine z_aload_0 (pc := 875) dL_law_875 ?_
  refine z_iload_3 (pc := 876) dL_law_876 ?_
  refine z_iconst (pc := 877) (5) dL_law_877 rfl ?_
  refine z_iadd (pc := 878) dL_law_878 ?_
  refine z_sld (pc := 879) dL_law_879 (pk_in (i + 5) l.2.1 (by omega) (nI_add i 5) (by omega)) ?_
  refine z_V5 (pc := 880) dL_law_880 mlL_99 kX8_who vX8_who (by decide) (by decide) (by first | rfl | assumption) (Nat.le_of_ble_eq_true rfl) (s_who h) ⟨Nat.le_refl _, Nat.le_refl _⟩ (fun r h1 hq => ?_)
  obtain ⟨w, I2, J2, nw2, rfl, rfl, hm⟩ := hq
  refine z_aload_2 (pc := 883) dL_law_883 ?_
  refine z_aload_0 (pc := 884) dL_law_884 ?_
  refine z_iload_3 (pc := 885) dL_law_885 ?_
  refine z_iconst (pc := 886) (1) dL_law_886 rfl ?_
  refine z_iadd (pc := 887) dL_law_887 ?_
  refine z_sld (pc := 888) dL_law_888 (pk_in (i + 1) l.2.1 (by omega) (nI_add i 1) (by omega)) ?_
  refine z_aload_0 (pc := 889) dL_law_889 ?_
  refine z_iload_3 (pc := 890) dL_law_890 ?_
  refine z_iconst (pc := 891) (2) dL_law_891 rfl ?_
  refine z_iadd (pc := 892) dL_law_892 ?_
  refine z_sld (pc := 893) dL_law_893 (pk_in (i + 2) l.2.1 (by omega) (nI_add i 2) (by omega)) ?_
  refine z_aload_0 (pc := 894) dL_law_894 ?_
  refine z_iload_3 (pc := 895) dL_law_895 ?_
  refine z_iconst (pc := 896) (3) dL_law_896 rfl ?_
  refine z_iadd (pc := 897) dL_law_897 ?_
  refine z_sld (pc := 898) dL_law_898 (pk_in (i + 3) l.2.1 (by omega) (nI_add i 3) (by omega)) ?_
  refine z_aload_0 (pc := 899) dL_law_899 ?_
  refine z_iload_3 (pc := 900) dL_law_900 ?_
  refine z_iconst (pc := 901) (4) dL_law_901 rfl ?_
  refine z_iadd (pc := 902) dL_law_902 ?_
  refine z_sld (pc := 903) dL_law_903 (pk_in (i + 4) l.2.1 (by omega) (nI_add i 4) (by omega)) ?_
  refine z_aload_0 (pc := 904) dL_law_904 ?_
  refine z_iload_3 (pc := 905) dL_law_905 ?_
  refine z_iconst (pc := 906) (5) dL_law_906 rfl ?_
  refine z_iadd (pc := 907) dL_law_907 ?_
  refine z_sld (pc := 908) dL_law_908 (pk_in (i + 5) l.2.1 (by omega) (nI_add i 5) (by omega)) ?_
  refine z_V5 (pc := 909) dL_law_909 mlL_102 kX9_who vX9_who (by decide) (by decide) (by first | rfl | assumption) (Nat.le_of_ble_eq_true rfl) (hm) ⟨Nat.le_refl _, Nat.le_refl _⟩ (fun r h1 hq => ?_)
  obtain ⟨rfl, I3, J3, nw3, rfl, hR3⟩ := hq
  refine z_icmp_eq (pc := 912) (tgt := 1327) dL_law_912 (by decide) (fun c912 => ?_) (fun c912 => ?_)
  · skip
    exact hQ I3 J3 nw3 hR3
  · exact absurd rfl c912
set_option maxRecDepth 100000 in
set_option maxHeartbeats 4000000 in
theorem lc_goesOff {l : zL} {I : Nat → Nat → Int32} {J : Nat → Nat → Int64} {nw : Bool} (h : Rel I I) (i : Nat) (hi : i + 6 ≤ l.2.1) (hL : l.2.1 ≤ 384) {Q : Option Value → zH → Prop} (hQ : ∀ (I : Nat → Nat → Int32) (J : Nat → Nat → Int64) (nw : Bool), Rel I I → zW l mL_law SH.length (zsl SH) 1327 [.ref 10002, .ref 0, .ref 85, .int (nI i)] [] (I, J, RF nw, SH) Q) : zW l mL_law SH.length (zsl SH) 917 [.ref 10002, .ref 0, .ref 85, .int (nI i)] [] (I, J, RF nw, SH) Q := by
  refine z_aload_1 (pc := 917) dL_law_917 ?_
  refine z_aload_0 (pc := 918) dL_law_918 ?_
  refine z_iload_3 (pc := 919) dL_law_919 ?_
  refine z_iconst (pc := 920) (1) dL_law_920 rfl ?_
  refine z_iadd (pc := 921) dL_law_921 ?_
  refine z_sld (pc := 922) dL_law_922 (pk_in (i + 1) l.2.1 (by omega) (nI_add i 1) (by omega)) ?_
  refine z_aload_0 (pc := 923) dL_law_923 ?_
  refine z_iload_3 (pc := 924) dL_law_924 ?_
  refine z_iconst (pc := 925) (2) dL_law_925 rfl ?_
  refine z_iadd (pc := 926) dL_law_926 ?_
  refine z_sld (pc := 927) dL_law_927 (pk_in (i + 2) l.2.1 (by omega) (nI_add i 2) (by omega)) ?_
  refine z_V2 (pc := 928) dL_law_928 mlL_103 kX8_goesOff vX8_goesOff (by decide) (by decide) (by first | rfl | assumption) (Nat.le_of_ble_eq_true rfl) (s_goesOff h) ⟨Nat.le_refl _, Nat.le_refl _⟩ (fun r h1 hq => ?_)
  obtain ⟨w, I2, J2, nw2, rfl, rfl, hm⟩ := hq
  refine z_aload_2 (pc := 931) dL_law_931 ?_
  refine z_aload_0 (pc := 932) dL_law_932 ?_
  refine z_iload_3 (pc := 933) dL_law_933 ?_
  refine z_iconst (pc := 934) (1) dL_law_934 rfl ?_
  refine z_iadd (pc := 935) dL_law_935 ?_
  refine z_sld (pc := 936) dL_law_936 (pk_in (i + 1) l.2.1 (by omega) (nI_add i 1) (by omega)) ?_
  refine z_aload_0 (pc := 937) dL_law_937 ?_
  refine z_iload_3 (pc := 938) dL_law_938 ?_
  refine z_iconst (pc := 939) (2) dL_law_939 rfl ?_
  refine z_iadd (pc := 940) dL_law_940 ?_
  refine z_sld (pc := 941) dL_law_941 (pk_in (i + 2) l.2.1 (by omega) (nI_add i 2) (by omega)) ?_
  refine z_V2 (pc := 942) dL_law_942 mlL_106 kX9_goesOff vX9_goesOff (by decide) (by decide) (by first | rfl | assumption) (Nat.le_of_ble_eq_true rfl) (hm) ⟨Nat.le_refl _, Nat.le_refl _⟩ (fun r h1 hq => ?_)
  obtain ⟨rfl, I3, J3, nw3, rfl, hR3⟩ := hq
  refine z_icmp_eq (pc := 945) (tgt := 1327) dL_law_945 (by decide) (fun c945 => ?_) (fun c945 => ?_)
  · skip
    exact hQ I3 J3 nw3 hR3
  · exact absurd rfl c945
set_option maxRecDepth 100000 in
set_option maxHeartbeats 4000000 in
theorem lc_best {l : zL} {I : Nat → Nat → Int32} {J : Nat → Nat → Int64} {nw : Bool} (h : Rel I I) (i : Nat) (hi : i + 6 ≤ l.2.1) (hL : l.2.1 ≤ 384) {Q : Option Value → zH → Prop} (hQ : ∀ (I : Nat → Nat → Int32) (J : Nat → Nat → Int64) (nw : Bool), Rel I I → zW l mL_law SH.length (zsl SH) 1327 [.ref 10002, .ref 0, .ref 85, .int (nI i)] [] (I, J, RF nw, SH) Q) : zW l mL_law SH.length (zsl SH) 950 [.ref 10002, .ref 0, .ref 85, .int (nI i)] [] (I, J, RF nw, SH) Q := by
  refine z_aload_1 (pc := 950) dL_law_950 ?_
  refine z_aload_0 (pc := 951) dL_law_951 ?_
  refine z_iload_3 (pc := 952) dL_law_952 ?_
  refine z_iconst (pc := 953) (1) dL_law_953 rfl ?_
  refine z_iadd (pc := 954) dL_law_954 ?_
  refine z_sld (pc := 955) dL_law_955 (pk_in (i + 1) l.2.1 (by omega) (nI_add i 1) (by omega)) ?_
  refine z_aload_0 (pc := 956) dL_law_956 ?_
  refine z_iload_3 (pc := 957) dL_law_957 ?_
  refine z_iconst (pc := 958) (2) dL_law_958 rfl ?_
  refine z_iadd (pc := 959) dL_law_959 ?_
  refine z_sld (pc := 960) dL_law_960 (pk_in (i + 2) l.2.1 (by omega) (nI_add i 2) (by omega)) ?_
  refine z_V2 (pc := 961) dL_law_961 mlL_107 kX8_best vX8_best (by decide) (by decide) (by first | rfl | assumption) (Nat.le_of_ble_eq_true rfl) (s_best h) ⟨Nat.le_refl _, Nat.le_refl _⟩ (fun r h1 hq => ?_)
  obtain ⟨w, I2, J2, nw2, rfl, rfl, hm⟩ := hq
  refine z_aload_2 (pc := 964) dL_law_964 ?_
  refine z_aload_0 (pc := 965) dL_law_965 ?_
  refine z_iload_3 (pc := 966) dL_law_966 ?_
  refine z_iconst (pc := 967) (1) dL_law_967 rfl ?_
  refine z_iadd (pc := 968) dL_law_968 ?_
  refine z_sld (pc := 969) dL_law_969 (pk_in (i + 1) l.2.1 (by omega) (nI_add i 1) (by omega)) ?_
  refine z_aload_0 (pc := 970) dL_law_970 ?_
  refine z_iload_3 (pc := 971) dL_law_971 ?_
  refine z_iconst (pc := 972) (2) dL_law_972 rfl ?_
  refine z_iadd (pc := 973) dL_law_973 ?_
  refine z_sld (pc := 974) dL_law_974 (pk_in (i + 2) l.2.1 (by omega) (nI_add i 2) (by omega)) ?_
  refine z_V2 (pc := 975) dL_law_975 mlL_110 kX9_best vX9_best (by decide) (by decide) (by first | rfl | assumption) (Nat.le_of_ble_eq_true rfl) (hm) ⟨Nat.le_refl _, Nat.le_refl _⟩ (fun r h1 hq => ?_)
  obtain ⟨rfl, I3, J3, nw3, rfl, hR3⟩ := hq
  refine z_icmp_eq (pc := 978) (tgt := 1327) dL_law_978 (by decide) (fun c978 => ?_) (fun c978 => ?_)
  · skip
    exact hQ I3 J3 nw3 hR3
  · exact absurd rfl c978
set_option maxRecDepth 100000 in
set_option maxHeartbeats 4000000 in
theorem lc_blended {l : zL} {I : Nat → Nat → Int32} {J : Nat → Nat → Int64} {nw : Bool} (h : Rel I I) (i : Nat) (hi : i + 6 ≤ l.2.1) (hL : l.2.1 ≤ 384) {Q : Option Value → zH → Prop} (hQ : ∀ (I : Nat → Nat → Int32) (J : Nat → Nat → Int64) (nw : Bool), Rel I I → zW l mL_law SH.length (zsl SH) 1327 [.ref 10002, .ref 0, .ref 85, .int (nI i)] [] (I, J, RF nw, SH) Q) : zW l mL_law SH.length (zsl SH) 983 [.ref 10002, .ref 0, .ref 85, .int (nI i)] [] (I, J, RF nw, SH) Q := by
  refine z_aload_1 (pc := 983) dL_law_983 ?_
  refine z_aload_0 (pc := 984) dL_law_984 ?_
  refine z_iload_3 (pc := 985) dL_law_985 ?_
  refine z_iconst (pc := 986) (1) dL_law_986 rfl ?_
  refine z_iadd (pc := 987) dL_law_987 ?_
  refine z_sld (pc := 988) dL_law_988 (pk_in (i + 1) l.2.1 (by omega) (nI_add i 1) (by omega)) ?_
  refine z_aload_0 (pc := 989) dL_law_989 ?_
  refine z_iload_3 (pc := 990) dL_law_990 ?_
  refine z_iconst (pc := 991) (2) dL_law_991 rfl ?_
  refine z_iadd (pc := 992) dL_law_992 ?_
  refine z_sld (pc := 993) dL_law_993 (pk_in (i + 2) l.2.1 (by omega) (nI_add i 2) (by omega)) ?_
  refine z_aload_0 (pc := 994) dL_law_994 ?_
  refine z_iload_3 (pc := 995) dL_law_995 ?_
  refine z_iconst (pc := 996) (3) dL_law_996 rfl ?_
  refine z_iadd (pc := 997) dL_law_997 ?_
  refine z_sld (pc := 998) dL_law_998 (pk_in (i + 3) l.2.1 (by omega) (nI_add i 3) (by omega)) ?_
  refine z_V3 (pc := 999) dL_law_999 mlL_111 kX8_blended vX8_blended (by decide) (by decide) (by first | rfl | assumption) (Nat.le_of_ble_eq_true rfl) (s_blended h) ⟨Nat.le_refl _, Nat.le_refl _⟩ (fun r h1 hq => ?_)
  obtain ⟨w, I2, J2, nw2, rfl, rfl, hm⟩ := hq
  refine z_aload_2 (pc := 1002) dL_law_1002 ?_
  refine z_aload_0 (pc := 1003) dL_law_1003 ?_
  refine z_iload_3 (pc := 1004) dL_law_1004 ?_
  refine z_iconst (pc := 1005) (1) dL_law_1005 rfl ?_
  refine z_iadd (pc := 1006) dL_law_1006 ?_
  refine z_sld (pc := 1007) dL_law_1007 (pk_in (i + 1) l.2.1 (by omega) (nI_add i 1) (by omega)) ?_
  refine z_aload_0 (pc := 1008) dL_law_1008 ?_
  refine z_iload_3 (pc := 1009) dL_law_1009 ?_
  refine z_iconst (pc := 1010) (2) dL_law_1010 rfl ?_
  refine z_iadd (pc := 1011) dL_law_1011 ?_
  refine z_sld (pc := 1012) dL_law_1012 (pk_in (i + 2) l.2.1 (by omega) (nI_add i 2) (by omega)) ?_
  refine z_aload_0 (pc := 1013) dL_law_1013 ?_
  refine z_iload_3 (pc := 1014) dL_law_1014 ?_
  refine z_iconst (pc := 1015) (3) dL_law_1015 rfl ?_
  refine z_iadd (pc := 1016) dL_law_1016 ?_
  refine z_sld (pc := 1017) dL_law_1017 (pk_in (i + 3) l.2.1 (by omega) (nI_add i 3) (by omega)) ?_
  refine z_V3 (pc := 1018) dL_law_1018 mlL_114 kX9_blended vX9_blended (by decide) (by decide) (by first | rfl | assumption) (Nat.le_of_ble_eq_true rfl) (hm) ⟨Nat.le_refl _, Nat.le_refl _⟩ (fun r h1 hq => ?_)
  obtain ⟨rfl, I3, J3, nw3, rfl, hR3⟩ := hq
  refine z_icmp_eq (pc := 1021) (tgt := 1327) dL_law_1021 (by decide) (fun c1021 => ?_) (fun c1021 => ?_)
  · skip
    exact hQ I3 J3 nw3 hR3
  · exact absurd rfl c1021
set_option maxRecDepth 100000 in
set_option maxHeartbeats 4000000 in
theorem lc_silent {l : zL} {I : Nat → Nat → Int32} {J : Nat → Nat → Int64} {nw : Bool} (h : Rel I I) (i : Nat) (hi : i + 6 ≤ l.2.1) (hL : l.2.1 ≤ 384) {Q : Option Value → zH → Prop} (hQ : ∀ (I : Nat → Nat → Int32) (J : Nat → Nat → Int64) (nw : Bool), Rel I I → zW l mL_law SH.length (zsl SH) 1327 [.ref 10002, .ref 0, .ref 85, .int (nI i)] [] (I, J, RF nw, SH) Q) : zW l mL_law SH.length (zsl SH) 1026 [.ref 10002, .ref 0, .ref 85, .int (nI i)] [] (I, J, RF nw, SH) Q := by
  refine z_aload_1 (pc := 1026) dL_law_1026 ?_
  refine z_aload_0 (pc := 1027) dL_law_1027 ?_
  refine z_iload_3 (pc := 1028) dL_law_1028 ?_
  refine z_iconst (pc := 1029) (1) dL_law_1029 rfl ?_
  refine z_iadd (pc := 1030) dL_law_1030 ?_
  refine z_sld (pc := 1031) dL_law_1031 (pk_in (i + 1) l.2.1 (by omega) (nI_add i 1) (by omega)) ?_
  refine z_aload_0 (pc := 1032) dL_law_1032 ?_
  refine z_iload_3 (pc := 1033) dL_law_1033 ?_
  refine z_iconst (pc := 1034) (2) dL_law_1034 rfl ?_
  refine z_iadd (pc := 1035) dL_law_1035 ?_
  refine z_sld (pc := 1036) dL_law_1036 (pk_in (i + 2) l.2.1 (by omega) (nI_add i 2) (by omega)) ?_
  refine z_aload_0 (pc := 1037) dL_law_1037 ?_
  refine z_iload_3 (pc := 1038) dL_law_1038 ?_
  refine z_iconst (pc := 1039) (3) dL_law_1039 rfl ?_
  refine z_iadd (pc := 1040) dL_law_1040 ?_
  refine z_sld (pc := 1041) dL_law_1041 (pk_in (i + 3) l.2.1 (by omega) (nI_add i 3) (by omega)) ?_
  refine z_aload_0 (pc := 1042) dL_law_1042 ?_
  refine z_iload_3 (pc := 1043) dL_law_1043 ?_
  refine z_iconst (pc := 1044) (4) dL_law_1044 rfl ?_
  refine z_iadd (pc := 1045) dL_law_1045 ?_
  refine z_sld (pc := 1046) dL_law_1046 (pk_in (i + 4) l.2.1 (by omega) (nI_add i 4) (by omega)) ?_
  refine z_aload_0 (pc := 1047) dL_law_1047 ?_
  refine z_iload_3 (pc := 1048) dL_law_1048 ?_
  refine z_iconst (pc := 1049) (5) dL_law_1049 rfl ?_
  refine z_iadd (pc := 1050) dL_law_1050 ?_
  refine z_sld (pc := 1051) dL_law_1051 (pk_in (i + 5) l.2.1 (by omega) (nI_add i 5) (by omega)) ?_
  refine z_V5 (pc := 1052) dL_law_1052 mlL_115 kX8_silent vX8_silent (by decide) (by decide) (by first | rfl | assumption) (Nat.le_of_ble_eq_true rfl) (s_silent h) ⟨Nat.le_refl _, Nat.le_refl _⟩ (fun r h1 hq => ?_)
  obtain ⟨w, I2, J2, nw2, rfl, rfl, hm⟩ := hq
  refine z_aload_2 (pc := 1055) dL_law_1055 ?_
  refine z_aload_0 (pc := 1056) dL_law_1056 ?_
  refine z_iload_3 (pc := 1057) dL_law_1057 ?_
  refine z_iconst (pc := 1058) (1) dL_law_1058 rfl ?_
  refine z_iadd (pc := 1059) dL_law_1059 ?_
  refine z_sld (pc := 1060) dL_law_1060 (pk_in (i + 1) l.2.1 (by omega) (nI_add i 1) (by omega)) ?_
  refine z_aload_0 (pc := 1061) dL_law_1061 ?_
  refine z_iload_3 (pc := 1062) dL_law_1062 ?_
  refine z_iconst (pc := 1063) (2) dL_law_1063 rfl ?_
  refine z_iadd (pc := 1064) dL_law_1064 ?_
  refine z_sld (pc := 1065) dL_law_1065 (pk_in (i + 2) l.2.1 (by omega) (nI_add i 2) (by omega)) ?_
  refine z_aload_0 (pc := 1066) dL_law_1066 ?_
  refine z_iload_3 (pc := 1067) dL_law_1067 ?_
  refine z_iconst (pc := 1068) (3) dL_law_1068 rfl ?_
  refine z_iadd (pc := 1069) dL_law_1069 ?_
  refine z_sld (pc := 1070) dL_law_1070 (pk_in (i + 3) l.2.1 (by omega) (nI_add i 3) (by omega)) ?_
  refine z_aload_0 (pc := 1071) dL_law_1071 ?_
  refine z_iload_3 (pc := 1072) dL_law_1072 ?_
  refine z_iconst (pc := 1073) (4) dL_law_1073 rfl ?_
  refine z_iadd (pc := 1074) dL_law_1074 ?_
  refine z_sld (pc := 1075) dL_law_1075 (pk_in (i + 4) l.2.1 (by omega) (nI_add i 4) (by omega)) ?_
  refine z_aload_0 (pc := 1076) dL_law_1076 ?_
  refine z_iload_3 (pc := 1077) dL_law_1077 ?_
  refine z_iconst (pc := 1078) (5) dL_law_1078 rfl ?_
  refine z_iadd (pc := 1079) dL_law_1079 ?_
  refine z_sld (pc := 1080) dL_law_1080 (pk_in (i + 5) l.2.1 (by omega) (nI_add i 5) (by omega)) ?_
  refine z_V5 (pc := 1081) dL_law_1081 mlL_119 kX9_silent vX9_silent (by decide) (by decide) (by first | rfl | assumption) (Nat.le_of_ble_eq_true rfl) (hm) ⟨Nat.le_refl _, Nat.le_refl _⟩ (fun r h1 hq => ?_)
  obtain ⟨rfl, I3, J3, nw3, rfl, hR3⟩ := hq
  refine z_lcmp (pc := 1084) dL_law_1084 ?_
  refine z_if_eq (pc := 1085) (tgt := 1327) dL_law_1085 (by decide) (fun c1085 => ?_) (fun c1085 => ?_)
  · skip
    exact hQ I3 J3 nw3 hR3
  · exact absurd ((lg_cmp_eq _ _).mpr rfl) c1085
set_option maxRecDepth 100000 in
set_option maxHeartbeats 4000000 in
theorem lc_drawn {l : zL} {I : Nat → Nat → Int32} {J : Nat → Nat → Int64} {nw : Bool} (h : Rel I I) (i : Nat) (hi : i + 6 ≤ l.2.1) (hL : l.2.1 ≤ 384) {Q : Option Value → zH → Prop} (hQ : ∀ (I : Nat → Nat → Int32) (J : Nat → Nat → Int64) (nw : Bool), Rel I I → zW l mL_law SH.length (zsl SH) 1327 [.ref 10002, .ref 0, .ref 85, .int (nI i)] [] (I, J, RF nw, SH) Q) : zW l mL_law SH.length (zsl SH) 1090 [.ref 10002, .ref 0, .ref 85, .int (nI i)] [] (I, J, RF nw, SH) Q := by
  refine z_aload_1 (pc := 1090) dL_law_1090 ?_
  refine z_aload_0 (pc := 1091) dL_law_1091 ?_
  refine z_iload_3 (pc := 1092) dL_law_1092 ?_
  refine z_iconst (pc := 1093) (1) dL_law_1093 rfl ?_
  refine z_iadd (pc := 1094) dL_law_1094 ?_
  refine z_sld (pc := 1095) dL_law_1095 (pk_in (i + 1) l.2.1 (by omega) (nI_add i 1) (by omega)) ?_
  refine z_aload_0 (pc := 1096) dL_law_1096 ?_
  refine z_iload_3 (pc := 1097) dL_law_1097 ?_
  refine z_iconst (pc := 1098) (2) dL_law_1098 rfl ?_
  refine z_iadd (pc := 1099) dL_law_1099 ?_
  refine z_sld (pc := 1100) dL_law_1100 (pk_in (i + 2) l.2.1 (by omega) (nI_add i 2) (by omega)) ?_
  refine z_aload_0 (pc := 1101) dL_law_1101 ?_
  refine z_iload_3 (pc := 1102) dL_law_1102 ?_
  refine z_iconst (pc := 1103) (3) dL_law_1103 rfl ?_
  refine z_iadd (pc := 1104) dL_law_1104 ?_
  refine z_sld (pc := 1105) dL_law_1105 (pk_in (i + 3) l.2.1 (by omega) (nI_add i 3) (by omega)) ?_
  refine z_V3 (pc := 1106) dL_law_1106 mlL_120 kX8_drawn vX8_drawn (by decide) (by decide) (by first | rfl | assumption) (Nat.le_of_ble_eq_true rfl) (s_drawn h) ⟨Nat.le_refl _, Nat.le_refl _⟩ (fun r h1 hq => ?_)
  obtain ⟨w, I2, J2, nw2, rfl, rfl, hm⟩ := hq
  refine z_aload_2 (pc := 1109) dL_law_1109 ?_
  refine z_aload_0 (pc := 1110) dL_law_1110 ?_
  refine z_iload_3 (pc := 1111) dL_law_1111 ?_
  refine z_iconst (pc := 1112) (1) dL_law_1112 rfl ?_
  refine z_iadd (pc := 1113) dL_law_1113 ?_
  refine z_sld (pc := 1114) dL_law_1114 (pk_in (i + 1) l.2.1 (by omega) (nI_add i 1) (by omega)) ?_
  refine z_aload_0 (pc := 1115) dL_law_1115 ?_
  refine z_iload_3 (pc := 1116) dL_law_1116 ?_
  refine z_iconst (pc := 1117) (2) dL_law_1117 rfl ?_
  refine z_iadd (pc := 1118) dL_law_1118 ?_
  refine z_sld (pc := 1119) dL_law_1119 (pk_in (i + 2) l.2.1 (by omega) (nI_add i 2) (by omega)) ?_
  refine z_aload_0 (pc := 1120) dL_law_1120 ?_
  refine z_iload_3 (pc := 1121) dL_law_1121 ?_
  refine z_iconst (pc := 1122) (3) dL_law_1122 rfl ?_
  refine z_iadd (pc := 1123) dL_law_1123 ?_
  refine z_sld (pc := 1124) dL_law_1124 (pk_in (i + 3) l.2.1 (by omega) (nI_add i 3) (by omega)) ?_
  refine z_V3 (pc := 1125) dL_law_1125 mlL_123 kX9_drawn vX9_drawn (by decide) (by decide) (by first | rfl | assumption) (Nat.le_of_ble_eq_true rfl) (hm) ⟨Nat.le_refl _, Nat.le_refl _⟩ (fun r h1 hq => ?_)
  obtain ⟨rfl, I3, J3, nw3, rfl, hR3⟩ := hq
  refine z_icmp_eq (pc := 1128) (tgt := 1327) dL_law_1128 (by decide) (fun c1128 => ?_) (fun c1128 => ?_)
  · skip
    exact hQ I3 J3 nw3 hR3
  · exact absurd rfl c1128
set_option maxRecDepth 100000 in
set_option maxHeartbeats 4000000 in
theorem lc_image {l : zL} {I : Nat → Nat → Int32} {J : Nat → Nat → Int64} {nw : Bool} (h : Rel I I) (i : Nat) (hi : i + 6 ≤ l.2.1) (hL : l.2.1 ≤ 384) {Q : Option Value → zH → Prop} (hQ : ∀ (I : Nat → Nat → Int32) (J : Nat → Nat → Int64) (nw : Bool), Rel I I → zW l mL_law SH.length (zsl SH) 1327 [.ref 10002, .ref 0, .ref 85, .int (nI i)] [] (I, J, RF nw, SH) Q) : zW l mL_law SH.length (zsl SH) 1133 [.ref 10002, .ref 0, .ref 85, .int (nI i)] [] (I, J, RF nw, SH) Q := by
  refine z_aload_1 (pc := 1133) dL_law_1133 ?_
  refine z_aload_0 (pc := 1134) dL_law_1134 ?_
  refine z_iload_3 (pc := 1135) dL_law_1135 ?_
  refine z_iconst (pc := 1136) (1) dL_law_1136 rfl ?_
  refine z_iadd (pc := 1137) dL_law_1137 ?_
  refine z_sld (pc := 1138) dL_law_1138 (pk_in (i + 1) l.2.1 (by omega) (nI_add i 1) (by omega)) ?_
  refine z_V1 (pc := 1139) dL_law_1139 mlL_124 kX8_image vX8_image (by decide) (by decide) (by first | rfl | assumption) (Nat.le_of_ble_eq_true rfl) (s_image h) ⟨Nat.le_refl _, Nat.le_refl _⟩ (fun r h1 hq => ?_)
  obtain ⟨w, I2, J2, nw2, rfl, rfl, hm⟩ := hq
  refine z_aload_2 (pc := 1142) dL_law_1142 ?_
  refine z_aload_0 (pc := 1143) dL_law_1143 ?_
  refine z_iload_3 (pc := 1144) dL_law_1144 ?_
  refine z_iconst (pc := 1145) (1) dL_law_1145 rfl ?_
  refine z_iadd (pc := 1146) dL_law_1146 ?_
  refine z_sld (pc := 1147) dL_law_1147 (pk_in (i + 1) l.2.1 (by omega) (nI_add i 1) (by omega)) ?_
  refine z_V1 (pc := 1148) dL_law_1148 mlL_127 kX9_image vX9_image (by decide) (by decide) (by first | rfl | assumption) (Nat.le_of_ble_eq_true rfl) (hm) ⟨Nat.le_refl _, Nat.le_refl _⟩ (fun r h1 hq => ?_)
  obtain ⟨rfl, I3, J3, nw3, rfl, hR3⟩ := hq
  refine z_icmp_eq (pc := 1151) (tgt := 1327) dL_law_1151 (by decide) (fun c1151 => ?_) (fun c1151 => ?_)
  · skip
    exact hQ I3 J3 nw3 hR3
  · exact absurd rfl c1151
set_option maxRecDepth 100000 in
set_option maxHeartbeats 4000000 in
theorem lc_restore {l : zL} {I : Nat → Nat → Int32} {J : Nat → Nat → Int64} {nw : Bool} (h : Rel I I) (i : Nat) (hi : i + 6 ≤ l.2.1) (hL : l.2.1 ≤ 384) {Q : Option Value → zH → Prop} (hQ : ∀ (I : Nat → Nat → Int32) (J : Nat → Nat → Int64) (nw : Bool), Rel I I → zW l mL_law SH.length (zsl SH) 1327 [.ref 10002, .ref 0, .ref 85, .int (nI i)] [] (I, J, RF nw, SH) Q) : zW l mL_law SH.length (zsl SH) 1156 [.ref 10002, .ref 0, .ref 85, .int (nI i)] [] (I, J, RF nw, SH) Q := by
  refine z_aload_1 (pc := 1156) dL_law_1156 ?_
  refine z_aload_0 (pc := 1157) dL_law_1157 ?_
  refine z_iload_3 (pc := 1158) dL_law_1158 ?_
  refine z_iconst (pc := 1159) (1) dL_law_1159 rfl ?_
  refine z_iadd (pc := 1160) dL_law_1160 ?_
  refine z_sld (pc := 1161) dL_law_1161 (pk_in (i + 1) l.2.1 (by omega) (nI_add i 1) (by omega)) ?_
  refine z_V1 (pc := 1162) dL_law_1162 mlL_128 kX8_restore vX8_restore (by decide) (by decide) (by first | rfl | assumption) (Nat.le_of_ble_eq_true rfl) (s_restore h) ⟨Nat.le_refl _, Nat.le_refl _⟩ (fun r h1 hq => ?_)
  obtain ⟨w, I2, J2, nw2, rfl, rfl, hm⟩ := hq
  refine z_aload_2 (pc := 1165) dL_law_1165 ?_
  refine z_aload_0 (pc := 1166) dL_law_1166 ?_
  refine z_iload_3 (pc := 1167) dL_law_1167 ?_
  refine z_iconst (pc := 1168) (1) dL_law_1168 rfl ?_
  refine z_iadd (pc := 1169) dL_law_1169 ?_
  refine z_sld (pc := 1170) dL_law_1170 (pk_in (i + 1) l.2.1 (by omega) (nI_add i 1) (by omega)) ?_
  refine z_V1 (pc := 1171) dL_law_1171 mlL_131 kX9_restore vX9_restore (by decide) (by decide) (by first | rfl | assumption) (Nat.le_of_ble_eq_true rfl) (hm) ⟨Nat.le_refl _, Nat.le_refl _⟩ (fun r h1 hq => ?_)
  obtain ⟨rfl, I3, J3, nw3, rfl, hR3⟩ := hq
  refine z_icmp_eq (pc := 1174) (tgt := 1327) dL_law_1174 (by decide) (fun c1174 => ?_) (fun c1174 => ?_)
  · skip
    exact hQ I3 J3 nw3 hR3
  · exact absurd rfl c1174
set_option maxRecDepth 100000 in
set_option maxHeartbeats 4000000 in
theorem lc_kind {l : zL} {I : Nat → Nat → Int32} {J : Nat → Nat → Int64} {nw : Bool} (h : Rel I I) (i : Nat) (hi : i + 6 ≤ l.2.1) (hL : l.2.1 ≤ 384) {Q : Option Value → zH → Prop} (hQ : ∀ (I : Nat → Nat → Int32) (J : Nat → Nat → Int64) (nw : Bool), Rel I I → zW l mL_law SH.length (zsl SH) 1327 [.ref 10002, .ref 0, .ref 85, .int (nI i)] [] (I, J, RF nw, SH) Q) : zW l mL_law SH.length (zsl SH) 1179 [.ref 10002, .ref 0, .ref 85, .int (nI i)] [] (I, J, RF nw, SH) Q := by
  refine z_aload_1 (pc := 1179) dL_law_1179 ?_
  refine z_aload_0 (pc := 1180) dL_law_1180 ?_
  refine z_iload_3 (pc := 1181) dL_law_1181 ?_
  refine z_iconst (pc := 1182) (1) dL_law_1182 rfl ?_
  refine z_iadd (pc := 1183) dL_law_1183 ?_
  refine z_sld (pc := 1184) dL_law_1184 (pk_in (i + 1) l.2.1 (by omega) (nI_add i 1) (by omega)) ?_
  refine z_V1 (pc := 1185) dL_law_1185 mlL_132 kX8_kind vX8_kind (by decide) (by decide) (by first | rfl | assumption) (Nat.le_of_ble_eq_true rfl) (s_kind h) ⟨Nat.le_refl _, Nat.le_refl _⟩ (fun r h1 hq => ?_)
  obtain ⟨w, I2, J2, nw2, rfl, rfl, hm⟩ := hq
  refine z_aload_2 (pc := 1188) dL_law_1188 ?_
  refine z_aload_0 (pc := 1189) dL_law_1189 ?_
  refine z_iload_3 (pc := 1190) dL_law_1190 ?_
  refine z_iconst (pc := 1191) (1) dL_law_1191 rfl ?_
  refine z_iadd (pc := 1192) dL_law_1192 ?_
  refine z_sld (pc := 1193) dL_law_1193 (pk_in (i + 1) l.2.1 (by omega) (nI_add i 1) (by omega)) ?_
  refine z_V1 (pc := 1194) dL_law_1194 mlL_135 kX9_kind vX9_kind (by decide) (by decide) (by first | rfl | assumption) (Nat.le_of_ble_eq_true rfl) (hm) ⟨Nat.le_refl _, Nat.le_refl _⟩ (fun r h1 hq => ?_)
  obtain ⟨rfl, I3, J3, nw3, rfl, hR3⟩ := hq
  refine z_icmp_eq (pc := 1197) (tgt := 1327) dL_law_1197 (by decide) (fun c1197 => ?_) (fun c1197 => ?_)
  · skip
    exact hQ I3 J3 nw3 hR3
  · exact absurd rfl c1197
set_option maxRecDepth 100000 in
set_option maxHeartbeats 4000000 in
theorem lc_as {l : zL} {I : Nat → Nat → Int32} {J : Nat → Nat → Int64} {nw : Bool} (h : Rel I I) (i : Nat) (hi : i + 6 ≤ l.2.1) (hL : l.2.1 ≤ 384) {Q : Option Value → zH → Prop} (hQ : ∀ (I : Nat → Nat → Int32) (J : Nat → Nat → Int64) (nw : Bool), Rel I I → zW l mL_law SH.length (zsl SH) 1327 [.ref 10002, .ref 0, .ref 85, .int (nI i)] [] (I, J, RF nw, SH) Q) : zW l mL_law SH.length (zsl SH) 1202 [.ref 10002, .ref 0, .ref 85, .int (nI i)] [] (I, J, RF nw, SH) Q := by
  refine z_aload_1 (pc := 1202) dL_law_1202 ?_
  refine z_aload_0 (pc := 1203) dL_law_1203 ?_
  refine z_iload_3 (pc := 1204) dL_law_1204 ?_
  refine z_iconst (pc := 1205) (1) dL_law_1205 rfl ?_
  refine z_iadd (pc := 1206) dL_law_1206 ?_
  refine z_sld (pc := 1207) dL_law_1207 (pk_in (i + 1) l.2.1 (by omega) (nI_add i 1) (by omega)) ?_
  refine z_aload_0 (pc := 1208) dL_law_1208 ?_
  refine z_iload_3 (pc := 1209) dL_law_1209 ?_
  refine z_iconst (pc := 1210) (2) dL_law_1210 rfl ?_
  refine z_iadd (pc := 1211) dL_law_1211 ?_
  refine z_sld (pc := 1212) dL_law_1212 (pk_in (i + 2) l.2.1 (by omega) (nI_add i 2) (by omega)) ?_
  refine z_V2 (pc := 1213) dL_law_1213 mlL_136 kX8_as vX8_as (by decide) (by decide) (by first | rfl | assumption) (Nat.le_of_ble_eq_true rfl) (s_as h) ⟨Nat.le_refl _, Nat.le_refl _⟩ (fun r h1 hq => ?_)
  obtain ⟨w, I2, J2, nw2, rfl, rfl, hm⟩ := hq
  refine z_aload_2 (pc := 1216) dL_law_1216 ?_
  refine z_aload_0 (pc := 1217) dL_law_1217 ?_
  refine z_iload_3 (pc := 1218) dL_law_1218 ?_
  refine z_iconst (pc := 1219) (1) dL_law_1219 rfl ?_
  refine z_iadd (pc := 1220) dL_law_1220 ?_
  refine z_sld (pc := 1221) dL_law_1221 (pk_in (i + 1) l.2.1 (by omega) (nI_add i 1) (by omega)) ?_
  refine z_aload_0 (pc := 1222) dL_law_1222 ?_
  refine z_iload_3 (pc := 1223) dL_law_1223 ?_
  refine z_iconst (pc := 1224) (2) dL_law_1224 rfl ?_
  refine z_iadd (pc := 1225) dL_law_1225 ?_
  refine z_sld (pc := 1226) dL_law_1226 (pk_in (i + 2) l.2.1 (by omega) (nI_add i 2) (by omega)) ?_
  refine z_V2 (pc := 1227) dL_law_1227 mlL_139 kX9_as vX9_as (by decide) (by decide) (by first | rfl | assumption) (Nat.le_of_ble_eq_true rfl) (hm) ⟨Nat.le_refl _, Nat.le_refl _⟩ (fun r h1 hq => ?_)
  obtain ⟨rfl, I3, J3, nw3, rfl, hR3⟩ := hq
  refine z_icmp_eq (pc := 1230) (tgt := 1327) dL_law_1230 (by decide) (fun c1230 => ?_) (fun c1230 => ?_)
  · skip
    exact hQ I3 J3 nw3 hR3
  · exact absurd rfl c1230
set_option maxRecDepth 100000 in
set_option maxHeartbeats 4000000 in
theorem lc_ask {l : zL} {I : Nat → Nat → Int32} {J : Nat → Nat → Int64} {nw : Bool} (h : Rel I I) (i : Nat) (hi : i + 6 ≤ l.2.1) (hL : l.2.1 ≤ 384) {Q : Option Value → zH → Prop} (hQ : ∀ (I : Nat → Nat → Int32) (J : Nat → Nat → Int64) (nw : Bool), Rel I I → zW l mL_law SH.length (zsl SH) 1327 [.ref 10002, .ref 0, .ref 85, .int (nI i)] [] (I, J, RF nw, SH) Q) : zW l mL_law SH.length (zsl SH) 1235 [.ref 10002, .ref 0, .ref 85, .int (nI i)] [] (I, J, RF nw, SH) Q := by
  refine z_aload_1 (pc := 1235) dL_law_1235 ?_
  refine z_aload_0 (pc := 1236) dL_law_1236 ?_
  refine z_iload_3 (pc := 1237) dL_law_1237 ?_
  refine z_iconst (pc := 1238) (1) dL_law_1238 rfl ?_
  refine z_iadd (pc := 1239) dL_law_1239 ?_
  refine z_sld (pc := 1240) dL_law_1240 (pk_in (i + 1) l.2.1 (by omega) (nI_add i 1) (by omega)) ?_
  refine z_aload_0 (pc := 1241) dL_law_1241 ?_
  refine z_iload_3 (pc := 1242) dL_law_1242 ?_
  refine z_iconst (pc := 1243) (2) dL_law_1243 rfl ?_
  refine z_iadd (pc := 1244) dL_law_1244 ?_
  refine z_sld (pc := 1245) dL_law_1245 (pk_in (i + 2) l.2.1 (by omega) (nI_add i 2) (by omega)) ?_
  refine z_V2 (pc := 1246) dL_law_1246 mlL_140 kX8_ask vX8_ask (by decide) (by decide) (by first | rfl | assumption) (Nat.le_of_ble_eq_true rfl) (s_ask h) ⟨Nat.le_refl _, Nat.le_refl _⟩ (fun r h1 hq => ?_)
  obtain ⟨w, I2, J2, nw2, rfl, rfl, hm⟩ := hq
  refine z_aload_2 (pc := 1249) dL_law_1249 ?_
  refine z_aload_0 (pc := 1250) dL_law_1250 ?_
  refine z_iload_3 (pc := 1251) dL_law_1251 ?_
  refine z_iconst (pc := 1252) (1) dL_law_1252 rfl ?_
  refine z_iadd (pc := 1253) dL_law_1253 ?_
  refine z_sld (pc := 1254) dL_law_1254 (pk_in (i + 1) l.2.1 (by omega) (nI_add i 1) (by omega)) ?_
  refine z_aload_0 (pc := 1255) dL_law_1255 ?_
  refine z_iload_3 (pc := 1256) dL_law_1256 ?_
  refine z_iconst (pc := 1257) (2) dL_law_1257 rfl ?_
  refine z_iadd (pc := 1258) dL_law_1258 ?_
  refine z_sld (pc := 1259) dL_law_1259 (pk_in (i + 2) l.2.1 (by omega) (nI_add i 2) (by omega)) ?_
  refine z_V2 (pc := 1260) dL_law_1260 mlL_143 kX9_ask vX9_ask (by decide) (by decide) (by first | rfl | assumption) (Nat.le_of_ble_eq_true rfl) (hm) ⟨Nat.le_refl _, Nat.le_refl _⟩ (fun r h1 hq => ?_)
  obtain ⟨rfl, I3, J3, nw3, rfl, hR3⟩ := hq
  refine z_icmp_eq (pc := 1263) (tgt := 1327) dL_law_1263 (by decide) (fun c1263 => ?_) (fun c1263 => ?_)
  · skip
    exact hQ I3 J3 nw3 hR3
  · exact absurd rfl c1263
set_option maxRecDepth 100000 in
set_option maxHeartbeats 4000000 in
theorem lc_trace {l : zL} {I : Nat → Nat → Int32} {J : Nat → Nat → Int64} {nw : Bool} (h : Rel I I) (i : Nat) (hi : i + 6 ≤ l.2.1) (hL : l.2.1 ≤ 384) {Q : Option Value → zH → Prop} (hQ : ∀ (I : Nat → Nat → Int32) (J : Nat → Nat → Int64) (nw : Bool), Rel I I → zW l mL_law SH.length (zsl SH) 1327 [.ref 10002, .ref 0, .ref 85, .int (nI i)] [] (I, J, RF nw, SH) Q) : zW l mL_law SH.length (zsl SH) 1268 [.ref 10002, .ref 0, .ref 85, .int (nI i)] [] (I, J, RF nw, SH) Q := by
  refine z_aload_1 (pc := 1268) dL_law_1268 ?_
  refine z_aload_0 (pc := 1269) dL_law_1269 ?_
  refine z_iload_3 (pc := 1270) dL_law_1270 ?_
  refine z_iconst (pc := 1271) (1) dL_law_1271 rfl ?_
  refine z_iadd (pc := 1272) dL_law_1272 ?_
  refine z_sld (pc := 1273) dL_law_1273 (pk_in (i + 1) l.2.1 (by omega) (nI_add i 1) (by omega)) ?_
  refine z_V1 (pc := 1274) dL_law_1274 mlL_144 kX8_trace vX8_trace (by decide) (by decide) (by first | rfl | assumption) (Nat.le_of_ble_eq_true rfl) (s_trace h) ⟨Nat.le_refl _, Nat.le_refl _⟩ (fun r h1 hq => ?_)
  obtain ⟨w, I2, J2, nw2, rfl, rfl, hm⟩ := hq
  refine z_aload_2 (pc := 1277) dL_law_1277 ?_
  refine z_aload_0 (pc := 1278) dL_law_1278 ?_
  refine z_iload_3 (pc := 1279) dL_law_1279 ?_
  refine z_iconst (pc := 1280) (1) dL_law_1280 rfl ?_
  refine z_iadd (pc := 1281) dL_law_1281 ?_
  refine z_sld (pc := 1282) dL_law_1282 (pk_in (i + 1) l.2.1 (by omega) (nI_add i 1) (by omega)) ?_
  refine z_V1 (pc := 1283) dL_law_1283 mlL_147 kX9_trace vX9_trace (by decide) (by decide) (by first | rfl | assumption) (Nat.le_of_ble_eq_true rfl) (hm) ⟨Nat.le_refl _, Nat.le_refl _⟩ (fun r h1 hq => ?_)
  obtain ⟨rfl, I3, J3, nw3, rfl, hR3⟩ := hq
  refine z_icmp_eq (pc := 1286) (tgt := 1327) dL_law_1286 (by decide) (fun c1286 => ?_) (fun c1286 => ?_)
  · skip
    exact hQ I3 J3 nw3 hR3
  · exact absurd rfl c1286
set_option maxRecDepth 100000 in
set_option maxHeartbeats 4000000 in
theorem lc_count {l : zL} {I : Nat → Nat → Int32} {J : Nat → Nat → Int64} {nw : Bool} (h : Rel I I) (i : Nat) (hi : i + 6 ≤ l.2.1) (hL : l.2.1 ≤ 384) {Q : Option Value → zH → Prop} (hQ : ∀ (I : Nat → Nat → Int32) (J : Nat → Nat → Int64) (nw : Bool), Rel I I → zW l mL_law SH.length (zsl SH) 1327 [.ref 10002, .ref 0, .ref 85, .int (nI i)] [] (I, J, RF nw, SH) Q) : zW l mL_law SH.length (zsl SH) 1291 [.ref 10002, .ref 0, .ref 85, .int (nI i)] [] (I, J, RF nw, SH) Q := by
  refine z_aload_1 (pc := 1291) dL_law_1291 ?_
  refine z_aload_0 (pc := 1292) dL_law_1292 ?_
  refine z_iload_3 (pc := 1293) dL_law_1293 ?_
  refine z_iconst (pc := 1294) (1) dL_law_1294 rfl ?_
  refine z_iadd (pc := 1295) dL_law_1295 ?_
  refine z_sld (pc := 1296) dL_law_1296 (pk_in (i + 1) l.2.1 (by omega) (nI_add i 1) (by omega)) ?_
  refine z_V1 (pc := 1297) dL_law_1297 mlL_148 kX8_count vX8_count (by decide) (by decide) (by first | rfl | assumption) (Nat.le_of_ble_eq_true rfl) (s_count h) ⟨Nat.le_refl _, Nat.le_refl _⟩ (fun r h1 hq => ?_)
  obtain ⟨w, I2, J2, nw2, rfl, rfl, hm⟩ := hq
  refine z_aload_2 (pc := 1300) dL_law_1300 ?_
  refine z_aload_0 (pc := 1301) dL_law_1301 ?_
  refine z_iload_3 (pc := 1302) dL_law_1302 ?_
  refine z_iconst (pc := 1303) (1) dL_law_1303 rfl ?_
  refine z_iadd (pc := 1304) dL_law_1304 ?_
  refine z_sld (pc := 1305) dL_law_1305 (pk_in (i + 1) l.2.1 (by omega) (nI_add i 1) (by omega)) ?_
  refine z_V1 (pc := 1306) dL_law_1306 mlL_151 kX9_count vX9_count (by decide) (by decide) (by first | rfl | assumption) (Nat.le_of_ble_eq_true rfl) (hm) ⟨Nat.le_refl _, Nat.le_refl _⟩ (fun r h1 hq => ?_)
  obtain ⟨rfl, I3, J3, nw3, rfl, hR3⟩ := hq
  refine z_icmp_eq (pc := 1309) (tgt := 1327) dL_law_1309 (by decide) (fun c1309 => ?_) (fun c1309 => ?_)
  · skip
    exact hQ I3 J3 nw3 hR3
  · exact absurd rfl c1309
set_option maxRecDepth 100000 in
set_option maxHeartbeats 4000000 in
theorem lc_status {l : zL} {I : Nat → Nat → Int32} {J : Nat → Nat → Int64} {nw : Bool} (h : Rel I I) (i : Nat) (hi : i + 6 ≤ l.2.1) (hL : l.2.1 ≤ 384) {Q : Option Value → zH → Prop} (hQ : ∀ (I : Nat → Nat → Int32) (J : Nat → Nat → Int64) (nw : Bool), Rel I I → zW l mL_law SH.length (zsl SH) 1327 [.ref 10002, .ref 0, .ref 85, .int (nI i)] [] (I, J, RF nw, SH) Q) : zW l mL_law SH.length (zsl SH) 1314 [.ref 10002, .ref 0, .ref 85, .int (nI i)] [] (I, J, RF nw, SH) Q := by
  refine z_aload_1 (pc := 1314) dL_law_1314 ?_
  refine z_V0 (pc := 1315) dL_law_1315 mlL_152 kX8_status vX8_status (by decide) (by decide) (by first | rfl | assumption) (Nat.le_of_ble_eq_true rfl) (s_status h) ⟨Nat.le_refl _, Nat.le_refl _⟩ (fun r h1 hq => ?_)
  obtain ⟨w, I2, J2, nw2, rfl, rfl, hm⟩ := hq
  refine z_aload_2 (pc := 1318) dL_law_1318 ?_
  refine z_V0 (pc := 1319) dL_law_1319 mlL_155 kX9_status vX9_status (by decide) (by decide) (by first | rfl | assumption) (Nat.le_of_ble_eq_true rfl) (hm) ⟨Nat.le_refl _, Nat.le_refl _⟩ (fun r h1 hq => ?_)
  obtain ⟨rfl, I3, J3, nw3, rfl, hR3⟩ := hq
  refine z_icmp_eq (pc := 1322) (tgt := 1327) dL_law_1322 (by decide) (fun c1322 => ?_) (fun c1322 => ?_)
  · skip
    exact hQ I3 J3 nw3 hR3
  · exact absurd rfl c1322
theorem case34 {j : Nat} (h : j < 64) : j = 0 ∨ j = 1 ∨ j = 2 ∨ j = 3 ∨ j = 4 ∨ j = 5 ∨ j = 6 ∨ j = 7 ∨ j = 8 ∨ j = 9 ∨ j = 10 ∨ j = 11 ∨ j = 12 ∨ j = 13 ∨ j = 14 ∨ j = 15 ∨ j = 16 ∨ j = 17 ∨ j = 18 ∨ j = 19 ∨ j = 20 ∨ j = 21 ∨ j = 22 ∨ j = 23 ∨ j = 24 ∨ j = 25 ∨ j = 26 ∨ j = 27 ∨ j = 28 ∨ j = 29 ∨ j = 30 ∨ j = 31 ∨ j = 32 ∨ j = 33 ∨ 34 ≤ j := by omega
theorem law_in {L i : Nat} (hL : L ≤ 384) (hi : i ≤ 1000) (c : ¬ nI L - 6 < nI i) : i + 6 ≤ L := by
  rw [Int32.lt_iff_toInt_lt, show (nI L - 6 : Int32) = nI L - nI 6 from rfl, pk_sub_toInt (by omega) (by decide), nI_toInt (by omega)] at c
  omega
set_option maxRecDepth 100000 in
set_option maxHeartbeats 4000000 in
theorem law_loop {l : zL} (hL : l.2.1 ≤ 384) : ∀ (f i : Nat) (I : Nat → Nat → Int32) (J : Nat → Nat → Int64) (nw : Bool), Rel I I → i ≤ 1000 → 1000 - i < f →
    zW l mL_law SH.length (zsl SH) 18 [.ref 10002, .ref 0, .ref 85, .int (nI i)] [] (I, J, RF nw, SH) (fun r _ => r = some (.int 1))
  | 0, i, _, _, _, _, _, hf => by omega
  | f + 1, i, I, J, nw, h, hi, hf => by
    refine z_iload_3 (pc := 18) dL_law_18 ?_
    refine z_aload_0 (pc := 19) dL_law_19 ?_
    refine z_slen (pc := 20) dL_law_20 ?_
    refine z_bipush (pc := 21) (6) dL_law_21 rfl ?_
    refine z_isub (pc := 23) dL_law_23 ?_
    refine z_icmp_gt (pc := 24) (tgt := 1333) dL_law_24 (by decide) (fun c24 => ?_) (fun c24 => ?_)
    · skip
      refine z_iconst (pc := 1333) (1) dL_law_1333 rfl ?_
      refine z_ret (pc := 1334) (r := some (.int _)) rfl dL_law_1334 (by first | exact Or.inl rfl | exact Or.inr rfl | assumption) rfl rfl ?_
      rfl
    · skip
      have hin := law_in hL hi c24
      have hQ : ∀ (I : Nat → Nat → Int32) (J : Nat → Nat → Int64) (nw : Bool), Rel I I → zW l mL_law SH.length (zsl SH) 1327 [.ref 10002, .ref 0, .ref 85, .int (nI i)] [] (I, J, RF nw, SH) (fun r _ => r = some (.int 1)) := by
        intro I J nw hR
        refine z_iinc_3 (pc := 1327) (6) dL_law_1327 rfl (by decide) rfl ?_
        refine z_goto (pc := 1330) (tgt := 18) dL_law_1330 (by decide) ?_
        rw [show nI i + 6 = nI (i + 6) from nI_add i 6]
        exact law_loop hL f (i + 6) I J nw hR (by omega) (by omega)
      refine z_aload_0 (pc := 27) dL_law_27 ?_
      refine z_iload_3 (pc := 28) dL_law_28 ?_
      refine z_sld (pc := 29) dL_law_29 (pk_in i l.2.1 (by omega) rfl (by omega)) ?_
      refine z_bipush (pc := 30) (63) dL_law_30 rfl ?_
      refine z_iand (pc := 32) dL_law_32 ?_
      obtain ⟨j, hj, ej⟩ := pk_andE (l.2.2 (nI i).toNatClampNeg) (m := 63) 6 (by decide)
      rw [ej]
      rcases case34 hj with rfl | rfl | rfl | rfl | rfl | rfl | rfl | rfl | rfl | rfl | rfl | rfl | rfl | rfl | rfl | rfl | rfl | rfl | rfl | rfl | rfl | rfl | rfl | rfl | rfl | rfl | rfl | rfl | rfl | rfl | rfl | rfl | rfl | rfl | hj34
      · skip
        refine z_tableIn (pc := 33) (tgt := 184) dL_law_33 (by decide) (by decide) rfl (by decide) ?_
        exact lc_row h i hin hL hQ
      · skip
        refine z_tableIn (pc := 33) (tgt := 227) dL_law_33 (by decide) (by decide) rfl (by decide) ?_
        exact lc_set h i hin hL hQ
      · skip
        refine z_tableIn (pc := 33) (tgt := 270) dL_law_33 (by decide) (by decide) rfl (by decide) ?_
        exact lc_copy h i hin hL hQ
      · skip
        refine z_tableIn (pc := 33) (tgt := 333) dL_law_33 (by decide) (by decide) rfl (by decide) ?_
        exact lc_drop h i hin hL hQ
      · skip
        refine z_tableIn (pc := 33) (tgt := 356) dL_law_33 (by decide) (by decide) rfl (by decide) ?_
        exact lc_feed h i hin hL hQ
      · skip
        refine z_tableIn (pc := 33) (tgt := 379) dL_law_33 (by decide) (by decide) rfl (by decide) ?_
        exact lc_town h i hin hL hQ
      · skip
        refine z_tableIn (pc := 33) (tgt := 392) dL_law_33 (by decide) (by decide) rfl (by decide) ?_
        exact lc_fault h i hin hL hQ
      · skip
        refine z_tableIn (pc := 33) (tgt := 405) dL_law_33 (by decide) (by decide) rfl (by decide) ?_
        exact lc_undo h i hin hL hQ
      · skip
        refine z_tableIn (pc := 33) (tgt := 418) dL_law_33 (by decide) (by decide) rfl (by decide) ?_
        exact lc_brew h i hin hL hQ
      · skip
        refine z_tableIn (pc := 33) (tgt := 451) dL_law_33 (by decide) (by decide) rfl (by decide) ?_
        exact lc_days h i hin hL hQ
      · skip
        refine z_tableIn (pc := 33) (tgt := 474) dL_law_33 (by decide) (by decide) rfl (by decide) ?_
        exact lc_tap h i hin hL hQ
      · skip
        refine z_tableIn (pc := 33) (tgt := 507) dL_law_33 (by decide) (by decide) rfl (by decide) ?_
        exact lc_water h i hin hL hQ
      · skip
        refine z_tableIn (pc := 33) (tgt := 530) dL_law_33 (by decide) (by decide) rfl (by decide) ?_
        exact lc_blend h i hin hL hQ
      · skip
        refine z_tableIn (pc := 33) (tgt := 563) dL_law_33 (by decide) (by decide) rfl (by decide) ?_
        exact lc_cask h i hin hL hQ
      · skip
        refine z_tableIn (pc := 33) (tgt := 596) dL_law_33 (by decide) (by decide) rfl (by decide) ?_
        exact lc_drinker h i hin hL hQ
      · skip
        refine z_tableIn (pc := 33) (tgt := 629) dL_law_33 (by decide) (by decide) rfl (by decide) ?_
        exact lc_rumour h i hin hL hQ
      · skip
        refine z_tableIn (pc := 33) (tgt := 652) dL_law_33 (by decide) (by decide) rfl (by decide) ?_
        exact lc_telling h i hin hL hQ
      · skip
        refine z_tableIn (pc := 33) (tgt := 695) dL_law_33 (by decide) (by decide) rfl (by decide) ?_
        exact lc_fewest h i hin hL hQ
      · skip
        refine z_tableIn (pc := 33) (tgt := 748) dL_law_33 (by decide) (by decide) rfl (by decide) ?_
        exact lc_silence h i hin hL hQ
      · skip
        refine z_tableIn (pc := 33) (tgt := 801) dL_law_33 (by decide) (by decide) rfl (by decide) ?_
        exact lc_malts h i hin hL hQ
      · skip
        refine z_tableIn (pc := 33) (tgt := 854) dL_law_33 (by decide) (by decide) rfl (by decide) ?_
        exact lc_who h i hin hL hQ
      · skip
        refine z_tableIn (pc := 33) (tgt := 917) dL_law_33 (by decide) (by decide) rfl (by decide) ?_
        exact lc_goesOff h i hin hL hQ
      · skip
        refine z_tableIn (pc := 33) (tgt := 950) dL_law_33 (by decide) (by decide) rfl (by decide) ?_
        exact lc_best h i hin hL hQ
      · skip
        refine z_tableIn (pc := 33) (tgt := 983) dL_law_33 (by decide) (by decide) rfl (by decide) ?_
        exact lc_blended h i hin hL hQ
      · skip
        refine z_tableIn (pc := 33) (tgt := 1026) dL_law_33 (by decide) (by decide) rfl (by decide) ?_
        exact lc_silent h i hin hL hQ
      · skip
        refine z_tableIn (pc := 33) (tgt := 1090) dL_law_33 (by decide) (by decide) rfl (by decide) ?_
        exact lc_drawn h i hin hL hQ
      · skip
        refine z_tableIn (pc := 33) (tgt := 1133) dL_law_33 (by decide) (by decide) rfl (by decide) ?_
        exact lc_image h i hin hL hQ
      · skip
        refine z_tableIn (pc := 33) (tgt := 1156) dL_law_33 (by decide) (by decide) rfl (by decide) ?_
        exact lc_restore h i hin hL hQ
      · skip
        refine z_tableIn (pc := 33) (tgt := 1179) dL_law_33 (by decide) (by decide) rfl (by decide) ?_
        exact lc_kind h i hin hL hQ
      · skip
        refine z_tableIn (pc := 33) (tgt := 1202) dL_law_33 (by decide) (by decide) rfl (by decide) ?_
        exact lc_as h i hin hL hQ
      · skip
        refine z_tableIn (pc := 33) (tgt := 1235) dL_law_33 (by decide) (by decide) rfl (by decide) ?_
        exact lc_ask h i hin hL hQ
      · skip
        refine z_tableIn (pc := 33) (tgt := 1268) dL_law_33 (by decide) (by decide) rfl (by decide) ?_
        exact lc_trace h i hin hL hQ
      · skip
        refine z_tableIn (pc := 33) (tgt := 1291) dL_law_33 (by decide) (by decide) rfl (by decide) ?_
        exact lc_count h i hin hL hQ
      · skip
        refine z_tableIn (pc := 33) (tgt := 1314) dL_law_33 (by decide) (by decide) rfl (by decide) ?_
        exact lc_status h i hin hL hQ
      · skip
        refine z_tableOut (pc := 33) (tgt := 1327) dL_law_33 (Or.inr (by rw [nI_toInt (by omega)]; omega)) (by decide) ?_
        exact hQ I J nw h
