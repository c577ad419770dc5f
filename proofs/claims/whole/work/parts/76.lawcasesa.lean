/-! the cases of the law, one -/
set_option maxHeartbeats 2000000 in
set_option maxRecDepth 20000 in
theorem lc_pupil {X : CT} {b L k : Nat} {xs : Nat → Int32} {h : Hp} (hX : Cx 21 ML_law X) (hSC : SCR b L xs X) (hL : L ≤ 3072) (hk : 6 * k + 6 ≤ L) (g : REL h) (cont : ∀ g, REL g → ∀ l5 l6, VW X 1034 (LSl k l5 l6) [] g) (l5 l6 : Option MV) : VW X 152 (LSl k l5 l6) [] h := by
  have g0 := g
  refine v_aload_n hX eL_law_152 rfl ?_
  refine v_aload_n hX eL_law_153 rfl ?_
  refine v_iload hX eL_law_154 rfl ?_
  refine v_iconst hX eL_law_156 ?_
  refine v_iadd hX eL_law_157 ?_
  refine v_sld hX hSC hL eL_law_158 ⟨by omega, by omega⟩ ?_
  try simp only [Int.toNat_natCast, Int.toNat_zero, Int.reduceToNat]
  refine v_frV hX eL_law_159 lV_L_23 ok_MX7_pupil ⟨by decide, rfl⟩ rfl ⟨rfl, Nat.le_of_ble_eq_true rfl⟩ (Nat.le_of_ble_eq_true rfl) (ag_pupil g (sv_rng _ _) 0) rfl ?_
  rintro r g1 ⟨z, rfl, hm⟩
  show VW X 162 _ [mI z] g1
  refine v_aload_n hX eL_law_162 rfl ?_
  refine v_aload_n hX eL_law_163 rfl ?_
  refine v_iload hX eL_law_164 rfl ?_
  refine v_iconst hX eL_law_166 ?_
  refine v_iadd hX eL_law_167 ?_
  refine v_sld hX hSC hL eL_law_168 ⟨by omega, by omega⟩ ?_
  try simp only [Int.toNat_natCast, Int.toNat_zero, Int.reduceToNat]
  refine v_frV hX eL_law_169 lV_L_26 ok_MX8_pupil ⟨by decide, rfl⟩ rfl ⟨rfl, Nat.le_of_ble_eq_true rfl⟩ (Nat.le_of_ble_eq_true rfl) (hm) rfl ?_
  rintro r2 g2 ⟨rfl, rel⟩
  exact v_icmp_same hX eL_law_172 (tgt := 1034) rfl (cont _ rel _ _)
set_option maxHeartbeats 2000000 in
set_option maxRecDepth 20000 in
theorem lc_project {X : CT} {b L k : Nat} {xs : Nat → Int32} {h : Hp} (hX : Cx 21 ML_law X) (hSC : SCR b L xs X) (hL : L ≤ 3072) (hk : 6 * k + 6 ≤ L) (g : REL h) (cont : ∀ g, REL g → ∀ l5 l6, VW X 1034 (LSl k l5 l6) [] g) (l5 l6 : Option MV) : VW X 177 (LSl k l5 l6) [] h := by
  have g0 := g
  refine v_aload_n hX eL_law_177 rfl ?_
  refine v_aload_n hX eL_law_178 rfl ?_
  refine v_iload hX eL_law_179 rfl ?_
  refine v_iconst hX eL_law_181 ?_
  refine v_iadd hX eL_law_182 ?_
  refine v_sld hX hSC hL eL_law_183 ⟨by omega, by omega⟩ ?_
  try simp only [Int.toNat_natCast, Int.toNat_zero, Int.reduceToNat]
  refine v_aload_n hX eL_law_184 rfl ?_
  refine v_iload hX eL_law_185 rfl ?_
  refine v_iconst hX eL_law_187 ?_
  refine v_iadd hX eL_law_188 ?_
  refine v_sld hX hSC hL eL_law_189 ⟨by omega, by omega⟩ ?_
  try simp only [Int.toNat_natCast, Int.toNat_zero, Int.reduceToNat]
  refine v_aload_n hX eL_law_190 rfl ?_
  refine v_iload hX eL_law_191 rfl ?_
  refine v_iconst hX eL_law_193 ?_
  refine v_iadd hX eL_law_194 ?_
  refine v_sld hX hSC hL eL_law_195 ⟨by omega, by omega⟩ ?_
  try simp only [Int.toNat_natCast, Int.toNat_zero, Int.reduceToNat]
  refine v_aload_n hX eL_law_196 rfl ?_
  refine v_iload hX eL_law_197 rfl ?_
  refine v_iconst hX eL_law_199 ?_
  refine v_iadd hX eL_law_200 ?_
  refine v_sld hX hSC hL eL_law_201 ⟨by omega, by omega⟩ ?_
  try simp only [Int.toNat_natCast, Int.toNat_zero, Int.reduceToNat]
  refine v_aload_n hX eL_law_202 rfl ?_
  refine v_iload hX eL_law_203 rfl ?_
  refine v_iconst hX eL_law_205 ?_
  refine v_iadd hX eL_law_206 ?_
  refine v_sld hX hSC hL eL_law_207 ⟨by omega, by omega⟩ ?_
  try simp only [Int.toNat_natCast, Int.toNat_zero, Int.reduceToNat]
  refine v_frV hX eL_law_208 lV_L_27 ok_MX7_project ⟨by decide, rfl⟩ rfl ⟨rfl, Nat.le_of_ble_eq_true rfl⟩ (Nat.le_of_ble_eq_true rfl) (ag_project g (sv_rng _ _) (sv_rng _ _) (sv_rng _ _) (sv_rng _ _) (sv_rng _ _) 0) rfl ?_
  rintro r g1 ⟨z, rfl, hm⟩
  show VW X 211 _ [mI z] g1
  refine v_aload_n hX eL_law_211 rfl ?_
  refine v_aload_n hX eL_law_212 rfl ?_
  refine v_iload hX eL_law_213 rfl ?_
  refine v_iconst hX eL_law_215 ?_
  refine v_iadd hX eL_law_216 ?_
  refine v_sld hX hSC hL eL_law_217 ⟨by omega, by omega⟩ ?_
  try simp only [Int.toNat_natCast, Int.toNat_zero, Int.reduceToNat]
  refine v_aload_n hX eL_law_218 rfl ?_
  refine v_iload hX eL_law_219 rfl ?_
  refine v_iconst hX eL_law_221 ?_
  refine v_iadd hX eL_law_222 ?_
  refine v_sld hX hSC hL eL_law_223 ⟨by omega, by omega⟩ ?_
  try simp only [Int.toNat_natCast, Int.toNat_zero, Int.reduceToNat]
  refine v_aload_n hX eL_law_224 rfl ?_
  refine v_iload hX eL_law_225 rfl ?_
  refine v_iconst hX eL_law_227 ?_
  refine v_iadd hX eL_law_228 ?_
  refine v_sld hX hSC hL eL_law_229 ⟨by omega, by omega⟩ ?_
  try simp only [Int.toNat_natCast, Int.toNat_zero, Int.reduceToNat]
  refine v_aload_n hX eL_law_230 rfl ?_
  refine v_iload hX eL_law_231 rfl ?_
  refine v_iconst hX eL_law_233 ?_
  refine v_iadd hX eL_law_234 ?_
  refine v_sld hX hSC hL eL_law_235 ⟨by omega, by omega⟩ ?_
  try simp only [Int.toNat_natCast, Int.toNat_zero, Int.reduceToNat]
  refine v_aload_n hX eL_law_236 rfl ?_
  refine v_iload hX eL_law_237 rfl ?_
  refine v_iconst hX eL_law_239 ?_
  refine v_iadd hX eL_law_240 ?_
  refine v_sld hX hSC hL eL_law_241 ⟨by omega, by omega⟩ ?_
  try simp only [Int.toNat_natCast, Int.toNat_zero, Int.reduceToNat]
  refine v_frV hX eL_law_242 lV_L_31 ok_MX8_project ⟨by decide, rfl⟩ rfl ⟨rfl, Nat.le_of_ble_eq_true rfl⟩ (Nat.le_of_ble_eq_true rfl) (hm) rfl ?_
  rintro r2 g2 ⟨rfl, rel⟩
  exact v_icmp_same hX eL_law_245 (tgt := 1034) rfl (cont _ rel _ _)
set_option maxHeartbeats 2000000 in
set_option maxRecDepth 20000 in
theorem lc_wish {X : CT} {b L k : Nat} {xs : Nat → Int32} {h : Hp} (hX : Cx 21 ML_law X) (hSC : SCR b L xs X) (hL : L ≤ 3072) (hk : 6 * k + 6 ≤ L) (g : REL h) (cont : ∀ g, REL g → ∀ l5 l6, VW X 1034 (LSl k l5 l6) [] g) (l5 l6 : Option MV) : VW X 250 (LSl k l5 l6) [] h := by
  have g0 := g
  refine v_aload_n hX eL_law_250 rfl ?_
  refine v_aload_n hX eL_law_251 rfl ?_
  refine v_iload hX eL_law_252 rfl ?_
  refine v_iconst hX eL_law_254 ?_
  refine v_iadd hX eL_law_255 ?_
  refine v_sld hX hSC hL eL_law_256 ⟨by omega, by omega⟩ ?_
  try simp only [Int.toNat_natCast, Int.toNat_zero, Int.reduceToNat]
  refine v_aload_n hX eL_law_257 rfl ?_
  refine v_iload hX eL_law_258 rfl ?_
  refine v_iconst hX eL_law_260 ?_
  refine v_iadd hX eL_law_261 ?_
  refine v_sld hX hSC hL eL_law_262 ⟨by omega, by omega⟩ ?_
  try simp only [Int.toNat_natCast, Int.toNat_zero, Int.reduceToNat]
  refine v_frV hX eL_law_263 lV_L_32 ok_MX7_wish ⟨by decide, rfl⟩ rfl ⟨rfl, Nat.le_of_ble_eq_true rfl⟩ (Nat.le_of_ble_eq_true rfl) (ag_wish g (sv_rng _ _) (sv_rng _ _) 0) rfl ?_
  rintro r g1 ⟨z, rfl, hm⟩
  show VW X 266 _ [mI z] g1
  refine v_aload_n hX eL_law_266 rfl ?_
  refine v_aload_n hX eL_law_267 rfl ?_
  refine v_iload hX eL_law_268 rfl ?_
  refine v_iconst hX eL_law_270 ?_
  refine v_iadd hX eL_law_271 ?_
  refine v_sld hX hSC hL eL_law_272 ⟨by omega, by omega⟩ ?_
  try simp only [Int.toNat_natCast, Int.toNat_zero, Int.reduceToNat]
  refine v_aload_n hX eL_law_273 rfl ?_
  refine v_iload hX eL_law_274 rfl ?_
  refine v_iconst hX eL_law_276 ?_
  refine v_iadd hX eL_law_277 ?_
  refine v_sld hX hSC hL eL_law_278 ⟨by omega, by omega⟩ ?_
  try simp only [Int.toNat_natCast, Int.toNat_zero, Int.reduceToNat]
  refine v_frV hX eL_law_279 lV_L_35 ok_MX8_wish ⟨by decide, rfl⟩ rfl ⟨rfl, Nat.le_of_ble_eq_true rfl⟩ (Nat.le_of_ble_eq_true rfl) (hm) rfl ?_
  rintro r2 g2 ⟨rfl, rel⟩
  exact v_icmp_same hX eL_law_282 (tgt := 1034) rfl (cont _ rel _ _)
set_option maxHeartbeats 2000000 in
set_option maxRecDepth 20000 in
theorem lc_wishes {X : CT} {b L k : Nat} {xs : Nat → Int32} {h : Hp} (hX : Cx 21 ML_law X) (hSC : SCR b L xs X) (hL : L ≤ 3072) (hk : 6 * k + 6 ≤ L) (g : REL h) (cont : ∀ g, REL g → ∀ l5 l6, VW X 1034 (LSl k l5 l6) [] g) (l5 l6 : Option MV) : VW X 287 (LSl k l5 l6) [] h := by
  have g0 := g
  refine v_aload_n hX eL_law_287 rfl ?_
  refine v_aload_n hX eL_law_288 rfl ?_
  refine v_iload hX eL_law_289 rfl ?_
  refine v_iconst hX eL_law_291 ?_
  refine v_iadd hX eL_law_292 ?_
  refine v_sld hX hSC hL eL_law_293 ⟨by omega, by omega⟩ ?_
  try simp only [Int.toNat_natCast, Int.toNat_zero, Int.reduceToNat]
  refine v_aload_n hX eL_law_294 rfl ?_
  refine v_iload hX eL_law_295 rfl ?_
  refine v_iconst hX eL_law_297 ?_
  refine v_iadd hX eL_law_298 ?_
  refine v_sld hX hSC hL eL_law_299 ⟨by omega, by omega⟩ ?_
  try simp only [Int.toNat_natCast, Int.toNat_zero, Int.reduceToNat]
  refine v_aload_n hX eL_law_300 rfl ?_
  refine v_iload hX eL_law_301 rfl ?_
  refine v_iconst hX eL_law_303 ?_
  refine v_iadd hX eL_law_304 ?_
  refine v_sld hX hSC hL eL_law_305 ⟨by omega, by omega⟩ ?_
  try simp only [Int.toNat_natCast, Int.toNat_zero, Int.reduceToNat]
  refine v_aload_n hX eL_law_306 rfl ?_
  refine v_iload hX eL_law_307 rfl ?_
  refine v_iconst hX eL_law_309 ?_
  refine v_iadd hX eL_law_310 ?_
  refine v_sld hX hSC hL eL_law_311 ⟨by omega, by omega⟩ ?_
  try simp only [Int.toNat_natCast, Int.toNat_zero, Int.reduceToNat]
  refine v_aload_n hX eL_law_312 rfl ?_
  refine v_iload hX eL_law_313 rfl ?_
  refine v_iconst hX eL_law_315 ?_
  refine v_iadd hX eL_law_316 ?_
  refine v_sld hX hSC hL eL_law_317 ⟨by omega, by omega⟩ ?_
  try simp only [Int.toNat_natCast, Int.toNat_zero, Int.reduceToNat]
  refine v_frV hX eL_law_318 lV_L_36 ok_MX7_wishes ⟨by decide, rfl⟩ rfl ⟨rfl, Nat.le_of_ble_eq_true rfl⟩ (Nat.le_of_ble_eq_true rfl) (ag_wishes g (sv_rng _ _) (sv_rng _ _) (sv_rng _ _) (sv_rng _ _) (sv_rng _ _) 0) rfl ?_
  rintro r g1 ⟨z, rfl, hm⟩
  show VW X 321 _ [mI z] g1
  refine v_aload_n hX eL_law_321 rfl ?_
  refine v_aload_n hX eL_law_322 rfl ?_
  refine v_iload hX eL_law_323 rfl ?_
  refine v_iconst hX eL_law_325 ?_
  refine v_iadd hX eL_law_326 ?_
  refine v_sld hX hSC hL eL_law_327 ⟨by omega, by omega⟩ ?_
  try simp only [Int.toNat_natCast, Int.toNat_zero, Int.reduceToNat]
  refine v_aload_n hX eL_law_328 rfl ?_
  refine v_iload hX eL_law_329 rfl ?_
  refine v_iconst hX eL_law_331 ?_
  refine v_iadd hX eL_law_332 ?_
  refine v_sld hX hSC hL eL_law_333 ⟨by omega, by omega⟩ ?_
  try simp only [Int.toNat_natCast, Int.toNat_zero, Int.reduceToNat]
  refine v_aload_n hX eL_law_334 rfl ?_
  refine v_iload hX eL_law_335 rfl ?_
  refine v_iconst hX eL_law_337 ?_
  refine v_iadd hX eL_law_338 ?_
  refine v_sld hX hSC hL eL_law_339 ⟨by omega, by omega⟩ ?_
  try simp only [Int.toNat_natCast, Int.toNat_zero, Int.reduceToNat]
  refine v_aload_n hX eL_law_340 rfl ?_
  refine v_iload hX eL_law_341 rfl ?_
  refine v_iconst hX eL_law_343 ?_
  refine v_iadd hX eL_law_344 ?_
  refine v_sld hX hSC hL eL_law_345 ⟨by omega, by omega⟩ ?_
  try simp only [Int.toNat_natCast, Int.toNat_zero, Int.reduceToNat]
  refine v_aload_n hX eL_law_346 rfl ?_
  refine v_iload hX eL_law_347 rfl ?_
  refine v_iconst hX eL_law_349 ?_
  refine v_iadd hX eL_law_350 ?_
  refine v_sld hX hSC hL eL_law_351 ⟨by omega, by omega⟩ ?_
  try simp only [Int.toNat_natCast, Int.toNat_zero, Int.reduceToNat]
  refine v_frV hX eL_law_352 lV_L_39 ok_MX8_wishes ⟨by decide, rfl⟩ rfl ⟨rfl, Nat.le_of_ble_eq_true rfl⟩ (Nat.le_of_ble_eq_true rfl) (hm) rfl ?_
  rintro r2 g2 ⟨rfl, rel⟩
  exact v_icmp_same hX eL_law_355 (tgt := 1034) rfl (cont _ rel _ _)
set_option maxHeartbeats 2000000 in
set_option maxRecDepth 20000 in
theorem lc_friends {X : CT} {b L k : Nat} {xs : Nat → Int32} {h : Hp} (hX : Cx 21 ML_law X) (hSC : SCR b L xs X) (hL : L ≤ 3072) (hk : 6 * k + 6 ≤ L) (g : REL h) (cont : ∀ g, REL g → ∀ l5 l6, VW X 1034 (LSl k l5 l6) [] g) (l5 l6 : Option MV) : VW X 360 (LSl k l5 l6) [] h := by
  have g0 := g
  refine v_aload_n hX eL_law_360 rfl ?_
  refine v_aload_n hX eL_law_361 rfl ?_
  refine v_iload hX eL_law_362 rfl ?_
  refine v_iconst hX eL_law_364 ?_
  refine v_iadd hX eL_law_365 ?_
  refine v_sld hX hSC hL eL_law_366 ⟨by omega, by omega⟩ ?_
  try simp only [Int.toNat_natCast, Int.toNat_zero, Int.reduceToNat]
  refine v_aload_n hX eL_law_367 rfl ?_
  refine v_iload hX eL_law_368 rfl ?_
  refine v_iconst hX eL_law_370 ?_
  refine v_iadd hX eL_law_371 ?_
  refine v_sld hX hSC hL eL_law_372 ⟨by omega, by omega⟩ ?_
  try simp only [Int.toNat_natCast, Int.toNat_zero, Int.reduceToNat]
  refine v_aload_n hX eL_law_373 rfl ?_
  refine v_iload hX eL_law_374 rfl ?_
  refine v_iconst hX eL_law_376 ?_
  refine v_iadd hX eL_law_377 ?_
  refine v_sld hX hSC hL eL_law_378 ⟨by omega, by omega⟩ ?_
  try simp only [Int.toNat_natCast, Int.toNat_zero, Int.reduceToNat]
  refine v_if_eq hX eL_law_379 (tgt := 386) rfl (sv_rng _ _) (fun c379 => ?_) (fun c379 => ?_)
  · refine v_iconst hX eL_law_386 ?_
    refine v_frV hX eL_law_387 lV_L_40 ok_MX7_friends ⟨by decide, rfl⟩ rfl ⟨rfl, Nat.le_of_ble_eq_true rfl⟩ (Nat.le_of_ble_eq_true rfl) (ag_friends g (sv_rng _ _) (sv_rng _ _) (by omega) 0) rfl ?_
    rintro r g1 ⟨z, rfl, hm⟩
    show VW X 390 _ [mI z] g1
    refine v_aload_n hX eL_law_390 rfl ?_
    refine v_aload_n hX eL_law_391 rfl ?_
    refine v_iload hX eL_law_392 rfl ?_
    refine v_iconst hX eL_law_394 ?_
    refine v_iadd hX eL_law_395 ?_
    refine v_sld hX hSC hL eL_law_396 ⟨by omega, by omega⟩ ?_
    try simp only [Int.toNat_natCast, Int.toNat_zero, Int.reduceToNat]
    refine v_aload_n hX eL_law_397 rfl ?_
    refine v_iload hX eL_law_398 rfl ?_
    refine v_iconst hX eL_law_400 ?_
    refine v_iadd hX eL_law_401 ?_
    refine v_sld hX hSC hL eL_law_402 ⟨by omega, by omega⟩ ?_
    try simp only [Int.toNat_natCast, Int.toNat_zero, Int.reduceToNat]
    refine v_aload_n hX eL_law_403 rfl ?_
    refine v_iload hX eL_law_404 rfl ?_
    refine v_iconst hX eL_law_406 ?_
    refine v_iadd hX eL_law_407 ?_
    refine v_sld hX hSC hL eL_law_408 ⟨by omega, by omega⟩ ?_
    try simp only [Int.toNat_natCast, Int.toNat_zero, Int.reduceToNat]
    refine v_if_eq hX eL_law_409 (tgt := 416) rfl (sv_rng _ _) (fun c409 => ?_) (fun c409 => False.elim ((c409 c379)))
    refine v_iconst hX eL_law_416 ?_
    refine v_frV hX eL_law_417 lV_L_44 ok_MX8_friends ⟨by decide, rfl⟩ rfl ⟨rfl, Nat.le_of_ble_eq_true rfl⟩ (Nat.le_of_ble_eq_true rfl) (hm) rfl ?_
    rintro r2 g2 ⟨rfl, rel⟩
    exact v_icmp_same hX eL_law_420 (tgt := 1034) rfl (cont _ rel _ _)
  · refine v_iconst hX eL_law_382 ?_
    refine v_goto hX eL_law_383 (tgt := 387) rfl ?_
    refine v_frV hX eL_law_387 lV_L_40 ok_MX7_friends ⟨by decide, rfl⟩ rfl ⟨rfl, Nat.le_of_ble_eq_true rfl⟩ (Nat.le_of_ble_eq_true rfl) (ag_friends g (sv_rng _ _) (sv_rng _ _) (by omega) 0) rfl ?_
    rintro r g1 ⟨z, rfl, hm⟩
    show VW X 390 _ [mI z] g1
    refine v_aload_n hX eL_law_390 rfl ?_
    refine v_aload_n hX eL_law_391 rfl ?_
    refine v_iload hX eL_law_392 rfl ?_
    refine v_iconst hX eL_law_394 ?_
    refine v_iadd hX eL_law_395 ?_
    refine v_sld hX hSC hL eL_law_396 ⟨by omega, by omega⟩ ?_
    try simp only [Int.toNat_natCast, Int.toNat_zero, Int.reduceToNat]
    refine v_aload_n hX eL_law_397 rfl ?_
    refine v_iload hX eL_law_398 rfl ?_
    refine v_iconst hX eL_law_400 ?_
    refine v_iadd hX eL_law_401 ?_
    refine v_sld hX hSC hL eL_law_402 ⟨by omega, by omega⟩ ?_
    try simp only [Int.toNat_natCast, Int.toNat_zero, Int.reduceToNat]
    refine v_aload_n hX eL_law_403 rfl ?_
    refine v_iload hX eL_law_404 rfl ?_
    refine v_iconst hX eL_law_406 ?_
    refine v_iadd hX eL_law_407 ?_
    refine v_sld hX hSC hL eL_law_408 ⟨by omega, by omega⟩ ?_
    try simp only [Int.toNat_natCast, Int.toNat_zero, Int.reduceToNat]
    refine v_if_eq hX eL_law_409 (tgt := 416) rfl (sv_rng _ _) (fun c409 => False.elim ((c379 c409))) (fun c409 => ?_)
    refine v_iconst hX eL_law_412 ?_
    refine v_goto hX eL_law_413 (tgt := 417) rfl ?_
    refine v_frV hX eL_law_417 lV_L_44 ok_MX8_friends ⟨by decide, rfl⟩ rfl ⟨rfl, Nat.le_of_ble_eq_true rfl⟩ (Nat.le_of_ble_eq_true rfl) (hm) rfl ?_
    rintro r2 g2 ⟨rfl, rel⟩
    exact v_icmp_same hX eL_law_420 (tgt := 1034) rfl (cont _ rel _ _)
set_option maxHeartbeats 2000000 in
set_option maxRecDepth 20000 in
theorem lc_apart {X : CT} {b L k : Nat} {xs : Nat → Int32} {h : Hp} (hX : Cx 21 ML_law X) (hSC : SCR b L xs X) (hL : L ≤ 3072) (hk : 6 * k + 6 ≤ L) (g : REL h) (cont : ∀ g, REL g → ∀ l5 l6, VW X 1034 (LSl k l5 l6) [] g) (l5 l6 : Option MV) : VW X 425 (LSl k l5 l6) [] h := by
  have g0 := g
  refine v_aload_n hX eL_law_425 rfl ?_
  refine v_aload_n hX eL_law_426 rfl ?_
  refine v_iload hX eL_law_427 rfl ?_
  refine v_iconst hX eL_law_429 ?_
  refine v_iadd hX eL_law_430 ?_
  refine v_sld hX hSC hL eL_law_431 ⟨by omega, by omega⟩ ?_
  try simp only [Int.toNat_natCast, Int.toNat_zero, Int.reduceToNat]
  refine v_aload_n hX eL_law_432 rfl ?_
  refine v_iload hX eL_law_433 rfl ?_
  refine v_iconst hX eL_law_435 ?_
  refine v_iadd hX eL_law_436 ?_
  refine v_sld hX hSC hL eL_law_437 ⟨by omega, by omega⟩ ?_
  try simp only [Int.toNat_natCast, Int.toNat_zero, Int.reduceToNat]
  refine v_aload_n hX eL_law_438 rfl ?_
  refine v_iload hX eL_law_439 rfl ?_
  refine v_iconst hX eL_law_441 ?_
  refine v_iadd hX eL_law_442 ?_
  refine v_sld hX hSC hL eL_law_443 ⟨by omega, by omega⟩ ?_
  try simp only [Int.toNat_natCast, Int.toNat_zero, Int.reduceToNat]
  refine v_if_eq hX eL_law_444 (tgt := 451) rfl (sv_rng _ _) (fun c444 => ?_) (fun c444 => ?_)
  · refine v_iconst hX eL_law_451 ?_
    refine v_frV hX eL_law_452 lV_L_45 ok_MX7_apart ⟨by decide, rfl⟩ rfl ⟨rfl, Nat.le_of_ble_eq_true rfl⟩ (Nat.le_of_ble_eq_true rfl) (ag_apart g (sv_rng _ _) (sv_rng _ _) (by omega) 0) rfl ?_
    rintro r g1 ⟨z, rfl, hm⟩
    show VW X 455 _ [mI z] g1
    refine v_aload_n hX eL_law_455 rfl ?_
    refine v_aload_n hX eL_law_456 rfl ?_
    refine v_iload hX eL_law_457 rfl ?_
    refine v_iconst hX eL_law_459 ?_
    refine v_iadd hX eL_law_460 ?_
    refine v_sld hX hSC hL eL_law_461 ⟨by omega, by omega⟩ ?_
    try simp only [Int.toNat_natCast, Int.toNat_zero, Int.reduceToNat]
    refine v_aload_n hX eL_law_462 rfl ?_
    refine v_iload hX eL_law_463 rfl ?_
    refine v_iconst hX eL_law_465 ?_
    refine v_iadd hX eL_law_466 ?_
    refine v_sld hX hSC hL eL_law_467 ⟨by omega, by omega⟩ ?_
    try simp only [Int.toNat_natCast, Int.toNat_zero, Int.reduceToNat]
    refine v_aload_n hX eL_law_468 rfl ?_
    refine v_iload hX eL_law_469 rfl ?_
    refine v_iconst hX eL_law_471 ?_
    refine v_iadd hX eL_law_472 ?_
    refine v_sld hX hSC hL eL_law_473 ⟨by omega, by omega⟩ ?_
    try simp only [Int.toNat_natCast, Int.toNat_zero, Int.reduceToNat]
    refine v_if_eq hX eL_law_474 (tgt := 481) rfl (sv_rng _ _) (fun c474 => ?_) (fun c474 => False.elim ((c474 c444)))
    refine v_iconst hX eL_law_481 ?_
    refine v_frV hX eL_law_482 lV_L_48 ok_MX8_apart ⟨by decide, rfl⟩ rfl ⟨rfl, Nat.le_of_ble_eq_true rfl⟩ (Nat.le_of_ble_eq_true rfl) (hm) rfl ?_
    rintro r2 g2 ⟨rfl, rel⟩
    exact v_icmp_same hX eL_law_485 (tgt := 1034) rfl (cont _ rel _ _)
  · refine v_iconst hX eL_law_447 ?_
    refine v_goto hX eL_law_448 (tgt := 452) rfl ?_
    refine v_frV hX eL_law_452 lV_L_45 ok_MX7_apart ⟨by decide, rfl⟩ rfl ⟨rfl, Nat.le_of_ble_eq_true rfl⟩ (Nat.le_of_ble_eq_true rfl) (ag_apart g (sv_rng _ _) (sv_rng _ _) (by omega) 0) rfl ?_
    rintro r g1 ⟨z, rfl, hm⟩
    show VW X 455 _ [mI z] g1
    refine v_aload_n hX eL_law_455 rfl ?_
    refine v_aload_n hX eL_law_456 rfl ?_
    refine v_iload hX eL_law_457 rfl ?_
    refine v_iconst hX eL_law_459 ?_
    refine v_iadd hX eL_law_460 ?_
    refine v_sld hX hSC hL eL_law_461 ⟨by omega, by omega⟩ ?_
    try simp only [Int.toNat_natCast, Int.toNat_zero, Int.reduceToNat]
    refine v_aload_n hX eL_law_462 rfl ?_
    refine v_iload hX eL_law_463 rfl ?_
    refine v_iconst hX eL_law_465 ?_
    refine v_iadd hX eL_law_466 ?_
    refine v_sld hX hSC hL eL_law_467 ⟨by omega, by omega⟩ ?_
    try simp only [Int.toNat_natCast, Int.toNat_zero, Int.reduceToNat]
    refine v_aload_n hX eL_law_468 rfl ?_
    refine v_iload hX eL_law_469 rfl ?_
    refine v_iconst hX eL_law_471 ?_
    refine v_iadd hX eL_law_472 ?_
    refine v_sld hX hSC hL eL_law_473 ⟨by omega, by omega⟩ ?_
    try simp only [Int.toNat_natCast, Int.toNat_zero, Int.reduceToNat]
    refine v_if_eq hX eL_law_474 (tgt := 481) rfl (sv_rng _ _) (fun c474 => False.elim ((c444 c474))) (fun c474 => ?_)
    refine v_iconst hX eL_law_477 ?_
    refine v_goto hX eL_law_478 (tgt := 482) rfl ?_
    refine v_frV hX eL_law_482 lV_L_48 ok_MX8_apart ⟨by decide, rfl⟩ rfl ⟨rfl, Nat.le_of_ble_eq_true rfl⟩ (Nat.le_of_ble_eq_true rfl) (hm) rfl ?_
    rintro r2 g2 ⟨rfl, rel⟩
    exact v_icmp_same hX eL_law_485 (tgt := 1034) rfl (cont _ rel _ _)
set_option maxHeartbeats 2000000 in
set_option maxRecDepth 20000 in
theorem lc_here {X : CT} {b L k : Nat} {xs : Nat → Int32} {h : Hp} (hX : Cx 21 ML_law X) (hSC : SCR b L xs X) (hL : L ≤ 3072) (hk : 6 * k + 6 ≤ L) (g : REL h) (cont : ∀ g, REL g → ∀ l5 l6, VW X 1034 (LSl k l5 l6) [] g) (l5 l6 : Option MV) : VW X 490 (LSl k l5 l6) [] h := by
  have g0 := g
  refine v_aload_n hX eL_law_490 rfl ?_
  refine v_aload_n hX eL_law_491 rfl ?_
  refine v_iload hX eL_law_492 rfl ?_
  refine v_iconst hX eL_law_494 ?_
  refine v_iadd hX eL_law_495 ?_
  refine v_sld hX hSC hL eL_law_496 ⟨by omega, by omega⟩ ?_
  try simp only [Int.toNat_natCast, Int.toNat_zero, Int.reduceToNat]
  refine v_aload_n hX eL_law_497 rfl ?_
  refine v_iload hX eL_law_498 rfl ?_
  refine v_iconst hX eL_law_500 ?_
  refine v_iadd hX eL_law_501 ?_
  refine v_sld hX hSC hL eL_law_502 ⟨by omega, by omega⟩ ?_
  try simp only [Int.toNat_natCast, Int.toNat_zero, Int.reduceToNat]
  refine v_if_eq hX eL_law_503 (tgt := 510) rfl (sv_rng _ _) (fun c503 => ?_) (fun c503 => ?_)
  · refine v_iconst hX eL_law_510 ?_
    refine v_frV hX eL_law_511 lV_L_49 ok_MX7_here ⟨by decide, rfl⟩ rfl ⟨rfl, Nat.le_of_ble_eq_true rfl⟩ (Nat.le_of_ble_eq_true rfl) (ag_here g (sv_rng _ _) (by omega) 0) rfl ?_
    rintro r g1 ⟨z, rfl, hm⟩
    show VW X 514 _ [mI z] g1
    refine v_aload_n hX eL_law_514 rfl ?_
    refine v_aload_n hX eL_law_515 rfl ?_
    refine v_iload hX eL_law_516 rfl ?_
    refine v_iconst hX eL_law_518 ?_
    refine v_iadd hX eL_law_519 ?_
    refine v_sld hX hSC hL eL_law_520 ⟨by omega, by omega⟩ ?_
    try simp only [Int.toNat_natCast, Int.toNat_zero, Int.reduceToNat]
    refine v_aload_n hX eL_law_521 rfl ?_
    refine v_iload hX eL_law_522 rfl ?_
    refine v_iconst hX eL_law_524 ?_
    refine v_iadd hX eL_law_525 ?_
    refine v_sld hX hSC hL eL_law_526 ⟨by omega, by omega⟩ ?_
    try simp only [Int.toNat_natCast, Int.toNat_zero, Int.reduceToNat]
    refine v_if_eq hX eL_law_527 (tgt := 534) rfl (sv_rng _ _) (fun c527 => ?_) (fun c527 => False.elim ((c527 c503)))
    refine v_iconst hX eL_law_534 ?_
    refine v_frV hX eL_law_535 lV_L_53 ok_MX8_here ⟨by decide, rfl⟩ rfl ⟨rfl, Nat.le_of_ble_eq_true rfl⟩ (Nat.le_of_ble_eq_true rfl) (hm) rfl ?_
    rintro r2 g2 ⟨rfl, rel⟩
    exact v_icmp_same hX eL_law_538 (tgt := 1034) rfl (cont _ rel _ _)
  · refine v_iconst hX eL_law_506 ?_
    refine v_goto hX eL_law_507 (tgt := 511) rfl ?_
    refine v_frV hX eL_law_511 lV_L_49 ok_MX7_here ⟨by decide, rfl⟩ rfl ⟨rfl, Nat.le_of_ble_eq_true rfl⟩ (Nat.le_of_ble_eq_true rfl) (ag_here g (sv_rng _ _) (by omega) 0) rfl ?_
    rintro r g1 ⟨z, rfl, hm⟩
    show VW X 514 _ [mI z] g1
    refine v_aload_n hX eL_law_514 rfl ?_
    refine v_aload_n hX eL_law_515 rfl ?_
    refine v_iload hX eL_law_516 rfl ?_
    refine v_iconst hX eL_law_518 ?_
    refine v_iadd hX eL_law_519 ?_
    refine v_sld hX hSC hL eL_law_520 ⟨by omega, by omega⟩ ?_
    try simp only [Int.toNat_natCast, Int.toNat_zero, Int.reduceToNat]
    refine v_aload_n hX eL_law_521 rfl ?_
    refine v_iload hX eL_law_522 rfl ?_
    refine v_iconst hX eL_law_524 ?_
    refine v_iadd hX eL_law_525 ?_
    refine v_sld hX hSC hL eL_law_526 ⟨by omega, by omega⟩ ?_
    try simp only [Int.toNat_natCast, Int.toNat_zero, Int.reduceToNat]
    refine v_if_eq hX eL_law_527 (tgt := 534) rfl (sv_rng _ _) (fun c527 => False.elim ((c503 c527))) (fun c527 => ?_)
    refine v_iconst hX eL_law_530 ?_
    refine v_goto hX eL_law_531 (tgt := 535) rfl ?_
    refine v_frV hX eL_law_535 lV_L_53 ok_MX8_here ⟨by decide, rfl⟩ rfl ⟨rfl, Nat.le_of_ble_eq_true rfl⟩ (Nat.le_of_ble_eq_true rfl) (hm) rfl ?_
    rintro r2 g2 ⟨rfl, rel⟩
    exact v_icmp_same hX eL_law_538 (tgt := 1034) rfl (cont _ rel _ _)
set_option maxHeartbeats 2000000 in
set_option maxRecDepth 20000 in
theorem lc_offered {X : CT} {b L k : Nat} {xs : Nat → Int32} {h : Hp} (hX : Cx 21 ML_law X) (hSC : SCR b L xs X) (hL : L ≤ 3072) (hk : 6 * k + 6 ≤ L) (g : REL h) (cont : ∀ g, REL g → ∀ l5 l6, VW X 1034 (LSl k l5 l6) [] g) (l5 l6 : Option MV) : VW X 543 (LSl k l5 l6) [] h := by
  have g0 := g
  refine v_aload_n hX eL_law_543 rfl ?_
  refine v_aload_n hX eL_law_544 rfl ?_
  refine v_iload hX eL_law_545 rfl ?_
  refine v_iconst hX eL_law_547 ?_
  refine v_iadd hX eL_law_548 ?_
  refine v_sld hX hSC hL eL_law_549 ⟨by omega, by omega⟩ ?_
  try simp only [Int.toNat_natCast, Int.toNat_zero, Int.reduceToNat]
  refine v_aload_n hX eL_law_550 rfl ?_
  refine v_iload hX eL_law_551 rfl ?_
  refine v_iconst hX eL_law_553 ?_
  refine v_iadd hX eL_law_554 ?_
  refine v_sld hX hSC hL eL_law_555 ⟨by omega, by omega⟩ ?_
  try simp only [Int.toNat_natCast, Int.toNat_zero, Int.reduceToNat]
  refine v_if_eq hX eL_law_556 (tgt := 563) rfl (sv_rng _ _) (fun c556 => ?_) (fun c556 => ?_)
  · refine v_iconst hX eL_law_563 ?_
    refine v_frV hX eL_law_564 lV_L_54 ok_MX7_offered ⟨by decide, rfl⟩ rfl ⟨rfl, Nat.le_of_ble_eq_true rfl⟩ (Nat.le_of_ble_eq_true rfl) (ag_offered g (sv_rng _ _) (by omega) 0) rfl ?_
    rintro r g1 ⟨z, rfl, hm⟩
    show VW X 567 _ [mI z] g1
    refine v_aload_n hX eL_law_567 rfl ?_
    refine v_aload_n hX eL_law_568 rfl ?_
    refine v_iload hX eL_law_569 rfl ?_
    refine v_iconst hX eL_law_571 ?_
    refine v_iadd hX eL_law_572 ?_
    refine v_sld hX hSC hL eL_law_573 ⟨by omega, by omega⟩ ?_
    try simp only [Int.toNat_natCast, Int.toNat_zero, Int.reduceToNat]
    refine v_aload_n hX eL_law_574 rfl ?_
    refine v_iload hX eL_law_575 rfl ?_
    refine v_iconst hX eL_law_577 ?_
    refine v_iadd hX eL_law_578 ?_
    refine v_sld hX hSC hL eL_law_579 ⟨by omega, by omega⟩ ?_
    try simp only [Int.toNat_natCast, Int.toNat_zero, Int.reduceToNat]
    refine v_if_eq hX eL_law_580 (tgt := 587) rfl (sv_rng _ _) (fun c580 => ?_) (fun c580 => False.elim ((c580 c556)))
    refine v_iconst hX eL_law_587 ?_
    refine v_frV hX eL_law_588 lV_L_57 ok_MX8_offered ⟨by decide, rfl⟩ rfl ⟨rfl, Nat.le_of_ble_eq_true rfl⟩ (Nat.le_of_ble_eq_true rfl) (hm) rfl ?_
    rintro r2 g2 ⟨rfl, rel⟩
    exact v_icmp_same hX eL_law_591 (tgt := 1034) rfl (cont _ rel _ _)
  · refine v_iconst hX eL_law_559 ?_
    refine v_goto hX eL_law_560 (tgt := 564) rfl ?_
    refine v_frV hX eL_law_564 lV_L_54 ok_MX7_offered ⟨by decide, rfl⟩ rfl ⟨rfl, Nat.le_of_ble_eq_true rfl⟩ (Nat.le_of_ble_eq_true rfl) (ag_offered g (sv_rng _ _) (by omega) 0) rfl ?_
    rintro r g1 ⟨z, rfl, hm⟩
    show VW X 567 _ [mI z] g1
    refine v_aload_n hX eL_law_567 rfl ?_
    refine v_aload_n hX eL_law_568 rfl ?_
    refine v_iload hX eL_law_569 rfl ?_
    refine v_iconst hX eL_law_571 ?_
    refine v_iadd hX eL_law_572 ?_
    refine v_sld hX hSC hL eL_law_573 ⟨by omega, by omega⟩ ?_
    try simp only [Int.toNat_natCast, Int.toNat_zero, Int.reduceToNat]
    refine v_aload_n hX eL_law_574 rfl ?_
    refine v_iload hX eL_law_575 rfl ?_
    refine v_iconst hX eL_law_577 ?_
    refine v_iadd hX eL_law_578 ?_
    refine v_sld hX hSC hL eL_law_579 ⟨by omega, by omega⟩ ?_
    try simp only [Int.toNat_natCast, Int.toNat_zero, Int.reduceToNat]
    refine v_if_eq hX eL_law_580 (tgt := 587) rfl (sv_rng _ _) (fun c580 => False.elim ((c556 c580))) (fun c580 => ?_)
    refine v_iconst hX eL_law_583 ?_
    refine v_goto hX eL_law_584 (tgt := 588) rfl ?_
    refine v_frV hX eL_law_588 lV_L_57 ok_MX8_offered ⟨by decide, rfl⟩ rfl ⟨rfl, Nat.le_of_ble_eq_true rfl⟩ (Nat.le_of_ble_eq_true rfl) (hm) rfl ?_
    rintro r2 g2 ⟨rfl, rel⟩
    exact v_icmp_same hX eL_law_591 (tgt := 1034) rfl (cont _ rel _ _)
