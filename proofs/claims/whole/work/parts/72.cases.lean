/-! the law's cases -/
section LC
variable {p : Program} {l : Launch} {e : Env} {s : State} {m : MethodId} {below : List Frame} {meth : Method} {c : Code} {b L : Nat} {xs : Nat → Int32} {G : xs_G}
theorem lc_set (C : lC p s m meth c b L xs G) (hL : L ≤ 2048) {i : Int32} {st : xs_S} (hi : 0 ≤ i.toInt ∧ i.toInt + 4 ≤ (L : Int)) (hI : Inv st) (hn : ∀ st' : xs_S, Inv st' → lR p l e s m below meth c b G 670 i [] st') : lR p l e s m below meth c b G 140 i [] st := by
  refine l_al1 C ld_140 ?_
  refine l_arg (k := 1) C ld_141 ld_142 ld_143 ld_144 ld_145 rfl hi (by decide) ?_
  refine l_arg (k := 2) C ld_146 ld_147 ld_148 ld_149 ld_150 rfl hi (by decide) ?_
  refine l_call (d' := 10) (b0 := 0) (av := [.int (xs (i.toInt.toNat + 1)), .int (xs (i.toInt.toNat + 2))]) C gd_X6_set k_L_13 ld_151 (c_X6_set 7 st (xs (i.toInt.toNat + 1)) (xs (i.toInt.toNat + 2)) ) (by decide) rfl rfl rfl rfl rfl ?_
  refine xs_fun ?_
  refine l_al2 C ld_154 ?_
  refine l_arg (k := 1) C ld_155 ld_156 ld_157 ld_158 ld_159 rfl hi (by decide) ?_
  refine l_arg (k := 2) C ld_160 ld_161 ld_162 ld_163 ld_164 rfl hi (by decide) ?_
  refine l_call (d' := 10) (b0 := 72) (av := [.int (xs (i.toInt.toNat + 1)), .int (xs (i.toInt.toNat + 2))]) C gd_X7_set k_L_17 ld_165 (c_X7_set 9 ((F_X6_set st (xs (i.toInt.toNat + 1)) (xs (i.toInt.toNat + 2))).2) (xs (i.toInt.toNat + 1)) (xs (i.toInt.toNat + 2)) (by rw [fz_set (by decide)]; exact iv_h hI)) (by decide) rfl rfl rfl rfl rfl ?_
  refine xs_fun ?_
  exact l_ieq C ld_168 (by decide) (eq_set (st := st) hI).1 (hn _ (eq_set (st := st) hI).2)
theorem lc_dial (C : lC p s m meth c b L xs G) (hL : L ≤ 2048) {i : Int32} {st : xs_S} (hi : 0 ≤ i.toInt ∧ i.toInt + 4 ≤ (L : Int)) (hI : Inv st) (hn : ∀ st' : xs_S, Inv st' → lR p l e s m below meth c b G 670 i [] st') : lR p l e s m below meth c b G 173 i [] st := by
  refine l_al1 C ld_173 ?_
  refine l_call (d' := 10) (b0 := 0) (av := []) C gd_X6_dial k_L_18 ld_174 (c_X6_dial 7 st ) (by decide) rfl rfl rfl rfl rfl ?_
  refine xs_fun ?_
  refine l_al2 C ld_177 ?_
  refine l_call (d' := 10) (b0 := 72) (av := []) C gd_X7_dial k_L_22 ld_178 (c_X7_dial 9 ((F_X6_dial st).2) (by rw [fz_dial (by decide)]; exact iv_h hI)) (by decide) rfl rfl rfl rfl rfl ?_
  refine xs_fun ?_
  exact l_ieq C ld_181 (by decide) (eq_dial (st := st) hI).1 (hn _ (eq_dial (st := st) hI).2)
theorem lc_read (C : lC p s m meth c b L xs G) (hL : L ≤ 2048) {i : Int32} {st : xs_S} (hi : 0 ≤ i.toInt ∧ i.toInt + 4 ≤ (L : Int)) (hI : Inv st) (hn : ∀ st' : xs_S, Inv st' → lR p l e s m below meth c b G 670 i [] st') : lR p l e s m below meth c b G 186 i [] st := by
  refine l_al1 C ld_186 ?_
  refine l_arg (k := 1) C ld_187 ld_188 ld_189 ld_190 ld_191 rfl hi (by decide) ?_
  refine l_arg (k := 2) C ld_192 ld_193 ld_194 ld_195 ld_196 rfl hi (by decide) ?_
  refine l_arg (k := 3) C ld_197 ld_198 ld_199 ld_200 ld_201 rfl hi (by decide) ?_
  refine l_call (d' := 10) (b0 := 0) (av := [.int (xs (i.toInt.toNat + 1)), .int (xs (i.toInt.toNat + 2)), .int (xs (i.toInt.toNat + 3))]) C gd_X6_read k_L_23 ld_202 (c_X6_read 7 st (xs (i.toInt.toNat + 1)) (xs (i.toInt.toNat + 2)) (xs (i.toInt.toNat + 3)) (iv_d hI).2) (by decide) rfl rfl rfl rfl rfl ?_
  refine xs_fun ?_
  refine l_al2 C ld_205 ?_
  refine l_arg (k := 1) C ld_206 ld_207 ld_208 ld_209 ld_210 rfl hi (by decide) ?_
  refine l_arg (k := 2) C ld_211 ld_212 ld_213 ld_214 ld_215 rfl hi (by decide) ?_
  refine l_arg (k := 3) C ld_216 ld_217 ld_218 ld_219 ld_220 rfl hi (by decide) ?_
  refine l_call (d' := 10) (b0 := 72) (av := [.int (xs (i.toInt.toNat + 1)), .int (xs (i.toInt.toNat + 2)), .int (xs (i.toInt.toNat + 3))]) C gd_X7_read k_L_27 ld_221 (c_X7_read 7 ((F_X6_read st (xs (i.toInt.toNat + 1)) (xs (i.toInt.toNat + 2)) (xs (i.toInt.toNat + 3))).2) (xs (i.toInt.toNat + 1)) (xs (i.toInt.toNat + 2)) (xs (i.toInt.toNat + 3)) (by rw [fz_read (by decide)]; exact iv_h hI) (by rw [fz_read (by decide)]; exact ro_D (iv_R hI))) (by decide) rfl rfl rfl rfl rfl ?_
  refine xs_fun ?_
  exact l_ieq C ld_224 (by decide) (eq_read (st := st) hI).1 (hn _ (eq_read (st := st) hI).2)
theorem lc_pass (C : lC p s m meth c b L xs G) (hL : L ≤ 2048) {i : Int32} {st : xs_S} (hi : 0 ≤ i.toInt ∧ i.toInt + 4 ≤ (L : Int)) (hI : Inv st) (hn : ∀ st' : xs_S, Inv st' → lR p l e s m below meth c b G 670 i [] st') : lR p l e s m below meth c b G 229 i [] st := by
  refine l_al1 C ld_229 ?_
  refine l_arg (k := 1) C ld_230 ld_231 ld_232 ld_233 ld_234 rfl hi (by decide) ?_
  refine l_call (d' := 10) (b0 := 0) (av := [.int (xs (i.toInt.toNat + 1))]) C gd_X6_pass k_L_28 ld_235 (c_X6_pass 7 st (xs (i.toInt.toNat + 1)) ) (by decide) rfl rfl rfl rfl rfl ?_
  refine xs_fun ?_
  refine l_al2 C ld_238 ?_
  refine l_arg (k := 1) C ld_239 ld_240 ld_241 ld_242 ld_243 rfl hi (by decide) ?_
  refine l_call (d' := 10) (b0 := 72) (av := [.int (xs (i.toInt.toNat + 1))]) C gd_X7_pass k_L_32 ld_244 (c_X7_pass 8 ((F_X6_pass st (xs (i.toInt.toNat + 1))).2) (xs (i.toInt.toNat + 1)) (by rw [fz_pass (by decide)]; exact iv_h hI)) (by decide) rfl rfl rfl rfl rfl ?_
  refine xs_fun ?_
  exact l_ieq C ld_247 (by decide) (eq_pass (st := st) hI).1 (hn _ (eq_pass (st := st) hI).2)
theorem lc_agree (C : lC p s m meth c b L xs G) (hL : L ≤ 2048) {i : Int32} {st : xs_S} (hi : 0 ≤ i.toInt ∧ i.toInt + 4 ≤ (L : Int)) (hI : Inv st) (hn : ∀ st' : xs_S, Inv st' → lR p l e s m below meth c b G 670 i [] st') : lR p l e s m below meth c b G 252 i [] st := by
  refine l_al1 C ld_252 ?_
  refine l_call (d' := 10) (b0 := 0) (av := []) C gd_X6_agree k_L_33 ld_253 (c_X6_agree 4 st ) (by decide) rfl rfl rfl rfl rfl ?_
  refine xs_fun ?_
  refine l_al2 C ld_256 ?_
  refine l_call (d' := 10) (b0 := 72) (av := []) C gd_X7_agree k_L_36 ld_257 (c_X7_agree 4 ((F_X6_agree st).2) (by rw [fz_agree (by decide)]; exact iv_h hI) (by rw [fz_agree (by decide)]; exact iv_R hI)) (by decide) rfl rfl rfl rfl rfl ?_
  refine xs_fun ?_
  exact l_ieq C ld_260 (by decide) (eq_agree (st := st) hI).1 (hn _ (eq_agree (st := st) hI).2)
theorem lc_of (C : lC p s m meth c b L xs G) (hL : L ≤ 2048) {i : Int32} {st : xs_S} (hi : 0 ≤ i.toInt ∧ i.toInt + 4 ≤ (L : Int)) (hI : Inv st) (hn : ∀ st' : xs_S, Inv st' → lR p l e s m below meth c b G 670 i [] st') : lR p l e s m below meth c b G 265 i [] st := by
  refine l_al1 C ld_265 ?_
  refine l_arg (k := 1) C ld_266 ld_267 ld_268 ld_269 ld_270 rfl hi (by decide) ?_
  refine l_arg (k := 2) C ld_271 ld_272 ld_273 ld_274 ld_275 rfl hi (by decide) ?_
  refine l_call (d' := 10) (b0 := 0) (av := [.int (xs (i.toInt.toNat + 1)), .int (xs (i.toInt.toNat + 2))]) C gd_X6_of k_L_37 ld_276 (c_X6_of 6 st (xs (i.toInt.toNat + 1)) (xs (i.toInt.toNat + 2)) (iv_d hI).2) (by decide) rfl rfl rfl rfl rfl ?_
  refine xs_fun ?_
  refine l_al2 C ld_279 ?_
  refine l_arg (k := 1) C ld_280 ld_281 ld_282 ld_283 ld_284 rfl hi (by decide) ?_
  refine l_arg (k := 2) C ld_285 ld_286 ld_287 ld_288 ld_289 rfl hi (by decide) ?_
  refine l_call (d' := 10) (b0 := 72) (av := [.int (xs (i.toInt.toNat + 1)), .int (xs (i.toInt.toNat + 2))]) C gd_X7_of k_L_40 ld_290 (c_X7_of 8 st (xs (i.toInt.toNat + 1)) (xs (i.toInt.toNat + 2)) (iv_R hI)) (by decide) rfl rfl rfl rfl rfl ?_
  refine xs_fun ?_
  exact l_ieq C ld_293 (by decide) (eq_of (st := st) hI).1 (hn _ (eq_of (st := st) hI).2)
theorem lc_best (C : lC p s m meth c b L xs G) (hL : L ≤ 2048) {i : Int32} {st : xs_S} (hi : 0 ≤ i.toInt ∧ i.toInt + 4 ≤ (L : Int)) (hI : Inv st) (hn : ∀ st' : xs_S, Inv st' → lR p l e s m below meth c b G 670 i [] st') : lR p l e s m below meth c b G 298 i [] st := by
  refine l_al1 C ld_298 ?_
  refine l_arg (k := 1) C ld_299 ld_300 ld_301 ld_302 ld_303 rfl hi (by decide) ?_
  refine l_call (d' := 10) (b0 := 0) (av := [.int (xs (i.toInt.toNat + 1))]) C gd_X6_best k_L_41 ld_304 (c_X6_best 5 st (xs (i.toInt.toNat + 1)) ) (by decide) rfl rfl rfl rfl rfl ?_
  refine xs_fun ?_
  refine l_al2 C ld_307 ?_
  refine l_arg (k := 1) C ld_308 ld_309 ld_310 ld_311 ld_312 rfl hi (by decide) ?_
  refine l_call (d' := 10) (b0 := 72) (av := [.int (xs (i.toInt.toNat + 1))]) C gd_X7_best k_L_44 ld_313 (c_X7_best 5 ((F_X6_best st (xs (i.toInt.toNat + 1))).2) (xs (i.toInt.toNat + 1)) (by rw [fz_best (by decide)]; exact iv_R hI)) (by decide) rfl rfl rfl rfl rfl ?_
  refine xs_fun ?_
  exact l_ieq C ld_316 (by decide) (eq_best (st := st) hI).1 (hn _ (eq_best (st := st) hI).2)
theorem lc_end (C : lC p s m meth c b L xs G) (hL : L ≤ 2048) {i : Int32} {st : xs_S} (hi : 0 ≤ i.toInt ∧ i.toInt + 4 ≤ (L : Int)) (hI : Inv st) (hn : ∀ st' : xs_S, Inv st' → lR p l e s m below meth c b G 670 i [] st') : lR p l e s m below meth c b G 321 i [] st := by
  refine l_al1 C ld_321 ?_
  refine l_arg (k := 1) C ld_322 ld_323 ld_324 ld_325 ld_326 rfl hi (by decide) ?_
  refine l_arg (k := 2) C ld_327 ld_328 ld_329 ld_330 ld_331 rfl hi (by decide) ?_
  refine l_call (d' := 10) (b0 := 0) (av := [.int (xs (i.toInt.toNat + 1)), .int (xs (i.toInt.toNat + 2))]) C gd_X6_end k_L_45 ld_332 (c_X6_end 5 st (xs (i.toInt.toNat + 1)) (xs (i.toInt.toNat + 2)) ) (by decide) rfl rfl rfl rfl rfl ?_
  refine xs_fun ?_
  refine l_al2 C ld_335 ?_
  refine l_arg (k := 1) C ld_336 ld_337 ld_338 ld_339 ld_340 rfl hi (by decide) ?_
  refine l_arg (k := 2) C ld_341 ld_342 ld_343 ld_344 ld_345 rfl hi (by decide) ?_
  refine l_call (d' := 10) (b0 := 72) (av := [.int (xs (i.toInt.toNat + 1)), .int (xs (i.toInt.toNat + 2))]) C gd_X7_end k_L_48 ld_346 (c_X7_end 8 ((F_X6_end st (xs (i.toInt.toNat + 1)) (xs (i.toInt.toNat + 2))).2) (xs (i.toInt.toNat + 1)) (xs (i.toInt.toNat + 2)) (by rw [fz_end (by decide)]; exact iv_R hI)) (by decide) rfl rfl rfl rfl rfl ?_
  refine xs_fun ?_
  exact l_ieq C ld_349 (by decide) (eq_end (st := st) hI).1 (hn _ (eq_end (st := st) hI).2)
theorem lc_overlap (C : lC p s m meth c b L xs G) (hL : L ≤ 2048) {i : Int32} {st : xs_S} (hi : 0 ≤ i.toInt ∧ i.toInt + 4 ≤ (L : Int)) (hI : Inv st) (hn : ∀ st' : xs_S, Inv st' → lR p l e s m below meth c b G 670 i [] st') : lR p l e s m below meth c b G 354 i [] st := by
  refine l_al1 C ld_354 ?_
  refine l_arg (k := 1) C ld_355 ld_356 ld_357 ld_358 ld_359 rfl hi (by decide) ?_
  refine l_call (d' := 10) (b0 := 0) (av := [.int (xs (i.toInt.toNat + 1))]) C gd_X6_overlap k_L_49 ld_360 (c_X6_overlap 5 st (xs (i.toInt.toNat + 1)) ) (by decide) rfl rfl rfl rfl rfl ?_
  refine xs_fun ?_
  refine l_al2 C ld_363 ?_
  refine l_arg (k := 1) C ld_364 ld_365 ld_366 ld_367 ld_368 rfl hi (by decide) ?_
  refine l_call (d' := 10) (b0 := 72) (av := [.int (xs (i.toInt.toNat + 1))]) C gd_X7_overlap k_L_52 ld_369 (c_X7_overlap 8 ((F_X6_overlap st (xs (i.toInt.toNat + 1))).2) (xs (i.toInt.toNat + 1)) (by rw [fz_overlap (by decide)]; exact iv_R hI)) (by decide) rfl rfl rfl rfl rfl ?_
  refine xs_fun ?_
  exact l_ieq C ld_372 (by decide) (eq_overlap (st := st) hI).1 (hn _ (eq_overlap (st := st) hI).2)
theorem lc_count (C : lC p s m meth c b L xs G) (hL : L ≤ 2048) {i : Int32} {st : xs_S} (hi : 0 ≤ i.toInt ∧ i.toInt + 4 ≤ (L : Int)) (hI : Inv st) (hn : ∀ st' : xs_S, Inv st' → lR p l e s m below meth c b G 670 i [] st') : lR p l e s m below meth c b G 377 i [] st := by
  refine l_al1 C ld_377 ?_
  refine l_arg (k := 1) C ld_378 ld_379 ld_380 ld_381 ld_382 rfl hi (by decide) ?_
  refine l_call (d' := 10) (b0 := 0) (av := [.int (xs (i.toInt.toNat + 1))]) C gd_X6_count k_L_53 ld_383 (c_X6_count 8 st (xs (i.toInt.toNat + 1)) ) (by decide) rfl rfl rfl rfl rfl ?_
  refine xs_fun ?_
  refine l_al2 C ld_386 ?_
  refine l_arg (k := 1) C ld_387 ld_388 ld_389 ld_390 ld_391 rfl hi (by decide) ?_
  refine l_call (d' := 10) (b0 := 72) (av := [.int (xs (i.toInt.toNat + 1))]) C gd_X7_count k_L_56 ld_392 (c_X7_count 8 st (xs (i.toInt.toNat + 1)) (iv_R hI)) (by decide) rfl rfl rfl rfl rfl ?_
  refine xs_fun ?_
  exact l_ieq C ld_395 (by decide) (eq_count (st := st) hI).1 (hn _ (eq_count (st := st) hI).2)
theorem lc_mean (C : lC p s m meth c b L xs G) (hL : L ≤ 2048) {i : Int32} {st : xs_S} (hi : 0 ≤ i.toInt ∧ i.toInt + 4 ≤ (L : Int)) (hI : Inv st) (hn : ∀ st' : xs_S, Inv st' → lR p l e s m below meth c b G 670 i [] st') : lR p l e s m below meth c b G 400 i [] st := by
  refine l_al1 C ld_400 ?_
  refine l_call (d' := 10) (b0 := 0) (av := []) C gd_X6_mean k_L_57 ld_401 (c_X6_mean 5 st (eq_mean hI).2.1 (eq_mean hI).2.2.1) (by decide) rfl rfl rfl rfl rfl ?_
  refine xs_fun ?_
  refine l_al2 C ld_404 ?_
  refine l_call (d' := 10) (b0 := 72) (av := []) C gd_X7_mean k_L_61 ld_405 (c_X7_mean 8 ((F_X6_mean st).2) (by rw [fz_mean (by decide)]; exact iv_R hI) (eq_mean hI).2.2.2) (by decide) rfl rfl rfl rfl rfl ?_
  refine xs_fun ?_
  refine l_lcmp C ld_408 ?_
  exact l_if0 C ld_409 (by decide) (lg_same (eq_mean (st := st) hI).1.1) (hn _ (eq_mean (st := st) hI).1.2)
theorem lc_share (C : lC p s m meth c b L xs G) (hL : L ≤ 2048) {i : Int32} {st : xs_S} (hi : 0 ≤ i.toInt ∧ i.toInt + 4 ≤ (L : Int)) (hI : Inv st) (hn : ∀ st' : xs_S, Inv st' → lR p l e s m below meth c b G 670 i [] st') : lR p l e s m below meth c b G 414 i [] st := by
  refine l_al1 C ld_414 ?_
  refine l_call (d' := 10) (b0 := 0) (av := []) C gd_X6_share k_L_62 ld_415 (c_X6_share 5 st (eq_share hI).2.1) (by decide) rfl rfl rfl rfl rfl ?_
  refine xs_fun ?_
  refine l_al2 C ld_418 ?_
  refine l_call (d' := 10) (b0 := 72) (av := []) C gd_X7_share k_L_65 ld_419 (c_X7_share 5 ((F_X6_share st).2) (by rw [fz_share (by decide)]; exact iv_R hI) (eq_share hI).2.2) (by decide) rfl rfl rfl rfl rfl ?_
  refine xs_fun ?_
  exact l_ieq C ld_422 (by decide) (eq_share (st := st) hI).1.1 (hn _ (eq_share (st := st) hI).1.2)
theorem lc_allowing (C : lC p s m meth c b L xs G) (hL : L ≤ 2048) {i : Int32} {st : xs_S} (hi : 0 ≤ i.toInt ∧ i.toInt + 4 ≤ (L : Int)) (hI : Inv st) (hn : ∀ st' : xs_S, Inv st' → lR p l e s m below meth c b G 670 i [] st') : lR p l e s m below meth c b G 427 i [] st := by
  refine l_al1 C ld_427 ?_
  refine l_arg (k := 1) C ld_428 ld_429 ld_430 ld_431 ld_432 rfl hi (by decide) ?_
  refine l_arg (k := 2) C ld_433 ld_434 ld_435 ld_436 ld_437 rfl hi (by decide) ?_
  refine l_call (d' := 10) (b0 := 0) (av := [.int (xs (i.toInt.toNat + 1)), .int (xs (i.toInt.toNat + 2))]) C gd_X6_allowing k_L_66 ld_438 (c_X6_allowing 5 st (xs (i.toInt.toNat + 1)) (xs (i.toInt.toNat + 2)) ) (by decide) rfl rfl rfl rfl rfl ?_
  refine xs_fun ?_
  refine l_al2 C ld_441 ?_
  refine l_arg (k := 1) C ld_442 ld_443 ld_444 ld_445 ld_446 rfl hi (by decide) ?_
  refine l_arg (k := 2) C ld_447 ld_448 ld_449 ld_450 ld_451 rfl hi (by decide) ?_
  refine l_call (d' := 10) (b0 := 72) (av := [.int (xs (i.toInt.toNat + 1)), .int (xs (i.toInt.toNat + 2))]) C gd_X7_allowing k_L_69 ld_452 (c_X7_allowing 6 ((F_X6_allowing st (xs (i.toInt.toNat + 1)) (xs (i.toInt.toNat + 2))).2) (xs (i.toInt.toNat + 1)) (xs (i.toInt.toNat + 2)) (by rw [fz_allowing (by decide)]; exact iv_R hI)) (by decide) rfl rfl rfl rfl rfl ?_
  refine xs_fun ?_
  exact l_ieq C ld_455 (by decide) (eq_allowing (st := st) hI).1 (hn _ (eq_allowing (st := st) hI).2)
theorem lc_fewest (C : lC p s m meth c b L xs G) (hL : L ≤ 2048) {i : Int32} {st : xs_S} (hi : 0 ≤ i.toInt ∧ i.toInt + 4 ≤ (L : Int)) (hI : Inv st) (hn : ∀ st' : xs_S, Inv st' → lR p l e s m below meth c b G 670 i [] st') : lR p l e s m below meth c b G 460 i [] st := by
  refine l_al1 C ld_460 ?_
  refine l_call (d' := 10) (b0 := 0) (av := []) C gd_X6_fewest k_L_70 ld_461 (c_X6_fewest 5 st ) (by decide) rfl rfl rfl rfl rfl ?_
  refine xs_fun ?_
  refine l_al2 C ld_464 ?_
  refine l_call (d' := 10) (b0 := 72) (av := []) C gd_X7_fewest k_L_73 ld_465 (c_X7_fewest 5 ((F_X6_fewest st).2) (by rw [fz_fewest (by decide)]; exact iv_R hI)) (by decide) rfl rfl rfl rfl rfl ?_
  refine xs_fun ?_
  exact l_ieq C ld_468 (by decide) (eq_fewest (st := st) hI).1 (hn _ (eq_fewest (st := st) hI).2)
theorem lc_widerIn (C : lC p s m meth c b L xs G) (hL : L ≤ 2048) {i : Int32} {st : xs_S} (hi : 0 ≤ i.toInt ∧ i.toInt + 4 ≤ (L : Int)) (hI : Inv st) (hn : ∀ st' : xs_S, Inv st' → lR p l e s m below meth c b G 670 i [] st') : lR p l e s m below meth c b G 473 i [] st := by
  refine l_al1 C ld_473 ?_
  refine l_arg (k := 1) C ld_474 ld_475 ld_476 ld_477 ld_478 rfl hi (by decide) ?_
  refine l_call (d' := 10) (b0 := 0) (av := [.int (xs (i.toInt.toNat + 1))]) C gd_X6_widerIn k_L_74 ld_479 (c_X6_widerIn 5 st (xs (i.toInt.toNat + 1)) ) (by decide) rfl rfl rfl rfl rfl ?_
  refine xs_fun ?_
  refine l_al2 C ld_482 ?_
  refine l_arg (k := 1) C ld_483 ld_484 ld_485 ld_486 ld_487 rfl hi (by decide) ?_
  refine l_call (d' := 10) (b0 := 72) (av := [.int (xs (i.toInt.toNat + 1))]) C gd_X7_widerIn k_L_77 ld_488 (c_X7_widerIn 5 ((F_X6_widerIn st (xs (i.toInt.toNat + 1))).2) (xs (i.toInt.toNat + 1)) (by rw [fz_widerIn (by decide)]; exact iv_R hI)) (by decide) rfl rfl rfl rfl rfl ?_
  refine xs_fun ?_
  exact l_ieq C ld_491 (by decide) (eq_wider (st := st) hI).1 (hn _ (eq_wider (st := st) hI).2)
theorem lc_without (C : lC p s m meth c b L xs G) (hL : L ≤ 2048) {i : Int32} {st : xs_S} (hi : 0 ≤ i.toInt ∧ i.toInt + 4 ≤ (L : Int)) (hI : Inv st) (hn : ∀ st' : xs_S, Inv st' → lR p l e s m below meth c b G 670 i [] st') : lR p l e s m below meth c b G 496 i [] st := by
  refine l_al1 C ld_496 ?_
  refine l_arg (k := 1) C ld_497 ld_498 ld_499 ld_500 ld_501 rfl hi (by decide) ?_
  refine l_call (d' := 10) (b0 := 0) (av := [.int (xs (i.toInt.toNat + 1))]) C gd_X6_without k_L_78 ld_502 (c_X6_without 5 st (xs (i.toInt.toNat + 1)) ) (by decide) rfl rfl rfl rfl rfl ?_
  refine xs_fun ?_
  refine l_al2 C ld_505 ?_
  refine l_arg (k := 1) C ld_506 ld_507 ld_508 ld_509 ld_510 rfl hi (by decide) ?_
  refine l_call (d' := 10) (b0 := 72) (av := [.int (xs (i.toInt.toNat + 1))]) C gd_X7_without k_L_81 ld_511 (c_X7_without 5 ((F_X6_without st (xs (i.toInt.toNat + 1))).2) (xs (i.toInt.toNat + 1)) (by rw [fz_without (by decide)]; exact iv_R hI)) (by decide) rfl rfl rfl rfl rfl ?_
  refine xs_fun ?_
  exact l_ieq C ld_514 (by decide) (eq_without (st := st) hI).1 (hn _ (eq_without (st := st) hI).2)
theorem lc_put (C : lC p s m meth c b L xs G) (hL : L ≤ 2048) {i : Int32} {st : xs_S} (hi : 0 ≤ i.toInt ∧ i.toInt + 4 ≤ (L : Int)) (hI : Inv st) (hn : ∀ st' : xs_S, Inv st' → lR p l e s m below meth c b G 670 i [] st') : lR p l e s m below meth c b G 519 i [] st := by
  refine l_al1 C ld_519 ?_
  refine l_arg (k := 1) C ld_520 ld_521 ld_522 ld_523 ld_524 rfl hi (by decide) ?_
  refine l_i2l C ld_525 ?_
  refine l_bi (v := 32) C ld_526 rfl ?_
  refine l_lshl C ld_528 ?_
  refine l_arg (k := 2) C ld_529 ld_530 ld_531 ld_532 ld_533 rfl hi (by decide) ?_
  refine l_i2l C ld_534 ?_
  refine l_ldc2 C ld_535 xs_cL_L_82 ?_
  refine l_land C ld_538 ?_
  refine l_lor C ld_539 ?_
  refine l_call (d' := 10) (b0 := 0) (av := [.long ((((xs (i.toInt.toNat + 1)).toInt64 <<< ((32 : Int32).toInt64 &&& 63)) ||| ((xs (i.toInt.toNat + 2)).toInt64 &&& 4294967295)))]) C gd_X6_put k_L_84 ld_540 (c_X6_put 8 st ((((xs (i.toInt.toNat + 1)).toInt64 <<< ((32 : Int32).toInt64 &&& 63)) ||| ((xs (i.toInt.toNat + 2)).toInt64 &&& 4294967295))) (iv_7 hI)) (by decide) rfl rfl rfl rfl rfl ?_
  refine xs_fun ?_
  refine l_al2 C ld_543 ?_
  refine l_arg (k := 1) C ld_544 ld_545 ld_546 ld_547 ld_548 rfl hi (by decide) ?_
  refine l_i2l C ld_549 ?_
  refine l_bi (v := 32) C ld_550 rfl ?_
  refine l_lshl C ld_552 ?_
  refine l_arg (k := 2) C ld_553 ld_554 ld_555 ld_556 ld_557 rfl hi (by decide) ?_
  refine l_i2l C ld_558 ?_
  refine l_ldc2 C ld_559 xs_cL_L_82 ?_
  refine l_land C ld_562 ?_
  refine l_lor C ld_563 ?_
  refine l_call (d' := 10) (b0 := 72) (av := [.long ((((xs (i.toInt.toNat + 1)).toInt64 <<< ((32 : Int32).toInt64 &&& 63)) ||| ((xs (i.toInt.toNat + 2)).toInt64 &&& 4294967295)))]) C gd_X7_put k_L_88 ld_564 (c_X7_put 9 ((F_X6_put st ((((xs (i.toInt.toNat + 1)).toInt64 <<< ((32 : Int32).toInt64 &&& 63)) ||| ((xs (i.toInt.toNat + 2)).toInt64 &&& 4294967295)))).2) ((((xs (i.toInt.toNat + 1)).toInt64 <<< ((32 : Int32).toInt64 &&& 63)) ||| ((xs (i.toInt.toNat + 2)).toInt64 &&& 4294967295))) (by rw [fz_put (by decide)]; exact iv_l hI)) (by decide) rfl rfl rfl rfl rfl ?_
  refine xs_fun ?_
  exact l_ieq C ld_567 (by decide) (eq_put (st := st) hI).1 (hn _ (eq_put (st := st) hI).2)
theorem lc_wipe (C : lC p s m meth c b L xs G) (hL : L ≤ 2048) {i : Int32} {st : xs_S} (hi : 0 ≤ i.toInt ∧ i.toInt + 4 ≤ (L : Int)) (hI : Inv st) (hn : ∀ st' : xs_S, Inv st' → lR p l e s m below meth c b G 670 i [] st') : lR p l e s m below meth c b G 572 i [] st := by
  refine l_al1 C ld_572 ?_
  refine l_call (d' := 10) (b0 := 0) (av := []) C gd_X6_wipe k_L_89 ld_573 (c_X6_wipe 9 st ) (by decide) rfl rfl rfl rfl rfl ?_
  refine xs_fun ?_
  refine l_al2 C ld_576 ?_
  refine l_call (d' := 10) (b0 := 72) (av := []) C gd_X7_wipe k_L_92 ld_577 (c_X7_wipe 10 ((F_X6_wipe st).2) ) (by decide) rfl rfl rfl rfl rfl ?_
  refine xs_fun ?_
  exact l_ieq C ld_580 (by decide) (eq_wipe (st := st) hI).1 (hn _ (eq_wipe (st := st) hI).2)
theorem lc_fault (C : lC p s m meth c b L xs G) (hL : L ≤ 2048) {i : Int32} {st : xs_S} (hi : 0 ≤ i.toInt ∧ i.toInt + 4 ≤ (L : Int)) (hI : Inv st) (hn : ∀ st' : xs_S, Inv st' → lR p l e s m below meth c b G 670 i [] st') : lR p l e s m below meth c b G 585 i [] st := by
  refine l_al1 C ld_585 ?_
  refine l_call (d' := 10) (b0 := 0) (av := []) C gd_X6_fault k_L_93 ld_586 (c_X6_fault 5 st (iv_p hI)) (by decide) rfl rfl rfl rfl rfl ?_
  refine xs_fun ?_
  refine l_al2 C ld_589 ?_
  refine l_call (d' := 10) (b0 := 72) (av := []) C gd_X7_fault k_L_96 ld_590 (c_X7_fault 2 ((F_X6_fault st).2) (by rw [fz_fault (by decide)]; exact iv_l hI) (by rw [fz_fault (by decide)]; exact iv_R hI)) (by decide) rfl rfl rfl rfl rfl ?_
  refine xs_fun ?_
  exact l_ieq C ld_593 (by decide) (eq_fault (st := st) hI).1 (hn _ (eq_fault (st := st) hI).2)
theorem lc_carryOut (C : lC p s m meth c b L xs G) (hL : L ≤ 2048) {i : Int32} {st : xs_S} (hi : 0 ≤ i.toInt ∧ i.toInt + 4 ≤ (L : Int)) (hI : Inv st) (hn : ∀ st' : xs_S, Inv st' → lR p l e s m below meth c b G 670 i [] st') : lR p l e s m below meth c b G 598 i [] st := by
  refine l_al1 C ld_598 ?_
  refine l_call (d' := 10) (b0 := 0) (av := []) C gd_X6_carryOut k_L_97 ld_599 (c_X6_carryOut 3 st (iv_p hI) (iv_d hI) (iv_k hI)) (by decide) rfl rfl rfl rfl rfl ?_
  refine xs_fun ?_
  refine l_al2 C ld_602 ?_
  refine l_call (d' := 10) (b0 := 72) (av := []) C gd_X7_carryOut k_L_100 ld_603 (c_X7_carryOut 2 ((F_X6_carryOut st).2) (by rw [fz_carryOut (by decide)]; exact iv_l hI) (by rw [fz_carryOut (by decide)]; exact iv_R hI) (by rw [fz_carryOut (by decide)]; exact iv_h hI)) (by decide) rfl rfl rfl rfl rfl ?_
  refine xs_fun ?_
  exact l_ieq C ld_606 (by decide) (eq_carryOut (st := st) hI).1 (hn _ (eq_carryOut (st := st) hI).2)
theorem lc_undo (C : lC p s m meth c b L xs G) (hL : L ≤ 2048) {i : Int32} {st : xs_S} (hi : 0 ≤ i.toInt ∧ i.toInt + 4 ≤ (L : Int)) (hI : Inv st) (hn : ∀ st' : xs_S, Inv st' → lR p l e s m below meth c b G 670 i [] st') : lR p l e s m below meth c b G 611 i [] st := by
  refine l_al1 C ld_611 ?_
  refine l_call (d' := 10) (b0 := 0) (av := []) C gd_X6_undo k_L_101 ld_612 (c_X6_undo 7 st ) (by decide) rfl rfl rfl rfl rfl ?_
  refine xs_fun ?_
  refine l_al2 C ld_615 ?_
  refine l_call (d' := 10) (b0 := 72) (av := []) C gd_X7_undo k_L_104 ld_616 (c_X7_undo 10 ((F_X6_undo st).2) (by rw [fz_undo (by decide)]; exact iv_h hI)) (by decide) rfl rfl rfl rfl rfl ?_
  refine xs_fun ?_
  exact l_ieq C ld_619 (by decide) (eq_undo (st := st) hI).1 (hn _ (eq_undo (st := st) hI).2)
theorem lc_save (C : lC p s m meth c b L xs G) (hL : L ≤ 2048) {i : Int32} {st : xs_S} (hi : 0 ≤ i.toInt ∧ i.toInt + 4 ≤ (L : Int)) (hI : Inv st) (hn : ∀ st' : xs_S, Inv st' → lR p l e s m below meth c b G 670 i [] st') : lR p l e s m below meth c b G 624 i [] st := by
  refine l_al1 C ld_624 ?_
  refine l_arg (k := 1) C ld_625 ld_626 ld_627 ld_628 ld_629 rfl hi (by decide) ?_
  refine l_call (d' := 10) (b0 := 0) (av := [.int (xs (i.toInt.toNat + 1))]) C gd_X6_save k_L_105 ld_630 (c_X6_save 7 st (xs (i.toInt.toNat + 1)) ) (by decide) rfl rfl rfl rfl rfl ?_
  refine xs_fun ?_
  refine l_al2 C ld_633 ?_
  refine l_arg (k := 1) C ld_634 ld_635 ld_636 ld_637 ld_638 rfl hi (by decide) ?_
  refine l_call (d' := 10) (b0 := 72) (av := [.int (xs (i.toInt.toNat + 1))]) C gd_X7_save k_L_108 ld_639 (c_X7_save 9 ((F_X6_save st (xs (i.toInt.toNat + 1))).2) (xs (i.toInt.toNat + 1)) ) (by decide) rfl rfl rfl rfl rfl ?_
  refine xs_fun ?_
  exact l_ieq C ld_642 (by decide) (eq_save (st := st) hI).1 (hn _ (eq_save (st := st) hI).2)
theorem lc_restore (C : lC p s m meth c b L xs G) (hL : L ≤ 2048) {i : Int32} {st : xs_S} (hi : 0 ≤ i.toInt ∧ i.toInt + 4 ≤ (L : Int)) (hI : Inv st) (hn : ∀ st' : xs_S, Inv st' → lR p l e s m below meth c b G 670 i [] st') : lR p l e s m below meth c b G 647 i [] st := by
  refine l_al1 C ld_647 ?_
  refine l_arg (k := 1) C ld_648 ld_649 ld_650 ld_651 ld_652 rfl hi (by decide) ?_
  refine l_call (d' := 10) (b0 := 0) (av := [.int (xs (i.toInt.toNat + 1))]) C gd_X6_restore k_L_109 ld_653 (c_X6_restore 7 st (xs (i.toInt.toNat + 1)) (iv_s hI)) (by decide) rfl rfl rfl rfl rfl ?_
  refine xs_fun ?_
  refine l_al2 C ld_656 ?_
  refine l_arg (k := 1) C ld_657 ld_658 ld_659 ld_660 ld_661 rfl hi (by decide) ?_
  refine l_call (d' := 10) (b0 := 72) (av := [.int (xs (i.toInt.toNat + 1))]) C gd_X7_restore k_L_112 ld_662 (c_X7_restore 9 ((F_X6_restore st (xs (i.toInt.toNat + 1))).2) (xs (i.toInt.toNat + 1)) (by rw [fz_restore (by decide)]; exact iv_h hI)) (by decide) rfl rfl rfl rfl rfl ?_
  refine xs_fun ?_
  exact l_ieq C ld_665 (by decide) (eq_restore (st := st) hI).1 (hn _ (eq_restore (st := st) hI).2)
end LC
