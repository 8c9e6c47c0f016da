/-! the law's cases, printed by wip/gen/cases.py -/
section Law2
theorem cs_find {b L i : Nat} {xs : Nat → Int32} {N : Int} {h : Hp} (hb : i + 5 ≤ L ∧ L ≤ 2560) (hL : LI h) (hh : hR h) (R : Rel N h h) (hN : 0 ≤ N ∧ N ≤ 800000) (kk : ∀ h2, LI h2 → hR h2 → Rel (N + 60) h2 h2 → V b L xs 789 (i : Int) [] h2) : V b L xs 140 (i : Int) [] h := by
  obtain ⟨r, h1, h2, e1, e2, R2⟩ := pair (N' := N) (fc := fun h => f_X4_find (sx xs (i + 1)) (sx xs (i + 2)) (sx xs (i + 3)) (sx xs (i + 4)) h) (fm := fun h => f_X5_find (sx xs (i + 1)) (sx xs (i + 2)) (sx xs (i + 3)) (sx xs (i + 4)) h) R (by omega) (fun hM RM e77 => k_find RM)
  refine v_aload1 dL_140 ?_
  refine v_arg (k := i + 1) (j := 1) rfl (by omega) hb.2 dL_141 dL_142 dL_143 dL_144 dL_145 ?_
  refine v_arg (k := i + 2) (j := 2) rfl (by omega) hb.2 dL_146 dL_147 dL_148 dL_149 dL_150 ?_
  refine v_arg (k := i + 3) (j := 3) rfl (by omega) hb.2 dL_151 dL_152 dL_153 dL_154 dL_155 ?_
  refine v_arg (k := i + 4) (j := 4) rfl (by omega) hb.2 dL_156 dL_157 dL_158 dL_159 dL_160 ?_
  refine v_call (as := [vi (sx xs (i + 1)), vi (sx xs (i + 2)), vi (sx xs (i + 3)), vi (sx xs (i + 4))]) (st := []) mv_L_13 ko4 kd_0 rfl rfl rfl rfl rfl (t_X4_find (sx xs (i + 1)) (sx xs (i + 2)) (sx xs (i + 3)) (sx xs (i + 4)) h) e1 hL hh (avR_i (sx_R _ _) (avR_i (sx_R _ _) (avR_i (sx_R _ _) (avR_i (sx_R _ _) (fun _ q => by cases q))))) dL_161 (fun q1 q2 q3 => ?_)
  refine v_aload2 dL_164 ?_
  refine v_arg (k := i + 1) (j := 1) rfl (by omega) hb.2 dL_165 dL_166 dL_167 dL_168 dL_169 ?_
  refine v_arg (k := i + 2) (j := 2) rfl (by omega) hb.2 dL_170 dL_171 dL_172 dL_173 dL_174 ?_
  refine v_arg (k := i + 3) (j := 3) rfl (by omega) hb.2 dL_175 dL_176 dL_177 dL_178 dL_179 ?_
  refine v_arg (k := i + 4) (j := 4) rfl (by omega) hb.2 dL_180 dL_181 dL_182 dL_183 dL_184 ?_
  refine v_call (as := [vi (sx xs (i + 1)), vi (sx xs (i + 2)), vi (sx xs (i + 3)), vi (sx xs (i + 4))]) (st := [vi r]) mv_L_17 ko5 kd_76 rfl rfl rfl rfl rfl (t_X5_find (sx xs (i + 1)) (sx xs (i + 2)) (sx xs (i + 3)) (sx xs (i + 4)) h1) e2 q2 q3 (avR_i (sx_R _ _) (avR_i (sx_R _ _) (avR_i (sx_R _ _) (avR_i (sx_R _ _) (fun _ q => by cases q))))) dL_185 (fun q4 q5 q6 => ?_)
  refine v_eq (tg := 789) dL_188 (by omega) ?_
  exact kk h2 q5 q6 R2
theorem cs_claim {b L i : Nat} {xs : Nat → Int32} {N : Int} {h : Hp} (hb : i + 5 ≤ L ∧ L ≤ 2560) (hL : LI h) (hh : hR h) (R : Rel N h h) (hN : 0 ≤ N ∧ N ≤ 800000) (kk : ∀ h2, LI h2 → hR h2 → Rel (N + 60) h2 h2 → V b L xs 789 (i : Int) [] h2) : V b L xs 193 (i : Int) [] h := by
  obtain ⟨r, h1, h2, e1, e2, R2⟩ := pair (N' := N) (fc := fun h => f_X4_claim (sx xs (i + 1)) (sx xs (i + 2)) (sx xs (i + 3)) (sx xs (i + 4)) h) (fm := fun h => f_X5_claim (sx xs (i + 1)) (sx xs (i + 2)) (sx xs (i + 3)) (sx xs (i + 4)) h) R (by omega) (fun hM RM e77 => k_claim hN.1 RM)
  refine v_aload1 dL_193 ?_
  refine v_arg (k := i + 1) (j := 1) rfl (by omega) hb.2 dL_194 dL_195 dL_196 dL_197 dL_198 ?_
  refine v_arg (k := i + 2) (j := 2) rfl (by omega) hb.2 dL_199 dL_200 dL_201 dL_202 dL_203 ?_
  refine v_arg (k := i + 3) (j := 3) rfl (by omega) hb.2 dL_204 dL_205 dL_206 dL_207 dL_208 ?_
  refine v_arg (k := i + 4) (j := 4) rfl (by omega) hb.2 dL_209 dL_210 dL_211 dL_212 dL_213 ?_
  refine v_call (as := [vi (sx xs (i + 1)), vi (sx xs (i + 2)), vi (sx xs (i + 3)), vi (sx xs (i + 4))]) (st := []) mv_L_18 ko4 kd_0 rfl rfl rfl rfl rfl (t_X4_claim (sx xs (i + 1)) (sx xs (i + 2)) (sx xs (i + 3)) (sx xs (i + 4)) h) e1 hL hh (avR_i (sx_R _ _) (avR_i (sx_R _ _) (avR_i (sx_R _ _) (avR_i (sx_R _ _) (fun _ q => by cases q))))) dL_214 (fun q1 q2 q3 => ?_)
  refine v_aload2 dL_217 ?_
  refine v_arg (k := i + 1) (j := 1) rfl (by omega) hb.2 dL_218 dL_219 dL_220 dL_221 dL_222 ?_
  refine v_arg (k := i + 2) (j := 2) rfl (by omega) hb.2 dL_223 dL_224 dL_225 dL_226 dL_227 ?_
  refine v_arg (k := i + 3) (j := 3) rfl (by omega) hb.2 dL_228 dL_229 dL_230 dL_231 dL_232 ?_
  refine v_arg (k := i + 4) (j := 4) rfl (by omega) hb.2 dL_233 dL_234 dL_235 dL_236 dL_237 ?_
  refine v_call (as := [vi (sx xs (i + 1)), vi (sx xs (i + 2)), vi (sx xs (i + 3)), vi (sx xs (i + 4))]) (st := [vi r]) mv_L_21 ko5 kd_76 rfl rfl rfl rfl rfl (t_X5_claim (sx xs (i + 1)) (sx xs (i + 2)) (sx xs (i + 3)) (sx xs (i + 4)) h1) e2 q2 q3 (avR_i (sx_R _ _) (avR_i (sx_R _ _) (avR_i (sx_R _ _) (avR_i (sx_R _ _) (fun _ q => by cases q))))) dL_238 (fun q4 q5 q6 => ?_)
  refine v_eq (tg := 789) dL_241 (by omega) ?_
  exact kk h2 q5 q6 R2
theorem cs_tell {b L i : Nat} {xs : Nat → Int32} {N : Int} {h : Hp} (hb : i + 5 ≤ L ∧ L ≤ 2560) (hL : LI h) (hh : hR h) (R : Rel N h h) (hN : 0 ≤ N ∧ N ≤ 800000) (kk : ∀ h2, LI h2 → hR h2 → Rel (N + 60) h2 h2 → V b L xs 789 (i : Int) [] h2) : V b L xs 246 (i : Int) [] h := by
  obtain ⟨r, h1, h2, e1, e2, R2⟩ := pair (N' := N + 1) (fc := fun h => f_X4_tell (sx xs (i + 1)) (sx xs (i + 2)) (sx xs (i + 3)) h) (fm := fun h => f_X5_tell (sx xs (i + 1)) (sx xs (i + 2)) (sx xs (i + 3)) h) R (by omega) (fun hM RM e77 => k_tell ⟨hN.1, by omega⟩ RM)
  refine v_aload1 dL_246 ?_
  refine v_arg (k := i + 1) (j := 1) rfl (by omega) hb.2 dL_247 dL_248 dL_249 dL_250 dL_251 ?_
  refine v_arg (k := i + 2) (j := 2) rfl (by omega) hb.2 dL_252 dL_253 dL_254 dL_255 dL_256 ?_
  refine v_arg (k := i + 3) (j := 3) rfl (by omega) hb.2 dL_257 dL_258 dL_259 dL_260 dL_261 ?_
  refine v_call (as := [vi (sx xs (i + 1)), vi (sx xs (i + 2)), vi (sx xs (i + 3))]) (st := []) mv_L_22 ko4 kd_0 rfl rfl rfl rfl rfl (t_X4_tell (sx xs (i + 1)) (sx xs (i + 2)) (sx xs (i + 3)) h) e1 hL hh (avR_i (sx_R _ _) (avR_i (sx_R _ _) (avR_i (sx_R _ _) (fun _ q => by cases q)))) dL_262 (fun q1 q2 q3 => ?_)
  refine v_aload2 dL_265 ?_
  refine v_arg (k := i + 1) (j := 1) rfl (by omega) hb.2 dL_266 dL_267 dL_268 dL_269 dL_270 ?_
  refine v_arg (k := i + 2) (j := 2) rfl (by omega) hb.2 dL_271 dL_272 dL_273 dL_274 dL_275 ?_
  refine v_arg (k := i + 3) (j := 3) rfl (by omega) hb.2 dL_276 dL_277 dL_278 dL_279 dL_280 ?_
  refine v_call (as := [vi (sx xs (i + 1)), vi (sx xs (i + 2)), vi (sx xs (i + 3))]) (st := [vi r]) mv_L_26 ko5 kd_76 rfl rfl rfl rfl rfl (t_X5_tell (sx xs (i + 1)) (sx xs (i + 2)) (sx xs (i + 3)) h1) e2 q2 q3 (avR_i (sx_R _ _) (avR_i (sx_R _ _) (avR_i (sx_R _ _) (fun _ q => by cases q)))) dL_281 (fun q4 q5 q6 => ?_)
  refine v_eq (tg := 789) dL_284 (by omega) ?_
  exact kk h2 q5 q6 R2
theorem cs_drop {b L i : Nat} {xs : Nat → Int32} {N : Int} {h : Hp} (hb : i + 5 ≤ L ∧ L ≤ 2560) (hL : LI h) (hh : hR h) (R : Rel N h h) (hN : 0 ≤ N ∧ N ≤ 800000) (kk : ∀ h2, LI h2 → hR h2 → Rel (N + 60) h2 h2 → V b L xs 789 (i : Int) [] h2) : V b L xs 289 (i : Int) [] h := by
  obtain ⟨r, h1, h2, e1, e2, R2⟩ := pair (N' := N) (fc := fun h => f_X4_drop (sx xs (i + 1)) h) (fm := fun h => f_X5_drop (sx xs (i + 1)) h) R (by omega) (fun hM RM e77 => k_drop RM)
  refine v_aload1 dL_289 ?_
  refine v_arg (k := i + 1) (j := 1) rfl (by omega) hb.2 dL_290 dL_291 dL_292 dL_293 dL_294 ?_
  refine v_call (as := [vi (sx xs (i + 1))]) (st := []) mv_L_27 ko4 kd_0 rfl rfl rfl rfl rfl (t_X4_drop (sx xs (i + 1)) h) e1 hL hh (avR_i (sx_R _ _) (fun _ q => by cases q)) dL_295 (fun q1 q2 q3 => ?_)
  refine v_aload2 dL_298 ?_
  refine v_arg (k := i + 1) (j := 1) rfl (by omega) hb.2 dL_299 dL_300 dL_301 dL_302 dL_303 ?_
  refine v_call (as := [vi (sx xs (i + 1))]) (st := [vi r]) mv_L_31 ko5 kd_76 rfl rfl rfl rfl rfl (t_X5_drop (sx xs (i + 1)) h1) e2 q2 q3 (avR_i (sx_R _ _) (fun _ q => by cases q)) dL_304 (fun q4 q5 q6 => ?_)
  refine v_eq (tg := 789) dL_307 (by omega) ?_
  exact kk h2 q5 q6 R2
theorem cs_weeks {b L i : Nat} {xs : Nat → Int32} {N : Int} {h : Hp} (hb : i + 5 ≤ L ∧ L ≤ 2560) (hL : LI h) (hh : hR h) (R : Rel N h h) (hN : 0 ≤ N ∧ N ≤ 800000) (kk : ∀ h2, LI h2 → hR h2 → Rel (N + 60) h2 h2 → V b L xs 789 (i : Int) [] h2) : V b L xs 312 (i : Int) [] h := by
  obtain ⟨r, h1, h2, e1, e2, R2⟩ := pair (N' := N) (fc := fun h => f_X4_weeks (sx xs (i + 1)) h) (fm := fun h => f_X5_weeks (sx xs (i + 1)) h) R (by omega) (fun hM RM e77 => k_weeks RM)
  refine v_aload1 dL_312 ?_
  refine v_arg (k := i + 1) (j := 1) rfl (by omega) hb.2 dL_313 dL_314 dL_315 dL_316 dL_317 ?_
  refine v_call (as := [vi (sx xs (i + 1))]) (st := []) mv_L_32 ko4 kd_0 rfl rfl rfl rfl rfl (t_X4_weeks (sx xs (i + 1)) h) e1 hL hh (avR_i (sx_R _ _) (fun _ q => by cases q)) dL_318 (fun q1 q2 q3 => ?_)
  refine v_aload2 dL_321 ?_
  refine v_arg (k := i + 1) (j := 1) rfl (by omega) hb.2 dL_322 dL_323 dL_324 dL_325 dL_326 ?_
  refine v_call (as := [vi (sx xs (i + 1))]) (st := [vi r]) mv_L_35 ko5 kd_76 rfl rfl rfl rfl rfl (t_X5_weeks (sx xs (i + 1)) h1) e2 q2 q3 (avR_i (sx_R _ _) (fun _ q => by cases q)) dL_327 (fun q4 q5 q6 => ?_)
  refine v_eq (tg := 789) dL_330 (by omega) ?_
  exact kk h2 q5 q6 R2
theorem cs_hand {b L i : Nat} {xs : Nat → Int32} {N : Int} {h : Hp} (hb : i + 5 ≤ L ∧ L ≤ 2560) (hL : LI h) (hh : hR h) (R : Rel N h h) (hN : 0 ≤ N ∧ N ≤ 800000) (kk : ∀ h2, LI h2 → hR h2 → Rel (N + 60) h2 h2 → V b L xs 789 (i : Int) [] h2) : V b L xs 335 (i : Int) [] h := by
  obtain ⟨r, h1, h2, e1, e2, R2⟩ := pair (N' := N) (fc := fun h => f_X4_hand  h) (fm := fun h => f_X5_hand  h) R (by omega) (fun hM RM e77 => k_hand (by omega) (by rw [e77]; exact hh 77 10) RM)
  refine v_aload1 dL_335 ?_
  refine v_call (as := []) (st := []) mv_L_36 ko4 kd_0 rfl rfl rfl rfl rfl (t_X4_hand  h) e1 hL hh (fun _ q => by cases q) dL_336 (fun q1 q2 q3 => ?_)
  refine v_aload2 dL_339 ?_
  refine v_call (as := []) (st := [vi r]) mv_L_40 ko5 kd_76 rfl rfl rfl rfl rfl (t_X5_hand  h1) e2 q2 q3 (fun _ q => by cases q) dL_340 (fun q4 q5 q6 => ?_)
  refine v_eq (tg := 789) dL_343 (by omega) ?_
  exact kk h2 q5 q6 R2
theorem cs_set {b L i : Nat} {xs : Nat → Int32} {N : Int} {h : Hp} (hb : i + 5 ≤ L ∧ L ≤ 2560) (hL : LI h) (hh : hR h) (R : Rel N h h) (hN : 0 ≤ N ∧ N ≤ 800000) (kk : ∀ h2, LI h2 → hR h2 → Rel (N + 60) h2 h2 → V b L xs 789 (i : Int) [] h2) : V b L xs 348 (i : Int) [] h := by
  obtain ⟨r, h1, h2, e1, e2, R2⟩ := pair (N' := N) (fc := fun h => f_X4_set (sx xs (i + 1)) (sx xs (i + 2)) h) (fm := fun h => f_X5_set (sx xs (i + 1)) (sx xs (i + 2)) h) R (by omega) (fun hM RM e77 => k_set hL.2 RM)
  refine v_aload1 dL_348 ?_
  refine v_arg (k := i + 1) (j := 1) rfl (by omega) hb.2 dL_349 dL_350 dL_351 dL_352 dL_353 ?_
  refine v_arg (k := i + 2) (j := 2) rfl (by omega) hb.2 dL_354 dL_355 dL_356 dL_357 dL_358 ?_
  refine v_call (as := [vi (sx xs (i + 1)), vi (sx xs (i + 2))]) (st := []) mv_L_41 ko4 kd_0 rfl rfl rfl rfl rfl (t_X4_set (sx xs (i + 1)) (sx xs (i + 2)) h) e1 hL hh (avR_i (sx_R _ _) (avR_i (sx_R _ _) (fun _ q => by cases q))) dL_359 (fun q1 q2 q3 => ?_)
  refine v_aload2 dL_362 ?_
  refine v_arg (k := i + 1) (j := 1) rfl (by omega) hb.2 dL_363 dL_364 dL_365 dL_366 dL_367 ?_
  refine v_arg (k := i + 2) (j := 2) rfl (by omega) hb.2 dL_368 dL_369 dL_370 dL_371 dL_372 ?_
  refine v_call (as := [vi (sx xs (i + 1)), vi (sx xs (i + 2))]) (st := [vi r]) mv_L_45 ko5 kd_76 rfl rfl rfl rfl rfl (t_X5_set (sx xs (i + 1)) (sx xs (i + 2)) h1) e2 q2 q3 (avR_i (sx_R _ _) (avR_i (sx_R _ _) (fun _ q => by cases q))) dL_373 (fun q4 q5 q6 => ?_)
  refine v_eq (tg := 789) dL_376 (by omega) ?_
  exact kk h2 q5 q6 R2
theorem cs_umbrella {b L i : Nat} {xs : Nat → Int32} {N : Int} {h : Hp} (hb : i + 5 ≤ L ∧ L ≤ 2560) (hL : LI h) (hh : hR h) (R : Rel N h h) (hN : 0 ≤ N ∧ N ≤ 800000) (kk : ∀ h2, LI h2 → hR h2 → Rel (N + 60) h2 h2 → V b L xs 789 (i : Int) [] h2) : V b L xs 381 (i : Int) [] h := by
  obtain ⟨r, h1, h2, e1, e2, R2⟩ := pair (N' := N) (fc := fun h => f_X4_umbrella (sx xs (i + 1)) (sx xs (i + 2)) h) (fm := fun h => f_X5_umbrella (sx xs (i + 1)) (sx xs (i + 2)) h) R (by omega) (fun hM RM e77 => k_umbrella (by omega) RM)
  refine v_aload1 dL_381 ?_
  refine v_arg (k := i + 1) (j := 1) rfl (by omega) hb.2 dL_382 dL_383 dL_384 dL_385 dL_386 ?_
  refine v_arg (k := i + 2) (j := 2) rfl (by omega) hb.2 dL_387 dL_388 dL_389 dL_390 dL_391 ?_
  refine v_call (as := [vi (sx xs (i + 1)), vi (sx xs (i + 2))]) (st := []) mv_L_46 ko4 kd_0 rfl rfl rfl rfl rfl (t_X4_umbrella (sx xs (i + 1)) (sx xs (i + 2)) h) e1 hL hh (avR_i (sx_R _ _) (avR_i (sx_R _ _) (fun _ q => by cases q))) dL_392 (fun q1 q2 q3 => ?_)
  refine v_aload2 dL_395 ?_
  refine v_arg (k := i + 1) (j := 1) rfl (by omega) hb.2 dL_396 dL_397 dL_398 dL_399 dL_400 ?_
  refine v_arg (k := i + 2) (j := 2) rfl (by omega) hb.2 dL_401 dL_402 dL_403 dL_404 dL_405 ?_
  refine v_call (as := [vi (sx xs (i + 1)), vi (sx xs (i + 2))]) (st := [vi r]) mv_L_49 ko5 kd_76 rfl rfl rfl rfl rfl (t_X5_umbrella (sx xs (i + 1)) (sx xs (i + 2)) h1) e2 q2 q3 (avR_i (sx_R _ _) (avR_i (sx_R _ _) (fun _ q => by cases q))) dL_406 (fun q4 q5 q6 => ?_)
  refine v_eq (tg := 789) dL_409 (by omega) ?_
  exact kk h2 q5 q6 R2
theorem cs_claimOf {b L i : Nat} {xs : Nat → Int32} {N : Int} {h : Hp} (hb : i + 5 ≤ L ∧ L ≤ 2560) (hL : LI h) (hh : hR h) (R : Rel N h h) (hN : 0 ≤ N ∧ N ≤ 800000) (kk : ∀ h2, LI h2 → hR h2 → Rel (N + 60) h2 h2 → V b L xs 789 (i : Int) [] h2) : V b L xs 414 (i : Int) [] h := by
  obtain ⟨r, h1, h2, e1, e2, R2⟩ := pair (N' := N) (fc := fun h => f_X4_claimOf (sx xs (i + 1)) (sx xs (i + 2)) h) (fm := fun h => f_X5_claimOf (sx xs (i + 1)) (sx xs (i + 2)) h) R (by omega) (fun hM RM e77 => k_claimOf (by omega) RM)
  refine v_aload1 dL_414 ?_
  refine v_arg (k := i + 1) (j := 1) rfl (by omega) hb.2 dL_415 dL_416 dL_417 dL_418 dL_419 ?_
  refine v_arg (k := i + 2) (j := 2) rfl (by omega) hb.2 dL_420 dL_421 dL_422 dL_423 dL_424 ?_
  refine v_call (as := [vi (sx xs (i + 1)), vi (sx xs (i + 2))]) (st := []) mv_L_50 ko4 kd_0 rfl rfl rfl rfl rfl (t_X4_claimOf (sx xs (i + 1)) (sx xs (i + 2)) h) e1 hL hh (avR_i (sx_R _ _) (avR_i (sx_R _ _) (fun _ q => by cases q))) dL_425 (fun q1 q2 q3 => ?_)
  refine v_aload2 dL_428 ?_
  refine v_arg (k := i + 1) (j := 1) rfl (by omega) hb.2 dL_429 dL_430 dL_431 dL_432 dL_433 ?_
  refine v_arg (k := i + 2) (j := 2) rfl (by omega) hb.2 dL_434 dL_435 dL_436 dL_437 dL_438 ?_
  refine v_call (as := [vi (sx xs (i + 1)), vi (sx xs (i + 2))]) (st := [vi r]) mv_L_53 ko5 kd_76 rfl rfl rfl rfl rfl (t_X5_claimOf (sx xs (i + 1)) (sx xs (i + 2)) h1) e2 q2 q3 (avR_i (sx_R _ _) (avR_i (sx_R _ _) (fun _ q => by cases q))) dL_439 (fun q4 q5 q6 => ?_)
  refine v_eq (tg := 789) dL_442 (by omega) ?_
  exact kk h2 q5 q6 R2
theorem cs_points {b L i : Nat} {xs : Nat → Int32} {N : Int} {h : Hp} (hb : i + 5 ≤ L ∧ L ≤ 2560) (hL : LI h) (hh : hR h) (R : Rel N h h) (hN : 0 ≤ N ∧ N ≤ 800000) (kk : ∀ h2, LI h2 → hR h2 → Rel (N + 60) h2 h2 → V b L xs 789 (i : Int) [] h2) : V b L xs 447 (i : Int) [] h := by
  obtain ⟨r, h1, h2, e1, e2, R2⟩ := pair (N' := N) (fc := fun h => f_X4_points (sx xs (i + 1)) (sx xs (i + 2)) h) (fm := fun h => f_X5_points (sx xs (i + 1)) (sx xs (i + 2)) h) R (by omega) (fun hM RM e77 => k_points (by omega) RM)
  refine v_aload1 dL_447 ?_
  refine v_arg (k := i + 1) (j := 1) rfl (by omega) hb.2 dL_448 dL_449 dL_450 dL_451 dL_452 ?_
  refine v_arg (k := i + 2) (j := 2) rfl (by omega) hb.2 dL_453 dL_454 dL_455 dL_456 dL_457 ?_
  refine v_call (as := [vi (sx xs (i + 1)), vi (sx xs (i + 2))]) (st := []) mv_L_54 ko4 kd_0 rfl rfl rfl rfl rfl (t_X4_points (sx xs (i + 1)) (sx xs (i + 2)) h) e1 hL hh (avR_i (sx_R _ _) (avR_i (sx_R _ _) (fun _ q => by cases q))) dL_458 (fun q1 q2 q3 => ?_)
  refine v_aload2 dL_461 ?_
  refine v_arg (k := i + 1) (j := 1) rfl (by omega) hb.2 dL_462 dL_463 dL_464 dL_465 dL_466 ?_
  refine v_arg (k := i + 2) (j := 2) rfl (by omega) hb.2 dL_467 dL_468 dL_469 dL_470 dL_471 ?_
  refine v_call (as := [vi (sx xs (i + 1)), vi (sx xs (i + 2))]) (st := [vi r]) mv_L_57 ko5 kd_76 rfl rfl rfl rfl rfl (t_X5_points (sx xs (i + 1)) (sx xs (i + 2)) h1) e2 q2 q3 (avR_i (sx_R _ _) (avR_i (sx_R _ _) (fun _ q => by cases q))) dL_472 (fun q4 q5 q6 => ?_)
  refine v_eq (tg := 789) dL_475 (by omega) ?_
  exact kk h2 q5 q6 R2
theorem cs_having {b L i : Nat} {xs : Nat → Int32} {N : Int} {h : Hp} (hb : i + 5 ≤ L ∧ L ≤ 2560) (hL : LI h) (hh : hR h) (R : Rel N h h) (hN : 0 ≤ N ∧ N ≤ 800000) (kk : ∀ h2, LI h2 → hR h2 → Rel (N + 60) h2 h2 → V b L xs 789 (i : Int) [] h2) : V b L xs 480 (i : Int) [] h := by
  obtain ⟨r, h1, h2, e1, e2, R2⟩ := pair (N' := N) (fc := fun h => f_X4_having (sx xs (i + 1)) (sx xs (i + 2)) h) (fm := fun h => f_X5_having (sx xs (i + 1)) (sx xs (i + 2)) h) R (by omega) (fun hM RM e77 => k_having RM)
  refine v_aload1 dL_480 ?_
  refine v_arg (k := i + 1) (j := 1) rfl (by omega) hb.2 dL_481 dL_482 dL_483 dL_484 dL_485 ?_
  refine v_arg (k := i + 2) (j := 2) rfl (by omega) hb.2 dL_486 dL_487 dL_488 dL_489 dL_490 ?_
  refine v_call (as := [vi (sx xs (i + 1)), vi (sx xs (i + 2))]) (st := []) mv_L_58 ko4 kd_0 rfl rfl rfl rfl rfl (t_X4_having (sx xs (i + 1)) (sx xs (i + 2)) h) e1 hL hh (avR_i (sx_R _ _) (avR_i (sx_R _ _) (fun _ q => by cases q))) dL_491 (fun q1 q2 q3 => ?_)
  refine v_aload2 dL_494 ?_
  refine v_arg (k := i + 1) (j := 1) rfl (by omega) hb.2 dL_495 dL_496 dL_497 dL_498 dL_499 ?_
  refine v_arg (k := i + 2) (j := 2) rfl (by omega) hb.2 dL_500 dL_501 dL_502 dL_503 dL_504 ?_
  refine v_call (as := [vi (sx xs (i + 1)), vi (sx xs (i + 2))]) (st := [vi r]) mv_L_61 ko5 kd_76 rfl rfl rfl rfl rfl (t_X5_having (sx xs (i + 1)) (sx xs (i + 2)) h1) e2 q2 q3 (avR_i (sx_R _ _) (avR_i (sx_R _ _) (fun _ q => by cases q))) dL_505 (fun q4 q5 q6 => ?_)
  refine v_eq (tg := 789) dL_508 (by omega) ?_
  exact kk h2 q5 q6 R2
theorem cs_book {b L i : Nat} {xs : Nat → Int32} {N : Int} {h : Hp} (hb : i + 5 ≤ L ∧ L ≤ 2560) (hL : LI h) (hh : hR h) (R : Rel N h h) (hN : 0 ≤ N ∧ N ≤ 800000) (kk : ∀ h2, LI h2 → hR h2 → Rel (N + 60) h2 h2 → V b L xs 789 (i : Int) [] h2) : V b L xs 513 (i : Int) [] h := by
  obtain ⟨r, h1, h2, e1, e2, R2⟩ := pair (N' := N) (fc := fun h => f_X4_book (sx xs (i + 1)) (sx xs (i + 2)) h) (fm := fun h => f_X5_book (sx xs (i + 1)) (sx xs (i + 2)) h) R (by omega) (fun hM RM e77 => k_book (by have := (sx_R xs (i + 1)).2; omega) RM)
  refine v_aload1 dL_513 ?_
  refine v_arg (k := i + 1) (j := 1) rfl (by omega) hb.2 dL_514 dL_515 dL_516 dL_517 dL_518 ?_
  refine v_arg (k := i + 2) (j := 2) rfl (by omega) hb.2 dL_519 dL_520 dL_521 dL_522 dL_523 ?_
  refine v_call (as := [vi (sx xs (i + 1)), vi (sx xs (i + 2))]) (st := []) mv_L_62 ko4 kd_0 rfl rfl rfl rfl rfl (t_X4_book (sx xs (i + 1)) (sx xs (i + 2)) h) e1 hL hh (avR_i (sx_R _ _) (avR_i (sx_R _ _) (fun _ q => by cases q))) dL_524 (fun q1 q2 q3 => ?_)
  refine v_aload2 dL_527 ?_
  refine v_arg (k := i + 1) (j := 1) rfl (by omega) hb.2 dL_528 dL_529 dL_530 dL_531 dL_532 ?_
  refine v_arg (k := i + 2) (j := 2) rfl (by omega) hb.2 dL_533 dL_534 dL_535 dL_536 dL_537 ?_
  refine v_call (as := [vi (sx xs (i + 1)), vi (sx xs (i + 2))]) (st := [vi r]) mv_L_65 ko5 kd_76 rfl rfl rfl rfl rfl (t_X5_book (sx xs (i + 1)) (sx xs (i + 2)) h1) e2 q2 q3 (avR_i (sx_R _ _) (avR_i (sx_R _ _) (fun _ q => by cases q))) dL_538 (fun q4 q5 q6 => ?_)
  refine v_eq (tg := 789) dL_541 (by omega) ?_
  exact kk h2 q5 q6 R2
theorem cs_why {b L i : Nat} {xs : Nat → Int32} {N : Int} {h : Hp} (hb : i + 5 ≤ L ∧ L ≤ 2560) (hL : LI h) (hh : hR h) (R : Rel N h h) (hN : 0 ≤ N ∧ N ≤ 800000) (kk : ∀ h2, LI h2 → hR h2 → Rel (N + 60) h2 h2 → V b L xs 789 (i : Int) [] h2) : V b L xs 546 (i : Int) [] h := by
  obtain ⟨r, h1, h2, e1, e2, R2⟩ := pair (N' := N) (fc := fun h => f_X4_why (sx xs (i + 1)) (sx xs (i + 2)) h) (fm := fun h => f_X5_why (sx xs (i + 1)) (sx xs (i + 2)) h) R (by omega) (fun hM RM e77 => k_why (by omega) RM)
  refine v_aload1 dL_546 ?_
  refine v_arg (k := i + 1) (j := 1) rfl (by omega) hb.2 dL_547 dL_548 dL_549 dL_550 dL_551 ?_
  refine v_arg (k := i + 2) (j := 2) rfl (by omega) hb.2 dL_552 dL_553 dL_554 dL_555 dL_556 ?_
  refine v_call (as := [vi (sx xs (i + 1)), vi (sx xs (i + 2))]) (st := []) mv_L_66 ko4 kd_0 rfl rfl rfl rfl rfl (t_X4_why (sx xs (i + 1)) (sx xs (i + 2)) h) e1 hL hh (avR_i (sx_R _ _) (avR_i (sx_R _ _) (fun _ q => by cases q))) dL_557 (fun q1 q2 q3 => ?_)
  refine v_aload2 dL_560 ?_
  refine v_arg (k := i + 1) (j := 1) rfl (by omega) hb.2 dL_561 dL_562 dL_563 dL_564 dL_565 ?_
  refine v_arg (k := i + 2) (j := 2) rfl (by omega) hb.2 dL_566 dL_567 dL_568 dL_569 dL_570 ?_
  refine v_call (as := [vi (sx xs (i + 1)), vi (sx xs (i + 2))]) (st := [vi r]) mv_L_69 ko5 kd_76 rfl rfl rfl rfl rfl (t_X5_why (sx xs (i + 1)) (sx xs (i + 2)) h1) e2 q2 q3 (avR_i (sx_R _ _) (avR_i (sx_R _ _) (fun _ q => by cases q))) dL_571 (fun q4 q5 q6 => ?_)
  refine v_eq (tg := 789) dL_574 (by omega) ?_
  exact kk h2 q5 q6 R2
theorem cs_ifTold {b L i : Nat} {xs : Nat → Int32} {N : Int} {h : Hp} (hb : i + 5 ≤ L ∧ L ≤ 2560) (hL : LI h) (hh : hR h) (R : Rel N h h) (hN : 0 ≤ N ∧ N ≤ 800000) (kk : ∀ h2, LI h2 → hR h2 → Rel (N + 60) h2 h2 → V b L xs 789 (i : Int) [] h2) : V b L xs 579 (i : Int) [] h := by
  obtain ⟨r, h1, h2, e1, e2, R2⟩ := pair (N' := N) (fc := fun h => f_X4_ifTold (sx xs (i + 1)) (sx xs (i + 2)) (sx xs (i + 3)) h) (fm := fun h => f_X5_ifTold (sx xs (i + 1)) (sx xs (i + 2)) (sx xs (i + 3)) h) R (by omega) (fun hM RM e77 => k_ifTold (by omega) RM)
  refine v_aload1 dL_579 ?_
  refine v_arg (k := i + 1) (j := 1) rfl (by omega) hb.2 dL_580 dL_581 dL_582 dL_583 dL_584 ?_
  refine v_arg (k := i + 2) (j := 2) rfl (by omega) hb.2 dL_585 dL_586 dL_587 dL_588 dL_589 ?_
  refine v_arg (k := i + 3) (j := 3) rfl (by omega) hb.2 dL_590 dL_591 dL_592 dL_593 dL_594 ?_
  refine v_call (as := [vi (sx xs (i + 1)), vi (sx xs (i + 2)), vi (sx xs (i + 3))]) (st := []) mv_L_70 ko4 kd_0 rfl rfl rfl rfl rfl (t_X4_ifTold (sx xs (i + 1)) (sx xs (i + 2)) (sx xs (i + 3)) h) e1 hL hh (avR_i (sx_R _ _) (avR_i (sx_R _ _) (avR_i (sx_R _ _) (fun _ q => by cases q)))) dL_595 (fun q1 q2 q3 => ?_)
  refine v_aload2 dL_598 ?_
  refine v_arg (k := i + 1) (j := 1) rfl (by omega) hb.2 dL_599 dL_600 dL_601 dL_602 dL_603 ?_
  refine v_arg (k := i + 2) (j := 2) rfl (by omega) hb.2 dL_604 dL_605 dL_606 dL_607 dL_608 ?_
  refine v_arg (k := i + 3) (j := 3) rfl (by omega) hb.2 dL_609 dL_610 dL_611 dL_612 dL_613 ?_
  refine v_call (as := [vi (sx xs (i + 1)), vi (sx xs (i + 2)), vi (sx xs (i + 3))]) (st := [vi r]) mv_L_73 ko5 kd_76 rfl rfl rfl rfl rfl (t_X5_ifTold (sx xs (i + 1)) (sx xs (i + 2)) (sx xs (i + 3)) h1) e2 q2 q3 (avR_i (sx_R _ _) (avR_i (sx_R _ _) (avR_i (sx_R _ _) (fun _ q => by cases q)))) dL_614 (fun q4 q5 q6 => ?_)
  refine v_eq (tg := 789) dL_617 (by omega) ?_
  exact kk h2 q5 q6 R2
theorem cs_oddest {b L i : Nat} {xs : Nat → Int32} {N : Int} {h : Hp} (hb : i + 5 ≤ L ∧ L ≤ 2560) (hL : LI h) (hh : hR h) (R : Rel N h h) (hN : 0 ≤ N ∧ N ≤ 800000) (kk : ∀ h2, LI h2 → hR h2 → Rel (N + 60) h2 h2 → V b L xs 789 (i : Int) [] h2) : V b L xs 622 (i : Int) [] h := by
  obtain ⟨r, h1, h2, e1, e2, R2⟩ := pair (N' := N) (fc := fun h => f_X4_oddest  h) (fm := fun h => f_X5_oddest  h) R (by omega) (fun hM RM e77 => k_oddest RM)
  refine v_aload1 dL_622 ?_
  refine v_call (as := []) (st := []) mv_L_74 ko4 kd_0 rfl rfl rfl rfl rfl (t_X4_oddest  h) e1 hL hh (fun _ q => by cases q) dL_623 (fun q1 q2 q3 => ?_)
  refine v_aload2 dL_626 ?_
  refine v_call (as := []) (st := [vi r]) mv_L_77 ko5 kd_76 rfl rfl rfl rfl rfl (t_X5_oddest  h1) e2 q2 q3 (fun _ q => by cases q) dL_627 (fun q4 q5 q6 => ?_)
  refine v_eq (tg := 789) dL_630 (by omega) ?_
  exact kk h2 q5 q6 R2
theorem cs_ifWeeks {b L i : Nat} {xs : Nat → Int32} {N : Int} {h : Hp} (hb : i + 5 ≤ L ∧ L ≤ 2560) (hL : LI h) (hh : hR h) (R : Rel N h h) (hN : 0 ≤ N ∧ N ≤ 800000) (kk : ∀ h2, LI h2 → hR h2 → Rel (N + 60) h2 h2 → V b L xs 789 (i : Int) [] h2) : V b L xs 635 (i : Int) [] h := by
  obtain ⟨r, h1, h2, e1, e2, R2⟩ := pair (N' := N) (fc := fun h => f_X4_ifWeeks (sx xs (i + 1)) (sx xs (i + 2)) h) (fm := fun h => f_X5_ifWeeks (sx xs (i + 1)) (sx xs (i + 2)) h) R (by omega) (fun hM RM e77 => k_ifWeeks (by omega) RM)
  refine v_aload1 dL_635 ?_
  refine v_arg (k := i + 1) (j := 1) rfl (by omega) hb.2 dL_636 dL_637 dL_638 dL_639 dL_640 ?_
  refine v_arg (k := i + 2) (j := 2) rfl (by omega) hb.2 dL_641 dL_642 dL_643 dL_644 dL_645 ?_
  refine v_call (as := [vi (sx xs (i + 1)), vi (sx xs (i + 2))]) (st := []) mv_L_78 ko4 kd_0 rfl rfl rfl rfl rfl (t_X4_ifWeeks (sx xs (i + 1)) (sx xs (i + 2)) h) e1 hL hh (avR_i (sx_R _ _) (avR_i (sx_R _ _) (fun _ q => by cases q))) dL_646 (fun q1 q2 q3 => ?_)
  refine v_aload2 dL_649 ?_
  refine v_arg (k := i + 1) (j := 1) rfl (by omega) hb.2 dL_650 dL_651 dL_652 dL_653 dL_654 ?_
  refine v_arg (k := i + 2) (j := 2) rfl (by omega) hb.2 dL_655 dL_656 dL_657 dL_658 dL_659 ?_
  refine v_call (as := [vi (sx xs (i + 1)), vi (sx xs (i + 2))]) (st := [vi r]) mv_L_81 ko5 kd_76 rfl rfl rfl rfl rfl (t_X5_ifWeeks (sx xs (i + 1)) (sx xs (i + 2)) h1) e2 q2 q3 (avR_i (sx_R _ _) (avR_i (sx_R _ _) (fun _ q => by cases q))) dL_660 (fun q4 q5 q6 => ?_)
  refine v_eq (tg := 789) dL_663 (by omega) ?_
  exact kk h2 q5 q6 R2
theorem cs_mean {b L i : Nat} {xs : Nat → Int32} {N : Int} {h : Hp} (hb : i + 5 ≤ L ∧ L ≤ 2560) (hL : LI h) (hh : hR h) (R : Rel N h h) (hN : 0 ≤ N ∧ N ≤ 800000) (kk : ∀ h2, LI h2 → hR h2 → Rel (N + 60) h2 h2 → V b L xs 789 (i : Int) [] h2) : V b L xs 668 (i : Int) [] h := by
  obtain ⟨r, h1, h2, e1, e2, R2⟩ := pair (N' := N) (fc := fun h => f_X4_mean  h) (fm := fun h => f_X5_mean  h) R (by omega) (fun hM RM e77 => k_mean (by omega) RM)
  refine v_aload1 dL_668 ?_
  refine v_call (as := []) (st := []) mv_L_82 ko4 kd_0 rfl rfl rfl rfl rfl (t_X4_mean  h) e1 hL hh (fun _ q => by cases q) dL_669 (fun q1 q2 q3 => ?_)
  refine v_aload2 dL_672 ?_
  refine v_call (as := []) (st := [vi r]) mv_L_85 ko5 kd_76 rfl rfl rfl rfl rfl (t_X5_mean  h1) e2 q2 q3 (fun _ q => by cases q) dL_673 (fun q4 q5 q6 => ?_)
  refine v_eq (tg := 789) dL_676 (by omega) ?_
  exact kk h2 q5 q6 R2
theorem cs_count {b L i : Nat} {xs : Nat → Int32} {N : Int} {h : Hp} (hb : i + 5 ≤ L ∧ L ≤ 2560) (hL : LI h) (hh : hR h) (R : Rel N h h) (hN : 0 ≤ N ∧ N ≤ 800000) (kk : ∀ h2, LI h2 → hR h2 → Rel (N + 60) h2 h2 → V b L xs 789 (i : Int) [] h2) : V b L xs 681 (i : Int) [] h := by
  obtain ⟨r, h1, h2, e1, e2, R2⟩ := pair (N' := N) (fc := fun h => f_X4_count (sx xs (i + 1)) h) (fm := fun h => f_X5_count (sx xs (i + 1)) h) R (by omega) (fun hM RM e77 => k_count (by omega) RM)
  refine v_aload1 dL_681 ?_
  refine v_arg (k := i + 1) (j := 1) rfl (by omega) hb.2 dL_682 dL_683 dL_684 dL_685 dL_686 ?_
  refine v_call (as := [vi (sx xs (i + 1))]) (st := []) mv_L_86 ko4 kd_0 rfl rfl rfl rfl rfl (t_X4_count (sx xs (i + 1)) h) e1 hL hh (avR_i (sx_R _ _) (fun _ q => by cases q)) dL_687 (fun q1 q2 q3 => ?_)
  refine v_aload2 dL_690 ?_
  refine v_arg (k := i + 1) (j := 1) rfl (by omega) hb.2 dL_691 dL_692 dL_693 dL_694 dL_695 ?_
  refine v_call (as := [vi (sx xs (i + 1))]) (st := [vi r]) mv_L_89 ko5 kd_76 rfl rfl rfl rfl rfl (t_X5_count (sx xs (i + 1)) h1) e2 q2 q3 (avR_i (sx_R _ _) (fun _ q => by cases q)) dL_696 (fun q4 q5 q6 => ?_)
  refine v_eq (tg := 789) dL_699 (by omega) ?_
  exact kk h2 q5 q6 R2
theorem cs_undo {b L i : Nat} {xs : Nat → Int32} {N : Int} {h : Hp} (hb : i + 5 ≤ L ∧ L ≤ 2560) (hL : LI h) (hh : hR h) (R : Rel N h h) (hN : 0 ≤ N ∧ N ≤ 800000) (kk : ∀ h2, LI h2 → hR h2 → Rel (N + 60) h2 h2 → V b L xs 789 (i : Int) [] h2) : V b L xs 704 (i : Int) [] h := by
  obtain ⟨r, h1, h2, e1, e2, R2⟩ := pair (N' := N) (fc := fun h => f_X4_undo  h) (fm := fun h => f_X5_undo  h) R (by omega) (fun hM RM e77 => k_undo RM)
  refine v_aload1 dL_704 ?_
  refine v_call (as := []) (st := []) mv_L_90 ko4 kd_0 rfl rfl rfl rfl rfl (t_X4_undo  h) e1 hL hh (fun _ q => by cases q) dL_705 (fun q1 q2 q3 => ?_)
  refine v_aload2 dL_708 ?_
  refine v_call (as := []) (st := [vi r]) mv_L_93 ko5 kd_76 rfl rfl rfl rfl rfl (t_X5_undo  h1) e2 q2 q3 (fun _ q => by cases q) dL_709 (fun q4 q5 q6 => ?_)
  refine v_eq (tg := 789) dL_712 (by omega) ?_
  exact kk h2 q5 q6 R2
theorem cs_type {b L i : Nat} {xs : Nat → Int32} {N : Int} {h : Hp} (hb : i + 5 ≤ L ∧ L ≤ 2560) (hL : LI h) (hh : hR h) (R : Rel N h h) (hN : 0 ≤ N ∧ N ≤ 800000) (kk : ∀ h2, LI h2 → hR h2 → Rel (N + 60) h2 h2 → V b L xs 789 (i : Int) [] h2) : V b L xs 717 (i : Int) [] h := by
  obtain ⟨r, h1, h2, e1, e2, R2⟩ := pair (N' := N) (fc := fun h => f_X4_type (sx xs (i + 1)) h) (fm := fun h => f_X5_type (sx xs (i + 1)) h) R (by omega) (fun hM RM e77 => k_type RM)
  refine v_aload1 dL_717 ?_
  refine v_arg (k := i + 1) (j := 1) rfl (by omega) hb.2 dL_718 dL_719 dL_720 dL_721 dL_722 ?_
  refine v_call (as := [vi (sx xs (i + 1))]) (st := []) mv_L_94 ko4 kd_0 rfl rfl rfl rfl rfl (t_X4_type (sx xs (i + 1)) h) e1 hL hh (avR_i (sx_R _ _) (fun _ q => by cases q)) dL_723 (fun q1 q2 q3 => ?_)
  refine v_aload2 dL_726 ?_
  refine v_arg (k := i + 1) (j := 1) rfl (by omega) hb.2 dL_727 dL_728 dL_729 dL_730 dL_731 ?_
  refine v_call (as := [vi (sx xs (i + 1))]) (st := [vi r]) mv_L_97 ko5 kd_76 rfl rfl rfl rfl rfl (t_X5_type (sx xs (i + 1)) h1) e2 q2 q3 (avR_i (sx_R _ _) (fun _ q => by cases q)) dL_732 (fun q4 q5 q6 => ?_)
  refine v_eq (tg := 789) dL_735 (by omega) ?_
  exact kk h2 q5 q6 R2
theorem cs_clearText {b L i : Nat} {xs : Nat → Int32} {N : Int} {h : Hp} (hb : i + 5 ≤ L ∧ L ≤ 2560) (hL : LI h) (hh : hR h) (R : Rel N h h) (hN : 0 ≤ N ∧ N ≤ 800000) (kk : ∀ h2, LI h2 → hR h2 → Rel (N + 60) h2 h2 → V b L xs 789 (i : Int) [] h2) : V b L xs 740 (i : Int) [] h := by
  obtain ⟨r, h1, h2, e1, e2, R2⟩ := pair (N' := N) (fc := fun h => f_X4_clearText  h) (fm := fun h => f_X5_clearText  h) R (by omega) (fun hM RM e77 => k_clear RM)
  refine v_aload1 dL_740 ?_
  refine v_call (as := []) (st := []) mv_L_98 ko4 kd_0 rfl rfl rfl rfl rfl (t_X4_clearText  h) e1 hL hh (fun _ q => by cases q) dL_741 (fun q1 q2 q3 => ?_)
  refine v_aload2 dL_744 ?_
  refine v_call (as := []) (st := [vi r]) mv_L_101 ko5 kd_76 rfl rfl rfl rfl rfl (t_X5_clearText  h1) e2 q2 q3 (fun _ q => by cases q) dL_745 (fun q4 q5 q6 => ?_)
  refine v_eq (tg := 789) dL_748 (by omega) ?_
  exact kk h2 q5 q6 R2
theorem cs_fault {b L i : Nat} {xs : Nat → Int32} {N : Int} {h : Hp} (hb : i + 5 ≤ L ∧ L ≤ 2560) (hL : LI h) (hh : hR h) (R : Rel N h h) (hN : 0 ≤ N ∧ N ≤ 800000) (kk : ∀ h2, LI h2 → hR h2 → Rel (N + 60) h2 h2 → V b L xs 789 (i : Int) [] h2) : V b L xs 753 (i : Int) [] h := by
  obtain ⟨r, h1, h2, e1, e2, R2⟩ := pair (N' := N) (fc := fun h => f_X4_fault (sx xs (i + 1)) h) (fm := fun h => f_X5_fault (sx xs (i + 1)) h) R (by omega) (fun hM RM e77 => k_fault ⟨hN.1, by omega⟩ (by rw [e77]; exact hh 77 10) RM)
  refine v_aload1 dL_753 ?_
  refine v_arg (k := i + 1) (j := 1) rfl (by omega) hb.2 dL_754 dL_755 dL_756 dL_757 dL_758 ?_
  refine v_call (as := [vi (sx xs (i + 1))]) (st := []) mv_L_102 ko4 kd_0 rfl rfl rfl rfl rfl (t_X4_fault (sx xs (i + 1)) h) e1 hL hh (avR_i (sx_R _ _) (fun _ q => by cases q)) dL_759 (fun q1 q2 q3 => ?_)
  refine v_aload2 dL_762 ?_
  refine v_arg (k := i + 1) (j := 1) rfl (by omega) hb.2 dL_763 dL_764 dL_765 dL_766 dL_767 ?_
  refine v_call (as := [vi (sx xs (i + 1))]) (st := [vi r]) mv_L_105 ko5 kd_76 rfl rfl rfl rfl rfl (t_X5_fault (sx xs (i + 1)) h1) e2 q2 q3 (avR_i (sx_R _ _) (fun _ q => by cases q)) dL_768 (fun q4 q5 q6 => ?_)
  refine v_eq (tg := 789) dL_771 (by omega) ?_
  exact kk h2 q5 q6 R2
theorem cs_play {b L i : Nat} {xs : Nat → Int32} {N : Int} {h : Hp} (hb : i + 5 ≤ L ∧ L ≤ 2560) (hL : LI h) (hh : hR h) (R : Rel N h h) (hN : 0 ≤ N ∧ N ≤ 800000) (kk : ∀ h2, LI h2 → hR h2 → Rel (N + 60) h2 h2 → V b L xs 789 (i : Int) [] h2) : V b L xs 776 (i : Int) [] h := by
  obtain ⟨r, h1, h2, e1, e2, R2⟩ := pair (N' := N + 60) (fc := fun h => f_X4_play  h) (fm := fun h => f_X5_play  h) R (by omega) (fun hM RM e77 => k_play ⟨hN.1, by omega⟩ (by rw [e77]; exact hh 77 10) RM)
  refine v_aload1 dL_776 ?_
  refine v_call (as := []) (st := []) mv_L_106 ko4 kd_0 rfl rfl rfl rfl rfl (t_X4_play  h) e1 hL hh (fun _ q => by cases q) dL_777 (fun q1 q2 q3 => ?_)
  refine v_aload2 dL_780 ?_
  refine v_call (as := []) (st := [vi r]) mv_L_109 ko5 kd_76 rfl rfl rfl rfl rfl (t_X5_play  h1) e2 q2 q3 (fun _ q => by cases q) dL_781 (fun q4 q5 q6 => ?_)
  refine v_eq (tg := 789) dL_784 (by omega) ?_
  exact kk h2 q5 q6 R2
theorem v_and {b L : Nat} {xs : Nat → Int32} {pc k : Nat} {i : Int} {st : List AV} {h : Hp} (hd : decode code pc = .ok (.iand, 1)) (kk : V b L xs (pc + 1) i (vi ((xs k &&& 31).toInt) :: st) h) : V b L xs pc i (vi 31 :: vi (sx xs k) :: st) h := by
  refine V.pure ?_ kk
  intro p l e s m below meth c base D ca ad H locs la Q C LL _ kk
  have e1 : mv ad (vi (sx xs k)) = .int (xs k) := by
    show Value.int (Int32.ofInt (xs k).toInt) = _
    rw [Int32.ofInt_toInt]
  have e2 : mv ad (vi ((xs k &&& 31).toInt)) = .int (xs k &&& 31) := by
    show Value.int (Int32.ofInt (xs k &&& 31).toInt) = _
    rw [Int32.ofInt_toInt]
  rw [List.map_cons, e2] at kk
  rw [List.map_cons, List.map_cons, e1]
  exact lv_iand C.1 C.2.1 hd kk
theorem v_table {b L : Nat} {xs : Nat → Int32} {pc tg len : Nat} {i x lo hi dd o : Int} {offs : Array Int} {st : List AV} {h : Hp} (rx : iR x) (hd : decode code pc = .ok (.tableswitch dd lo hi offs, len)) (hs : swO (.tableswitch dd lo hi offs) x = some o) (ht : (pc : Int) + o = (tg : Int)) (kk : V b L xs tg i st h) : V b L xs pc i (vi x :: st) h := by
  refine V.pure ?_ kk
  intro p l e s m below meth c base D ca ad H locs la Q C LL _ kk
  unfold swO at hs
  dsimp only at hs
  by_cases hx : x < lo ∨ hi < x
  · rw [if_pos hx] at hs
    cases hs
    exact lv_tableOut C.1 C.2.1 hd (by rw [ofI_T rx]; exact hx) ht kk
  · rw [if_neg hx] at hs
    exact lv_tableIn C.1 C.2.1 hd (by rw [ofI_T rx]; omega) (by rw [ofI_T rx]; omega) (by rw [ofI_T rx]; exact hs) ht kk
theorem law_loop {b L : Nat} {xs : Nat → Int32} (hL5 : L ≤ 2560) : ∀ (m i : Nat) (N : Int) (h : Hp), L < i + 5 * m + 5 → i ≤ 2560 → 0 ≤ N → N + 60 * m ≤ 800000 → LI h → hR h → Rel N h h → V b L xs 18 (i : Int) [] h := by
  have stop : ∀ (i : Nat) (h : Hp), L < i + 5 → i ≤ 2560 → V b L xs 18 (i : Int) [] h := fun i h q q2 => by
    refine v_iload3 dL_18 ?_
    refine v_aload0 dL_19 ?_
    refine v_len dL_20 ?_
    refine v_iconst dL_21 ?_
    refine v_isub dL_22 ?_
    refine v_gt_t (tg := 795) ⟨by omega, by omega⟩ ⟨by omega, by omega⟩ (by omega) dL_23 (by omega) ?_
    exact v_end dL_795 dL_796
  intro m
  induction m with
  | zero => intro i N h q q2 _ _ _ _ _; exact stop i h (by omega) q2
  | succ m ih =>
    intro i N h q q2 n0 n1 hLI hh R
    by_cases c : L < i + 5
    · exact stop i h c q2
    have nxt : ∀ h2, LI h2 → hR h2 → Rel (N + 60) h2 h2 → V b L xs 789 (i : Int) [] h2 := fun h2 a1 a2 a3 => by
      refine v_inc dL_789 ?_
      refine v_goto (tg := 18) dL_792 (by omega) ?_
      rw [show (i : Int) + 5 = ((i + 5 : Nat) : Int) by omega]
      exact ih (i + 5) (N + 60) h2 (by omega) (by omega) (by omega) (by omega) a1 a2 a3
    refine v_iload3 dL_18 ?_
    refine v_aload0 dL_19 ?_
    refine v_len dL_20 ?_
    refine v_iconst dL_21 ?_
    refine v_isub dL_22 ?_
    refine v_gt_f (tg := 795) ⟨by omega, by omega⟩ ⟨by omega, by omega⟩ (by omega) dL_23 (by omega) ?_
    refine v_aload0 dL_26 ?_
    refine v_iload3 dL_27 ?_
    refine v_iaload (k := i) (by omega) hL5 dL_28 ?_
    refine v_bipush (by omega) dL_29 ?_
    refine v_and dL_31 ?_
    have rx : iR ((xs i &&& 31).toInt) := ⟨Int32.le_toInt _, Int32.toInt_lt _⟩
    generalize (xs i &&& 31).toInt = t at rx ⊢
    have hb : i + 5 ≤ L ∧ L ≤ 2560 := ⟨by omega, hL5⟩
    have hN : 0 ≤ N ∧ N ≤ 800000 := ⟨n0, by omega⟩
    by_cases out : t < 0 ∨ 22 < t
    · refine v_table (tg := 789) (o := 757) rx dL_32 ?_ (by omega) ?_
      · unfold swO
        dsimp only
        rw [if_pos out]
      · exact nxt h hLI hh (R.mono (by omega))
    rcases (show t = 0 ∨ t = 1 ∨ t = 2 ∨ t = 3 ∨ t = 4 ∨ t = 5 ∨ t = 6 ∨ t = 7 ∨ t = 8 ∨ t = 9 ∨ t = 10 ∨ t = 11 ∨ t = 12 ∨ t = 13 ∨ t = 14 ∨ t = 15 ∨ t = 16 ∨ t = 17 ∨ t = 18 ∨ t = 19 ∨ t = 20 ∨ t = 21 ∨ t = 22 by omega) with rfl | rfl | rfl | rfl | rfl | rfl | rfl | rfl | rfl | rfl | rfl | rfl | rfl | rfl | rfl | rfl | rfl | rfl | rfl | rfl | rfl | rfl | rfl
    · exact v_table (tg := 140) (o := 108) rx dL_32 rfl (by omega) (cs_find hb hLI hh R hN nxt)
    · exact v_table (tg := 193) (o := 161) rx dL_32 rfl (by omega) (cs_claim hb hLI hh R hN nxt)
    · exact v_table (tg := 246) (o := 214) rx dL_32 rfl (by omega) (cs_tell hb hLI hh R hN nxt)
    · exact v_table (tg := 289) (o := 257) rx dL_32 rfl (by omega) (cs_drop hb hLI hh R hN nxt)
    · exact v_table (tg := 312) (o := 280) rx dL_32 rfl (by omega) (cs_weeks hb hLI hh R hN nxt)
    · exact v_table (tg := 335) (o := 303) rx dL_32 rfl (by omega) (cs_hand hb hLI hh R hN nxt)
    · exact v_table (tg := 348) (o := 316) rx dL_32 rfl (by omega) (cs_set hb hLI hh R hN nxt)
    · exact v_table (tg := 381) (o := 349) rx dL_32 rfl (by omega) (cs_umbrella hb hLI hh R hN nxt)
    · exact v_table (tg := 414) (o := 382) rx dL_32 rfl (by omega) (cs_claimOf hb hLI hh R hN nxt)
    · exact v_table (tg := 447) (o := 415) rx dL_32 rfl (by omega) (cs_points hb hLI hh R hN nxt)
    · exact v_table (tg := 480) (o := 448) rx dL_32 rfl (by omega) (cs_having hb hLI hh R hN nxt)
    · exact v_table (tg := 513) (o := 481) rx dL_32 rfl (by omega) (cs_book hb hLI hh R hN nxt)
    · exact v_table (tg := 546) (o := 514) rx dL_32 rfl (by omega) (cs_why hb hLI hh R hN nxt)
    · exact v_table (tg := 579) (o := 547) rx dL_32 rfl (by omega) (cs_ifTold hb hLI hh R hN nxt)
    · exact v_table (tg := 622) (o := 590) rx dL_32 rfl (by omega) (cs_oddest hb hLI hh R hN nxt)
    · exact v_table (tg := 635) (o := 603) rx dL_32 rfl (by omega) (cs_ifWeeks hb hLI hh R hN nxt)
    · exact v_table (tg := 668) (o := 636) rx dL_32 rfl (by omega) (cs_mean hb hLI hh R hN nxt)
    · exact v_table (tg := 681) (o := 649) rx dL_32 rfl (by omega) (cs_count hb hLI hh R hN nxt)
    · exact v_table (tg := 704) (o := 672) rx dL_32 rfl (by omega) (cs_undo hb hLI hh R hN nxt)
    · exact v_table (tg := 717) (o := 685) rx dL_32 rfl (by omega) (cs_type hb hLI hh R hN nxt)
    · exact v_table (tg := 740) (o := 708) rx dL_32 rfl (by omega) (cs_clearText hb hLI hh R hN nxt)
    · exact v_table (tg := 753) (o := 721) rx dL_32 rfl (by omega) (cs_fault hb hLI hh R hN nxt)
    · exact v_table (tg := 776) (o := 744) rx dL_32 rfl (by omega) (cs_play hb hLI hh R hN nxt)
end Law2
