abbrev lvL (i : Nat) : List (Nat × Value) := [(3, .int (nI i)), (2, .ref 95), (1, .ref 0), (0, .ref 1000000)]
section LA
variable {S : Nat × (Nat → Int32)} {pc i k : Nat} {z : Int} {st : List Value} {I : mI} {J : mJ} {R : mR} {n : Nat}
theorem l_arg (hS : S.1 ≤ 3072) (hi : i + 6 ≤ S.1) (hk : k < 6) (hz : Int32.ofInt z = nI k) (d0 : decode YL.2.1 pc = .ok (.aload_n 0, 1)) (d1 : decode YL.2.1 (pc + 1) = .ok (.iload_n 3, 1)) (d2 : decode YL.2.1 (pc + 1 + 1) = .ok (.iconst z, 1)) (d3 : decode YL.2.1 (pc + 1 + 1 + 1) = .ok (.iadd, 1)) (d4 : decode YL.2.1 (pc + 1 + 1 + 1 + 1) = .ok (.iaload, 1)) (kk : LW S (pc + 1 + 1 + 1 + 1 + 1) (lvL i) (.int (S.2 (i + k)) :: st) I J R n) : LW S pc (lvL i) st I J R n := by
  refine l_aload_n 3 d0 rfl rfl ?_
  refine l_iload_n 0 d1 rfl rfl ?_
  refine l_iconst d2 hz ?_
  refine l_iadd d3 ?_
  have e : nI i + nI k = nI (i + k) := (Int32.ofNat_add i k).symm
  rw [e]
  refine l_sald d4 (vp_in_nI (by omega) (by omega)) ?_
  rw [nI_clamp (by omega)]
  exact kk
theorem l_bool {lv : List (Nat × Value)} {v : Int32} (d0 : decode YL.2.1 pc = .ok (.ifCond .eq 7, 3)) (d1 : decode YL.2.1 (pc + 3) = .ok (.iconst 1, 1)) (d2 : decode YL.2.1 (pc + 3 + 1) = .ok (.goto 4, 3)) (d3 : decode YL.2.1 (pc + 7) = .ok (.iconst 0, 1)) (kk : LW S (pc + 8) lv (.int (if v = 0 then 0 else 1) :: st) I J R n) : LW S pc lv (.int v :: st) I J R n := by
  refine l_if_eq (tgt := pc + 7) d0 (by omega) (fun c => ?_) (fun c => ?_)
  · rw [if_pos c] at kk
    exact l_iconst d3 rfl kk
  · rw [if_neg c] at kk
    refine l_iconst (v := 1) d1 rfl ?_
    exact l_goto (tgt := pc + 8) d2 (by omega) kk
end LA
theorem lg_self (x : Int64) : lg_cmp x x = 0 := by unfold lg_cmp; simp
theorem INV_cut {I : mI} {R : mR} {n : Nat} (h : INV I R n) : INV (cuM 0 I n) (cuM none R n) n := by
  have hn := h.n1.1
  refine ⟨fun q hq => ?_, fun j hj => by rw [cuM_lt (by omega)]; exact h.2.1 j hj, TD_rows h.2.2.1 (fun r hr => cuM_lt (by omega)) (fun a b c => cuM_lt (by omega)), IMG_cg h.2.2.2 (cuM_lt (by omega)) (cuM_lt (by omega)) (fun a b c => cuM_lt c) (fun i k hi _ q => TD_rows q (fun r hr => cuM_lt (by omega)) (fun a b c => cuM_lt (by omega)))⟩
  rw [cuM_lt (Nat.lt_of_lt_of_le ((by decide +kernel : ∀ q ∈ m_refs, q.1 < 122) q hq) hn)]
  exact h.1 q hq
theorem case_0 {S : Nat × (Nat → Int32)} {i : Nat} {I : mI} {J : mJ} {R : mR} {n : Nat} (hS : S.1 ≤ 3072) (hi : i + 6 ≤ S.1) (h : INV I R n) (nx : ∀ I' J' R' n', INV I' R' n' → LW S 1626 (lvL i) [] I' J' R' n') : LW S 176 (lvL i) [] I J R n := by
  obtain ⟨v, n', hT, h1, h2, ca⟩ := st_feed (S := S) (J := J) h (S.2 (i + 1)) (S.2 (i + 2)) (S.2 (i + 3)) (S.2 (i + 4)) (S.2 (i + 5))
  obtain ⟨r, rfl⟩ : ∃ r, v = .int r := hT
  have hn := h.n1
  refine l_aload_n 2 dL_176 rfl rfl ?_
  refine l_arg (k := 1) hS hi (by decide) rfl dL_177 dL_178 dL_179 dL_180 dL_181 ?_
  refine l_arg (k := 2) hS hi (by decide) rfl dL_182 dL_183 dL_184 dL_185 dL_186 ?_
  refine l_arg (k := 3) hS hi (by decide) rfl dL_187 dL_188 dL_189 dL_190 dL_191 ?_
  refine l_arg (k := 4) hS hi (by decide) rfl dL_192 dL_193 dL_194 dL_195 dL_196 ?_
  refine l_arg (k := 5) hS hi (by decide) rfl dL_197 dL_198 dL_199 dL_200 dL_201 ?_
  refine l_callV (d := 40) (as := [.int (S.2 (i + 1)), .int (S.2 (i + 2)), .int (S.2 (i + 3)), .int (S.2 (i + 4)), .int (S.2 (i + 5))]) (st := []) dL_202 mlL_13 rfl (Nat.le_of_ble_eq_true rfl) ly_0 rfl rfl (by decide) (by omega) (Nat.le_of_ble_eq_true rfl) rfl h1 h2 (by decide) ca (fun w I1 J1 R1 q => ?_)
  obtain ⟨q1, cm⟩ := q
  subst q1
  show LW S 205 (lvL i) [.int r] I1 J1 R1 n' 
  refine l_aload_n 1 dL_205 rfl rfl ?_
  refine l_arg (k := 1) hS hi (by decide) rfl dL_206 dL_207 dL_208 dL_209 dL_210 ?_
  refine l_arg (k := 2) hS hi (by decide) rfl dL_211 dL_212 dL_213 dL_214 dL_215 ?_
  refine l_arg (k := 3) hS hi (by decide) rfl dL_216 dL_217 dL_218 dL_219 dL_220 ?_
  refine l_arg (k := 4) hS hi (by decide) rfl dL_221 dL_222 dL_223 dL_224 dL_225 ?_
  refine l_arg (k := 5) hS hi (by decide) rfl dL_226 dL_227 dL_228 dL_229 dL_230 ?_
  refine l_callV (d := 40) (as := [.int (S.2 (i + 1)), .int (S.2 (i + 2)), .int (S.2 (i + 3)), .int (S.2 (i + 4)), .int (S.2 (i + 5))]) (st := [.int r]) dL_231 mlL_17 rfl (Nat.le_of_ble_eq_true rfl) ly_95 rfl rfl (by decide) (by omega) (Nat.le_of_ble_eq_true rfl) rfl (Nat.le_refl _) h2 (by decide) cm (fun w I2 J2 R2 q => ?_)
  obtain ⟨q1, hI⟩ := q
  subst q1
  show LW S 234 (lvL i) [.int r, .int r] I2 J2 R2 n' 
  exact l_icmp_eq (tgt := 1626) dL_234 (by decide) (fun _ => nx I2 J2 R2 n' hI) (fun c => absurd rfl c)
theorem case_1 {S : Nat × (Nat → Int32)} {i : Nat} {I : mI} {J : mJ} {R : mR} {n : Nat} (hS : S.1 ≤ 3072) (hi : i + 6 ≤ S.1) (h : INV I R n) (nx : ∀ I' J' R' n', INV I' R' n' → LW S 1626 (lvL i) [] I' J' R' n') : LW S 239 (lvL i) [] I J R n := by
  obtain ⟨v, n', hT, h1, h2, ca⟩ := st_end (S := S) (J := J) h (S.2 (i + 1))
  obtain ⟨r, rfl⟩ : ∃ r, v = .int r := hT
  have hn := h.n1
  refine l_aload_n 2 dL_239 rfl rfl ?_
  refine l_arg (k := 1) hS hi (by decide) rfl dL_240 dL_241 dL_242 dL_243 dL_244 ?_
  refine l_callV (d := 40) (as := [.int (S.2 (i + 1))]) (st := []) dL_245 mlL_18 rfl (Nat.le_of_ble_eq_true rfl) ly_0 rfl rfl (by decide) (by omega) (Nat.le_of_ble_eq_true rfl) rfl h1 h2 (by decide) ca (fun w I1 J1 R1 q => ?_)
  obtain ⟨q1, cm⟩ := q
  subst q1
  show LW S 248 (lvL i) [.int r] I1 J1 R1 n' 
  refine l_aload_n 1 dL_248 rfl rfl ?_
  refine l_arg (k := 1) hS hi (by decide) rfl dL_249 dL_250 dL_251 dL_252 dL_253 ?_
  refine l_callV (d := 40) (as := [.int (S.2 (i + 1))]) (st := [.int r]) dL_254 mlL_22 rfl (Nat.le_of_ble_eq_true rfl) ly_95 rfl rfl (by decide) (by omega) (Nat.le_of_ble_eq_true rfl) rfl (Nat.le_refl _) h2 (by decide) cm (fun w I2 J2 R2 q => ?_)
  obtain ⟨q1, hI⟩ := q
  subst q1
  show LW S 257 (lvL i) [.int r, .int r] I2 J2 R2 n' 
  exact l_icmp_eq (tgt := 1626) dL_257 (by decide) (fun _ => nx I2 J2 R2 n' hI) (fun c => absurd rfl c)
theorem case_2 {S : Nat × (Nat → Int32)} {i : Nat} {I : mI} {J : mJ} {R : mR} {n : Nat} (hS : S.1 ≤ 3072) (hi : i + 6 ≤ S.1) (h : INV I R n) (nx : ∀ I' J' R' n', INV I' R' n' → LW S 1626 (lvL i) [] I' J' R' n') : LW S 262 (lvL i) [] I J R n := by
  obtain ⟨v, n', hT, h1, h2, ca⟩ := st_text (S := S) (J := J) h (S.2 (i + 1)) (S.2 (i + 2))
  obtain ⟨r, rfl⟩ : ∃ r, v = .int r := hT
  have hn := h.n1
  refine l_aload_n 2 dL_262 rfl rfl ?_
  refine l_arg (k := 1) hS hi (by decide) rfl dL_263 dL_264 dL_265 dL_266 dL_267 ?_
  refine l_arg (k := 2) hS hi (by decide) rfl dL_268 dL_269 dL_270 dL_271 dL_272 ?_
  refine l_callV (d := 40) (as := [.int (S.2 (i + 1)), .int (S.2 (i + 2))]) (st := []) dL_273 mlL_23 rfl (Nat.le_of_ble_eq_true rfl) ly_0 rfl rfl (by decide) (by omega) (Nat.le_of_ble_eq_true rfl) rfl h1 h2 (by decide) ca (fun w I1 J1 R1 q => ?_)
  obtain ⟨q1, cm⟩ := q
  subst q1
  show LW S 276 (lvL i) [.int r] I1 J1 R1 n' 
  refine l_aload_n 1 dL_276 rfl rfl ?_
  refine l_arg (k := 1) hS hi (by decide) rfl dL_277 dL_278 dL_279 dL_280 dL_281 ?_
  refine l_arg (k := 2) hS hi (by decide) rfl dL_282 dL_283 dL_284 dL_285 dL_286 ?_
  refine l_callV (d := 40) (as := [.int (S.2 (i + 1)), .int (S.2 (i + 2))]) (st := [.int r]) dL_287 mlL_27 rfl (Nat.le_of_ble_eq_true rfl) ly_95 rfl rfl (by decide) (by omega) (Nat.le_of_ble_eq_true rfl) rfl (Nat.le_refl _) h2 (by decide) cm (fun w I2 J2 R2 q => ?_)
  obtain ⟨q1, hI⟩ := q
  subst q1
  show LW S 290 (lvL i) [.int r, .int r] I2 J2 R2 n' 
  exact l_icmp_eq (tgt := 1626) dL_290 (by decide) (fun _ => nx I2 J2 R2 n' hI) (fun c => absurd rfl c)
theorem case_3 {S : Nat × (Nat → Int32)} {i : Nat} {I : mI} {J : mJ} {R : mR} {n : Nat} (hS : S.1 ≤ 3072) (hi : i + 6 ≤ S.1) (h : INV I R n) (nx : ∀ I' J' R' n', INV I' R' n' → LW S 1626 (lvL i) [] I' J' R' n') : LW S 295 (lvL i) [] I J R n := by
  obtain ⟨v, n', hT, h1, h2, ca⟩ := st_fault (S := S) (J := J) h (S.2 (i + 1))
  obtain ⟨r, rfl⟩ : ∃ r, v = .int r := hT
  have hn := h.n1
  refine l_aload_n 2 dL_295 rfl rfl ?_
  refine l_arg (k := 1) hS hi (by decide) rfl dL_296 dL_297 dL_298 dL_299 dL_300 ?_
  refine l_callV (d := 40) (as := [.int (S.2 (i + 1))]) (st := []) dL_301 mlL_28 rfl (Nat.le_of_ble_eq_true rfl) ly_0 rfl rfl (by decide) (by omega) (Nat.le_of_ble_eq_true rfl) rfl h1 h2 (by decide) ca (fun w I1 J1 R1 q => ?_)
  obtain ⟨q1, cm⟩ := q
  subst q1
  show LW S 304 (lvL i) [.int r] I1 J1 R1 n' 
  refine l_aload_n 1 dL_304 rfl rfl ?_
  refine l_arg (k := 1) hS hi (by decide) rfl dL_305 dL_306 dL_307 dL_308 dL_309 ?_
  refine l_callV (d := 40) (as := [.int (S.2 (i + 1))]) (st := [.int r]) dL_310 mlL_31 rfl (Nat.le_of_ble_eq_true rfl) ly_95 rfl rfl (by decide) (by omega) (Nat.le_of_ble_eq_true rfl) rfl (Nat.le_refl _) h2 (by decide) cm (fun w I2 J2 R2 q => ?_)
  obtain ⟨q1, hI⟩ := q
  subst q1
  show LW S 313 (lvL i) [.int r, .int r] I2 J2 R2 n' 
  exact l_icmp_eq (tgt := 1626) dL_313 (by decide) (fun _ => nx I2 J2 R2 n' hI) (fun c => absurd rfl c)
theorem case_4 {S : Nat × (Nat → Int32)} {i : Nat} {I : mI} {J : mJ} {R : mR} {n : Nat} (hS : S.1 ≤ 3072) (hi : i + 6 ≤ S.1) (h : INV I R n) (nx : ∀ I' J' R' n', INV I' R' n' → LW S 1626 (lvL i) [] I' J' R' n') : LW S 318 (lvL i) [] I J R n := by
  obtain ⟨v, n', hT, h1, h2, ca⟩ := st_office (S := S) (J := J) h (S.2 (i + 1)) (S.2 (i + 2))
  obtain ⟨r, rfl⟩ : ∃ r, v = .int r := hT
  have hn := h.n1
  refine l_aload_n 2 dL_318 rfl rfl ?_
  refine l_arg (k := 1) hS hi (by decide) rfl dL_319 dL_320 dL_321 dL_322 dL_323 ?_
  refine l_arg (k := 2) hS hi (by decide) rfl dL_324 dL_325 dL_326 dL_327 dL_328 ?_
  refine l_callV (d := 40) (as := [.int (S.2 (i + 1)), .int (S.2 (i + 2))]) (st := []) dL_329 mlL_32 rfl (Nat.le_of_ble_eq_true rfl) ly_0 rfl rfl (by decide) (by omega) (Nat.le_of_ble_eq_true rfl) rfl h1 h2 (by decide) ca (fun w I1 J1 R1 q => ?_)
  obtain ⟨q1, cm⟩ := q
  subst q1
  show LW S 332 (lvL i) [.int r] I1 J1 R1 n' 
  refine l_aload_n 1 dL_332 rfl rfl ?_
  refine l_arg (k := 1) hS hi (by decide) rfl dL_333 dL_334 dL_335 dL_336 dL_337 ?_
  refine l_arg (k := 2) hS hi (by decide) rfl dL_338 dL_339 dL_340 dL_341 dL_342 ?_
  refine l_callV (d := 40) (as := [.int (S.2 (i + 1)), .int (S.2 (i + 2))]) (st := [.int r]) dL_343 mlL_35 rfl (Nat.le_of_ble_eq_true rfl) ly_95 rfl rfl (by decide) (by omega) (Nat.le_of_ble_eq_true rfl) rfl (Nat.le_refl _) h2 (by decide) cm (fun w I2 J2 R2 q => ?_)
  obtain ⟨q1, hI⟩ := q
  subst q1
  show LW S 346 (lvL i) [.int r, .int r] I2 J2 R2 n' 
  exact l_icmp_eq (tgt := 1626) dL_346 (by decide) (fun _ => nx I2 J2 R2 n' hI) (fun c => absurd rfl c)
theorem case_5 {S : Nat × (Nat → Int32)} {i : Nat} {I : mI} {J : mJ} {R : mR} {n : Nat} (hS : S.1 ≤ 3072) (hi : i + 6 ≤ S.1) (h : INV I R n) (nx : ∀ I' J' R' n', INV I' R' n' → LW S 1626 (lvL i) [] I' J' R' n') : LW S 351 (lvL i) [] I J R n := by
  obtain ⟨v, n', hT, h1, h2, ca⟩ := st_doing (S := S) (J := J) h (S.2 (i + 1)) (S.2 (i + 2)) (S.2 (i + 3))
  obtain ⟨r, rfl⟩ : ∃ r, v = .int r := hT
  have hn := h.n1
  refine l_aload_n 2 dL_351 rfl rfl ?_
  refine l_arg (k := 1) hS hi (by decide) rfl dL_352 dL_353 dL_354 dL_355 dL_356 ?_
  refine l_arg (k := 2) hS hi (by decide) rfl dL_357 dL_358 dL_359 dL_360 dL_361 ?_
  refine l_arg (k := 3) hS hi (by decide) rfl dL_362 dL_363 dL_364 dL_365 dL_366 ?_
  refine l_callV (d := 40) (as := [.int (S.2 (i + 1)), .int (S.2 (i + 2)), .int (S.2 (i + 3))]) (st := []) dL_367 mlL_36 rfl (Nat.le_of_ble_eq_true rfl) ly_0 rfl rfl (by decide) (by omega) (Nat.le_of_ble_eq_true rfl) rfl h1 h2 (by decide) ca (fun w I1 J1 R1 q => ?_)
  obtain ⟨q1, cm⟩ := q
  subst q1
  show LW S 370 (lvL i) [.int r] I1 J1 R1 n' 
  refine l_aload_n 1 dL_370 rfl rfl ?_
  refine l_arg (k := 1) hS hi (by decide) rfl dL_371 dL_372 dL_373 dL_374 dL_375 ?_
  refine l_arg (k := 2) hS hi (by decide) rfl dL_376 dL_377 dL_378 dL_379 dL_380 ?_
  refine l_arg (k := 3) hS hi (by decide) rfl dL_381 dL_382 dL_383 dL_384 dL_385 ?_
  refine l_callV (d := 40) (as := [.int (S.2 (i + 1)), .int (S.2 (i + 2)), .int (S.2 (i + 3))]) (st := [.int r]) dL_386 mlL_40 rfl (Nat.le_of_ble_eq_true rfl) ly_95 rfl rfl (by decide) (by omega) (Nat.le_of_ble_eq_true rfl) rfl (Nat.le_refl _) h2 (by decide) cm (fun w I2 J2 R2 q => ?_)
  obtain ⟨q1, hI⟩ := q
  subst q1
  show LW S 389 (lvL i) [.int r, .int r] I2 J2 R2 n' 
  exact l_icmp_eq (tgt := 1626) dL_389 (by decide) (fun _ => nx I2 J2 R2 n' hI) (fun c => absurd rfl c)
theorem case_6 {S : Nat × (Nat → Int32)} {i : Nat} {I : mI} {J : mJ} {R : mR} {n : Nat} (hS : S.1 ≤ 3072) (hi : i + 6 ≤ S.1) (h : INV I R n) (nx : ∀ I' J' R' n', INV I' R' n' → LW S 1626 (lvL i) [] I' J' R' n') : LW S 394 (lvL i) [] I J R n := by
  obtain ⟨v, n', hT, h1, h2, ca⟩ := st_deed (S := S) (J := J) h (S.2 (i + 1)) (S.2 (i + 2)) (S.2 (i + 3))
  obtain ⟨r, rfl⟩ : ∃ r, v = .int r := hT
  have hn := h.n1
  refine l_aload_n 2 dL_394 rfl rfl ?_
  refine l_arg (k := 1) hS hi (by decide) rfl dL_395 dL_396 dL_397 dL_398 dL_399 ?_
  refine l_arg (k := 2) hS hi (by decide) rfl dL_400 dL_401 dL_402 dL_403 dL_404 ?_
  refine l_arg (k := 3) hS hi (by decide) rfl dL_405 dL_406 dL_407 dL_408 dL_409 ?_
  refine l_callV (d := 40) (as := [.int (S.2 (i + 1)), .int (S.2 (i + 2)), .int (S.2 (i + 3))]) (st := []) dL_410 mlL_41 rfl (Nat.le_of_ble_eq_true rfl) ly_0 rfl rfl (by decide) (by omega) (Nat.le_of_ble_eq_true rfl) rfl h1 h2 (by decide) ca (fun w I1 J1 R1 q => ?_)
  obtain ⟨q1, cm⟩ := q
  subst q1
  show LW S 413 (lvL i) [.int r] I1 J1 R1 n' 
  refine l_aload_n 1 dL_413 rfl rfl ?_
  refine l_arg (k := 1) hS hi (by decide) rfl dL_414 dL_415 dL_416 dL_417 dL_418 ?_
  refine l_arg (k := 2) hS hi (by decide) rfl dL_419 dL_420 dL_421 dL_422 dL_423 ?_
  refine l_arg (k := 3) hS hi (by decide) rfl dL_424 dL_425 dL_426 dL_427 dL_428 ?_
  refine l_callV (d := 40) (as := [.int (S.2 (i + 1)), .int (S.2 (i + 2)), .int (S.2 (i + 3))]) (st := [.int r]) dL_429 mlL_44 rfl (Nat.le_of_ble_eq_true rfl) ly_95 rfl rfl (by decide) (by omega) (Nat.le_of_ble_eq_true rfl) rfl (Nat.le_refl _) h2 (by decide) cm (fun w I2 J2 R2 q => ?_)
  obtain ⟨q1, hI⟩ := q
  subst q1
  show LW S 432 (lvL i) [.int r, .int r] I2 J2 R2 n' 
  exact l_icmp_eq (tgt := 1626) dL_432 (by decide) (fun _ => nx I2 J2 R2 n' hI) (fun c => absurd rfl c)
theorem case_7 {S : Nat × (Nat → Int32)} {i : Nat} {I : mI} {J : mJ} {R : mR} {n : Nat} (hS : S.1 ≤ 3072) (hi : i + 6 ≤ S.1) (h : INV I R n) (nx : ∀ I' J' R' n', INV I' R' n' → LW S 1626 (lvL i) [] I' J' R' n') : LW S 437 (lvL i) [] I J R n := by
  obtain ⟨v, n', hT, h1, h2, ca⟩ := st_till (S := S) (J := J) h (S.2 (i + 1)) (S.2 (i + 2))
  obtain ⟨r, rfl⟩ : ∃ r, v = .int r := hT
  have hn := h.n1
  refine l_aload_n 2 dL_437 rfl rfl ?_
  refine l_arg (k := 1) hS hi (by decide) rfl dL_438 dL_439 dL_440 dL_441 dL_442 ?_
  refine l_arg (k := 2) hS hi (by decide) rfl dL_443 dL_444 dL_445 dL_446 dL_447 ?_
  refine l_callV (d := 40) (as := [.int (S.2 (i + 1)), .int (S.2 (i + 2))]) (st := []) dL_448 mlL_45 rfl (Nat.le_of_ble_eq_true rfl) ly_0 rfl rfl (by decide) (by omega) (Nat.le_of_ble_eq_true rfl) rfl h1 h2 (by decide) ca (fun w I1 J1 R1 q => ?_)
  obtain ⟨q1, cm⟩ := q
  subst q1
  show LW S 451 (lvL i) [.int r] I1 J1 R1 n' 
  refine l_aload_n 1 dL_451 rfl rfl ?_
  refine l_arg (k := 1) hS hi (by decide) rfl dL_452 dL_453 dL_454 dL_455 dL_456 ?_
  refine l_arg (k := 2) hS hi (by decide) rfl dL_457 dL_458 dL_459 dL_460 dL_461 ?_
  refine l_callV (d := 40) (as := [.int (S.2 (i + 1)), .int (S.2 (i + 2))]) (st := [.int r]) dL_462 mlL_48 rfl (Nat.le_of_ble_eq_true rfl) ly_95 rfl rfl (by decide) (by omega) (Nat.le_of_ble_eq_true rfl) rfl (Nat.le_refl _) h2 (by decide) cm (fun w I2 J2 R2 q => ?_)
  obtain ⟨q1, hI⟩ := q
  subst q1
  show LW S 465 (lvL i) [.int r, .int r] I2 J2 R2 n' 
  exact l_icmp_eq (tgt := 1626) dL_465 (by decide) (fun _ => nx I2 J2 R2 n' hI) (fun c => absurd rfl c)
theorem case_8 {S : Nat × (Nat → Int32)} {i : Nat} {I : mI} {J : mJ} {R : mR} {n : Nat} (hS : S.1 ≤ 3072) (hi : i + 6 ≤ S.1) (h : INV I R n) (nx : ∀ I' J' R' n', INV I' R' n' → LW S 1626 (lvL i) [] I' J' R' n') : LW S 470 (lvL i) [] I J R n := by
  obtain ⟨v, n', hT, h1, h2, ca⟩ := st_state (S := S) (J := J) h (S.2 (i + 1)) (S.2 (i + 2)) (S.2 (i + 3)) (S.2 (i + 4))
  obtain ⟨r, rfl⟩ : ∃ r, v = .int r := hT
  have hn := h.n1
  refine l_aload_n 2 dL_470 rfl rfl ?_
  refine l_arg (k := 1) hS hi (by decide) rfl dL_471 dL_472 dL_473 dL_474 dL_475 ?_
  refine l_arg (k := 2) hS hi (by decide) rfl dL_476 dL_477 dL_478 dL_479 dL_480 ?_
  refine l_arg (k := 3) hS hi (by decide) rfl dL_481 dL_482 dL_483 dL_484 dL_485 ?_
  refine l_arg (k := 4) hS hi (by decide) rfl dL_486 dL_487 dL_488 dL_489 dL_490 ?_
  refine l_callV (d := 40) (as := [.int (S.2 (i + 1)), .int (S.2 (i + 2)), .int (S.2 (i + 3)), .int (S.2 (i + 4))]) (st := []) dL_491 mlL_49 rfl (Nat.le_of_ble_eq_true rfl) ly_0 rfl rfl (by decide) (by omega) (Nat.le_of_ble_eq_true rfl) rfl h1 h2 (by decide) ca (fun w I1 J1 R1 q => ?_)
  obtain ⟨q1, cm⟩ := q
  subst q1
  show LW S 494 (lvL i) [.int r] I1 J1 R1 n' 
  refine l_aload_n 1 dL_494 rfl rfl ?_
  refine l_arg (k := 1) hS hi (by decide) rfl dL_495 dL_496 dL_497 dL_498 dL_499 ?_
  refine l_arg (k := 2) hS hi (by decide) rfl dL_500 dL_501 dL_502 dL_503 dL_504 ?_
  refine l_arg (k := 3) hS hi (by decide) rfl dL_505 dL_506 dL_507 dL_508 dL_509 ?_
  refine l_arg (k := 4) hS hi (by decide) rfl dL_510 dL_511 dL_512 dL_513 dL_514 ?_
  refine l_callV (d := 40) (as := [.int (S.2 (i + 1)), .int (S.2 (i + 2)), .int (S.2 (i + 3)), .int (S.2 (i + 4))]) (st := [.int r]) dL_515 mlL_53 rfl (Nat.le_of_ble_eq_true rfl) ly_95 rfl rfl (by decide) (by omega) (Nat.le_of_ble_eq_true rfl) rfl (Nat.le_refl _) h2 (by decide) cm (fun w I2 J2 R2 q => ?_)
  obtain ⟨q1, hI⟩ := q
  subst q1
  show LW S 518 (lvL i) [.int r, .int r] I2 J2 R2 n' 
  exact l_icmp_eq (tgt := 1626) dL_518 (by decide) (fun _ => nx I2 J2 R2 n' hI) (fun c => absurd rfl c)
theorem case_9 {S : Nat × (Nat → Int32)} {i : Nat} {I : mI} {J : mJ} {R : mR} {n : Nat} (hS : S.1 ≤ 3072) (hi : i + 6 ≤ S.1) (h : INV I R n) (nx : ∀ I' J' R' n', INV I' R' n' → LW S 1626 (lvL i) [] I' J' R' n') : LW S 523 (lvL i) [] I J R n := by
  obtain ⟨v, n', hT, h1, h2, ca⟩ := st_order (S := S) (J := J) h (S.2 (i + 1)) (S.2 (i + 2)) (if S.2 (i + 3) = 0 then 0 else 1) (S.2 (i + 4))
  obtain ⟨r, rfl⟩ : ∃ r, v = .int r := hT
  have hn := h.n1
  refine l_aload_n 2 dL_523 rfl rfl ?_
  refine l_arg (k := 1) hS hi (by decide) rfl dL_524 dL_525 dL_526 dL_527 dL_528 ?_
  refine l_arg (k := 2) hS hi (by decide) rfl dL_529 dL_530 dL_531 dL_532 dL_533 ?_
  refine l_arg (k := 3) hS hi (by decide) rfl dL_534 dL_535 dL_536 dL_537 dL_538 ?_
  refine l_bool dL_539 dL_542 dL_543 dL_546 ?_
  refine l_arg (k := 4) hS hi (by decide) rfl dL_547 dL_548 dL_549 dL_550 dL_551 ?_
  refine l_callV (d := 40) (as := [.int (S.2 (i + 1)), .int (S.2 (i + 2)), .int (if S.2 (i + 3) = 0 then 0 else 1), .int (S.2 (i + 4))]) (st := []) dL_552 mlL_54 rfl (Nat.le_of_ble_eq_true rfl) ly_0 rfl rfl (by decide) (by omega) (Nat.le_of_ble_eq_true rfl) rfl h1 h2 (by decide) ca (fun w I1 J1 R1 q => ?_)
  obtain ⟨q1, cm⟩ := q
  subst q1
  show LW S 555 (lvL i) [.int r] I1 J1 R1 n' 
  refine l_aload_n 1 dL_555 rfl rfl ?_
  refine l_arg (k := 1) hS hi (by decide) rfl dL_556 dL_557 dL_558 dL_559 dL_560 ?_
  refine l_arg (k := 2) hS hi (by decide) rfl dL_561 dL_562 dL_563 dL_564 dL_565 ?_
  refine l_arg (k := 3) hS hi (by decide) rfl dL_566 dL_567 dL_568 dL_569 dL_570 ?_
  refine l_bool dL_571 dL_574 dL_575 dL_578 ?_
  refine l_arg (k := 4) hS hi (by decide) rfl dL_579 dL_580 dL_581 dL_582 dL_583 ?_
  refine l_callV (d := 40) (as := [.int (S.2 (i + 1)), .int (S.2 (i + 2)), .int (if S.2 (i + 3) = 0 then 0 else 1), .int (S.2 (i + 4))]) (st := [.int r]) dL_584 mlL_58 rfl (Nat.le_of_ble_eq_true rfl) ly_95 rfl rfl (by decide) (by omega) (Nat.le_of_ble_eq_true rfl) rfl (Nat.le_refl _) h2 (by decide) cm (fun w I2 J2 R2 q => ?_)
  obtain ⟨q1, hI⟩ := q
  subst q1
  show LW S 587 (lvL i) [.int r, .int r] I2 J2 R2 n' 
  exact l_icmp_eq (tgt := 1626) dL_587 (by decide) (fun _ => nx I2 J2 R2 n' hI) (fun c => absurd rfl c)
theorem case_10 {S : Nat × (Nat → Int32)} {i : Nat} {I : mI} {J : mJ} {R : mR} {n : Nat} (hS : S.1 ≤ 3072) (hi : i + 6 ≤ S.1) (h : INV I R n) (nx : ∀ I' J' R' n', INV I' R' n' → LW S 1626 (lvL i) [] I' J' R' n') : LW S 592 (lvL i) [] I J R n := by
  obtain ⟨v, n', hT, h1, h2, ca⟩ := st_mean (S := S) (J := J) h (S.2 (i + 1)) (S.2 (i + 2)) (if S.2 (i + 3) = 0 then 0 else 1)
  obtain ⟨r, rfl⟩ : ∃ r, v = .long r := hT
  have hn := h.n1
  refine l_aload_n 2 dL_592 rfl rfl ?_
  refine l_arg (k := 1) hS hi (by decide) rfl dL_593 dL_594 dL_595 dL_596 dL_597 ?_
  refine l_arg (k := 2) hS hi (by decide) rfl dL_598 dL_599 dL_600 dL_601 dL_602 ?_
  refine l_arg (k := 3) hS hi (by decide) rfl dL_603 dL_604 dL_605 dL_606 dL_607 ?_
  refine l_bool dL_608 dL_611 dL_612 dL_615 ?_
  refine l_callV (d := 40) (as := [.int (S.2 (i + 1)), .int (S.2 (i + 2)), .int (if S.2 (i + 3) = 0 then 0 else 1)]) (st := []) dL_616 mlL_59 rfl (Nat.le_of_ble_eq_true rfl) ly_0 rfl rfl (by decide) (by omega) (Nat.le_of_ble_eq_true rfl) rfl h1 h2 (by decide) ca (fun w I1 J1 R1 q => ?_)
  obtain ⟨q1, cm⟩ := q
  subst q1
  show LW S 619 (lvL i) [.long r] I1 J1 R1 n' 
  refine l_aload_n 1 dL_619 rfl rfl ?_
  refine l_arg (k := 1) hS hi (by decide) rfl dL_620 dL_621 dL_622 dL_623 dL_624 ?_
  refine l_arg (k := 2) hS hi (by decide) rfl dL_625 dL_626 dL_627 dL_628 dL_629 ?_
  refine l_arg (k := 3) hS hi (by decide) rfl dL_630 dL_631 dL_632 dL_633 dL_634 ?_
  refine l_bool dL_635 dL_638 dL_639 dL_642 ?_
  refine l_callV (d := 40) (as := [.int (S.2 (i + 1)), .int (S.2 (i + 2)), .int (if S.2 (i + 3) = 0 then 0 else 1)]) (st := [.long r]) dL_643 mlL_63 rfl (Nat.le_of_ble_eq_true rfl) ly_95 rfl rfl (by decide) (by omega) (Nat.le_of_ble_eq_true rfl) rfl (Nat.le_refl _) h2 (by decide) cm (fun w I2 J2 R2 q => ?_)
  obtain ⟨q1, hI⟩ := q
  subst q1
  show LW S 646 (lvL i) [.long r, .long r] I2 J2 R2 n' 
  refine l_lcmp dL_646 ?_
  exact l_if_eq (tgt := 1626) dL_647 (by decide) (fun _ => nx I2 J2 R2 n' hI) (fun c => absurd (lg_self r) c)
theorem case_11 {S : Nat × (Nat → Int32)} {i : Nat} {I : mI} {J : mJ} {R : mR} {n : Nat} (hS : S.1 ≤ 3072) (hi : i + 6 ≤ S.1) (h : INV I R n) (nx : ∀ I' J' R' n', INV I' R' n' → LW S 1626 (lvL i) [] I' J' R' n') : LW S 652 (lvL i) [] I J R n := by
  obtain ⟨v, n', hT, h1, h2, ca⟩ := st_spared (S := S) (J := J) h (S.2 (i + 1)) (S.2 (i + 2)) (S.2 (i + 3)) (S.2 (i + 4)) (if S.2 (i + 5) = 0 then 0 else 1)
  obtain ⟨r, rfl⟩ : ∃ r, v = .long r := hT
  have hn := h.n1
  refine l_aload_n 2 dL_652 rfl rfl ?_
  refine l_arg (k := 1) hS hi (by decide) rfl dL_653 dL_654 dL_655 dL_656 dL_657 ?_
  refine l_arg (k := 2) hS hi (by decide) rfl dL_658 dL_659 dL_660 dL_661 dL_662 ?_
  refine l_arg (k := 3) hS hi (by decide) rfl dL_663 dL_664 dL_665 dL_666 dL_667 ?_
  refine l_arg (k := 4) hS hi (by decide) rfl dL_668 dL_669 dL_670 dL_671 dL_672 ?_
  refine l_arg (k := 5) hS hi (by decide) rfl dL_673 dL_674 dL_675 dL_676 dL_677 ?_
  refine l_bool dL_678 dL_681 dL_682 dL_685 ?_
  refine l_callV (d := 40) (as := [.int (S.2 (i + 1)), .int (S.2 (i + 2)), .int (S.2 (i + 3)), .int (S.2 (i + 4)), .int (if S.2 (i + 5) = 0 then 0 else 1)]) (st := []) dL_686 mlL_64 rfl (Nat.le_of_ble_eq_true rfl) ly_0 rfl rfl (by decide) (by omega) (Nat.le_of_ble_eq_true rfl) rfl h1 h2 (by decide) ca (fun w I1 J1 R1 q => ?_)
  obtain ⟨q1, cm⟩ := q
  subst q1
  show LW S 689 (lvL i) [.long r] I1 J1 R1 n' 
  refine l_aload_n 1 dL_689 rfl rfl ?_
  refine l_arg (k := 1) hS hi (by decide) rfl dL_690 dL_691 dL_692 dL_693 dL_694 ?_
  refine l_arg (k := 2) hS hi (by decide) rfl dL_695 dL_696 dL_697 dL_698 dL_699 ?_
  refine l_arg (k := 3) hS hi (by decide) rfl dL_700 dL_701 dL_702 dL_703 dL_704 ?_
  refine l_arg (k := 4) hS hi (by decide) rfl dL_705 dL_706 dL_707 dL_708 dL_709 ?_
  refine l_arg (k := 5) hS hi (by decide) rfl dL_710 dL_711 dL_712 dL_713 dL_714 ?_
  refine l_bool dL_715 dL_718 dL_719 dL_722 ?_
  refine l_callV (d := 40) (as := [.int (S.2 (i + 1)), .int (S.2 (i + 2)), .int (S.2 (i + 3)), .int (S.2 (i + 4)), .int (if S.2 (i + 5) = 0 then 0 else 1)]) (st := [.long r]) dL_723 mlL_68 rfl (Nat.le_of_ble_eq_true rfl) ly_95 rfl rfl (by decide) (by omega) (Nat.le_of_ble_eq_true rfl) rfl (Nat.le_refl _) h2 (by decide) cm (fun w I2 J2 R2 q => ?_)
  obtain ⟨q1, hI⟩ := q
  subst q1
  show LW S 726 (lvL i) [.long r, .long r] I2 J2 R2 n' 
  refine l_lcmp dL_726 ?_
  exact l_if_eq (tgt := 1626) dL_727 (by decide) (fun _ => nx I2 J2 R2 n' hI) (fun c => absurd (lg_self r) c)
theorem case_12 {S : Nat × (Nat → Int32)} {i : Nat} {I : mI} {J : mJ} {R : mR} {n : Nat} (hS : S.1 ≤ 3072) (hi : i + 6 ≤ S.1) (h : INV I R n) (nx : ∀ I' J' R' n', INV I' R' n' → LW S 1626 (lvL i) [] I' J' R' n') : LW S 732 (lvL i) [] I J R n := by
  obtain ⟨v, n', hT, h1, h2, ca⟩ := st_rack (S := S) (J := J) h (S.2 (i + 1)) (S.2 (i + 2)) (S.2 (i + 3))
  obtain ⟨r, rfl⟩ : ∃ r, v = .int r := hT
  have hn := h.n1
  refine l_aload_n 2 dL_732 rfl rfl ?_
  refine l_arg (k := 1) hS hi (by decide) rfl dL_733 dL_734 dL_735 dL_736 dL_737 ?_
  refine l_arg (k := 2) hS hi (by decide) rfl dL_738 dL_739 dL_740 dL_741 dL_742 ?_
  refine l_arg (k := 3) hS hi (by decide) rfl dL_743 dL_744 dL_745 dL_746 dL_747 ?_
  refine l_callV (d := 40) (as := [.int (S.2 (i + 1)), .int (S.2 (i + 2)), .int (S.2 (i + 3))]) (st := []) dL_748 mlL_69 rfl (Nat.le_of_ble_eq_true rfl) ly_0 rfl rfl (by decide) (by omega) (Nat.le_of_ble_eq_true rfl) rfl h1 h2 (by decide) ca (fun w I1 J1 R1 q => ?_)
  obtain ⟨q1, cm⟩ := q
  subst q1
  show LW S 751 (lvL i) [.int r] I1 J1 R1 n' 
  refine l_aload_n 1 dL_751 rfl rfl ?_
  refine l_arg (k := 1) hS hi (by decide) rfl dL_752 dL_753 dL_754 dL_755 dL_756 ?_
  refine l_arg (k := 2) hS hi (by decide) rfl dL_757 dL_758 dL_759 dL_760 dL_761 ?_
  refine l_arg (k := 3) hS hi (by decide) rfl dL_762 dL_763 dL_764 dL_765 dL_766 ?_
  refine l_callV (d := 40) (as := [.int (S.2 (i + 1)), .int (S.2 (i + 2)), .int (S.2 (i + 3))]) (st := [.int r]) dL_767 mlL_72 rfl (Nat.le_of_ble_eq_true rfl) ly_95 rfl rfl (by decide) (by omega) (Nat.le_of_ble_eq_true rfl) rfl (Nat.le_refl _) h2 (by decide) cm (fun w I2 J2 R2 q => ?_)
  obtain ⟨q1, hI⟩ := q
  subst q1
  show LW S 770 (lvL i) [.int r, .int r] I2 J2 R2 n' 
  exact l_icmp_eq (tgt := 1626) dL_770 (by decide) (fun _ => nx I2 J2 R2 n' hI) (fun c => absurd rfl c)
theorem case_13 {S : Nat × (Nat → Int32)} {i : Nat} {I : mI} {J : mJ} {R : mR} {n : Nat} (hS : S.1 ≤ 3072) (hi : i + 6 ≤ S.1) (h : INV I R n) (nx : ∀ I' J' R' n', INV I' R' n' → LW S 1626 (lvL i) [] I' J' R' n') : LW S 775 (lvL i) [] I J R n := by
  obtain ⟨v, n', hT, h1, h2, ca⟩ := st_settled (S := S) (J := J) h (S.2 (i + 1)) (S.2 (i + 2))
  obtain ⟨r, rfl⟩ : ∃ r, v = .int r := hT
  have hn := h.n1
  refine l_aload_n 2 dL_775 rfl rfl ?_
  refine l_arg (k := 1) hS hi (by decide) rfl dL_776 dL_777 dL_778 dL_779 dL_780 ?_
  refine l_arg (k := 2) hS hi (by decide) rfl dL_781 dL_782 dL_783 dL_784 dL_785 ?_
  refine l_callV (d := 40) (as := [.int (S.2 (i + 1)), .int (S.2 (i + 2))]) (st := []) dL_786 mlL_73 rfl (Nat.le_of_ble_eq_true rfl) ly_0 rfl rfl (by decide) (by omega) (Nat.le_of_ble_eq_true rfl) rfl h1 h2 (by decide) ca (fun w I1 J1 R1 q => ?_)
  obtain ⟨q1, cm⟩ := q
  subst q1
  show LW S 789 (lvL i) [.int r] I1 J1 R1 n' 
  refine l_aload_n 1 dL_789 rfl rfl ?_
  refine l_arg (k := 1) hS hi (by decide) rfl dL_790 dL_791 dL_792 dL_793 dL_794 ?_
  refine l_arg (k := 2) hS hi (by decide) rfl dL_795 dL_796 dL_797 dL_798 dL_799 ?_
  refine l_callV (d := 40) (as := [.int (S.2 (i + 1)), .int (S.2 (i + 2))]) (st := [.int r]) dL_800 mlL_76 rfl (Nat.le_of_ble_eq_true rfl) ly_95 rfl rfl (by decide) (by omega) (Nat.le_of_ble_eq_true rfl) rfl (Nat.le_refl _) h2 (by decide) cm (fun w I2 J2 R2 q => ?_)
  obtain ⟨q1, hI⟩ := q
  subst q1
  show LW S 803 (lvL i) [.int r, .int r] I2 J2 R2 n' 
  exact l_icmp_eq (tgt := 1626) dL_803 (by decide) (fun _ => nx I2 J2 R2 n' hI) (fun c => absurd rfl c)
theorem case_14 {S : Nat × (Nat → Int32)} {i : Nat} {I : mI} {J : mJ} {R : mR} {n : Nat} (hS : S.1 ≤ 3072) (hi : i + 6 ≤ S.1) (h : INV I R n) (nx : ∀ I' J' R' n', INV I' R' n' → LW S 1626 (lvL i) [] I' J' R' n') : LW S 808 (lvL i) [] I J R n := by
  obtain ⟨v, n', hT, h1, h2, ca⟩ := st_bags (S := S) (J := J) h (S.2 (i + 1)) (S.2 (i + 2)) (S.2 (i + 3)) (S.2 (i + 4))
  obtain ⟨r, rfl⟩ : ∃ r, v = .int r := hT
  have hn := h.n1
  refine l_aload_n 2 dL_808 rfl rfl ?_
  refine l_arg (k := 1) hS hi (by decide) rfl dL_809 dL_810 dL_811 dL_812 dL_813 ?_
  refine l_arg (k := 2) hS hi (by decide) rfl dL_814 dL_815 dL_816 dL_817 dL_818 ?_
  refine l_arg (k := 3) hS hi (by decide) rfl dL_819 dL_820 dL_821 dL_822 dL_823 ?_
  refine l_arg (k := 4) hS hi (by decide) rfl dL_824 dL_825 dL_826 dL_827 dL_828 ?_
  refine l_callV (d := 40) (as := [.int (S.2 (i + 1)), .int (S.2 (i + 2)), .int (S.2 (i + 3)), .int (S.2 (i + 4))]) (st := []) dL_829 mlL_77 rfl (Nat.le_of_ble_eq_true rfl) ly_0 rfl rfl (by decide) (by omega) (Nat.le_of_ble_eq_true rfl) rfl h1 h2 (by decide) ca (fun w I1 J1 R1 q => ?_)
  obtain ⟨q1, cm⟩ := q
  subst q1
  show LW S 832 (lvL i) [.int r] I1 J1 R1 n' 
  refine l_aload_n 1 dL_832 rfl rfl ?_
  refine l_arg (k := 1) hS hi (by decide) rfl dL_833 dL_834 dL_835 dL_836 dL_837 ?_
  refine l_arg (k := 2) hS hi (by decide) rfl dL_838 dL_839 dL_840 dL_841 dL_842 ?_
  refine l_arg (k := 3) hS hi (by decide) rfl dL_843 dL_844 dL_845 dL_846 dL_847 ?_
  refine l_arg (k := 4) hS hi (by decide) rfl dL_848 dL_849 dL_850 dL_851 dL_852 ?_
  refine l_callV (d := 40) (as := [.int (S.2 (i + 1)), .int (S.2 (i + 2)), .int (S.2 (i + 3)), .int (S.2 (i + 4))]) (st := [.int r]) dL_853 mlL_80 rfl (Nat.le_of_ble_eq_true rfl) ly_95 rfl rfl (by decide) (by omega) (Nat.le_of_ble_eq_true rfl) rfl (Nat.le_refl _) h2 (by decide) cm (fun w I2 J2 R2 q => ?_)
  obtain ⟨q1, hI⟩ := q
  subst q1
  show LW S 856 (lvL i) [.int r, .int r] I2 J2 R2 n' 
  exact l_icmp_eq (tgt := 1626) dL_856 (by decide) (fun _ => nx I2 J2 R2 n' hI) (fun c => absurd rfl c)
theorem case_15 {S : Nat × (Nat → Int32)} {i : Nat} {I : mI} {J : mJ} {R : mR} {n : Nat} (hS : S.1 ≤ 3072) (hi : i + 6 ≤ S.1) (h : INV I R n) (nx : ∀ I' J' R' n', INV I' R' n' → LW S 1626 (lvL i) [] I' J' R' n') : LW S 861 (lvL i) [] I J R n := by
  obtain ⟨v, n', hT, h1, h2, ca⟩ := st_sorters (S := S) (J := J) h (S.2 (i + 1)) (if S.2 (i + 2) = 0 then 0 else 1)
  obtain ⟨r, rfl⟩ : ∃ r, v = .int r := hT
  have hn := h.n1
  refine l_aload_n 2 dL_861 rfl rfl ?_
  refine l_arg (k := 1) hS hi (by decide) rfl dL_862 dL_863 dL_864 dL_865 dL_866 ?_
  refine l_arg (k := 2) hS hi (by decide) rfl dL_867 dL_868 dL_869 dL_870 dL_871 ?_
  refine l_bool dL_872 dL_875 dL_876 dL_879 ?_
  refine l_callV (d := 40) (as := [.int (S.2 (i + 1)), .int (if S.2 (i + 2) = 0 then 0 else 1)]) (st := []) dL_880 mlL_81 rfl (Nat.le_of_ble_eq_true rfl) ly_0 rfl rfl (by decide) (by omega) (Nat.le_of_ble_eq_true rfl) rfl h1 h2 (by decide) ca (fun w I1 J1 R1 q => ?_)
  obtain ⟨q1, cm⟩ := q
  subst q1
  show LW S 883 (lvL i) [.int r] I1 J1 R1 n' 
  refine l_aload_n 1 dL_883 rfl rfl ?_
  refine l_arg (k := 1) hS hi (by decide) rfl dL_884 dL_885 dL_886 dL_887 dL_888 ?_
  refine l_arg (k := 2) hS hi (by decide) rfl dL_889 dL_890 dL_891 dL_892 dL_893 ?_
  refine l_bool dL_894 dL_897 dL_898 dL_901 ?_
  refine l_callV (d := 40) (as := [.int (S.2 (i + 1)), .int (if S.2 (i + 2) = 0 then 0 else 1)]) (st := [.int r]) dL_902 mlL_85 rfl (Nat.le_of_ble_eq_true rfl) ly_95 rfl rfl (by decide) (by omega) (Nat.le_of_ble_eq_true rfl) rfl (Nat.le_refl _) h2 (by decide) cm (fun w I2 J2 R2 q => ?_)
  obtain ⟨q1, hI⟩ := q
  subst q1
  show LW S 905 (lvL i) [.int r, .int r] I2 J2 R2 n' 
  exact l_icmp_eq (tgt := 1626) dL_905 (by decide) (fun _ => nx I2 J2 R2 n' hI) (fun c => absurd rfl c)
theorem case_16 {S : Nat × (Nat → Int32)} {i : Nat} {I : mI} {J : mJ} {R : mR} {n : Nat} (hS : S.1 ≤ 3072) (hi : i + 6 ≤ S.1) (h : INV I R n) (nx : ∀ I' J' R' n', INV I' R' n' → LW S 1626 (lvL i) [] I' J' R' n') : LW S 910 (lvL i) [] I J R n := by
  obtain ⟨v, n', hT, h1, h2, ca⟩ := st_fact (S := S) (J := J) h (S.2 (i + 1)) (S.2 (i + 2)) (S.2 (i + 3))
  obtain ⟨r, rfl⟩ : ∃ r, v = .int r := hT
  have hn := h.n1
  refine l_aload_n 2 dL_910 rfl rfl ?_
  refine l_arg (k := 1) hS hi (by decide) rfl dL_911 dL_912 dL_913 dL_914 dL_915 ?_
  refine l_arg (k := 2) hS hi (by decide) rfl dL_916 dL_917 dL_918 dL_919 dL_920 ?_
  refine l_arg (k := 3) hS hi (by decide) rfl dL_921 dL_922 dL_923 dL_924 dL_925 ?_
  refine l_callV (d := 40) (as := [.int (S.2 (i + 1)), .int (S.2 (i + 2)), .int (S.2 (i + 3))]) (st := []) dL_926 mlL_86 rfl (Nat.le_of_ble_eq_true rfl) ly_0 rfl rfl (by decide) (by omega) (Nat.le_of_ble_eq_true rfl) rfl h1 h2 (by decide) ca (fun w I1 J1 R1 q => ?_)
  obtain ⟨q1, cm⟩ := q
  subst q1
  show LW S 929 (lvL i) [.int r] I1 J1 R1 n' 
  refine l_aload_n 1 dL_929 rfl rfl ?_
  refine l_arg (k := 1) hS hi (by decide) rfl dL_930 dL_931 dL_932 dL_933 dL_934 ?_
  refine l_arg (k := 2) hS hi (by decide) rfl dL_935 dL_936 dL_937 dL_938 dL_939 ?_
  refine l_arg (k := 3) hS hi (by decide) rfl dL_940 dL_941 dL_942 dL_943 dL_944 ?_
  refine l_callV (d := 40) (as := [.int (S.2 (i + 1)), .int (S.2 (i + 2)), .int (S.2 (i + 3))]) (st := [.int r]) dL_945 mlL_89 rfl (Nat.le_of_ble_eq_true rfl) ly_95 rfl rfl (by decide) (by omega) (Nat.le_of_ble_eq_true rfl) rfl (Nat.le_refl _) h2 (by decide) cm (fun w I2 J2 R2 q => ?_)
  obtain ⟨q1, hI⟩ := q
  subst q1
  show LW S 948 (lvL i) [.int r, .int r] I2 J2 R2 n' 
  exact l_icmp_eq (tgt := 1626) dL_948 (by decide) (fun _ => nx I2 J2 R2 n' hI) (fun c => absurd rfl c)
theorem case_17 {S : Nat × (Nat → Int32)} {i : Nat} {I : mI} {J : mJ} {R : mR} {n : Nat} (hS : S.1 ≤ 3072) (hi : i + 6 ≤ S.1) (h : INV I R n) (nx : ∀ I' J' R' n', INV I' R' n' → LW S 1626 (lvL i) [] I' J' R' n') : LW S 953 (lvL i) [] I J R n := by
  obtain ⟨v, n', hT, h1, h2, ca⟩ := st_fits (S := S) (J := J) h (S.2 (i + 1)) (S.2 (i + 2)) (S.2 (i + 3))
  obtain ⟨r, rfl⟩ : ∃ r, v = .int r := hT
  have hn := h.n1
  refine l_aload_n 2 dL_953 rfl rfl ?_
  refine l_arg (k := 1) hS hi (by decide) rfl dL_954 dL_955 dL_956 dL_957 dL_958 ?_
  refine l_arg (k := 2) hS hi (by decide) rfl dL_959 dL_960 dL_961 dL_962 dL_963 ?_
  refine l_arg (k := 3) hS hi (by decide) rfl dL_964 dL_965 dL_966 dL_967 dL_968 ?_
  refine l_callV (d := 40) (as := [.int (S.2 (i + 1)), .int (S.2 (i + 2)), .int (S.2 (i + 3))]) (st := []) dL_969 mlL_90 rfl (Nat.le_of_ble_eq_true rfl) ly_0 rfl rfl (by decide) (by omega) (Nat.le_of_ble_eq_true rfl) rfl h1 h2 (by decide) ca (fun w I1 J1 R1 q => ?_)
  obtain ⟨q1, cm⟩ := q
  subst q1
  show LW S 972 (lvL i) [.int r] I1 J1 R1 n' 
  refine l_aload_n 1 dL_972 rfl rfl ?_
  refine l_arg (k := 1) hS hi (by decide) rfl dL_973 dL_974 dL_975 dL_976 dL_977 ?_
  refine l_arg (k := 2) hS hi (by decide) rfl dL_978 dL_979 dL_980 dL_981 dL_982 ?_
  refine l_arg (k := 3) hS hi (by decide) rfl dL_983 dL_984 dL_985 dL_986 dL_987 ?_
  refine l_callV (d := 40) (as := [.int (S.2 (i + 1)), .int (S.2 (i + 2)), .int (S.2 (i + 3))]) (st := [.int r]) dL_988 mlL_93 rfl (Nat.le_of_ble_eq_true rfl) ly_95 rfl rfl (by decide) (by omega) (Nat.le_of_ble_eq_true rfl) rfl (Nat.le_refl _) h2 (by decide) cm (fun w I2 J2 R2 q => ?_)
  obtain ⟨q1, hI⟩ := q
  subst q1
  show LW S 991 (lvL i) [.int r, .int r] I2 J2 R2 n' 
  exact l_icmp_eq (tgt := 1626) dL_991 (by decide) (fun _ => nx I2 J2 R2 n' hI) (fun c => absurd rfl c)
theorem case_18 {S : Nat × (Nat → Int32)} {i : Nat} {I : mI} {J : mJ} {R : mR} {n : Nat} (hS : S.1 ≤ 3072) (hi : i + 6 ≤ S.1) (h : INV I R n) (nx : ∀ I' J' R' n', INV I' R' n' → LW S 1626 (lvL i) [] I' J' R' n') : LW S 996 (lvL i) [] I J R n := by
  obtain ⟨v, n', hT, h1, h2, ca⟩ := st_drawn (S := S) (J := J) h (S.2 (i + 1)) (S.2 (i + 2)) (S.2 (i + 3)) (S.2 (i + 4))
  obtain ⟨r, rfl⟩ : ∃ r, v = .int r := hT
  have hn := h.n1
  refine l_aload_n 2 dL_996 rfl rfl ?_
  refine l_arg (k := 1) hS hi (by decide) rfl dL_997 dL_998 dL_999 dL_1000 dL_1001 ?_
  refine l_arg (k := 2) hS hi (by decide) rfl dL_1002 dL_1003 dL_1004 dL_1005 dL_1006 ?_
  refine l_arg (k := 3) hS hi (by decide) rfl dL_1007 dL_1008 dL_1009 dL_1010 dL_1011 ?_
  refine l_arg (k := 4) hS hi (by decide) rfl dL_1012 dL_1013 dL_1014 dL_1015 dL_1016 ?_
  refine l_callV (d := 40) (as := [.int (S.2 (i + 1)), .int (S.2 (i + 2)), .int (S.2 (i + 3)), .int (S.2 (i + 4))]) (st := []) dL_1017 mlL_94 rfl (Nat.le_of_ble_eq_true rfl) ly_0 rfl rfl (by decide) (by omega) (Nat.le_of_ble_eq_true rfl) rfl h1 h2 (by decide) ca (fun w I1 J1 R1 q => ?_)
  obtain ⟨q1, cm⟩ := q
  subst q1
  show LW S 1020 (lvL i) [.int r] I1 J1 R1 n' 
  refine l_aload_n 1 dL_1020 rfl rfl ?_
  refine l_arg (k := 1) hS hi (by decide) rfl dL_1021 dL_1022 dL_1023 dL_1024 dL_1025 ?_
  refine l_arg (k := 2) hS hi (by decide) rfl dL_1026 dL_1027 dL_1028 dL_1029 dL_1030 ?_
  refine l_arg (k := 3) hS hi (by decide) rfl dL_1031 dL_1032 dL_1033 dL_1034 dL_1035 ?_
  refine l_arg (k := 4) hS hi (by decide) rfl dL_1036 dL_1037 dL_1038 dL_1039 dL_1040 ?_
  refine l_callV (d := 40) (as := [.int (S.2 (i + 1)), .int (S.2 (i + 2)), .int (S.2 (i + 3)), .int (S.2 (i + 4))]) (st := [.int r]) dL_1041 mlL_97 rfl (Nat.le_of_ble_eq_true rfl) ly_95 rfl rfl (by decide) (by omega) (Nat.le_of_ble_eq_true rfl) rfl (Nat.le_refl _) h2 (by decide) cm (fun w I2 J2 R2 q => ?_)
  obtain ⟨q1, hI⟩ := q
  subst q1
  show LW S 1044 (lvL i) [.int r, .int r] I2 J2 R2 n' 
  exact l_icmp_eq (tgt := 1626) dL_1044 (by decide) (fun _ => nx I2 J2 R2 n' hI) (fun c => absurd rfl c)
theorem case_19 {S : Nat × (Nat → Int32)} {i : Nat} {I : mI} {J : mJ} {R : mR} {n : Nat} (hS : S.1 ≤ 3072) (hi : i + 6 ≤ S.1) (h : INV I R n) (nx : ∀ I' J' R' n', INV I' R' n' → LW S 1626 (lvL i) [] I' J' R' n') : LW S 1049 (lvL i) [] I J R n := by
  obtain ⟨v, n', hT, h1, h2, ca⟩ := st_dear (S := S) (J := J) h (S.2 (i + 1)) (S.2 (i + 2))
  obtain ⟨r, rfl⟩ : ∃ r, v = .int r := hT
  have hn := h.n1
  refine l_aload_n 2 dL_1049 rfl rfl ?_
  refine l_arg (k := 1) hS hi (by decide) rfl dL_1050 dL_1051 dL_1052 dL_1053 dL_1054 ?_
  refine l_arg (k := 2) hS hi (by decide) rfl dL_1055 dL_1056 dL_1057 dL_1058 dL_1059 ?_
  refine l_callV (d := 40) (as := [.int (S.2 (i + 1)), .int (S.2 (i + 2))]) (st := []) dL_1060 mlL_98 rfl (Nat.le_of_ble_eq_true rfl) ly_0 rfl rfl (by decide) (by omega) (Nat.le_of_ble_eq_true rfl) rfl h1 h2 (by decide) ca (fun w I1 J1 R1 q => ?_)
  obtain ⟨q1, cm⟩ := q
  subst q1
  show LW S 1063 (lvL i) [.int r] I1 J1 R1 n' 
  refine l_aload_n 1 dL_1063 rfl rfl ?_
  refine l_arg (k := 1) hS hi (by decide) rfl dL_1064 dL_1065 dL_1066 dL_1067 dL_1068 ?_
  refine l_arg (k := 2) hS hi (by decide) rfl dL_1069 dL_1070 dL_1071 dL_1072 dL_1073 ?_
  refine l_callV (d := 40) (as := [.int (S.2 (i + 1)), .int (S.2 (i + 2))]) (st := [.int r]) dL_1074 mlL_101 rfl (Nat.le_of_ble_eq_true rfl) ly_95 rfl rfl (by decide) (by omega) (Nat.le_of_ble_eq_true rfl) rfl (Nat.le_refl _) h2 (by decide) cm (fun w I2 J2 R2 q => ?_)
  obtain ⟨q1, hI⟩ := q
  subst q1
  show LW S 1077 (lvL i) [.int r, .int r] I2 J2 R2 n' 
  exact l_icmp_eq (tgt := 1626) dL_1077 (by decide) (fun _ => nx I2 J2 R2 n' hI) (fun c => absurd rfl c)
theorem case_20 {S : Nat × (Nat → Int32)} {i : Nat} {I : mI} {J : mJ} {R : mR} {n : Nat} (hS : S.1 ≤ 3072) (hi : i + 6 ≤ S.1) (h : INV I R n) (nx : ∀ I' J' R' n', INV I' R' n' → LW S 1626 (lvL i) [] I' J' R' n') : LW S 1082 (lvL i) [] I J R n := by
  obtain ⟨v, n', hT, h1, h2, ca⟩ := st_spoilt (S := S) (J := J) h (S.2 (i + 1)) (S.2 (i + 2)) (if S.2 (i + 3) = 0 then 0 else 1)
  obtain ⟨r, rfl⟩ : ∃ r, v = .int r := hT
  have hn := h.n1
  refine l_aload_n 2 dL_1082 rfl rfl ?_
  refine l_arg (k := 1) hS hi (by decide) rfl dL_1083 dL_1084 dL_1085 dL_1086 dL_1087 ?_
  refine l_arg (k := 2) hS hi (by decide) rfl dL_1088 dL_1089 dL_1090 dL_1091 dL_1092 ?_
  refine l_arg (k := 3) hS hi (by decide) rfl dL_1093 dL_1094 dL_1095 dL_1096 dL_1097 ?_
  refine l_bool dL_1098 dL_1101 dL_1102 dL_1105 ?_
  refine l_callV (d := 40) (as := [.int (S.2 (i + 1)), .int (S.2 (i + 2)), .int (if S.2 (i + 3) = 0 then 0 else 1)]) (st := []) dL_1106 mlL_102 rfl (Nat.le_of_ble_eq_true rfl) ly_0 rfl rfl (by decide) (by omega) (Nat.le_of_ble_eq_true rfl) rfl h1 h2 (by decide) ca (fun w I1 J1 R1 q => ?_)
  obtain ⟨q1, cm⟩ := q
  subst q1
  show LW S 1109 (lvL i) [.int r] I1 J1 R1 n' 
  refine l_aload_n 1 dL_1109 rfl rfl ?_
  refine l_arg (k := 1) hS hi (by decide) rfl dL_1110 dL_1111 dL_1112 dL_1113 dL_1114 ?_
  refine l_arg (k := 2) hS hi (by decide) rfl dL_1115 dL_1116 dL_1117 dL_1118 dL_1119 ?_
  refine l_arg (k := 3) hS hi (by decide) rfl dL_1120 dL_1121 dL_1122 dL_1123 dL_1124 ?_
  refine l_bool dL_1125 dL_1128 dL_1129 dL_1132 ?_
  refine l_callV (d := 40) (as := [.int (S.2 (i + 1)), .int (S.2 (i + 2)), .int (if S.2 (i + 3) = 0 then 0 else 1)]) (st := [.int r]) dL_1133 mlL_106 rfl (Nat.le_of_ble_eq_true rfl) ly_95 rfl rfl (by decide) (by omega) (Nat.le_of_ble_eq_true rfl) rfl (Nat.le_refl _) h2 (by decide) cm (fun w I2 J2 R2 q => ?_)
  obtain ⟨q1, hI⟩ := q
  subst q1
  show LW S 1136 (lvL i) [.int r, .int r] I2 J2 R2 n' 
  exact l_icmp_eq (tgt := 1626) dL_1136 (by decide) (fun _ => nx I2 J2 R2 n' hI) (fun c => absurd rfl c)
theorem case_21 {S : Nat × (Nat → Int32)} {i : Nat} {I : mI} {J : mJ} {R : mR} {n : Nat} (hS : S.1 ≤ 3072) (hi : i + 6 ≤ S.1) (h : INV I R n) (nx : ∀ I' J' R' n', INV I' R' n' → LW S 1626 (lvL i) [] I' J' R' n') : LW S 1141 (lvL i) [] I J R n := by
  obtain ⟨v, n', hT, h1, h2, ca⟩ := st_calm (S := S) (J := J) h (S.2 (i + 1)) (S.2 (i + 2)) (S.2 (i + 3)) (if S.2 (i + 4) = 0 then 0 else 1)
  obtain ⟨r, rfl⟩ : ∃ r, v = .int r := hT
  have hn := h.n1
  refine l_aload_n 2 dL_1141 rfl rfl ?_
  refine l_arg (k := 1) hS hi (by decide) rfl dL_1142 dL_1143 dL_1144 dL_1145 dL_1146 ?_
  refine l_arg (k := 2) hS hi (by decide) rfl dL_1147 dL_1148 dL_1149 dL_1150 dL_1151 ?_
  refine l_arg (k := 3) hS hi (by decide) rfl dL_1152 dL_1153 dL_1154 dL_1155 dL_1156 ?_
  refine l_arg (k := 4) hS hi (by decide) rfl dL_1157 dL_1158 dL_1159 dL_1160 dL_1161 ?_
  refine l_bool dL_1162 dL_1165 dL_1166 dL_1169 ?_
  refine l_callV (d := 40) (as := [.int (S.2 (i + 1)), .int (S.2 (i + 2)), .int (S.2 (i + 3)), .int (if S.2 (i + 4) = 0 then 0 else 1)]) (st := []) dL_1170 mlL_107 rfl (Nat.le_of_ble_eq_true rfl) ly_0 rfl rfl (by decide) (by omega) (Nat.le_of_ble_eq_true rfl) rfl h1 h2 (by decide) ca (fun w I1 J1 R1 q => ?_)
  obtain ⟨q1, cm⟩ := q
  subst q1
  show LW S 1173 (lvL i) [.int r] I1 J1 R1 n' 
  refine l_aload_n 1 dL_1173 rfl rfl ?_
  refine l_arg (k := 1) hS hi (by decide) rfl dL_1174 dL_1175 dL_1176 dL_1177 dL_1178 ?_
  refine l_arg (k := 2) hS hi (by decide) rfl dL_1179 dL_1180 dL_1181 dL_1182 dL_1183 ?_
  refine l_arg (k := 3) hS hi (by decide) rfl dL_1184 dL_1185 dL_1186 dL_1187 dL_1188 ?_
  refine l_arg (k := 4) hS hi (by decide) rfl dL_1189 dL_1190 dL_1191 dL_1192 dL_1193 ?_
  refine l_bool dL_1194 dL_1197 dL_1198 dL_1201 ?_
  refine l_callV (d := 40) (as := [.int (S.2 (i + 1)), .int (S.2 (i + 2)), .int (S.2 (i + 3)), .int (if S.2 (i + 4) = 0 then 0 else 1)]) (st := [.int r]) dL_1202 mlL_111 rfl (Nat.le_of_ble_eq_true rfl) ly_95 rfl rfl (by decide) (by omega) (Nat.le_of_ble_eq_true rfl) rfl (Nat.le_refl _) h2 (by decide) cm (fun w I2 J2 R2 q => ?_)
  obtain ⟨q1, hI⟩ := q
  subst q1
  show LW S 1205 (lvL i) [.int r, .int r] I2 J2 R2 n' 
  exact l_icmp_eq (tgt := 1626) dL_1205 (by decide) (fun _ => nx I2 J2 R2 n' hI) (fun c => absurd rfl c)
theorem case_22 {S : Nat × (Nat → Int32)} {i : Nat} {I : mI} {J : mJ} {R : mR} {n : Nat} (hS : S.1 ≤ 3072) (hi : i + 6 ≤ S.1) (h : INV I R n) (nx : ∀ I' J' R' n', INV I' R' n' → LW S 1626 (lvL i) [] I' J' R' n') : LW S 1210 (lvL i) [] I J R n := by
  obtain ⟨v, n', hT, h1, h2, ca⟩ := st_hoped (S := S) (J := J) h (S.2 (i + 1)) (S.2 (i + 2)) (if S.2 (i + 3) = 0 then 0 else 1)
  obtain ⟨r, rfl⟩ : ∃ r, v = .long r := hT
  have hn := h.n1
  refine l_aload_n 2 dL_1210 rfl rfl ?_
  refine l_arg (k := 1) hS hi (by decide) rfl dL_1211 dL_1212 dL_1213 dL_1214 dL_1215 ?_
  refine l_arg (k := 2) hS hi (by decide) rfl dL_1216 dL_1217 dL_1218 dL_1219 dL_1220 ?_
  refine l_arg (k := 3) hS hi (by decide) rfl dL_1221 dL_1222 dL_1223 dL_1224 dL_1225 ?_
  refine l_bool dL_1226 dL_1229 dL_1230 dL_1233 ?_
  refine l_callV (d := 40) (as := [.int (S.2 (i + 1)), .int (S.2 (i + 2)), .int (if S.2 (i + 3) = 0 then 0 else 1)]) (st := []) dL_1234 mlL_112 rfl (Nat.le_of_ble_eq_true rfl) ly_0 rfl rfl (by decide) (by omega) (Nat.le_of_ble_eq_true rfl) rfl h1 h2 (by decide) ca (fun w I1 J1 R1 q => ?_)
  obtain ⟨q1, cm⟩ := q
  subst q1
  show LW S 1237 (lvL i) [.long r] I1 J1 R1 n' 
  refine l_aload_n 1 dL_1237 rfl rfl ?_
  refine l_arg (k := 1) hS hi (by decide) rfl dL_1238 dL_1239 dL_1240 dL_1241 dL_1242 ?_
  refine l_arg (k := 2) hS hi (by decide) rfl dL_1243 dL_1244 dL_1245 dL_1246 dL_1247 ?_
  refine l_arg (k := 3) hS hi (by decide) rfl dL_1248 dL_1249 dL_1250 dL_1251 dL_1252 ?_
  refine l_bool dL_1253 dL_1256 dL_1257 dL_1260 ?_
  refine l_callV (d := 40) (as := [.int (S.2 (i + 1)), .int (S.2 (i + 2)), .int (if S.2 (i + 3) = 0 then 0 else 1)]) (st := [.long r]) dL_1261 mlL_115 rfl (Nat.le_of_ble_eq_true rfl) ly_95 rfl rfl (by decide) (by omega) (Nat.le_of_ble_eq_true rfl) rfl (Nat.le_refl _) h2 (by decide) cm (fun w I2 J2 R2 q => ?_)
  obtain ⟨q1, hI⟩ := q
  subst q1
  show LW S 1264 (lvL i) [.long r, .long r] I2 J2 R2 n' 
  refine l_lcmp dL_1264 ?_
  exact l_if_eq (tgt := 1626) dL_1265 (by decide) (fun _ => nx I2 J2 R2 n' hI) (fun c => absurd (lg_self r) c)
theorem case_23 {S : Nat × (Nat → Int32)} {i : Nat} {I : mI} {J : mJ} {R : mR} {n : Nat} (hS : S.1 ≤ 3072) (hi : i + 6 ≤ S.1) (h : INV I R n) (nx : ∀ I' J' R' n', INV I' R' n' → LW S 1626 (lvL i) [] I' J' R' n') : LW S 1270 (lvL i) [] I J R n := by
  obtain ⟨v, n', hT, h1, h2, ca⟩ := st_strongest (S := S) (J := J) h (S.2 (i + 1)) (if S.2 (i + 2) = 0 then 0 else 1)
  obtain ⟨r, rfl⟩ : ∃ r, v = .int r := hT
  have hn := h.n1
  refine l_aload_n 2 dL_1270 rfl rfl ?_
  refine l_arg (k := 1) hS hi (by decide) rfl dL_1271 dL_1272 dL_1273 dL_1274 dL_1275 ?_
  refine l_arg (k := 2) hS hi (by decide) rfl dL_1276 dL_1277 dL_1278 dL_1279 dL_1280 ?_
  refine l_bool dL_1281 dL_1284 dL_1285 dL_1288 ?_
  refine l_callV (d := 40) (as := [.int (S.2 (i + 1)), .int (if S.2 (i + 2) = 0 then 0 else 1)]) (st := []) dL_1289 mlL_116 rfl (Nat.le_of_ble_eq_true rfl) ly_0 rfl rfl (by decide) (by omega) (Nat.le_of_ble_eq_true rfl) rfl h1 h2 (by decide) ca (fun w I1 J1 R1 q => ?_)
  obtain ⟨q1, cm⟩ := q
  subst q1
  show LW S 1292 (lvL i) [.int r] I1 J1 R1 n' 
  refine l_aload_n 1 dL_1292 rfl rfl ?_
  refine l_arg (k := 1) hS hi (by decide) rfl dL_1293 dL_1294 dL_1295 dL_1296 dL_1297 ?_
  refine l_arg (k := 2) hS hi (by decide) rfl dL_1298 dL_1299 dL_1300 dL_1301 dL_1302 ?_
  refine l_bool dL_1303 dL_1306 dL_1307 dL_1310 ?_
  refine l_callV (d := 40) (as := [.int (S.2 (i + 1)), .int (if S.2 (i + 2) = 0 then 0 else 1)]) (st := [.int r]) dL_1311 mlL_119 rfl (Nat.le_of_ble_eq_true rfl) ly_95 rfl rfl (by decide) (by omega) (Nat.le_of_ble_eq_true rfl) rfl (Nat.le_refl _) h2 (by decide) cm (fun w I2 J2 R2 q => ?_)
  obtain ⟨q1, hI⟩ := q
  subst q1
  show LW S 1314 (lvL i) [.int r, .int r] I2 J2 R2 n' 
  exact l_icmp_eq (tgt := 1626) dL_1314 (by decide) (fun _ => nx I2 J2 R2 n' hI) (fun c => absurd rfl c)
theorem case_24 {S : Nat × (Nat → Int32)} {i : Nat} {I : mI} {J : mJ} {R : mR} {n : Nat} (hS : S.1 ≤ 3072) (hi : i + 6 ≤ S.1) (h : INV I R n) (nx : ∀ I' J' R' n', INV I' R' n' → LW S 1626 (lvL i) [] I' J' R' n') : LW S 1319 (lvL i) [] I J R n := by
  obtain ⟨v, n', hT, h1, h2, ca⟩ := st_swapped (S := S) (J := J) h (S.2 (i + 1)) (if S.2 (i + 2) = 0 then 0 else 1)
  obtain ⟨r, rfl⟩ : ∃ r, v = .int r := hT
  have hn := h.n1
  refine l_aload_n 2 dL_1319 rfl rfl ?_
  refine l_arg (k := 1) hS hi (by decide) rfl dL_1320 dL_1321 dL_1322 dL_1323 dL_1324 ?_
  refine l_arg (k := 2) hS hi (by decide) rfl dL_1325 dL_1326 dL_1327 dL_1328 dL_1329 ?_
  refine l_bool dL_1330 dL_1333 dL_1334 dL_1337 ?_
  refine l_callV (d := 40) (as := [.int (S.2 (i + 1)), .int (if S.2 (i + 2) = 0 then 0 else 1)]) (st := []) dL_1338 mlL_120 rfl (Nat.le_of_ble_eq_true rfl) ly_0 rfl rfl (by decide) (by omega) (Nat.le_of_ble_eq_true rfl) rfl h1 h2 (by decide) ca (fun w I1 J1 R1 q => ?_)
  obtain ⟨q1, cm⟩ := q
  subst q1
  show LW S 1341 (lvL i) [.int r] I1 J1 R1 n' 
  refine l_aload_n 1 dL_1341 rfl rfl ?_
  refine l_arg (k := 1) hS hi (by decide) rfl dL_1342 dL_1343 dL_1344 dL_1345 dL_1346 ?_
  refine l_arg (k := 2) hS hi (by decide) rfl dL_1347 dL_1348 dL_1349 dL_1350 dL_1351 ?_
  refine l_bool dL_1352 dL_1355 dL_1356 dL_1359 ?_
  refine l_callV (d := 40) (as := [.int (S.2 (i + 1)), .int (if S.2 (i + 2) = 0 then 0 else 1)]) (st := [.int r]) dL_1360 mlL_123 rfl (Nat.le_of_ble_eq_true rfl) ly_95 rfl rfl (by decide) (by omega) (Nat.le_of_ble_eq_true rfl) rfl (Nat.le_refl _) h2 (by decide) cm (fun w I2 J2 R2 q => ?_)
  obtain ⟨q1, hI⟩ := q
  subst q1
  show LW S 1363 (lvL i) [.int r, .int r] I2 J2 R2 n' 
  exact l_icmp_eq (tgt := 1626) dL_1363 (by decide) (fun _ => nx I2 J2 R2 n' hI) (fun c => absurd rfl c)
theorem case_25 {S : Nat × (Nat → Int32)} {i : Nat} {I : mI} {J : mJ} {R : mR} {n : Nat} (hS : S.1 ≤ 3072) (hi : i + 6 ≤ S.1) (h : INV I R n) (nx : ∀ I' J' R' n', INV I' R' n' → LW S 1626 (lvL i) [] I' J' R' n') : LW S 1368 (lvL i) [] I J R n := by
  obtain ⟨v, n', hT, h1, h2, ca⟩ := st_strike (S := S) (J := J) h (S.2 (i + 1)) (S.2 (i + 2)) (if S.2 (i + 3) = 0 then 0 else 1)
  obtain ⟨r, rfl⟩ : ∃ r, v = .long r := hT
  have hn := h.n1
  refine l_aload_n 2 dL_1368 rfl rfl ?_
  refine l_arg (k := 1) hS hi (by decide) rfl dL_1369 dL_1370 dL_1371 dL_1372 dL_1373 ?_
  refine l_arg (k := 2) hS hi (by decide) rfl dL_1374 dL_1375 dL_1376 dL_1377 dL_1378 ?_
  refine l_arg (k := 3) hS hi (by decide) rfl dL_1379 dL_1380 dL_1381 dL_1382 dL_1383 ?_
  refine l_bool dL_1384 dL_1387 dL_1388 dL_1391 ?_
  refine l_callV (d := 40) (as := [.int (S.2 (i + 1)), .int (S.2 (i + 2)), .int (if S.2 (i + 3) = 0 then 0 else 1)]) (st := []) dL_1392 mlL_124 rfl (Nat.le_of_ble_eq_true rfl) ly_0 rfl rfl (by decide) (by omega) (Nat.le_of_ble_eq_true rfl) rfl h1 h2 (by decide) ca (fun w I1 J1 R1 q => ?_)
  obtain ⟨q1, cm⟩ := q
  subst q1
  show LW S 1395 (lvL i) [.long r] I1 J1 R1 n' 
  refine l_aload_n 1 dL_1395 rfl rfl ?_
  refine l_arg (k := 1) hS hi (by decide) rfl dL_1396 dL_1397 dL_1398 dL_1399 dL_1400 ?_
  refine l_arg (k := 2) hS hi (by decide) rfl dL_1401 dL_1402 dL_1403 dL_1404 dL_1405 ?_
  refine l_arg (k := 3) hS hi (by decide) rfl dL_1406 dL_1407 dL_1408 dL_1409 dL_1410 ?_
  refine l_bool dL_1411 dL_1414 dL_1415 dL_1418 ?_
  refine l_callV (d := 40) (as := [.int (S.2 (i + 1)), .int (S.2 (i + 2)), .int (if S.2 (i + 3) = 0 then 0 else 1)]) (st := [.long r]) dL_1419 mlL_127 rfl (Nat.le_of_ble_eq_true rfl) ly_95 rfl rfl (by decide) (by omega) (Nat.le_of_ble_eq_true rfl) rfl (Nat.le_refl _) h2 (by decide) cm (fun w I2 J2 R2 q => ?_)
  obtain ⟨q1, hI⟩ := q
  subst q1
  show LW S 1422 (lvL i) [.long r, .long r] I2 J2 R2 n' 
  refine l_lcmp dL_1422 ?_
  exact l_if_eq (tgt := 1626) dL_1423 (by decide) (fun _ => nx I2 J2 R2 n' hI) (fun c => absurd (lg_self r) c)
theorem case_26 {S : Nat × (Nat → Int32)} {i : Nat} {I : mI} {J : mJ} {R : mR} {n : Nat} (hS : S.1 ≤ 3072) (hi : i + 6 ≤ S.1) (h : INV I R n) (nx : ∀ I' J' R' n', INV I' R' n' → LW S 1626 (lvL i) [] I' J' R' n') : LW S 1428 (lvL i) [] I J R n := by
  obtain ⟨v, n', hT, h1, h2, ca⟩ := st_ruled (S := S) (J := J) h (S.2 (i + 1)) (S.2 (i + 2))
  obtain ⟨r, rfl⟩ : ∃ r, v = .int r := hT
  have hn := h.n1
  refine l_aload_n 2 dL_1428 rfl rfl ?_
  refine l_arg (k := 1) hS hi (by decide) rfl dL_1429 dL_1430 dL_1431 dL_1432 dL_1433 ?_
  refine l_arg (k := 2) hS hi (by decide) rfl dL_1434 dL_1435 dL_1436 dL_1437 dL_1438 ?_
  refine l_callV (d := 40) (as := [.int (S.2 (i + 1)), .int (S.2 (i + 2))]) (st := []) dL_1439 mlL_128 rfl (Nat.le_of_ble_eq_true rfl) ly_0 rfl rfl (by decide) (by omega) (Nat.le_of_ble_eq_true rfl) rfl h1 h2 (by decide) ca (fun w I1 J1 R1 q => ?_)
  obtain ⟨q1, cm⟩ := q
  subst q1
  show LW S 1442 (lvL i) [.int r] I1 J1 R1 n' 
  refine l_aload_n 1 dL_1442 rfl rfl ?_
  refine l_arg (k := 1) hS hi (by decide) rfl dL_1443 dL_1444 dL_1445 dL_1446 dL_1447 ?_
  refine l_arg (k := 2) hS hi (by decide) rfl dL_1448 dL_1449 dL_1450 dL_1451 dL_1452 ?_
  refine l_callV (d := 40) (as := [.int (S.2 (i + 1)), .int (S.2 (i + 2))]) (st := [.int r]) dL_1453 mlL_131 rfl (Nat.le_of_ble_eq_true rfl) ly_95 rfl rfl (by decide) (by omega) (Nat.le_of_ble_eq_true rfl) rfl (Nat.le_refl _) h2 (by decide) cm (fun w I2 J2 R2 q => ?_)
  obtain ⟨q1, hI⟩ := q
  subst q1
  show LW S 1456 (lvL i) [.int r, .int r] I2 J2 R2 n' 
  exact l_icmp_eq (tgt := 1626) dL_1456 (by decide) (fun _ => nx I2 J2 R2 n' hI) (fun c => absurd rfl c)
theorem case_27 {S : Nat × (Nat → Int32)} {i : Nat} {I : mI} {J : mJ} {R : mR} {n : Nat} (hS : S.1 ≤ 3072) (hi : i + 6 ≤ S.1) (h : INV I R n) (nx : ∀ I' J' R' n', INV I' R' n' → LW S 1626 (lvL i) [] I' J' R' n') : LW S 1461 (lvL i) [] I J R n := by
  obtain ⟨v, n', hT, h1, h2, ca⟩ := st_after (S := S) (J := J) h (S.2 (i + 1)) (S.2 (i + 2)) (S.2 (i + 3))
  obtain ⟨r, rfl⟩ : ∃ r, v = .int r := hT
  have hn := h.n1
  refine l_aload_n 2 dL_1461 rfl rfl ?_
  refine l_arg (k := 1) hS hi (by decide) rfl dL_1462 dL_1463 dL_1464 dL_1465 dL_1466 ?_
  refine l_arg (k := 2) hS hi (by decide) rfl dL_1467 dL_1468 dL_1469 dL_1470 dL_1471 ?_
  refine l_arg (k := 3) hS hi (by decide) rfl dL_1472 dL_1473 dL_1474 dL_1475 dL_1476 ?_
  refine l_callV (d := 40) (as := [.int (S.2 (i + 1)), .int (S.2 (i + 2)), .int (S.2 (i + 3))]) (st := []) dL_1477 mlL_132 rfl (Nat.le_of_ble_eq_true rfl) ly_0 rfl rfl (by decide) (by omega) (Nat.le_of_ble_eq_true rfl) rfl h1 h2 (by decide) ca (fun w I1 J1 R1 q => ?_)
  obtain ⟨q1, cm⟩ := q
  subst q1
  show LW S 1480 (lvL i) [.int r] I1 J1 R1 n' 
  refine l_aload_n 1 dL_1480 rfl rfl ?_
  refine l_arg (k := 1) hS hi (by decide) rfl dL_1481 dL_1482 dL_1483 dL_1484 dL_1485 ?_
  refine l_arg (k := 2) hS hi (by decide) rfl dL_1486 dL_1487 dL_1488 dL_1489 dL_1490 ?_
  refine l_arg (k := 3) hS hi (by decide) rfl dL_1491 dL_1492 dL_1493 dL_1494 dL_1495 ?_
  refine l_callV (d := 40) (as := [.int (S.2 (i + 1)), .int (S.2 (i + 2)), .int (S.2 (i + 3))]) (st := [.int r]) dL_1496 mlL_135 rfl (Nat.le_of_ble_eq_true rfl) ly_95 rfl rfl (by decide) (by omega) (Nat.le_of_ble_eq_true rfl) rfl (Nat.le_refl _) h2 (by decide) cm (fun w I2 J2 R2 q => ?_)
  obtain ⟨q1, hI⟩ := q
  subst q1
  show LW S 1499 (lvL i) [.int r, .int r] I2 J2 R2 n' 
  exact l_icmp_eq (tgt := 1626) dL_1499 (by decide) (fun _ => nx I2 J2 R2 n' hI) (fun c => absurd rfl c)
theorem case_28 {S : Nat × (Nat → Int32)} {i : Nat} {I : mI} {J : mJ} {R : mR} {n : Nat} (hS : S.1 ≤ 3072) (hi : i + 6 ≤ S.1) (h : INV I R n) (nx : ∀ I' J' R' n', INV I' R' n' → LW S 1626 (lvL i) [] I' J' R' n') : LW S 1504 (lvL i) [] I J R n := by
  obtain ⟨v, n', hT, h1, h2, ca⟩ := st_then (S := S) (J := J) h (S.2 (i + 1)) (S.2 (i + 2)) (S.2 (i + 3)) (S.2 (i + 4))
  obtain ⟨r, rfl⟩ : ∃ r, v = .int r := hT
  have hn := h.n1
  refine l_aload_n 2 dL_1504 rfl rfl ?_
  refine l_arg (k := 1) hS hi (by decide) rfl dL_1505 dL_1506 dL_1507 dL_1508 dL_1509 ?_
  refine l_arg (k := 2) hS hi (by decide) rfl dL_1510 dL_1511 dL_1512 dL_1513 dL_1514 ?_
  refine l_arg (k := 3) hS hi (by decide) rfl dL_1515 dL_1516 dL_1517 dL_1518 dL_1519 ?_
  refine l_arg (k := 4) hS hi (by decide) rfl dL_1520 dL_1521 dL_1522 dL_1523 dL_1524 ?_
  refine l_callV (d := 40) (as := [.int (S.2 (i + 1)), .int (S.2 (i + 2)), .int (S.2 (i + 3)), .int (S.2 (i + 4))]) (st := []) dL_1525 mlL_136 rfl (Nat.le_of_ble_eq_true rfl) ly_0 rfl rfl (by decide) (by omega) (Nat.le_of_ble_eq_true rfl) rfl h1 h2 (by decide) ca (fun w I1 J1 R1 q => ?_)
  obtain ⟨q1, cm⟩ := q
  subst q1
  show LW S 1528 (lvL i) [.int r] I1 J1 R1 n' 
  refine l_aload_n 1 dL_1528 rfl rfl ?_
  refine l_arg (k := 1) hS hi (by decide) rfl dL_1529 dL_1530 dL_1531 dL_1532 dL_1533 ?_
  refine l_arg (k := 2) hS hi (by decide) rfl dL_1534 dL_1535 dL_1536 dL_1537 dL_1538 ?_
  refine l_arg (k := 3) hS hi (by decide) rfl dL_1539 dL_1540 dL_1541 dL_1542 dL_1543 ?_
  refine l_arg (k := 4) hS hi (by decide) rfl dL_1544 dL_1545 dL_1546 dL_1547 dL_1548 ?_
  refine l_callV (d := 40) (as := [.int (S.2 (i + 1)), .int (S.2 (i + 2)), .int (S.2 (i + 3)), .int (S.2 (i + 4))]) (st := [.int r]) dL_1549 mlL_139 rfl (Nat.le_of_ble_eq_true rfl) ly_95 rfl rfl (by decide) (by omega) (Nat.le_of_ble_eq_true rfl) rfl (Nat.le_refl _) h2 (by decide) cm (fun w I2 J2 R2 q => ?_)
  obtain ⟨q1, hI⟩ := q
  subst q1
  show LW S 1552 (lvL i) [.int r, .int r] I2 J2 R2 n' 
  exact l_icmp_eq (tgt := 1626) dL_1552 (by decide) (fun _ => nx I2 J2 R2 n' hI) (fun c => absurd rfl c)
theorem case_29 {S : Nat × (Nat → Int32)} {i : Nat} {I : mI} {J : mJ} {R : mR} {n : Nat} (hS : S.1 ≤ 3072) (hi : i + 6 ≤ S.1) (h : INV I R n) (nx : ∀ I' J' R' n', INV I' R' n' → LW S 1626 (lvL i) [] I' J' R' n') : LW S 1557 (lvL i) [] I J R n := by
  obtain ⟨v, n', hT, h1, h2, ca⟩ := st_count (S := S) (J := J) h (S.2 (i + 1))
  obtain ⟨r, rfl⟩ : ∃ r, v = .int r := hT
  have hn := h.n1
  refine l_aload_n 2 dL_1557 rfl rfl ?_
  refine l_arg (k := 1) hS hi (by decide) rfl dL_1558 dL_1559 dL_1560 dL_1561 dL_1562 ?_
  refine l_callV (d := 40) (as := [.int (S.2 (i + 1))]) (st := []) dL_1563 mlL_140 rfl (Nat.le_of_ble_eq_true rfl) ly_0 rfl rfl (by decide) (by omega) (Nat.le_of_ble_eq_true rfl) rfl h1 h2 (by decide) ca (fun w I1 J1 R1 q => ?_)
  obtain ⟨q1, cm⟩ := q
  subst q1
  show LW S 1566 (lvL i) [.int r] I1 J1 R1 n' 
  refine l_aload_n 1 dL_1566 rfl rfl ?_
  refine l_arg (k := 1) hS hi (by decide) rfl dL_1567 dL_1568 dL_1569 dL_1570 dL_1571 ?_
  refine l_callV (d := 40) (as := [.int (S.2 (i + 1))]) (st := [.int r]) dL_1572 mlL_143 rfl (Nat.le_of_ble_eq_true rfl) ly_95 rfl rfl (by decide) (by omega) (Nat.le_of_ble_eq_true rfl) rfl (Nat.le_refl _) h2 (by decide) cm (fun w I2 J2 R2 q => ?_)
  obtain ⟨q1, hI⟩ := q
  subst q1
  show LW S 1575 (lvL i) [.int r, .int r] I2 J2 R2 n' 
  exact l_icmp_eq (tgt := 1626) dL_1575 (by decide) (fun _ => nx I2 J2 R2 n' hI) (fun c => absurd rfl c)
theorem case_30 {S : Nat × (Nat → Int32)} {i : Nat} {I : mI} {J : mJ} {R : mR} {n : Nat} (hS : S.1 ≤ 3072) (hi : i + 6 ≤ S.1) (h : INV I R n) (hz : zr I J R n) (nx : ∀ I' J' R' n', INV I' R' n' → LW S 1626 (lvL i) [] I' J' R' n') : LW S 1580 (lvL i) [] I J R n := by
  obtain ⟨v, n', hT, h1, h2, ca⟩ := st_image (S := S) (J := J) h hz (S.2 (i + 1))
  obtain ⟨r, rfl⟩ : ∃ r, v = .int r := hT
  have hn := h.n1
  refine l_aload_n 2 dL_1580 rfl rfl ?_
  refine l_arg (k := 1) hS hi (by decide) rfl dL_1581 dL_1582 dL_1583 dL_1584 dL_1585 ?_
  refine l_callV (d := 40) (as := [.int (S.2 (i + 1))]) (st := []) dL_1586 mlL_144 rfl (Nat.le_of_ble_eq_true rfl) ly_0 rfl rfl (by decide) (by omega) (Nat.le_of_ble_eq_true rfl) rfl h1 h2 (by decide) ca (fun w I1 J1 R1 q => ?_)
  obtain ⟨q1, cm⟩ := q
  subst q1
  show LW S 1589 (lvL i) [.int r] I1 J1 R1 n' 
  refine l_aload_n 1 dL_1589 rfl rfl ?_
  refine l_arg (k := 1) hS hi (by decide) rfl dL_1590 dL_1591 dL_1592 dL_1593 dL_1594 ?_
  refine l_callV (d := 40) (as := [.int (S.2 (i + 1))]) (st := [.int r]) dL_1595 mlL_148 rfl (Nat.le_of_ble_eq_true rfl) ly_95 rfl rfl (by decide) (by omega) (Nat.le_of_ble_eq_true rfl) rfl (Nat.le_refl _) h2 (by decide) cm (fun w I2 J2 R2 q => ?_)
  obtain ⟨q1, hI⟩ := q
  subst q1
  show LW S 1598 (lvL i) [.int r, .int r] I2 J2 R2 n' 
  exact l_icmp_eq (tgt := 1626) dL_1598 (by decide) (fun _ => nx I2 J2 R2 n' hI) (fun c => absurd rfl c)
theorem case_31 {S : Nat × (Nat → Int32)} {i : Nat} {I : mI} {J : mJ} {R : mR} {n : Nat} (hS : S.1 ≤ 3072) (hi : i + 6 ≤ S.1) (h : INV I R n) (nx : ∀ I' J' R' n', INV I' R' n' → LW S 1626 (lvL i) [] I' J' R' n') : LW S 1603 (lvL i) [] I J R n := by
  obtain ⟨v, n', hT, h1, h2, ca⟩ := st_again (S := S) (J := J) h (S.2 (i + 1))
  obtain ⟨r, rfl⟩ : ∃ r, v = .int r := hT
  have hn := h.n1
  refine l_aload_n 2 dL_1603 rfl rfl ?_
  refine l_arg (k := 1) hS hi (by decide) rfl dL_1604 dL_1605 dL_1606 dL_1607 dL_1608 ?_
  refine l_callV (d := 40) (as := [.int (S.2 (i + 1))]) (st := []) dL_1609 mlL_149 rfl (Nat.le_of_ble_eq_true rfl) ly_0 rfl rfl (by decide) (by omega) (Nat.le_of_ble_eq_true rfl) rfl h1 h2 (by decide) ca (fun w I1 J1 R1 q => ?_)
  obtain ⟨q1, cm⟩ := q
  subst q1
  show LW S 1612 (lvL i) [.int r] I1 J1 R1 n' 
  refine l_aload_n 1 dL_1612 rfl rfl ?_
  refine l_arg (k := 1) hS hi (by decide) rfl dL_1613 dL_1614 dL_1615 dL_1616 dL_1617 ?_
  refine l_callV (d := 40) (as := [.int (S.2 (i + 1))]) (st := [.int r]) dL_1618 mlL_152 rfl (Nat.le_of_ble_eq_true rfl) ly_95 rfl rfl (by decide) (by omega) (Nat.le_of_ble_eq_true rfl) rfl (Nat.le_refl _) h2 (by decide) cm (fun w I2 J2 R2 q => ?_)
  obtain ⟨q1, hI⟩ := q
  subst q1
  show LW S 1621 (lvL i) [.int r, .int r] I2 J2 R2 n' 
  exact l_icmp_eq (tgt := 1626) dL_1621 (by decide) (fun _ => nx I2 J2 R2 n' hI) (fun c => absurd rfl c)
