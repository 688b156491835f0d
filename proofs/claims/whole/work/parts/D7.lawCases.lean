/-! The law's loop: each of its calls. -/
theorem GL.drop {J : JL} {pc : Nat} {ls ls' : List (Option Value)} {st : List Value} {σ : Nat → (Nat → ClassId) → va_W} (i : Nat) (hs : ls.set i none = ls') (h : GL J pc ls' st σ) : GL J pc ls st σ := by
  subst hs
  intro B bb D cA p l e s m args below meth c H locs la C hE hP hS hl
  refine h B bb D cA p l e s m args below meth c H locs la C hE hP hS ⟨hl.1, hl.2.1, fun j v hj => hl.2.2 j v ?_⟩
  rw [List.getElem?_set] at hj
  split at hj
  · split at hj <;> cases hj
  · exact hj
theorem lw_sld {u us L : Nat} {xs : Nat → Int32} {pc : Nat} {ls : List (Option Value)} {st : List Value} {σ : Nat → (Nat → ClassId) → va_W} {j : Nat} (d : decode (ic mL_law) pc = .ok (.iaload, 1)) (hj : j < L) (hL : L ≤ 3075) (k : GL ((u, us), L, xs) (pc + 1) ls (.int (xs j) :: st) σ) : GL ((u, us), L, xs) pc ls (.int (nI j) :: .ref 999 :: st) σ := lg_sld d hj hL rfl k
/-- the room that the law has used behind j calls -/
def rmU (j u us : Nat) : Prop := u ≤ 313 + j ∧ us ≤ 15615 + 6 * j
theorem rmU.cap {j u us : Nat} (h : rmU j u us) (hj : j ≤ 1001) : u ≤ RL_law.1 ∧ us ≤ RL_law.2 := by
  obtain ⟨h1, h2⟩ := h
  exact ⟨by show u ≤ 601024; omega, by show us ≤ 7293000; omega⟩
theorem rmU.capY {j u us : Nat} (h : rmU j u us) (hj : j ≤ 1000) : u + 1 ≤ RL_law.1 ∧ us + 6 ≤ RL_law.2 := by
  obtain ⟨h1, h2⟩ := h
  exact ⟨by show u + 1 ≤ 601024; omega, by show us + 6 ≤ 7293000; omega⟩
theorem rmU.s {j u us : Nat} (h : rmU j u us) : rmU (j + 1) u us := ⟨by have := h.1; omega, by have := h.2; omega⟩
theorem rmU.y {j u us : Nat} (h : rmU j u us) : rmU (j + 1) (u + 1) (us + 6) := ⟨by have := h.1; omega, by have := h.2; omega⟩
/-- how the law goes on behind a call -/
def CTN (L : Nat) (xs : Nat → Int32) (j i : Nat) : Prop := ∀ (u us : Nat) (τ : Mm) (S : Sx) (H : Hx), rmU (j + 1) u us → CI τ S H → MI_ τ S H → PC (j + 1) S → GL ((u, us), L, xs) 1511 [some (.ref 999), some (.ref 0), some (.ref 258), some (.ref 312), some (.int (nI i)), none, none, none] [] (wW τ)
theorem PC.bd {j : Nat} {S : Sx} (h : PC j S) : Bd S := h.1.1.1.1.1
theorem frL_w (τ : Mm) (v : Int64) : frL τ (wL τ 312 0 v) := fun _ _ => rfl
theorem MI_.w {τ : Mm} {S : Sx} {H : Hx} (h : MI_ τ S H) (v : Int64) : MI_ (wL τ 312 0 v) S H := by
  obtain ⟨⟨h1, h2, h3⟩, h4, h5, h6⟩ := h
  refine ⟨⟨h1, h2, fun g i hi hl => ?_⟩, h4, h5, h6⟩
  have hm := vA_ge (vS_lt hi).1
  have e : (wL τ 312 0 v).2 (vA g) = τ.2 (vA g) := if_neg (by omega)
  rw [e]; exact h3 g i hi hl
theorem wL_312 (τ : Mm) (v : Int64) : (wL τ 312 0 v).2 312 0 = v := by
  show (if 312 = 312 then vp_updL (τ.2 312) 0 v else τ.2 312) 0 = v
  rw [if_pos rfl]
  unfold vp_updL
  rw [if_pos rfl]
theorem cmp_self (x : Int64) : lg_cmp x x = 0 := by
  unfold lg_cmp
  simp
theorem RepM.frK1 {σ τ : Mm} {S' : Sx} (h : RepM 1 σ S') (he : frK σ τ) : RepM 1 τ S' := by
  obtain ⟨h1, h2, h3⟩ := h
  refine ⟨fun g i hi => ?_, fun g i hi hl => ?_, fun g i hi hl => ?_⟩
  · rw [he.1 _ (mA_ge (mS_lt hi).1).1]; exact h1 g i hi
  · rw [he.1 _ (vA_ge (vS_lt hi).1).1]; exact h2 g i hi hl
  · rw [he.2]; exact h3 g i hi hl
theorem kFC0 : kw W0 0 = (11, 4) := by decide +kernel
theorem lc_link {L : Nat} {xs : Nat → Int32} {j i u us : Nat} {τ : Mm} {S : Sx} {H : Hx} (hL : L ≤ 3075) (hi : i + 6 ≤ L) (hj : j ≤ 1000) (hu : rmU j u us) (hC : CI τ S H) (hM : MI_ τ S H) (hP : PC j S) (hN : CTN L xs j i) : GL ((u, us), L, xs) 208 [some (.ref 999), some (.ref 0), some (.ref 258), some (.ref 312), some (.int (nI i)), none, none, none] [] (wW τ) := by
  refine lgs_aload_n dL_law_208 rfl rfl ?_
  refine lgs_aload_n dL_law_209 rfl rfl ?_
  refine lg_iload dL_law_210 rfl ?_
  refine lg_iconst (v := nI 1) dL_law_212 (by decide) ?_
  refine lg_iadd dL_law_213 (nI_add _ _) ?_
  refine lw_sld dL_law_214 (by omega) hL ?_
  refine lgs_aload_n dL_law_215 rfl rfl ?_
  refine lg_iload dL_law_216 rfl ?_
  refine lg_iconst (v := nI 2) dL_law_218 (by decide) ?_
  refine lg_iadd dL_law_219 (nI_add _ _) ?_
  refine lw_sld dL_law_220 (by omega) hL ?_
  refine lgs_aload_n dL_law_221 rfl rfl ?_
  refine lg_iload dL_law_222 rfl ?_
  refine lg_iconst (v := nI 3) dL_law_224 (by decide) ?_
  refine lg_iadd dL_law_225 (nI_add _ _) ?_
  refine lw_sld dL_law_226 (by omega) hL ?_
  refine lgs_aload_n dL_law_227 rfl rfl ?_
  refine lg_iload dL_law_228 rfl ?_
  refine lg_iconst (v := nI 4) dL_law_230 (by decide) ?_
  refine lg_iadd dL_law_231 (nI_add _ _) ?_
  refine lw_sld dL_law_232 (by omega) hL ?_
  refine lg_cVI4 dL_law_233 vLw_36 (by decide) (hu.cap (Nat.le_succ_of_le hj)) kFC0 (by decide) (by decide) (Nat.le_of_ble_eq_true rfl) (a_link hC hP.1 _ _ _ _) ?_
  rintro _ τ1 ⟨rfl, hC1, hf⟩
  refine lgs_aload_n dL_law_236 rfl rfl ?_
  refine lgs_aload_n dL_law_237 rfl rfl ?_
  refine lg_iload dL_law_238 rfl ?_
  refine lg_iconst (v := nI 1) dL_law_240 (by decide) ?_
  refine lg_iadd dL_law_241 (nI_add _ _) ?_
  refine lw_sld dL_law_242 (by omega) hL ?_
  refine lgs_aload_n dL_law_243 rfl rfl ?_
  refine lg_iload dL_law_244 rfl ?_
  refine lg_iconst (v := nI 2) dL_law_246 (by decide) ?_
  refine lg_iadd dL_law_247 (nI_add _ _) ?_
  refine lw_sld dL_law_248 (by omega) hL ?_
  refine lgs_aload_n dL_law_249 rfl rfl ?_
  refine lg_iload dL_law_250 rfl ?_
  refine lg_iconst (v := nI 3) dL_law_252 (by decide) ?_
  refine lg_iadd dL_law_253 (nI_add _ _) ?_
  refine lw_sld dL_law_254 (by omega) hL ?_
  refine lgs_aload_n dL_law_255 rfl rfl ?_
  refine lg_iload dL_law_256 rfl ?_
  refine lg_iconst (v := nI 4) dL_law_258 (by decide) ?_
  refine lg_iadd dL_law_259 (nI_add _ _) ?_
  refine lw_sld dL_law_260 (by omega) hL ?_
  refine lg_cVI4 dL_law_261 vLw_40 (by decide) (hu.cap (Nat.le_succ_of_le hj)) kwM (by decide) (by decide) (Nat.le_of_ble_eq_true rfl) (n_link (hM.fr hf) hP.1 _ _ _ _) ?_
  rintro _ τ2 ⟨rfl, hM2, hfL⟩
  refine lrt_icmp_eq (tgt := 1511) dL_law_264 (by decide) rfl ?_
  have hP2 := PC_link hP (xs (i + 1)) (xs (i + 2)) (xs (i + 3)) (xs (i + 4))
  exact hN u us τ2 _ _ hu.s (CI.fr hC1 hP2.bd hfL) hM2 hP2
theorem lc_far {L : Nat} {xs : Nat → Int32} {j i u us : Nat} {τ : Mm} {S : Sx} {H : Hx} (hL : L ≤ 3075) (hi : i + 6 ≤ L) (hj : j ≤ 1000) (hu : rmU j u us) (hC : CI τ S H) (hM : MI_ τ S H) (hP : PC j S) (hN : CTN L xs j i) : GL ((u, us), L, xs) 269 [some (.ref 999), some (.ref 0), some (.ref 258), some (.ref 312), some (.int (nI i)), none, none, none] [] (wW τ) := by
  refine lgs_aload_n dL_law_269 rfl rfl ?_
  refine lgs_aload_n dL_law_270 rfl rfl ?_
  refine lg_iload dL_law_271 rfl ?_
  refine lg_iconst (v := nI 1) dL_law_273 (by decide) ?_
  refine lg_iadd dL_law_274 (nI_add _ _) ?_
  refine lw_sld dL_law_275 (by omega) hL ?_
  refine lgs_aload_n dL_law_276 rfl rfl ?_
  refine lg_iload dL_law_277 rfl ?_
  refine lg_iconst (v := nI 2) dL_law_279 (by decide) ?_
  refine lg_iadd dL_law_280 (nI_add _ _) ?_
  refine lw_sld dL_law_281 (by omega) hL ?_
  refine lg_cVI2 dL_law_282 vLw_41 (by decide) (hu.cap (Nat.le_succ_of_le hj)) kFC0 (by decide) (by decide) (Nat.le_of_ble_eq_true rfl) (a_far hC hP.1 _ _) ?_
  rintro _ _ ⟨rfl, rfl⟩
  refine lgs_aload_n dL_law_285 rfl rfl ?_
  refine lgs_aload_n dL_law_286 rfl rfl ?_
  refine lg_iload dL_law_287 rfl ?_
  refine lg_iconst (v := nI 1) dL_law_289 (by decide) ?_
  refine lg_iadd dL_law_290 (nI_add _ _) ?_
  refine lw_sld dL_law_291 (by omega) hL ?_
  refine lgs_aload_n dL_law_292 rfl rfl ?_
  refine lg_iload dL_law_293 rfl ?_
  refine lg_iconst (v := nI 2) dL_law_295 (by decide) ?_
  refine lg_iadd dL_law_296 (nI_add _ _) ?_
  refine lw_sld dL_law_297 (by omega) hL ?_
  refine lg_cVI2 dL_law_298 vLw_44 (by decide) (hu.cap (Nat.le_succ_of_le hj)) kwM (by decide) (by decide) (Nat.le_of_ble_eq_true rfl) (n_far hM hP.1 _ _) ?_
  rintro _ τ2 ⟨rfl, hM2, hfL⟩
  refine lrt_icmp_eq (tgt := 1511) dL_law_301 (by decide) rfl ?_
  have hP2 := PC_rf hP
  exact hN u us τ2 _ _ hu.s (CI.fr hC hP2.bd hfL) hM2 hP2
theorem lc_way {L : Nat} {xs : Nat → Int32} {j i u us : Nat} {τ : Mm} {S : Sx} {H : Hx} (hL : L ≤ 3075) (hi : i + 6 ≤ L) (hj : j ≤ 1000) (hu : rmU j u us) (hC : CI τ S H) (hM : MI_ τ S H) (hP : PC j S) (hN : CTN L xs j i) : GL ((u, us), L, xs) 306 [some (.ref 999), some (.ref 0), some (.ref 258), some (.ref 312), some (.int (nI i)), none, none, none] [] (wW τ) := by
  refine lgs_aload_n dL_law_306 rfl rfl ?_
  refine lgs_aload_n dL_law_307 rfl rfl ?_
  refine lg_iload dL_law_308 rfl ?_
  refine lg_iconst (v := nI 1) dL_law_310 (by decide) ?_
  refine lg_iadd dL_law_311 (nI_add _ _) ?_
  refine lw_sld dL_law_312 (by omega) hL ?_
  refine lgs_aload_n dL_law_313 rfl rfl ?_
  refine lg_iload dL_law_314 rfl ?_
  refine lg_iconst (v := nI 2) dL_law_316 (by decide) ?_
  refine lg_iadd dL_law_317 (nI_add _ _) ?_
  refine lw_sld dL_law_318 (by omega) hL ?_
  refine lgs_aload_n dL_law_319 rfl rfl ?_
  refine lg_iload dL_law_320 rfl ?_
  refine lg_iconst (v := nI 3) dL_law_322 (by decide) ?_
  refine lg_iadd dL_law_323 (nI_add _ _) ?_
  refine lw_sld dL_law_324 (by omega) hL ?_
  refine lg_cVI3 dL_law_325 vLw_45 (by decide) (hu.cap (Nat.le_succ_of_le hj)) kFC0 (by decide) (by decide) (Nat.le_of_ble_eq_true rfl) (a_way hC hP.1 _ _ _) ?_
  rintro _ _ ⟨rfl, rfl⟩
  refine lgs_aload_n dL_law_328 rfl rfl ?_
  refine lgs_aload_n dL_law_329 rfl rfl ?_
  refine lg_iload dL_law_330 rfl ?_
  refine lg_iconst (v := nI 1) dL_law_332 (by decide) ?_
  refine lg_iadd dL_law_333 (nI_add _ _) ?_
  refine lw_sld dL_law_334 (by omega) hL ?_
  refine lgs_aload_n dL_law_335 rfl rfl ?_
  refine lg_iload dL_law_336 rfl ?_
  refine lg_iconst (v := nI 2) dL_law_338 (by decide) ?_
  refine lg_iadd dL_law_339 (nI_add _ _) ?_
  refine lw_sld dL_law_340 (by omega) hL ?_
  refine lgs_aload_n dL_law_341 rfl rfl ?_
  refine lg_iload dL_law_342 rfl ?_
  refine lg_iconst (v := nI 3) dL_law_344 (by decide) ?_
  refine lg_iadd dL_law_345 (nI_add _ _) ?_
  refine lw_sld dL_law_346 (by omega) hL ?_
  refine lg_cVI3 dL_law_347 vLw_49 (by decide) (hu.cap (Nat.le_succ_of_le hj)) kwM (by decide) (by decide) (Nat.le_of_ble_eq_true rfl) (n_way hM hP.1 _ _ _) ?_
  rintro _ τ2 ⟨rfl, hM2, hfL⟩
  refine lrt_icmp_eq (tgt := 1511) dL_law_350 (by decide) rfl ?_
  have hP2 := PC_rf hP
  exact hN u us τ2 _ _ hu.s (CI.fr hC hP2.bd hfL) hM2 hP2
theorem lc_page {L : Nat} {xs : Nat → Int32} {j i u us : Nat} {τ : Mm} {S : Sx} {H : Hx} (hL : L ≤ 3075) (hi : i + 6 ≤ L) (hj : j ≤ 1000) (hu : rmU j u us) (hC : CI τ S H) (hM : MI_ τ S H) (hP : PC j S) (hN : CTN L xs j i) : GL ((u, us), L, xs) 355 [some (.ref 999), some (.ref 0), some (.ref 258), some (.ref 312), some (.int (nI i)), none, none, none] [] (wW τ) := by
  refine lgs_aload_n dL_law_355 rfl rfl ?_
  refine lgs_aload_n dL_law_356 rfl rfl ?_
  refine lg_iload dL_law_357 rfl ?_
  refine lg_iconst (v := nI 1) dL_law_359 (by decide) ?_
  refine lg_iadd dL_law_360 (nI_add _ _) ?_
  refine lw_sld dL_law_361 (by omega) hL ?_
  refine lg_cVI1 dL_law_362 vLw_50 (by decide) (hu.cap (Nat.le_succ_of_le hj)) kFC0 (by decide) (by decide) (Nat.le_of_ble_eq_true rfl) (a_page hC hP.1 _) ?_
  rintro _ τ1 ⟨rfl, hC1, hf⟩
  refine lgs_aload_n dL_law_365 rfl rfl ?_
  refine lgs_aload_n dL_law_366 rfl rfl ?_
  refine lg_iload dL_law_367 rfl ?_
  refine lg_iconst (v := nI 1) dL_law_369 (by decide) ?_
  refine lg_iadd dL_law_370 (nI_add _ _) ?_
  refine lw_sld dL_law_371 (by omega) hL ?_
  refine lg_cVI1 dL_law_372 vLw_53 (by decide) (hu.cap (Nat.le_succ_of_le hj)) kwM (by decide) (by decide) (Nat.le_of_ble_eq_true rfl) (n_page (hM.fr hf) hP.1 _) ?_
  rintro _ τ2 ⟨rfl, hM2, hfL⟩
  refine lrt_icmp_eq (tgt := 1511) dL_law_375 (by decide) rfl ?_
  have hP2 := PC_page hP (xs (i + 1))
  exact hN u us τ2 _ _ hu.s (CI.fr hC1 hP2.bd hfL) hM2 hP2
theorem lc_thread {L : Nat} {xs : Nat → Int32} {j i u us : Nat} {τ : Mm} {S : Sx} {H : Hx} (hL : L ≤ 3075) (hi : i + 6 ≤ L) (hj : j ≤ 1000) (hu : rmU j u us) (hC : CI τ S H) (hM : MI_ τ S H) (hP : PC j S) (hN : CTN L xs j i) : GL ((u, us), L, xs) 380 [some (.ref 999), some (.ref 0), some (.ref 258), some (.ref 312), some (.int (nI i)), none, none, none] [] (wW τ) := by
  refine lgs_aload_n dL_law_380 rfl rfl ?_
  refine lgs_aload_n dL_law_381 rfl rfl ?_
  refine lg_iload dL_law_382 rfl ?_
  refine lg_iconst (v := nI 1) dL_law_384 (by decide) ?_
  refine lg_iadd dL_law_385 (nI_add _ _) ?_
  refine lw_sld dL_law_386 (by omega) hL ?_
  refine lg_cVI1 dL_law_387 vLw_54 (by decide) (hu.cap (Nat.le_succ_of_le hj)) kFC0 (by decide) (by decide) (Nat.le_of_ble_eq_true rfl) (a_thread hC hP.1 _) ?_
  rintro _ τ1 ⟨rfl, hC1, hf⟩
  refine lgs_aload_n dL_law_390 rfl rfl ?_
  refine lgs_aload_n dL_law_391 rfl rfl ?_
  refine lg_iload dL_law_392 rfl ?_
  refine lg_iconst (v := nI 1) dL_law_394 (by decide) ?_
  refine lg_iadd dL_law_395 (nI_add _ _) ?_
  refine lw_sld dL_law_396 (by omega) hL ?_
  refine lg_cVI1 dL_law_397 vLw_57 (by decide) (hu.cap (Nat.le_succ_of_le hj)) kwM (by decide) (by decide) (Nat.le_of_ble_eq_true rfl) (n_thread (hM.fr hf) hP.1 _) ?_
  rintro _ τ2 ⟨rfl, hM2, hfL⟩
  refine lrt_icmp_eq (tgt := 1511) dL_law_400 (by decide) rfl ?_
  have hP2 := PC_thread hP hj (xs (i + 1))
  exact hN u us τ2 _ _ hu.s (CI.fr hC1 hP2.bd hfL) hM2 hP2
theorem lc_access {L : Nat} {xs : Nat → Int32} {j i u us : Nat} {τ : Mm} {S : Sx} {H : Hx} (hL : L ≤ 3075) (hi : i + 6 ≤ L) (hj : j ≤ 1000) (hu : rmU j u us) (hC : CI τ S H) (hM : MI_ τ S H) (hP : PC j S) (hN : CTN L xs j i) : GL ((u, us), L, xs) 405 [some (.ref 999), some (.ref 0), some (.ref 258), some (.ref 312), some (.int (nI i)), none, none, none] [] (wW τ) := by
  by_cases hw : xs (i + 4) = 0
  · refine lgs_aload_n dL_law_405 rfl rfl ?_
    refine lgs_aload_n dL_law_406 rfl rfl ?_
    refine lg_iload dL_law_407 rfl ?_
    refine lg_iconst (v := nI 1) dL_law_409 (by decide) ?_
    refine lg_iadd dL_law_410 (nI_add _ _) ?_
    refine lw_sld dL_law_411 (by omega) hL ?_
    refine lgs_aload_n dL_law_412 rfl rfl ?_
    refine lg_iload dL_law_413 rfl ?_
    refine lg_iconst (v := nI 2) dL_law_415 (by decide) ?_
    refine lg_iadd dL_law_416 (nI_add _ _) ?_
    refine lw_sld dL_law_417 (by omega) hL ?_
    refine lgs_aload_n dL_law_418 rfl rfl ?_
    refine lg_iload dL_law_419 rfl ?_
    refine lg_iconst (v := nI 3) dL_law_421 (by decide) ?_
    refine lg_iadd dL_law_422 (nI_add _ _) ?_
    refine lw_sld dL_law_423 (by omega) hL ?_
    refine lgs_aload_n dL_law_424 rfl rfl ?_
    refine lg_iload dL_law_425 rfl ?_
    refine lg_iconst (v := nI 4) dL_law_427 (by decide) ?_
    refine lg_iadd dL_law_428 (nI_add _ _) ?_
    refine lw_sld dL_law_429 (by omega) hL ?_
    refine lrt_if_eq (tgt := 437) dL_law_430 (by decide) hw ?_
    refine lg_iconst (v := bI false) dL_law_437 (by decide) ?_
    refine lgs_aload_n dL_law_438 rfl rfl ?_
    refine lg_iload dL_law_439 rfl ?_
    refine lg_iconst (v := nI 5) dL_law_441 (by decide) ?_
    refine lg_iadd dL_law_442 (nI_add _ _) ?_
    refine lw_sld dL_law_443 (by omega) hL ?_
    refine lg_cVI5 dL_law_444 vLw_58 (by decide) (hu.cap (Nat.le_succ_of_le hj)) kFC0 (by decide) (by decide) (Nat.le_of_ble_eq_true rfl) (a_access hC hP.1 _ _ _ false _) ?_
    rintro _ τ1 ⟨rfl, hC1, hf⟩
    refine lgs_aload_n dL_law_447 rfl rfl ?_
    refine lgs_aload_n dL_law_448 rfl rfl ?_
    refine lg_iload dL_law_449 rfl ?_
    refine lg_iconst (v := nI 1) dL_law_451 (by decide) ?_
    refine lg_iadd dL_law_452 (nI_add _ _) ?_
    refine lw_sld dL_law_453 (by omega) hL ?_
    refine lgs_aload_n dL_law_454 rfl rfl ?_
    refine lg_iload dL_law_455 rfl ?_
    refine lg_iconst (v := nI 2) dL_law_457 (by decide) ?_
    refine lg_iadd dL_law_458 (nI_add _ _) ?_
    refine lw_sld dL_law_459 (by omega) hL ?_
    refine lgs_aload_n dL_law_460 rfl rfl ?_
    refine lg_iload dL_law_461 rfl ?_
    refine lg_iconst (v := nI 3) dL_law_463 (by decide) ?_
    refine lg_iadd dL_law_464 (nI_add _ _) ?_
    refine lw_sld dL_law_465 (by omega) hL ?_
    refine lgs_aload_n dL_law_466 rfl rfl ?_
    refine lg_iload dL_law_467 rfl ?_
    refine lg_iconst (v := nI 4) dL_law_469 (by decide) ?_
    refine lg_iadd dL_law_470 (nI_add _ _) ?_
    refine lw_sld dL_law_471 (by omega) hL ?_
    refine lrt_if_eq (tgt := 479) dL_law_472 (by decide) hw ?_
    refine lg_iconst (v := bI false) dL_law_479 (by decide) ?_
    refine lgs_aload_n dL_law_480 rfl rfl ?_
    refine lg_iload dL_law_481 rfl ?_
    refine lg_iconst (v := nI 5) dL_law_483 (by decide) ?_
    refine lg_iadd dL_law_484 (nI_add _ _) ?_
    refine lw_sld dL_law_485 (by omega) hL ?_
    refine lg_cVI5 dL_law_486 vLw_62 (by decide) (hu.cap (Nat.le_succ_of_le hj)) kwM (by decide) (by decide) (Nat.le_of_ble_eq_true rfl) (n_access (hM.fr hf) hP.1 _ _ _ false _) ?_
    rintro _ τ2 ⟨rfl, hM2, hfL⟩
    refine lrt_icmp_eq (tgt := 1511) dL_law_489 (by decide) rfl ?_
    have hP2 := PC_access hP (xs (i + 1)) (xs (i + 2)) (xs (i + 3)) false (xs (i + 5))
    exact hN u us τ2 _ _ hu.s (CI.fr hC1 hP2.bd hfL) hM2 hP2
  · refine lgs_aload_n dL_law_405 rfl rfl ?_
    refine lgs_aload_n dL_law_406 rfl rfl ?_
    refine lg_iload dL_law_407 rfl ?_
    refine lg_iconst (v := nI 1) dL_law_409 (by decide) ?_
    refine lg_iadd dL_law_410 (nI_add _ _) ?_
    refine lw_sld dL_law_411 (by omega) hL ?_
    refine lgs_aload_n dL_law_412 rfl rfl ?_
    refine lg_iload dL_law_413 rfl ?_
    refine lg_iconst (v := nI 2) dL_law_415 (by decide) ?_
    refine lg_iadd dL_law_416 (nI_add _ _) ?_
    refine lw_sld dL_law_417 (by omega) hL ?_
    refine lgs_aload_n dL_law_418 rfl rfl ?_
    refine lg_iload dL_law_419 rfl ?_
    refine lg_iconst (v := nI 3) dL_law_421 (by decide) ?_
    refine lg_iadd dL_law_422 (nI_add _ _) ?_
    refine lw_sld dL_law_423 (by omega) hL ?_
    refine lgs_aload_n dL_law_424 rfl rfl ?_
    refine lg_iload dL_law_425 rfl ?_
    refine lg_iconst (v := nI 4) dL_law_427 (by decide) ?_
    refine lg_iadd dL_law_428 (nI_add _ _) ?_
    refine lw_sld dL_law_429 (by omega) hL ?_
    refine lrf_if_eq (tgt := 437) dL_law_430 (by decide) hw ?_
    refine lg_iconst (v := bI true) dL_law_433 (by decide) ?_
    refine lg_goto (tgt := 438) dL_law_434 (by decide) ?_
    refine lgs_aload_n dL_law_438 rfl rfl ?_
    refine lg_iload dL_law_439 rfl ?_
    refine lg_iconst (v := nI 5) dL_law_441 (by decide) ?_
    refine lg_iadd dL_law_442 (nI_add _ _) ?_
    refine lw_sld dL_law_443 (by omega) hL ?_
    refine lg_cVI5 dL_law_444 vLw_58 (by decide) (hu.cap (Nat.le_succ_of_le hj)) kFC0 (by decide) (by decide) (Nat.le_of_ble_eq_true rfl) (a_access hC hP.1 _ _ _ true _) ?_
    rintro _ τ1 ⟨rfl, hC1, hf⟩
    refine lgs_aload_n dL_law_447 rfl rfl ?_
    refine lgs_aload_n dL_law_448 rfl rfl ?_
    refine lg_iload dL_law_449 rfl ?_
    refine lg_iconst (v := nI 1) dL_law_451 (by decide) ?_
    refine lg_iadd dL_law_452 (nI_add _ _) ?_
    refine lw_sld dL_law_453 (by omega) hL ?_
    refine lgs_aload_n dL_law_454 rfl rfl ?_
    refine lg_iload dL_law_455 rfl ?_
    refine lg_iconst (v := nI 2) dL_law_457 (by decide) ?_
    refine lg_iadd dL_law_458 (nI_add _ _) ?_
    refine lw_sld dL_law_459 (by omega) hL ?_
    refine lgs_aload_n dL_law_460 rfl rfl ?_
    refine lg_iload dL_law_461 rfl ?_
    refine lg_iconst (v := nI 3) dL_law_463 (by decide) ?_
    refine lg_iadd dL_law_464 (nI_add _ _) ?_
    refine lw_sld dL_law_465 (by omega) hL ?_
    refine lgs_aload_n dL_law_466 rfl rfl ?_
    refine lg_iload dL_law_467 rfl ?_
    refine lg_iconst (v := nI 4) dL_law_469 (by decide) ?_
    refine lg_iadd dL_law_470 (nI_add _ _) ?_
    refine lw_sld dL_law_471 (by omega) hL ?_
    refine lrf_if_eq (tgt := 479) dL_law_472 (by decide) hw ?_
    refine lg_iconst (v := bI true) dL_law_475 (by decide) ?_
    refine lg_goto (tgt := 480) dL_law_476 (by decide) ?_
    refine lgs_aload_n dL_law_480 rfl rfl ?_
    refine lg_iload dL_law_481 rfl ?_
    refine lg_iconst (v := nI 5) dL_law_483 (by decide) ?_
    refine lg_iadd dL_law_484 (nI_add _ _) ?_
    refine lw_sld dL_law_485 (by omega) hL ?_
    refine lg_cVI5 dL_law_486 vLw_62 (by decide) (hu.cap (Nat.le_succ_of_le hj)) kwM (by decide) (by decide) (Nat.le_of_ble_eq_true rfl) (n_access (hM.fr hf) hP.1 _ _ _ true _) ?_
    rintro _ τ2 ⟨rfl, hM2, hfL⟩
    refine lrt_icmp_eq (tgt := 1511) dL_law_489 (by decide) rfl ?_
    have hP2 := PC_access hP (xs (i + 1)) (xs (i + 2)) (xs (i + 3)) true (xs (i + 5))
    exact hN u us τ2 _ _ hu.s (CI.fr hC1 hP2.bd hfL) hM2 hP2
theorem lc_rule {L : Nat} {xs : Nat → Int32} {j i u us : Nat} {τ : Mm} {S : Sx} {H : Hx} (hL : L ≤ 3075) (hi : i + 6 ≤ L) (hj : j ≤ 1000) (hu : rmU j u us) (hC : CI τ S H) (hM : MI_ τ S H) (hP : PC j S) (hN : CTN L xs j i) : GL ((u, us), L, xs) 494 [some (.ref 999), some (.ref 0), some (.ref 258), some (.ref 312), some (.int (nI i)), none, none, none] [] (wW τ) := by
  refine lgs_aload_n dL_law_494 rfl rfl ?_
  refine lgs_aload_n dL_law_495 rfl rfl ?_
  refine lg_iload dL_law_496 rfl ?_
  refine lg_iconst (v := nI 1) dL_law_498 (by decide) ?_
  refine lg_iadd dL_law_499 (nI_add _ _) ?_
  refine lw_sld dL_law_500 (by omega) hL ?_
  refine lgs_aload_n dL_law_501 rfl rfl ?_
  refine lg_iload dL_law_502 rfl ?_
  refine lg_iconst (v := nI 2) dL_law_504 (by decide) ?_
  refine lg_iadd dL_law_505 (nI_add _ _) ?_
  refine lw_sld dL_law_506 (by omega) hL ?_
  refine lgs_aload_n dL_law_507 rfl rfl ?_
  refine lg_iload dL_law_508 rfl ?_
  refine lg_iconst (v := nI 3) dL_law_510 (by decide) ?_
  refine lg_iadd dL_law_511 (nI_add _ _) ?_
  refine lw_sld dL_law_512 (by omega) hL ?_
  refine lg_cVI3 dL_law_513 vLw_63 (by decide) (hu.cap (Nat.le_succ_of_le hj)) kFC0 (by decide) (by decide) (Nat.le_of_ble_eq_true rfl) (a_rule hC hP.1 _ _ _) ?_
  rintro _ τ1 ⟨rfl, hC1, hf⟩
  refine lgs_aload_n dL_law_516 rfl rfl ?_
  refine lgs_aload_n dL_law_517 rfl rfl ?_
  refine lg_iload dL_law_518 rfl ?_
  refine lg_iconst (v := nI 1) dL_law_520 (by decide) ?_
  refine lg_iadd dL_law_521 (nI_add _ _) ?_
  refine lw_sld dL_law_522 (by omega) hL ?_
  refine lgs_aload_n dL_law_523 rfl rfl ?_
  refine lg_iload dL_law_524 rfl ?_
  refine lg_iconst (v := nI 2) dL_law_526 (by decide) ?_
  refine lg_iadd dL_law_527 (nI_add _ _) ?_
  refine lw_sld dL_law_528 (by omega) hL ?_
  refine lgs_aload_n dL_law_529 rfl rfl ?_
  refine lg_iload dL_law_530 rfl ?_
  refine lg_iconst (v := nI 3) dL_law_532 (by decide) ?_
  refine lg_iadd dL_law_533 (nI_add _ _) ?_
  refine lw_sld dL_law_534 (by omega) hL ?_
  refine lg_cVI3 dL_law_535 vLw_66 (by decide) (hu.cap (Nat.le_succ_of_le hj)) kwM (by decide) (by decide) (Nat.le_of_ble_eq_true rfl) (n_rule (hM.fr hf) hP.1 _ _ _) ?_
  rintro _ τ2 ⟨rfl, hM2, hfL⟩
  refine lrt_icmp_eq (tgt := 1511) dL_law_538 (by decide) rfl ?_
  have hP2 := PC_rule hP (xs (i + 1)) (xs (i + 2)) (xs (i + 3))
  exact hN u us τ2 _ _ hu.s (CI.fr hC1 hP2.bd hfL) hM2 hP2
theorem lc_prices {L : Nat} {xs : Nat → Int32} {j i u us : Nat} {τ : Mm} {S : Sx} {H : Hx} (hL : L ≤ 3075) (hi : i + 6 ≤ L) (hj : j ≤ 1000) (hu : rmU j u us) (hC : CI τ S H) (hM : MI_ τ S H) (hP : PC j S) (hN : CTN L xs j i) : GL ((u, us), L, xs) 543 [some (.ref 999), some (.ref 0), some (.ref 258), some (.ref 312), some (.int (nI i)), none, none, none] [] (wW τ) := by
  refine lgs_aload_n dL_law_543 rfl rfl ?_
  refine lgs_aload_n dL_law_544 rfl rfl ?_
  refine lg_iload dL_law_545 rfl ?_
  refine lg_iconst (v := nI 1) dL_law_547 (by decide) ?_
  refine lg_iadd dL_law_548 (nI_add _ _) ?_
  refine lw_sld dL_law_549 (by omega) hL ?_
  refine lgs_aload_n dL_law_550 rfl rfl ?_
  refine lg_iload dL_law_551 rfl ?_
  refine lg_iconst (v := nI 2) dL_law_553 (by decide) ?_
  refine lg_iadd dL_law_554 (nI_add _ _) ?_
  refine lw_sld dL_law_555 (by omega) hL ?_
  refine lg_cVI2 dL_law_556 vLw_67 (by decide) (hu.cap (Nat.le_succ_of_le hj)) kFC0 (by decide) (by decide) (Nat.le_of_ble_eq_true rfl) (a_prices hC hP.1 _ _) ?_
  rintro _ τ1 ⟨rfl, hC1, hf⟩
  refine lgs_aload_n dL_law_559 rfl rfl ?_
  refine lgs_aload_n dL_law_560 rfl rfl ?_
  refine lg_iload dL_law_561 rfl ?_
  refine lg_iconst (v := nI 1) dL_law_563 (by decide) ?_
  refine lg_iadd dL_law_564 (nI_add _ _) ?_
  refine lw_sld dL_law_565 (by omega) hL ?_
  refine lgs_aload_n dL_law_566 rfl rfl ?_
  refine lg_iload dL_law_567 rfl ?_
  refine lg_iconst (v := nI 2) dL_law_569 (by decide) ?_
  refine lg_iadd dL_law_570 (nI_add _ _) ?_
  refine lw_sld dL_law_571 (by omega) hL ?_
  refine lg_cVI2 dL_law_572 vLw_70 (by decide) (hu.cap (Nat.le_succ_of_le hj)) kwM (by decide) (by decide) (Nat.le_of_ble_eq_true rfl) (n_prices (hM.fr hf) hP.1 _ _) ?_
  rintro _ τ2 ⟨rfl, hM2, hfL⟩
  refine lrt_icmp_eq (tgt := 1511) dL_law_575 (by decide) rfl ?_
  have hP2 := PC_prices hP (xs (i + 1)) (xs (i + 2))
  exact hN u us τ2 _ _ hu.s (CI.fr hC1 hP2.bd hfL) hM2 hP2
theorem lc_place {L : Nat} {xs : Nat → Int32} {j i u us : Nat} {τ : Mm} {S : Sx} {H : Hx} (hL : L ≤ 3075) (hi : i + 6 ≤ L) (hj : j ≤ 1000) (hu : rmU j u us) (hC : CI τ S H) (hM : MI_ τ S H) (hP : PC j S) (hN : CTN L xs j i) : GL ((u, us), L, xs) 580 [some (.ref 999), some (.ref 0), some (.ref 258), some (.ref 312), some (.int (nI i)), none, none, none] [] (wW τ) := by
  refine lgs_aload_n dL_law_580 rfl rfl ?_
  refine lgs_aload_n dL_law_581 rfl rfl ?_
  refine lg_iload dL_law_582 rfl ?_
  refine lg_iconst (v := nI 1) dL_law_584 (by decide) ?_
  refine lg_iadd dL_law_585 (nI_add _ _) ?_
  refine lw_sld dL_law_586 (by omega) hL ?_
  refine lgs_aload_n dL_law_587 rfl rfl ?_
  refine lg_iload dL_law_588 rfl ?_
  refine lg_iconst (v := nI 2) dL_law_590 (by decide) ?_
  refine lg_iadd dL_law_591 (nI_add _ _) ?_
  refine lw_sld dL_law_592 (by omega) hL ?_
  refine lg_cVI2 dL_law_593 vLw_71 (by decide) (hu.cap (Nat.le_succ_of_le hj)) kFC0 (by decide) (by decide) (Nat.le_of_ble_eq_true rfl) (a_place hC hP.1 _ _) ?_
  rintro _ τ1 ⟨rfl, hC1, hf⟩
  refine lgs_aload_n dL_law_596 rfl rfl ?_
  refine lgs_aload_n dL_law_597 rfl rfl ?_
  refine lg_iload dL_law_598 rfl ?_
  refine lg_iconst (v := nI 1) dL_law_600 (by decide) ?_
  refine lg_iadd dL_law_601 (nI_add _ _) ?_
  refine lw_sld dL_law_602 (by omega) hL ?_
  refine lgs_aload_n dL_law_603 rfl rfl ?_
  refine lg_iload dL_law_604 rfl ?_
  refine lg_iconst (v := nI 2) dL_law_606 (by decide) ?_
  refine lg_iadd dL_law_607 (nI_add _ _) ?_
  refine lw_sld dL_law_608 (by omega) hL ?_
  refine lg_cVI2 dL_law_609 vLw_74 (by decide) (hu.cap (Nat.le_succ_of_le hj)) kwM (by decide) (by decide) (Nat.le_of_ble_eq_true rfl) (n_place (hM.fr hf) hP.1 _ _) ?_
  rintro _ τ2 ⟨rfl, hM2, hfL⟩
  refine lrt_icmp_eq (tgt := 1511) dL_law_612 (by decide) rfl ?_
  have hP2 := PC_place hP (xs (i + 1)) (xs (i + 2))
  exact hN u us τ2 _ _ hu.s (CI.fr hC1 hP2.bd hfL) hM2 hP2
theorem lc_settle {L : Nat} {xs : Nat → Int32} {j i u us : Nat} {τ : Mm} {S : Sx} {H : Hx} (hL : L ≤ 3075) (hi : i + 6 ≤ L) (hj : j ≤ 1000) (hu : rmU j u us) (hC : CI τ S H) (hM : MI_ τ S H) (hP : PC j S) (hN : CTN L xs j i) : GL ((u, us), L, xs) 617 [some (.ref 999), some (.ref 0), some (.ref 258), some (.ref 312), some (.int (nI i)), none, none, none] [] (wW τ) := by
  refine lgs_aload_n dL_law_617 rfl rfl ?_
  refine lgs_aload_n dL_law_618 rfl rfl ?_
  refine lg_iload dL_law_619 rfl ?_
  refine lg_iconst (v := nI 1) dL_law_621 (by decide) ?_
  refine lg_iadd dL_law_622 (nI_add _ _) ?_
  refine lw_sld dL_law_623 (by omega) hL ?_
  refine lgs_aload_n dL_law_624 rfl rfl ?_
  refine lg_iload dL_law_625 rfl ?_
  refine lg_iconst (v := nI 2) dL_law_627 (by decide) ?_
  refine lg_iadd dL_law_628 (nI_add _ _) ?_
  refine lw_sld dL_law_629 (by omega) hL ?_
  refine lg_cVI2 dL_law_630 vLw_75 (by decide) (hu.cap (Nat.le_succ_of_le hj)) kFC0 (by decide) (by decide) (Nat.le_of_ble_eq_true rfl) (a_settle hC hP.1 _ _) ?_
  rintro _ τ1 ⟨rfl, hC1, hf⟩
  refine lgs_aload_n dL_law_633 rfl rfl ?_
  refine lgs_aload_n dL_law_634 rfl rfl ?_
  refine lg_iload dL_law_635 rfl ?_
  refine lg_iconst (v := nI 1) dL_law_637 (by decide) ?_
  refine lg_iadd dL_law_638 (nI_add _ _) ?_
  refine lw_sld dL_law_639 (by omega) hL ?_
  refine lgs_aload_n dL_law_640 rfl rfl ?_
  refine lg_iload dL_law_641 rfl ?_
  refine lg_iconst (v := nI 2) dL_law_643 (by decide) ?_
  refine lg_iadd dL_law_644 (nI_add _ _) ?_
  refine lw_sld dL_law_645 (by omega) hL ?_
  refine lg_cVI2 dL_law_646 vLw_78 (by decide) (hu.cap (Nat.le_succ_of_le hj)) kwM (by decide) (by decide) (Nat.le_of_ble_eq_true rfl) (n_settle (hM.fr hf) hP.1 _ _) ?_
  rintro _ τ2 ⟨rfl, hM2, hfL⟩
  refine lrt_icmp_eq (tgt := 1511) dL_law_649 (by decide) rfl ?_
  have hP2 := PC_settle hP hj (xs (i + 1)) (xs (i + 2))
  exact hN u us τ2 _ _ hu.s (CI.fr hC1 hP2.bd hfL) hM2 hP2
theorem lc_swap {L : Nat} {xs : Nat → Int32} {j i u us : Nat} {τ : Mm} {S : Sx} {H : Hx} (hL : L ≤ 3075) (hi : i + 6 ≤ L) (hj : j ≤ 1000) (hu : rmU j u us) (hC : CI τ S H) (hM : MI_ τ S H) (hP : PC j S) (hN : CTN L xs j i) : GL ((u, us), L, xs) 654 [some (.ref 999), some (.ref 0), some (.ref 258), some (.ref 312), some (.int (nI i)), none, none, none] [] (wW τ) := by
  refine lgs_aload_n dL_law_654 rfl rfl ?_
  refine lgs_aload_n dL_law_655 rfl rfl ?_
  refine lg_iload dL_law_656 rfl ?_
  refine lg_iconst (v := nI 1) dL_law_658 (by decide) ?_
  refine lg_iadd dL_law_659 (nI_add _ _) ?_
  refine lw_sld dL_law_660 (by omega) hL ?_
  refine lgs_aload_n dL_law_661 rfl rfl ?_
  refine lg_iload dL_law_662 rfl ?_
  refine lg_iconst (v := nI 2) dL_law_664 (by decide) ?_
  refine lg_iadd dL_law_665 (nI_add _ _) ?_
  refine lw_sld dL_law_666 (by omega) hL ?_
  refine lg_cVI2 dL_law_667 vLw_79 (by decide) (hu.cap (Nat.le_succ_of_le hj)) kFC0 (by decide) (by decide) (Nat.le_of_ble_eq_true rfl) (a_swap hC hP.1 _ _) ?_
  rintro _ τ1 ⟨rfl, hC1, hf⟩
  refine lgs_aload_n dL_law_670 rfl rfl ?_
  refine lgs_aload_n dL_law_671 rfl rfl ?_
  refine lg_iload dL_law_672 rfl ?_
  refine lg_iconst (v := nI 1) dL_law_674 (by decide) ?_
  refine lg_iadd dL_law_675 (nI_add _ _) ?_
  refine lw_sld dL_law_676 (by omega) hL ?_
  refine lgs_aload_n dL_law_677 rfl rfl ?_
  refine lg_iload dL_law_678 rfl ?_
  refine lg_iconst (v := nI 2) dL_law_680 (by decide) ?_
  refine lg_iadd dL_law_681 (nI_add _ _) ?_
  refine lw_sld dL_law_682 (by omega) hL ?_
  refine lg_cVI2 dL_law_683 vLw_82 (by decide) (hu.cap (Nat.le_succ_of_le hj)) kwM (by decide) (by decide) (Nat.le_of_ble_eq_true rfl) (n_swap (hM.fr hf) hP.1 _ _) ?_
  rintro _ τ2 ⟨rfl, hM2, hfL⟩
  refine lrt_icmp_eq (tgt := 1511) dL_law_686 (by decide) rfl ?_
  have hP2 := PC_swap hP (xs (i + 1)) (xs (i + 2))
  exact hN u us τ2 _ _ hu.s (CI.fr hC1 hP2.bd hfL) hM2 hP2
theorem lc_run {L : Nat} {xs : Nat → Int32} {j i u us : Nat} {τ : Mm} {S : Sx} {H : Hx} (hL : L ≤ 3075) (hi : i + 6 ≤ L) (hj : j ≤ 1000) (hu : rmU j u us) (hC : CI τ S H) (hM : MI_ τ S H) (hP : PC j S) (hN : CTN L xs j i) : GL ((u, us), L, xs) 691 [some (.ref 999), some (.ref 0), some (.ref 258), some (.ref 312), some (.int (nI i)), none, none, none] [] (wW τ) := by
  refine lgs_aload_n dL_law_691 rfl rfl ?_
  refine lgs_aload_n dL_law_692 rfl rfl ?_
  refine lg_iload dL_law_693 rfl ?_
  refine lg_iconst (v := nI 1) dL_law_695 (by decide) ?_
  refine lg_iadd dL_law_696 (nI_add _ _) ?_
  refine lw_sld dL_law_697 (by omega) hL ?_
  refine lg_cVI1 dL_law_698 vLw_83 (by decide) (hu.cap (Nat.le_succ_of_le hj)) kFC0 (by decide) (by decide) (Nat.le_of_ble_eq_true rfl) (a_run hC hP.1 _ (hP.cn hj)) ?_
  rintro _ τ1 ⟨rfl, hC1, hf⟩
  refine lgs_aload_n dL_law_701 rfl rfl ?_
  refine lgs_aload_n dL_law_702 rfl rfl ?_
  refine lg_iload dL_law_703 rfl ?_
  refine lg_iconst (v := nI 1) dL_law_705 (by decide) ?_
  refine lg_iadd dL_law_706 (nI_add _ _) ?_
  refine lw_sld dL_law_707 (by omega) hL ?_
  refine lg_cVI1 dL_law_708 vLw_86 (by decide) (hu.cap (Nat.le_succ_of_le hj)) kwM (by decide) (by decide) (Nat.le_of_ble_eq_true rfl) (n_run (hM.fr hf) hP.1 _ (hP.cn hj)) ?_
  rintro _ τ2 ⟨rfl, hM2, hfL⟩
  refine lrt_icmp_eq (tgt := 1511) dL_law_711 (by decide) rfl ?_
  have hP2 := PC_run hP hj (xs (i + 1))
  exact hN u us τ2 _ _ hu.s (CI.fr hC1 hP2.bd hfL) hM2 hP2
theorem lc_look {L : Nat} {xs : Nat → Int32} {j i u us : Nat} {τ : Mm} {S : Sx} {H : Hx} (hL : L ≤ 3075) (hi : i + 6 ≤ L) (hj : j ≤ 1000) (hu : rmU j u us) (hC : CI τ S H) (hM : MI_ τ S H) (hP : PC j S) (hN : CTN L xs j i) : GL ((u, us), L, xs) 716 [some (.ref 999), some (.ref 0), some (.ref 258), some (.ref 312), some (.int (nI i)), none, none, none] [] (wW τ) := by
  refine lgs_aload_n dL_law_716 rfl rfl ?_
  refine lgs_aload_n dL_law_717 rfl rfl ?_
  refine lg_iload dL_law_718 rfl ?_
  refine lg_iconst (v := nI 1) dL_law_720 (by decide) ?_
  refine lg_iadd dL_law_721 (nI_add _ _) ?_
  refine lw_sld dL_law_722 (by omega) hL ?_
  refine lgs_aload_n dL_law_723 rfl rfl ?_
  refine lg_iload dL_law_724 rfl ?_
  refine lg_iconst (v := nI 2) dL_law_726 (by decide) ?_
  refine lg_iadd dL_law_727 (nI_add _ _) ?_
  refine lw_sld dL_law_728 (by omega) hL ?_
  refine lg_cVI2 dL_law_729 vLw_87 (by decide) (hu.cap (Nat.le_succ_of_le hj)) kFC0 (by decide) (by decide) (Nat.le_of_ble_eq_true rfl) (a_look hC hP.1 _ _) ?_
  rintro _ _ ⟨rfl, rfl⟩
  refine lgs_aload_n dL_law_732 rfl rfl ?_
  refine lgs_aload_n dL_law_733 rfl rfl ?_
  refine lg_iload dL_law_734 rfl ?_
  refine lg_iconst (v := nI 1) dL_law_736 (by decide) ?_
  refine lg_iadd dL_law_737 (nI_add _ _) ?_
  refine lw_sld dL_law_738 (by omega) hL ?_
  refine lgs_aload_n dL_law_739 rfl rfl ?_
  refine lg_iload dL_law_740 rfl ?_
  refine lg_iconst (v := nI 2) dL_law_742 (by decide) ?_
  refine lg_iadd dL_law_743 (nI_add _ _) ?_
  refine lw_sld dL_law_744 (by omega) hL ?_
  refine lg_cVI2 dL_law_745 vLw_90 (by decide) (hu.cap (Nat.le_succ_of_le hj)) kwM (by decide) (by decide) (Nat.le_of_ble_eq_true rfl) (n_look hM hP.1 _ _) ?_
  rintro _ τ2 ⟨rfl, hM2, hfL⟩
  refine lrt_icmp_eq (tgt := 1511) dL_law_748 (by decide) rfl ?_
  have hP2 := PC_rf hP
  exact hN u us τ2 _ _ hu.s (CI.fr hC hP2.bd hfL) hM2 hP2
theorem lc_fault {L : Nat} {xs : Nat → Int32} {j i u us : Nat} {τ : Mm} {S : Sx} {H : Hx} (hL : L ≤ 3075) (hi : i + 6 ≤ L) (hj : j ≤ 1000) (hu : rmU j u us) (hC : CI τ S H) (hM : MI_ τ S H) (hP : PC j S) (hN : CTN L xs j i) : GL ((u, us), L, xs) 753 [some (.ref 999), some (.ref 0), some (.ref 258), some (.ref 312), some (.int (nI i)), none, none, none] [] (wW τ) := by
  refine lgs_aload_n dL_law_753 rfl rfl ?_
  refine lgs_aload_n dL_law_754 rfl rfl ?_
  refine lg_iload dL_law_755 rfl ?_
  refine lg_iconst (v := nI 1) dL_law_757 (by decide) ?_
  refine lg_iadd dL_law_758 (nI_add _ _) ?_
  refine lw_sld dL_law_759 (by omega) hL ?_
  refine lgs_aload_n dL_law_760 rfl rfl ?_
  refine lg_iload dL_law_761 rfl ?_
  refine lg_iconst (v := nI 2) dL_law_763 (by decide) ?_
  refine lg_iadd dL_law_764 (nI_add _ _) ?_
  refine lw_sld dL_law_765 (by omega) hL ?_
  refine lg_cVI2 dL_law_766 vLw_91 (by decide) (hu.cap (Nat.le_succ_of_le hj)) kFC0 (by decide) (by decide) (Nat.le_of_ble_eq_true rfl) (a_fault hC hP.1 _ _) ?_
  rintro _ _ ⟨rfl, rfl⟩
  refine lgs_aload_n dL_law_769 rfl rfl ?_
  refine lgs_aload_n dL_law_770 rfl rfl ?_
  refine lg_iload dL_law_771 rfl ?_
  refine lg_iconst (v := nI 1) dL_law_773 (by decide) ?_
  refine lg_iadd dL_law_774 (nI_add _ _) ?_
  refine lw_sld dL_law_775 (by omega) hL ?_
  refine lgs_aload_n dL_law_776 rfl rfl ?_
  refine lg_iload dL_law_777 rfl ?_
  refine lg_iconst (v := nI 2) dL_law_779 (by decide) ?_
  refine lg_iadd dL_law_780 (nI_add _ _) ?_
  refine lw_sld dL_law_781 (by omega) hL ?_
  refine lg_cVI2 dL_law_782 vLw_94 (by decide) (hu.cap (Nat.le_succ_of_le hj)) kwM (by decide) (by decide) (Nat.le_of_ble_eq_true rfl) (n_fault hM hP.1 _ _) ?_
  rintro _ τ2 ⟨rfl, hM2, hfL⟩
  refine lrt_icmp_eq (tgt := 1511) dL_law_785 (by decide) rfl ?_
  have hP2 := PC_rf hP
  exact hN u us τ2 _ _ hu.s (CI.fr hC hP2.bd hfL) hM2 hP2
theorem lc_about {L : Nat} {xs : Nat → Int32} {j i u us : Nat} {τ : Mm} {S : Sx} {H : Hx} (hL : L ≤ 3075) (hi : i + 6 ≤ L) (hj : j ≤ 1000) (hu : rmU j u us) (hC : CI τ S H) (hM : MI_ τ S H) (hP : PC j S) (hN : CTN L xs j i) : GL ((u, us), L, xs) 858 [some (.ref 999), some (.ref 0), some (.ref 258), some (.ref 312), some (.int (nI i)), none, none, none] [] (wW τ) := by
  refine lgs_aload_n dL_law_858 rfl rfl ?_
  refine lgs_aload_n dL_law_859 rfl rfl ?_
  refine lg_iload dL_law_860 rfl ?_
  refine lg_iconst (v := nI 1) dL_law_862 (by decide) ?_
  refine lg_iadd dL_law_863 (nI_add _ _) ?_
  refine lw_sld dL_law_864 (by omega) hL ?_
  refine lgs_aload_n dL_law_865 rfl rfl ?_
  refine lg_iload dL_law_866 rfl ?_
  refine lg_iconst (v := nI 2) dL_law_868 (by decide) ?_
  refine lg_iadd dL_law_869 (nI_add _ _) ?_
  refine lw_sld dL_law_870 (by omega) hL ?_
  refine lg_cVI2 dL_law_871 vLw_103 (by decide) (hu.cap (Nat.le_succ_of_le hj)) kFC0 (by decide) (by decide) (Nat.le_of_ble_eq_true rfl) (a_about hC hP.1 _ _) ?_
  rintro _ _ ⟨rfl, rfl⟩
  refine lgs_aload_n dL_law_874 rfl rfl ?_
  refine lgs_aload_n dL_law_875 rfl rfl ?_
  refine lg_iload dL_law_876 rfl ?_
  refine lg_iconst (v := nI 1) dL_law_878 (by decide) ?_
  refine lg_iadd dL_law_879 (nI_add _ _) ?_
  refine lw_sld dL_law_880 (by omega) hL ?_
  refine lgs_aload_n dL_law_881 rfl rfl ?_
  refine lg_iload dL_law_882 rfl ?_
  refine lg_iconst (v := nI 2) dL_law_884 (by decide) ?_
  refine lg_iadd dL_law_885 (nI_add _ _) ?_
  refine lw_sld dL_law_886 (by omega) hL ?_
  refine lg_cVI2 dL_law_887 vLw_106 (by decide) (hu.cap (Nat.le_succ_of_le hj)) kwM (by decide) (by decide) (Nat.le_of_ble_eq_true rfl) (n_about hM hP.1 _ _) ?_
  rintro _ τ2 ⟨rfl, hM2, hfL⟩
  refine lrt_icmp_eq (tgt := 1511) dL_law_890 (by decide) rfl ?_
  have hP2 := PC_rf hP
  exact hN u us τ2 _ _ hu.s (CI.fr hC hP2.bd hfL) hM2 hP2
theorem lc_node {L : Nat} {xs : Nat → Int32} {j i u us : Nat} {τ : Mm} {S : Sx} {H : Hx} (hL : L ≤ 3075) (hi : i + 6 ≤ L) (hj : j ≤ 1000) (hu : rmU j u us) (hC : CI τ S H) (hM : MI_ τ S H) (hP : PC j S) (hN : CTN L xs j i) : GL ((u, us), L, xs) 951 [some (.ref 999), some (.ref 0), some (.ref 258), some (.ref 312), some (.int (nI i)), none, none, none] [] (wW τ) := by
  refine lgs_aload_n dL_law_951 rfl rfl ?_
  refine lgs_aload_n dL_law_952 rfl rfl ?_
  refine lg_iload dL_law_953 rfl ?_
  refine lg_iconst (v := nI 1) dL_law_955 (by decide) ?_
  refine lg_iadd dL_law_956 (nI_add _ _) ?_
  refine lw_sld dL_law_957 (by omega) hL ?_
  refine lgs_aload_n dL_law_958 rfl rfl ?_
  refine lg_iload dL_law_959 rfl ?_
  refine lg_iconst (v := nI 2) dL_law_961 (by decide) ?_
  refine lg_iadd dL_law_962 (nI_add _ _) ?_
  refine lw_sld dL_law_963 (by omega) hL ?_
  refine lg_cVI2 dL_law_964 vLw_111 (by decide) (hu.cap (Nat.le_succ_of_le hj)) kFC0 (by decide) (by decide) (Nat.le_of_ble_eq_true rfl) (a_node hC hP.1 _ _) ?_
  rintro _ _ ⟨rfl, rfl⟩
  refine lgs_aload_n dL_law_967 rfl rfl ?_
  refine lgs_aload_n dL_law_968 rfl rfl ?_
  refine lg_iload dL_law_969 rfl ?_
  refine lg_iconst (v := nI 1) dL_law_971 (by decide) ?_
  refine lg_iadd dL_law_972 (nI_add _ _) ?_
  refine lw_sld dL_law_973 (by omega) hL ?_
  refine lgs_aload_n dL_law_974 rfl rfl ?_
  refine lg_iload dL_law_975 rfl ?_
  refine lg_iconst (v := nI 2) dL_law_977 (by decide) ?_
  refine lg_iadd dL_law_978 (nI_add _ _) ?_
  refine lw_sld dL_law_979 (by omega) hL ?_
  refine lg_cVI2 dL_law_980 vLw_114 (by decide) (hu.cap (Nat.le_succ_of_le hj)) kwM (by decide) (by decide) (Nat.le_of_ble_eq_true rfl) (n_node hM hP.1 _ _) ?_
  rintro _ τ2 ⟨rfl, hM2, hfL⟩
  refine lrt_icmp_eq (tgt := 1511) dL_law_983 (by decide) rfl ?_
  have hP2 := PC_rf hP
  exact hN u us τ2 _ _ hu.s (CI.fr hC hP2.bd hfL) hM2 hP2
theorem lc_linked {L : Nat} {xs : Nat → Int32} {j i u us : Nat} {τ : Mm} {S : Sx} {H : Hx} (hL : L ≤ 3075) (hi : i + 6 ≤ L) (hj : j ≤ 1000) (hu : rmU j u us) (hC : CI τ S H) (hM : MI_ τ S H) (hP : PC j S) (hN : CTN L xs j i) : GL ((u, us), L, xs) 988 [some (.ref 999), some (.ref 0), some (.ref 258), some (.ref 312), some (.int (nI i)), none, none, none] [] (wW τ) := by
  refine lgs_aload_n dL_law_988 rfl rfl ?_
  refine lgs_aload_n dL_law_989 rfl rfl ?_
  refine lg_iload dL_law_990 rfl ?_
  refine lg_iconst (v := nI 1) dL_law_992 (by decide) ?_
  refine lg_iadd dL_law_993 (nI_add _ _) ?_
  refine lw_sld dL_law_994 (by omega) hL ?_
  refine lgs_aload_n dL_law_995 rfl rfl ?_
  refine lg_iload dL_law_996 rfl ?_
  refine lg_iconst (v := nI 2) dL_law_998 (by decide) ?_
  refine lg_iadd dL_law_999 (nI_add _ _) ?_
  refine lw_sld dL_law_1000 (by omega) hL ?_
  refine lgs_aload_n dL_law_1001 rfl rfl ?_
  refine lg_iload dL_law_1002 rfl ?_
  refine lg_iconst (v := nI 3) dL_law_1004 (by decide) ?_
  refine lg_iadd dL_law_1005 (nI_add _ _) ?_
  refine lw_sld dL_law_1006 (by omega) hL ?_
  refine lg_cVI3 dL_law_1007 vLw_115 (by decide) (hu.cap (Nat.le_succ_of_le hj)) kFC0 (by decide) (by decide) (Nat.le_of_ble_eq_true rfl) (a_linked hC hP.1 _ _ _) ?_
  rintro _ _ ⟨rfl, rfl⟩
  refine lgs_aload_n dL_law_1010 rfl rfl ?_
  refine lgs_aload_n dL_law_1011 rfl rfl ?_
  refine lg_iload dL_law_1012 rfl ?_
  refine lg_iconst (v := nI 1) dL_law_1014 (by decide) ?_
  refine lg_iadd dL_law_1015 (nI_add _ _) ?_
  refine lw_sld dL_law_1016 (by omega) hL ?_
  refine lgs_aload_n dL_law_1017 rfl rfl ?_
  refine lg_iload dL_law_1018 rfl ?_
  refine lg_iconst (v := nI 2) dL_law_1020 (by decide) ?_
  refine lg_iadd dL_law_1021 (nI_add _ _) ?_
  refine lw_sld dL_law_1022 (by omega) hL ?_
  refine lgs_aload_n dL_law_1023 rfl rfl ?_
  refine lg_iload dL_law_1024 rfl ?_
  refine lg_iconst (v := nI 3) dL_law_1026 (by decide) ?_
  refine lg_iadd dL_law_1027 (nI_add _ _) ?_
  refine lw_sld dL_law_1028 (by omega) hL ?_
  refine lg_cVI3 dL_law_1029 vLw_118 (by decide) (hu.cap (Nat.le_succ_of_le hj)) kwM (by decide) (by decide) (Nat.le_of_ble_eq_true rfl) (n_linked hM hP.1 _ _ _) ?_
  rintro _ τ2 ⟨rfl, hM2, hfL⟩
  refine lrt_icmp_eq (tgt := 1511) dL_law_1032 (by decide) rfl ?_
  have hP2 := PC_rf hP
  exact hN u us τ2 _ _ hu.s (CI.fr hC hP2.bd hfL) hM2 hP2
theorem lc_log {L : Nat} {xs : Nat → Int32} {j i u us : Nat} {τ : Mm} {S : Sx} {H : Hx} (hL : L ≤ 3075) (hi : i + 6 ≤ L) (hj : j ≤ 1000) (hu : rmU j u us) (hC : CI τ S H) (hM : MI_ τ S H) (hP : PC j S) (hN : CTN L xs j i) : GL ((u, us), L, xs) 1037 [some (.ref 999), some (.ref 0), some (.ref 258), some (.ref 312), some (.int (nI i)), none, none, none] [] (wW τ) := by
  refine lgs_aload_n dL_law_1037 rfl rfl ?_
  refine lgs_aload_n dL_law_1038 rfl rfl ?_
  refine lg_iload dL_law_1039 rfl ?_
  refine lg_iconst (v := nI 1) dL_law_1041 (by decide) ?_
  refine lg_iadd dL_law_1042 (nI_add _ _) ?_
  refine lw_sld dL_law_1043 (by omega) hL ?_
  refine lgs_aload_n dL_law_1044 rfl rfl ?_
  refine lg_iload dL_law_1045 rfl ?_
  refine lg_iconst (v := nI 2) dL_law_1047 (by decide) ?_
  refine lg_iadd dL_law_1048 (nI_add _ _) ?_
  refine lw_sld dL_law_1049 (by omega) hL ?_
  refine lg_cVI2 dL_law_1050 vLw_119 (by decide) (hu.cap (Nat.le_succ_of_le hj)) kFC0 (by decide) (by decide) (Nat.le_of_ble_eq_true rfl) (a_log hC hP.1 _ _) ?_
  rintro _ _ ⟨rfl, rfl⟩
  refine lgs_aload_n dL_law_1053 rfl rfl ?_
  refine lgs_aload_n dL_law_1054 rfl rfl ?_
  refine lg_iload dL_law_1055 rfl ?_
  refine lg_iconst (v := nI 1) dL_law_1057 (by decide) ?_
  refine lg_iadd dL_law_1058 (nI_add _ _) ?_
  refine lw_sld dL_law_1059 (by omega) hL ?_
  refine lgs_aload_n dL_law_1060 rfl rfl ?_
  refine lg_iload dL_law_1061 rfl ?_
  refine lg_iconst (v := nI 2) dL_law_1063 (by decide) ?_
  refine lg_iadd dL_law_1064 (nI_add _ _) ?_
  refine lw_sld dL_law_1065 (by omega) hL ?_
  refine lg_cVI2 dL_law_1066 vLw_122 (by decide) (hu.cap (Nat.le_succ_of_le hj)) kwM (by decide) (by decide) (Nat.le_of_ble_eq_true rfl) (n_log hM hP.1 _ _) ?_
  rintro _ τ2 ⟨rfl, hM2, hfL⟩
  refine lrt_icmp_eq (tgt := 1511) dL_law_1069 (by decide) rfl ?_
  have hP2 := PC_rf hP
  exact hN u us τ2 _ _ hu.s (CI.fr hC hP2.bd hfL) hM2 hP2
theorem lc_best {L : Nat} {xs : Nat → Int32} {j i u us : Nat} {τ : Mm} {S : Sx} {H : Hx} (hL : L ≤ 3075) (hi : i + 6 ≤ L) (hj : j ≤ 1000) (hu : rmU j u us) (hC : CI τ S H) (hM : MI_ τ S H) (hP : PC j S) (hN : CTN L xs j i) : GL ((u, us), L, xs) 1074 [some (.ref 999), some (.ref 0), some (.ref 258), some (.ref 312), some (.int (nI i)), none, none, none] [] (wW τ) := by
  refine lgs_aload_n dL_law_1074 rfl rfl ?_
  refine lgs_aload_n dL_law_1075 rfl rfl ?_
  refine lg_iload dL_law_1076 rfl ?_
  refine lg_iconst (v := nI 1) dL_law_1078 (by decide) ?_
  refine lg_iadd dL_law_1079 (nI_add _ _) ?_
  refine lw_sld dL_law_1080 (by omega) hL ?_
  refine lg_cVI1 dL_law_1081 vLw_123 (by decide) (hu.cap (Nat.le_succ_of_le hj)) kFC0 (by decide) (by decide) (Nat.le_of_ble_eq_true rfl) (a_best hC hP.1 _) ?_
  rintro _ τ1 ⟨rfl, hC1, hf⟩
  refine lgs_aload_n dL_law_1084 rfl rfl ?_
  refine lgs_aload_n dL_law_1085 rfl rfl ?_
  refine lg_iload dL_law_1086 rfl ?_
  refine lg_iconst (v := nI 1) dL_law_1088 (by decide) ?_
  refine lg_iadd dL_law_1089 (nI_add _ _) ?_
  refine lw_sld dL_law_1090 (by omega) hL ?_
  refine lg_cVI1 dL_law_1091 vLw_126 (by decide) (hu.cap (Nat.le_succ_of_le hj)) kwM (by decide) (by decide) (Nat.le_of_ble_eq_true rfl) (n_best (hM.fr hf) hP.1 _) ?_
  rintro _ τ2 ⟨rfl, hM2, hfL⟩
  refine lrt_icmp_eq (tgt := 1511) dL_law_1094 (by decide) rfl ?_
  have hP2 := PC_rf hP
  exact hN u us τ2 _ _ hu.s (CI.fr hC1 hP2.bd hfL) hM2 hP2
theorem lc_gap {L : Nat} {xs : Nat → Int32} {j i u us : Nat} {τ : Mm} {S : Sx} {H : Hx} (hL : L ≤ 3075) (hi : i + 6 ≤ L) (hj : j ≤ 1000) (hu : rmU j u us) (hC : CI τ S H) (hM : MI_ τ S H) (hP : PC j S) (hN : CTN L xs j i) : GL ((u, us), L, xs) 1099 [some (.ref 999), some (.ref 0), some (.ref 258), some (.ref 312), some (.int (nI i)), none, none, none] [] (wW τ) := by
  refine lgs_aload_n dL_law_1099 rfl rfl ?_
  refine lgs_aload_n dL_law_1100 rfl rfl ?_
  refine lg_iload dL_law_1101 rfl ?_
  refine lg_iconst (v := nI 1) dL_law_1103 (by decide) ?_
  refine lg_iadd dL_law_1104 (nI_add _ _) ?_
  refine lw_sld dL_law_1105 (by omega) hL ?_
  refine lg_cVI1 dL_law_1106 vLw_127 (by decide) (hu.cap (Nat.le_succ_of_le hj)) kFC0 (by decide) (by decide) (Nat.le_of_ble_eq_true rfl) (a_gap hC hP.1 _) ?_
  rintro _ _ ⟨rfl, rfl⟩
  refine lgs_aload_n dL_law_1109 rfl rfl ?_
  refine lgs_aload_n dL_law_1110 rfl rfl ?_
  refine lg_iload dL_law_1111 rfl ?_
  refine lg_iconst (v := nI 1) dL_law_1113 (by decide) ?_
  refine lg_iadd dL_law_1114 (nI_add _ _) ?_
  refine lw_sld dL_law_1115 (by omega) hL ?_
  refine lg_cVI1 dL_law_1116 vLw_130 (by decide) (hu.cap (Nat.le_succ_of_le hj)) kwM (by decide) (by decide) (Nat.le_of_ble_eq_true rfl) (n_gap hM hP.1 _) ?_
  rintro _ τ2 ⟨rfl, hM2, hfL⟩
  refine lrt_icmp_eq (tgt := 1511) dL_law_1119 (by decide) rfl ?_
  have hP2 := PC_rf hP
  exact hN u us τ2 _ _ hu.s (CI.fr hC hP2.bd hfL) hM2 hP2
theorem lc_other {L : Nat} {xs : Nat → Int32} {j i u us : Nat} {τ : Mm} {S : Sx} {H : Hx} (hL : L ≤ 3075) (hi : i + 6 ≤ L) (hj : j ≤ 1000) (hu : rmU j u us) (hC : CI τ S H) (hM : MI_ τ S H) (hP : PC j S) (hN : CTN L xs j i) : GL ((u, us), L, xs) 1124 [some (.ref 999), some (.ref 0), some (.ref 258), some (.ref 312), some (.int (nI i)), none, none, none] [] (wW τ) := by
  obtain ⟨S', hR1, hB1, hsh, hv0, h29, h30⟩ := W1_rep hM.1 hP.bd hM.2.2.2
  have hJw : Jw S S' := ⟨hB1, h29, h30⟩
  refine lgs_aload_n dL_law_1124 rfl rfl ?_
  refine lgs_aload_n dL_law_1125 rfl rfl ?_
  refine lg_iload dL_law_1126 rfl ?_
  refine lg_iconst (v := nI 1) dL_law_1128 (by decide) ?_
  refine lg_iadd dL_law_1129 (nI_add _ _) ?_
  refine lw_sld dL_law_1130 (by omega) hL ?_
  refine lgs_aload_n dL_law_1131 rfl rfl ?_
  refine lg_iload dL_law_1132 rfl ?_
  refine lg_iconst (v := nI 2) dL_law_1134 (by decide) ?_
  refine lg_iadd dL_law_1135 (nI_add _ _) ?_
  refine lw_sld dL_law_1136 (by omega) hL ?_
  refine lgs_aload_n dL_law_1137 rfl rfl ?_
  refine lg_iload dL_law_1138 rfl ?_
  refine lg_iconst (v := nI 3) dL_law_1140 (by decide) ?_
  refine lg_iadd dL_law_1141 (nI_add _ _) ?_
  refine lw_sld dL_law_1142 (by omega) hL ?_
  refine lgs_aload_n dL_law_1143 rfl rfl ?_
  refine lg_iload dL_law_1144 rfl ?_
  refine lg_iconst (v := nI 4) dL_law_1146 (by decide) ?_
  refine lg_iadd dL_law_1147 (nI_add _ _) ?_
  refine lw_sld dL_law_1148 (by omega) hL ?_
  refine lg_cVI4 dL_law_1149 vLw_131 (by decide) (hu.cap (Nat.le_succ_of_le hj)) kFC0 (by decide) (by decide) (Nat.le_of_ble_eq_true rfl) (a_other hC hP.1 _ _ _ _ hJw) ?_
  rintro _ τ1 ⟨rfl, hC1, hf⟩
  refine lgs_aload_n dL_law_1152 rfl rfl ?_
  refine lgs_aload_n dL_law_1153 rfl rfl ?_
  refine lg_iload dL_law_1154 rfl ?_
  refine lg_iconst (v := nI 1) dL_law_1156 (by decide) ?_
  refine lg_iadd dL_law_1157 (nI_add _ _) ?_
  refine lw_sld dL_law_1158 (by omega) hL ?_
  refine lgs_aload_n dL_law_1159 rfl rfl ?_
  refine lg_iload dL_law_1160 rfl ?_
  refine lg_iconst (v := nI 2) dL_law_1162 (by decide) ?_
  refine lg_iadd dL_law_1163 (nI_add _ _) ?_
  refine lw_sld dL_law_1164 (by omega) hL ?_
  refine lgs_aload_n dL_law_1165 rfl rfl ?_
  refine lg_iload dL_law_1166 rfl ?_
  refine lg_iconst (v := nI 3) dL_law_1168 (by decide) ?_
  refine lg_iadd dL_law_1169 (nI_add _ _) ?_
  refine lw_sld dL_law_1170 (by omega) hL ?_
  refine lgs_aload_n dL_law_1171 rfl rfl ?_
  refine lg_iload dL_law_1172 rfl ?_
  refine lg_iconst (v := nI 4) dL_law_1174 (by decide) ?_
  refine lg_iadd dL_law_1175 (nI_add _ _) ?_
  refine lw_sld dL_law_1176 (by omega) hL ?_
  refine lg_cVI4 dL_law_1177 vLw_134 (by decide) (hu.cap (Nat.le_succ_of_le hj)) kwM (by decide) (by decide) (Nat.le_of_ble_eq_true rfl) (n_other (hM.fr hf) hP.1 _ _ _ _ (hR1.frK1 hf) hJw hsh (by rw [hv0]; funext i9; rw [hf.1 267 (by decide)])) ?_
  rintro _ τ2 ⟨rfl, hM2, hfL⟩
  refine lrt_icmp_eq (tgt := 1511) dL_law_1180 (by decide) rfl ?_
  have hP2 := PC_rf hP
  exact hN u us τ2 _ _ hu.s (CI.fr hC1 hP2.bd hfL) hM2 hP2
theorem lc_same {L : Nat} {xs : Nat → Int32} {j i u us : Nat} {τ : Mm} {S : Sx} {H : Hx} (hL : L ≤ 3075) (hi : i + 6 ≤ L) (hj : j ≤ 1000) (hu : rmU j u us) (hC : CI τ S H) (hM : MI_ τ S H) (hP : PC j S) (hN : CTN L xs j i) : GL ((u, us), L, xs) 1185 [some (.ref 999), some (.ref 0), some (.ref 258), some (.ref 312), some (.int (nI i)), none, none, none] [] (wW τ) := by
  refine lgs_aload_n dL_law_1185 rfl rfl ?_
  refine lg_cVI0 dL_law_1186 vLw_135 (by decide) (hu.cap (Nat.le_succ_of_le hj)) kFC0 (by decide) (by decide) (Nat.le_of_ble_eq_true rfl) (a_same hC hP.1) ?_
  rintro _ τ1 ⟨rfl, hC1, hf⟩
  refine lgs_aload_n dL_law_1189 rfl rfl ?_
  refine lg_cVI0 dL_law_1190 vLw_138 (by decide) (hu.cap (Nat.le_succ_of_le hj)) kwM (by decide) (by decide) (Nat.le_of_ble_eq_true rfl) (n_same (hM.fr hf) hP.1) ?_
  rintro _ τ2 ⟨rfl, hM2, hfL⟩
  refine lrt_icmp_eq (tgt := 1511) dL_law_1193 (by decide) rfl ?_
  have hP2 := PC_rf hP
  exact hN u us τ2 _ _ hu.s (CI.fr hC1 hP2.bd hfL) hM2 hP2
theorem lc_count {L : Nat} {xs : Nat → Int32} {j i u us : Nat} {τ : Mm} {S : Sx} {H : Hx} (hL : L ≤ 3075) (hi : i + 6 ≤ L) (hj : j ≤ 1000) (hu : rmU j u us) (hC : CI τ S H) (hM : MI_ τ S H) (hP : PC j S) (hN : CTN L xs j i) : GL ((u, us), L, xs) 1198 [some (.ref 999), some (.ref 0), some (.ref 258), some (.ref 312), some (.int (nI i)), none, none, none] [] (wW τ) := by
  refine lgs_aload_n dL_law_1198 rfl rfl ?_
  refine lgs_aload_n dL_law_1199 rfl rfl ?_
  refine lg_iload dL_law_1200 rfl ?_
  refine lg_iconst (v := nI 1) dL_law_1202 (by decide) ?_
  refine lg_iadd dL_law_1203 (nI_add _ _) ?_
  refine lw_sld dL_law_1204 (by omega) hL ?_
  refine lg_cVI1 dL_law_1205 vLw_139 (by decide) (hu.cap (Nat.le_succ_of_le hj)) kFC0 (by decide) (by decide) (Nat.le_of_ble_eq_true rfl) (a_count hC hP.1 _) ?_
  rintro _ _ ⟨rfl, rfl⟩
  refine lgs_aload_n dL_law_1208 rfl rfl ?_
  refine lgs_aload_n dL_law_1209 rfl rfl ?_
  refine lg_iload dL_law_1210 rfl ?_
  refine lg_iconst (v := nI 1) dL_law_1212 (by decide) ?_
  refine lg_iadd dL_law_1213 (nI_add _ _) ?_
  refine lw_sld dL_law_1214 (by omega) hL ?_
  refine lg_cVI1 dL_law_1215 vLw_142 (by decide) (hu.cap (Nat.le_succ_of_le hj)) kwM (by decide) (by decide) (Nat.le_of_ble_eq_true rfl) (n_count hM hP.1 _) ?_
  rintro _ τ2 ⟨rfl, hM2, hfL⟩
  refine lrt_icmp_eq (tgt := 1511) dL_law_1218 (by decide) rfl ?_
  have hP2 := PC_rf hP
  exact hN u us τ2 _ _ hu.s (CI.fr hC hP2.bd hfL) hM2 hP2
theorem lc_keep {L : Nat} {xs : Nat → Int32} {j i u us : Nat} {τ : Mm} {S : Sx} {H : Hx} (hL : L ≤ 3075) (hi : i + 6 ≤ L) (hj : j ≤ 1000) (hu : rmU j u us) (hC : CI τ S H) (hM : MI_ τ S H) (hP : PC j S) (hN : CTN L xs j i) : GL ((u, us), L, xs) 1223 [some (.ref 999), some (.ref 0), some (.ref 258), some (.ref 312), some (.int (nI i)), none, none, none] [] (wW τ) := by
  refine lgs_aload_n dL_law_1223 rfl rfl ?_
  refine lgs_aload_n dL_law_1224 rfl rfl ?_
  refine lg_iload dL_law_1225 rfl ?_
  refine lg_iconst (v := nI 1) dL_law_1227 (by decide) ?_
  refine lg_iadd dL_law_1228 (nI_add _ _) ?_
  refine lw_sld dL_law_1229 (by omega) hL ?_
  refine lgs_aload_n dL_law_1230 rfl rfl ?_
  refine lg_iload dL_law_1231 rfl ?_
  refine lg_iconst (v := nI 2) dL_law_1233 (by decide) ?_
  refine lg_iadd dL_law_1234 (nI_add _ _) ?_
  refine lw_sld dL_law_1235 (by omega) hL ?_
  refine lgs_aload_n dL_law_1236 rfl rfl ?_
  refine lg_iload dL_law_1237 rfl ?_
  refine lg_iconst (v := nI 3) dL_law_1239 (by decide) ?_
  refine lg_iadd dL_law_1240 (nI_add _ _) ?_
  refine lw_sld dL_law_1241 (by omega) hL ?_
  refine lg_cVI3 dL_law_1242 vLw_143 (by decide) (hu.cap (Nat.le_succ_of_le hj)) kFC0 (by decide) (by decide) (Nat.le_of_ble_eq_true rfl) (a_keep hC hP.1 _ _ _) ?_
  rintro _ τ1 ⟨rfl, hC1, hf⟩
  refine lgs_aload_n dL_law_1245 rfl rfl ?_
  refine lgs_aload_n dL_law_1246 rfl rfl ?_
  refine lg_iload dL_law_1247 rfl ?_
  refine lg_iconst (v := nI 1) dL_law_1249 (by decide) ?_
  refine lg_iadd dL_law_1250 (nI_add _ _) ?_
  refine lw_sld dL_law_1251 (by omega) hL ?_
  refine lgs_aload_n dL_law_1252 rfl rfl ?_
  refine lg_iload dL_law_1253 rfl ?_
  refine lg_iconst (v := nI 2) dL_law_1255 (by decide) ?_
  refine lg_iadd dL_law_1256 (nI_add _ _) ?_
  refine lw_sld dL_law_1257 (by omega) hL ?_
  refine lgs_aload_n dL_law_1258 rfl rfl ?_
  refine lg_iload dL_law_1259 rfl ?_
  refine lg_iconst (v := nI 3) dL_law_1261 (by decide) ?_
  refine lg_iadd dL_law_1262 (nI_add _ _) ?_
  refine lw_sld dL_law_1263 (by omega) hL ?_
  refine lg_cVI3 dL_law_1264 vLw_146 (by decide) (hu.cap (Nat.le_succ_of_le hj)) kwM (by decide) (by decide) (Nat.le_of_ble_eq_true rfl) (n_keep (hM.fr hf) hP.1 _ _ _) ?_
  rintro _ τ2 ⟨rfl, hM2, hfL⟩
  refine lrt_icmp_eq (tgt := 1511) dL_law_1267 (by decide) rfl ?_
  have hP2 := PC_rf hP
  exact hN u us τ2 _ _ hu.s (CI.fr hC1 hP2.bd hfL) hM2 hP2
theorem lc_make {L : Nat} {xs : Nat → Int32} {j i u us : Nat} {τ : Mm} {S : Sx} {H : Hx} (hL : L ≤ 3075) (hi : i + 6 ≤ L) (hj : j ≤ 1000) (hu : rmU j u us) (hC : CI τ S H) (hM : MI_ τ S H) (hP : PC j S) (hN : CTN L xs j i) : GL ((u, us), L, xs) 1272 [some (.ref 999), some (.ref 0), some (.ref 258), some (.ref 312), some (.int (nI i)), none, none, none] [] (wW τ) := by
  refine lgs_aload_n dL_law_1272 rfl rfl ?_
  refine lgs_aload_n dL_law_1273 rfl rfl ?_
  refine lg_iload dL_law_1274 rfl ?_
  refine lg_iconst (v := nI 1) dL_law_1276 (by decide) ?_
  refine lg_iadd dL_law_1277 (nI_add _ _) ?_
  refine lw_sld dL_law_1278 (by omega) hL ?_
  refine lgs_aload_n dL_law_1279 rfl rfl ?_
  refine lg_iload dL_law_1280 rfl ?_
  refine lg_iconst (v := nI 2) dL_law_1282 (by decide) ?_
  refine lg_iadd dL_law_1283 (nI_add _ _) ?_
  refine lw_sld dL_law_1284 (by omega) hL ?_
  refine lgs_aload_n dL_law_1285 rfl rfl ?_
  refine lg_iload dL_law_1286 rfl ?_
  refine lg_iconst (v := nI 3) dL_law_1288 (by decide) ?_
  refine lg_iadd dL_law_1289 (nI_add _ _) ?_
  refine lw_sld dL_law_1290 (by omega) hL ?_
  refine lg_cVI3 dL_law_1291 vLw_147 (by decide) (hu.cap (Nat.le_succ_of_le hj)) kFC0 (by decide) (by decide) (Nat.le_of_ble_eq_true rfl) (a_make hC hP.1 _ _ _) ?_
  rintro _ τ1 ⟨rfl, hC1, hf⟩
  refine lgs_aload_n dL_law_1294 rfl rfl ?_
  refine lgs_aload_n dL_law_1295 rfl rfl ?_
  refine lg_iload dL_law_1296 rfl ?_
  refine lg_iconst (v := nI 1) dL_law_1298 (by decide) ?_
  refine lg_iadd dL_law_1299 (nI_add _ _) ?_
  refine lw_sld dL_law_1300 (by omega) hL ?_
  refine lgs_aload_n dL_law_1301 rfl rfl ?_
  refine lg_iload dL_law_1302 rfl ?_
  refine lg_iconst (v := nI 2) dL_law_1304 (by decide) ?_
  refine lg_iadd dL_law_1305 (nI_add _ _) ?_
  refine lw_sld dL_law_1306 (by omega) hL ?_
  refine lgs_aload_n dL_law_1307 rfl rfl ?_
  refine lg_iload dL_law_1308 rfl ?_
  refine lg_iconst (v := nI 3) dL_law_1310 (by decide) ?_
  refine lg_iadd dL_law_1311 (nI_add _ _) ?_
  refine lw_sld dL_law_1312 (by omega) hL ?_
  refine lg_cVI3 dL_law_1313 vLw_150 (by decide) (hu.cap (Nat.le_succ_of_le hj)) kwM (by decide) (by decide) (Nat.le_of_ble_eq_true rfl) (n_make (hM.fr hf) hP.1 _ _ _) ?_
  rintro _ τ2 ⟨rfl, hM2, hfL⟩
  refine lrt_icmp_eq (tgt := 1511) dL_law_1316 (by decide) rfl ?_
  have hP2 := PC_rf hP
  exact hN u us τ2 _ _ hu.s (CI.fr hC1 hP2.bd hfL) hM2 hP2
theorem lc_copy {L : Nat} {xs : Nat → Int32} {j i u us : Nat} {τ : Mm} {S : Sx} {H : Hx} (hL : L ≤ 3075) (hi : i + 6 ≤ L) (hj : j ≤ 1000) (hu : rmU j u us) (hC : CI τ S H) (hM : MI_ τ S H) (hP : PC j S) (hN : CTN L xs j i) : GL ((u, us), L, xs) 1388 [some (.ref 999), some (.ref 0), some (.ref 258), some (.ref 312), some (.int (nI i)), none, none, none] [] (wW τ) := by
  refine lgs_aload_n dL_law_1388 rfl rfl ?_
  refine lgs_aload_n dL_law_1389 rfl rfl ?_
  refine lg_iload dL_law_1390 rfl ?_
  refine lg_iconst (v := nI 1) dL_law_1392 (by decide) ?_
  refine lg_iadd dL_law_1393 (nI_add _ _) ?_
  refine lw_sld dL_law_1394 (by omega) hL ?_
  refine lgs_aload_n dL_law_1395 rfl rfl ?_
  refine lg_iload dL_law_1396 rfl ?_
  refine lg_iconst (v := nI 2) dL_law_1398 (by decide) ?_
  refine lg_iadd dL_law_1399 (nI_add _ _) ?_
  refine lw_sld dL_law_1400 (by omega) hL ?_
  refine lgs_aload_n dL_law_1401 rfl rfl ?_
  refine lg_iload dL_law_1402 rfl ?_
  refine lg_iconst (v := nI 3) dL_law_1404 (by decide) ?_
  refine lg_iadd dL_law_1405 (nI_add _ _) ?_
  refine lw_sld dL_law_1406 (by omega) hL ?_
  refine lgs_aload_n dL_law_1407 rfl rfl ?_
  refine lg_iload dL_law_1408 rfl ?_
  refine lg_iconst (v := nI 4) dL_law_1410 (by decide) ?_
  refine lg_iadd dL_law_1411 (nI_add _ _) ?_
  refine lw_sld dL_law_1412 (by omega) hL ?_
  refine lgs_aload_n dL_law_1413 rfl rfl ?_
  refine lg_iload dL_law_1414 rfl ?_
  refine lg_iconst (v := nI 5) dL_law_1416 (by decide) ?_
  refine lg_iadd dL_law_1417 (nI_add _ _) ?_
  refine lw_sld dL_law_1418 (by omega) hL ?_
  refine lg_cVI5 dL_law_1419 vLw_154 (by decide) (hu.cap (Nat.le_succ_of_le hj)) kFC0 (by decide) (by decide) (Nat.le_of_ble_eq_true rfl) (a_copy hC hP.1 _ _ _ _ _) ?_
  rintro _ τ1 ⟨rfl, hC1, hf⟩
  refine lgs_aload_n dL_law_1422 rfl rfl ?_
  refine lgs_aload_n dL_law_1423 rfl rfl ?_
  refine lg_iload dL_law_1424 rfl ?_
  refine lg_iconst (v := nI 1) dL_law_1426 (by decide) ?_
  refine lg_iadd dL_law_1427 (nI_add _ _) ?_
  refine lw_sld dL_law_1428 (by omega) hL ?_
  refine lgs_aload_n dL_law_1429 rfl rfl ?_
  refine lg_iload dL_law_1430 rfl ?_
  refine lg_iconst (v := nI 2) dL_law_1432 (by decide) ?_
  refine lg_iadd dL_law_1433 (nI_add _ _) ?_
  refine lw_sld dL_law_1434 (by omega) hL ?_
  refine lgs_aload_n dL_law_1435 rfl rfl ?_
  refine lg_iload dL_law_1436 rfl ?_
  refine lg_iconst (v := nI 3) dL_law_1438 (by decide) ?_
  refine lg_iadd dL_law_1439 (nI_add _ _) ?_
  refine lw_sld dL_law_1440 (by omega) hL ?_
  refine lgs_aload_n dL_law_1441 rfl rfl ?_
  refine lg_iload dL_law_1442 rfl ?_
  refine lg_iconst (v := nI 4) dL_law_1444 (by decide) ?_
  refine lg_iadd dL_law_1445 (nI_add _ _) ?_
  refine lw_sld dL_law_1446 (by omega) hL ?_
  refine lgs_aload_n dL_law_1447 rfl rfl ?_
  refine lg_iload dL_law_1448 rfl ?_
  refine lg_iconst (v := nI 5) dL_law_1450 (by decide) ?_
  refine lg_iadd dL_law_1451 (nI_add _ _) ?_
  refine lw_sld dL_law_1452 (by omega) hL ?_
  refine lg_cVI5 dL_law_1453 vLw_158 (by decide) (hu.cap (Nat.le_succ_of_le hj)) kwM (by decide) (by decide) (Nat.le_of_ble_eq_true rfl) (n_copy (hM.fr hf) hP.1 _ _ _ _ _ hC.2.1.ok) ?_
  rintro _ τ2 ⟨rfl, hM2, hfL⟩
  refine lrt_icmp_eq (tgt := 1511) dL_law_1456 (by decide) rfl ?_
  have hP2 := PC_rf hP
  exact hN u us τ2 _ _ hu.s (CI.fr hC1 hP2.bd hfL) hM2 hP2
theorem lc_weight {L : Nat} {xs : Nat → Int32} {j i u us : Nat} {τ : Mm} {S : Sx} {H : Hx} (hL : L ≤ 3075) (hi : i + 6 ≤ L) (hj : j ≤ 1000) (hu : rmU j u us) (hC : CI τ S H) (hM : MI_ τ S H) (hP : PC j S) (hN : CTN L xs j i) : GL ((u, us), L, xs) 1461 [some (.ref 999), some (.ref 0), some (.ref 258), some (.ref 312), some (.int (nI i)), none, none, none] [] (wW τ) := by
  refine lgs_aload_n dL_law_1461 rfl rfl ?_
  refine lgs_aload_n dL_law_1462 rfl rfl ?_
  refine lg_iload dL_law_1463 rfl ?_
  refine lg_iconst (v := nI 1) dL_law_1465 (by decide) ?_
  refine lg_iadd dL_law_1466 (nI_add _ _) ?_
  refine lw_sld dL_law_1467 (by omega) hL ?_
  refine lg_cVI1 dL_law_1468 vLw_159 (by decide) (hu.cap (Nat.le_succ_of_le hj)) kFC0 (by decide) (by decide) (Nat.le_of_ble_eq_true rfl) (a_weight hC hP.1 _) ?_
  rintro _ _ ⟨rfl, rfl⟩
  refine lgs_aload_n dL_law_1471 rfl rfl ?_
  refine lgs_aload_n dL_law_1472 rfl rfl ?_
  refine lg_iload dL_law_1473 rfl ?_
  refine lg_iconst (v := nI 1) dL_law_1475 (by decide) ?_
  refine lg_iadd dL_law_1476 (nI_add _ _) ?_
  refine lw_sld dL_law_1477 (by omega) hL ?_
  refine lg_cVI1 dL_law_1478 vLw_162 (by decide) (hu.cap (Nat.le_succ_of_le hj)) kwM (by decide) (by decide) (Nat.le_of_ble_eq_true rfl) (n_weight hM hP.1 _ hC.2.1.ok) ?_
  rintro _ τ2 ⟨rfl, hM2, hfL⟩
  refine lrt_icmp_eq (tgt := 1511) dL_law_1481 (by decide) rfl ?_
  have hP2 := PC_rf hP
  exact hN u us τ2 _ _ hu.s (CI.fr hC hP2.bd hfL) hM2 hP2
theorem lc_toss {L : Nat} {xs : Nat → Int32} {j i u us : Nat} {τ : Mm} {S : Sx} {H : Hx} (hL : L ≤ 3075) (hi : i + 6 ≤ L) (hj : j ≤ 1000) (hu : rmU j u us) (hC : CI τ S H) (hM : MI_ τ S H) (hP : PC j S) (hN : CTN L xs j i) : GL ((u, us), L, xs) 1486 [some (.ref 999), some (.ref 0), some (.ref 258), some (.ref 312), some (.int (nI i)), none, none, none] [] (wW τ) := by
  refine lgs_aload_n dL_law_1486 rfl rfl ?_
  refine lgs_aload_n dL_law_1487 rfl rfl ?_
  refine lg_iload dL_law_1488 rfl ?_
  refine lg_iconst (v := nI 1) dL_law_1490 (by decide) ?_
  refine lg_iadd dL_law_1491 (nI_add _ _) ?_
  refine lw_sld dL_law_1492 (by omega) hL ?_
  refine lg_toss dL_law_1493 vLy_163 (by decide) (hu.capY hj) kFC0 (by decide) (Nat.le_of_ble_eq_true rfl) (a_toss hC hP.1 _) ?_
  rintro _ rfl
  refine lgs_aload_n dL_law_1496 rfl rfl ?_
  refine lgs_aload_n dL_law_1497 rfl rfl ?_
  refine lg_iload dL_law_1498 rfl ?_
  refine lg_iconst (v := nI 1) dL_law_1500 (by decide) ?_
  refine lg_iadd dL_law_1501 (nI_add _ _) ?_
  refine lw_sld dL_law_1502 (by omega) hL ?_
  refine lg_cVI1 dL_law_1503 vLw_166 (by decide) (hu.y.cap (Nat.succ_le_succ hj)) kwM (by decide) (by decide) (Nat.le_of_ble_eq_true rfl) (n_toss hM hP.1 _ hC.2.1.ok) ?_
  rintro _ τ2 ⟨rfl, hM2, hfL⟩
  refine lrt_icmp_eq (tgt := 1511) dL_law_1506 (by decide) rfl ?_
  have hP2 := PC_rf hP
  exact hN (u + 1) (us + 6) τ2 _ _ hu.y (CI.fr hC hP2.bd hfL) hM2 hP2
