/-! The reference: tryNext. -/
theorem toI_ext (x : Int32) : x.toInt64.toInt32 = x := by
  apply Int32.toBitVec_inj.mp
  simp
theorem bI_nI {v : Nat} (h : v ≤ 1) : nI v = bI (decide (v = 1)) := by
  have : v = 0 ∨ v = 1 := by omega
  rcases this with rfl | rfl <;> rfl
theorem QV_cellx {w : Nat} {σ0 σ : Mm} {S : Sx} (h : Mq w σ0 S σ) {j i : Nat} (hj : j = 80 * w + i) (hi : i < 80) {v : Int32} : Mq w σ0 (setV S 9 i v) (wI σ 286 j v) := by subst hj; exact QV_cell h hi
theorem MV_cellx {w : Nat} {σ : Mm} {S : Sx} (h : RepM w σ S) {j i : Nat} (hj : j = 80 * w + i) (hi : i < 80) : σ.1 286 j = S.2.1 9 i := by subst hj; exact MV_cell h hi
theorem QJ_pageBill {w : Nat} {σ0 σ : Mm} {S : Sx} (h : Mq w σ0 S σ) {i : Nat} (hi : i < 20) {d : Int64} : Mq w σ0 (setV S 8 i (S.2.1 8 i + d.toInt32)) (wL σ 285 (20 * w + i) (σ.2 285 (20 * w + i) + d)) := by
  have q := QV_pageBill h hi (v := σ.2 285 (20 * w + i) + d)
  rw [toI_add, MV_pageBill h.1 hi] at q
  exact q
theorem QJ_cost {w : Nat} {σ0 σ : Mm} {S : Sx} (h : Mq w σ0 S σ) {d : Int64} : Mq w σ0 (setV S 3 0 (S.2.1 3 0 + d.toInt32)) (wL σ 274 w (σ.2 274 w + d)) := by
  have q := QV_cost h (v := σ.2 274 w + d)
  rw [toI_add, MV_cost h.1] at q
  exact q
def blS (S : Sx) (t p a cost : Nat) : Sx := setV (setV (setV (setV (setV (setV (setN (setN S 30 t (S.1 30 t + 1)) 31 t cost) 18 t (S.2.1 18 t + nI 1)) 11 t (S.2.1 11 t + nI cost)) 8 p (S.2.1 8 p + nI cost)) 13 a (S.2.1 13 a + nI cost)) 2 0 (S.2.1 2 0 + nI 1)) 3 0 (S.2.1 3 0 + nI cost)
theorem Bd_blS {S : Sx} {t p a cost : Nat} (hB : Bd S) (h1 : S.1 30 t < 60) (h2 : cost ≤ 5000) : Bd (blS S t p a cost) := Bd_setN (Bd_setN hB (show _ ≤ 60 by omega)) h2
def c0S (S : Sx) (a place : Nat) : Nat := 1 + 2 * fz (S.1 5 (4 * a + place))
def fdS (S : Sx) (p a : Nat) : Sx := if S.1 26 p = 0 then S else ftS S p a
def fdC (S : Sx) (p a : Nat) : Nat := if S.1 26 p = 0 then 0 else ftC S p a
def fdF (S : Sx) (p : Nat) : Bool := decide (S.1 26 p ≠ 0)
def fdM (S : Sx) (p a : Nat) : Bool := if S.1 26 p = 0 then false else ftMv S p a
def acS (S : Sx) (t p c x : Nat) : Sx := if S.1 13 x = 0 then setV S 12 t (S.2.1 9 (4 * p + c)) else setV S 9 (4 * p + c) (S.2.1 0 x)
def cqS (S : Sx) (p a x : Nat) : Sx := if S.1 8 p = 1 then cpS S p a (decide (S.1 13 x = 1)) else S
def cqC (S : Sx) (p a x : Nat) : Nat := if S.1 8 p = 1 then cpC S p a (decide (S.1 13 x = 1)) else 0
/-- the end of an access that goes, from the copies on -/
def enS (S : Sx) (t a x p place c1 : Nat) (df dm : Bool) : Sx := ntS (blS (cqS S p a x) t p a (c1 + cqC S p a x)) t a x place (c1 + cqC S p a x) df dm
def goS (S : Sx) (t a x p c place : Nat) : Sx := enS (acS (fdS (ulS place 3 S a) p a) t p c x) t a x p place (c0S (ulS place 3 S a) a place + fdC (ulS place 3 S a) p a) (fdF (ulS place 3 S a) p) (fdM (ulS place 3 S a) p a)
def wgS (S : Sx) (t l : Nat) : Sx := setV (setV S 10 t (S.2.1 10 t + nI 1)) 15 l (S.2.1 15 l + nI 1)
def rdyS (S : Sx) (t a x p c : Nat) : Sx := if rcS S a (whS S p c a) = false then flS S t else match crS S (whS S p c a) 3 a with
  | some l => wgS S t l
  | none => goS S t a x p c (whS S p c a)
def tryA (S : Sx) (t a x p c : Nat) : Sx := if S.1 7 0 ≤ p ∨ 3 < c then flS S t else if S.1 24 p = 0 then (match plO S p a with
  | none => flS S t
  | some nd => rdyS (plSt S p nd) t a x p c) else rdyS S t a x p c
def tryS (S : Sx) (t : Nat) : Sx := tryA S t (S.1 29 t) (60 * t + S.1 30 t) (S.1 11 (60 * t + S.1 30 t)) (S.1 12 (60 * t + S.1 30 t))
theorem e_try327 {w : Nat} {σ0 σ : Mm} {S : Sx} {K : Option Value → Mm → Prop} (hW : Mw w σ0 S σ) (hB : Bd S) (hcap : hCap w S) {t a x p c place : Nat} (ht : t < 10) (ha : a < 4) (hx : x < 600) (hp : p < 20) {cost : Nat} {df dm : Bool} (hd : hD df dm σ) (hnx : S.1 30 t < 60) (hco : cost ≤ 5000) (hK : ∀ τ, Mw w σ0 (ntS (blS S t p a cost) t a x place cost df dm) τ → K none τ) : G W0 mX12_tryNext K 327 [some (.ref 258), some (.int (nI t)), some (.int (nI (10 * w + t))), some (.int (nI a)), some (.int (nI x)), some (.int (nI p)), some (.int (nI c)), some (.int (nI place)), none, none, none] [.int (nI cost)] σ := by
  have hM := hW.1
  have hC0 := hW.2.1
  have hw := hC0.1
  have hQ := Mq.rf hM hC0
  refine gs_istore (ls' := [_, _, _, _, _, _, _, _, _, _, _]) dX12_tryNext_327 rfl rfl ?_
  refine gs_aload_n dX12_tryNext_329 rfl rfl ?_
  refine g_getR dX12_tryNext_330 fX12_109 kwM (by decide) rM_next ?_
  refine gs_iload_n dX12_tryNext_333 rfl rfl ?_
  refine g_dup2 dX12_tryNext_334 rfl rfl ?_
  refine g_iald dX12_tryNext_335 kw_next (by omega) (M_next hM (by omega)) ?_
  refine g_iconst (v := nI 1) dX12_tryNext_336 (by decide) ?_
  refine g_iadd dX12_tryNext_337 (by first | exact nI_add _ _ | rfl) ?_
  refine gq_iast dX12_tryNext_338 kw_next (by omega) (Q_next hQ ht) (fun σ hQ => ?_)
  have hM := hQ.1
  have hC0 := hQ.2.1
  refine gs_aload_n dX12_tryNext_339 rfl rfl ?_
  refine g_getR dX12_tryNext_340 fX12_112 kwM (by decide) rM_toGo ?_
  refine gs_iload_n dX12_tryNext_343 rfl rfl ?_
  refine g_iload dX12_tryNext_344 rfl ?_
  refine gq_iast dX12_tryNext_346 kw_toGo (by omega) (Q_toGo hQ ht) (fun σ hQ => ?_)
  have hM := hQ.1
  have hC0 := hQ.2.1
  refine gs_aload_n dX12_tryNext_347 rfl rfl ?_
  refine g_getR dX12_tryNext_348 fX12_121 kwM (by decide) rM_threadWent ?_
  refine gs_iload_n dX12_tryNext_351 rfl rfl ?_
  refine g_dup2 dX12_tryNext_352 rfl rfl ?_
  refine g_iald dX12_tryNext_353 kw_threadWent (by omega) rfl ?_
  refine g_iconst (v := nI 1) dX12_tryNext_354 (by decide) ?_
  refine g_iadd dX12_tryNext_355 (by first | exact nI_add _ _ | rfl) ?_
  refine gq_iast dX12_tryNext_356 kw_threadWent (by omega) (QJ_threadWent hQ ht) (fun σ hQ => ?_)
  have hM := hQ.1
  have hC0 := hQ.2.1
  refine gs_aload_n dX12_tryNext_357 rfl rfl ?_
  refine g_getR dX12_tryNext_358 fX12_124 kwM (by decide) rM_threadBill ?_
  refine gs_iload_n dX12_tryNext_361 rfl rfl ?_
  refine g_dup2 dX12_tryNext_362 rfl rfl ?_
  refine g_lald dX12_tryNext_363 kw_threadBill (by omega) rfl ?_
  refine g_iload dX12_tryNext_364 rfl ?_
  refine g_i2l dX12_tryNext_366 rfl ?_
  refine g_ladd dX12_tryNext_367 rfl ?_
  refine gq_last dX12_tryNext_368 kw_threadBill (by omega) (QJ_threadBill hQ ht) (fun σ hQ => ?_)
  have hM := hQ.1
  have hC0 := hQ.2.1
  refine gs_aload_n dX12_tryNext_369 rfl rfl ?_
  refine g_getR dX12_tryNext_370 fX12_97 kwM (by decide) rM_pageBill ?_
  refine g_bipush (v := nI 20) dX12_tryNext_373 (by decide) ?_
  refine gs_aload_n dX12_tryNext_375 rfl rfl ?_
  refine g_getI dX12_tryNext_376 fX12_243 kwM (by decide) hC0.2 ?_
  refine g_imul dX12_tryNext_379 (by first | exact pk_mul _ _ | rfl) ?_
  refine g_iload dX12_tryNext_380 rfl ?_
  refine g_iadd dX12_tryNext_382 (by first | exact nI_add _ _ | rfl) ?_
  refine g_dup2 dX12_tryNext_383 rfl rfl ?_
  refine g_lald dX12_tryNext_384 kw_pageBill (by omega) rfl ?_
  refine g_iload dX12_tryNext_385 rfl ?_
  refine g_i2l dX12_tryNext_387 rfl ?_
  refine g_ladd dX12_tryNext_388 rfl ?_
  refine gq_last dX12_tryNext_389 kw_pageBill (by omega) (QJ_pageBill hQ hp) (fun σ hQ => ?_)
  have hM := hQ.1
  have hC0 := hQ.2.1
  refine gs_aload_n dX12_tryNext_390 rfl rfl ?_
  refine g_getR dX12_tryNext_391 fX12_133 kwM (by decide) rM_nodeBill ?_
  refine g_iconst (v := nI 4) dX12_tryNext_394 (by decide) ?_
  refine gs_aload_n dX12_tryNext_395 rfl rfl ?_
  refine g_getI dX12_tryNext_396 fX12_243 kwM (by decide) hC0.2 ?_
  refine g_imul dX12_tryNext_399 (by first | exact pk_mul _ _ | rfl) ?_
  refine gs_iload_n dX12_tryNext_400 rfl rfl ?_
  refine g_iadd dX12_tryNext_401 (by first | exact nI_add _ _ | rfl) ?_
  refine g_dup2 dX12_tryNext_402 rfl rfl ?_
  refine g_lald dX12_tryNext_403 kw_nodeBill (by omega) rfl ?_
  refine g_iload dX12_tryNext_404 rfl ?_
  refine g_i2l dX12_tryNext_406 rfl ?_
  refine g_ladd dX12_tryNext_407 rfl ?_
  refine gq_last dX12_tryNext_408 kw_nodeBill (by omega) (QJ_nodeBill hQ ha) (fun σ hQ => ?_)
  have hM := hQ.1
  have hC0 := hQ.2.1
  refine gs_aload_n dX12_tryNext_409 rfl rfl ?_
  refine g_getR dX12_tryNext_410 fX12_60 kwM (by decide) rM_went ?_
  refine gs_aload_n dX12_tryNext_413 rfl rfl ?_
  refine g_getI dX12_tryNext_414 fX12_243 kwM (by decide) hC0.2 ?_
  refine g_dup2 dX12_tryNext_417 rfl rfl ?_
  refine g_iald dX12_tryNext_418 kw_went (by omega) (show _ = S.2.1 2 0 from by have q := MV_went hM; exact q) ?_
  refine g_iconst (v := nI 1) dX12_tryNext_419 (by decide) ?_
  refine g_iadd dX12_tryNext_420 (by first | exact nI_add _ _ | rfl) ?_
  refine gq_iast dX12_tryNext_421 kw_went (by omega) (QV_went hQ) (fun σ hQ => ?_)
  have hM := hQ.1
  have hC0 := hQ.2.1
  refine gs_aload_n dX12_tryNext_422 rfl rfl ?_
  refine g_getR dX12_tryNext_423 fX12_63 kwM (by decide) rM_cost ?_
  refine gs_aload_n dX12_tryNext_426 rfl rfl ?_
  refine g_getI dX12_tryNext_427 fX12_243 kwM (by decide) hC0.2 ?_
  refine g_dup2 dX12_tryNext_430 rfl rfl ?_
  refine g_lald dX12_tryNext_431 kw_cost (by omega) rfl ?_
  refine g_iload dX12_tryNext_432 rfl ?_
  refine g_i2l dX12_tryNext_434 rfl ?_
  refine g_ladd dX12_tryNext_435 rfl ?_
  refine gq_last dX12_tryNext_436 kw_cost (by omega) (QJ_cost hQ) (fun σ hQ => ?_)
  have hM := hQ.1
  have hC0 := hQ.2.1
  simp only [toI_ext] at hQ
  have hQ : Mq w _ (blS S t p a cost) σ := hQ
  have hM := hQ.1
  have hd2 : hD df dm σ := ⟨(congrFun hQ.2.2.1.2.1 54).trans hd.1, (congrFun hQ.2.2.1.2.1 55).trans hd.2⟩
  refine gs_aload_n dX12_tryNext_437 rfl rfl ?_
  refine gs_iload_n dX12_tryNext_438 rfl rfl ?_
  refine gs_iload_n dX12_tryNext_439 rfl rfl ?_
  refine g_iload dX12_tryNext_440 rfl ?_
  refine g_iload dX12_tryNext_442 rfl ?_
  refine g_iload dX12_tryNext_444 rfl ?_
  refine g_cVV5 dX12_tryNext_446 vX12_311 (by decide) kwM (by decide) (Nat.le_of_ble_eq_true rfl) (s_note hM (Bd_blS hB hnx hco) hC0 hcap hd2 hx) ?_
  rintro τ hτ
  refine g_return dX12_tryNext_449 rfl ?_
  exact hK _ ((hW.tr hQ.weak).tr hτ)
theorem cpC_le {S : Sx} {p a : Nat} {wr : Bool} : cpC S p a wr ≤ 5 := by
  unfold cpC
  split
  · have h0 := bt_le (clr (S.1 25 p) a) 0
    have h1 := bt_le (clr (S.1 25 p) a) 1
    have h2 := bt_le (clr (S.1 25 p) a) 2
    have h3 := bt_le (clr (S.1 25 p) a) 3
    have h4 := bt_le (S.1 25 p) a
    unfold pc4
    omega
  · split <;> omega
theorem stb_le {c a : Nat} (hc : c ≤ 15) (ha : a < 4) : stb c a ≤ 15 := by
  have h : ∀ c, c < 16 → ∀ a, a < 4 → stb c a ≤ 15 := by decide +kernel
  exact h c (by omega) a ha
theorem Bd_cpS {S : Sx} {p a : Nat} {wr : Bool} (hB : Bd S) (ha : a < 4) : Bd (cpS S p a wr) := by
  have h1 := B_copies hB p
  unfold cpS
  split
  · refine Bd_setN ?_ (by decide)
    split
    · exact Bd_setN hB (show _ ≤ 4 by omega)
    · exact hB
  · split
    · exact hB
    · exact Bd_setN hB (stb_le h1 ha)
theorem cpS_ne {S : Sx} {p a g : Nat} {wr : Bool} (h1 : g ≠ 24) (h2 : g ≠ 25) : (cpS S p a wr).1 g = S.1 g := by
  unfold cpS
  split
  · rw [setN_ne h2]
    split
    · rw [setN_ne h1]
    · rfl
  · split
    · rfl
    · rw [setN_ne h2]
theorem cpS_2 {S : Sx} {p a : Nat} {wr : Bool} : (cpS S p a wr).2 = S.2 := by
  unfold cpS
  split
  · rw [setN_2]
    split <;> rfl
  · split <;> rfl
theorem e_try295 {w : Nat} {σ0 σ : Mm} {S : Sx} {K : Option Value → Mm → Prop} (hW : Mw w σ0 S σ) (hB : Bd S) (hcap : hCap w S) {t a x p c place : Nat} (ht : t < 10) (ha : a < 4) (hx : x < 600) (hp : p < 20) {c1 : Nat} {df dm : Bool} (hd : hD df dm σ) (hnx : S.1 30 t < 60) (hco : c1 ≤ 4000) (hK : ∀ τ, Mw w σ0 (enS S t a x p place c1 df dm) τ → K none τ) : G W0 mX12_tryNext K 295 [some (.ref 258), some (.int (nI t)), some (.int (nI (10 * w + t))), some (.int (nI a)), some (.int (nI x)), some (.int (nI p)), some (.int (nI c)), some (.int (nI place)), none, some (.int (nI c1)), none] [] σ := by
  have hM := hW.1
  have hC0 := hW.2.1
  have hw := hC0.1
  have b1 := B_kind hB p
  have b2 := B_aWrites hB x
  refine g_iload dX12_tryNext_295 rfl ?_
  refine gs_aload_n dX12_tryNext_297 rfl rfl ?_
  refine g_getR dX12_tryNext_298 fX12_19 kwM (by decide) rM_kind ?_
  refine g_iload dX12_tryNext_301 rfl ?_
  refine g_iald dX12_tryNext_303 kw_kind (by omega) (M_kind hM (by omega)) ?_
  refine g_iconst (v := nI 1) dX12_tryNext_304 (by decide) ?_
  refine gn_icmp_ne (tgt := 325) dX12_tryNext_305 (by decide) (by omega) (by omega) (fun c305 => ?_) (fun c305 => ?_)
  · refine g_iconst (v := nI 0) dX12_tryNext_325 (by decide) ?_
    refine g_iadd dX12_tryNext_326 (by first | exact nI_add _ _ | rfl) ?_
    refine G.drop 9 (ls' := [_, _, _, _, _, _, _, _, _, none, _]) rfl ?_
    have e1 : cqC S p a x = 0 := if_neg c305
    have e2 : cqS S p a x = S := if_neg c305
    exact e_try327 hW hB hcap ht ha hx hp hd hnx (by omega) (fun τ hτ => hK τ (by rw [enS, e1, e2]; exact hτ))
  · refine gs_aload_n dX12_tryNext_308 rfl rfl ?_
    refine g_iload dX12_tryNext_309 rfl ?_
    refine gs_iload_n dX12_tryNext_311 rfl rfl ?_
    refine gs_aload_n dX12_tryNext_312 rfl rfl ?_
    refine g_getR dX12_tryNext_313 fX12_31 kwM (by decide) rM_aWrites ?_
    refine g_iload dX12_tryNext_316 rfl ?_
    refine g_zald dX12_tryNext_318 kw_aWrites (by omega) ((M_aWrites hM hx).trans (bI_nI b2)) ?_
    refine g_cVI3 dX12_tryNext_319 vX12_307 (by decide) kwM (by decide) (Nat.le_of_ble_eq_true rfl) (s_copied hM hB hC0 hp ha) ?_
    rintro _ σ ⟨rfl, hQ⟩
    refine g_goto (tgt := 326) dX12_tryNext_322 (by decide) ?_
    refine g_iadd dX12_tryNext_326 (by first | exact nI_add _ _ | rfl) ?_
    refine G.drop 9 (ls' := [_, _, _, _, _, _, _, _, _, none, _]) rfl ?_
    have e1 : cqC S p a x = cpC S p a (decide (S.1 13 x = 1)) := if_pos c305
    have e2 : cqS S p a x = cpS S p a (decide (S.1 13 x = 1)) := if_pos c305
    have b9 := @cpC_le S p a (decide (S.1 13 x = 1))
    exact e_try327 (hW.tr hQ.weak) (Bd_cpS hB ha) ⟨fun e => by rw [cpS_ne (g := 39) (by decide) (by decide)]; exact hcap.1 e, fun e => by rw [cpS_ne (g := 39) (by decide) (by decide), cpS_ne (g := 34) (by decide) (by decide)]; exact hcap.2 e⟩ ht ha hx hp ⟨(congrFun hQ.2.2.1.2.1 54).trans hd.1, (congrFun hQ.2.2.1.2.1 55).trans hd.2⟩ (by rw [cpS_ne (g := 30) (by decide) (by decide)]; exact hnx) (by omega) (fun τ hτ => hK τ (by rw [enS, e1, e2]; exact hτ))
theorem e_try236 {w : Nat} {σ0 σ : Mm} {S : Sx} {K : Option Value → Mm → Prop} (hW : Mw w σ0 S σ) (hB : Bd S) (hcap : hCap w S) {t a x p c place : Nat} (ht : t < 10) (ha : a < 4) (hx : x < 600) (hp : p < 20) (hc : c < 4) {c1 : Nat} {df dm : Bool} (hd : hD df dm σ) (hnx : S.1 30 t < 60) (hco : c1 ≤ 4000) (hK : ∀ τ, Mw w σ0 (enS (acS S t p c x) t a x p place c1 df dm) τ → K none τ) : G W0 mX12_tryNext K 236 [some (.ref 258), some (.int (nI t)), some (.int (nI (10 * w + t))), some (.int (nI a)), some (.int (nI x)), some (.int (nI p)), some (.int (nI c)), some (.int (nI place)), none, none, none] [.int (nI c1)] σ := by
  have hM := hW.1
  have hC0 := hW.2.1
  have hw := hC0.1
  have b2 := B_aWrites hB x
  have hQ := Mq.rf hM hC0
  refine gs_istore (ls' := [_, _, _, _, _, _, _, _, _, _, _]) dX12_tryNext_236 rfl rfl ?_
  refine g_iconst (v := nI 4) dX12_tryNext_238 (by decide) ?_
  refine g_bipush (v := nI 20) dX12_tryNext_239 (by decide) ?_
  refine gs_aload_n dX12_tryNext_241 rfl rfl ?_
  refine g_getI dX12_tryNext_242 fX12_243 kwM (by decide) hC0.2 ?_
  refine g_imul dX12_tryNext_245 (by first | exact pk_mul _ _ | rfl) ?_
  refine g_iload dX12_tryNext_246 rfl ?_
  refine g_iadd dX12_tryNext_248 (by first | exact nI_add _ _ | rfl) ?_
  refine g_imul dX12_tryNext_249 (by first | exact pk_mul _ _ | rfl) ?_
  refine g_iload dX12_tryNext_250 rfl ?_
  refine g_iadd dX12_tryNext_252 (by first | exact nI_add _ _ | rfl) ?_
  refine gs_istore (ls' := [_, _, _, _, _, _, _, _, _, _, _]) dX12_tryNext_253 rfl rfl ?_
  refine gs_aload_n dX12_tryNext_255 rfl rfl ?_
  refine g_getR dX12_tryNext_256 fX12_31 kwM (by decide) rM_aWrites ?_
  refine g_iload dX12_tryNext_259 rfl ?_
  refine g_zald dX12_tryNext_261 kw_aWrites (by omega) (M_aWrites hM (by omega)) ?_
  refine gn_if_eq (tgt := 282) dX12_tryNext_262 (by decide) (by omega) (fun c262 => ?_) (fun c262 => ?_)
  · refine gs_aload_n dX12_tryNext_282 rfl rfl ?_
    refine g_getR dX12_tryNext_283 fX12_127 kwM (by decide) rM_lastRead ?_
    refine gs_iload_n dX12_tryNext_286 rfl rfl ?_
    refine gs_aload_n dX12_tryNext_287 rfl rfl ?_
    refine g_getR dX12_tryNext_288 fX12_100 kwM (by decide) rM_cell ?_
    refine g_iload dX12_tryNext_291 rfl ?_
    refine g_iald dX12_tryNext_293 kw_cell (by omega) (MV_cellx hM (i := 4 * p + c) (by omega) (by omega)) ?_
    refine gq_iast dX12_tryNext_294 kw_lastRead (by omega) (QV_lastRead hQ ht) (fun σ hQ => ?_)
    have hM := hQ.1
    have hC0 := hQ.2.1
    refine G.drop 10 (ls' := [_, _, _, _, _, _, _, _, _, _, none]) rfl ?_
    have hd2 : hD df dm σ := ⟨(congrFun hQ.2.2.1.2.1 54).trans hd.1, (congrFun hQ.2.2.1.2.1 55).trans hd.2⟩
    have e2 : acS S t p c x = setV S 12 t (S.2.1 9 (4 * p + c)) := if_pos c262
    exact e_try295 (hW.tr hQ.weak) (Bd_setV hB) hcap ht ha hx hp hd2 hnx hco (fun τ hτ => hK τ (by rw [e2]; exact hτ))
  · refine gs_aload_n dX12_tryNext_265 rfl rfl ?_
    refine g_getR dX12_tryNext_266 fX12_100 kwM (by decide) rM_cell ?_
    refine g_iload dX12_tryNext_269 rfl ?_
    refine gs_aload_n dX12_tryNext_271 rfl rfl ?_
    refine g_getR dX12_tryNext_272 fX12_35 kwM (by decide) rM_aValue ?_
    refine g_iload dX12_tryNext_275 rfl ?_
    refine g_iald dX12_tryNext_277 kw_aValue (by omega) (MV_aValue hM hx) ?_
    refine gq_iast dX12_tryNext_278 kw_cell (by omega) (QV_cellx hQ (i := 4 * p + c) (by omega) (by omega)) (fun σ hQ => ?_)
    have hM := hQ.1
    have hC0 := hQ.2.1
    refine g_goto (tgt := 295) dX12_tryNext_279 (by decide) ?_
    refine G.drop 10 (ls' := [_, _, _, _, _, _, _, _, _, _, none]) rfl ?_
    have hd2 : hD df dm σ := ⟨(congrFun hQ.2.2.1.2.1 54).trans hd.1, (congrFun hQ.2.2.1.2.1 55).trans hd.2⟩
    have e2 : acS S t p c x = setV S 9 (4 * p + c) (S.2.1 0 x) := if_neg (by omega)
    exact e_try295 (hW.tr hQ.weak) (Bd_setV hB) hcap ht ha hx hp hd2 hnx hco (fun τ hτ => hK τ (by rw [e2]; exact hτ))
