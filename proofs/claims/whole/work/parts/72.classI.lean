/-! The class: numbers that stand for something, canBeReached. -/
theorem sub1_toInt {n : Nat} (h : n ≤ 300) : (nI n - nI 1).toInt = (n : Int) - 1 := by
  have h0 : ∀ n, n < 301 → (nI n - nI 1).toInt = (n : Int) - 1 := by decide +kernel
  exact h0 n (by omega)
theorem toInt_nI {n : Nat} (h : n ≤ 300) : (nI n).toInt = (n : Int) := by
  have h0 : ∀ n, n < 301 → (nI n).toInt = (n : Int) := by decide +kernel
  exact h0 n (by omega)
theorem within_n {x : Int32} {n : Nat} (h : n ≤ 300) : decide (nI 0 ≤ x ∧ x ≤ nI n - nI 1) = inN x n := by
  unfold inN
  refine decide_eq_decide.mpr ?_
  rw [Int32.le_iff_toInt_le, Int32.le_iff_toInt_le, sub1_toInt h, toInt_nI (by decide)]
  omega
theorem within_c {x : Int32} {lo hi : Nat} (h1 : lo ≤ 300) (h2 : hi ≤ 300) : decide (nI lo ≤ x ∧ x ≤ nI hi) = decide ((lo : Int) ≤ x.toInt ∧ x.toInt ≤ (hi : Int)) := by
  refine decide_eq_decide.mpr ?_
  rw [Int32.le_iff_toInt_le, Int32.le_iff_toInt_le, toInt_nI h1, toInt_nI h2]
theorem c_hasPage {b : Nat} {σ : Mm} {S : Sx} {Tf : Nat → Nat} (hb : mch b) (hR : RepC b σ S Tf) (hB : Bd S) (x : Int32) : RI W0 mX3_hasPage [.ref b, .int x] σ (fun r τ => r = bI (inN x (S.1 7 0)) ∧ τ = σ) := by
  have b0 := B_P hB 0
  refine G.met (by decide) (Nat.le_of_ble_eq_true rfl) ?_
  show G _ _ _ 0 [some (.ref b), some (.int x)] [] σ
  refine gs_iload_n dX3_hasPage_0 rfl rfl ?_
  refine g_iconst (v := nI 0) dX3_hasPage_1 (by decide) ?_
  refine gs_aload_n dX3_hasPage_2 rfl rfl ?_
  refine g_getI dX3_hasPage_3 fX3_91 (kMa hb) (by decide) (C_P hR) ?_
  refine g_iconst (v := nI 1) dX3_hasPage_6 (by decide) ?_
  refine g_isub dX3_hasPage_7 rfl ?_
  refine g_cNI3 dX3_hasPage_8 vX3_138 (by decide) (Nat.le_of_ble_eq_true rfl) (s_within _ _ _) ?_
  rintro _ σ ⟨rfl, e9⟩
  subst e9
  refine g_zreturn dX3_hasPage_11 rfl (by first | exact bI_01 _ | decide) ?_
  exact ⟨_, rfl, by rw [within_n (by omega)], rfl⟩
theorem c_hasWorker {b : Nat} {σ : Mm} {S : Sx} {Tf : Nat → Nat} (hb : mch b) (hR : RepC b σ S Tf) (hB : Bd S) (x : Int32) : RI W0 mX3_hasWorker [.ref b, .int x] σ (fun r τ => r = bI (inN x (S.1 9 0)) ∧ τ = σ) := by
  have b0 := B_T hB 0
  refine G.met (by decide) (Nat.le_of_ble_eq_true rfl) ?_
  show G _ _ _ 0 [some (.ref b), some (.int x)] [] σ
  refine gs_iload_n dX3_hasWorker_0 rfl rfl ?_
  refine g_iconst (v := nI 0) dX3_hasWorker_1 (by decide) ?_
  refine gs_aload_n dX3_hasWorker_2 rfl rfl ?_
  refine g_getI dX3_hasWorker_3 fX3_94 (kMa hb) (by decide) (C_T hR) ?_
  refine g_iconst (v := nI 1) dX3_hasWorker_6 (by decide) ?_
  refine g_isub dX3_hasWorker_7 rfl ?_
  refine g_cNI3 dX3_hasWorker_8 vX3_138 (by decide) (Nat.le_of_ble_eq_true rfl) (s_within _ _ _) ?_
  rintro _ σ ⟨rfl, e9⟩
  subst e9
  refine g_zreturn dX3_hasWorker_11 rfl (by first | exact bI_01 _ | decide) ?_
  exact ⟨_, rfl, by rw [within_n (by omega)], rfl⟩
theorem c_has {b : Nat} {σ : Mm} {S : Sx} {Tf : Nat → Nat} (hb : mch b) (hR : RepC b σ S Tf) (hB : Bd S) (x : Int32) : RI W0 mX1_has [.ref 1, .int x] σ (fun r τ => r = bI (inN x (S.1 0 0)) ∧ τ = σ) := by
  have b0 := B_nodes hB 0
  refine G.met (by decide) (Nat.le_of_ble_eq_true rfl) ?_
  show G _ _ _ 0 [some (.ref 1), some (.int x)] [] σ
  refine gs_iload_n dX1_has_0 rfl rfl ?_
  refine g_iconst (v := nI 0) dX1_has_1 (by decide) ?_
  refine gs_aload_n dX1_has_2 rfl rfl ?_
  refine g_getI dX1_has_3 fX1_24 bdW0.1 (by decide) (C_nodes hR) ?_
  refine g_iconst (v := nI 1) dX1_has_6 (by decide) ?_
  refine g_isub dX1_has_7 rfl ?_
  refine g_cNI3 dX1_has_8 vX1_43 (by decide) (Nat.le_of_ble_eq_true rfl) (s_within _ _ _) ?_
  rintro _ σ ⟨rfl, e9⟩
  subst e9
  refine g_zreturn dX1_has_11 rfl (by first | exact bI_01 _ | decide) ?_
  exact ⟨_, rfl, by rw [within_n (by omega)], rfl⟩
theorem c_joins {b : Nat} {σ : Mm} {S : Sx} {Tf : Nat → Nat} (hb : mch b) (hR : RepC b σ S Tf) (hB : Bd S) (x y : Int32) : RI W0 mX1_joins [.ref 1, .int x, .int y] σ (fun r τ => r = bI (inN x (S.1 0 0) && (inN y (S.1 0 0) && decide (x ≠ y))) ∧ τ = σ) := by
  refine G.met (by decide) (Nat.le_of_ble_eq_true rfl) ?_
  show G _ _ _ 0 [some (.ref 1), some (.int x), some (.int y)] [] σ
  refine gs_aload_n dX1_joins_0 rfl rfl ?_
  refine gs_iload_n dX1_joins_1 rfl rfl ?_
  refine g_cVI1 dX1_joins_2 vX1_47 (by decide) bdW0.1 (by decide) (Nat.le_of_ble_eq_true rfl) (c_has hb hR hB _) ?_
  rintro _ σ ⟨rfl, e9⟩
  subst e9
  refine gb_if_eq (tgt := 25) dX1_joins_5 (by decide) (fun c5 => ?_) (fun c5 => ?_)
  · refine g_iconst (v := nI 0) dX1_joins_25 (by decide) ?_
    refine g_zreturn dX1_joins_26 rfl (by first | exact bI_01 _ | decide) ?_
    exact ⟨_, rfl, by rw [c5]; rfl, rfl⟩
  · refine gs_aload_n dX1_joins_8 rfl rfl ?_
    refine gs_iload_n dX1_joins_9 rfl rfl ?_
    refine g_cVI1 dX1_joins_10 vX1_47 (by decide) bdW0.1 (by decide) (Nat.le_of_ble_eq_true rfl) (c_has hb hR hB _) ?_
    rintro _ σ ⟨rfl, e9⟩
    subst e9
    refine gb_if_eq (tgt := 25) dX1_joins_13 (by decide) (fun c13 => ?_) (fun c13 => ?_)
    · refine g_iconst (v := nI 0) dX1_joins_25 (by decide) ?_
      refine g_zreturn dX1_joins_26 rfl (by first | exact bI_01 _ | decide) ?_
      exact ⟨_, rfl, by rw [c13, Bool.false_and, Bool.and_false]; rfl, rfl⟩
    · refine gs_iload_n dX1_joins_16 rfl rfl ?_
      refine gs_iload_n dX1_joins_17 rfl rfl ?_
      refine g_icmp_eq (tgt := 25) dX1_joins_18 (by decide) (fun c18 => ?_) (fun c18 => ?_)
      · refine g_iconst (v := nI 0) dX1_joins_25 (by decide) ?_
        refine g_zreturn dX1_joins_26 rfl (by first | exact bI_01 _ | decide) ?_
        exact ⟨_, rfl, by rw [decide_eq_false (fun z => z c18), Bool.and_false, Bool.and_false]; rfl, rfl⟩
      · refine g_iconst (v := nI 1) dX1_joins_21 (by decide) ?_
        refine g_goto (tgt := 26) dX1_joins_22 (by decide) ?_
        refine g_zreturn dX1_joins_26 rfl (by first | exact bI_01 _ | decide) ?_
        exact ⟨_, rfl, by rw [c5, c13, decide_eq_true c18]; rfl, rfl⟩
def hwS (S : Sx) (c a : Nat) : Sx := match crS S c 3 a with
  | none => S
  | some l => setV S 15 l (S.2.1 15 l + nI 1)
theorem hu_norm {b : Nat} {σ τ : Mm} {S : Sx} {Tf : Nat → Nat} {c a : Nat} {r : Int32} (hR : RepC b σ S Tf) (h : (crS S c 3 a = none ∧ r = bI false ∧ τ = σ) ∨ ∃ l, crS S c 3 a = some l ∧ r = bI true ∧ Cq b σ (setV S 15 l (S.2.1 15 l + nI 1)) Tf (σ.1 (b + 5)) τ) : r = bI (crS S c 3 a).isSome ∧ Cq b σ (hwS S c a) Tf (σ.1 (b + 5)) τ := by
  rcases h with ⟨h1, h2, h3⟩ | ⟨l, h1, h2, h3⟩
  · rw [hwS, h1, h2, h3]; exact ⟨rfl, Cq.rf hR⟩
  · rw [hwS, h1, h2]; exact ⟨rfl, h3⟩
def pbS (S : Sx) (p a : Nat) : Sx := match plO S p a with
  | none => S
  | some nd => plSt S p nd
def pbT (S : Sx) (Tf : Nat → Nat) (p a : Nat) : Nat → Nat := match plO S p a with
  | none => Tf
  | some nd => layT S Tf p nd
theorem pb_norm {b : Nat} {σ τ : Mm} {S : Sx} {Tf : Nat → Nat} {p a : Nat} {r : Int32} (hR : RepC b σ S Tf) (h : (∃ nd, plO S p a = some nd ∧ r = bI true ∧ Cq b σ (plSt S p nd) (layT S Tf p nd) (σ.1 (b + 5)) τ) ∨ (plO S p a = none ∧ r = bI false ∧ τ = σ)) : r = bI (plO S p a).isSome ∧ Cq b σ (pbS S p a) (pbT S Tf p a) (σ.1 (b + 5)) τ := by
  rcases h with ⟨l, h1, h2, h3⟩ | ⟨h1, h2, h3⟩
  · rw [pbS, pbT, h1, h2]; exact ⟨rfl, h3⟩
  · rw [pbS, pbT, h1, h2, h3]; exact ⟨rfl, Cq.rf hR⟩
/-- copies: only of pages of kind 1 that lie somewhere, and never where the page lies -/
def Cv (S : Sx) : Prop := ∀ p, (S.1 8 p ≠ 1 → S.1 25 p = 0) ∧ (S.1 24 p = 0 → S.1 25 p = 0) ∧ (0 < S.1 24 p → bt (S.1 25 p) (S.1 24 p - 1) = 0)
def Ic (S : Sx) : Prop := Iv S ∧ Hp S ∧ Fn S ∧ Cv S ∧ ∀ t, S.1 30 t ≤ S.1 10 t
theorem plSt_ne {S : Sx} {p nd g : Nat} (h1 : g ≠ 24) (h2 : g ≠ 23) : (plSt S p nd).1 g = S.1 g := by unfold plSt; rw [setN_ne h1, setN_ne h2]
theorem plSt_24 {S : Sx} {p nd q : Nat} : (plSt S p nd).1 24 q = if q = p then nd + 1 else S.1 24 q := by
  unfold plSt
  rw [setN_at]
  by_cases h : q = p
  · rw [if_pos ⟨rfl, h⟩, if_pos h]
  · rw [if_neg (fun z => h z.2), if_neg h, setN_ne (by decide)]
theorem Ic_pl {S : Sx} {p nd : Nat} (h : Ic S) (hz : S.1 24 p = 0) (hnd : nd < S.1 0 0) (hTu : S.1 23 0 < 1073741824) : Ic (plSt S p nd) := by
  obtain ⟨⟨hB, hn, hat, hln, hrh⟩, hH, hF, hC, hx⟩ := h
  have b0 := B_nodes hB 0
  have e : ∀ g, g ≠ 24 → g ≠ 23 → (plSt S p nd).1 g = S.1 g := fun g h1 h2 => plSt_ne h1 h2
  have e0 := e 0 (by decide) (by decide)
  have e3 := e 3 (by decide) (by decide)
  have e5 := e 5 (by decide) (by decide)
  refine ⟨⟨Bd_setN (Bd_setN hB (show _ ≤ 1073741824 by split <;> omega)) (show _ ≤ 4 by omega), by rw [e0]; exact hn, fun u => by rw [e0, e 29 (by decide) (by decide)]; exact hat u, fun q => ?_, fun a c h1 h2 h3 => ?_⟩, Hp_of hH e0 e3 e5 (e 6 (by decide) (by decide)), ?_, fun q => ?_, fun t => by rw [e 30 (by decide) (by decide), e 10 (by decide) (by decide)]; exact hx t⟩
  · rw [plSt_24, e0]
    split
    · omega
    · exact hln q
  · rw [rhS_eq e0 e3 e5]
    rw [e0] at h1 h2
    rw [e5] at h3
    exact hrh a c h1 h2 h3
  · intro q k hk
    rw [e 28 (by decide) (by decide), e0]
    rw [e 27 (by decide) (by decide)] at hk
    exact hF q k hk
  · rw [e 8 (by decide) (by decide), e 25 (by decide) (by decide), plSt_24]
    obtain ⟨c1, c2, c3⟩ := hC q
    by_cases h : q = p
    · subst h
      have z := c2 hz
      rw [z]
      exact ⟨fun _ => rfl, fun _ => rfl, fun _ => bt_0 _⟩
    · rw [if_neg h]; exact ⟨c1, c2, c3⟩
theorem e_cbr62 {b : Nat} {σ0 σ : Mm} {S : Sx} {Tf : Nat → Nat} {A : Nat → Int32} {K : Option Value → Mm → Prop} (hb : mch b) (hQ : Cq b σ0 S Tf A σ) (hI : Iv S) (hC : Cv S) {a p c : Nat} (h1 : A 1 = nI a) (h3 : A 3 = nI c) (hp : p < S.1 7 0) (ha : a < S.1 0 0) (hc : c < 4) (hl : 0 < S.1 24 p) (hK : ∀ τ, Cq b σ0 S Tf (upd A 6 (nI (whS S p c a))) τ → K (some (.int (bI (rcS S a (whS S p c a))))) τ) : G W0 mX3_canBeReached K 62 [some (.ref b), some (.ref (b + 18 + 3 * p))] [] σ := by
  obtain ⟨hB, hn, hat, hln, hrh⟩ := hI
  have bP := B_P hB 0
  have h20 : p < 20 := by omega
  have b0 := B_nodes hB 0
  have hR := hQ.1
  have hwl : whS S p c a < S.1 0 0 := whS_lt hn ha (hln p)
  refine gs_aload_n dX3_canBeReached_62 rfl rfl ?_
  refine g_getR dX3_canBeReached_63 fX3_28 (kMa hb) (by decide) (rMa_attempt hb) ?_
  refine gs_aload_n dX3_canBeReached_66 rfl rfl ?_
  refine gs_aload_n dX3_canBeReached_67 rfl rfl ?_
  refine g_getR dX3_canBeReached_68 fX3_28 (kMa hb) (by decide) (rMa_attempt hb) ?_
  refine g_getI dX3_canBeReached_71 fX3_220 (kMa_attempt hb) (by decide) (show _ = nI a from by rw [hQ.2.2]; exact h1) ?_
  refine gs_aload_n dX3_canBeReached_74 rfl rfl ?_
  refine g_getR dX3_canBeReached_75 fX3_28 (kMa hb) (by decide) (rMa_attempt hb) ?_
  refine g_getI dX3_canBeReached_78 fX3_252 (kMa_attempt hb) (by decide) (show _ = nI c from by rw [hQ.2.2]; exact h3) ?_
  refine gs_aload_n dX3_canBeReached_81 rfl rfl ?_
  refine g_getR dX3_canBeReached_82 fX3_55 (kMa hb) (by decide) (rMa_board hb) ?_
  refine g_getI dX3_canBeReached_85 fX3_167 bdW0.1 (by decide) (C_nodes hR) ?_
  refine g_cVI3 dX3_canBeReached_88 vX3_259 (by decide) (kPg hb h20) (by decide) (Nat.le_of_ble_eq_true rfl) (c_whereFor hb hR hB hp (by omega) hc hn hl (hC p).1) ?_
  rintro _ σ ⟨rfl, e9⟩
  subst e9
  refine gc_putI dX3_canBeReached_91 pX3_221 (kMa_attempt hb) (by decide) (Or.inl rfl) (hQ.putA hb hB) (fun σ hQ => ?_)
  have hR := hQ.1
  refine gs_aload_n dX3_canBeReached_94 rfl rfl ?_
  refine g_getR dX3_canBeReached_95 fX3_55 (kMa hb) (by decide) (rMa_board hb) ?_
  refine gs_aload_n dX3_canBeReached_98 rfl rfl ?_
  refine g_getR dX3_canBeReached_99 fX3_28 (kMa hb) (by decide) (rMa_attempt hb) ?_
  refine g_getI dX3_canBeReached_102 fX3_220 (kMa_attempt hb) (by decide) (show _ = nI a from by rw [hQ.2.2, upd_n _ _ (by decide)]; exact h1) ?_
  refine gs_aload_n dX3_canBeReached_105 rfl rfl ?_
  refine g_getR dX3_canBeReached_106 fX3_28 (kMa hb) (by decide) (rMa_attempt hb) ?_
  refine g_getI dX3_canBeReached_109 fX3_221 (kMa_attempt hb) (by decide) (show _ = nI (whS S p c a) from by rw [hQ.2.2, upd_e]) ?_
  refine g_cVI2 dX3_canBeReached_112 vX3_263 (by decide) bdW0.1 (by decide) (Nat.le_of_ble_eq_true rfl) (c_reaches hb hR hB ha hwl) ?_
  rintro _ σ ⟨rfl, e9⟩
  subst e9
  refine g_zreturn dX3_canBeReached_115 rfl (by first | exact bI_01 _ | decide) ?_
  exact hK _ hQ
theorem lzC_z {v : Nat} (h : v ≤ 4) (e : lzC v = -1) : v = 0 := by
  have h0 : ∀ v, v < 5 → lzC v = -1 → v = 0 := by decide +kernel
  exact h0 v (by omega) e
theorem c_canBeReached {b : Nat} {σ : Mm} {S : Sx} {Tf : Nat → Nat} (hb : mch b) (hR : RepC b σ S Tf) (hB : Bd S) (hT : Tk S Tf) (hI : Ic S) {A : Nat → Int32} (hA : σ.1 (b + 5) = A) {a p c : Nat} (h1 : A 1 = nI a) (h2 : A 2 = nI p) (h3 : A 3 = nI c) (ha : a < S.1 0 0) (hp30 : p ≤ 30) (hc7 : c ≤ 7) (hTu : S.1 23 0 < 1073741824) : RI W0 mX3_canBeReached [.ref b] σ (fun r τ => ∃ (S1 : Sx) (Tf1 : Nat → Nat) (A1 : Nat → Int32) (rb : Bool), r = bI rb ∧ Cq b σ S1 Tf1 A1 τ ∧ Tk S1 Tf1 ∧ (S1 = S ∨ ∃ nd, S.1 24 p = 0 ∧ plO S p a = some nd ∧ S1 = plSt S p nd) ∧ (rb = false → ∀ t x, tryA S t a x p c = flS S1 t) ∧ (rb = true → p < S.1 7 0 ∧ c < 4 ∧ 0 < S1.1 24 p ∧ rcS S1 a (whS S1 p c a) = true ∧ A1 6 = nI (whS S1 p c a) ∧ (∀ k, k ≠ 6 → A1 k = A k) ∧ ∀ t x, tryA S t a x p c = rdyS S1 t a x p c)) := by
  have hn := hI.1.2.1
  have bP := B_P hB 0
  have b24 := B_lies hB p
  have hQ : Cq b σ S Tf A σ := ⟨hR, frC.rf b σ, hA⟩
  refine G.met (by decide) (Nat.le_of_ble_eq_true rfl) ?_
  show G _ _ _ 0 [some (.ref b), none] [] σ
  refine gs_aload_n dX3_canBeReached_0 rfl rfl ?_
  refine gs_aload_n dX3_canBeReached_1 rfl rfl ?_
  refine g_getR dX3_canBeReached_2 fX3_28 (kMa hb) (by decide) (rMa_attempt hb) ?_
  refine g_getI dX3_canBeReached_5 fX3_231 (kMa_attempt hb) (by decide) (show _ = nI p from by rw [hQ.2.2]; exact h2) ?_
  refine g_cVI1 dX3_canBeReached_8 vX3_249 (by decide) (kMa hb) (by decide) (Nat.le_of_ble_eq_true rfl) (c_hasPage hb hR hB _) ?_
  rintro _ σ ⟨rfl, e9⟩
  subst e9
  rw [inN_nI (by omega)]
  refine gb_if_eq (tgt := 29) dX3_canBeReached_11 (by decide) (fun c11 => ?_) (fun c11 => ?_)
  · refine g_iconst (v := nI 0) dX3_canBeReached_29 (by decide) ?_
    refine g_zreturn dX3_canBeReached_30 rfl (by first | exact bI_01 _ | decide) ?_
    have e : S.1 7 0 ≤ p := by have := of_decide_eq_false c11; omega
    exact ⟨_, rfl, S, Tf, A, false, rfl, hQ, hT, Or.inl rfl, fun _ t x => by rw [tryA, if_pos (Or.inl e)], fun z => by cases z⟩
  · refine gs_aload_n dX3_canBeReached_14 rfl rfl ?_
    refine g_getR dX3_canBeReached_15 fX3_28 (kMa hb) (by decide) (rMa_attempt hb) ?_
    refine g_getI dX3_canBeReached_18 fX3_252 (kMa_attempt hb) (by decide) (show _ = nI c from by rw [hQ.2.2]; exact h3) ?_
    refine g_iconst (v := nI 0) dX3_canBeReached_21 (by decide) ?_
    refine g_iconst (v := nI 3) dX3_canBeReached_22 (by decide) ?_
    refine g_cNI3 dX3_canBeReached_23 vX3_138 (by decide) (Nat.le_of_ble_eq_true rfl) (s_within _ _ _) ?_
    rintro _ σ ⟨rfl, e9⟩
    subst e9
    rw [within_c (by decide) (by decide)]
    refine gb_if_ne (tgt := 31) dX3_canBeReached_26 (by decide) (fun c26 => ?_) (fun c26 => ?_)
    · have hp : p < S.1 7 0 := of_decide_eq_true c11
      have h20 : p < 20 := by omega
      have hc4 : ¬ 3 < c := by
        have := of_decide_eq_true c26
        rw [toInt_nI (show c ≤ 300 by omega)] at this
        omega
      refine gs_aload_n dX3_canBeReached_31 rfl rfl ?_
      refine g_getR dX3_canBeReached_32 fX3_34 (kMa hb) (by decide) (rMa_pages hb) ?_
      refine gs_aload_n dX3_canBeReached_35 rfl rfl ?_
      refine g_getR dX3_canBeReached_36 fX3_28 (kMa hb) (by decide) (rMa_attempt hb) ?_
      refine g_getI dX3_canBeReached_39 fX3_231 (kMa_attempt hb) (by decide) (show _ = nI p from by rw [hQ.2.2]; exact h2) ?_
      refine g_aald24 dX3_canBeReached_42 (kMa_pages hb) h20 (rPs hb h20) ?_
      refine gs_astore_n (ls' := [_, _]) dX3_canBeReached_43 rfl rfl rfl ?_
      refine gs_aload_n dX3_canBeReached_44 rfl rfl ?_
      refine g_getI dX3_canBeReached_45 fX3_170 (kPg hb h20) (by decide) (C_lies hR h20 hp) ?_
      refine g_iconst (v := -1) dX3_canBeReached_48 (by decide) ?_
      refine g_icmp_ne (tgt := 62) dX3_canBeReached_49 (by decide) (fun c49 => ?_) (fun c49 => ?_)
      · have hl1 : 0 < S.1 24 p := by
          rcases Nat.eq_zero_or_pos (S.1 24 p) with e | e
          · exact absurd (by rw [e]; rfl) c49
          · exact e
        have etr : ∀ t x, tryA S t a x p c = rdyS S t a x p c := fun t x => by rw [tryA, if_neg (by omega), if_neg (by omega)]
        refine e_cbr62 hb hQ hI.1 hI.2.2.2.1 h1 h3 hp ha (by omega) hl1 (fun τ hτ => ⟨_, rfl, S, Tf, _, _, rfl, hτ, hT, Or.inl rfl, fun e t x => by rw [etr, rdyS, if_pos e], fun e => ⟨hp, by omega, hl1, e, upd_e _ _ _, fun k hk => upd_n _ _ hk, etr⟩⟩)
      · have hz : S.1 24 p = 0 := lzC_z b24 c49
        refine gs_aload_n dX3_canBeReached_52 rfl rfl ?_
        refine gs_aload_n dX3_canBeReached_53 rfl rfl ?_
        refine g_cVI1 dX3_canBeReached_54 vX3_255 (by decide) (kMa hb) (by decide) (Nat.le_of_ble_eq_true rfl) (c_placeByRule hb hR hB hT hn hp ha (by rw [hQ.2.2]; exact h1) hTu) ?_
        intro r σ h9
        obtain ⟨rfl, hQ9⟩ := pb_norm hR h9
        rw [hQ.2.2] at hQ9
        have hQ := hQ.tr hQ9
        have hR := hQ.1
        refine gb_if_ne (tgt := 62) dX3_canBeReached_57 (by decide) (fun c57 => ?_) (fun c57 => ?_)
        · obtain ⟨nd, eo⟩ : ∃ nd, plO S p a = some nd := by
            cases hh : plO S p a with
            | none => rw [hh] at c57; cases c57
            | some nd => exact ⟨nd, rfl⟩
          have hnd := plO_lt hn ha eo
          have eS : pbS S p a = plSt S p nd := by rw [pbS, eo]
          have eT : pbT S Tf p a = layT S Tf p nd := by rw [pbT, eo]
          rw [eS, eT] at hQ
          have hI1 := Ic_pl (p := p) hI hz hnd hTu
          have hT1 : Tk (plSt S p nd) (layT S Tf p nd) := Tk_lay hT hp hz ((hI.2.2.2.1 p).2.1 hz)
          have hl1 : 0 < (plSt S p nd).1 24 p := by rw [plSt_24, if_pos rfl]; omega
          have etr : ∀ t x, tryA S t a x p c = rdyS (plSt S p nd) t a x p c := fun t x => by rw [tryA, if_neg (by omega), if_pos hz, eo]
          refine e_cbr62 hb hQ hI1.1 hI1.2.2.2.1 h1 h3 (by rw [plSt_ne (by decide) (by decide)]; exact hp) (by rw [plSt_ne (by decide) (by decide)]; exact ha) (by omega) hl1 (fun τ hτ => ⟨_, rfl, plSt S p nd, layT S Tf p nd, _, _, rfl, hτ, hT1, Or.inr ⟨nd, hz, eo, rfl⟩, fun e t x => by rw [etr, rdyS, if_pos e], fun e => ⟨hp, by omega, hl1, e, upd_e _ _ _, fun k hk => upd_n _ _ hk, etr⟩⟩)
        · refine g_iconst (v := nI 0) dX3_canBeReached_60 (by decide) ?_
          refine g_zreturn dX3_canBeReached_61 rfl (by first | exact bI_01 _ | decide) ?_
          have eo : plO S p a = none := by
            cases hh : plO S p a with
            | none => rfl
            | some nd => rw [hh] at c57; cases c57
          have eS : pbS S p a = S := by rw [pbS, eo]
          have eT : pbT S Tf p a = Tf := by rw [pbT, eo]
          rw [eS, eT] at hQ
          exact ⟨_, rfl, S, Tf, _, false, rfl, hQ, hT, Or.inl rfl, fun _ t x => by rw [tryA, if_neg (by omega), if_pos hz, eo], fun z => by cases z⟩
    · refine g_iconst (v := nI 0) dX3_canBeReached_29 (by decide) ?_
      refine g_zreturn dX3_canBeReached_30 rfl (by first | exact bI_01 _ | decide) ?_
      have e : 3 < c := by have := of_decide_eq_false c26; rw [toInt_nI (by omega)] at this; omega
      exact ⟨_, rfl, S, Tf, A, false, rfl, hQ, hT, Or.inl rfl, fun _ t x => by rw [tryA, if_pos (Or.inr e)], fun z => by cases z⟩
