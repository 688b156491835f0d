/-! The reference: oneTick. -/
def lnL (S : Sx) : Nat → Sx
  | 0 => S
  | k + 1 => setN (lnL S k) 33 k 0
def trL (S : Sx) : Nat → Sx
  | 0 => S
  | t + 1 => setN (trL S t) 38 t 0
def svS (a : Nat) : Nat → Sx → Sx
  | 0, S => S
  | k + 1, S => match fsS S a (S.1 9 0) with
    | none => S
    | some t => if uwS S a (S.1 9 0) < S.1 1 0 then svS a k (tryS (setN S 38 t 1) t) else S
def ndL (S : Sx) : Nat → Sx
  | 0 => S
  | a + 1 => svS a 10 (ndL S a)
def otS (S : Sx) : Sx := finS (ndL (trL (lnL S 16) (S.1 9 0)) (S.1 0 0))
def utL (S : Sx) : Nat → Nat
  | 0 => 0
  | t + 1 => utL S t + (if S.1 38 t = 0 then 1 else 0)
theorem utL_le (S : Sx) (t : Nat) : utL S t ≤ t := by
  induction t with
  | zero => exact Nat.le_refl _
  | succ t ih => simp only [utL]; split <;> omega
theorem fsS_can {S : Sx} {a : Nat} : ∀ n t, fsS S a n = some t → canS S a t = true := by
  intro n
  induction n with
  | zero => intro t h; cases h
  | succ n ih =>
    intro t h
    simp only [fsS] at h
    split at h
    · next q => cases h; exact q.1
    · exact ih t h
theorem canS_spec {S : Sx} {a t : Nat} (h : canS S a t = true) : S.1 29 t = a ∧ rdS S t = true ∧ S.1 38 t = 0 := by
  simp only [canS, Bool.and_eq_true, decide_eq_true_eq] at h
  exact h
theorem rdS_spec {S : Sx} {t : Nat} (h : rdS S t = true) : S.1 32 t = 0 ∧ S.1 31 t = 0 ∧ S.1 30 t < S.1 10 t := by
  simp only [rdS, Bool.and_eq_true, decide_eq_true_eq] at h
  exact h
theorem utL_pos {S : Sx} {t : Nat} (h : S.1 38 t = 0) : ∀ n, t < n → 0 < utL S n := by
  intro n
  induction n with
  | zero => intro q; omega
  | succ n ih =>
    intro q
    simp only [utL]
    by_cases e : t = n
    · subst e; rw [if_pos h]; omega
    · have := ih (by omega); omega
theorem utL_set {S : Sx} {t : Nat} (h : S.1 38 t = 0) : ∀ n, (n ≤ t → utL (setN S 38 t 1) n = utL S n) ∧ (t < n → utL (setN S 38 t 1) n + 1 = utL S n) := by
  intro n
  induction n with
  | zero => exact ⟨fun _ => rfl, fun q => by omega⟩
  | succ n ih =>
    refine ⟨fun q => ?_, fun q => ?_⟩
    · simp only [utL]
      have e : (setN S 38 t 1).1 38 n = S.1 38 n := by rw [setN_at, if_neg (by omega)]
      rw [ih.1 (by omega), e]
    · simp only [utL]
      by_cases e : t = n
      · subst e
        have e : (setN S 38 t 1).1 38 t = 1 := by rw [setN_at, if_pos ⟨rfl, rfl⟩]
        rw [ih.1 (Nat.le_refl _), e, if_neg (by decide), if_pos h]
      · have := ih.2 (by omega)
        have e : (setN S 38 t 1).1 38 n = S.1 38 n := by rw [setN_at, if_neg (by omega)]
        rw [e]
        omega
theorem utL_eq {S S' : Sx} (h : S'.1 38 = S.1 38) (n : Nat) : utL S' n = utL S n := by
  induction n with
  | zero => rfl
  | succ n ih => simp only [utL]; rw [ih, h]
theorem tryS_34 {S : Sx} {t : Nat} (h : S.1 34 0 = S.1 39 0) : (tryS S t).1 34 0 = S.1 34 0 := by
  have hgo : ∀ (S : Sx) (a x p c place : Nat), S.1 34 0 = S.1 39 0 → (goS S t a x p c place).1 34 0 = S.1 34 0 := by
    intro S a x p c place h
    unfold goS enS ntS
    have e1 : ∀ g, g ≠ 30 → g ≠ 31 → g ≠ 24 → g ≠ 25 → g ≠ 27 → g ≠ 28 → g ≠ 26 → g ≠ 33 → ∀ cost, (blS (cqS (acS (fdS (ulS place 3 S a) p a) t p c x) p a x) t p a cost).1 g = S.1 g := by
      intro g h1 h2 h3 h4 h5 h6 h7 h8 cost
      rw [blS_ne h1 h2, cqS_ne h3 h4, acS_1, fdS_ne h3 h5 h6 h7, ulS_ne h8]
    rw [if_pos (by rw [e1 34 (by decide) (by decide) (by decide) (by decide) (by decide) (by decide) (by decide) (by decide), e1 39 (by decide) (by decide) (by decide) (by decide) (by decide) (by decide) (by decide) (by decide)]; exact h), e1 34 (by decide) (by decide) (by decide) (by decide) (by decide) (by decide) (by decide) (by decide)]
  have hrd : ∀ (S : Sx) (a x p c : Nat), S.1 34 0 = S.1 39 0 → (rdyS S t a x p c).1 34 0 = S.1 34 0 := by
    intro S a x p c h
    unfold rdyS
    split
    · unfold flS; rw [setV_1, setN_ne (by decide)]
    · split
      · rfl
      · exact hgo _ _ _ _ _ _ h
  unfold tryS tryA
  split
  · unfold flS; rw [setV_1, setN_ne (by decide)]
  · split
    · split
      · unfold flS; rw [setV_1, setN_ne (by decide)]
      · exact hrd _ _ _ _ _ h
    · exact hrd _ _ _ _ _ h
/-- what holds within a tick, with j tries left -/
def Tq (w : Nat) (S : Sx) (j : Nat) : Prop := Iv S ∧ hCap w S ∧ (∀ i, S.1 33 i + 3 * j ≤ 900) ∧ S.1 23 0 + j < 1073741824
theorem hCap.c {w : Nat} {S : Sx} (h : hCap w S) (hw : w < 2) : S.1 34 0 = 300 → S.1 39 0 = 300 := by
  intro e
  have : w = 0 ∨ w = 1 := by omega
  rcases this with q | q
  · exact h.1 q
  · rw [← h.2 q]; exact e
theorem Iv_set38 {S : Sx} {t v : Nat} (hI : Iv S) (hv : v ≤ 1) : Iv (setN S 38 t v) := by
  obtain ⟨hB, hn, hat, hln, hrh⟩ := hI
  refine ⟨Bd_setN hB hv, hn, hat, hln, fun a b h1 h2 h3 => (rhS_eq (S := S) (setN_ne (by decide)) (setN_ne (by decide)) (setN_ne (by decide)) b 3 a).mpr (hrh a b h1 h2 h3)⟩
theorem Tq.step {w : Nat} {S : Sx} {j t : Nat} (hw : w < 2) (h : Tq w S (j + 1)) (hnx : S.1 30 t < 60) : Tq w (tryS (setN S 38 t 1) t) j := by
  obtain ⟨hI, hcap, hL, hT⟩ := h
  have hI1 : Iv (setN S 38 t 1) := Iv_set38 hI (Nat.le_refl _)
  have hcap1 : hCap w (setN S 38 t 1) := hcap
  refine ⟨hI1.try (fun i => ?_) hnx (hcap1.c hw) (show S.1 23 0 < _ by omega), ⟨fun e => ?_, fun e => ?_⟩, fun i => ?_, ?_⟩
  · show S.1 33 i ≤ 900; have := hL i; omega
  · rw [tryS_ne (g := 39) rfl]; exact hcap.1 e
  · rw [tryS_34 (hcap1.2 e), tryS_ne (g := 39) rfl]; exact hcap1.2 e
  · have h1 := tryS_33 (S := setN S 38 t 1) (t := t) (i := i)
    have h2 := hL i
    have h3 : (setN S 38 t 1).1 33 i = S.1 33 i := rfl
    omega
  · have h1 := tryS_23 (S := setN S 38 t 1) (t := t)
    have h3 : (setN S 38 t 1).1 23 0 = S.1 23 0 := rfl
    omega
theorem l_serve {w : Nat} {σ0 : Mm} {K : Option Value → Mm → Prop} {a : Nat} (ha : a < 4) : ∀ k S σ, Tq w S k → utL S (S.1 9 0) ≤ k → Mw w σ0 S σ → (∀ τ, Mw w σ0 (svS a k S) τ → G W0 mX12_oneTick K 121 [some (.ref 258), some (.int (nI a)), none] [] τ) → G W0 mX12_oneTick K 76 [some (.ref 258), some (.int (nI a)), some (.int (crI (fsS S a (S.1 9 0))))] [] σ := by
  intro k
  induction k with
  | zero =>
    intro S σ hT hu hW hX
    have hM := hW.1
    have hC0 := hW.2.1
    have hw := hC0.1
    cases hf : fsS S a (S.1 9 0) with
    | none =>
      show G _ _ _ _ [_, _, some (.int (-1))] _ _
      refine gs_iload_n dX12_oneTick_76 rfl rfl ?_
      refine rt_if_lt (tgt := 121) dX12_oneTick_77 (by decide) (by decide) ?_
      refine G.drop 2 (ls' := [_, _, none]) rfl ?_
      exact hX _ hW
    | some t =>
      have := utL_pos (canS_spec (fsS_can _ _ hf)).2.2 (S.1 9 0) (fsS_lt _ _ hf)
      omega
  | succ k ih =>
    intro S σ hT hu hW hX
    have hM := hW.1
    have hC0 := hW.2.1
    have hw := hC0.1
    have hB := hT.1.1
    have b0 := B_T hB 0
    have b1 := B_proc hB 0
    have b2 := uwS_le S a (S.1 9 0)
    cases hf : fsS S a (S.1 9 0) with
    | none =>
      show G _ _ _ _ [_, _, some (.int (-1))] _ _
      refine gs_iload_n dX12_oneTick_76 rfl rfl ?_
      refine rt_if_lt (tgt := 121) dX12_oneTick_77 (by decide) (by decide) ?_
      refine G.drop 2 (ls' := [_, _, none]) rfl ?_
      exact hX _ (by rw [svS, hf]; exact hW)
    | some t =>
      have htl := fsS_lt _ _ hf
      obtain ⟨hc1, hc2, hc3⟩ := canS_spec (fsS_can _ _ hf)
      have hr := rdS_spec hc2
      have b3 := B_told hB t
      have hQ := Mq.rf hM hC0
      have hT2 := hT.step (t := t) hw (by omega)
      have e9 : (tryS (setN S 38 t 1) t).1 9 = S.1 9 := by rw [tryS_ne rfl]; rfl
      have hu2 : utL (tryS (setN S 38 t 1) t) ((tryS (setN S 38 t 1) t).1 9 0) ≤ k := by
        rw [e9, utL_eq (tryS_ne rfl)]
        have := (utL_set hc3 (S.1 9 0)).2 htl
        omega
      have hI1 : Iv (setN S 38 t 1) := Iv_set38 hT.1 (Nat.le_refl _)
      show G _ _ _ _ [_, _, some (.int (nI t))] _ _
      refine gs_iload_n dX12_oneTick_76 rfl rfl ?_
      refine gf_if_lt (tgt := 121) dX12_oneTick_77 (by decide) (by omega) ?_
      refine gs_aload_n dX12_oneTick_80 rfl rfl ?_
      refine gs_iload_n dX12_oneTick_81 rfl rfl ?_
      refine g_cVI1 dX12_oneTick_82 vX12_321 (by decide) kwM (by decide) (Nat.le_of_ble_eq_true rfl) (s_underWay hM hB hC0 ha) ?_
      rintro _ σ ⟨rfl, e8⟩
      subst e8
      refine gs_aload_n dX12_oneTick_85 rfl rfl ?_
      refine g_getI dX12_oneTick_86 fX12_185 kwM (by decide) (M_proc hM) ?_
      refine gn_icmp_ge (tgt := 121) dX12_oneTick_89 (by decide) (by omega) (by omega) (fun c89 => ?_) (fun c89 => ?_)
      · refine G.drop 2 (ls' := [_, _, none]) rfl ?_
        exact hX _ (by rw [svS, hf]; show Mw w σ0 (if _ then _ else _) _; rw [if_neg (by omega)]; exact hW)
      · refine gs_aload_n dX12_oneTick_92 rfl rfl ?_
        refine g_getR dX12_oneTick_93 fX12_130 kwM (by decide) rM_tried ?_
        refine g_bipush (v := nI 10) dX12_oneTick_96 (by decide) ?_
        refine gs_aload_n dX12_oneTick_98 rfl rfl ?_
        refine g_getI dX12_oneTick_99 fX12_243 kwM (by decide) hC0.2 ?_
        refine g_imul dX12_oneTick_102 (by first | exact pk_mul _ _ | rfl) ?_
        refine gs_iload_n dX12_oneTick_103 rfl rfl ?_
        refine g_iadd dX12_oneTick_104 (by first | exact nI_add _ _ | rfl) ?_
        refine g_iconst (v := nI 1) dX12_oneTick_105 (by decide) ?_
        refine gq_zast dX12_oneTick_106 kw_tried (by omega) (by first | exact bI_01 _ | decide) (Q_tried hQ (by omega)) (fun σ hQ => ?_)
        have hM := hQ.1
        have hC0 := hQ.2.1
        refine gs_aload_n dX12_oneTick_107 rfl rfl ?_
        refine gs_iload_n dX12_oneTick_108 rfl rfl ?_
        refine g_cVV1 dX12_oneTick_109 vX12_324 (by decide) kwM (by decide) (Nat.le_of_ble_eq_true rfl) (s_tryNext hM hI1.1 hC0 hI1 hT.2.1 (by omega) (fun i => by show S.1 33 i ≤ 900; have := hT.2.2.1 i; omega) (show S.1 30 t < 60 by omega) (show S.1 23 0 < _ by have := hT.2.2.2; omega)) ?_
        rintro σ hW2
        have hM := hW2.1
        have hC0 := hW2.2.1
        refine gs_aload_n dX12_oneTick_112 rfl rfl ?_
        refine gs_iload_n dX12_oneTick_113 rfl rfl ?_
        refine g_cVI1 dX12_oneTick_114 vX12_318 (by decide) kwM (by decide) (Nat.le_of_ble_eq_true rfl) (s_first hM hT2.1.1 hC0 ha) ?_
        rintro _ σ ⟨rfl, e8⟩
        subst e8
        refine gs_istore_n (ls' := [_, _, _]) dX12_oneTick_117 rfl rfl rfl ?_
        refine g_goto (tgt := 76) dX12_oneTick_118 (by decide) ?_
        exact ih _ _ hT2 hu2 ((hW.tr hQ.weak).tr hW2) (fun τ hτ => hX τ (by rw [svS, hf]; show Mw w σ0 (if _ then _ else _) _; rw [if_pos c89]; exact hτ))
theorem svS_Tq {w a : Nat} (hw : w < 2) : ∀ k S, Tq w S k → ∃ j, Tq w (svS a k S) j ∧ utL (svS a k S) ((svS a k S).1 9 0) ≤ utL S (S.1 9 0) ∧ k ≤ j + (utL S (S.1 9 0) - utL (svS a k S) ((svS a k S).1 9 0)) ∧ (∀ g, tg g = false → g ≠ 38 → (svS a k S).1 g = S.1 g) := by
  intro k
  induction k with
  | zero => intro S h; exact ⟨0, h, Nat.le_refl _, by omega, fun _ _ _ => rfl⟩
  | succ k ih =>
    intro S h
    rw [svS]
    cases hf : fsS S a (S.1 9 0) with
    | none => exact ⟨k + 1, h, Nat.le_refl _, by omega, fun _ _ _ => rfl⟩
    | some t =>
      dsimp only
      by_cases hu : uwS S a (S.1 9 0) < S.1 1 0
      · rw [if_pos hu]
        have htl := fsS_lt _ _ hf
        obtain ⟨hc1, hc2, hc3⟩ := canS_spec (fsS_can _ _ hf)
        have hr := rdS_spec hc2
        have b3 := B_told h.1.1 t
        have hT2 := h.step (t := t) hw (by omega)
        have e9 : (tryS (setN S 38 t 1) t).1 9 = S.1 9 := by rw [tryS_ne rfl]; rfl
        have hu2 : utL (tryS (setN S 38 t 1) t) ((tryS (setN S 38 t 1) t).1 9 0) + 1 = utL S (S.1 9 0) := by
          rw [e9, utL_eq (tryS_ne rfl)]
          exact (utL_set hc3 (S.1 9 0)).2 htl
        obtain ⟨j, h1, h2, h3, h4⟩ := ih _ hT2
        refine ⟨j, h1, by omega, by omega, fun g hg h38 => ?_⟩
        rw [h4 g hg h38, tryS_ne hg, setN_ne h38]
      · rw [if_neg hu]
        exact ⟨k + 1, h, Nat.le_refl _, by omega, fun _ _ _ => rfl⟩
