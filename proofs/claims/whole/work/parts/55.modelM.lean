/-! The reference: oneTick, its loops; run. -/
theorem lnL_ne {S : Sx} {g : Nat} (h : g ≠ 33) (k : Nat) : (lnL S k).1 g = S.1 g := by
  induction k with
  | zero => rfl
  | succ k ih => rw [lnL, setN_ne h, ih]
theorem lnL_2 {S : Sx} (k : Nat) : (lnL S k).2 = S.2 := by
  induction k with
  | zero => rfl
  | succ k ih => rw [lnL, setN_2, ih]
theorem lnL_33 {S : Sx} (i : Nat) (k : Nat) : (lnL S k).1 33 i = if i < k then 0 else S.1 33 i := by
  induction k with
  | zero => simp [lnL]
  | succ k ih =>
    rw [lnL, setN_at]
    by_cases h : i = k
    · subst h; simp
    · rw [if_neg (by omega), ih]
      by_cases h2 : i < k
      · rw [if_pos h2, if_pos (by omega)]
      · rw [if_neg h2, if_neg (by omega)]
theorem trL_ne {S : Sx} {g : Nat} (h : g ≠ 38) (k : Nat) : (trL S k).1 g = S.1 g := by
  induction k with
  | zero => rfl
  | succ k ih => rw [trL, setN_ne h, ih]
theorem trL_2 {S : Sx} (k : Nat) : (trL S k).2 = S.2 := by
  induction k with
  | zero => rfl
  | succ k ih => rw [trL, setN_2, ih]
theorem lnL_Bd {S : Sx} (hB : Bd S) (k : Nat) : Bd (lnL S k) := by
  induction k with
  | zero => exact hB
  | succ k ih => exact Bd_setN ih (by decide)
theorem trL_Bd {S : Sx} (hB : Bd S) (k : Nat) : Bd (trL S k) := by
  induction k with
  | zero => exact hB
  | succ k ih => exact Bd_setN ih (by decide)
theorem Iv_of {S S' : Sx} (hI : Iv S) (hB : Bd S') (h0 : S'.1 0 = S.1 0) (h3 : S'.1 3 = S.1 3) (h5 : S'.1 5 = S.1 5) (h29 : S'.1 29 = S.1 29) (h24 : S'.1 24 = S.1 24) : Iv S' := by
  obtain ⟨_, hn, hat, hln, hrh⟩ := hI
  refine ⟨hB, by rw [h0]; exact hn, fun t => by rw [h0, h29]; exact hat t, fun p => by rw [h0, h24]; exact hln p, fun a b h1 h2 hh => ?_⟩
  rw [rhS_eq h0 h3 h5]
  rw [h0] at h1 h2
  rw [h5] at hh
  exact hrh a b h1 h2 hh
/-- the start of a tick -/
def tk0 (S : Sx) : Sx := trL (lnL S 16) (S.1 9 0)
/-- between ticks: no link is in use beyond the first sixteen places -/
def Lz (S : Sx) : Prop := ∀ i, 16 ≤ i → S.1 33 i = 0
theorem tk0_Tq {w : Nat} {S : Sx} (hI : Iv S) (hc : hCap w S) (hz : Lz S) (ht : S.1 23 0 + 100 < 1073741824) : Tq w (tk0 S) 100 := by
  have e : ∀ g, g ≠ 33 → g ≠ 38 → (tk0 S).1 g = S.1 g := fun g h1 h2 => by unfold tk0; rw [trL_ne h2, lnL_ne h1]
  refine ⟨Iv_of hI (trL_Bd (lnL_Bd hI.1 _) _) (e 0 (by decide) (by decide)) (e 3 (by decide) (by decide)) (e 5 (by decide) (by decide)) (e 29 (by decide) (by decide)) (e 24 (by decide) (by decide)), hc.of (e 39 (by decide) (by decide)) (e 34 (by decide) (by decide)), fun i => ?_, by rw [e 23 (by decide) (by decide)]; exact ht⟩
  unfold tk0
  rw [trL_ne (by decide), lnL_33]
  split
  · omega
  · rw [hz i (by omega)]; omega
theorem Tq.mono {w : Nat} {S : Sx} {j k : Nat} (h : Tq w S j) (hk : k ≤ j) : Tq w S k := ⟨h.1, h.2.1, fun i => by have := h.2.2.1 i; omega, by have := h.2.2.2; omega⟩
theorem ndL_Tq {w : Nat} (hw : w < 2) {S : Sx} (h : Tq w S 100) : ∀ a, a ≤ 4 → Tq w (ndL S a) (100 - 10 * a) ∧ (∀ g, tg g = false → g ≠ 38 → (ndL S a).1 g = S.1 g) := by
  intro a
  induction a with
  | zero => intro _; exact ⟨h, fun _ _ _ => rfl⟩
  | succ a ih =>
    intro ha
    obtain ⟨h1, h2⟩ := ih (by omega)
    have hk : Tq w (ndL S a) 10 := h1.mono (by omega)
    have hsv : ∀ k S, Tq w S (k + (90 - 10 * a)) → Tq w (svS a k S) (90 - 10 * a) ∧ (∀ g, tg g = false → g ≠ 38 → (svS a k S).1 g = S.1 g) := by
      intro k
      induction k with
      | zero => intro S h; exact ⟨h.mono (by omega), fun _ _ _ => rfl⟩
      | succ k ihk =>
        intro S h
        rw [svS]
        cases hf : fsS S a (S.1 9 0) with
        | none => exact ⟨h.mono (by omega), fun _ _ _ => rfl⟩
        | some t =>
          dsimp only
          by_cases hu : uwS S a (S.1 9 0) < S.1 1 0
          · rw [if_pos hu]
            obtain ⟨hc1, hc2, hc3⟩ := canS_spec (fsS_can _ _ hf)
            have hr := rdS_spec hc2
            have b3 := B_told h.1.1 t
            have hT2 : Tq w (tryS (setN S 38 t 1) t) (k + (90 - 10 * a)) := (h.mono (show k + (90 - 10 * a) + 1 ≤ _ by omega)).step hw (by omega)
            obtain ⟨q1, q2⟩ := ihk _ hT2
            exact ⟨q1, fun g hg h38 => by rw [q2 g hg h38, tryS_ne hg, setN_ne h38]⟩
          · rw [if_neg hu]
            exact ⟨h.mono (by omega), fun _ _ _ => rfl⟩
    obtain ⟨q1, q2⟩ := hsv 10 (ndL S a) (h1.mono (by omega))
    refine ⟨?_, fun g hg h38 => ?_⟩
    · show Tq w (svS a 10 (ndL S a)) _
      exact q1.mono (by omega)
    · show (svS a 10 (ndL S a)).1 g = _
      rw [q2 g hg h38, h2 g hg h38]
theorem l_tick1 {w : Nat} {σ0 : Mm} {S : Sx} {K : Option Value → Mm → Prop} (hX : ∀ σ, Mq w σ0 (lnL S 16) σ → G W0 mX12_oneTick K 29 [some (.ref 258), none, none] [] σ) : ∀ j k σ, k + j = 16 → Mq w σ0 (lnL S k) σ → G W0 mX12_oneTick K 2 [some (.ref 258), some (.int (nI k)), none] [] σ := by
  intro j
  induction j with
  | zero =>
    intro k σ hk hQ
    refine gs_iload_n dX12_oneTick_2 rfl rfl ?_
    refine g_bipush (v := nI 16) dX12_oneTick_3 (by decide) ?_
    refine gt_icmp_ge (tgt := 29) dX12_oneTick_5 (by decide) (by omega) (by omega) (by omega) ?_
    refine G.drop 1 (ls' := [_, none, _]) rfl ?_
    have e : k = 16 := by omega
    rw [e] at hQ
    exact hX _ hQ
  | succ j ih =>
    intro k σ hk hQ
    have hM := hQ.1
    have hC0 := hQ.2.1
    have hw := hC0.1
    refine gs_iload_n dX12_oneTick_2 rfl rfl ?_
    refine g_bipush (v := nI 16) dX12_oneTick_3 (by decide) ?_
    refine gf_icmp_ge (tgt := 29) dX12_oneTick_5 (by decide) (by omega) (by omega) (by omega) ?_
    refine gs_aload_n dX12_oneTick_8 rfl rfl ?_
    refine g_getR dX12_oneTick_9 fX12_136 kwM (by decide) rM_linkNow ?_
    refine g_bipush (v := nI 16) dX12_oneTick_12 (by decide) ?_
    refine gs_aload_n dX12_oneTick_14 rfl rfl ?_
    refine g_getI dX12_oneTick_15 fX12_243 kwM (by decide) hC0.2 ?_
    refine g_imul dX12_oneTick_18 (by first | exact pk_mul _ _ | rfl) ?_
    refine gs_iload_n dX12_oneTick_19 rfl rfl ?_
    refine g_iadd dX12_oneTick_20 (by first | exact nI_add _ _ | rfl) ?_
    refine g_iconst (v := nI 0) dX12_oneTick_21 (by decide) ?_
    refine gq_iast dX12_oneTick_22 kw_linkNow (by omega) (Q_linkNow hQ (by omega)) (fun σ hQ => ?_)
    have hM := hQ.1
    have hC0 := hQ.2.1
    refine gs_iinc (ls' := [_, _, _]) dX12_oneTick_23 rfl (nI_add _ 1) rfl rfl ?_
    refine g_goto (tgt := 2) dX12_oneTick_26 (by decide) ?_
    exact ih (k + 1) σ (by omega) hQ
theorem l_tick2 {w : Nat} {σ0 : Mm} {S : Sx} {K : Option Value → Mm → Prop} (hB : Bd S) (hX : ∀ σ, Mq w σ0 (trL S (S.1 9 0)) σ → G W0 mX12_oneTick K 60 [some (.ref 258), none, none] [] σ) : ∀ j t σ, t + j = S.1 9 0 → Mq w σ0 (trL S t) σ → G W0 mX12_oneTick K 31 [some (.ref 258), some (.int (nI t)), none] [] σ := by
  have b0 := B_T hB 0
  intro j
  induction j with
  | zero =>
    intro t σ ht hQ
    have hM := hQ.1
    refine gs_iload_n dX12_oneTick_31 rfl rfl ?_
    refine gs_aload_n dX12_oneTick_32 rfl rfl ?_
    refine g_getI dX12_oneTick_33 fX12_200 kwM (by decide) (show _ = nI (S.1 9 0) from (M_T hM).trans (by rw [trL_ne (g := 9) (by decide)])) ?_
    refine gt_icmp_ge (tgt := 60) dX12_oneTick_36 (by decide) (by omega) (by omega) (by omega) ?_
    refine G.drop 1 (ls' := [_, none, _]) rfl ?_
    have e : t = S.1 9 0 := by omega
    rw [e] at hQ
    exact hX _ hQ
  | succ j ih =>
    intro t σ ht hQ
    have hM := hQ.1
    have hC0 := hQ.2.1
    have hw := hC0.1
    refine gs_iload_n dX12_oneTick_31 rfl rfl ?_
    refine gs_aload_n dX12_oneTick_32 rfl rfl ?_
    refine g_getI dX12_oneTick_33 fX12_200 kwM (by decide) (show _ = nI (S.1 9 0) from (M_T hM).trans (by rw [trL_ne (g := 9) (by decide)])) ?_
    refine gf_icmp_ge (tgt := 60) dX12_oneTick_36 (by decide) (by omega) (by omega) (by omega) ?_
    refine gs_aload_n dX12_oneTick_39 rfl rfl ?_
    refine g_getR dX12_oneTick_40 fX12_130 kwM (by decide) rM_tried ?_
    refine g_bipush (v := nI 10) dX12_oneTick_43 (by decide) ?_
    refine gs_aload_n dX12_oneTick_45 rfl rfl ?_
    refine g_getI dX12_oneTick_46 fX12_243 kwM (by decide) hC0.2 ?_
    refine g_imul dX12_oneTick_49 (by first | exact pk_mul _ _ | rfl) ?_
    refine gs_iload_n dX12_oneTick_50 rfl rfl ?_
    refine g_iadd dX12_oneTick_51 (by first | exact nI_add _ _ | rfl) ?_
    refine g_iconst (v := nI 0) dX12_oneTick_52 (by decide) ?_
    refine gq_zast dX12_oneTick_53 kw_tried (by omega) (by first | exact bI_01 _ | decide) (Q_tried hQ (by omega)) (fun σ hQ => ?_)
    have hM := hQ.1
    have hC0 := hQ.2.1
    refine gs_iinc (ls' := [_, _, _]) dX12_oneTick_54 rfl (nI_add _ 1) rfl rfl ?_
    refine g_goto (tgt := 31) dX12_oneTick_57 (by decide) ?_
    exact ih (t + 1) σ (by omega) hQ
theorem l_tick3 {w : Nat} {σ0 : Mm} {S : Sx} {K : Option Value → Mm → Prop} (hT : Tq w S 100) (hX : ∀ σ, Mw w σ0 (ndL S (S.1 0 0)) σ → G W0 mX12_oneTick K 127 [some (.ref 258), none, none] [] σ) : ∀ j a σ, a + j = S.1 0 0 → Mw w σ0 (ndL S a) σ → G W0 mX12_oneTick K 62 [some (.ref 258), some (.int (nI a)), none] [] σ := by
  have b0 := B_nodes hT.1.1 0
  intro j
  induction j with
  | zero =>
    intro a σ ha hW
    have hM := hW.1
    have hw := hW.2.1.1
    have hTa := ndL_Tq hw hT a (by omega)
    refine gs_iload_n dX12_oneTick_62 rfl rfl ?_
    refine gs_aload_n dX12_oneTick_63 rfl rfl ?_
    refine g_getI dX12_oneTick_64 fX12_182 kwM (by decide) (show _ = nI (S.1 0 0) from (M_nodes hM).trans (by rw [hTa.2 0 rfl (by decide)])) ?_
    refine gt_icmp_ge (tgt := 127) dX12_oneTick_67 (by decide) (by omega) (by omega) (by omega) ?_
    refine G.drop 1 (ls' := [_, none, _]) rfl ?_
    have e : a = S.1 0 0 := by omega
    rw [e] at hW
    exact hX _ hW
  | succ j ih =>
    intro a σ ha hW
    have hM := hW.1
    have hC0 := hW.2.1
    have hw := hC0.1
    have hTa := ndL_Tq hw hT a (by omega)
    have bT := B_T hTa.1.1.1 0
    have hul := utL_le (ndL S a) ((ndL S a).1 9 0)
    refine gs_iload_n dX12_oneTick_62 rfl rfl ?_
    refine gs_aload_n dX12_oneTick_63 rfl rfl ?_
    refine g_getI dX12_oneTick_64 fX12_182 kwM (by decide) (show _ = nI (S.1 0 0) from (M_nodes hM).trans (by rw [hTa.2 0 rfl (by decide)])) ?_
    refine gf_icmp_ge (tgt := 127) dX12_oneTick_67 (by decide) (by omega) (by omega) (by omega) ?_
    refine gs_aload_n dX12_oneTick_70 rfl rfl ?_
    refine gs_iload_n dX12_oneTick_71 rfl rfl ?_
    refine g_cVI1 dX12_oneTick_72 vX12_318 (by decide) kwM (by decide) (Nat.le_of_ble_eq_true rfl) (s_first hM hTa.1.1.1 hC0 (by omega)) ?_
    rintro _ σ ⟨rfl, e8⟩
    subst e8
    refine gs_istore_n (ls' := [_, _, _]) dX12_oneTick_75 rfl rfl rfl ?_
    refine l_serve (by omega) 10 (ndL S a) σ (hTa.1.mono (by omega)) (by omega) hW (fun τ hτ => ?_)
    refine gs_iinc (ls' := [_, _, _]) dX12_oneTick_121 rfl (nI_add _ 1) rfl rfl ?_
    refine g_goto (tgt := 62) dX12_oneTick_124 (by decide) ?_
    exact ih (a + 1) τ (by omega) hτ
theorem s_oneTick {w : Nat} {σ : Mm} {S : Sx} (hM : RepM w σ S) (hB : Bd S) (hC0 : hC w σ) (hI : Iv S) (hcap : hCap w S) (hz : Lz S) (ht : S.1 23 0 + 100 < 1073741824) (hs : S.1 36 0 + 10 ≤ 1073741824) : RV W0 mX12_oneTick [.ref 258] σ (fun τ => Mw w σ (otS S) τ) := by
  have b0 := B_nodes hB 0
  have hw := hC0.1
  have hT := tk0_Tq hI hcap hz ht
  refine G.met (by decide) (Nat.le_of_ble_eq_true rfl) ?_
  show G _ _ _ 0 [some (.ref 258), none, none] [] σ
  refine g_iconst (v := nI 0) dX12_oneTick_0 (by decide) ?_
  refine gs_istore_n (ls' := [_, _, _]) dX12_oneTick_1 rfl rfl rfl ?_
  refine l_tick1 (S := S) (fun σ1 hQ1 => ?_) 16 0 σ rfl (Mq.rf hM hC0)
  refine g_iconst (v := nI 0) dX12_oneTick_29 (by decide) ?_
  refine gs_istore_n (ls' := [_, _, _]) dX12_oneTick_30 rfl rfl rfl ?_
  refine l_tick2 (S := lnL S 16) (lnL_Bd hB 16) (fun σ2 hQ2 => ?_) ((lnL S 16).1 9 0) 0 σ1 (by omega) hQ1
  rw [lnL_ne (g := 9) (by decide)] at hQ2
  refine g_iconst (v := nI 0) dX12_oneTick_60 (by decide) ?_
  refine gs_istore_n (ls' := [_, _, _]) dX12_oneTick_61 rfl rfl rfl ?_
  refine l_tick3 (S := tk0 S) hT (fun σ3 hW3 => ?_) ((tk0 S).1 0 0) 0 σ2 (by omega) hQ2.weak
  have e0 : (tk0 S).1 0 0 = S.1 0 0 := by unfold tk0; rw [trL_ne (g := 0) (by decide), lnL_ne (g := 0) (by decide)]
  rw [e0] at hW3
  have hT3 := ndL_Tq hw hT (S.1 0 0) (by omega)
  have e36 : (ndL (tk0 S) (S.1 0 0)).1 36 0 = S.1 36 0 := by rw [hT3.2 36 rfl (by decide)]; unfold tk0; rw [trL_ne (g := 36) (by decide), lnL_ne (g := 36) (by decide)]
  have hM := hW3.1
  have hC0 := hW3.2.1
  refine gs_aload_n dX12_oneTick_127 rfl rfl ?_
  refine g_cVV0 dX12_oneTick_128 vX12_327 (by decide) kwM (by decide) (Nat.le_of_ble_eq_true rfl) (s_finish hM hT3.1.1.1 hC0 (by rw [e36]; exact hs)) ?_
  rintro τ hQ4
  refine g_return dX12_oneTick_131 rfl ?_
  exact ⟨rfl, hW3.tr hQ4.weak⟩
