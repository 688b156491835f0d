/-! The reference: tryNext, its beginning. -/
theorem ulS_ne {b g : Nat} (hg : g ≠ 33) : ∀ k S h, (ulS b k S h).1 g = S.1 g := by
  intro k
  induction k with
  | zero => intro S h; rfl
  | succ k ih =>
    intro S h
    simp only [ulS]
    split
    · rfl
    · rw [ih, setV_1, setN_ne hg]
theorem Bd_ulS {b : Nat} : ∀ k S h, Bd S → (∀ i, S.1 33 i + k ≤ 1000) → Bd (ulS b k S h) := by
  intro k
  induction k with
  | zero => intro S h hB _; exact hB
  | succ k ih =>
    intro S h hB hL
    simp only [ulS]
    split
    · exact hB
    · refine ih _ _ (Bd_setV (Bd_setN hB ?_)) ?_
      · have := hL (ed h (bh S h b)); show _ ≤ 1000; omega
      · intro i
        rw [setV_1, setN_at]
        have := hL i
        have := hL (ed h (bh S h b))
        split <;> omega
theorem ftS_ne {S : Sx} {p a g : Nat} (h0 : g ≠ 24) (h1 : g ≠ 27) (h2 : g ≠ 28) (h3 : g ≠ 26) : (ftS S p a).1 g = S.1 g := by
  unfold ftS
  split
  · unfold ft3; rw [setV_1, setV_1, setN_ne h0, ft2_ne h1 h2 h3]
  · exact ft2_ne h1 h2 h3
theorem Bd_ftS {S : Sx} {p a : Nat} (hB : Bd S) (ha : a ≤ 3) (hn : 2 ≤ S.1 0 0) : Bd (ftS S p a) := by
  have h1 := ftTo_lt (p := p) hB ha hn
  have h2 := B_nodes hB 0
  unfold ftS
  split
  · exact Bd_setV (Bd_setV (Bd_setN (Bd_ft2 hB ha) (show _ ≤ 4 by omega)))
  · exact Bd_ft2 hB ha
theorem hCap.of {w : Nat} {S S' : Sx} (h : hCap w S) (h1 : S'.1 39 = S.1 39) (h2 : S'.1 34 = S.1 34) : hCap w S' := ⟨fun e => by rw [h1]; exact h.1 e, fun e => by rw [h1, h2]; exact h.2 e⟩
theorem e_try170 {w : Nat} {σ0 σ : Mm} {S : Sx} {K : Option Value → Mm → Prop} (hW : Mw w σ0 S σ) (hB : Bd S) (hcap : hCap w S) {t a x p c place : Nat} (ht : t < 10) (ha : a < S.1 0 0) (hx : x < 600) (hp : p < 20) (hc : c < 4) (hn : 2 ≤ S.1 0 0) (hl : 0 < S.1 24 p) (hpl : place < S.1 0 0) (hrh : rhS S place 3 a) (hrc : S.1 5 (4 * a + place) < 1000) (hL : ∀ i, S.1 33 i ≤ 900) (hnx : S.1 30 t < 60) (hK : ∀ τ, Mw w σ0 (goS S t a x p c place) τ → K none τ) : G W0 mX12_tryNext K 170 [some (.ref 258), some (.int (nI t)), some (.int (nI (10 * w + t))), some (.int (nI a)), some (.int (nI x)), some (.int (nI p)), some (.int (nI c)), some (.int (nI place)), none, none, none] [] σ := by
  have hM := hW.1
  have hC0 := hW.2.1
  have hw := hC0.1
  have b0 := B_nodes hB 0
  have ha4 : a < 4 := by omega
  have hB2 : Bd (ulS place 3 S a) := Bd_ulS 3 S a hB (fun i => by have := hL i; omega)
  have hcap2 : hCap w (ulS place 3 S a) := hcap.of (ulS_ne (by decide) 3 S a) (ulS_ne (by decide) 3 S a)
  have hnx2 : (ulS place 3 S a).1 30 t < 60 := by rw [ulS_ne (g := 30) (by decide)]; exact hnx
  have b3 : c0S (ulS place 3 S a) a place ≤ 1999 := by
    unfold c0S
    rw [ulS_ne (g := 5) (by decide)]
    have : fz (S.1 5 (4 * a + place)) = S.1 5 (4 * a + place) := if_pos hrc
    omega
  have b4 := B_hidden hB2 p
  have b5 : c0S (ulS place 3 S a) a place = 1 + 2 * fz ((ulS place 3 S a).1 5 (4 * a + place)) := rfl
  refine gs_aload_n dX12_tryNext_170 rfl rfl ?_
  refine gs_iload_n dX12_tryNext_171 rfl rfl ?_
  refine g_iload dX12_tryNext_172 rfl ?_
  refine g_cVV2 dX12_tryNext_174 vX12_301 (by decide) kwM (by decide) (Nat.le_of_ble_eq_true rfl) (s_useLinks hM hB hC0 ha hpl hrh hL) ?_
  rintro σ hQ
  have hM := hQ.1
  have hC0 := hQ.2.1
  refine gs_aload_n dX12_tryNext_177 rfl rfl ?_
  refine g_iconst (v := nI 0) dX12_tryNext_178 (by decide) ?_
  refine gw_putI dX12_tryNext_179 fP54 kwM (by decide) (Or.inr ⟨rfl, by decide⟩) (hW.tr hQ.weak) (by decide) (by decide) (fun σ hW1 hO1 => ?_)
  refine gs_aload_n dX12_tryNext_182 rfl rfl ?_
  refine g_iconst (v := nI 0) dX12_tryNext_183 (by decide) ?_
  refine gw_putI dX12_tryNext_184 fP55 kwM (by decide) (Or.inr ⟨rfl, by decide⟩) hW1 (by decide) (by decide) (fun σ hW2 hO2 => ?_)
  have hM := hW2.1
  have hC0 := hW2.2.1
  have hd : hD false false σ := ⟨by rw [hO2, if_neg (by decide), hO1, if_pos rfl]; rfl, by rw [hO2, if_pos rfl]; rfl⟩
  refine g_iconst (v := nI 1) dX12_tryNext_187 (by decide) ?_
  refine g_iconst (v := nI 2) dX12_tryNext_188 (by decide) ?_
  refine gs_aload_n dX12_tryNext_189 rfl rfl ?_
  refine g_getR dX12_tryNext_190 fX12_16 kwM (by decide) rM_far ?_
  refine g_iconst (v := nI 4) dX12_tryNext_193 (by decide) ?_
  refine gs_iload_n dX12_tryNext_194 rfl rfl ?_
  refine g_imul dX12_tryNext_195 (by first | exact pk_mul _ _ | rfl) ?_
  refine g_iload dX12_tryNext_196 rfl ?_
  refine g_iadd dX12_tryNext_198 (by first | exact nI_add _ _ | rfl) ?_
  refine g_iald dX12_tryNext_199 kw_far (by omega) ((M_far hM (by omega)).trans (fzM_nI _)) ?_
  refine g_imul dX12_tryNext_200 (by first | exact pk_mul _ _ | rfl) ?_
  refine g_iadd dX12_tryNext_201 (by first | exact nI_add _ _ | rfl) ?_
  refine gs_istore (ls' := [_, _, _, _, _, _, _, _, _, _, _]) dX12_tryNext_202 rfl rfl ?_
  refine g_iload dX12_tryNext_204 rfl ?_
  refine gs_aload_n dX12_tryNext_206 rfl rfl ?_
  refine g_getR dX12_tryNext_207 fX12_85 kwM (by decide) rM_hidden ?_
  refine g_bipush (v := nI 20) dX12_tryNext_210 (by decide) ?_
  refine gs_aload_n dX12_tryNext_212 rfl rfl ?_
  refine g_getI dX12_tryNext_213 fX12_243 kwM (by decide) hC0.2 ?_
  refine g_imul dX12_tryNext_216 (by first | exact pk_mul _ _ | rfl) ?_
  refine g_iload dX12_tryNext_217 rfl ?_
  refine g_iadd dX12_tryNext_219 (by first | exact nI_add _ _ | rfl) ?_
  refine g_zald dX12_tryNext_220 kw_hidden (by omega) (M_hidden hM (by omega)) ?_
  refine gn_if_eq (tgt := 234) dX12_tryNext_221 (by decide) (by omega) (fun c221 => ?_) (fun c221 => ?_)
  · refine g_iconst (v := nI 0) dX12_tryNext_234 (by decide) ?_
    refine g_iadd dX12_tryNext_235 (by first | exact nI_add _ _ | rfl) ?_
    have e1 : fdS (ulS place 3 S a) p a = ulS place 3 S a := if_pos c221
    have e2 : fdC (ulS place 3 S a) p a = 0 := if_pos c221
    have e3 : fdF (ulS place 3 S a) p = false := decide_eq_false (fun z => z c221)
    have e4 : fdM (ulS place 3 S a) p a = false := if_pos c221
    refine G.drop 9 (ls' := [_, _, _, _, _, _, _, _, _, none, _]) rfl ?_
    exact e_try236 hW2 hB2 hcap2 ht ha4 hx hp hc hd hnx2 (by omega) (fun τ hτ => hK τ (by rw [goS, e1, e2, e3, e4]; exact hτ))
  · refine gs_aload_n dX12_tryNext_224 rfl rfl ?_
    refine g_iload dX12_tryNext_225 rfl ?_
    refine gs_iload_n dX12_tryNext_227 rfl rfl ?_
    refine g_cVI2 dX12_tryNext_228 vX12_304 (by decide) kwM (by decide) (Nat.le_of_ble_eq_true rfl) (s_faulted hM hB2 hC0 hp (by rw [ulS_ne (g := 0) (by decide)]; exact ha) (by rw [ulS_ne (g := 0) (by decide)]; exact hn) (by rw [ulS_ne (g := 24) (by decide)]; exact hl) (df := false) hd.2) ?_
    rintro _ σ ⟨rfl, hW9, hd9⟩
    refine g_goto (tgt := 235) dX12_tryNext_231 (by decide) ?_
    refine g_iadd dX12_tryNext_235 (by first | exact nI_add _ _ | rfl) ?_
    have e1 : fdS (ulS place 3 S a) p a = ftS (ulS place 3 S a) p a := if_neg (by omega)
    have e2 : fdC (ulS place 3 S a) p a = ftC (ulS place 3 S a) p a := if_neg (by omega)
    have e3 : fdF (ulS place 3 S a) p = true := decide_eq_true (by omega)
    have e4 : fdM (ulS place 3 S a) p a = ftMv (ulS place 3 S a) p a := if_neg (by omega)
    have b9 : ftC (ulS place 3 S a) p a ≤ 70 := by
      have := B_faultPrice hB2 0
      have := B_movePrice hB2 0
      unfold ftC
      split <;> omega
    refine G.drop 9 (ls' := [_, _, _, _, _, _, _, _, _, none, _]) rfl ?_
    exact e_try236 (hW2.tr hW9) (Bd_ftS hB2 (by omega) (by rw [ulS_ne (g := 0) (by decide)]; exact hn)) (hcap2.of (ftS_ne (by decide) (by decide) (by decide) (by decide)) (ftS_ne (by decide) (by decide) (by decide) (by decide))) ht ha4 hx hp hc hd9 (by rw [ftS_ne (g := 30) (by decide) (by decide) (by decide) (by decide)]; exact hnx2) (by omega) (fun τ hτ => hK τ (by rw [goS, e1, e2, e3, e4]; exact hτ))
/-- what holds between the calls: bounds, and the ways' ends -/
def Iv (S : Sx) : Prop := Bd S ∧ 2 ≤ S.1 0 0 ∧ (∀ t, S.1 29 t < S.1 0 0) ∧ (∀ p, S.1 24 p ≤ S.1 0 0) ∧ (∀ a b, a < S.1 0 0 → b < S.1 0 0 → S.1 5 (4 * a + b) < 1000 → rhS S b 3 a)
theorem whS_lt {S : Sx} {p c a : Nat} (hn : 2 ≤ S.1 0 0) (ha : a < S.1 0 0) (hl : S.1 24 p ≤ S.1 0 0) : whS S p c a < S.1 0 0 := by
  unfold whS
  split
  · exact Nat.mod_lt _ (by omega)
  · split
    · exact ha
    · omega
theorem crS_lt {S : Sx} {b : Nat} (hb : b < S.1 0 0) (hn : S.1 0 0 ≤ 4) : ∀ k h l, h < S.1 0 0 → crS S b k h = some l → l < 16 := by
  intro k
  induction k with
  | zero => intro h l hh e; cases e
  | succ k ih =>
    intro h l hh e
    have := bh_lt (S := S) (a := h) hb
    simp only [crS] at e
    split at e
    · cases e
    · split at e
      · cases e; exact ed_lt (by omega) (by omega)
      · exact ih _ _ this e
theorem e_try99 {w : Nat} {σ0 σ : Mm} {S : Sx} {K : Option Value → Mm → Prop} (hW : Mw w σ0 S σ) (hB : Bd S) (hcap : hCap w S) {t a x p c : Nat} (ht : t < 10) (ha : a < S.1 0 0) (hx : x < 600) (hp : p < 20) (hc : c < 4) (hn : 2 ≤ S.1 0 0) (hl : 0 < S.1 24 p) (hln : S.1 24 p ≤ S.1 0 0) (hrh : ∀ a b, a < S.1 0 0 → b < S.1 0 0 → S.1 5 (4 * a + b) < 1000 → rhS S b 3 a) (hL : ∀ i, S.1 33 i ≤ 900) (hnx : S.1 30 t < 60) (hK : ∀ τ, Mw w σ0 (rdyS S t a x p c) τ → K none τ) : G W0 mX12_tryNext K 99 [some (.ref 258), some (.int (nI t)), some (.int (nI (10 * w + t))), some (.int (nI a)), some (.int (nI x)), some (.int (nI p)), some (.int (nI c)), none, none, none, none] [] σ := by
  have hM := hW.1
  have hC0 := hW.2.1
  have hw := hC0.1
  have b0 := B_nodes hB 0
  have ha4 : a < 4 := by omega
  have hwh := whS_lt (p := p) (c := c) hn ha hln
  refine gs_aload_n dX12_tryNext_99 rfl rfl ?_
  refine g_iload dX12_tryNext_100 rfl ?_
  refine g_iload dX12_tryNext_102 rfl ?_
  refine gs_iload_n dX12_tryNext_104 rfl rfl ?_
  refine g_cVI3 dX12_tryNext_105 vX12_294 (by decide) kwM (by decide) (Nat.le_of_ble_eq_true rfl) (s_where hM hB hC0 hp hc ha4 hn hl) ?_
  rintro _ σ ⟨rfl, e9⟩
  subst e9
  refine gs_istore (ls' := [_, _, _, _, _, _, _, _, _, _, _]) dX12_tryNext_108 rfl rfl ?_
  refine gs_aload_n dX12_tryNext_110 rfl rfl ?_
  refine gs_iload_n dX12_tryNext_111 rfl rfl ?_
  refine g_iload dX12_tryNext_112 rfl ?_
  refine g_cVI2 dX12_tryNext_114 vX12_220 (by decide) kwM (by decide) (Nat.le_of_ble_eq_true rfl) (s_isWay hM hB hC0 ha4 (by omega)) ?_
  rintro _ σ ⟨rfl, e9⟩
  subst e9
  refine gb_if_ne (tgt := 126) dX12_tryNext_117 (by decide) (fun c117 => ?_) (fun c117 => ?_)
  · refine gs_aload_n dX12_tryNext_126 rfl rfl ?_
    refine gs_iload_n dX12_tryNext_127 rfl rfl ?_
    refine g_iload dX12_tryNext_128 rfl ?_
    refine g_cVI2 dX12_tryNext_130 vX12_298 (by decide) kwM (by decide) (Nat.le_of_ble_eq_true rfl) (s_crowded hM hB hC0 ha hwh (hrh _ _ ha hwh (of_decide_eq_true c117))) ?_
    rintro r9 σ ⟨q9, e9⟩
    subst e9
    refine gs_istore (ls' := [_, _, _, _, _, _, _, _, _, _, _]) dX12_tryNext_133 rfl rfl ?_
    subst q9
    cases hcr : crS S (whS S p c a) 3 a with
    | none =>
      show G _ _ _ _ [_, _, _, _, _, _, _, _, some (.int (-1)), _, _] _ _
      refine g_iload dX12_tryNext_135 rfl ?_
      refine rt_if_lt (tgt := 170) dX12_tryNext_137 (by decide) (by decide) ?_
      refine G.drop 8 (ls' := [_, _, _, _, _, _, _, _, none, _, _]) rfl ?_
      exact e_try170 hW hB hcap ht ha hx hp hc hn hl hwh (hrh _ _ ha hwh (of_decide_eq_true c117)) (of_decide_eq_true c117) hL hnx (fun τ hτ => hK τ (by rw [rdyS, if_neg (by rw [c117]; decide), hcr]; exact hτ))
    | some l =>
      have hl16 := crS_lt hwh b0 3 a l ha hcr
      have hQ := Mq.rf hM hC0
      show G _ _ _ _ [_, _, _, _, _, _, _, _, some (.int (nI l)), _, _] _ _
      refine g_iload dX12_tryNext_135 rfl ?_
      refine gf_if_lt (tgt := 170) dX12_tryNext_137 (by decide) (by omega) ?_
      refine gs_aload_n dX12_tryNext_140 rfl rfl ?_
      refine g_getR dX12_tryNext_141 fX12_115 kwM (by decide) rM_waits ?_
      refine gs_iload_n dX12_tryNext_144 rfl rfl ?_
      refine g_dup2 dX12_tryNext_145 rfl rfl ?_
      refine g_iald dX12_tryNext_146 kw_waits (by omega) rfl ?_
      refine g_iconst (v := nI 1) dX12_tryNext_147 (by decide) ?_
      refine g_iadd dX12_tryNext_148 (by first | exact nI_add _ _ | rfl) ?_
      refine gq_iast dX12_tryNext_149 kw_waits (by omega) (QJ_waits hQ ht) (fun σ hQ => ?_)
      have hM := hQ.1
      have hC0 := hQ.2.1
      refine gs_aload_n dX12_tryNext_150 rfl rfl ?_
      refine g_getR dX12_tryNext_151 fX12_142 kwM (by decide) rM_linkWaits ?_
      refine g_bipush (v := nI 16) dX12_tryNext_154 (by decide) ?_
      refine gs_aload_n dX12_tryNext_156 rfl rfl ?_
      refine g_getI dX12_tryNext_157 fX12_243 kwM (by decide) hC0.2 ?_
      refine g_imul dX12_tryNext_160 (by first | exact pk_mul _ _ | rfl) ?_
      refine g_iload dX12_tryNext_161 rfl ?_
      refine g_iadd dX12_tryNext_163 (by first | exact nI_add _ _ | rfl) ?_
      refine g_dup2 dX12_tryNext_164 rfl rfl ?_
      refine g_iald dX12_tryNext_165 kw_linkWaits (by omega) rfl ?_
      refine g_iconst (v := nI 1) dX12_tryNext_166 (by decide) ?_
      refine g_iadd dX12_tryNext_167 (by first | exact nI_add _ _ | rfl) ?_
      refine gq_iast dX12_tryNext_168 kw_linkWaits (by omega) (QJ_linkWaits hQ (by omega)) (fun σ hQ => ?_)
      have hM := hQ.1
      have hC0 := hQ.2.1
      refine g_return dX12_tryNext_169 rfl ?_
      exact hK _ (by rw [rdyS, if_neg (by rw [c117]; decide), hcr]; exact hW.tr hQ.weak)
  · refine gs_aload_n dX12_tryNext_120 rfl rfl ?_
    refine gs_iload_n dX12_tryNext_121 rfl rfl ?_
    refine g_cVV1 dX12_tryNext_122 vX12_290 (by decide) kwM (by decide) (Nat.le_of_ble_eq_true rfl) (s_fail hM hB hC0 ht) ?_
    rintro τ hQ
    refine g_return dX12_tryNext_125 rfl ?_
    exact hK _ (by rw [rdyS, if_pos c117]; exact hW.tr hQ.weak)
theorem s_tryNext {w : Nat} {σ : Mm} {S : Sx} (hM : RepM w σ S) (hB : Bd S) (hC0 : hC w σ) (hI : Iv S) (hcap : hCap w S) {t : Nat} (ht : t < 10) (hL : ∀ i, S.1 33 i ≤ 900) (hnx : S.1 30 t < 60) (hTu : S.1 23 0 < 1073741824) : RV W0 mX12_tryNext [.ref 258, .int (nI t)] σ (fun τ => Mw w σ (tryS S t) τ) := by
  obtain ⟨-, hn, hat, hln, hrh⟩ := hI
  have hw := hC0.1
  have b0 := B_nodes hB 0
  have b1 := hat t
  have b2 := B_aPage hB (60 * t + S.1 30 t)
  have b3 := B_aCell hB (60 * t + S.1 30 t)
  have b4 := B_P hB 0
  have hW := (Mq.rf hM hC0).weak
  refine G.met (by decide) (Nat.le_of_ble_eq_true rfl) ?_
  show G _ _ _ 0 [some (.ref 258), some (.int (nI t)), none, none, none, none, none, none, none, none, none] [] σ
  refine g_bipush (v := nI 10) dX12_tryNext_0 (by decide) ?_
  refine gs_aload_n dX12_tryNext_2 rfl rfl ?_
  refine g_getI dX12_tryNext_3 fX12_243 kwM (by decide) hC0.2 ?_
  refine g_imul dX12_tryNext_6 (by first | exact pk_mul _ _ | rfl) ?_
  refine gs_iload_n dX12_tryNext_7 rfl rfl ?_
  refine g_iadd dX12_tryNext_8 (by first | exact nI_add _ _ | rfl) ?_
  refine gs_istore_n (ls' := [_, _, _, _, _, _, _, _, _, _, _]) dX12_tryNext_9 rfl rfl rfl ?_
  refine gs_aload_n dX12_tryNext_10 rfl rfl ?_
  refine g_getR dX12_tryNext_11 fX12_103 kwM (by decide) rM_at ?_
  refine gs_iload_n dX12_tryNext_14 rfl rfl ?_
  refine g_iald dX12_tryNext_15 kw_at (by omega) (M_at hM (by omega)) ?_
  refine gs_istore_n (ls' := [_, _, _, _, _, _, _, _, _, _, _]) dX12_tryNext_16 rfl rfl rfl ?_
  refine g_bipush (v := nI 60) dX12_tryNext_17 (by decide) ?_
  refine gs_iload_n dX12_tryNext_19 rfl rfl ?_
  refine g_imul dX12_tryNext_20 (by first | exact pk_mul _ _ | rfl) ?_
  refine gs_aload_n dX12_tryNext_21 rfl rfl ?_
  refine g_getR dX12_tryNext_22 fX12_109 kwM (by decide) rM_next ?_
  refine gs_iload_n dX12_tryNext_25 rfl rfl ?_
  refine g_iald dX12_tryNext_26 kw_next (by omega) (M_next hM (by omega)) ?_
  refine g_iadd dX12_tryNext_27 (by first | exact nI_add _ _ | rfl) ?_
  refine gs_istore (ls' := [_, _, _, _, _, _, _, _, _, _, _]) dX12_tryNext_28 rfl rfl ?_
  refine gs_aload_n dX12_tryNext_30 rfl rfl ?_
  refine g_getR dX12_tryNext_31 fX12_25 kwM (by decide) rM_aPage ?_
  refine g_iload dX12_tryNext_34 rfl ?_
  refine g_iald dX12_tryNext_36 kw_aPage (by omega) (M_aPage hM (by omega)) ?_
  refine gs_istore (ls' := [_, _, _, _, _, _, _, _, _, _, _]) dX12_tryNext_37 rfl rfl ?_
  refine gs_aload_n dX12_tryNext_39 rfl rfl ?_
  refine g_getR dX12_tryNext_40 fX12_28 kwM (by decide) rM_aCell ?_
  refine g_iload dX12_tryNext_43 rfl ?_
  refine g_iald dX12_tryNext_45 kw_aCell (by omega) (M_aCell hM (by omega)) ?_
  refine gs_istore (ls' := [_, _, _, _, _, _, _, _, _, _, _]) dX12_tryNext_46 rfl rfl ?_
  refine g_iload dX12_tryNext_48 rfl ?_
  refine gs_aload_n dX12_tryNext_50 rfl rfl ?_
  refine g_getI dX12_tryNext_51 fX12_197 kwM (by decide) (M_P hM) ?_
  refine gn_icmp_ge (tgt := 93) dX12_tryNext_54 (by decide) (by omega) (by omega) (fun c54 => ?_) (fun c54 => ?_)
  · refine gs_aload_n dX12_tryNext_93 rfl rfl ?_
    refine gs_iload_n dX12_tryNext_94 rfl rfl ?_
    refine g_cVV1 dX12_tryNext_95 vX12_290 (by decide) kwM (by decide) (Nat.le_of_ble_eq_true rfl) (s_fail hM hB hC0 ht) ?_
    rintro τ hQ
    refine g_return dX12_tryNext_98 rfl ?_
    exact ⟨rfl, by rw [tryS, tryA, if_pos (Or.inl c54)]; exact hQ.weak⟩
  · refine g_iload dX12_tryNext_57 rfl ?_
    refine g_iconst (v := nI 3) dX12_tryNext_59 (by decide) ?_
    refine gn_icmp_gt (tgt := 93) dX12_tryNext_60 (by decide) (by omega) (by omega) (fun c60 => ?_) (fun c60 => ?_)
    · refine gs_aload_n dX12_tryNext_93 rfl rfl ?_
      refine gs_iload_n dX12_tryNext_94 rfl rfl ?_
      refine g_cVV1 dX12_tryNext_95 vX12_290 (by decide) kwM (by decide) (Nat.le_of_ble_eq_true rfl) (s_fail hM hB hC0 ht) ?_
      rintro τ hQ
      refine g_return dX12_tryNext_98 rfl ?_
      exact ⟨rfl, by rw [tryS, tryA, if_pos (Or.inr c60)]; exact hQ.weak⟩
    · refine gs_aload_n dX12_tryNext_63 rfl rfl ?_
      refine g_getR dX12_tryNext_64 fX12_79 kwM (by decide) rM_lies ?_
      refine g_bipush (v := nI 20) dX12_tryNext_67 (by decide) ?_
      refine gs_aload_n dX12_tryNext_69 rfl rfl ?_
      refine g_getI dX12_tryNext_70 fX12_243 kwM (by decide) hC0.2 ?_
      refine g_imul dX12_tryNext_73 (by first | exact pk_mul _ _ | rfl) ?_
      refine g_iload dX12_tryNext_74 rfl ?_
      refine g_iadd dX12_tryNext_76 (by first | exact nI_add _ _ | rfl) ?_
      refine g_iald dX12_tryNext_77 kw_lies (by omega) (M_lies hM (by omega)) ?_
      refine g_bipush (v := -2) dX12_tryNext_78 (by decide) ?_
      refine g_icmp_ne (tgt := 99) dX12_tryNext_80 (by decide) (fun c80 => ?_) (fun c80 => ?_)
      · have c24 : ¬ S.1 24 (S.1 11 (60 * t + S.1 30 t)) = 0 := fun z => c80 ((lzM_none (B_lies hB _)).mpr z)
        exact e_try99 hW hB hcap ht b1 (by omega) (by omega) (by omega) hn (by omega) (hln _) hrh hL hnx (fun τ hτ => ⟨rfl, by rw [tryS, tryA, if_neg (by omega), if_neg c24]; exact hτ⟩)
      · refine gs_aload_n dX12_tryNext_83 rfl rfl ?_
        refine g_iload dX12_tryNext_84 rfl ?_
        refine gs_iload_n dX12_tryNext_86 rfl rfl ?_
        refine g_cVI2 dX12_tryNext_87 vX12_287 (by decide) kwM (by decide) (Nat.le_of_ble_eq_true rfl) (s_isPlaced hM hB hC0 (by omega) hn b1) ?_
        rintro r9 τ9 h9
        have c24 : S.1 24 (S.1 11 (60 * t + S.1 30 t)) = 0 := (lzM_none (B_lies hB _)).mp c80
        rcases h9 with ⟨nd, hpo, rfl, hQ9⟩ | ⟨hpo, rfl, rfl⟩
        · have hnd := plO_lt hn b1 hpo
          have hBp : Bd (plSt S (S.1 11 (60 * t + S.1 30 t)) nd) := Bd_setN (Bd_setN hB (show _ ≤ 1073741824 by split <;> omega)) (show _ ≤ 4 by omega)
          have hn0 : (plSt S (S.1 11 (60 * t + S.1 30 t)) nd).1 0 = S.1 0 := by unfold plSt; rw [setN_ne (by decide), setN_ne (by decide)]
          have hn3 : (plSt S (S.1 11 (60 * t + S.1 30 t)) nd).1 3 = S.1 3 := by unfold plSt; rw [setN_ne (by decide), setN_ne (by decide)]
          have hn5 : (plSt S (S.1 11 (60 * t + S.1 30 t)) nd).1 5 = S.1 5 := by unfold plSt; rw [setN_ne (by decide), setN_ne (by decide)]
          have hl9 : (plSt S (S.1 11 (60 * t + S.1 30 t)) nd).1 24 (S.1 11 (60 * t + S.1 30 t)) = nd + 1 := by unfold plSt; rw [setN_at, if_pos ⟨rfl, rfl⟩]
          refine rt_if_ne (tgt := 99) dX12_tryNext_90 (by decide) (by decide) ?_
          exact e_try99 hQ9.weak hBp hcap ht (by rw [hn0]; exact b1) (by omega) (by omega) (by omega) (by rw [hn0]; exact hn) (by omega) (by rw [hl9, hn0]; omega) (fun a b h1 h2 h3 => (rhS_eq hn0 hn3 hn5 b 3 a).mpr (hrh a b (by rw [hn0] at h1; exact h1) (by rw [hn0] at h2; exact h2) (by rw [hn5] at h3; exact h3))) hL hnx (fun τ hτ => ⟨rfl, by rw [tryS, tryA, if_neg (by omega), if_pos c24, hpo]; exact hτ⟩)
        · refine rf_if_ne (tgt := 99) dX12_tryNext_90 (by decide) (by decide) ?_
          refine gs_aload_n dX12_tryNext_93 rfl rfl ?_
          refine gs_iload_n dX12_tryNext_94 rfl rfl ?_
          refine g_cVV1 dX12_tryNext_95 vX12_290 (by decide) kwM (by decide) (Nat.le_of_ble_eq_true rfl) (s_fail hM hB hC0 ht) ?_
          rintro τ hQ
          refine g_return dX12_tryNext_98 rfl ?_
          exact ⟨rfl, by rw [tryS, tryA, if_neg (by omega), if_pos c24, hpo]; exact hQ.weak⟩
