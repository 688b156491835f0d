/-! The class: goes. -/
theorem setV_vne {S : Sx} {g i k : Nat} {v : Int32} (h : k ≠ g) : (setV S g i v).2.1 k = S.2.1 k := by
  funext j
  show (if k = g ∧ j = i then v else S.2.1 k j) = _
  rw [if_neg (fun z => h z.1)]
theorem Tk_ft {S : Sx} {Tf : Nat → Nat} {p a : Nat} (hT : Tk S Tf) (hp : p < S.1 7 0) (hl : 0 < S.1 24 p) (hln : S.1 24 p ≤ S.1 0 0) : Tk (ftS S p a) (if ftMv S p a = true then mvT Tf (S.1 24 p - 1) (ftTo S p a) else Tf) := by
  have en : ∀ g, g ≠ 27 → g ≠ 28 → g ≠ 26 → (ft2 S p a).1 g = S.1 g := fun g h1 h2 h3 => ft2_ne h1 h2 h3
  have hT2 : Tk (ft2 S p a) Tf := Tk_of hT (en 0 (by decide) (by decide) (by decide)) (en 7 (by decide) (by decide) (by decide)) (en 8 (by decide) (by decide) (by decide)) (en 24 (by decide) (by decide) (by decide)) (en 25 (by decide) (by decide) (by decide))
  unfold ftS
  by_cases h : ftMv S p a = true
  · rw [if_pos h, if_pos h]
    have h9 := h
    simp only [ftMv, Bool.and_eq_true, decide_eq_true_eq] at h9
    have e24 : (ft2 S p a).1 24 p = S.1 24 p := by rw [en 24 (by decide) (by decide) (by decide)]
    have q := Tk_move (to := ftTo S p a) hT2 (by rw [en 7 (by decide) (by decide) (by decide)]; exact hp) (by rw [e24]; exact hl) (by rw [e24, en 0 (by decide) (by decide) (by decide)]; exact hln) (by rw [en 8 (by decide) (by decide) (by decide)]; exact h9.1) (by rw [e24]; exact h9.2.1)
    rw [e24] at q
    exact q
  · rw [if_neg h, if_neg h]; exact hT2
theorem ulS_v {b g : Nat} (hg : g ≠ 14) : ∀ k S h, (ulS b k S h).2.1 g = S.2.1 g := by
  intro k
  induction k with
  | zero => intro S h; rfl
  | succ k ih =>
    intro S h
    rw [ulS]
    split
    · rfl
    · rw [ih, setV_vne hg]; rfl
theorem ftS_v0 {S : Sx} {p a : Nat} : (ftS S p a).2.1 0 = S.2.1 0 := by
  have e : (ft2 S p a).2.1 0 = S.2.1 0 := by
    have e2 : (kfS (ft1 S p) p a).2 = (ft1 S p).2 := by unfold kfS; split <;> rfl
    rw [ft2, e2, ft1, setV_vne (by decide)]; rfl
  unfold ftS
  split
  · rw [ft3, setV_vne (by decide), setV_vne (by decide)]; exact e
  · exact e
theorem ftS_24 {S : Sx} {p a q : Nat} (hk : S.1 8 q ≠ 0) : (ftS S p a).1 24 q = S.1 24 q := by
  have e24 : (ft2 S p a).1 24 = S.1 24 := ft2_ne (by decide) (by decide) (by decide)
  unfold ftS
  by_cases h : ftMv S p a = true
  · rw [if_pos h]
    simp only [ftMv, Bool.and_eq_true, decide_eq_true_eq] at h
    rw [ft3, setV_1, setV_1, setN_at, if_neg (fun z => hk (by rw [z.2]; exact h.1)), e24]
  · rw [if_neg h, e24]
theorem ftS_l {S : Sx} {p a : Nat} (hl : 0 < S.1 24 p) : 0 < (ftS S p a).1 24 p := by
  have e24 : (ft2 S p a).1 24 = S.1 24 := ft2_ne (by decide) (by decide) (by decide)
  unfold ftS
  split
  · rw [ft3, setV_1, setV_1, setN_at, if_pos ⟨rfl, rfl⟩]; omega
  · rw [e24]; exact hl
theorem e_goes154 {b : Nat} {σ0 σ : Mm} {S : Sx} {Tf : Nat → Nat} {K : Option Value → Mm → Prop} (hb : mch b) {t a x place cost : Nat} {df dm : Bool} {A : Nat → Int32} (h0 : A 0 = nI t) (h1 : A 1 = nI a) (h2 : A 2 = nI (S.1 11 x)) (h3 : A 3 = nI (S.1 12 x)) (h4 : A 4 = nI (S.1 13 x)) (h5 : A 5 = S.2.1 0 x) (h6 : A 6 = nI place) (h7 : A 7 = nI cost) (h8 : A 8 = bI df) (h9 : A 9 = bI dm) (hQ : Cq b σ0 S Tf A σ) (hB : Bd S) (hT : Tk S Tf) (hcap : cCap b S) {p c : Nat} (hc : S.1 12 x = c) (hc4 : c < 4) (ht : t < S.1 9 0) (hp : p < S.1 7 0) (ha : a < S.1 0 0) (hnx : S.1 30 t < 60) (hco : cost ≤ 4000) (hl : 0 < S.1 24 p) (hk1 : S.1 8 p ≠ 1 → S.1 25 p = 0) (hh0 : S.1 8 p = 1 → bt (S.1 25 p) (S.1 24 p - 1) = 0) (hK : ∀ τ Tf' A', Cq b σ0 (enS (acS S t p c x) t a x p place cost df dm) Tf' A' τ → Tk (enS (acS S t p c x) t a x p place cost df dm) Tf' → K (some (.int (bI true))) τ) : G W0 mX3_goes K 154 [some (.ref b), some (.int (nI t)), some (.ref (b + 78 + t)), some (.ref (b + 18 + 3 * p))] [] σ := by
  have bP := B_P hB 0
  have h20 : p < 20 := by omega
  have bT := B_T hB 0
  have h10 : t < 10 := by omega
  have hR := hQ.1
  refine gs_aload_n dX3_goes_154 rfl rfl ?_
  refine gs_aload_n dX3_goes_155 rfl rfl ?_
  refine gs_aload_n dX3_goes_156 rfl rfl ?_
  refine g_cVV2 dX3_goes_157 vX3_245 (by decide) (kMa hb) (by decide) (Nat.le_of_ble_eq_true rfl) (c_perform (place := place) hb hR hB hT hcap h0 h1 h2 h3 h4 h5 h6 h7 h8 h9 hQ.2.2 hc hc4 ht hp ha hnx hco hl hk1 hh0) ?_
  rintro σ ⟨Tf9, A9, hQ9, hT9⟩
  refine g_iconst (v := nI 1) dX3_goes_160 (by decide) ?_
  refine g_zreturn dX3_goes_161 rfl (by first | exact bI_01 _ | decide) ?_
  exact hK _ _ _ (hQ.tr hQ9) hT9
theorem e_goes76 {b : Nat} {σ0 σ : Mm} {S : Sx} {Tf : Nat → Nat} {A : Nat → Int32} {K : Option Value → Mm → Prop} (hb : mch b) (hQ : Cq b σ0 S Tf A σ) (hT : Tk S Tf) (hI : Ic S) (hcap : cCap b S) {t a x p c wh : Nat} (h0 : A 0 = nI t) (h1 : A 1 = nI a) (h2 : A 2 = nI p) (h3 : A 3 = nI c) (h4 : A 4 = nI (S.1 13 x)) (h5 : A 5 = S.2.1 0 x) (h6 : A 6 = nI wh) (h8 : A 8 = nI 0) (h9 : A 9 = nI 0) (hnx : S.1 30 t < 60) (hp : p < S.1 7 0) (hc : S.1 12 x = c) (hc4 : c < 4) (ht : t < S.1 9 0) (hl : 0 < S.1 24 p) (ha : a < S.1 0 0) (hw : wh < S.1 0 0) (hrc : S.1 5 (4 * a + wh) < 1000) (hrh : rhS S wh 3 a) (hL : ∀ i, S.1 33 i ≤ 900) (hpx : S.1 11 x = p) (hK : ∀ τ Tf' A', Cq b σ0 (goS S t a x p c wh) Tf' A' τ → Tk (goS S t a x p c wh) Tf' → K (some (.int (bI true))) τ) : G W0 mX3_goes K 76 [some (.ref b), some (.int (nI t)), some (.ref (b + 78 + t)), none] [] σ := by
  obtain ⟨⟨hB, hn, hat, hln, hrh9⟩, hH, hF, hC, hx⟩ := hI
  have bP := B_P hB 0
  have h20 : p < 20 := by omega
  have bT := B_T hB 0
  have b0 := B_nodes hB 0
  have h10 : t < 10 := by omega
  have hR := hQ.1
  have eu : ∀ g, g ≠ 33 → (ulS wh 3 S a).1 g = S.1 g := fun g hg => ulS_ne hg 3 S a
  have hB2 : Bd (ulS wh 3 S a) := Bd_ulS 3 S a hB (fun i => by have := hL i; omega)
  have b26 := B_hidden hB2 p
  have b14 := B_faultPrice hB2 0
  have b15 := B_movePrice hB2 0
  have e5 : (ulS wh 3 S a).1 5 (4 * a + wh) = S.1 5 (4 * a + wh) := by rw [eu 5 (by decide)]
  have hc0 : c0S (ulS wh 3 S a) a wh = 1 + 2 * S.1 5 (4 * a + wh) := by rw [c0S, e5, fz, if_pos hrc]
  have hT2 : Tk (ulS wh 3 S a) Tf := Tk_of hT (eu 0 (by decide)) (eu 7 (by decide)) (eu 8 (by decide)) (eu 24 (by decide)) (eu 25 (by decide))
  have hF2 : Fn (ulS wh 3 S a) := fun q k hk => by rw [eu 28 (by decide), eu 0 (by decide)]; rw [eu 27 (by decide)] at hk; exact hF q k hk
  have hcap2 : cCap b (ulS wh 3 S a) := ⟨fun e => by rw [eu 39 (by decide)]; exact hcap.1 e, fun e => by rw [eu 39 (by decide), eu 34 (by decide)]; exact hcap.2 e⟩
  have hftC : ftC (ulS wh 3 S a) p a ≤ 70 := by
    unfold ftC
    split <;> omega
  have eg : ∀ (df dm : Bool) (k : Nat) (S3 : Sx), (ulS wh 3 S a).1 26 p = 0 → df = false → dm = false → k = 0 → S3 = ulS wh 3 S a → goS S t a x p c wh = enS (acS S3 t p c x) t a x p wh (1 + 2 * S.1 5 (4 * a + wh) + k) df dm := fun df dm k S3 ez e1 e2 e3 e4 => by
    rw [e1, e2, e3, e4, goS, hc0, fdS, if_pos ez, fdC, if_pos ez, fdM, if_pos ez, fdF, decide_eq_false (fun z => z ez)]
  refine gs_aload_n dX3_goes_76 rfl rfl ?_
  refine g_getR dX3_goes_77 fX3_34 (kMa hb) (by decide) (rMa_pages hb) ?_
  refine gs_aload_n dX3_goes_80 rfl rfl ?_
  refine g_getR dX3_goes_81 fX3_28 (kMa hb) (by decide) (rMa_attempt hb) ?_
  refine g_getI dX3_goes_84 fX3_231 (kMa_attempt hb) (by decide) (show _ = nI p from by rw [hQ.2.2]; exact h2) ?_
  refine g_aald24 dX3_goes_87 (kMa_pages hb) h20 (rPs hb h20) ?_
  refine gs_astore_n (ls' := [_, _, _, _]) dX3_goes_88 rfl rfl rfl ?_
  refine gs_aload_n dX3_goes_89 rfl rfl ?_
  refine g_getR dX3_goes_90 fX3_64 (kMa hb) (by decide) (rMa_traffic hb) ?_
  refine gs_aload_n dX3_goes_93 rfl rfl ?_
  refine g_getR dX3_goes_94 fX3_28 (kMa hb) (by decide) (rMa_attempt hb) ?_
  refine g_getI dX3_goes_97 fX3_220 (kMa_attempt hb) (by decide) (show _ = nI a from by rw [hQ.2.2]; exact h1) ?_
  refine gs_aload_n dX3_goes_100 rfl rfl ?_
  refine g_getR dX3_goes_101 fX3_28 (kMa hb) (by decide) (rMa_attempt hb) ?_
  refine g_getI dX3_goes_104 fX3_221 (kMa_attempt hb) (by decide) (show _ = nI wh from by rw [hQ.2.2]; exact h6) ?_
  refine g_cVV2 dX3_goes_107 vX3_234 (by decide) (kMa_traffic hb) (by decide) (Nat.le_of_ble_eq_true rfl) (c_carry hb hR hB hH ha hw hrc hrh hL) ?_
  rintro σ hQ9
  rw [hQ.2.2] at hQ9
  have hQ := hQ.tr hQ9
  have hR := hQ.1
  refine gs_aload_n dX3_goes_110 rfl rfl ?_
  refine g_getR dX3_goes_111 fX3_28 (kMa hb) (by decide) (rMa_attempt hb) ?_
  refine g_iconst (v := nI 1) dX3_goes_114 (by decide) ?_
  refine g_iconst (v := nI 2) dX3_goes_115 (by decide) ?_
  refine gs_aload_n dX3_goes_116 rfl rfl ?_
  refine g_getR dX3_goes_117 fX3_55 (kMa hb) (by decide) (rMa_board hb) ?_
  refine gs_aload_n dX3_goes_120 rfl rfl ?_
  refine g_getR dX3_goes_121 fX3_28 (kMa hb) (by decide) (rMa_attempt hb) ?_
  refine g_getI dX3_goes_124 fX3_220 (kMa_attempt hb) (by decide) (show _ = nI a from by rw [hQ.2.2]; exact h1) ?_
  refine gs_aload_n dX3_goes_127 rfl rfl ?_
  refine g_getR dX3_goes_128 fX3_28 (kMa hb) (by decide) (rMa_attempt hb) ?_
  refine g_getI dX3_goes_131 fX3_221 (kMa_attempt hb) (by decide) (show _ = nI wh from by rw [hQ.2.2]; exact h6) ?_
  refine g_cVI2 dX3_goes_134 vX3_237 (by decide) bdW0.1 (by decide) (Nat.le_of_ble_eq_true rfl) (c_distance hb hR hB2 (by rw [eu 0 (by decide)]; exact ha) (by rw [eu 0 (by decide)]; exact hw)) ?_
  rintro _ σ ⟨rfl, e9⟩
  subst e9
  rw [e5]
  refine g_imul dX3_goes_137 (by first | exact pk_mul _ _ | rfl) ?_
  refine g_iadd dX3_goes_138 (by first | exact nI_add _ _ | rfl) ?_
  refine gc_putI dX3_goes_139 pX3_240 (kMa_attempt hb) (by decide) (Or.inl rfl) (hQ.putA hb hB2) (fun σ hQ => ?_)
  have hR := hQ.1
  refine gs_aload_n dX3_goes_142 rfl rfl ?_
  refine g_getI dX3_goes_143 fX3_207 (kPg hb h20) (by decide) (show _ = nI ((ulS wh 3 S a).1 26 p) from by have q := C_hidden hR h20 (by rw [eu 7 (by decide)]; exact hp); exact q) ?_
  refine gn_if_eq (tgt := 154) dX3_goes_146 (by decide) (by omega) (fun c146 => ?_) (fun c146 => ?_)
  · have ez : (ulS wh 3 S a).1 26 p = 0 := c146
    refine e_goes154 (df := false) (dm := false) (x := x) (place := wh) (p := p) hb (by rw [upd_n _ _ (by decide)]; exact h0) (by rw [upd_n _ _ (by decide)]; exact h1) (by rw [upd_n _ _ (by decide), eu 11 (by decide), hpx]; exact h2) (by rw [upd_n _ _ (by decide), eu 12 (by decide), hc]; exact h3) (by rw [upd_n _ _ (by decide), eu 13 (by decide)]; exact h4) (by rw [upd_n _ _ (by decide), ulS_v (by decide)]; exact h5) (by rw [upd_n _ _ (by decide)]; exact h6) (upd_e _ _ _) (by rw [upd_n _ _ (by decide)]; exact h8) (by rw [upd_n _ _ (by decide)]; exact h9) hQ hB2 hT2 hcap2 (by rw [eu 12 (by decide)]; exact hc) hc4 (by rw [eu 9 (by decide)]; exact ht) (by rw [eu 7 (by decide)]; exact hp) (by rw [eu 0 (by decide)]; exact ha) (by rw [eu 30 (by decide)]; exact hnx) (by omega) (by rw [eu 24 (by decide)]; exact hl) (by rw [eu 8 (by decide), eu 25 (by decide)]; exact (hC p).1) (by rw [eu 25 (by decide), eu 24 (by decide)]; exact fun _ => (hC p).2.2 hl) (fun τ Tf' A' hτ hT' => hK τ Tf' A' ?_ ?_)
    · rw [eg false false 0 _ ez rfl rfl rfl rfl]; exact hτ
    · rw [eg false false 0 _ ez rfl rfl rfl rfl]; exact hT'
  · refine gs_aload_n dX3_goes_149 rfl rfl ?_
    refine gs_aload_n dX3_goes_150 rfl rfl ?_
    refine g_cVV1 dX3_goes_151 vX3_241 (by decide) (kMa hb) (by decide) (Nat.le_of_ble_eq_true rfl) (c_takeFault (a := a) (c0 := 1 + 2 * S.1 5 (4 * a + wh)) hb hR hB2 hT2 hQ.2.2 (by rw [upd_n _ _ (by decide)]; exact h1) (upd_e _ _ _) (by rw [upd_n _ _ (by decide)]; exact h9) (by rw [eu 0 (by decide)]; exact hn) (by rw [eu 7 (by decide)]; exact hp) (by rw [eu 0 (by decide)]; exact ha) (by rw [eu 24 (by decide)]; exact hl) (by rw [eu 24 (by decide), eu 0 (by decide)]; exact hln p) hF2) ?_
    rintro σ ⟨A9, hQ9, hA9, hA97, hA98, hA99⟩
    have hQ := hQ.tr hQ9
    have hR := hQ.1
    have ez : (ulS wh 3 S a).1 26 p ≠ 0 := by omega
    have e3 : fdS (ulS wh 3 S a) p a = ftS (ulS wh 3 S a) p a := if_neg ez
    refine e_goes154 (df := true) (dm := ftMv (ulS wh 3 S a) p a) (x := x) (place := wh) (p := p) hb (by rw [hA9 0 (by decide), upd_n _ _ (by decide)]; exact h0) (by rw [hA9 1 (by decide), upd_n _ _ (by decide)]; exact h1) (by rw [hA9 2 (by decide), upd_n _ _ (by decide), ftS_ne (g := 11) (by decide) (by decide) (by decide) (by decide), eu 11 (by decide), hpx]; exact h2) (by rw [hA9 3 (by decide), upd_n _ _ (by decide), ftS_ne (g := 12) (by decide) (by decide) (by decide) (by decide), eu 12 (by decide), hc]; exact h3) (by rw [hA9 4 (by decide), upd_n _ _ (by decide), ftS_ne (g := 13) (by decide) (by decide) (by decide) (by decide), eu 13 (by decide)]; exact h4) (by rw [hA9 5 (by decide), upd_n _ _ (by decide), ftS_v0, ulS_v (by decide)]; exact h5) (by rw [hA9 6 (by decide), upd_n _ _ (by decide)]; exact h6) hA97 hA98 hA99 hQ (Bd_ftS hB2 (by omega) (by rw [eu 0 (by decide)]; exact hn)) (Tk_ft hT2 (by rw [eu 7 (by decide)]; exact hp) (by rw [eu 24 (by decide)]; exact hl) (by rw [eu 24 (by decide), eu 0 (by decide)]; exact hln p)) ⟨fun e => by rw [ftS_ne (g := 39) (by decide) (by decide) (by decide) (by decide)]; exact hcap2.1 e, fun e => by rw [ftS_ne (g := 39) (by decide) (by decide) (by decide) (by decide), ftS_ne (g := 34) (by decide) (by decide) (by decide) (by decide)]; exact hcap2.2 e⟩ (by rw [ftS_ne (g := 12) (by decide) (by decide) (by decide) (by decide), eu 12 (by decide)]; exact hc) hc4 (by rw [ftS_ne (g := 9) (by decide) (by decide) (by decide) (by decide), eu 9 (by decide)]; exact ht) (by rw [ftS_ne (g := 7) (by decide) (by decide) (by decide) (by decide), eu 7 (by decide)]; exact hp) (by rw [ftS_ne (g := 0) (by decide) (by decide) (by decide) (by decide), eu 0 (by decide)]; exact ha) (by rw [ftS_ne (g := 30) (by decide) (by decide) (by decide) (by decide), eu 30 (by decide)]; exact hnx) (by omega) (ftS_l (by rw [eu 24 (by decide)]; exact hl)) (by rw [ftS_ne (g := 8) (by decide) (by decide) (by decide) (by decide), ftS_ne (g := 25) (by decide) (by decide) (by decide) (by decide), eu 8 (by decide), eu 25 (by decide)]; exact (hC p).1) (fun z => ?_) (fun τ Tf' A' hτ hT' => hK τ Tf' A' ?_ ?_)
    · rw [ftS_ne (g := 8) (by decide) (by decide) (by decide) (by decide)] at z
      rw [ftS_24 (by rw [z]; decide), ftS_ne (g := 25) (by decide) (by decide) (by decide) (by decide), eu 25 (by decide), eu 24 (by decide)]
      exact (hC p).2.2 hl
    · rw [goS, e3, fdC, if_neg ez, fdF, decide_eq_true ez, fdM, if_neg ez, hc0]; exact hτ
    · rw [goS, e3, fdC, if_neg ez, fdF, decide_eq_true ez, fdM, if_neg ez, hc0]; exact hT'
theorem enS_31 {S : Sx} {t a x p place c1 : Nat} {df dm : Bool} : (enS S t a x p place c1 df dm).1 31 t = c1 + cqC S p a x := by
  rw [enS, ntS_ne (by decide), blS, setV_1, setV_1, setV_1, setV_1, setV_1, setV_1, setN_at, if_pos ⟨rfl, rfl⟩]
theorem goS_31 {S : Sx} {t a x p c place : Nat} : 0 < (goS S t a x p c place).1 31 t := by
  rw [goS, enS_31, c0S]; omega
theorem e_goes40 {b : Nat} {σ0 σ : Mm} {S : Sx} {Tf : Nat → Nat} {A : Nat → Int32} {K : Option Value → Mm → Prop} (hb : mch b) (hQ : Cq b σ0 S Tf A σ) (hT : Tk S Tf) (hI : Ic S) (hcap : cCap b S) {t a x p c wh : Nat} (h0 : A 0 = nI t) (h1 : A 1 = nI a) (h2 : A 2 = nI p) (h3 : A 3 = nI c) (h4 : A 4 = nI (S.1 13 x)) (h5 : A 5 = S.2.1 0 x) (h6 : A 6 = nI wh) (h8 : A 8 = nI 0) (h9 : A 9 = nI 0) (hnx : S.1 30 t < 60) (hp : p < S.1 7 0) (hc : S.1 12 x = c) (hc4 : c < 4) (ht : t < S.1 9 0) (hl : 0 < S.1 24 p) (ha : a < S.1 0 0) (hwh : whS S p c a = wh) (hrc : rcS S a wh = true) (hL : ∀ i, S.1 33 i ≤ 900) (hpx : S.1 11 x = p) (h31 : S.1 31 t = 0) (hK : ∀ τ Tf' A', Cq b σ0 (rdyS S t a x p c) Tf' A' τ → Tk (rdyS S t a x p c) Tf' → K (some (.int (bI (decide (0 < (rdyS S t a x p c).1 31 t))))) τ) : G W0 mX3_goes K 40 [some (.ref b), some (.int (nI t)), some (.ref (b + 78 + t)), none] [] σ := by
  have hI0 := hI
  obtain ⟨⟨hB, hn, hat, hln, hrh⟩, hH, hF, hC, hx⟩ := hI
  have bT := B_T hB 0
  have h10 : t < 10 := by omega
  have hw : wh < S.1 0 0 := by rw [← hwh]; exact whS_lt hn ha (hln p)
  have hr5 : S.1 5 (4 * a + wh) < 1000 := of_decide_eq_true hrc
  have hR := hQ.1
  refine gs_aload_n dX3_goes_40 rfl rfl ?_
  refine g_getR dX3_goes_41 fX3_64 (kMa hb) (by decide) (rMa_traffic hb) ?_
  refine gs_aload_n dX3_goes_44 rfl rfl ?_
  refine g_getR dX3_goes_45 fX3_28 (kMa hb) (by decide) (rMa_attempt hb) ?_
  refine g_getI dX3_goes_48 fX3_220 (kMa_attempt hb) (by decide) (show _ = nI a from by rw [hQ.2.2]; exact h1) ?_
  refine gs_aload_n dX3_goes_51 rfl rfl ?_
  refine g_getR dX3_goes_52 fX3_28 (kMa hb) (by decide) (rMa_attempt hb) ?_
  refine g_getI dX3_goes_55 fX3_221 (kMa_attempt hb) (by decide) (show _ = nI wh from by rw [hQ.2.2]; exact h6) ?_
  refine g_cVI2 dX3_goes_58 vX3_224 (by decide) (kMa_traffic hb) (by decide) (Nat.le_of_ble_eq_true rfl) (c_holdsUp hb hR hB hH ha hw hr5 (hrh a wh ha hw hr5)) ?_
  intro r σ h99
  obtain ⟨rfl, hQ9⟩ := hu_norm hR h99
  rw [hQ.2.2] at hQ9
  have hQ := hQ.tr hQ9
  have hR := hQ.1
  have ew : (hwS S wh a).1 9 0 = S.1 9 0 := by
    unfold hwS
    split <;> rfl
  have eW : (hwS S wh a).2.1 10 t = S.2.1 10 t := by
    unfold hwS
    split <;> rfl
  have hBw : Bd (hwS S wh a) := by
    unfold hwS
    split
    · exact hB
    · exact hB
  refine gb_if_eq (tgt := 76) dX3_goes_61 (by decide) (fun c61 => ?_) (fun c61 => ?_)
  · have eo : crS S wh 3 a = none := by
      cases hh : crS S wh 3 a with
      | none => rfl
      | some l => rw [hh] at c61; cases c61
    have eS : hwS S wh a = S := by rw [hwS, eo]
    have er : rdyS S t a x p c = goS S t a x p c wh := by rw [rdyS, hwh, if_neg (by rw [hrc]; decide), eo]
    rw [eS] at hQ
    refine e_goes76 hb hQ hT hI0 hcap h0 h1 h2 h3 h4 h5 h6 h8 h9 hnx hp hc hc4 ht hl ha hw hr5 (hrh a wh ha hw hr5) hL hpx (fun τ Tf' A' q1 q2 => ?_)
    have q := hK τ Tf' A' (by rw [er]; exact q1) (by rw [er]; exact q2)
    rw [er, decide_eq_true goS_31] at q
    exact q
  · refine gs_aload_n dX3_goes_64 rfl rfl ?_
    refine g_dup dX3_goes_65 rfl ?_
    refine g_getI dX3_goes_66 fX3_228 (kWk hb h10) (by decide) (show _ = S.2.1 10 t from by have q := CV_waits hR h10 (by rw [ew]; exact ht); rw [eW] at q; exact q) ?_
    refine g_iconst (v := nI 1) dX3_goes_69 (by decide) ?_
    refine g_iadd dX3_goes_70 rfl ?_
    refine gc_putI dX3_goes_71 pX3_228 (kWk hb h10) (by decide) (Or.inl rfl) (DV_waits hQ hb hBw h10) (fun σ hQ => ?_)
    have hR := hQ.1
    refine g_iconst (v := nI 0) dX3_goes_74 (by decide) ?_
    refine g_zreturn dX3_goes_75 rfl (by first | exact bI_01 _ | decide) ?_
    obtain ⟨l, eo⟩ : ∃ l, crS S wh 3 a = some l := by
      cases hh : crS S wh 3 a with
      | none => rw [hh] at c61; cases c61
      | some l => exact ⟨l, rfl⟩
    have er : rdyS S t a x p c = wgS S t l := by rw [rdyS, hwh, if_neg (by rw [hrc]; decide), eo]
    have eS : setV (hwS S wh a) 10 t (S.2.1 10 t + nI 1) = wgS S t l := by rw [hwS, eo, wgS, setV_comm (g := 15) (g' := 10) (by decide)]
    rw [eS] at hQ
    have q := hK σ Tf A (by rw [er]; exact hQ) (by rw [er]; exact Tk_of hT rfl rfl rfl rfl rfl)
    rw [er, decide_eq_false (show ¬ 0 < (wgS S t l).1 31 t by show ¬ 0 < S.1 31 t; omega)] at q
    exact q
theorem c_goes {b : Nat} {σ : Mm} {S : Sx} {Tf : Nat → Nat} (hb : mch b) (hR : RepC b σ S Tf) (hB : Bd S) (hT : Tk S Tf) (hI : Ic S) (hcap : cCap b S) {t : Nat} (ht : t < S.1 9 0) (hrd : rdS S t = true) (hL : ∀ i, S.1 33 i ≤ 900) (hTu : S.1 23 0 < 1073741824) : RI W0 mX3_goes [.ref b, .int (nI t)] σ (fun r τ => ∃ Tf' A', r = bI (decide (0 < (tryS S t).1 31 t)) ∧ Cq b σ (tryS S t) Tf' A' τ ∧ Tk (tryS S t) Tf') := by
  have hr := rdS_spec hrd
  have bT := B_T hB 0
  have h10 : t < 10 := by omega
  have b10 := B_told hB t
  have hnx : S.1 30 t < 60 := by omega
  have ha : S.1 29 t < S.1 0 0 := hI.1.2.2.1 t
  have b11 := B_aPage hB (60 * t + S.1 30 t)
  have b12 := B_aCell hB (60 * t + S.1 30 t)
  refine G.met (by decide) (Nat.le_of_ble_eq_true rfl) ?_
  show G _ _ _ 0 [some (.ref b), some (.int (nI t)), none, none] [] σ
  refine gs_aload_n dX3_goes_0 rfl rfl ?_
  refine g_getR dX3_goes_1 fX3_40 (kMa hb) (by decide) (rMa_workers hb) ?_
  refine gs_iload_n dX3_goes_4 rfl rfl ?_
  refine g_aald27 dX3_goes_5 (kMa_workers hb) h10 (rWs hb h10) ?_
  refine gs_astore_n (ls' := [_, _, _, _]) dX3_goes_6 rfl rfl rfl ?_
  refine gs_aload_n dX3_goes_7 rfl rfl ?_
  refine g_getR dX3_goes_8 fX3_28 (kMa hb) (by decide) (rMa_attempt hb) ?_
  refine gs_iload_n dX3_goes_11 rfl rfl ?_
  refine gs_aload_n dX3_goes_12 rfl rfl ?_
  refine g_cVV2 dX3_goes_13 vX3_211 (by decide) (kMa_attempt hb) (by decide) (Nat.le_of_ble_eq_true rfl) (c_begin hb hR hB ht hnx) ?_
  rintro σ hQ
  have hR := hQ.1
  refine gs_aload_n dX3_goes_16 rfl rfl ?_
  refine g_cVI0 dX3_goes_17 vX3_214 (by decide) (kMa hb) (by decide) (Nat.le_of_ble_eq_true rfl) (c_canBeReached (a := S.1 29 t) (p := S.1 11 (60 * t + S.1 30 t)) (c := S.1 12 (60 * t + S.1 30 t)) hb hR hB hT hI hQ.2.2 rfl rfl rfl ha b11 b12 hTu) ?_
  rintro r σ ⟨S1, Tf1, A1, rb, rfl, hQ9, hT1, hS1, hg1, hg2⟩
  have hQ := hQ.tr hQ9
  have hR := hQ.1
  have hI1 : Ic S1 := by
    rcases hS1 with e | ⟨nd, ez, eo, e⟩
    · rw [e]; exact hI
    · rw [e]; exact Ic_pl hI ez (plO_lt hI.1.2.1 ha eo) hTu
  have e1 : ∀ g, g ≠ 24 → g ≠ 23 → S1.1 g = S.1 g := fun g h1 h2 => by
    rcases hS1 with e | ⟨nd, ez, eo, e⟩
    · rw [e]
    · rw [e]; exact plSt_ne h1 h2
  have e2 : S1.2 = S.2 := by
    rcases hS1 with e | ⟨nd, ez, eo, e⟩
    · rw [e]
    · rw [e]; rfl
  have hcap1 : cCap b S1 := ⟨fun e => by rw [e1 39 (by decide) (by decide)]; exact hcap.1 e, fun e => by rw [e1 39 (by decide) (by decide), e1 34 (by decide) (by decide)]; exact hcap.2 e⟩
  refine gb_if_ne (tgt := 40) dX3_goes_20 (by decide) (fun c20 => ?_) (fun c20 => ?_)
  · obtain ⟨hp, hc4, hl1, hrc, hA6, hA9, etr⟩ := hg2 c20
    refine e_goes40 (x := 60 * t + S.1 30 t) (wh := whS S1 (S.1 11 (60 * t + S.1 30 t)) (S.1 12 (60 * t + S.1 30 t)) (S.1 29 t)) hb hQ hT1 hI1 hcap1 (by rw [hA9 0 (by decide)]; rfl) (by rw [hA9 1 (by decide)]; rfl) (by rw [hA9 2 (by decide)]; rfl) (by rw [hA9 3 (by decide)]; rfl) (by rw [hA9 4 (by decide), e1 13 (by decide) (by decide)]; rfl) (by rw [hA9 5 (by decide), e2]; rfl) hA6 (by rw [hA9 8 (by decide)]; rfl) (by rw [hA9 9 (by decide)]; rfl) (by rw [e1 30 (by decide) (by decide)]; exact hnx) (by rw [e1 7 (by decide) (by decide)]; exact hp) (by rw [e1 12 (by decide) (by decide)]) hc4 (by rw [e1 9 (by decide) (by decide)]; exact ht) hl1 (by rw [e1 0 (by decide) (by decide)]; exact ha) rfl hrc (by rw [e1 33 (by decide) (by decide)]; exact hL) (by rw [e1 11 (by decide) (by decide)]) (by rw [e1 31 (by decide) (by decide)]; exact hr.2.1) (fun τ Tf' A' q1 q2 => ⟨_, rfl, Tf', A', ?_, ?_, ?_⟩)
    · rw [tryS, etr]
    · rw [tryS, etr]; exact q1
    · rw [tryS, etr]; exact q2
  · refine gs_aload_n dX3_goes_23 rfl rfl ?_
    refine g_iconst (v := nI 1) dX3_goes_24 (by decide) ?_
    refine gc_putI dX3_goes_25 pX3_217 (kWk hb h10) (by decide) (Or.inr ⟨rfl, by first | exact bI_01 _ | decide⟩) (D_ended hQ hb hI1.1.1 h10 (v := 1)) (fun σ hQ => ?_)
    have hR := hQ.1
    refine gs_aload_n dX3_goes_28 rfl rfl ?_
    refine g_dup dX3_goes_29 rfl ?_
    refine g_getI dX3_goes_30 fX3_112 (kMa hb) (by decide) (show _ = S1.2.1 6 0 from by have q := CV_failed hR; exact q) ?_
    refine g_iconst (v := nI 1) dX3_goes_33 (by decide) ?_
    refine g_iadd dX3_goes_34 rfl ?_
    refine gc_putI dX3_goes_35 pX3_112 (kMa hb) (by decide) (Or.inl rfl) (DV_failed hQ hb (Bd_setN hI1.1.1 (by decide))) (fun σ hQ => ?_)
    have hR := hQ.1
    refine g_iconst (v := nI 0) dX3_goes_38 (by decide) ?_
    refine g_zreturn dX3_goes_39 rfl (by first | exact bI_01 _ | decide) ?_
    have et : tryS S t = flS S1 t := hg1 c20 t _
    have e31 : (flS S1 t).1 31 t = 0 := by
      rw [flS, setV_1, setN_ne (by decide), e1 31 (by decide) (by decide)]; exact hr.2.1
    exact ⟨_, rfl, Tf1, A1, by rw [et, e31]; rfl, by rw [et]; exact hQ, by rw [et]; exact Tk_of hT1 rfl rfl rfl rfl rfl⟩
