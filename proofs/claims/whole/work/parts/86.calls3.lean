/-! Calls that change: page, thread, access, rule, prices, place. -/
theorem frK.rf (σ : Mm) : frK σ σ := ⟨fun _ _ => rfl, rfl⟩
theorem setV_of {S : Sx} {g i : Nat} {v : Int32} (h : S.2.1 g i = v) : setV S g i v = S := by
  refine Prod.ext rfl (Prod.ext ?_ rfl)
  funext g' i'
  show (if g' = g ∧ i' = i then v else S.2.1 g' i') = S.2.1 g' i'
  by_cases e : g' = g ∧ i' = i
  · rw [if_pos e, e.1, e.2, h]
  · rw [if_neg e]
theorem setN_of {S : Sx} {g i v : Nat} (h : S.1 g i = v) : setN S g i v = S := by rw [← h]; exact setN_self S g i
-- page
def pg1 (S : Sx) (k : Nat) : Sx := setN (setN (setN S 8 (S.1 7 0) k) 24 (S.1 7 0) 0) 7 0 (S.1 7 0 + 1)
def aPage (S : Sx) (x : Int32) : Int32 := if rg x 0 3 = true then (if S.1 7 0 = 20 then -2 else nI (S.1 7 0)) else -1
def nPage (S : Sx) (x : Int32) : Sx := if rg x 0 3 = true then (if S.1 7 0 = 20 then S else pg1 S (nN x)) else S
theorem pgS_eq {S : Sx} (h : Zp S) (k : Nat) : pgS S k = pg1 S k := by
  obtain ⟨z1, z2, z3, z4, z5, z6⟩ := h (S.1 7 0) (Nat.le_refl _)
  have e0 : cl0 S (S.1 7 0) = S := by
    unfold cl0
    rw [setV_of (i := 4 * S.1 7 0) (z6 0 (by decide)), setV_of (z6 1 (by decide)), setV_of (z6 2 (by decide)), setV_of (z6 3 (by decide))]
  unfold pgS bgS pg1
  rw [e0, setN_of (g := 25) (v := 0) (by rw [setN_ne (by decide), setN_ne (by decide)]; exact z1), setN_of (g := 27) (v := 0) (by rw [setN_ne (by decide), setN_ne (by decide)]; exact z3), setV_of (g := 7) (by rw [setN_2, setN_2]; exact z4), setV_of (g := 8) (by rw [setN_2, setN_2]; exact z5), setN_of (g := 26) (v := 0) (by rw [setN_ne (by decide), setN_ne (by decide)]; exact z2)]
theorem tk_lt {S S' : Sx} {a : Nat} : ∀ n, (∀ q, q < n → tkC S' a q = tkC S a q) → tk S' a n = tk S a n := by
  intro n
  induction n with
  | zero => intro _; rfl
  | succ n ih => intro h; rw [tk, tk, ih (fun q hq => h q (by omega)), h n (by omega)]
theorem Tk_pg {S : Sx} {Tf : Nat → Nat} (h : Tk S Tf) (k : Nat) : Tk (pg1 S k) Tf := by
  intro a ha
  have e0 : (pg1 S k).1 0 = S.1 0 := by unfold pg1; rw [setN_ne (by decide), setN_ne (by decide), setN_ne (by decide)]
  have e7 : (pg1 S k).1 7 0 = S.1 7 0 + 1 := by unfold pg1; rw [setN_at, if_pos ⟨rfl, rfl⟩]
  have e24 : ∀ q, (pg1 S k).1 24 q = if q = S.1 7 0 then 0 else S.1 24 q := fun q => by
    unfold pg1
    rw [setN_ne (by decide), setN_at]
    by_cases e : q = S.1 7 0
    · rw [if_pos ⟨rfl, e⟩, if_pos e]
    · rw [if_neg (fun z => e z.2), if_neg e, setN_ne (by decide)]
  have e8 : ∀ q, q ≠ S.1 7 0 → (pg1 S k).1 8 q = S.1 8 q := fun q hq => by
    unfold pg1
    rw [setN_ne (by decide), setN_ne (by decide), setN_at, if_neg (fun z => hq z.2)]
  have e25 : (pg1 S k).1 25 = S.1 25 := by unfold pg1; rw [setN_ne (by decide), setN_ne (by decide), setN_ne (by decide)]
  rw [e0] at ha
  rw [h a ha, e7, tk, tk_lt (S := S) (S' := pg1 S k) (S.1 7 0) (fun q hq => by unfold tkC; rw [show (pg1 S k).1 24 q = S.1 24 q from by rw [e24, if_neg (by omega)], e8 q (by omega), e25])]
  have : tkC (pg1 S k) a (S.1 7 0) = 0 := by unfold tkC; rw [e24, if_pos rfl, if_pos rfl]
  omega
theorem a_page {σ : Mm} {S : Sx} {H : Hx} (hJ : CI σ S H) (hPI : PI S) (x : Int32) : RI W0 mX11_page [.ref 0, .int x] σ (fun r τ => r = aPage S x ∧ CI τ (nPage S x) H ∧ frK σ τ) := by
  have hJ0 := hJ
  obtain ⟨⟨Tf, hR, hTk⟩, hSh, hTr1, hTr2⟩ := hJ
  have hb : mch 57 := Or.inl rfl
  have hB : Bd S := hPI.1.1.1.1
  have b0 := B_nodes hB 0
  have bP := B_P hB 0
  have bT := B_T hB 0
  refine G.met (by decide) (Nat.le_of_ble_eq_true rfl) ?_
  show G _ _ _ 0 [some (.ref 0), some (.int x)] [] σ
  refine gs_iload_n dX11_page_0 rfl rfl ?_
  refine g_iconst (v := nI 0) dX11_page_1 (by decide) ?_
  refine g_iconst (v := nI 3) dX11_page_2 (by decide) ?_
  refine g_cSI3 dX11_page_3 vX11_50 (by decide) (Nat.le_of_ble_eq_true rfl) (c_within (by decide) (by decide)) ?_
  rintro _ σ ⟨rfl, e9⟩
  subst e9
  refine gb_if_ne (tgt := 11) dX11_page_6 (by decide) (fun c6 => ?_) (fun c6 => ?_)
  · obtain ⟨k, hkl, hk, rfl⟩ := rg_of c6
    refine gs_aload_n dX11_page_11 rfl rfl ?_
    refine g_getR dX11_page_12 fX11_32 kFC (by decide) rFC_machine ?_
    refine g_getI dX11_page_15 fX11_85 (kMa hb) (by decide) (C_P hR) ?_
    refine g_bipush (v := nI 20) dX11_page_18 (by decide) ?_
    refine gn_icmp_ne (tgt := 28) dX11_page_20 (by decide) (by omega) (by omega) (fun c20 => ?_) (fun c20 => ?_)
    · refine gs_aload_n dX11_page_28 rfl rfl ?_
      refine g_getR dX11_page_29 fX11_32 kFC (by decide) rFC_machine ?_
      refine gs_iload_n dX11_page_32 rfl rfl ?_
      refine g_cVI1 dX11_page_33 vX11_88 (by decide) (kMa hb) (by decide) (Nat.le_of_ble_eq_true rfl) (c_addPage hb hR hB (k := k) (by omega) (by omega)) ?_
      rintro _ τ ⟨rfl, hQ⟩
      rw [pgS_eq hPI.2.2.2.2.2.1] at hQ
      refine g_ireturn dX11_page_36 rfl ?_
      exact ⟨_, rfl, by rw [aPage, if_pos c6, if_neg c20], by rw [nPage, if_pos c6, if_neg c20, nN_n (by omega)]; exact hJ0.cq hQ (Tk_pg hTk k)⟩
    · refine g_bipush (v := -2) dX11_page_23 (by decide) ?_
      refine g_goto (tgt := 36) dX11_page_25 (by decide) ?_
      refine g_ireturn dX11_page_36 rfl ?_
      exact ⟨_, rfl, by rw [aPage, if_pos c6, if_pos c20], by rw [nPage, if_pos c6, if_pos c20]; exact hJ0, frK.rf _⟩
  · refine g_iconst (v := -1) dX11_page_9 (by decide) ?_
    refine g_ireturn dX11_page_10 rfl ?_
    exact ⟨_, rfl, by rw [aPage, if_neg (nbf c6)], by rw [nPage, if_neg (nbf c6)]; exact hJ0, frK.rf _⟩
theorem n_page {σ : Mm} {S : Sx} {H : Hx} (hJ : MI_ σ S H) (hPI : PI S) (x : Int32) : RI W0 mX12_page [.ref 258, .int x] σ (fun r τ => r = aPage S x ∧ MJ σ (nPage S x) H τ) := by
  have hB : Bd S := hPI.1.1.1.1
  have b0 := B_nodes hB 0
  have bP := B_P hB 0
  have bT := B_T hB 0
  refine G.met (by decide) (Nat.le_of_ble_eq_true rfl) ?_
  show G _ _ _ 0 [some (.ref 258), some (.int x)] [] σ
  refine gs_aload_n dX12_page_0 rfl rfl ?_
  refine g_iconst (v := nI 0) dX12_page_1 (by decide) ?_
  refine gp_putI dX12_page_2 pX12_194 kwM (by decide) (Or.inl rfl) ((MJ.rf hJ).off off0 (by decide)) (fun σ hQ => ?_)
  have hM := hQ.1.1
  have hC0 := hQ.1.2.1
  refine gs_iload_n dX12_page_5 rfl rfl ?_
  refine g_i2l dX12_page_6 rfl ?_
  refine g_lconst (v := 0) dX12_page_7 (by decide) ?_
  refine g_ldc2 dX12_page_8 qX12_226 ?_
  refine g_cSI3 dX12_page_11 vX12_214 (by decide) (Nat.le_of_ble_eq_true rfl) (m_isIn (a := 0) (b := 3) (by decide) (by decide)) ?_
  rintro _ σ ⟨rfl, e9⟩
  subst e9
  refine gb_if_ne (tgt := 19) dX12_page_14 (by decide) (fun c14 => ?_) (fun c14 => ?_)
  · obtain ⟨k, hkl, hk, rfl⟩ := rg_of c14
    refine gs_aload_n dX12_page_19 rfl rfl ?_
    refine g_getI dX12_page_20 fX12_197 kwM (by decide) (M_P hM) ?_
    refine g_bipush (v := nI 20) dX12_page_23 (by decide) ?_
    refine gn_icmp_ne (tgt := 31) dX12_page_25 (by decide) (by omega) (by omega) (fun c25 => ?_) (fun c25 => ?_)
    · have hP20 : S.1 7 0 < 20 := by omega
      refine gs_aload_n dX12_page_31 rfl rfl ?_
      refine g_getR dX12_page_32 fX12_19 kwM (by decide) rM_kind ?_
      refine gs_aload_n dX12_page_35 rfl rfl ?_
      refine g_getI dX12_page_36 fX12_197 kwM (by decide) (M_P hM) ?_
      refine gs_iload_n dX12_page_39 rfl rfl ?_
      refine gp_iast dX12_page_40 kw_kind (by omega) (Z_kind hQ hP20) (fun σ hQ => ?_)
      have hM := hQ.1.1
      have hC0 := hQ.1.2.1
      refine gs_aload_n dX12_page_41 rfl rfl ?_
      refine g_getR dX12_page_42 fX12_79 kwM (by decide) rM_lies ?_
      refine gs_aload_n dX12_page_45 rfl rfl ?_
      refine g_getI dX12_page_46 fX12_197 kwM (by decide) (show _ = nI (S.1 7 0) from by have q := M_P hM; rw [setN_ne (by decide)] at q; exact q) ?_
      refine g_bipush (v := -2) dX12_page_49 (by decide) ?_
      refine gp_iast dX12_page_51 kw_lies (by omega) (show MJ _ (setN (setN S 8 (S.1 7 0) k) 24 (S.1 7 0) 0) H _ from Z_lies (v := 0) hQ (Bd_setN hB (show k ≤ 3 from hk)) hP20) (fun σ hQ => ?_)
      have hM := hQ.1.1
      have hC0 := hQ.1.2.1
      refine gs_aload_n dX12_page_52 rfl rfl ?_
      refine g_dup dX12_page_53 rfl ?_
      refine g_getI dX12_page_54 fX12_197 kwM (by decide) (show _ = nI (S.1 7 0) from by have q := M_P hM; rw [setN_ne (by decide), setN_ne (by decide)] at q; exact q) ?_
      refine g_iconst (v := nI 1) dX12_page_57 (by decide) ?_
      refine g_iadd dX12_page_58 (by first | exact nI_add _ _ | rfl) ?_
      refine gp_putI dX12_page_59 pX12_197 kwM (by decide) (Or.inl rfl) (Z_P hQ) (fun σ hQ => ?_)
      have hM := hQ.1.1
      have hC0 := hQ.1.2.1
      refine gs_aload_n dX12_page_62 rfl rfl ?_
      refine g_getI dX12_page_63 fX12_197 kwM (by decide) (show _ = nI (S.1 7 0 + 1) from by have q := M_P hM; rw [setN_at, if_pos ⟨rfl, rfl⟩] at q; exact q) ?_
      refine g_iconst (v := nI 1) dX12_page_66 (by decide) ?_
      refine g_isub dX12_page_67 (pk_sub (by omega)) ?_
      refine g_ireturn dX12_page_68 rfl ?_
      exact ⟨_, rfl, by rw [aPage, if_pos c14, if_neg c25, Nat.add_sub_cancel], by rw [nPage, if_pos c14, if_neg c25, nN_n (by omega)]; exact hQ⟩
    · refine g_bipush (v := -2) dX12_page_28 (by decide) ?_
      refine g_ireturn dX12_page_30 rfl ?_
      exact ⟨_, rfl, by rw [aPage, if_pos c14, if_pos c25], by rw [nPage, if_pos c14, if_pos c25]; exact hQ⟩
  · refine g_iconst (v := -1) dX12_page_17 (by decide) ?_
    refine g_ireturn dX12_page_18 rfl ?_
    exact ⟨_, rfl, by rw [aPage, if_neg (nbf c14)], by rw [nPage, if_neg (nbf c14)]; exact hQ⟩
def th1 (S : Sx) (a : Nat) : Sx := setN (setN (setN (setN (setQ S a (S.2.2 a ++ [S.1 9 0])) 29 (S.1 9 0) a) 35 (S.1 9 0) (S.1 36 0)) 36 0 (S.1 36 0 + 1)) 9 0 (S.1 9 0 + 1)
def aThread (S : Sx) (x : Int32) : Int32 := if inN x (S.1 0 0) = true then (if S.1 9 0 = 10 then -2 else nI (S.1 9 0)) else -1
def nThread (S : Sx) (x : Int32) : Sx := if inN x (S.1 0 0) = true then (if S.1 9 0 = 10 then S else th1 S (nN x)) else S
theorem wk_eq {S : Sx} (h : Zt S) (a : Nat) : setN (setN (wkS S a) 35 (S.1 9 0) (S.1 36 0)) 36 0 (S.1 36 0 + 1) = th1 S a := by
  obtain ⟨z1, z2, z3, z4, z5, z6⟩ := h (S.1 9 0) (Nat.le_refl _)
  have e : bwS S (S.1 9 0) a = setN S 29 (S.1 9 0) a := by
    unfold bwS
    rw [setN_of (g := 30) (v := 0) (by rw [setN_ne (by decide)]; exact z1), setN_of (g := 31) (v := 0) (by rw [setN_ne (by decide)]; exact z2), setV_of (g := 10) (by rw [setN_2]; exact z4), setV_of (g := 11) (by rw [setN_2]; exact z5), setV_of (g := 12) (by rw [setN_2]; exact z6), setN_of (g := 32) (v := 0) (by rw [setN_ne (by decide)]; exact z3)]
  unfold wkS th1
  rw [e, setN_comm (g := 9) (g' := 35) (by decide), setN_comm (g := 9) (g' := 36) (by decide)]
  rfl
theorem Tk_q {S : Sx} {Tf : Nat → Nat} (h : Tk S Tf) {a : Nat} {l : List Nat} : Tk (setQ S a l) Tf := Tk_of h rfl rfl rfl rfl rfl
theorem MJ.q {σ0 σ : Mm} {S : Sx} {H : Hx} (h : MJ σ0 S H σ) {a : Nat} {l : List Nat} : MJ σ0 (setQ S a l) H σ := h
theorem cnt_lt {p : Nat → Bool} {t : Nat} (h : p t = false) : ∀ n, t < n → cntB p n < n := by
  intro n
  induction n with
  | zero => intro z; omega
  | succ n ih =>
    intro z
    rw [cntB]
    rcases Nat.lt_or_ge t n with q | q
    · have := ih q; split <;> omega
    · have : t = n := by omega
      rw [← this, if_neg (by rw [h]; decide)]
      have := cnt_le p t
      omega
theorem a_thread {σ : Mm} {S : Sx} {H : Hx} (hJ : CI σ S H) (hPI : PI S) (x : Int32) : RI W0 mX11_thread [.ref 0, .int x] σ (fun r τ => r = aThread S x ∧ CI τ (nThread S x) H ∧ frK σ τ) := by
  have hJ0 := hJ
  obtain ⟨⟨Tf, hR, hTk⟩, hSh, hTr1, hTr2⟩ := hJ
  have hb : mch 57 := Or.inl rfl
  have hB : Bd S := hPI.1.1.1.1
  have b0 := B_nodes hB 0
  have bP := B_P hB 0
  have bT := B_T hB 0
  refine G.met (by decide) (Nat.le_of_ble_eq_true rfl) ?_
  show G _ _ _ 0 [some (.ref 0), some (.int x)] [] σ
  refine gs_aload_n dX11_thread_0 rfl rfl ?_
  refine g_getR dX11_thread_1 fX11_18 kFC (by decide) rFC_board ?_
  refine gs_iload_n dX11_thread_4 rfl rfl ?_
  refine g_cVI1 dX11_thread_5 vX11_69 (by decide) bdW0.1 (by decide) (Nat.le_of_ble_eq_true rfl) (c_has hb hR hB _) ?_
  rintro _ σ ⟨rfl, e9⟩
  subst e9
  refine gb_if_ne (tgt := 13) dX11_thread_8 (by decide) (fun c8 => ?_) (fun c8 => ?_)
  · obtain ⟨a, ha, rfl⟩ := inN_of c8 (by omega)
    have hl : S.1 9 0 ≠ 10 → (S.2.2 a).length < 10 := fun z => by
      rw [q_len hPI.1.2.2.2.1 (by omega)]
      have := cnt_le (onN S a) (S.1 9 0)
      omega
    refine gs_aload_n dX11_thread_13 rfl rfl ?_
    refine g_getR dX11_thread_14 fX11_32 kFC (by decide) rFC_machine ?_
    refine g_getI dX11_thread_17 fX11_92 (kMa hb) (by decide) (C_T hR) ?_
    refine g_bipush (v := nI 10) dX11_thread_20 (by decide) ?_
    refine gn_icmp_ne (tgt := 30) dX11_thread_22 (by decide) (by omega) (by omega) (fun c22 => ?_) (fun c22 => ?_)
    · refine gs_aload_n dX11_thread_30 rfl rfl ?_
      refine g_getR dX11_thread_31 fX11_32 kFC (by decide) rFC_machine ?_
      refine gs_iload_n dX11_thread_34 rfl rfl ?_
      refine g_cVI1 dX11_thread_35 vX11_95 (by decide) (kMa hb) (by decide) (Nat.le_of_ble_eq_true rfl) (c_addWorker hb hR hB (a := a) (by omega) (by omega) (hl c22)) ?_
      rintro _ τ ⟨rfl, hQ⟩
      have hQ := (hQ.ghost (g := 35) (i := S.1 9 0) (v := S.1 36 0) sz35 rfl).ghost (g := 36) (i := 0) (v := S.1 36 0 + 1) sz36 rfl
      rw [wk_eq hPI.2.2.2.2.2.2] at hQ
      refine g_ireturn dX11_thread_38 rfl ?_
      exact ⟨_, rfl, by rw [aThread, if_pos c8, if_neg c22], by rw [nThread, if_pos c8, if_neg c22, nN_n (by omega)]; exact hJ0.cq hQ (Tk_of hTk (by rw [th1, setN_ne (by decide), setN_ne (by decide), setN_ne (by decide), setN_ne (by decide)]; rfl) (by rw [th1, setN_ne (by decide), setN_ne (by decide), setN_ne (by decide), setN_ne (by decide)]; rfl) (by rw [th1, setN_ne (by decide), setN_ne (by decide), setN_ne (by decide), setN_ne (by decide)]; rfl) (by rw [th1, setN_ne (by decide), setN_ne (by decide), setN_ne (by decide), setN_ne (by decide)]; rfl) (by rw [th1, setN_ne (by decide), setN_ne (by decide), setN_ne (by decide), setN_ne (by decide)]; rfl))⟩
    · refine g_bipush (v := -2) dX11_thread_25 (by decide) ?_
      refine g_goto (tgt := 38) dX11_thread_27 (by decide) ?_
      refine g_ireturn dX11_thread_38 rfl ?_
      exact ⟨_, rfl, by rw [aThread, if_pos c8, if_pos c22], by rw [nThread, if_pos c8, if_pos c22]; exact hJ0, frK.rf _⟩
  · refine g_iconst (v := -1) dX11_thread_11 (by decide) ?_
    refine g_ireturn dX11_thread_12 rfl ?_
    exact ⟨_, rfl, by rw [aThread, if_neg (nbf c8)], by rw [nThread, if_neg (nbf c8)]; exact hJ0, frK.rf _⟩
theorem n_thread {σ : Mm} {S : Sx} {H : Hx} (hJ : MI_ σ S H) (hPI : PI S) (x : Int32) : RI W0 mX12_thread [.ref 258, .int x] σ (fun r τ => r = aThread S x ∧ MJ σ (nThread S x) H τ) := by
  have hB : Bd S := hPI.1.1.1.1
  have b0 := B_nodes hB 0
  have bP := B_P hB 0
  have bT := B_T hB 0
  refine G.met (by decide) (Nat.le_of_ble_eq_true rfl) ?_
  show G _ _ _ 0 [some (.ref 258), some (.int x)] [] σ
  refine gs_aload_n dX12_thread_0 rfl rfl ?_
  refine g_iconst (v := nI 0) dX12_thread_1 (by decide) ?_
  refine gp_putI dX12_thread_2 pX12_194 kwM (by decide) (Or.inl rfl) ((MJ.rf hJ).off off0 (by decide)) (fun σ hQ => ?_)
  have hM := hQ.1.1
  have hC0 := hQ.1.2.1
  refine gs_aload_n dX12_thread_5 rfl rfl ?_
  refine gs_iload_n dX12_thread_6 rfl rfl ?_
  refine g_cVI1 dX12_thread_7 vX12_204 (by decide) kwM (by decide) (Nat.le_of_ble_eq_true rfl) (s_isNode (M_nodes hM) (by omega) _) ?_
  rintro _ σ ⟨rfl, e9⟩
  subst e9
  refine gb_if_ne (tgt := 15) dX12_thread_10 (by decide) (fun c10 => ?_) (fun c10 => ?_)
  · obtain ⟨a, ha, rfl⟩ := inN_of c10 (by omega)
    refine gs_aload_n dX12_thread_15 rfl rfl ?_
    refine g_getI dX12_thread_16 fX12_200 kwM (by decide) (M_T hM) ?_
    refine g_bipush (v := nI 10) dX12_thread_19 (by decide) ?_
    refine gn_icmp_ne (tgt := 27) dX12_thread_21 (by decide) (by omega) (by omega) (fun c21 => ?_) (fun c21 => ?_)
    · have hT10 : S.1 9 0 < 10 := by omega
      have hB1 : Bd (setN S 29 (S.1 9 0) a) := Bd_setN hB (show a ≤ 3 by omega)
      have hB2 : Bd (setN (setN S 29 (S.1 9 0) a) 35 (S.1 9 0) (S.1 36 0)) := Bd_setN hB1 (B_stamps hB 0)
      refine gs_aload_n dX12_thread_27 rfl rfl ?_
      refine g_getR dX12_thread_28 fX12_103 kwM (by decide) rM_at ?_
      refine gs_aload_n dX12_thread_31 rfl rfl ?_
      refine g_getI dX12_thread_32 fX12_200 kwM (by decide) (M_T hM) ?_
      refine gs_iload_n dX12_thread_35 rfl rfl ?_
      refine gp_iast dX12_thread_36 kw_at (by omega) (Z_at hQ hB hT10) (fun σ hQ => ?_)
      have hM := hQ.1.1
      have hC0 := hQ.1.2.1
      refine gs_aload_n dX12_thread_37 rfl rfl ?_
      refine g_getR dX12_thread_38 fX12_106 kwM (by decide) rM_stamp ?_
      refine gs_aload_n dX12_thread_41 rfl rfl ?_
      refine g_getI dX12_thread_42 fX12_200 kwM (by decide) (show _ = nI (S.1 9 0) from by have q := M_T hM; rw [setN_ne (by decide)] at q; exact q) ?_
      refine gs_aload_n dX12_thread_45 rfl rfl ?_
      refine g_getR dX12_thread_46 fX12_76 kwM (by decide) rM_stamps ?_
      refine g_iconst (v := nI 0) dX12_thread_49 (by decide) ?_
      refine g_iald dX12_thread_50 kw_stamps (by omega) (show _ = nI (S.1 36 0) from by have q := M_stamps hM; rw [setN_ne (by decide)] at q; exact q) ?_
      refine gp_iast dX12_thread_51 kw_stamp (by omega) (Z_stamp (v := S.1 36 0) hQ hB1 hT10) (fun σ hQ => ?_)
      have hM := hQ.1.1
      have hC0 := hQ.1.2.1
      refine gs_aload_n dX12_thread_52 rfl rfl ?_
      refine g_getR dX12_thread_53 fX12_76 kwM (by decide) rM_stamps ?_
      refine g_iconst (v := nI 0) dX12_thread_56 (by decide) ?_
      refine g_dup2 dX12_thread_57 rfl rfl ?_
      refine g_iald dX12_thread_58 kw_stamps (by omega) (show _ = nI (S.1 36 0) from by have q := M_stamps hM; rw [setN_ne (by decide), setN_ne (by decide)] at q; exact q) ?_
      refine g_iconst (v := nI 1) dX12_thread_59 (by decide) ?_
      refine g_iadd dX12_thread_60 (by first | exact nI_add _ _ | rfl) ?_
      refine gp_iast dX12_thread_61 kw_stamps (by omega) (Z_stamps (v := S.1 36 0 + 1) hQ hB2) (fun σ hQ => ?_)
      have hM := hQ.1.1
      have hC0 := hQ.1.2.1
      refine gs_aload_n dX12_thread_62 rfl rfl ?_
      refine g_dup dX12_thread_63 rfl ?_
      refine g_getI dX12_thread_64 fX12_200 kwM (by decide) (show _ = nI (S.1 9 0) from by have q := M_T hM; rw [setN_ne (by decide), setN_ne (by decide), setN_ne (by decide)] at q; exact q) ?_
      refine g_iconst (v := nI 1) dX12_thread_67 (by decide) ?_
      refine g_iadd dX12_thread_68 (by first | exact nI_add _ _ | rfl) ?_
      refine gp_putI dX12_thread_69 pX12_200 kwM (by decide) (Or.inl rfl) (Z_T (v := S.1 9 0 + 1) hQ (by rw [setN_ne (by decide), setN_ne (by decide), setN_ne (by decide)]; omega)) (fun σ hQ => ?_)
      have hM := hQ.1.1
      have hC0 := hQ.1.2.1
      refine gs_aload_n dX12_thread_72 rfl rfl ?_
      refine g_getI dX12_thread_73 fX12_200 kwM (by decide) (show _ = nI (S.1 9 0 + 1) from by have q := M_T hM; rw [setN_at, if_pos ⟨rfl, rfl⟩] at q; exact q) ?_
      refine g_iconst (v := nI 1) dX12_thread_76 (by decide) ?_
      refine g_isub dX12_thread_77 (pk_sub (by omega)) ?_
      refine g_ireturn dX12_thread_78 rfl ?_
      exact ⟨_, rfl, by rw [aThread, if_pos c10, if_neg c21, Nat.add_sub_cancel], by rw [nThread, if_pos c10, if_neg c21, nN_n (by omega)]; exact hQ⟩
    · refine g_bipush (v := -2) dX12_thread_24 (by decide) ?_
      refine g_ireturn dX12_thread_26 rfl ?_
      exact ⟨_, rfl, by rw [aThread, if_pos c10, if_pos c21], by rw [nThread, if_pos c10, if_pos c21]; exact hQ⟩
  · refine g_iconst (v := -1) dX12_thread_13 (by decide) ?_
    refine g_ireturn dX12_thread_14 rfl ?_
    exact ⟨_, rfl, by rw [aThread, if_neg (nbf c10)], by rw [nThread, if_neg (nbf c10)]; exact hQ⟩
def rl1 (S : Sx) (p e g : Nat) : Sx := setN (setN (setN S 20 0 p) 21 0 e) 22 0 g
abbrev okRule (x y z : Int32) : Bool := rg x 0 2 && (rg y 0 50 && rg z 1 10)
def aRule (x y z : Int32) : Int32 := if okRule x y z = true then nI 0 else -1
def nRule (S : Sx) (x y z : Int32) : Sx := if okRule x y z = true then rl1 S (nN x) (nN y) (nN z) else S
theorem c_ruleOk {Ω : Nat × Nat} {σ : Mm} (x y z : Int32) : RI Ω mX11_ruleIsAllowed [.int x, .int y, .int z] σ (fun r τ => r = bI (okRule x y z) ∧ τ = σ) := by
  refine G.met (by decide) (Nat.le_of_ble_eq_true rfl) ?_
  show G _ _ _ 0 [some (.int x), some (.int y), some (.int z)] [] σ
  refine gs_iload_n dX11_ruleIsAllowed_0 rfl rfl ?_
  refine g_iconst (v := nI 0) dX11_ruleIsAllowed_1 (by decide) ?_
  refine g_iconst (v := nI 2) dX11_ruleIsAllowed_2 (by decide) ?_
  refine g_cSI3 dX11_ruleIsAllowed_3 vX11_50 (by decide) (Nat.le_of_ble_eq_true rfl) (c_within (by decide) (by decide)) ?_
  rintro _ σ ⟨rfl, e9⟩
  subst e9
  refine gb_if_eq (tgt := 33) dX11_ruleIsAllowed_6 (by decide) (fun c6 => ?_) (fun c6 => ?_)
  · refine g_iconst (v := nI 0) dX11_ruleIsAllowed_33 (by decide) ?_
    refine g_zreturn dX11_ruleIsAllowed_34 rfl (by first | exact bI_01 _ | decide) ?_
    exact ⟨_, rfl, by rw [okRule, c6]; rfl, rfl⟩
  · refine gs_iload_n dX11_ruleIsAllowed_9 rfl rfl ?_
    refine g_iconst (v := nI 0) dX11_ruleIsAllowed_10 (by decide) ?_
    refine g_bipush (v := nI 50) dX11_ruleIsAllowed_11 (by decide) ?_
    refine g_cSI3 dX11_ruleIsAllowed_13 vX11_50 (by decide) (Nat.le_of_ble_eq_true rfl) (c_within (by decide) (by decide)) ?_
    rintro _ σ ⟨rfl, e9⟩
    subst e9
    refine gb_if_eq (tgt := 33) dX11_ruleIsAllowed_16 (by decide) (fun c16 => ?_) (fun c16 => ?_)
    · refine g_iconst (v := nI 0) dX11_ruleIsAllowed_33 (by decide) ?_
      refine g_zreturn dX11_ruleIsAllowed_34 rfl (by first | exact bI_01 _ | decide) ?_
      exact ⟨_, rfl, by rw [okRule, c6, c16]; rfl, rfl⟩
    · refine gs_iload_n dX11_ruleIsAllowed_19 rfl rfl ?_
      refine g_iconst (v := nI 1) dX11_ruleIsAllowed_20 (by decide) ?_
      refine g_bipush (v := nI 10) dX11_ruleIsAllowed_21 (by decide) ?_
      refine g_cSI3 dX11_ruleIsAllowed_23 vX11_50 (by decide) (Nat.le_of_ble_eq_true rfl) (c_within (by decide) (by decide)) ?_
      rintro _ σ ⟨rfl, e9⟩
      subst e9
      refine gb_if_eq (tgt := 33) dX11_ruleIsAllowed_26 (by decide) (fun c26 => ?_) (fun c26 => ?_)
      · refine g_iconst (v := nI 0) dX11_ruleIsAllowed_33 (by decide) ?_
        refine g_zreturn dX11_ruleIsAllowed_34 rfl (by first | exact bI_01 _ | decide) ?_
        exact ⟨_, rfl, by rw [okRule, c6, c16, c26]; rfl, rfl⟩
      · refine g_iconst (v := nI 1) dX11_ruleIsAllowed_29 (by decide) ?_
        refine g_goto (tgt := 34) dX11_ruleIsAllowed_30 (by decide) ?_
        refine g_zreturn dX11_ruleIsAllowed_34 rfl (by first | exact bI_01 _ | decide) ?_
        exact ⟨_, rfl, by rw [okRule, c6, c16, c26]; rfl, rfl⟩
theorem c_choose {b : Nat} {σ : Mm} {S : Sx} {Tf : Nat → Nat} (hb : mch b) (hR : RepC b σ S Tf) (hB : Bd S) {p e g : Nat} (hp : p ≤ 2) (he : e ≤ 50) : RV W0 mX6_choose [.ref (b + 4), .int (nI p), .int (nI e), .int (nI g)] σ (fun τ => Cq b σ (rl1 S p e g) Tf (σ.1 (b + 5)) τ) := by
  have hB1 : Bd (setN S 20 0 p) := Bd_setN hB hp
  have hB2 : Bd (setN (setN S 20 0 p) 21 0 e) := Bd_setN hB1 he
  refine G.met (by decide) (Nat.le_of_ble_eq_true rfl) ?_
  show G _ _ _ 0 [some (.ref (b + 4)), some (.int (nI p)), some (.int (nI e)), some (.int (nI g))] [] σ
  refine gs_aload_n dX6_choose_0 rfl rfl ?_
  refine gs_iload_n dX6_choose_1 rfl rfl ?_
  refine gc_putI dX6_choose_2 pX6_9 (kMa_rules hb) (by decide) (Or.inl rfl) (D_placing (Cq.rf hR) hb hB) (fun σ hQ => ?_)
  have hR := hQ.1
  refine gs_aload_n dX6_choose_5 rfl rfl ?_
  refine gs_iload_n dX6_choose_6 rfl rfl ?_
  refine gc_putI dX6_choose_7 pX6_15 (kMa_rules hb) (by decide) (Or.inl rfl) (D_every hQ hb hB1) (fun σ hQ => ?_)
  have hR := hQ.1
  refine gs_aload_n dX6_choose_10 rfl rfl ?_
  refine gs_iload_n dX6_choose_11 rfl rfl ?_
  refine gc_putI dX6_choose_12 pX6_18 (kMa_rules hb) (by decide) (Or.inl rfl) (D_gain hQ hb hB2) (fun σ hQ => ?_)
  have hR := hQ.1
  refine g_return dX6_choose_15 rfl ?_
  exact ⟨rfl, hQ⟩
theorem a_rule {σ : Mm} {S : Sx} {H : Hx} (hJ : CI σ S H) (hPI : PI S) (x y z : Int32) : RI W0 mX11_rule [.ref 0, .int x, .int y, .int z] σ (fun r τ => r = aRule x y z ∧ CI τ (nRule S x y z) H ∧ frK σ τ) := by
  have hJ0 := hJ
  obtain ⟨⟨Tf, hR, hTk⟩, hSh, hTr1, hTr2⟩ := hJ
  have hb : mch 57 := Or.inl rfl
  have hB : Bd S := hPI.1.1.1.1
  have b0 := B_nodes hB 0
  have bP := B_P hB 0
  have bT := B_T hB 0
  refine G.met (by decide) (Nat.le_of_ble_eq_true rfl) ?_
  show G _ _ _ 0 [some (.ref 0), some (.int x), some (.int y), some (.int z)] [] σ
  refine gs_iload_n dX11_rule_0 rfl rfl ?_
  refine gs_iload_n dX11_rule_1 rfl rfl ?_
  refine gs_iload_n dX11_rule_2 rfl rfl ?_
  refine g_cSI3 dX11_rule_3 vX11_122 (by decide) (Nat.le_of_ble_eq_true rfl) (c_ruleOk _ _ _) ?_
  rintro _ σ ⟨rfl, e9⟩
  subst e9
  refine gb_if_ne (tgt := 11) dX11_rule_6 (by decide) (fun c6 => ?_) (fun c6 => ?_)
  · obtain ⟨c1, c2⟩ := Bool.and_eq_true_iff.mp c6
    obtain ⟨c2, c3⟩ := Bool.and_eq_true_iff.mp c2
    obtain ⟨p, hpl, hp, rfl⟩ := rg_of c1
    obtain ⟨e, hel, he, rfl⟩ := rg_of c2
    obtain ⟨g, hgl, hg, rfl⟩ := rg_of c3
    refine gs_aload_n dX11_rule_11 rfl rfl ?_
    refine g_getR dX11_rule_12 fX11_32 kFC (by decide) rFC_machine ?_
    refine g_getR dX11_rule_15 fX11_125 (kMa hb) (by decide) (rMa_rules hb) ?_
    refine gs_iload_n dX11_rule_18 rfl rfl ?_
    refine gs_iload_n dX11_rule_19 rfl rfl ?_
    refine gs_iload_n dX11_rule_20 rfl rfl ?_
    refine g_cVV3 dX11_rule_21 vX11_129 (by decide) (kMa_rules hb) (by decide) (Nat.le_of_ble_eq_true rfl) (c_choose hb hR hB (p := p) (e := e) (g := g) hp he) ?_
    rintro τ hQ
    refine g_iconst (v := nI 0) dX11_rule_24 (by decide) ?_
    refine g_ireturn dX11_rule_25 rfl ?_
    exact ⟨_, rfl, by rw [aRule, if_pos c6], by rw [nRule, if_pos c6, nN_n (by omega), nN_n (by omega), nN_n (by omega)]; exact hJ0.cq hQ (Tk_of hTk (by rw [rl1, setN_ne (by decide), setN_ne (by decide), setN_ne (by decide)]) (by rw [rl1, setN_ne (by decide), setN_ne (by decide), setN_ne (by decide)]) (by rw [rl1, setN_ne (by decide), setN_ne (by decide), setN_ne (by decide)]) (by rw [rl1, setN_ne (by decide), setN_ne (by decide), setN_ne (by decide)]) (by rw [rl1, setN_ne (by decide), setN_ne (by decide), setN_ne (by decide)]))⟩
  · refine g_iconst (v := -1) dX11_rule_9 (by decide) ?_
    refine g_ireturn dX11_rule_10 rfl ?_
    exact ⟨_, rfl, by rw [aRule, if_neg (nbf c6)], by rw [nRule, if_neg (nbf c6)]; exact hJ0, frK.rf _⟩
theorem n_rule {σ : Mm} {S : Sx} {H : Hx} (hJ : MI_ σ S H) (hPI : PI S) (x y z : Int32) : RI W0 mX12_rule [.ref 258, .int x, .int y, .int z] σ (fun r τ => r = aRule x y z ∧ MJ σ (nRule S x y z) H τ) := by
  have hB : Bd S := hPI.1.1.1.1
  have b0 := B_nodes hB 0
  have bP := B_P hB 0
  have bT := B_T hB 0
  refine G.met (by decide) (Nat.le_of_ble_eq_true rfl) ?_
  show G _ _ _ 0 [some (.ref 258), some (.int x), some (.int y), some (.int z)] [] σ
  refine gs_aload_n dX12_rule_0 rfl rfl ?_
  refine g_iconst (v := nI 0) dX12_rule_1 (by decide) ?_
  refine gp_putI dX12_rule_2 pX12_194 kwM (by decide) (Or.inl rfl) ((MJ.rf hJ).off off0 (by decide)) (fun σ hQ => ?_)
  have hM := hQ.1.1
  have hC0 := hQ.1.2.1
  refine gs_iload_n dX12_rule_5 rfl rfl ?_
  refine g_i2l dX12_rule_6 rfl ?_
  refine g_lconst (v := 0) dX12_rule_7 (by decide) ?_
  refine g_ldc2 dX12_rule_8 qX12_235 ?_
  refine g_cSI3 dX12_rule_11 vX12_214 (by decide) (Nat.le_of_ble_eq_true rfl) (m_isIn (a := 0) (b := 2) (by decide) (by decide)) ?_
  rintro _ σ ⟨rfl, e9⟩
  subst e9
  refine gb_if_eq (tgt := 41) dX12_rule_14 (by decide) (fun c14 => ?_) (fun c14 => ?_)
  · refine g_iconst (v := -1) dX12_rule_41 (by decide) ?_
    refine g_ireturn dX12_rule_42 rfl ?_
    exact ⟨_, rfl, by rw [aRule, if_neg (nb1 c14)], by rw [nRule, if_neg (nb1 c14)]; exact hQ⟩
  · refine gs_iload_n dX12_rule_17 rfl rfl ?_
    refine g_i2l dX12_rule_18 rfl ?_
    refine g_lconst (v := 0) dX12_rule_19 (by decide) ?_
    refine g_ldc2 dX12_rule_20 qX12_237 ?_
    refine g_cSI3 dX12_rule_23 vX12_214 (by decide) (Nat.le_of_ble_eq_true rfl) (m_isIn (a := 0) (b := 50) (by decide) (by decide)) ?_
    rintro _ σ ⟨rfl, e9⟩
    subst e9
    refine gb_if_eq (tgt := 41) dX12_rule_26 (by decide) (fun c26 => ?_) (fun c26 => ?_)
    · refine g_iconst (v := -1) dX12_rule_41 (by decide) ?_
      refine g_ireturn dX12_rule_42 rfl ?_
      exact ⟨_, rfl, by rw [aRule, if_neg (nb2 (nb1 c26))], by rw [nRule, if_neg (nb2 (nb1 c26))]; exact hQ⟩
    · refine gs_iload_n dX12_rule_29 rfl rfl ?_
      refine g_i2l dX12_rule_30 rfl ?_
      refine g_lconst (v := 1) dX12_rule_31 (by decide) ?_
      refine g_ldc2 dX12_rule_32 qX12_239 ?_
      refine g_cSI3 dX12_rule_35 vX12_214 (by decide) (Nat.le_of_ble_eq_true rfl) (m_isIn (a := 1) (b := 10) (by decide) (by decide)) ?_
      rintro _ σ ⟨rfl, e9⟩
      subst e9
      refine gb_if_ne (tgt := 43) dX12_rule_38 (by decide) (fun c38 => ?_) (fun c38 => ?_)
      · have c6 : okRule x y z = true := yb c14 (yb c26 c38)
        obtain ⟨c1, c2⟩ := Bool.and_eq_true_iff.mp c6
        obtain ⟨c2, c3⟩ := Bool.and_eq_true_iff.mp c2
        obtain ⟨p, hpl, hp, rfl⟩ := rg_of c1
        obtain ⟨e, hel, he, rfl⟩ := rg_of c2
        obtain ⟨g, hgl, hg, rfl⟩ := rg_of c3
        have hB1 : Bd (setN S 20 0 p) := Bd_setN hB hp
        have hB2 : Bd (setN (setN S 20 0 p) 21 0 e) := Bd_setN hB1 he
        refine gs_aload_n dX12_rule_43 rfl rfl ?_
        refine g_getR dX12_rule_44 fX12_45 kwM (by decide) rM_placing ?_
        refine g_iconst (v := nI 0) dX12_rule_47 (by decide) ?_
        refine gs_iload_n dX12_rule_48 rfl rfl ?_
        refine gp_iast dX12_rule_49 kw_placing (by omega) (Z_placing hQ hB) (fun σ hQ => ?_)
        have hM := hQ.1.1
        have hC0 := hQ.1.2.1
        refine gs_aload_n dX12_rule_50 rfl rfl ?_
        refine g_getR dX12_rule_51 fX12_48 kwM (by decide) rM_every ?_
        refine g_iconst (v := nI 0) dX12_rule_54 (by decide) ?_
        refine gs_iload_n dX12_rule_55 rfl rfl ?_
        refine gp_iast dX12_rule_56 kw_every (by omega) (Z_every hQ hB1) (fun σ hQ => ?_)
        have hM := hQ.1.1
        have hC0 := hQ.1.2.1
        refine gs_aload_n dX12_rule_57 rfl rfl ?_
        refine g_getR dX12_rule_58 fX12_51 kwM (by decide) rM_gain ?_
        refine g_iconst (v := nI 0) dX12_rule_61 (by decide) ?_
        refine gs_iload_n dX12_rule_62 rfl rfl ?_
        refine gp_iast dX12_rule_63 kw_gain (by omega) (Z_gain hQ hB2) (fun σ hQ => ?_)
        have hM := hQ.1.1
        have hC0 := hQ.1.2.1
        refine g_iconst (v := nI 0) dX12_rule_64 (by decide) ?_
        refine g_ireturn dX12_rule_65 rfl ?_
        exact ⟨_, rfl, by rw [aRule, if_pos c6], by rw [nRule, if_pos c6, nN_n (by omega), nN_n (by omega), nN_n (by omega)]; exact hQ⟩
      · refine g_iconst (v := -1) dX12_rule_41 (by decide) ?_
        refine g_ireturn dX12_rule_42 rfl ?_
        exact ⟨_, rfl, by rw [aRule, if_neg (nb2 (nb2 (nbf c38)))], by rw [nRule, if_neg (nb2 (nb2 (nbf c38)))]; exact hQ⟩
def pr1 (S : Sx) (f m : Nat) : Sx := setN (setN S 14 0 f) 15 0 m
abbrev okPr (x y : Int32) : Bool := rg x 0 20 && rg y 0 50
def aPrices (x y : Int32) : Int32 := if okPr x y = true then nI 0 else -1
def nPrices (S : Sx) (x y : Int32) : Sx := if okPr x y = true then pr1 S (nN x) (nN y) else S
theorem c_setPrices {b : Nat} {σ : Mm} {S : Sx} {Tf : Nat → Nat} (hb : mch b) (hR : RepC b σ S Tf) (hB : Bd S) {f m : Nat} (hf : f ≤ 20) : RV W0 mX6_setPrices [.ref (b + 4), .int (nI f), .int (nI m)] σ (fun τ => Cq b σ (pr1 S f m) Tf (σ.1 (b + 5)) τ) := by
  have hB1 : Bd (setN S 14 0 f) := Bd_setN hB hf
  refine G.met (by decide) (Nat.le_of_ble_eq_true rfl) ?_
  show G _ _ _ 0 [some (.ref (b + 4)), some (.int (nI f)), some (.int (nI m))] [] σ
  refine gs_aload_n dX6_setPrices_0 rfl rfl ?_
  refine gs_iload_n dX6_setPrices_1 rfl rfl ?_
  refine gc_putI dX6_setPrices_2 pX6_21 (kMa_rules hb) (by decide) (Or.inl rfl) (D_faultPrice (Cq.rf hR) hb hB) (fun σ hQ => ?_)
  have hR := hQ.1
  refine gs_aload_n dX6_setPrices_5 rfl rfl ?_
  refine gs_iload_n dX6_setPrices_6 rfl rfl ?_
  refine gc_putI dX6_setPrices_7 pX6_24 (kMa_rules hb) (by decide) (Or.inl rfl) (D_movePrice hQ hb hB1) (fun σ hQ => ?_)
  have hR := hQ.1
  refine g_return dX6_setPrices_10 rfl ?_
  exact ⟨rfl, hQ⟩
theorem a_prices {σ : Mm} {S : Sx} {H : Hx} (hJ : CI σ S H) (hPI : PI S) (x y : Int32) : RI W0 mX11_prices [.ref 0, .int x, .int y] σ (fun r τ => r = aPrices x y ∧ CI τ (nPrices S x y) H ∧ frK σ τ) := by
  have hJ0 := hJ
  obtain ⟨⟨Tf, hR, hTk⟩, hSh, hTr1, hTr2⟩ := hJ
  have hb : mch 57 := Or.inl rfl
  have hB : Bd S := hPI.1.1.1.1
  have b0 := B_nodes hB 0
  have bP := B_P hB 0
  have bT := B_T hB 0
  refine G.met (by decide) (Nat.le_of_ble_eq_true rfl) ?_
  show G _ _ _ 0 [some (.ref 0), some (.int x), some (.int y)] [] σ
  refine gs_iload_n dX11_prices_0 rfl rfl ?_
  refine g_iconst (v := nI 0) dX11_prices_1 (by decide) ?_
  refine g_bipush (v := nI 20) dX11_prices_2 (by decide) ?_
  refine g_cSI3 dX11_prices_4 vX11_50 (by decide) (Nat.le_of_ble_eq_true rfl) (c_within (by decide) (by decide)) ?_
  rintro _ σ ⟨rfl, e9⟩
  subst e9
  refine gb_if_eq (tgt := 20) dX11_prices_7 (by decide) (fun c7 => ?_) (fun c7 => ?_)
  · refine g_iconst (v := -1) dX11_prices_20 (by decide) ?_
    refine g_ireturn dX11_prices_21 rfl ?_
    exact ⟨_, rfl, by rw [aPrices, if_neg (nb1 c7)], by rw [nPrices, if_neg (nb1 c7)]; exact hJ0, frK.rf _⟩
  · refine gs_iload_n dX11_prices_10 rfl rfl ?_
    refine g_iconst (v := nI 0) dX11_prices_11 (by decide) ?_
    refine g_bipush (v := nI 50) dX11_prices_12 (by decide) ?_
    refine g_cSI3 dX11_prices_14 vX11_50 (by decide) (Nat.le_of_ble_eq_true rfl) (c_within (by decide) (by decide)) ?_
    rintro _ σ ⟨rfl, e9⟩
    subst e9
    refine gb_if_ne (tgt := 22) dX11_prices_17 (by decide) (fun c17 => ?_) (fun c17 => ?_)
    · obtain ⟨f, hfl, hf, rfl⟩ := rg_of c7
      obtain ⟨m, hml, hm, rfl⟩ := rg_of c17
      refine gs_aload_n dX11_prices_22 rfl rfl ?_
      refine g_getR dX11_prices_23 fX11_32 kFC (by decide) rFC_machine ?_
      refine g_getR dX11_prices_26 fX11_125 (kMa hb) (by decide) (rMa_rules hb) ?_
      refine gs_iload_n dX11_prices_29 rfl rfl ?_
      refine gs_iload_n dX11_prices_30 rfl rfl ?_
      refine g_cVV2 dX11_prices_31 vX11_134 (by decide) (kMa_rules hb) (by decide) (Nat.le_of_ble_eq_true rfl) (c_setPrices hb hR hB (f := f) (m := m) hf) ?_
      rintro τ hQ
      refine g_iconst (v := nI 0) dX11_prices_34 (by decide) ?_
      refine g_ireturn dX11_prices_35 rfl ?_
      exact ⟨_, rfl, by rw [aPrices, if_pos (yb c7 c17)], by rw [nPrices, if_pos (yb c7 c17), nN_n (by omega), nN_n (by omega)]; exact hJ0.cq hQ (Tk_of hTk (by rw [pr1, setN_ne (by decide), setN_ne (by decide)]) (by rw [pr1, setN_ne (by decide), setN_ne (by decide)]) (by rw [pr1, setN_ne (by decide), setN_ne (by decide)]) (by rw [pr1, setN_ne (by decide), setN_ne (by decide)]) (by rw [pr1, setN_ne (by decide), setN_ne (by decide)]))⟩
    · refine g_iconst (v := -1) dX11_prices_20 (by decide) ?_
      refine g_ireturn dX11_prices_21 rfl ?_
      exact ⟨_, rfl, by rw [aPrices, if_neg (nb2 (nbf c17))], by rw [nPrices, if_neg (nb2 (nbf c17))]; exact hJ0, frK.rf _⟩
theorem n_prices {σ : Mm} {S : Sx} {H : Hx} (hJ : MI_ σ S H) (hPI : PI S) (x y : Int32) : RI W0 mX12_prices [.ref 258, .int x, .int y] σ (fun r τ => r = aPrices x y ∧ MJ σ (nPrices S x y) H τ) := by
  have hB : Bd S := hPI.1.1.1.1
  have b0 := B_nodes hB 0
  have bP := B_P hB 0
  have bT := B_T hB 0
  refine G.met (by decide) (Nat.le_of_ble_eq_true rfl) ?_
  show G _ _ _ 0 [some (.ref 258), some (.int x), some (.int y)] [] σ
  refine gs_aload_n dX12_prices_0 rfl rfl ?_
  refine g_iconst (v := nI 0) dX12_prices_1 (by decide) ?_
  refine gp_putI dX12_prices_2 pX12_194 kwM (by decide) (Or.inl rfl) ((MJ.rf hJ).off off0 (by decide)) (fun σ hQ => ?_)
  have hM := hQ.1.1
  have hC0 := hQ.1.2.1
  refine gs_iload_n dX12_prices_5 rfl rfl ?_
  refine g_i2l dX12_prices_6 rfl ?_
  refine g_lconst (v := 0) dX12_prices_7 (by decide) ?_
  refine g_ldc2 dX12_prices_8 qX12_241 ?_
  refine g_cSI3 dX12_prices_11 vX12_214 (by decide) (Nat.le_of_ble_eq_true rfl) (m_isIn (a := 0) (b := 20) (by decide) (by decide)) ?_
  rintro _ σ ⟨rfl, e9⟩
  subst e9
  refine gb_if_eq (tgt := 29) dX12_prices_14 (by decide) (fun c14 => ?_) (fun c14 => ?_)
  · refine g_iconst (v := -1) dX12_prices_29 (by decide) ?_
    refine g_ireturn dX12_prices_30 rfl ?_
    exact ⟨_, rfl, by rw [aPrices, if_neg (nb1 c14)], by rw [nPrices, if_neg (nb1 c14)]; exact hQ⟩
  · refine gs_iload_n dX12_prices_17 rfl rfl ?_
    refine g_i2l dX12_prices_18 rfl ?_
    refine g_lconst (v := 0) dX12_prices_19 (by decide) ?_
    refine g_ldc2 dX12_prices_20 qX12_237 ?_
    refine g_cSI3 dX12_prices_23 vX12_214 (by decide) (Nat.le_of_ble_eq_true rfl) (m_isIn (a := 0) (b := 50) (by decide) (by decide)) ?_
    rintro _ σ ⟨rfl, e9⟩
    subst e9
    refine gb_if_ne (tgt := 31) dX12_prices_26 (by decide) (fun c26 => ?_) (fun c26 => ?_)
    · obtain ⟨f, hfl, hf, rfl⟩ := rg_of c14
      obtain ⟨m, hml, hm, rfl⟩ := rg_of c26
      refine gs_aload_n dX12_prices_31 rfl rfl ?_
      refine gs_iload_n dX12_prices_32 rfl rfl ?_
      refine gp_putI dX12_prices_33 pX12_38 kwM (by decide) (Or.inl rfl) (Z_faultPrice hQ) (fun σ hQ => ?_)
      have hM := hQ.1.1
      have hC0 := hQ.1.2.1
      refine gs_aload_n dX12_prices_36 rfl rfl ?_
      refine gs_iload_n dX12_prices_37 rfl rfl ?_
      refine gp_putI dX12_prices_38 pX12_42 kwM (by decide) (Or.inl rfl) (Z_movePrice hQ) (fun σ hQ => ?_)
      have hM := hQ.1.1
      have hC0 := hQ.1.2.1
      refine g_iconst (v := nI 0) dX12_prices_41 (by decide) ?_
      refine g_ireturn dX12_prices_42 rfl ?_
      exact ⟨_, rfl, by rw [aPrices, if_pos (yb c14 c26)], by rw [nPrices, if_pos (yb c14 c26), nN_n (by omega), nN_n (by omega)]; exact hQ⟩
    · refine g_iconst (v := -1) dX12_prices_29 (by decide) ?_
      refine g_ireturn dX12_prices_30 rfl ?_
      exact ⟨_, rfl, by rw [aPrices, if_neg (nb2 (nbf c26))], by rw [nPrices, if_neg (nb2 (nbf c26))]; exact hQ⟩
def fitS (S : Sx) (p a : Nat) : Bool := if S.1 8 p = 2 then arS S (S.1 0 0) else hrS S a
abbrev okPl (S : Sx) (x y : Int32) : Bool := inN x (S.1 7 0) && inN y (S.1 0 0)
def aPlace (S : Sx) (x y : Int32) : Int32 := if okPl S x y = true then (if fitS S (nN x) (nN y) = true then (if S.1 24 (nN x) = 0 then nI 0 else -3) else -2) else -1
def nPlace (S : Sx) (x y : Int32) : Sx := if okPl S x y = true then (if fitS S (nN x) (nN y) = true then (if S.1 24 (nN x) = 0 then setN S 24 (nN x) (nN y + 1) else S) else S) else S
theorem Tk_place {S : Sx} {Tf : Nat → Nat} {p nd : Nat} (hT : Tk S Tf) (hp : p < S.1 7 0) (hz : S.1 24 p = 0) (hc : S.1 25 p = 0) : Tk (setN S 24 p (nd + 1)) (layT S Tf p nd) := by
  have h := Tk_lay (nd := nd) hT hp hz hc
  refine Tk_of h ?_ ?_ ?_ ?_ ?_
  · rw [plSt_ne (by decide) (by decide), setN_ne (by decide)]
  · rw [plSt_ne (by decide) (by decide), setN_ne (by decide)]
  · rw [plSt_ne (by decide) (by decide), setN_ne (by decide)]
  · funext q
    rw [plSt_24, setN_at]
    by_cases e : q = p
    · rw [if_pos ⟨rfl, e⟩, if_pos e]
    · rw [if_neg (fun z => e z.2), if_neg e]
  · rw [plSt_ne (by decide) (by decide), setN_ne (by decide)]
theorem a_place {σ : Mm} {S : Sx} {H : Hx} (hJ : CI σ S H) (hPI : PI S) (x y : Int32) : RI W0 mX11_place [.ref 0, .int x, .int y] σ (fun r τ => r = aPlace S x y ∧ CI τ (nPlace S x y) H ∧ frK σ τ) := by
  have hJ0 := hJ
  obtain ⟨⟨Tf, hR, hTk⟩, hSh, hTr1, hTr2⟩ := hJ
  have hb : mch 57 := Or.inl rfl
  have hB : Bd S := hPI.1.1.1.1
  have b0 := B_nodes hB 0
  have bP := B_P hB 0
  have bT := B_T hB 0
  refine G.met (by decide) (Nat.le_of_ble_eq_true rfl) ?_
  show G _ _ _ 0 [some (.ref 0), some (.int x), some (.int y), none] [] σ
  refine gs_aload_n dX11_place_0 rfl rfl ?_
  refine g_getR dX11_place_1 fX11_32 kFC (by decide) rFC_machine ?_
  refine gs_iload_n dX11_place_4 rfl rfl ?_
  refine g_cVI1 dX11_place_5 vX11_138 (by decide) (kMa hb) (by decide) (Nat.le_of_ble_eq_true rfl) (c_hasPage hb hR hB _) ?_
  rintro _ σ ⟨rfl, e9⟩
  subst e9
  refine gb_if_eq (tgt := 22) dX11_place_8 (by decide) (fun c8 => ?_) (fun c8 => ?_)
  · refine g_iconst (v := -1) dX11_place_22 (by decide) ?_
    refine g_ireturn dX11_place_23 rfl ?_
    exact ⟨_, rfl, by rw [aPlace, if_neg (nb1 c8)], by rw [nPlace, if_neg (nb1 c8)]; exact ⟨hJ0, frK.rf _⟩⟩
  · refine gs_aload_n dX11_place_11 rfl rfl ?_
    refine g_getR dX11_place_12 fX11_18 kFC (by decide) rFC_board ?_
    refine gs_iload_n dX11_place_15 rfl rfl ?_
    refine g_cVI1 dX11_place_16 vX11_69 (by decide) bdW0.1 (by decide) (Nat.le_of_ble_eq_true rfl) (c_has hb hR hB _) ?_
    rintro _ σ ⟨rfl, e9⟩
    subst e9
    refine gb_if_ne (tgt := 24) dX11_place_19 (by decide) (fun c19 => ?_) (fun c19 => ?_)
    · obtain ⟨p, hp, rfl⟩ := inN_of c8 (by omega)
      obtain ⟨a, ha, rfl⟩ := inN_of c19 (by omega)
      have h20 : p < 20 := by omega
      have b24 := B_lies hB p
      refine gs_aload_n dX11_place_24 rfl rfl ?_
      refine g_getR dX11_place_25 fX11_32 kFC (by decide) rFC_machine ?_
      refine g_getR dX11_place_28 fX11_141 (kMa hb) (by decide) (rMa_pages hb) ?_
      refine gs_iload_n dX11_place_31 rfl rfl ?_
      refine g_aald24 dX11_place_32 (kMa_pages hb) h20 (rPs hb h20) ?_
      refine gs_astore_n (ls' := [_, _, _, _]) dX11_place_33 rfl rfl rfl ?_
      refine gs_aload_n dX11_place_34 rfl rfl ?_
      refine g_getR dX11_place_35 fX11_32 kFC (by decide) rFC_machine ?_
      refine gs_aload_n dX11_place_38 rfl rfl ?_
      refine gs_iload_n dX11_place_39 rfl rfl ?_
      refine g_cVI2 dX11_place_40 vX11_145 (by decide) (kMa hb) (by decide) (Nat.le_of_ble_eq_true rfl) (c_fits hb hR hB hTk hp ha) ?_
      rintro _ σ ⟨rfl, e9⟩
      subst e9
      refine gb_if_ne (tgt := 49) dX11_place_43 (by decide) (fun c43 => ?_) (fun c43 => ?_)
      · refine gs_aload_n dX11_place_49 rfl rfl ?_
        refine g_getI dX11_place_50 fX11_149 (kPg hb h20) (by decide) (C_lies hR (by omega) (by omega)) ?_
        refine g_iconst (v := -1) dX11_place_53 (by decide) ?_
        refine g_icmp_eq (tgt := 60) dX11_place_54 (by decide) (fun c54 => ?_) (fun c54 => ?_)
        · refine gs_aload_n dX11_place_60 rfl rfl ?_
          refine g_getR dX11_place_61 fX11_32 kFC (by decide) rFC_machine ?_
          refine gs_aload_n dX11_place_64 rfl rfl ?_
          refine gs_iload_n dX11_place_65 rfl rfl ?_
          refine g_cVV2 dX11_place_66 vX11_154 (by decide) (kMa hb) (by decide) (Nat.le_of_ble_eq_true rfl) (c_lay hb hR hB hp ha) ?_
          rintro τ hQ
          refine g_iconst (v := nI 0) dX11_place_69 (by decide) ?_
          refine g_ireturn dX11_place_70 rfl ?_
          have hz := lzC_z b24 c54
          exact ⟨_, rfl, by rw [aPlace, if_pos (yb c8 c19), nN_n (by omega), nN_n (by omega), if_pos (show fitS S p a = true from c43), if_pos hz], by rw [nPlace, if_pos (yb c8 c19), nN_n (by omega), nN_n (by omega), if_pos (show fitS S p a = true from c43), if_pos hz]; exact hJ0.cq hQ (Tk_place hTk hp hz ((hPI.1.1.2.2.2.1 p).2.1 hz))⟩
        · refine g_bipush (v := -3) dX11_place_57 (by decide) ?_
          refine g_ireturn dX11_place_59 rfl ?_
          have hz : S.1 24 p ≠ 0 := fun e => c54 (by rw [e]; rfl)
          exact ⟨_, rfl, by rw [aPlace, if_pos (yb c8 c19), nN_n (by omega), nN_n (by omega), if_pos (show fitS S p a = true from c43), if_neg hz], by rw [nPlace, if_pos (yb c8 c19), nN_n (by omega), nN_n (by omega), if_pos (show fitS S p a = true from c43), if_neg hz]; exact ⟨hJ0, frK.rf _⟩⟩
      · refine g_bipush (v := -2) dX11_place_46 (by decide) ?_
        refine g_ireturn dX11_place_48 rfl ?_
        exact ⟨_, rfl, by rw [aPlace, if_pos (yb c8 c19), nN_n (by omega), nN_n (by omega), if_neg (show ¬ fitS S p a = true from nbf c43)], by rw [nPlace, if_pos (yb c8 c19), nN_n (by omega), nN_n (by omega), if_neg (show ¬ fitS S p a = true from nbf c43)]; exact ⟨hJ0, frK.rf _⟩⟩
    · refine g_iconst (v := -1) dX11_place_22 (by decide) ?_
      refine g_ireturn dX11_place_23 rfl ?_
      exact ⟨_, rfl, by rw [aPlace, if_neg (nb2 (nbf c19))], by rw [nPlace, if_neg (nb2 (nbf c19))]; exact ⟨hJ0, frK.rf _⟩⟩
theorem n_place {σ : Mm} {S : Sx} {H : Hx} (hJ : MI_ σ S H) (hPI : PI S) (x y : Int32) : RI W0 mX12_place [.ref 258, .int x, .int y] σ (fun r τ => r = aPlace S x y ∧ MJ σ (nPlace S x y) H τ) := by
  have hB : Bd S := hPI.1.1.1.1
  have b0 := B_nodes hB 0
  have bP := B_P hB 0
  have bT := B_T hB 0
  refine G.met (by decide) (Nat.le_of_ble_eq_true rfl) ?_
  show G _ _ _ 0 [some (.ref 258), some (.int x), some (.int y)] [] σ
  refine gs_aload_n dX12_place_0 rfl rfl ?_
  refine g_iconst (v := nI 0) dX12_place_1 (by decide) ?_
  refine gp_putI dX12_place_2 pX12_194 kwM (by decide) (Or.inl rfl) ((MJ.rf hJ).off off0 (by decide)) (fun σ hQ => ?_)
  have hM := hQ.1.1
  have hC0 := hQ.1.2.1
  refine gs_aload_n dX12_place_5 rfl rfl ?_
  refine gs_iload_n dX12_place_6 rfl rfl ?_
  refine g_cVI1 dX12_place_7 vX12_253 (by decide) kwM (by decide) (Nat.le_of_ble_eq_true rfl) (s_isPage (M_P hM) (by omega) _) ?_
  rintro _ σ ⟨rfl, e9⟩
  subst e9
  refine gb_if_eq (tgt := 21) dX12_place_10 (by decide) (fun c10 => ?_) (fun c10 => ?_)
  · refine g_iconst (v := -1) dX12_place_21 (by decide) ?_
    refine g_ireturn dX12_place_22 rfl ?_
    exact ⟨_, rfl, by rw [aPlace, if_neg (nb1 c10)], by rw [nPlace, if_neg (nb1 c10)]; exact hQ⟩
  · refine gs_aload_n dX12_place_13 rfl rfl ?_
    refine gs_iload_n dX12_place_14 rfl rfl ?_
    refine g_cVI1 dX12_place_15 vX12_204 (by decide) kwM (by decide) (Nat.le_of_ble_eq_true rfl) (s_isNode (M_nodes hM) (by omega) _) ?_
    rintro _ σ ⟨rfl, e9⟩
    subst e9
    refine gb_if_ne (tgt := 23) dX12_place_18 (by decide) (fun c18 => ?_) (fun c18 => ?_)
    · obtain ⟨p, hp, rfl⟩ := inN_of c10 (by omega)
      obtain ⟨a, ha, rfl⟩ := inN_of c18 (by omega)
      have h20 : p < 20 := by omega
      have b24 := B_lies hB p
      have b8 := B_kind hB p
      refine gs_aload_n dX12_place_23 rfl rfl ?_
      refine g_getR dX12_place_24 fX12_19 kwM (by decide) rM_kind ?_
      refine gs_iload_n dX12_place_27 rfl rfl ?_
      refine g_iald dX12_place_28 kw_kind (by omega) (M_kind hM (by omega)) ?_
      refine g_iconst (v := nI 2) dX12_place_29 (by decide) ?_
      refine gn_icmp_ne (tgt := 43) dX12_place_30 (by decide) (by omega) (by omega) (fun c30 => ?_) (fun c30 => ?_)
      · refine gs_aload_n dX12_place_43 rfl rfl ?_
        refine gs_iload_n dX12_place_44 rfl rfl ?_
        refine g_cVI1 dX12_place_45 vX12_250 (by decide) kwM (by decide) (Nat.le_of_ble_eq_true rfl) (s_hasRoom hM hB hC0 (a := a) (by omega)) ?_
        rintro _ σ ⟨rfl, e9⟩
        subst e9
        refine gb_if_ne (tgt := 54) dX12_place_48 (by decide) (fun c48 => ?_) (fun c48 => ?_)
        · refine gs_aload_n dX12_place_54 rfl rfl ?_
          refine g_getR dX12_place_55 fX12_79 kwM (by decide) rM_lies ?_
          refine gs_iload_n dX12_place_58 rfl rfl ?_
          refine g_iald dX12_place_59 kw_lies (by omega) (M0_lies hM (by omega)) ?_
          refine g_bipush (v := -2) dX12_place_60 (by decide) ?_
          refine g_icmp_eq (tgt := 68) dX12_place_62 (by decide) (fun c62 => ?_) (fun c62 => ?_)
          · refine gs_aload_n dX12_place_68 rfl rfl ?_
            refine g_getR dX12_place_69 fX12_79 kwM (by decide) rM_lies ?_
            refine gs_iload_n dX12_place_72 rfl rfl ?_
            refine gs_iload_n dX12_place_73 rfl rfl ?_
            refine gp_iast dX12_place_74 kw_lies (by omega) (show MJ _ (setN S 24 p (a + 1)) H _ from by have q := Z_lies (v := a + 1) hQ hB h20; rw [lzM_s (by omega), Nat.add_sub_cancel] at q; exact q) (fun σ hQ => ?_)
            have hM := hQ.1.1
            have hC0 := hQ.1.2.1
            refine g_iconst (v := nI 0) dX12_place_75 (by decide) ?_
            refine g_ireturn dX12_place_76 rfl ?_
            have hz := (lzM_none b24).mp c62
            exact ⟨_, rfl, by rw [aPlace, if_pos (yb c10 c18), nN_n (by omega), nN_n (by omega), if_pos (by rw [fitS, if_neg c30]; exact c48), if_pos hz], by rw [nPlace, if_pos (yb c10 c18), nN_n (by omega), nN_n (by omega), if_pos (by rw [fitS, if_neg c30]; exact c48), if_pos hz]; exact hQ⟩
          · refine g_bipush (v := -3) dX12_place_65 (by decide) ?_
            refine g_ireturn dX12_place_67 rfl ?_
            have hz : S.1 24 p ≠ 0 := fun e => c62 (by rw [e]; rfl)
            exact ⟨_, rfl, by rw [aPlace, if_pos (yb c10 c18), nN_n (by omega), nN_n (by omega), if_pos (by rw [fitS, if_neg c30]; exact c48), if_neg hz], by rw [nPlace, if_pos (yb c10 c18), nN_n (by omega), nN_n (by omega), if_pos (by rw [fitS, if_neg c30]; exact c48), if_neg hz]; exact hQ⟩
        · refine g_bipush (v := -2) dX12_place_51 (by decide) ?_
          refine g_ireturn dX12_place_53 rfl ?_
          exact ⟨_, rfl, by rw [aPlace, if_pos (yb c10 c18), nN_n (by omega), nN_n (by omega), if_neg (nbf (by rw [fitS, if_neg c30]; exact c48))], by rw [nPlace, if_pos (yb c10 c18), nN_n (by omega), nN_n (by omega), if_neg (nbf (by rw [fitS, if_neg c30]; exact c48))]; exact hQ⟩
      · refine gs_aload_n dX12_place_33 rfl rfl ?_
        refine g_cVI0 dX12_place_34 vX12_256 (by decide) kwM (by decide) (Nat.le_of_ble_eq_true rfl) (s_allHaveRoom hM hB hC0) ?_
        rintro _ σ ⟨rfl, e9⟩
        subst e9
        refine gb_if_ne (tgt := 54) dX12_place_37 (by decide) (fun c37 => ?_) (fun c37 => ?_)
        · refine gs_aload_n dX12_place_54 rfl rfl ?_
          refine g_getR dX12_place_55 fX12_79 kwM (by decide) rM_lies ?_
          refine gs_iload_n dX12_place_58 rfl rfl ?_
          refine g_iald dX12_place_59 kw_lies (by omega) (M0_lies hM (by omega)) ?_
          refine g_bipush (v := -2) dX12_place_60 (by decide) ?_
          refine g_icmp_eq (tgt := 68) dX12_place_62 (by decide) (fun c62 => ?_) (fun c62 => ?_)
          · refine gs_aload_n dX12_place_68 rfl rfl ?_
            refine g_getR dX12_place_69 fX12_79 kwM (by decide) rM_lies ?_
            refine gs_iload_n dX12_place_72 rfl rfl ?_
            refine gs_iload_n dX12_place_73 rfl rfl ?_
            refine gp_iast dX12_place_74 kw_lies (by omega) (show MJ _ (setN S 24 p (a + 1)) H _ from by have q := Z_lies (v := a + 1) hQ hB h20; rw [lzM_s (by omega), Nat.add_sub_cancel] at q; exact q) (fun σ hQ => ?_)
            have hM := hQ.1.1
            have hC0 := hQ.1.2.1
            refine g_iconst (v := nI 0) dX12_place_75 (by decide) ?_
            refine g_ireturn dX12_place_76 rfl ?_
            have hz := (lzM_none b24).mp c62
            exact ⟨_, rfl, by rw [aPlace, if_pos (yb c10 c18), nN_n (by omega), nN_n (by omega), if_pos (by rw [fitS, if_pos c30]; exact c37), if_pos hz], by rw [nPlace, if_pos (yb c10 c18), nN_n (by omega), nN_n (by omega), if_pos (by rw [fitS, if_pos c30]; exact c37), if_pos hz]; exact hQ⟩
          · refine g_bipush (v := -3) dX12_place_65 (by decide) ?_
            refine g_ireturn dX12_place_67 rfl ?_
            have hz : S.1 24 p ≠ 0 := fun e => c62 (by rw [e]; rfl)
            exact ⟨_, rfl, by rw [aPlace, if_pos (yb c10 c18), nN_n (by omega), nN_n (by omega), if_pos (by rw [fitS, if_pos c30]; exact c37), if_neg hz], by rw [nPlace, if_pos (yb c10 c18), nN_n (by omega), nN_n (by omega), if_pos (by rw [fitS, if_pos c30]; exact c37), if_neg hz]; exact hQ⟩
        · refine g_goto (tgt := 51) dX12_place_40 (by decide) ?_
          refine g_bipush (v := -2) dX12_place_51 (by decide) ?_
          refine g_ireturn dX12_place_53 rfl ?_
          exact ⟨_, rfl, by rw [aPlace, if_pos (yb c10 c18), nN_n (by omega), nN_n (by omega), if_neg (nbf (by rw [fitS, if_pos c30]; exact c37))], by rw [nPlace, if_pos (yb c10 c18), nN_n (by omega), nN_n (by omega), if_neg (nbf (by rw [fitS, if_pos c30]; exact c37))]; exact hQ⟩
    · refine g_iconst (v := -1) dX12_place_21 (by decide) ?_
      refine g_ireturn dX12_place_22 rfl ?_
      exact ⟨_, rfl, by rw [aPlace, if_neg (nb2 (nbf c18))], by rw [nPlace, if_neg (nb2 (nbf c18))]; exact hQ⟩
