/-! The reference: cell, read, element, and what it says was thrown. -/
def MT (σ0 : Mm) (S : Sx) (H : Hx) (k : Int32) (τ : Mm) : Prop := MJ σ0 S H τ ∧ τ.1 258 0 = k ∧ τ.2 = σ0.2
theorem MT_put {σ : Mm} {S : Sx} {H : Hx} (h : MI_ σ S H) {v : Int32} : MT σ S H v (wI σ 258 0 v) := ⟨(MJ.rf h).off off0 (by decide), by rw [wI_at, if_pos ⟨rfl, rfl⟩], rfl⟩
theorem n_thrown {σ : Mm} : RI W0 mX12_thrown [.ref 258] σ (fun r τ => r = σ.1 258 0 ∧ τ = σ) := by
  refine G.met (by decide) (Nat.le_of_ble_eq_true rfl) ?_
  show G _ _ _ 0 [some (.ref 258)] [] σ
  refine gs_aload_n dX12_thrown_0 rfl rfl ?_
  refine g_getI dX12_thrown_1 fX12_194 kwM (by decide) rfl ?_
  refine g_ireturn dX12_thrown_4 rfl ?_
  exact ⟨_, rfl, rfl, rfl⟩
def aRead (S : Sx) (x : Int32) : Int32 := if inN x (S.1 9 0) = true then S.2.1 12 (nN x) else nI 0
def xRead (S : Sx) (x : Int32) : Int32 := if inN x (S.1 9 0) = true then nI 0 else nI 1
abbrev okCl (S : Sx) (x y : Int32) : Bool := inN x (S.1 7 0) && rg y 0 3
def aCell (S : Sx) (x y : Int32) : Int32 := if okCl S x y = true then S.2.1 9 (4 * nN x + nN y) else nI 0
def xCell (S : Sx) (x y : Int32) : Int32 := if okCl S x y = true then nI 0 else nI 1
theorem n_read {σ : Mm} {S : Sx} {H : Hx} (hJ : MI_ σ S H) (hPI : PI S) (x : Int32) : RI W0 mX12_read [.ref 258, .int x] σ (fun r τ => r = aRead S x ∧ MT σ S H (xRead S x) τ) := by
  have hM := hJ.1
  have hB : Bd S := hPI.1.1.1.1
  have b0 := B_nodes hB 0
  have bP := B_P hB 0
  have bT := B_T hB 0
  refine G.met (by decide) (Nat.le_of_ble_eq_true rfl) ?_
  show G _ _ _ 0 [some (.ref 258), some (.int x)] [] σ
  refine gs_aload_n dX12_read_0 rfl rfl ?_
  refine gs_aload_n dX12_read_1 rfl rfl ?_
  refine gs_iload_n dX12_read_2 rfl rfl ?_
  refine g_cVI1 dX12_read_3 vX12_228 (by decide) kwM (by decide) (Nat.le_of_ble_eq_true rfl) (s_isThread (M_T hM) (by omega) _) ?_
  rintro _ σ ⟨rfl, e9⟩
  subst e9
  refine gb_if_eq (tgt := 13) dX12_read_6 (by decide) (fun c6 => ?_) (fun c6 => ?_)
  · refine g_iconst (v := nI 1) dX12_read_13 (by decide) ?_
    refine gp_putI dX12_read_14 pX12_194 kwM (by decide) (Or.inl rfl) (MT_put hJ) (fun σ hQ => ?_)
    have hM := hQ.1.1.1
    have hC0 := hQ.1.1.2.1
    have hth := hQ.2.1
    refine gs_aload_n dX12_read_17 rfl rfl ?_
    refine g_getI dX12_read_18 fX12_194 kwM (by decide) hth ?_
    refine gf_if_le (tgt := 28) dX12_read_21 (by decide) (by omega) (by omega) ?_
    refine g_iconst (v := nI 0) dX12_read_24 (by decide) ?_
    refine g_goto (tgt := 34) dX12_read_25 (by decide) ?_
    refine g_ireturn dX12_read_34 rfl ?_
    exact ⟨_, rfl, by rw [aRead, if_neg (nbf c6)], by rw [xRead, if_neg (nbf c6)]; exact hQ⟩
  · obtain ⟨t, ht, rfl⟩ := inN_of c6 (by omega)
    refine g_iconst (v := nI 0) dX12_read_9 (by decide) ?_
    refine g_goto (tgt := 14) dX12_read_10 (by decide) ?_
    refine gp_putI dX12_read_14 pX12_194 kwM (by decide) (Or.inl rfl) (MT_put hJ) (fun σ hQ => ?_)
    have hM := hQ.1.1.1
    have hC0 := hQ.1.1.2.1
    have hth := hQ.2.1
    refine gs_aload_n dX12_read_17 rfl rfl ?_
    refine g_getI dX12_read_18 fX12_194 kwM (by decide) hth ?_
    refine gt_if_le (tgt := 28) dX12_read_21 (by decide) (by omega) (by omega) ?_
    refine gs_aload_n dX12_read_28 rfl rfl ?_
    refine g_getR dX12_read_29 fX12_127 kwM (by decide) rM_lastRead ?_
    refine gs_iload_n dX12_read_32 rfl rfl ?_
    refine g_iald dX12_read_33 kw_lastRead (by omega) (M0_lastRead hM (by omega)) ?_
    refine g_ireturn dX12_read_34 rfl ?_
    exact ⟨_, rfl, by rw [aRead, if_pos c6, nN_n (by omega)], by rw [xRead, if_pos c6]; exact hQ⟩
theorem n_cell {σ : Mm} {S : Sx} {H : Hx} (hJ : MI_ σ S H) (hPI : PI S) (x y : Int32) : RI W0 mX12_cell [.ref 258, .int x, .int y] σ (fun r τ => r = aCell S x y ∧ MT σ S H (xCell S x y) τ) := by
  have hM := hJ.1
  have hB : Bd S := hPI.1.1.1.1
  have b0 := B_nodes hB 0
  have bP := B_P hB 0
  have bT := B_T hB 0
  refine G.met (by decide) (Nat.le_of_ble_eq_true rfl) ?_
  show G _ _ _ 0 [some (.ref 258), some (.int x), some (.int y)] [] σ
  refine gs_aload_n dX12_cell_0 rfl rfl ?_
  refine gs_aload_n dX12_cell_1 rfl rfl ?_
  refine gs_iload_n dX12_cell_2 rfl rfl ?_
  refine g_cVI1 dX12_cell_3 vX12_253 (by decide) kwM (by decide) (Nat.le_of_ble_eq_true rfl) (s_isPage (M_P hM) (by omega) _) ?_
  rintro _ σ ⟨rfl, e9⟩
  subst e9
  refine gb_if_eq (tgt := 25) dX12_cell_6 (by decide) (fun c6 => ?_) (fun c6 => ?_)
  · refine g_iconst (v := nI 1) dX12_cell_25 (by decide) ?_
    refine gp_putI dX12_cell_26 pX12_194 kwM (by decide) (Or.inl rfl) (MT_put hJ) (fun σ hQ => ?_)
    have hM := hQ.1.1.1
    have hC0 := hQ.1.1.2.1
    have hth := hQ.2.1
    refine gs_aload_n dX12_cell_29 rfl rfl ?_
    refine g_getI dX12_cell_30 fX12_194 kwM (by decide) hth ?_
    refine gf_if_le (tgt := 40) dX12_cell_33 (by decide) (by omega) (by omega) ?_
    refine g_iconst (v := nI 0) dX12_cell_36 (by decide) ?_
    refine g_goto (tgt := 50) dX12_cell_37 (by decide) ?_
    refine g_ireturn dX12_cell_50 rfl ?_
    exact ⟨_, rfl, by rw [aCell, if_neg (nb1 c6)], by rw [xCell, if_neg (nb1 c6)]; exact hQ⟩
  · refine gs_iload_n dX12_cell_9 rfl rfl ?_
    refine g_i2l dX12_cell_10 rfl ?_
    refine g_lconst (v := 0) dX12_cell_11 (by decide) ?_
    refine g_ldc2 dX12_cell_12 qX12_226 ?_
    refine g_cSI3 dX12_cell_15 vX12_214 (by decide) (Nat.le_of_ble_eq_true rfl) (m_isIn (a := 0) (b := 3) (by decide) (by decide)) ?_
    rintro _ σ ⟨rfl, e9⟩
    subst e9
    refine gb_if_eq (tgt := 25) dX12_cell_18 (by decide) (fun c18 => ?_) (fun c18 => ?_)
    · refine g_iconst (v := nI 1) dX12_cell_25 (by decide) ?_
      refine gp_putI dX12_cell_26 pX12_194 kwM (by decide) (Or.inl rfl) (MT_put hJ) (fun σ hQ => ?_)
      have hM := hQ.1.1.1
      have hC0 := hQ.1.1.2.1
      have hth := hQ.2.1
      refine gs_aload_n dX12_cell_29 rfl rfl ?_
      refine g_getI dX12_cell_30 fX12_194 kwM (by decide) hth ?_
      refine gf_if_le (tgt := 40) dX12_cell_33 (by decide) (by omega) (by omega) ?_
      refine g_iconst (v := nI 0) dX12_cell_36 (by decide) ?_
      refine g_goto (tgt := 50) dX12_cell_37 (by decide) ?_
      refine g_ireturn dX12_cell_50 rfl ?_
      exact ⟨_, rfl, by rw [aCell, if_neg (nb2 (nbf c18))], by rw [xCell, if_neg (nb2 (nbf c18))]; exact hQ⟩
    · obtain ⟨p, hp, rfl⟩ := inN_of c6 (by omega)
      obtain ⟨c, hcl, hc, rfl⟩ := rg_of c18
      refine g_iconst (v := nI 0) dX12_cell_21 (by decide) ?_
      refine g_goto (tgt := 26) dX12_cell_22 (by decide) ?_
      refine gp_putI dX12_cell_26 pX12_194 kwM (by decide) (Or.inl rfl) (MT_put hJ) (fun σ hQ => ?_)
      have hM := hQ.1.1.1
      have hC0 := hQ.1.1.2.1
      have hth := hQ.2.1
      refine gs_aload_n dX12_cell_29 rfl rfl ?_
      refine g_getI dX12_cell_30 fX12_194 kwM (by decide) hth ?_
      refine gt_if_le (tgt := 40) dX12_cell_33 (by decide) (by omega) (by omega) ?_
      refine gs_aload_n dX12_cell_40 rfl rfl ?_
      refine g_getR dX12_cell_41 fX12_100 kwM (by decide) rM_cell ?_
      refine g_iconst (v := nI 4) dX12_cell_44 (by decide) ?_
      refine gs_iload_n dX12_cell_45 rfl rfl ?_
      refine g_imul dX12_cell_46 (by first | exact pk_mul _ _ | rfl) ?_
      refine gs_iload_n dX12_cell_47 rfl rfl ?_
      refine g_iadd dX12_cell_48 (by first | exact nI_add _ _ | rfl) ?_
      refine g_iald dX12_cell_49 kw_cell (by omega) (M0_cell hM (by omega)) ?_
      refine g_ireturn dX12_cell_50 rfl ?_
      exact ⟨_, rfl, by rw [aCell, if_pos (yb c6 c18), nN_n (by omega), nN_n (by omega)], by rw [xCell, if_pos (yb c6 c18)]; exact hQ⟩
theorem m_isInN {σ : Mm} {x : Int32} {n : Nat} (hn : n ≤ 60) : RI W0 mX12_isIn [.long x.toInt64, .long 0, .long (nI n - nI 1).toInt64] σ (fun r τ => r = bI (inN x n) ∧ τ = σ) := by
  have h := s_isIn (σ := σ) x.toInt64 0 (nI n - nI 1).toInt64
  have e1 : (nI n - nI 1).toInt = (n : Int) - 1 := by
    rw [Int32.toInt_sub, toInt_nI (by omega), toInt_nI (by omega)]
    exact Int.bmod_eq_of_le_mul_two (by omega) (by omega)
  have e : decide ((0 : Int64) ≤ x.toInt64 ∧ x.toInt64 ≤ (nI n - nI 1).toInt64) = inN x n := by
    rw [inN]
    exact decide_eq_decide.mpr (by rw [Int64.le_iff_toInt_le, Int64.le_iff_toInt_le, Int32.toInt_toInt64, Int32.toInt_toInt64, e1, Int64.toInt_zero]; omega)
  rw [e] at h
  exact h
abbrev okEl (H : Hx) (x y : Int32) : Bool := rg x 0 7 && (decide (H 0 (nN x) = nI 3 ∨ H 0 (nN x) = nI 4) && inN y (szH H (nN x)))
def aElem (H : Hx) (x y : Int32) : Int64 := if okEl H x y = true then (H 4 (60 * nN x + nN y)).toInt64 else 0
def xElem (H : Hx) (x y : Int32) : Int32 := if rg x 0 7 = true then (if okEl H x y = true then nI 0 else nI 2) else nI 1
theorem el_k {H : Hx} {d : Nat} {y : Int32} (hd : d < 8) (h : H 0 d = nI 0 ∨ H 0 d = nI 1) : okEl H (nI d) y = false := by
  unfold okEl
  rw [nN_n (by omega), decide_eq_false (p := H 0 d = nI 3 ∨ H 0 d = nI 4) (by rcases h with h | h <;> (rw [h]; decide)), Bool.false_and, Bool.and_false]
theorem el_r {H : Hx} {d n : Nat} {y : Int32} (hd : d < 8) (h : H 0 d = nI 3 ∨ H 0 d = nI 4) (hn : n ≤ 60) (h1 : H 1 d = nI n) : okEl H (nI d) y = inN y n := by
  have e : rg (nI d) 0 7 = true := by rw [rg, toInt_nI (by omega)]; exact decide_eq_true (by omega)
  unfold okEl szH
  rw [nN_n (by omega), decide_eq_true h, h1, nN_n (by omega), e, Bool.true_and, Bool.true_and]
theorem n_element {σ : Mm} {S : Sx} {H : Hx} (hJ : MI_ σ S H) (hPI : PI S) (x y : Int32) (hok : Hok H) : RL_ W0 mX12_element [.ref 258, .int x, .int y] σ (fun r τ => r = aElem H x y ∧ MT σ S H (xElem H x y) τ) := by
  have hM := hJ.1
  have hSh := hJ.2.2.1
  have hB : Bd S := hPI.1.1.1.1
  have b0 := B_nodes hB 0
  have bP := B_P hB 0
  have bT := B_T hB 0
  refine G.met (by decide) (Nat.le_of_ble_eq_true rfl) ?_
  show G _ _ _ 0 [some (.ref 258), some (.int x), some (.int y), none] [] σ
  refine gs_iload_n dX12_element_0 rfl rfl ?_
  refine g_cSI1 dX12_element_1 vX12_343 (by decide) (Nat.le_of_ble_eq_true rfl) (s_isShelf _) ?_
  rintro _ σ ⟨rfl, e9⟩
  subst e9
  refine gb_if_eq (tgt := 39) dX12_element_4 (by decide) (fun c4 => ?_) (fun c4 => ?_)
  · refine g_iconst (v := nI 0) dX12_element_39 (by decide) ?_
    refine gs_istore_n (ls' := [_, _, _, _]) dX12_element_40 rfl rfl rfl ?_
    refine gs_aload_n dX12_element_41 rfl rfl ?_
    refine gs_iload_n dX12_element_42 rfl rfl ?_
    refine g_cSI1 dX12_element_43 vX12_343 (by decide) (Nat.le_of_ble_eq_true rfl) (s_isShelf _) ?_
    rintro _ σ ⟨rfl, e9⟩
    subst e9
    refine gb_if_ne (tgt := 53) dX12_element_46 (by decide) (fun c46 => ?_) (fun c46 => ?_)
    · refine gs_iload_n dX12_element_53 rfl rfl ?_
      refine gt_if_eq (tgt := 61) dX12_element_54 (by decide) (by omega) (by omega) ?_
      refine g_iconst (v := nI 2) dX12_element_61 (by decide) ?_
      refine gp_putI dX12_element_62 pX12_194 kwM (by decide) (Or.inl rfl) (MT_put hJ) (fun σ hQ => ?_)
      have hM := hQ.1.1.1
      have hC0 := hQ.1.1.2.1
      have hth := hQ.2.1
      have hSh := hQ.1.1.2.2.1
      refine gs_iload_n dX12_element_65 rfl rfl ?_
      refine gt_if_eq (tgt := 84) dX12_element_66 (by decide) (by omega) (by omega) ?_
      refine g_lconst (v := 0) dX12_element_84 (by decide) ?_
      refine g_lreturn dX12_element_85 rfl ?_
      cases (c4.symm.trans c46)
    · refine g_iconst (v := nI 1) dX12_element_49 (by decide) ?_
      refine g_goto (tgt := 62) dX12_element_50 (by decide) ?_
      refine gp_putI dX12_element_62 pX12_194 kwM (by decide) (Or.inl rfl) (MT_put hJ) (fun σ hQ => ?_)
      have hM := hQ.1.1.1
      have hC0 := hQ.1.1.2.1
      have hth := hQ.2.1
      have hSh := hQ.1.1.2.2.1
      refine gs_iload_n dX12_element_65 rfl rfl ?_
      refine gt_if_eq (tgt := 84) dX12_element_66 (by decide) (by omega) (by omega) ?_
      refine g_lconst (v := 0) dX12_element_84 (by decide) ?_
      refine g_lreturn dX12_element_85 rfl ?_
      exact ⟨_, rfl, by rw [aElem, if_neg (nb1 c4)], by rw [xElem, if_neg (nbf c4)]; exact hQ⟩
  · obtain ⟨d, hd9l, hd9, rfl⟩ := rg_of c4
    have hd : d < 8 := by omega
    have hk := hok d hd
    rcases hk.1 with h | h | h | h
    · refine gs_aload_n dX12_element_7 rfl rfl ?_
      refine g_getR dX12_element_8 fX12_160 kwM (by decide) rM_shelf ?_
      refine gs_iload_n dX12_element_11 rfl rfl ?_
      refine g_iald dX12_element_12 kw_shelf (by omega) ((hSh.1 d hd).1.trans h) ?_
      refine g_iconst (v := nI 2) dX12_element_13 (by decide) ?_
      refine gt_icmp_le (tgt := 39) dX12_element_14 (by decide) (by omega) (by omega) (by omega) ?_
      refine g_iconst (v := nI 0) dX12_element_39 (by decide) ?_
      refine gs_istore_n (ls' := [_, _, _, _]) dX12_element_40 rfl rfl rfl ?_
      refine gs_aload_n dX12_element_41 rfl rfl ?_
      refine gs_iload_n dX12_element_42 rfl rfl ?_
      refine g_cSI1 dX12_element_43 vX12_343 (by decide) (Nat.le_of_ble_eq_true rfl) (s_isShelf _) ?_
      rintro _ σ ⟨rfl, e9⟩
      subst e9
      refine gb_if_ne (tgt := 53) dX12_element_46 (by decide) (fun c46 => ?_) (fun c46 => ?_)
      · refine gs_iload_n dX12_element_53 rfl rfl ?_
        refine gt_if_eq (tgt := 61) dX12_element_54 (by decide) (by omega) (by omega) ?_
        refine g_iconst (v := nI 2) dX12_element_61 (by decide) ?_
        refine gp_putI dX12_element_62 pX12_194 kwM (by decide) (Or.inl rfl) (MT_put hJ) (fun σ hQ => ?_)
        have hM := hQ.1.1.1
        have hC0 := hQ.1.1.2.1
        have hth := hQ.2.1
        have hSh := hQ.1.1.2.2.1
        refine gs_iload_n dX12_element_65 rfl rfl ?_
        refine gt_if_eq (tgt := 84) dX12_element_66 (by decide) (by omega) (by omega) ?_
        refine g_lconst (v := 0) dX12_element_84 (by decide) ?_
        refine g_lreturn dX12_element_85 rfl ?_
        exact ⟨_, rfl, by rw [aElem, if_neg (nbf (el_k hd (Or.inl h)))], by rw [xElem, if_pos c4, if_neg (nbf (el_k hd (Or.inl h)))]; exact hQ⟩
      · refine g_iconst (v := nI 1) dX12_element_49 (by decide) ?_
        refine g_goto (tgt := 62) dX12_element_50 (by decide) ?_
        refine gp_putI dX12_element_62 pX12_194 kwM (by decide) (Or.inl rfl) (MT_put hJ) (fun σ hQ => ?_)
        have hM := hQ.1.1.1
        have hC0 := hQ.1.1.2.1
        have hth := hQ.2.1
        have hSh := hQ.1.1.2.2.1
        refine gs_iload_n dX12_element_65 rfl rfl ?_
        refine gt_if_eq (tgt := 84) dX12_element_66 (by decide) (by omega) (by omega) ?_
        refine g_lconst (v := 0) dX12_element_84 (by decide) ?_
        refine g_lreturn dX12_element_85 rfl ?_
        cases (c4.symm.trans c46)
    · refine gs_aload_n dX12_element_7 rfl rfl ?_
      refine g_getR dX12_element_8 fX12_160 kwM (by decide) rM_shelf ?_
      refine gs_iload_n dX12_element_11 rfl rfl ?_
      refine g_iald dX12_element_12 kw_shelf (by omega) ((hSh.1 d hd).1.trans h) ?_
      refine g_iconst (v := nI 2) dX12_element_13 (by decide) ?_
      refine gt_icmp_le (tgt := 39) dX12_element_14 (by decide) (by omega) (by omega) (by omega) ?_
      refine g_iconst (v := nI 0) dX12_element_39 (by decide) ?_
      refine gs_istore_n (ls' := [_, _, _, _]) dX12_element_40 rfl rfl rfl ?_
      refine gs_aload_n dX12_element_41 rfl rfl ?_
      refine gs_iload_n dX12_element_42 rfl rfl ?_
      refine g_cSI1 dX12_element_43 vX12_343 (by decide) (Nat.le_of_ble_eq_true rfl) (s_isShelf _) ?_
      rintro _ σ ⟨rfl, e9⟩
      subst e9
      refine gb_if_ne (tgt := 53) dX12_element_46 (by decide) (fun c46 => ?_) (fun c46 => ?_)
      · refine gs_iload_n dX12_element_53 rfl rfl ?_
        refine gt_if_eq (tgt := 61) dX12_element_54 (by decide) (by omega) (by omega) ?_
        refine g_iconst (v := nI 2) dX12_element_61 (by decide) ?_
        refine gp_putI dX12_element_62 pX12_194 kwM (by decide) (Or.inl rfl) (MT_put hJ) (fun σ hQ => ?_)
        have hM := hQ.1.1.1
        have hC0 := hQ.1.1.2.1
        have hth := hQ.2.1
        have hSh := hQ.1.1.2.2.1
        refine gs_iload_n dX12_element_65 rfl rfl ?_
        refine gt_if_eq (tgt := 84) dX12_element_66 (by decide) (by omega) (by omega) ?_
        refine g_lconst (v := 0) dX12_element_84 (by decide) ?_
        refine g_lreturn dX12_element_85 rfl ?_
        exact ⟨_, rfl, by rw [aElem, if_neg (nbf (el_k hd (Or.inr h)))], by rw [xElem, if_pos c4, if_neg (nbf (el_k hd (Or.inr h)))]; exact hQ⟩
      · refine g_iconst (v := nI 1) dX12_element_49 (by decide) ?_
        refine g_goto (tgt := 62) dX12_element_50 (by decide) ?_
        refine gp_putI dX12_element_62 pX12_194 kwM (by decide) (Or.inl rfl) (MT_put hJ) (fun σ hQ => ?_)
        have hM := hQ.1.1.1
        have hC0 := hQ.1.1.2.1
        have hth := hQ.2.1
        have hSh := hQ.1.1.2.2.1
        refine gs_iload_n dX12_element_65 rfl rfl ?_
        refine gt_if_eq (tgt := 84) dX12_element_66 (by decide) (by omega) (by omega) ?_
        refine g_lconst (v := 0) dX12_element_84 (by decide) ?_
        refine g_lreturn dX12_element_85 rfl ?_
        cases (c4.symm.trans c46)
    · obtain ⟨n, hn60, hn1⟩ := hk.2 (Or.inl h)
      refine gs_aload_n dX12_element_7 rfl rfl ?_
      refine g_getR dX12_element_8 fX12_160 kwM (by decide) rM_shelf ?_
      refine gs_iload_n dX12_element_11 rfl rfl ?_
      refine g_iald dX12_element_12 kw_shelf (by omega) ((hSh.1 d hd).1.trans h) ?_
      refine g_iconst (v := nI 2) dX12_element_13 (by decide) ?_
      refine gf_icmp_le (tgt := 39) dX12_element_14 (by decide) (by omega) (by omega) (by omega) ?_
      refine gs_iload_n dX12_element_17 rfl rfl ?_
      refine g_i2l dX12_element_18 rfl ?_
      refine g_lconst (v := 0) dX12_element_19 (by decide) ?_
      refine gs_aload_n dX12_element_20 rfl rfl ?_
      refine g_getR dX12_element_21 fX12_163 kwM (by decide) rM_shelfSize ?_
      refine gs_iload_n dX12_element_24 rfl rfl ?_
      refine g_iald dX12_element_25 kw_shelfSize (by omega) ((hSh.1 d hd).2.1.trans hn1) ?_
      refine g_iconst (v := nI 1) dX12_element_26 (by decide) ?_
      refine g_isub dX12_element_27 rfl ?_
      refine g_i2l dX12_element_28 rfl ?_
      refine g_cSI3 dX12_element_29 vX12_214 (by decide) (Nat.le_of_ble_eq_true rfl) (m_isInN hn60) ?_
      rintro _ σ ⟨rfl, e9⟩
      subst e9
      refine gb_if_eq (tgt := 39) dX12_element_32 (by decide) (fun c32 => ?_) (fun c32 => ?_)
      · refine g_iconst (v := nI 0) dX12_element_39 (by decide) ?_
        refine gs_istore_n (ls' := [_, _, _, _]) dX12_element_40 rfl rfl rfl ?_
        refine gs_aload_n dX12_element_41 rfl rfl ?_
        refine gs_iload_n dX12_element_42 rfl rfl ?_
        refine g_cSI1 dX12_element_43 vX12_343 (by decide) (Nat.le_of_ble_eq_true rfl) (s_isShelf _) ?_
        rintro _ σ ⟨rfl, e9⟩
        subst e9
        refine gb_if_ne (tgt := 53) dX12_element_46 (by decide) (fun c46 => ?_) (fun c46 => ?_)
        · refine gs_iload_n dX12_element_53 rfl rfl ?_
          refine gt_if_eq (tgt := 61) dX12_element_54 (by decide) (by omega) (by omega) ?_
          refine g_iconst (v := nI 2) dX12_element_61 (by decide) ?_
          refine gp_putI dX12_element_62 pX12_194 kwM (by decide) (Or.inl rfl) (MT_put hJ) (fun σ hQ => ?_)
          have hM := hQ.1.1.1
          have hC0 := hQ.1.1.2.1
          have hth := hQ.2.1
          have hSh := hQ.1.1.2.2.1
          refine gs_iload_n dX12_element_65 rfl rfl ?_
          refine gt_if_eq (tgt := 84) dX12_element_66 (by decide) (by omega) (by omega) ?_
          refine g_lconst (v := 0) dX12_element_84 (by decide) ?_
          refine g_lreturn dX12_element_85 rfl ?_
          exact ⟨_, rfl, by rw [aElem, if_neg (nbf ((el_r (y := y) hd (Or.inl h) hn60 hn1).trans c32))], by rw [xElem, if_pos c4, if_neg (nbf ((el_r (y := y) hd (Or.inl h) hn60 hn1).trans c32))]; exact hQ⟩
        · refine g_iconst (v := nI 1) dX12_element_49 (by decide) ?_
          refine g_goto (tgt := 62) dX12_element_50 (by decide) ?_
          refine gp_putI dX12_element_62 pX12_194 kwM (by decide) (Or.inl rfl) (MT_put hJ) (fun σ hQ => ?_)
          have hM := hQ.1.1.1
          have hC0 := hQ.1.1.2.1
          have hth := hQ.2.1
          have hSh := hQ.1.1.2.2.1
          refine gs_iload_n dX12_element_65 rfl rfl ?_
          refine gt_if_eq (tgt := 84) dX12_element_66 (by decide) (by omega) (by omega) ?_
          refine g_lconst (v := 0) dX12_element_84 (by decide) ?_
          refine g_lreturn dX12_element_85 rfl ?_
          cases (c4.symm.trans c46)
      · obtain ⟨i, hi, rfl⟩ := inN_of c32 (by omega)
        refine g_iconst (v := nI 1) dX12_element_35 (by decide) ?_
        refine g_goto (tgt := 40) dX12_element_36 (by decide) ?_
        refine gs_istore_n (ls' := [_, _, _, _]) dX12_element_40 rfl rfl rfl ?_
        refine gs_aload_n dX12_element_41 rfl rfl ?_
        refine gs_iload_n dX12_element_42 rfl rfl ?_
        refine g_cSI1 dX12_element_43 vX12_343 (by decide) (Nat.le_of_ble_eq_true rfl) (s_isShelf _) ?_
        rintro _ σ ⟨rfl, e9⟩
        subst e9
        refine gb_if_ne (tgt := 53) dX12_element_46 (by decide) (fun c46 => ?_) (fun c46 => ?_)
        · refine gs_iload_n dX12_element_53 rfl rfl ?_
          refine gf_if_eq (tgt := 61) dX12_element_54 (by decide) (by omega) (by omega) ?_
          refine g_iconst (v := nI 0) dX12_element_57 (by decide) ?_
          refine g_goto (tgt := 62) dX12_element_58 (by decide) ?_
          refine gp_putI dX12_element_62 pX12_194 kwM (by decide) (Or.inl rfl) (MT_put hJ) (fun σ hQ => ?_)
          have hM := hQ.1.1.1
          have hC0 := hQ.1.1.2.1
          have hth := hQ.2.1
          have hSh := hQ.1.1.2.2.1
          refine gs_iload_n dX12_element_65 rfl rfl ?_
          refine gf_if_eq (tgt := 84) dX12_element_66 (by decide) (by omega) (by omega) ?_
          refine gs_aload_n dX12_element_69 rfl rfl ?_
          refine g_getR dX12_element_70 fX12_172 kwM (by decide) rM_shelfRow ?_
          refine g_bipush (v := nI 60) dX12_element_73 (by decide) ?_
          refine gs_iload_n dX12_element_75 rfl rfl ?_
          refine g_imul dX12_element_76 (by first | exact pk_mul _ _ | rfl) ?_
          refine gs_iload_n dX12_element_77 rfl rfl ?_
          refine g_iadd dX12_element_78 (by first | exact nI_add _ _ | rfl) ?_
          refine g_iald dX12_element_79 kw_shelfRow (by omega) (hSh.2 _ (by omega)) ?_
          refine g_i2l dX12_element_80 rfl ?_
          refine g_goto (tgt := 85) dX12_element_81 (by decide) ?_
          refine g_lreturn dX12_element_85 rfl ?_
          exact ⟨_, rfl, by rw [aElem, if_pos ((el_r  hd (Or.inl h) hn60 hn1).trans c32), nN_n (by omega), nN_n (by omega)], by rw [xElem, if_pos c4, if_pos ((el_r  hd (Or.inl h) hn60 hn1).trans c32)]; exact hQ⟩
        · refine g_iconst (v := nI 1) dX12_element_49 (by decide) ?_
          refine g_goto (tgt := 62) dX12_element_50 (by decide) ?_
          refine gp_putI dX12_element_62 pX12_194 kwM (by decide) (Or.inl rfl) (MT_put hJ) (fun σ hQ => ?_)
          have hM := hQ.1.1.1
          have hC0 := hQ.1.1.2.1
          have hth := hQ.2.1
          have hSh := hQ.1.1.2.2.1
          refine gs_iload_n dX12_element_65 rfl rfl ?_
          refine gf_if_eq (tgt := 84) dX12_element_66 (by decide) (by omega) (by omega) ?_
          refine gs_aload_n dX12_element_69 rfl rfl ?_
          refine g_getR dX12_element_70 fX12_172 kwM (by decide) rM_shelfRow ?_
          refine g_bipush (v := nI 60) dX12_element_73 (by decide) ?_
          refine gs_iload_n dX12_element_75 rfl rfl ?_
          refine g_imul dX12_element_76 (by first | exact pk_mul _ _ | rfl) ?_
          refine gs_iload_n dX12_element_77 rfl rfl ?_
          refine g_iadd dX12_element_78 (by first | exact nI_add _ _ | rfl) ?_
          refine g_iald dX12_element_79 kw_shelfRow (by omega) (hSh.2 _ (by omega)) ?_
          refine g_i2l dX12_element_80 rfl ?_
          refine g_goto (tgt := 85) dX12_element_81 (by decide) ?_
          refine g_lreturn dX12_element_85 rfl ?_
          cases (c4.symm.trans c46)
    · obtain ⟨n, hn60, hn1⟩ := hk.2 (Or.inr h)
      refine gs_aload_n dX12_element_7 rfl rfl ?_
      refine g_getR dX12_element_8 fX12_160 kwM (by decide) rM_shelf ?_
      refine gs_iload_n dX12_element_11 rfl rfl ?_
      refine g_iald dX12_element_12 kw_shelf (by omega) ((hSh.1 d hd).1.trans h) ?_
      refine g_iconst (v := nI 2) dX12_element_13 (by decide) ?_
      refine gf_icmp_le (tgt := 39) dX12_element_14 (by decide) (by omega) (by omega) (by omega) ?_
      refine gs_iload_n dX12_element_17 rfl rfl ?_
      refine g_i2l dX12_element_18 rfl ?_
      refine g_lconst (v := 0) dX12_element_19 (by decide) ?_
      refine gs_aload_n dX12_element_20 rfl rfl ?_
      refine g_getR dX12_element_21 fX12_163 kwM (by decide) rM_shelfSize ?_
      refine gs_iload_n dX12_element_24 rfl rfl ?_
      refine g_iald dX12_element_25 kw_shelfSize (by omega) ((hSh.1 d hd).2.1.trans hn1) ?_
      refine g_iconst (v := nI 1) dX12_element_26 (by decide) ?_
      refine g_isub dX12_element_27 rfl ?_
      refine g_i2l dX12_element_28 rfl ?_
      refine g_cSI3 dX12_element_29 vX12_214 (by decide) (Nat.le_of_ble_eq_true rfl) (m_isInN hn60) ?_
      rintro _ σ ⟨rfl, e9⟩
      subst e9
      refine gb_if_eq (tgt := 39) dX12_element_32 (by decide) (fun c32 => ?_) (fun c32 => ?_)
      · refine g_iconst (v := nI 0) dX12_element_39 (by decide) ?_
        refine gs_istore_n (ls' := [_, _, _, _]) dX12_element_40 rfl rfl rfl ?_
        refine gs_aload_n dX12_element_41 rfl rfl ?_
        refine gs_iload_n dX12_element_42 rfl rfl ?_
        refine g_cSI1 dX12_element_43 vX12_343 (by decide) (Nat.le_of_ble_eq_true rfl) (s_isShelf _) ?_
        rintro _ σ ⟨rfl, e9⟩
        subst e9
        refine gb_if_ne (tgt := 53) dX12_element_46 (by decide) (fun c46 => ?_) (fun c46 => ?_)
        · refine gs_iload_n dX12_element_53 rfl rfl ?_
          refine gt_if_eq (tgt := 61) dX12_element_54 (by decide) (by omega) (by omega) ?_
          refine g_iconst (v := nI 2) dX12_element_61 (by decide) ?_
          refine gp_putI dX12_element_62 pX12_194 kwM (by decide) (Or.inl rfl) (MT_put hJ) (fun σ hQ => ?_)
          have hM := hQ.1.1.1
          have hC0 := hQ.1.1.2.1
          have hth := hQ.2.1
          have hSh := hQ.1.1.2.2.1
          refine gs_iload_n dX12_element_65 rfl rfl ?_
          refine gt_if_eq (tgt := 84) dX12_element_66 (by decide) (by omega) (by omega) ?_
          refine g_lconst (v := 0) dX12_element_84 (by decide) ?_
          refine g_lreturn dX12_element_85 rfl ?_
          exact ⟨_, rfl, by rw [aElem, if_neg (nbf ((el_r (y := y) hd (Or.inr h) hn60 hn1).trans c32))], by rw [xElem, if_pos c4, if_neg (nbf ((el_r (y := y) hd (Or.inr h) hn60 hn1).trans c32))]; exact hQ⟩
        · refine g_iconst (v := nI 1) dX12_element_49 (by decide) ?_
          refine g_goto (tgt := 62) dX12_element_50 (by decide) ?_
          refine gp_putI dX12_element_62 pX12_194 kwM (by decide) (Or.inl rfl) (MT_put hJ) (fun σ hQ => ?_)
          have hM := hQ.1.1.1
          have hC0 := hQ.1.1.2.1
          have hth := hQ.2.1
          have hSh := hQ.1.1.2.2.1
          refine gs_iload_n dX12_element_65 rfl rfl ?_
          refine gt_if_eq (tgt := 84) dX12_element_66 (by decide) (by omega) (by omega) ?_
          refine g_lconst (v := 0) dX12_element_84 (by decide) ?_
          refine g_lreturn dX12_element_85 rfl ?_
          cases (c4.symm.trans c46)
      · obtain ⟨i, hi, rfl⟩ := inN_of c32 (by omega)
        refine g_iconst (v := nI 1) dX12_element_35 (by decide) ?_
        refine g_goto (tgt := 40) dX12_element_36 (by decide) ?_
        refine gs_istore_n (ls' := [_, _, _, _]) dX12_element_40 rfl rfl rfl ?_
        refine gs_aload_n dX12_element_41 rfl rfl ?_
        refine gs_iload_n dX12_element_42 rfl rfl ?_
        refine g_cSI1 dX12_element_43 vX12_343 (by decide) (Nat.le_of_ble_eq_true rfl) (s_isShelf _) ?_
        rintro _ σ ⟨rfl, e9⟩
        subst e9
        refine gb_if_ne (tgt := 53) dX12_element_46 (by decide) (fun c46 => ?_) (fun c46 => ?_)
        · refine gs_iload_n dX12_element_53 rfl rfl ?_
          refine gf_if_eq (tgt := 61) dX12_element_54 (by decide) (by omega) (by omega) ?_
          refine g_iconst (v := nI 0) dX12_element_57 (by decide) ?_
          refine g_goto (tgt := 62) dX12_element_58 (by decide) ?_
          refine gp_putI dX12_element_62 pX12_194 kwM (by decide) (Or.inl rfl) (MT_put hJ) (fun σ hQ => ?_)
          have hM := hQ.1.1.1
          have hC0 := hQ.1.1.2.1
          have hth := hQ.2.1
          have hSh := hQ.1.1.2.2.1
          refine gs_iload_n dX12_element_65 rfl rfl ?_
          refine gf_if_eq (tgt := 84) dX12_element_66 (by decide) (by omega) (by omega) ?_
          refine gs_aload_n dX12_element_69 rfl rfl ?_
          refine g_getR dX12_element_70 fX12_172 kwM (by decide) rM_shelfRow ?_
          refine g_bipush (v := nI 60) dX12_element_73 (by decide) ?_
          refine gs_iload_n dX12_element_75 rfl rfl ?_
          refine g_imul dX12_element_76 (by first | exact pk_mul _ _ | rfl) ?_
          refine gs_iload_n dX12_element_77 rfl rfl ?_
          refine g_iadd dX12_element_78 (by first | exact nI_add _ _ | rfl) ?_
          refine g_iald dX12_element_79 kw_shelfRow (by omega) (hSh.2 _ (by omega)) ?_
          refine g_i2l dX12_element_80 rfl ?_
          refine g_goto (tgt := 85) dX12_element_81 (by decide) ?_
          refine g_lreturn dX12_element_85 rfl ?_
          exact ⟨_, rfl, by rw [aElem, if_pos ((el_r  hd (Or.inr h) hn60 hn1).trans c32), nN_n (by omega), nN_n (by omega)], by rw [xElem, if_pos c4, if_pos ((el_r  hd (Or.inr h) hn60 hn1).trans c32)]; exact hQ⟩
        · refine g_iconst (v := nI 1) dX12_element_49 (by decide) ?_
          refine g_goto (tgt := 62) dX12_element_50 (by decide) ?_
          refine gp_putI dX12_element_62 pX12_194 kwM (by decide) (Or.inl rfl) (MT_put hJ) (fun σ hQ => ?_)
          have hM := hQ.1.1.1
          have hC0 := hQ.1.1.2.1
          have hth := hQ.2.1
          have hSh := hQ.1.1.2.2.1
          refine gs_iload_n dX12_element_65 rfl rfl ?_
          refine gf_if_eq (tgt := 84) dX12_element_66 (by decide) (by omega) (by omega) ?_
          refine gs_aload_n dX12_element_69 rfl rfl ?_
          refine g_getR dX12_element_70 fX12_172 kwM (by decide) rM_shelfRow ?_
          refine g_bipush (v := nI 60) dX12_element_73 (by decide) ?_
          refine gs_iload_n dX12_element_75 rfl rfl ?_
          refine g_imul dX12_element_76 (by first | exact pk_mul _ _ | rfl) ?_
          refine gs_iload_n dX12_element_77 rfl rfl ?_
          refine g_iadd dX12_element_78 (by first | exact nI_add _ _ | rfl) ?_
          refine g_iald dX12_element_79 kw_shelfRow (by omega) (hSh.2 _ (by omega)) ?_
          refine g_i2l dX12_element_80 rfl ?_
          refine g_goto (tgt := 85) dX12_element_81 (by decide) ?_
          refine g_lreturn dX12_element_85 rfl ?_
          cases (c4.symm.trans c46)
