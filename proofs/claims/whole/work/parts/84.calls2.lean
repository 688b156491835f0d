/-! Calls that only read: linked, log, gap, node, about, way. -/
def cntB (p : Nat → Bool) : Nat → Nat
  | 0 => 0
  | n + 1 => cntB p n + (if p n = true then 1 else 0)
theorem cnt_le (p : Nat → Bool) (n : Nat) : cntB p n ≤ n := by
  induction n with
  | zero => exact Nat.le_refl _
  | succ n ih => simp only [cntB]; split <;> omega
theorem cnt_f (p : Nat → Bool) (n : Nat) : ((List.range n).filter p).length = cntB p n := by
  induction n with
  | zero => rfl
  | succ n ih =>
    rw [List.range_succ, List.filter_append, List.length_append, ih, cntB]
    cases h : p n <;> simp [h]
theorem cnt_l {p : Nat → Bool} {n : Nat} {l : List Nat} (hd : l.Nodup) (h : ∀ u, u ∈ l ↔ (u < n ∧ p u = true)) : l.length = cntB p n := by
  rw [← cnt_f]
  refine ((List.perm_ext_iff_of_nodup hd (List.Nodup.sublist List.filter_sublist List.nodup_range)).mpr (fun u => ?_)).length_eq
  rw [h, List.mem_filter, List.mem_range]
def onN (S : Sx) (a : Nat) : Nat → Bool := fun u => decide (S.1 29 u = a)
theorem q_len {S : Sx} (h : Qi S) {a : Nat} (ha : a < 4) : (S.2.2 a).length = cntB (onN S a) (S.1 9 0) := by
  refine cnt_l (Qi_nodup h ha) (fun u => ?_)
  rw [(h.1 a ha).1 u, onN, decide_eq_true_eq]
def bfN (S : Sx) (t : Nat) : Nat → Bool := fun u => decide (S.1 29 u = S.1 29 t) && decide (S.1 35 u < S.1 35 t)
theorem q_place {S : Sx} (h : Qi S) {t : Nat} (ht : t < S.1 9 0) (ha : S.1 29 t < 4) : poS (S.2.2 (S.1 29 t)) t = some (cntB (bfN S t) (S.1 9 0)) := by
  obtain ⟨m1, m2⟩ := h.1 _ ha
  have hn := Qi_nodup h ha
  have hm : t ∈ S.2.2 (S.1 29 t) := (m1 t).mpr ⟨ht, rfl⟩
  cases hp : poS (S.2.2 (S.1 29 t)) t with
  | none => exact absurd hm (poS_none hp)
  | some g =>
    obtain ⟨g1, g2, g3⟩ := poS_some hp
    have hs : S.2.2 (S.1 29 t) = (S.2.2 (S.1 29 t)).take g ++ (t :: (S.2.2 (S.1 29 t)).drop (g + 1)) := by
      have q := drop_c g1
      rw [g2] at q
      rw [← q, List.take_append_drop]
    have hpw := m2
    rw [hs] at hpw
    obtain ⟨p1, p2, p3⟩ := List.pairwise_append.mp hpw
    have p4 := (List.pairwise_cons.mp p2).1
    have hl : ((S.2.2 (S.1 29 t)).take g).length = cntB (bfN S t) (S.1 9 0) := by
      refine cnt_l (List.Nodup.sublist (List.take_sublist _ _) hn) (fun u => ?_)
      rw [bfN, Bool.and_eq_true, decide_eq_true_eq, decide_eq_true_eq]
      constructor
      · intro q
        obtain ⟨z1, z2⟩ := (m1 u).mp (List.mem_of_mem_take q)
        exact ⟨z1, z2, p3 u q t List.mem_cons_self⟩
      · rintro ⟨z1, z2, z3⟩
        have q : u ∈ S.2.2 (S.1 29 t) := (m1 u).mpr ⟨z1, z2⟩
        rw [hs, List.mem_append, List.mem_cons] at q
        rcases q with q | q | q
        · exact q
        · rw [q] at z3; omega
        · have := p4 u q; omega
    rw [← hl, List.length_take, Nat.min_eq_left (by omega)]
def aLinked (S : Sx) (x y z : Int32) : Int32 := if (inN x (S.1 0 0) && (inN y (S.1 0 0) && decide (x ≠ y))) = true then swA z [nI (S.1 3 (ed (nN x) (nN y))), nI (S.1 4 (ed (nN x) (nN y))), S.2.1 14 (ed (nN x) (nN y)), S.2.1 15 (ed (nN x) (nN y))] else -1
theorem joins_of {x y : Int32} {n : Nat} (hn : n ≤ 4) (h : (inN x n && (inN y n && decide (x ≠ y))) = true) : ∃ a c, a < n ∧ c < n ∧ a ≠ c ∧ x = nI a ∧ y = nI c := by
  rw [Bool.and_eq_true, Bool.and_eq_true, decide_eq_true_eq] at h
  obtain ⟨a, ha, rfl⟩ := inN_of h.1 (by omega)
  obtain ⟨c, hc, rfl⟩ := inN_of h.2.1 (by omega)
  exact ⟨a, c, ha, hc, fun e => h.2.2 (by rw [e]), rfl, rfl⟩
theorem a_linked {σ : Mm} {S : Sx} {H : Hx} (hJ : CI σ S H) (hPI : PI S) (x y z : Int32) : RI W0 mX11_linked [.ref 0, .int x, .int y, .int z] σ (fun r τ => r = aLinked S x y z ∧ τ = σ) := by
  have hJ0 := hJ
  obtain ⟨⟨Tf, hR, hTk⟩, hSh, hTr1, hTr2⟩ := hJ
  have hb : mch 57 := Or.inl rfl
  have hB : Bd S := hPI.1.1.1.1
  have b0 := B_nodes hB 0
  have bP := B_P hB 0
  have bT := B_T hB 0
  refine G.met (by decide) (Nat.le_of_ble_eq_true rfl) ?_
  show G _ _ _ 0 [some (.ref 0), some (.int x), some (.int y), some (.int z), none] [] σ
  refine gs_aload_n dX11_linked_0 rfl rfl ?_
  refine g_getR dX11_linked_1 fX11_18 kFC (by decide) rFC_board ?_
  refine gs_iload_n dX11_linked_4 rfl rfl ?_
  refine gs_iload_n dX11_linked_5 rfl rfl ?_
  refine g_cVI2 dX11_linked_6 vX11_46 (by decide) bdW0.1 (by decide) (Nat.le_of_ble_eq_true rfl) (c_joins hb hR hB _ _) ?_
  rintro _ σ ⟨rfl, e9⟩
  subst e9
  refine gb_if_ne (tgt := 14) dX11_linked_9 (by decide) (fun c9 => ?_) (fun c9 => ?_)
  · obtain ⟨a, c, ha, hc, hac, rfl, rfl⟩ := joins_of b0 c9
    have he := ed_lt (h := a) (c := c) (by omega) (by omega)
    have hed := ed_dom (h := a) (c := c) (by omega) (by omega) hac
    refine gs_aload_n dX11_linked_14 rfl rfl ?_
    refine g_getR dX11_linked_15 fX11_18 kFC (by decide) rFC_board ?_
    refine gs_iload_n dX11_linked_18 rfl rfl ?_
    refine gs_iload_n dX11_linked_19 rfl rfl ?_
    refine g_cVI2 dX11_linked_20 vX11_62 (by decide) bdW0.1 (by decide) (Nat.le_of_ble_eq_true rfl) (s_edge (by omega) (by omega)) ?_
    rintro _ σ ⟨rfl, e9⟩
    subst e9
    refine gs_istore (ls' := [_, _, _, _, _]) dX11_linked_23 rfl rfl ?_
    refine gs_iload_n dX11_linked_25 rfl rfl ?_
    rcases sw4 z with h9 | h9 | h9 | h9 | h9
    · subst h9
      refine g_tableIn (off := 30) (tgt := 56) dX11_linked_26 (by decide) (by decide) (by decide) (by decide) ?_
      refine gs_aload_n dX11_linked_56 rfl rfl ?_
      refine g_getR dX11_linked_57 fX11_18 kFC (by decide) rFC_board ?_
      refine g_getR dX11_linked_60 fX11_58 bdW0.1 (by decide) rBd_price ?_
      refine g_iload dX11_linked_63 rfl ?_
      refine g_iald dX11_linked_65 bdW0.2.1 he (C_price hR he hed) ?_
      refine g_ireturn dX11_linked_66 rfl ?_
      exact ⟨_, rfl, by rw [aLinked, if_pos c9, nN_n (by omega), nN_n (by omega), swA_n (by decide) (Nat.le_of_ble_eq_true rfl)] <;> rfl, rfl⟩
    · subst h9
      refine g_tableIn (off := 41) (tgt := 67) dX11_linked_26 (by decide) (by decide) (by decide) (by decide) ?_
      refine gs_aload_n dX11_linked_67 rfl rfl ?_
      refine g_getR dX11_linked_68 fX11_18 kFC (by decide) rFC_board ?_
      refine g_getR dX11_linked_71 fX11_247 bdW0.1 (by decide) rBd_width ?_
      refine g_iload dX11_linked_74 rfl ?_
      refine g_iald dX11_linked_76 bdW0.2.2.1 he (C_width hR he hed) ?_
      refine g_ireturn dX11_linked_77 rfl ?_
      exact ⟨_, rfl, by rw [aLinked, if_pos c9, nN_n (by omega), nN_n (by omega), swA_n (by decide) (Nat.le_of_ble_eq_true rfl)] <;> rfl, rfl⟩
    · subst h9
      refine g_tableIn (off := 52) (tgt := 78) dX11_linked_26 (by decide) (by decide) (by decide) (by decide) ?_
      refine gs_aload_n dX11_linked_78 rfl rfl ?_
      refine g_getR dX11_linked_79 fX11_32 kFC (by decide) rFC_machine ?_
      refine g_getR dX11_linked_82 fX11_250 (kMa hb) (by decide) (rMa_traffic hb) ?_
      refine g_getR dX11_linked_85 fX11_254 (kMa_traffic hb) (by decide) (rTr_carried hb) ?_
      refine g_iload dX11_linked_88 rfl ?_
      refine g_iald dX11_linked_90 (kTr_carried hb) he (CV_linkWent hR he) ?_
      refine g_ireturn dX11_linked_91 rfl ?_
      exact ⟨_, rfl, by rw [aLinked, if_pos c9, nN_n (by omega), nN_n (by omega), swA_n (by decide) (Nat.le_of_ble_eq_true rfl)] <;> rfl, rfl⟩
    · subst h9
      refine g_tableIn (off := 66) (tgt := 92) dX11_linked_26 (by decide) (by decide) (by decide) (by decide) ?_
      refine gs_aload_n dX11_linked_92 rfl rfl ?_
      refine g_getR dX11_linked_93 fX11_32 kFC (by decide) rFC_machine ?_
      refine g_getR dX11_linked_96 fX11_250 (kMa hb) (by decide) (rMa_traffic hb) ?_
      refine g_getR dX11_linked_99 fX11_259 (kMa_traffic hb) (by decide) (rTr_waits hb) ?_
      refine g_iload dX11_linked_102 rfl ?_
      refine g_iald dX11_linked_104 (kTr_waits hb) he (CV_linkWaits hR he) ?_
      refine g_ireturn dX11_linked_105 rfl ?_
      exact ⟨_, rfl, by rw [aLinked, if_pos c9, nN_n (by omega), nN_n (by omega), swA_n (by decide) (Nat.le_of_ble_eq_true rfl)] <;> rfl, rfl⟩
    · refine g_tableOut (tgt := 106) dX11_linked_26 h9 (by decide) ?_
      refine g_iconst (v := -1) dX11_linked_106 (by decide) ?_
      refine g_ireturn dX11_linked_107 rfl ?_
      exact ⟨_, rfl, by rw [aLinked, if_pos c9, nN_n (by omega), nN_n (by omega), swA_o h9 rfl], rfl⟩
  · refine g_iconst (v := -1) dX11_linked_12 (by decide) ?_
    refine g_ireturn dX11_linked_13 rfl ?_
    exact ⟨_, rfl, by rw [aLinked, if_neg (nbf c9)], rfl⟩
theorem swA_r {z : Int32} {a b c d : Int32} (h : rg z 0 3 = false) : swA z [a, b, c, d] = -1 := by
  refine swA_o (hi := 3) ?_ rfl
  rw [rg, decide_eq_false_iff_not] at h
  omega
theorem n_linked {σ : Mm} {S : Sx} {H : Hx} (hJ : MI_ σ S H) (hPI : PI S) (x y z : Int32) : RI W0 mX12_linked [.ref 258, .int x, .int y, .int z] σ (fun r τ => r = aLinked S x y z ∧ MJ σ S H τ) := by
  have hB : Bd S := hPI.1.1.1.1
  have b0 := B_nodes hB 0
  have bP := B_P hB 0
  have bT := B_T hB 0
  refine G.met (by decide) (Nat.le_of_ble_eq_true rfl) ?_
  show G _ _ _ 0 [some (.ref 258), some (.int x), some (.int y), some (.int z), none] [] σ
  refine gs_aload_n dX12_linked_0 rfl rfl ?_
  refine g_iconst (v := nI 0) dX12_linked_1 (by decide) ?_
  refine gp_putI dX12_linked_2 pX12_194 kwM (by decide) (Or.inl rfl) ((MJ.rf hJ).off off0 (by decide)) (fun σ hQ => ?_)
  have hM := hQ.1.1
  have hC0 := hQ.1.2.1
  refine gs_aload_n dX12_linked_5 rfl rfl ?_
  refine gs_iload_n dX12_linked_6 rfl rfl ?_
  refine gs_iload_n dX12_linked_7 rfl rfl ?_
  refine g_cVI2 dX12_linked_8 vX12_208 (by decide) kwM (by decide) (Nat.le_of_ble_eq_true rfl) (m_areLinked hM hB _ _) ?_
  rintro _ σ ⟨rfl, e9⟩
  subst e9
  refine gb_if_eq (tgt := 26) dX12_linked_11 (by decide) (fun c11 => ?_) (fun c11 => ?_)
  · refine g_iconst (v := -1) dX12_linked_26 (by decide) ?_
    refine g_ireturn dX12_linked_27 rfl ?_
    exact ⟨_, rfl, by rw [aLinked, if_neg (nbf c11)], hQ⟩
  · refine gs_iload_n dX12_linked_14 rfl rfl ?_
    refine g_i2l dX12_linked_15 rfl ?_
    refine g_lconst (v := 0) dX12_linked_16 (by decide) ?_
    refine g_ldc2 dX12_linked_17 qX12_226 ?_
    refine g_cSI3 dX12_linked_20 vX12_214 (by decide) (Nat.le_of_ble_eq_true rfl) (m_isIn (a := 0) (b := 3) (by decide) (by decide)) ?_
    rintro _ σ ⟨rfl, e9⟩
    subst e9
    refine gb_if_ne (tgt := 28) dX12_linked_23 (by decide) (fun c23 => ?_) (fun c23 => ?_)
    · obtain ⟨a, c, ha, hc, hac, rfl, rfl⟩ := joins_of b0 c11
      have he := ed_lt (h := a) (c := c) (by omega) (by omega)
      have hed := ed_dom (h := a) (c := c) (by omega) (by omega) hac
      obtain ⟨k, hkl, hk, rfl⟩ := rg_of c23
      refine gs_iload_n dX12_linked_28 rfl rfl ?_
      refine gs_iload_n dX12_linked_29 rfl rfl ?_
      refine gn_icmp_ge (tgt := 41) dX12_linked_30 (by decide) (by omega) (by omega) (fun c30 => ?_) (fun c30 => ?_)
      · refine g_iconst (v := nI 4) dX12_linked_41 (by decide) ?_
        refine gs_iload_n dX12_linked_42 rfl rfl ?_
        refine g_imul dX12_linked_43 (by first | exact pk_mul _ _ | rfl) ?_
        refine gs_iload_n dX12_linked_44 rfl rfl ?_
        refine g_iadd dX12_linked_45 (by first | exact nI_add _ _ | rfl) ?_
        refine gs_istore (ls' := [_, _, _, _, _]) dX12_linked_46 rfl rfl ?_
        have ee : ed a c = 4 * c + a := if_neg (by omega)
        rcases (show k = 0 ∨ k = 1 ∨ k = 2 ∨ k = 3 from by omega) with rfl | rfl | rfl | rfl
        · refine gs_iload_n dX12_linked_48 rfl rfl ?_
          refine gf_if_ne (tgt := 62) dX12_linked_49 (by decide) (by omega) (by omega) ?_
          refine gs_aload_n dX12_linked_52 rfl rfl ?_
          refine g_getR dX12_linked_53 fX12_7 kwM (by decide) rM_price ?_
          refine g_iload dX12_linked_56 rfl ?_
          refine g_iald dX12_linked_58 kw_price (by omega) (M_price hM (by omega)) ?_
          refine g_goto (tgt := 99) dX12_linked_59 (by decide) ?_
          refine g_ireturn dX12_linked_99 rfl ?_
          exact ⟨_, rfl, by rw [aLinked, if_pos c11, nN_n (by omega), nN_n (by omega), swA_n (by decide) (Nat.le_of_ble_eq_true rfl), ee] <;> rfl, hQ⟩
        · refine gs_iload_n dX12_linked_48 rfl rfl ?_
          refine gt_if_ne (tgt := 62) dX12_linked_49 (by decide) (by omega) (by omega) ?_
          refine gs_iload_n dX12_linked_62 rfl rfl ?_
          refine g_iconst (v := nI 1) dX12_linked_63 (by decide) ?_
          refine gf_icmp_ne (tgt := 77) dX12_linked_64 (by decide) (by omega) (by omega) (by omega) ?_
          refine gs_aload_n dX12_linked_67 rfl rfl ?_
          refine g_getR dX12_linked_68 fX12_13 kwM (by decide) rM_width ?_
          refine g_iload dX12_linked_71 rfl ?_
          refine g_iald dX12_linked_73 kw_width (by omega) (M_width hM (by omega)) ?_
          refine g_goto (tgt := 99) dX12_linked_74 (by decide) ?_
          refine g_ireturn dX12_linked_99 rfl ?_
          exact ⟨_, rfl, by rw [aLinked, if_pos c11, nN_n (by omega), nN_n (by omega), swA_n (by decide) (Nat.le_of_ble_eq_true rfl), ee] <;> rfl, hQ⟩
        · refine gs_iload_n dX12_linked_48 rfl rfl ?_
          refine gt_if_ne (tgt := 62) dX12_linked_49 (by decide) (by omega) (by omega) ?_
          refine gs_iload_n dX12_linked_62 rfl rfl ?_
          refine g_iconst (v := nI 1) dX12_linked_63 (by decide) ?_
          refine gt_icmp_ne (tgt := 77) dX12_linked_64 (by decide) (by omega) (by omega) (by omega) ?_
          refine gs_iload_n dX12_linked_77 rfl rfl ?_
          refine g_iconst (v := nI 2) dX12_linked_78 (by decide) ?_
          refine gf_icmp_ne (tgt := 92) dX12_linked_79 (by decide) (by omega) (by omega) (by omega) ?_
          refine gs_aload_n dX12_linked_82 rfl rfl ?_
          refine g_getR dX12_linked_83 fX12_139 kwM (by decide) rM_linkWent ?_
          refine g_iload dX12_linked_86 rfl ?_
          refine g_iald dX12_linked_88 kw_linkWent (by omega) (M0_linkWent hM (by omega)) ?_
          refine g_goto (tgt := 99) dX12_linked_89 (by decide) ?_
          refine g_ireturn dX12_linked_99 rfl ?_
          exact ⟨_, rfl, by rw [aLinked, if_pos c11, nN_n (by omega), nN_n (by omega), swA_n (by decide) (Nat.le_of_ble_eq_true rfl), ee] <;> rfl, hQ⟩
        · refine gs_iload_n dX12_linked_48 rfl rfl ?_
          refine gt_if_ne (tgt := 62) dX12_linked_49 (by decide) (by omega) (by omega) ?_
          refine gs_iload_n dX12_linked_62 rfl rfl ?_
          refine g_iconst (v := nI 1) dX12_linked_63 (by decide) ?_
          refine gt_icmp_ne (tgt := 77) dX12_linked_64 (by decide) (by omega) (by omega) (by omega) ?_
          refine gs_iload_n dX12_linked_77 rfl rfl ?_
          refine g_iconst (v := nI 2) dX12_linked_78 (by decide) ?_
          refine gt_icmp_ne (tgt := 92) dX12_linked_79 (by decide) (by omega) (by omega) (by omega) ?_
          refine gs_aload_n dX12_linked_92 rfl rfl ?_
          refine g_getR dX12_linked_93 fX12_142 kwM (by decide) rM_linkWaits ?_
          refine g_iload dX12_linked_96 rfl ?_
          refine g_iald dX12_linked_98 kw_linkWaits (by omega) (M0_linkWaits hM (by omega)) ?_
          refine g_ireturn dX12_linked_99 rfl ?_
          exact ⟨_, rfl, by rw [aLinked, if_pos c11, nN_n (by omega), nN_n (by omega), swA_n (by decide) (Nat.le_of_ble_eq_true rfl), ee] <;> rfl, hQ⟩
      · refine g_iconst (v := nI 4) dX12_linked_33 (by decide) ?_
        refine gs_iload_n dX12_linked_34 rfl rfl ?_
        refine g_imul dX12_linked_35 (by first | exact pk_mul _ _ | rfl) ?_
        refine gs_iload_n dX12_linked_36 rfl rfl ?_
        refine g_iadd dX12_linked_37 (by first | exact nI_add _ _ | rfl) ?_
        refine g_goto (tgt := 46) dX12_linked_38 (by decide) ?_
        refine gs_istore (ls' := [_, _, _, _, _]) dX12_linked_46 rfl rfl ?_
        have ee : ed a c = 4 * a + c := if_pos (by omega)
        rcases (show k = 0 ∨ k = 1 ∨ k = 2 ∨ k = 3 from by omega) with rfl | rfl | rfl | rfl
        · refine gs_iload_n dX12_linked_48 rfl rfl ?_
          refine gf_if_ne (tgt := 62) dX12_linked_49 (by decide) (by omega) (by omega) ?_
          refine gs_aload_n dX12_linked_52 rfl rfl ?_
          refine g_getR dX12_linked_53 fX12_7 kwM (by decide) rM_price ?_
          refine g_iload dX12_linked_56 rfl ?_
          refine g_iald dX12_linked_58 kw_price (by omega) (M_price hM (by omega)) ?_
          refine g_goto (tgt := 99) dX12_linked_59 (by decide) ?_
          refine g_ireturn dX12_linked_99 rfl ?_
          exact ⟨_, rfl, by rw [aLinked, if_pos c11, nN_n (by omega), nN_n (by omega), swA_n (by decide) (Nat.le_of_ble_eq_true rfl), ee] <;> rfl, hQ⟩
        · refine gs_iload_n dX12_linked_48 rfl rfl ?_
          refine gt_if_ne (tgt := 62) dX12_linked_49 (by decide) (by omega) (by omega) ?_
          refine gs_iload_n dX12_linked_62 rfl rfl ?_
          refine g_iconst (v := nI 1) dX12_linked_63 (by decide) ?_
          refine gf_icmp_ne (tgt := 77) dX12_linked_64 (by decide) (by omega) (by omega) (by omega) ?_
          refine gs_aload_n dX12_linked_67 rfl rfl ?_
          refine g_getR dX12_linked_68 fX12_13 kwM (by decide) rM_width ?_
          refine g_iload dX12_linked_71 rfl ?_
          refine g_iald dX12_linked_73 kw_width (by omega) (M_width hM (by omega)) ?_
          refine g_goto (tgt := 99) dX12_linked_74 (by decide) ?_
          refine g_ireturn dX12_linked_99 rfl ?_
          exact ⟨_, rfl, by rw [aLinked, if_pos c11, nN_n (by omega), nN_n (by omega), swA_n (by decide) (Nat.le_of_ble_eq_true rfl), ee] <;> rfl, hQ⟩
        · refine gs_iload_n dX12_linked_48 rfl rfl ?_
          refine gt_if_ne (tgt := 62) dX12_linked_49 (by decide) (by omega) (by omega) ?_
          refine gs_iload_n dX12_linked_62 rfl rfl ?_
          refine g_iconst (v := nI 1) dX12_linked_63 (by decide) ?_
          refine gt_icmp_ne (tgt := 77) dX12_linked_64 (by decide) (by omega) (by omega) (by omega) ?_
          refine gs_iload_n dX12_linked_77 rfl rfl ?_
          refine g_iconst (v := nI 2) dX12_linked_78 (by decide) ?_
          refine gf_icmp_ne (tgt := 92) dX12_linked_79 (by decide) (by omega) (by omega) (by omega) ?_
          refine gs_aload_n dX12_linked_82 rfl rfl ?_
          refine g_getR dX12_linked_83 fX12_139 kwM (by decide) rM_linkWent ?_
          refine g_iload dX12_linked_86 rfl ?_
          refine g_iald dX12_linked_88 kw_linkWent (by omega) (M0_linkWent hM (by omega)) ?_
          refine g_goto (tgt := 99) dX12_linked_89 (by decide) ?_
          refine g_ireturn dX12_linked_99 rfl ?_
          exact ⟨_, rfl, by rw [aLinked, if_pos c11, nN_n (by omega), nN_n (by omega), swA_n (by decide) (Nat.le_of_ble_eq_true rfl), ee] <;> rfl, hQ⟩
        · refine gs_iload_n dX12_linked_48 rfl rfl ?_
          refine gt_if_ne (tgt := 62) dX12_linked_49 (by decide) (by omega) (by omega) ?_
          refine gs_iload_n dX12_linked_62 rfl rfl ?_
          refine g_iconst (v := nI 1) dX12_linked_63 (by decide) ?_
          refine gt_icmp_ne (tgt := 77) dX12_linked_64 (by decide) (by omega) (by omega) (by omega) ?_
          refine gs_iload_n dX12_linked_77 rfl rfl ?_
          refine g_iconst (v := nI 2) dX12_linked_78 (by decide) ?_
          refine gt_icmp_ne (tgt := 92) dX12_linked_79 (by decide) (by omega) (by omega) (by omega) ?_
          refine gs_aload_n dX12_linked_92 rfl rfl ?_
          refine g_getR dX12_linked_93 fX12_142 kwM (by decide) rM_linkWaits ?_
          refine g_iload dX12_linked_96 rfl ?_
          refine g_iald dX12_linked_98 kw_linkWaits (by omega) (M0_linkWaits hM (by omega)) ?_
          refine g_ireturn dX12_linked_99 rfl ?_
          exact ⟨_, rfl, by rw [aLinked, if_pos c11, nN_n (by omega), nN_n (by omega), swA_n (by decide) (Nat.le_of_ble_eq_true rfl), ee] <;> rfl, hQ⟩
    · refine g_iconst (v := -1) dX12_linked_26 (by decide) ?_
      refine g_ireturn dX12_linked_27 rfl ?_
      exact ⟨_, rfl, by rw [aLinked, if_pos c11, swA_r c23], hQ⟩
def aLog (S : Sx) (x y : Int32) : Int32 := if (inN x (S.1 34 0) && rg y 0 9) = true then S.2.1 16 (10 * nN x + nN y) else -1
theorem r_entry {σ : Mm} {S : Sx} {Tf : Nat → Nat} (hR : RepC 57 σ S Tf) (hcap : S.1 39 0 = 300) {i k : Nat} (hi : i < 300) (hk : k < 10) : RI W0 mX2_entry [.ref (57 + 14), .int (nI i), .int (nI k)] σ (fun r τ => r = S.2.1 16 (10 * i + k) ∧ τ = σ) := by
  have hb : mch 57 := Or.inl rfl
  have q := CV_log hR (i := 10 * i + k) (by omega) (by omega)
  rw [show 11 * ((10 * i + k) / 10) + (10 * i + k) % 10 = i * 11 + k from by omega] at q
  refine G.met (by decide) (Nat.le_of_ble_eq_true rfl) ?_
  show G _ _ _ 0 [some (.ref (57 + 14)), some (.int (nI i)), some (.int (nI k))] [] σ
  refine gs_aload_n dX2_entry_0 rfl rfl ?_
  refine g_getR dX2_entry_1 fX2_22 (kMa_journal hb) (by decide) (rJo_entries hb) ?_
  refine gs_iload_n dX2_entry_4 rfl rfl ?_
  refine g_bipush (v := nI 11) dX2_entry_5 (by decide) ?_
  refine g_imul dX2_entry_7 (by first | exact pk_mul _ _ | rfl) ?_
  refine gs_iload_n dX2_entry_8 rfl rfl ?_
  refine g_iadd dX2_entry_9 (by first | exact nI_add _ _ | rfl) ?_
  refine g_iald dX2_entry_10 kJo_entries (by omega) q ?_
  refine g_ireturn dX2_entry_11 rfl ?_
  exact ⟨_, rfl, rfl, rfl⟩
theorem a_log {σ : Mm} {S : Sx} {H : Hx} (hJ : CI σ S H) (hPI : PI S) (x y : Int32) : RI W0 mX11_log [.ref 0, .int x, .int y] σ (fun r τ => r = aLog S x y ∧ τ = σ) := by
  have hJ0 := hJ
  obtain ⟨⟨Tf, hR, hTk⟩, hSh, hTr1, hTr2⟩ := hJ
  have hb : mch 57 := Or.inl rfl
  have hB : Bd S := hPI.1.1.1.1
  have b0 := B_nodes hB 0
  have bP := B_P hB 0
  have bT := B_T hB 0
  refine G.met (by decide) (Nat.le_of_ble_eq_true rfl) ?_
  show G _ _ _ 0 [some (.ref 0), some (.int x), some (.int y)] [] σ
  have b34 := B_logged hB 0
  have hcap : S.1 39 0 = 300 := hPI.1.2.1.1 rfl
  refine gs_iload_n dX11_log_0 rfl rfl ?_
  refine g_iconst (v := nI 0) dX11_log_1 (by decide) ?_
  refine gs_aload_n dX11_log_2 rfl rfl ?_
  refine g_getR dX11_log_3 fX11_32 kFC (by decide) rFC_machine ?_
  refine g_getR dX11_log_6 fX11_261 (kMa hb) (by decide) (rMa_journal hb) ?_
  refine g_getI dX11_log_9 fX11_265 (kMa_journal hb) (by decide) (C_logged hR) ?_
  refine g_iconst (v := nI 1) dX11_log_12 (by decide) ?_
  refine g_isub dX11_log_13 rfl ?_
  refine g_cSI3 dX11_log_14 vX11_50 (by decide) (Nat.le_of_ble_eq_true rfl) (c_withinN (by omega)) ?_
  rintro _ σ ⟨rfl, e9⟩
  subst e9
  refine gb_if_eq (tgt := 30) dX11_log_17 (by decide) (fun c17 => ?_) (fun c17 => ?_)
  · refine g_iconst (v := -1) dX11_log_30 (by decide) ?_
    refine g_ireturn dX11_log_31 rfl ?_
    exact ⟨_, rfl, by rw [aLog, if_neg (nb1 c17)], rfl⟩
  · refine gs_iload_n dX11_log_20 rfl rfl ?_
    refine g_iconst (v := nI 0) dX11_log_21 (by decide) ?_
    refine g_bipush (v := nI 9) dX11_log_22 (by decide) ?_
    refine g_cSI3 dX11_log_24 vX11_50 (by decide) (Nat.le_of_ble_eq_true rfl) (c_within (by decide) (by decide)) ?_
    rintro _ σ ⟨rfl, e9⟩
    subst e9
    refine gb_if_ne (tgt := 32) dX11_log_27 (by decide) (fun c27 => ?_) (fun c27 => ?_)
    · obtain ⟨i, hi, rfl⟩ := inN_of c17 (by omega)
      obtain ⟨k, hkl, hk, rfl⟩ := rg_of c27
      refine gs_aload_n dX11_log_32 rfl rfl ?_
      refine g_getR dX11_log_33 fX11_32 kFC (by decide) rFC_machine ?_
      refine g_getR dX11_log_36 fX11_261 (kMa hb) (by decide) (rMa_journal hb) ?_
      refine gs_iload_n dX11_log_39 rfl rfl ?_
      refine gs_iload_n dX11_log_40 rfl rfl ?_
      refine g_cVI2 dX11_log_41 vX11_269 (by decide) (kMa_journal hb) (by decide) (Nat.le_of_ble_eq_true rfl) (r_entry hR hcap (by omega) (by omega)) ?_
      rintro _ σ ⟨rfl, e9⟩
      subst e9
      refine g_ireturn dX11_log_44 rfl ?_
      exact ⟨_, rfl, by rw [aLog, if_pos (yb c17 c27), nN_n (by omega), nN_n (by omega)], rfl⟩
    · refine g_iconst (v := -1) dX11_log_30 (by decide) ?_
      refine g_ireturn dX11_log_31 rfl ?_
      exact ⟨_, rfl, by rw [aLog, if_neg (nb2 (nbf c27))], rfl⟩
theorem n_log {σ : Mm} {S : Sx} {H : Hx} (hJ : MI_ σ S H) (hPI : PI S) (x y : Int32) : RI W0 mX12_log [.ref 258, .int x, .int y] σ (fun r τ => r = aLog S x y ∧ MJ σ S H τ) := by
  have hB : Bd S := hPI.1.1.1.1
  have b0 := B_nodes hB 0
  have bP := B_P hB 0
  have bT := B_T hB 0
  refine G.met (by decide) (Nat.le_of_ble_eq_true rfl) ?_
  show G _ _ _ 0 [some (.ref 258), some (.int x), some (.int y)] [] σ
  have b34 := B_logged hB 0
  refine gs_aload_n dX12_log_0 rfl rfl ?_
  refine g_iconst (v := nI 0) dX12_log_1 (by decide) ?_
  refine gp_putI dX12_log_2 pX12_194 kwM (by decide) (Or.inl rfl) ((MJ.rf hJ).off off0 (by decide)) (fun σ hQ => ?_)
  have hM := hQ.1.1
  have hC0 := hQ.1.2.1
  refine gs_iload_n dX12_log_5 rfl rfl ?_
  refine g_if_lt (tgt := 29) dX12_log_6 (by decide) (fun c6 => ?_) (fun c6 => ?_)
  · refine g_iconst (v := -1) dX12_log_29 (by decide) ?_
    refine g_goto (tgt := 44) dX12_log_30 (by decide) ?_
    refine g_ireturn dX12_log_44 rfl ?_
    exact ⟨_, rfl, by rw [aLog, if_neg (nb1 (inN_lt c6))], hQ⟩
  · refine gs_iload_n dX12_log_9 rfl rfl ?_
    refine gs_aload_n dX12_log_10 rfl rfl ?_
    refine g_getI dX12_log_11 fX12_284 kwM (by decide) (M_logged hM) ?_
    refine g_icmp_ge (tgt := 29) dX12_log_14 (by decide) (fun c14 => ?_) (fun c14 => ?_)
    · refine g_iconst (v := -1) dX12_log_29 (by decide) ?_
      refine g_goto (tgt := 44) dX12_log_30 (by decide) ?_
      refine g_ireturn dX12_log_44 rfl ?_
      exact ⟨_, rfl, by rw [aLog, if_neg (nb1 (inN_ge (by omega) c14))], hQ⟩
    · refine gs_iload_n dX12_log_17 rfl rfl ?_
      refine g_i2l dX12_log_18 rfl ?_
      refine g_lconst (v := 0) dX12_log_19 (by decide) ?_
      refine g_ldc2 dX12_log_20 qX12_212 ?_
      refine g_cSI3 dX12_log_23 vX12_214 (by decide) (Nat.le_of_ble_eq_true rfl) (m_isIn (a := 0) (b := 9) (by decide) (by decide)) ?_
      rintro _ σ ⟨rfl, e9⟩
      subst e9
      refine gb_if_ne (tgt := 33) dX12_log_26 (by decide) (fun c26 => ?_) (fun c26 => ?_)
      · have c9 : inN x (S.1 34 0) = true := inN_t (by omega) c6 c14
        obtain ⟨i, hi, rfl⟩ := inN_of c9 (by omega)
        obtain ⟨k, hkl, hk, rfl⟩ := rg_of c26
        refine gs_aload_n dX12_log_33 rfl rfl ?_
        refine g_getR dX12_log_34 fX12_145 kwM (by decide) rM_log ?_
        refine g_bipush (v := nI 10) dX12_log_37 (by decide) ?_
        refine gs_iload_n dX12_log_39 rfl rfl ?_
        refine g_imul dX12_log_40 (by first | exact pk_mul _ _ | rfl) ?_
        refine gs_iload_n dX12_log_41 rfl rfl ?_
        refine g_iadd dX12_log_42 (by first | exact nI_add _ _ | rfl) ?_
        refine g_iald dX12_log_43 kw_log (by omega) (M0_log hM (by omega)) ?_
        refine g_ireturn dX12_log_44 rfl ?_
        exact ⟨_, rfl, by rw [aLog, if_pos (yb c9 c26), nN_n (by omega), nN_n (by omega)], hQ⟩
      · refine g_iconst (v := -1) dX12_log_29 (by decide) ?_
        refine g_goto (tgt := 44) dX12_log_30 (by decide) ?_
        refine g_ireturn dX12_log_44 rfl ?_
        exact ⟨_, rfl, by rw [aLog, if_neg (nb2 (nbf c26))], hQ⟩
def gpS (S : Sx) (x : Int32) : Nat → Int32
  | 0 => nI 0
  | i + 1 => gpS S x i + (if S.2.1 16 (10 * i + 3) = x then S.2.1 16 (10 * i + 7) - nI 1 else nI 0)
def aGap (S : Sx) (x : Int32) : Int32 := if inN x (S.1 7 0) = true then gpS S x (S.1 34 0) else -1
theorem add_n0 (x : Int32) : x + nI 0 = x := Int32.add_zero x
theorem cl_gap {σ : Mm} {S : Sx} {Tf : Nat → Nat} {K : Option Value → Mm → Prop} (hR : RepC 57 σ S Tf) (hB : Bd S) (hcap : S.1 39 0 = 300) {x : Int32} (hK : K (some (.int (gpS S x (S.1 34 0)))) σ) : ∀ k i, i + k = S.1 34 0 → G W0 mX2_costAboveNearest K 4 [some (.ref (57 + 14)), some (.int x), some (.int (gpS S x i)), some (.int (nI i))] [] σ := by
  intro k
  induction k with
  | zero =>
    intro i hi
    have hb : mch 57 := Or.inl rfl
    have b34 := B_logged hB 0
    refine gs_iload_n dX2_costAboveNearest_4 rfl rfl ?_
    refine gs_aload_n dX2_costAboveNearest_5 rfl rfl ?_
    refine g_getI dX2_costAboveNearest_6 fX2_25 (kMa_journal hb) (by decide) (C_logged hR) ?_
    refine gt_icmp_ge (tgt := 40) dX2_costAboveNearest_9 (by decide) (by omega) (by omega) (by omega) ?_
    refine gs_iload_n dX2_costAboveNearest_40 rfl rfl ?_
    refine g_ireturn dX2_costAboveNearest_41 rfl ?_
    have e : i = S.1 34 0 := by omega
    rw [← e] at hK
    exact hK
  | succ k ih =>
    intro i hi
    have hb : mch 57 := Or.inl rfl
    have b34 := B_logged hB 0
    refine gs_iload_n dX2_costAboveNearest_4 rfl rfl ?_
    refine gs_aload_n dX2_costAboveNearest_5 rfl rfl ?_
    refine g_getI dX2_costAboveNearest_6 fX2_25 (kMa_journal hb) (by decide) (C_logged hR) ?_
    refine gf_icmp_ge (tgt := 40) dX2_costAboveNearest_9 (by decide) (by omega) (by omega) (by omega) ?_
    refine gs_aload_n dX2_costAboveNearest_12 rfl rfl ?_
    refine gs_iload_n dX2_costAboveNearest_13 rfl rfl ?_
    refine g_iconst (v := nI 3) dX2_costAboveNearest_14 (by decide) ?_
    refine g_cVI2 dX2_costAboveNearest_15 vX2_61 (by decide) (kMa_journal hb) (by decide) (Nat.le_of_ble_eq_true rfl) (r_entry hR hcap (i := i) (k := 3) (by omega) (by omega)) ?_
    rintro _ σ ⟨rfl, e9⟩
    subst e9
    refine gs_iload_n dX2_costAboveNearest_18 rfl rfl ?_
    refine g_icmp_ne (tgt := 34) dX2_costAboveNearest_19 (by decide) (fun c19 => ?_) (fun c19 => ?_)
    · refine gs_iinc (ls' := [_, _, _, _]) dX2_costAboveNearest_34 rfl (nI_add _ 1) rfl rfl ?_
      refine g_goto (tgt := 4) dX2_costAboveNearest_37 (by decide) ?_
      have q := ih (i + 1) (by omega)
      rw [gpS, if_neg c19, add_n0] at q
      exact q
    · refine gs_iload_n dX2_costAboveNearest_22 rfl rfl ?_
      refine gs_aload_n dX2_costAboveNearest_23 rfl rfl ?_
      refine gs_iload_n dX2_costAboveNearest_24 rfl rfl ?_
      refine g_bipush (v := nI 7) dX2_costAboveNearest_25 (by decide) ?_
      refine g_cVI2 dX2_costAboveNearest_27 vX2_61 (by decide) (kMa_journal hb) (by decide) (Nat.le_of_ble_eq_true rfl) (r_entry hR hcap (i := i) (k := 7) (by omega) (by omega)) ?_
      rintro _ σ ⟨rfl, e9⟩
      subst e9
      refine g_iconst (v := nI 1) dX2_costAboveNearest_30 (by decide) ?_
      refine g_isub dX2_costAboveNearest_31 rfl ?_
      refine g_iadd dX2_costAboveNearest_32 rfl ?_
      refine gs_istore_n (ls' := [_, _, _, _]) dX2_costAboveNearest_33 rfl rfl rfl ?_
      refine gs_iinc (ls' := [_, _, _, _]) dX2_costAboveNearest_34 rfl (nI_add _ 1) rfl rfl ?_
      refine g_goto (tgt := 4) dX2_costAboveNearest_37 (by decide) ?_
      have q := ih (i + 1) (by omega)
      rw [gpS, if_pos c19] at q
      exact q
theorem r_gap {σ : Mm} {S : Sx} {Tf : Nat → Nat} (hR : RepC 57 σ S Tf) (hB : Bd S) (hcap : S.1 39 0 = 300) {x : Int32} : RI W0 mX2_costAboveNearest [.ref (57 + 14), .int x] σ (fun r τ => r = gpS S x (S.1 34 0) ∧ τ = σ) := by
  refine G.met (by decide) (Nat.le_of_ble_eq_true rfl) ?_
  show G _ _ _ 0 [some (.ref (57 + 14)), some (.int x), none, none] [] σ
  refine g_iconst (v := nI 0) dX2_costAboveNearest_0 (by decide) ?_
  refine gs_istore_n (ls' := [_, _, _, _]) dX2_costAboveNearest_1 rfl rfl rfl ?_
  refine g_iconst (v := nI 0) dX2_costAboveNearest_2 (by decide) ?_
  refine gs_istore_n (ls' := [_, _, _, _]) dX2_costAboveNearest_3 rfl rfl rfl ?_
  exact cl_gap hR hB hcap ⟨_, rfl, rfl, rfl⟩ (S.1 34 0) 0 (by omega)
theorem a_gap {σ : Mm} {S : Sx} {H : Hx} (hJ : CI σ S H) (hPI : PI S) (x : Int32) : RI W0 mX11_gap [.ref 0, .int x] σ (fun r τ => r = aGap S x ∧ τ = σ) := by
  have hJ0 := hJ
  obtain ⟨⟨Tf, hR, hTk⟩, hSh, hTr1, hTr2⟩ := hJ
  have hb : mch 57 := Or.inl rfl
  have hB : Bd S := hPI.1.1.1.1
  have b0 := B_nodes hB 0
  have bP := B_P hB 0
  have bT := B_T hB 0
  refine G.met (by decide) (Nat.le_of_ble_eq_true rfl) ?_
  show G _ _ _ 0 [some (.ref 0), some (.int x)] [] σ
  have hcap : S.1 39 0 = 300 := hPI.1.2.1.1 rfl
  refine gs_aload_n dX11_gap_0 rfl rfl ?_
  refine g_getR dX11_gap_1 fX11_32 kFC (by decide) rFC_machine ?_
  refine gs_iload_n dX11_gap_4 rfl rfl ?_
  refine g_cVI1 dX11_gap_5 vX11_138 (by decide) (kMa hb) (by decide) (Nat.le_of_ble_eq_true rfl) (c_hasPage hb hR hB _) ?_
  rintro _ σ ⟨rfl, e9⟩
  subst e9
  refine gb_if_eq (tgt := 25) dX11_gap_8 (by decide) (fun c8 => ?_) (fun c8 => ?_)
  · refine g_iconst (v := -1) dX11_gap_25 (by decide) ?_
    refine g_ireturn dX11_gap_26 rfl ?_
    exact ⟨_, rfl, by rw [aGap, if_neg (nbf c8)], rfl⟩
  · refine gs_aload_n dX11_gap_11 rfl rfl ?_
    refine g_getR dX11_gap_12 fX11_32 kFC (by decide) rFC_machine ?_
    refine g_getR dX11_gap_15 fX11_261 (kMa hb) (by decide) (rMa_journal hb) ?_
    refine gs_iload_n dX11_gap_18 rfl rfl ?_
    refine g_cVI1 dX11_gap_19 vX11_280 (by decide) (kMa_journal hb) (by decide) (Nat.le_of_ble_eq_true rfl) (r_gap hR hB hcap) ?_
    rintro _ σ ⟨rfl, e9⟩
    subst e9
    refine g_goto (tgt := 26) dX11_gap_22 (by decide) ?_
    refine g_ireturn dX11_gap_26 rfl ?_
    exact ⟨_, rfl, by rw [aGap, if_pos c8], rfl⟩
theorem l_gap {σ : Mm} {S : Sx} {K : Option Value → Mm → Prop} (hM : RepM 0 σ S) (hB : Bd S) {x : Int32} (hK : K (some (.int (gpS S x (S.1 34 0)))) σ) : ∀ k i, i + k = S.1 34 0 → G W0 mX12_gap K 19 [some (.ref 258), some (.int x), some (.int (gpS S x i)), some (.int (nI i))] [] σ := by
  intro k
  induction k with
  | zero =>
    intro i hi
    have b34 := B_logged hB 0
    refine gs_iload_n dX12_gap_19 rfl rfl ?_
    refine gs_aload_n dX12_gap_20 rfl rfl ?_
    refine g_getI dX12_gap_21 fX12_284 kwM (by decide) (M_logged hM) ?_
    refine gt_icmp_ge (tgt := 69) dX12_gap_24 (by decide) (by omega) (by omega) (by omega) ?_
    refine gs_iload_n dX12_gap_69 rfl rfl ?_
    refine g_ireturn dX12_gap_70 rfl ?_
    have e : i = S.1 34 0 := by omega
    rw [← e] at hK
    exact hK
  | succ k ih =>
    intro i hi
    have b34 := B_logged hB 0
    refine gs_iload_n dX12_gap_19 rfl rfl ?_
    refine gs_aload_n dX12_gap_20 rfl rfl ?_
    refine g_getI dX12_gap_21 fX12_284 kwM (by decide) (M_logged hM) ?_
    refine gf_icmp_ge (tgt := 69) dX12_gap_24 (by decide) (by omega) (by omega) (by omega) ?_
    refine gs_iload_n dX12_gap_27 rfl rfl ?_
    refine gs_aload_n dX12_gap_28 rfl rfl ?_
    refine g_getR dX12_gap_29 fX12_145 kwM (by decide) rM_log ?_
    refine g_bipush (v := nI 10) dX12_gap_32 (by decide) ?_
    refine gs_iload_n dX12_gap_34 rfl rfl ?_
    refine g_imul dX12_gap_35 (by first | exact pk_mul _ _ | rfl) ?_
    refine g_iconst (v := nI 3) dX12_gap_36 (by decide) ?_
    refine g_iadd dX12_gap_37 (by first | exact nI_add _ _ | rfl) ?_
    refine g_iald dX12_gap_38 kw_log (by omega) (M0_log hM (by omega)) ?_
    refine gs_iload_n dX12_gap_39 rfl rfl ?_
    refine g_icmp_ne (tgt := 60) dX12_gap_40 (by decide) (fun c40 => ?_) (fun c40 => ?_)
    · refine g_iconst (v := nI 0) dX12_gap_60 (by decide) ?_
      refine g_iadd dX12_gap_61 rfl ?_
      refine gs_istore_n (ls' := [_, _, _, _]) dX12_gap_62 rfl rfl rfl ?_
      refine gs_iinc (ls' := [_, _, _, _]) dX12_gap_63 rfl (nI_add _ 1) rfl rfl ?_
      refine g_goto (tgt := 19) dX12_gap_66 (by decide) ?_
      have q := ih (i + 1) (by omega)
      rw [gpS, if_neg c40] at q
      exact q
    · refine gs_aload_n dX12_gap_43 rfl rfl ?_
      refine g_getR dX12_gap_44 fX12_145 kwM (by decide) rM_log ?_
      refine g_bipush (v := nI 10) dX12_gap_47 (by decide) ?_
      refine gs_iload_n dX12_gap_49 rfl rfl ?_
      refine g_imul dX12_gap_50 (by first | exact pk_mul _ _ | rfl) ?_
      refine g_bipush (v := nI 7) dX12_gap_51 (by decide) ?_
      refine g_iadd dX12_gap_53 (by first | exact nI_add _ _ | rfl) ?_
      refine g_iald dX12_gap_54 kw_log (by omega) (M0_log hM (by omega)) ?_
      refine g_iconst (v := nI 1) dX12_gap_55 (by decide) ?_
      refine g_isub dX12_gap_56 rfl ?_
      refine g_goto (tgt := 61) dX12_gap_57 (by decide) ?_
      refine g_iadd dX12_gap_61 rfl ?_
      refine gs_istore_n (ls' := [_, _, _, _]) dX12_gap_62 rfl rfl rfl ?_
      refine gs_iinc (ls' := [_, _, _, _]) dX12_gap_63 rfl (nI_add _ 1) rfl rfl ?_
      refine g_goto (tgt := 19) dX12_gap_66 (by decide) ?_
      have q := ih (i + 1) (by omega)
      rw [gpS, if_pos c40] at q
      exact q
theorem n_gap {σ : Mm} {S : Sx} {H : Hx} (hJ : MI_ σ S H) (hPI : PI S) (x : Int32) : RI W0 mX12_gap [.ref 258, .int x] σ (fun r τ => r = aGap S x ∧ MJ σ S H τ) := by
  have hB : Bd S := hPI.1.1.1.1
  have b0 := B_nodes hB 0
  have bP := B_P hB 0
  have bT := B_T hB 0
  refine G.met (by decide) (Nat.le_of_ble_eq_true rfl) ?_
  show G _ _ _ 0 [some (.ref 258), some (.int x), none, none] [] σ
  refine gs_aload_n dX12_gap_0 rfl rfl ?_
  refine g_iconst (v := nI 0) dX12_gap_1 (by decide) ?_
  refine gp_putI dX12_gap_2 pX12_194 kwM (by decide) (Or.inl rfl) ((MJ.rf hJ).off off0 (by decide)) (fun σ hQ => ?_)
  have hM := hQ.1.1
  have hC0 := hQ.1.2.1
  refine gs_aload_n dX12_gap_5 rfl rfl ?_
  refine gs_iload_n dX12_gap_6 rfl rfl ?_
  refine g_cVI1 dX12_gap_7 vX12_253 (by decide) kwM (by decide) (Nat.le_of_ble_eq_true rfl) (s_isPage (M_P hM) (by omega) _) ?_
  rintro _ σ ⟨rfl, e9⟩
  subst e9
  refine gb_if_ne (tgt := 15) dX12_gap_10 (by decide) (fun c10 => ?_) (fun c10 => ?_)
  · refine g_iconst (v := nI 0) dX12_gap_15 (by decide) ?_
    refine gs_istore_n (ls' := [_, _, _, _]) dX12_gap_16 rfl rfl rfl ?_
    refine g_iconst (v := nI 0) dX12_gap_17 (by decide) ?_
    refine gs_istore_n (ls' := [_, _, _, _]) dX12_gap_18 rfl rfl rfl ?_
    exact l_gap hM hB ⟨_, rfl, by rw [aGap, if_pos c10], hQ⟩ (S.1 34 0) 0 (by omega)
  · refine g_iconst (v := -1) dX12_gap_13 (by decide) ?_
    refine g_ireturn dX12_gap_14 rfl ?_
    exact ⟨_, rfl, by rw [aGap, if_neg (nbf c10)], hQ⟩
def aNode (S : Sx) (x y : Int32) : Int32 := if inN x (S.1 0 0) = true then swA y [nI (tk S (nN x) (S.1 7 0)), S.2.1 13 (nN x), nI (S.1 1 0 - uwS S (nN x) (S.1 9 0)), nI (cntB (onN S (nN x)) (S.1 9 0))] else -1
theorem a_node {σ : Mm} {S : Sx} {H : Hx} (hJ : CI σ S H) (hPI : PI S) (x y : Int32) : RI W0 mX11_node [.ref 0, .int x, .int y] σ (fun r τ => r = aNode S x y ∧ τ = σ) := by
  have hJ0 := hJ
  obtain ⟨⟨Tf, hR, hTk⟩, hSh, hTr1, hTr2⟩ := hJ
  have hb : mch 57 := Or.inl rfl
  have hB : Bd S := hPI.1.1.1.1
  have b0 := B_nodes hB 0
  have bP := B_P hB 0
  have bT := B_T hB 0
  refine G.met (by decide) (Nat.le_of_ble_eq_true rfl) ?_
  show G _ _ _ 0 [some (.ref 0), some (.int x), some (.int y)] [] σ
  refine gs_aload_n dX11_node_0 rfl rfl ?_
  refine g_getR dX11_node_1 fX11_18 kFC (by decide) rFC_board ?_
  refine gs_iload_n dX11_node_4 rfl rfl ?_
  refine g_cVI1 dX11_node_5 vX11_69 (by decide) bdW0.1 (by decide) (Nat.le_of_ble_eq_true rfl) (c_has hb hR hB _) ?_
  rintro _ σ ⟨rfl, e9⟩
  subst e9
  refine gb_if_ne (tgt := 13) dX11_node_8 (by decide) (fun c8 => ?_) (fun c8 => ?_)
  · obtain ⟨a, ha, rfl⟩ := inN_of c8 (by omega)
    refine gs_iload_n dX11_node_13 rfl rfl ?_
    rcases sw4 y with h9 | h9 | h9 | h9 | h9
    · subst h9
      refine g_tableIn (off := 30) (tgt := 44) dX11_node_14 (by decide) (by decide) (by decide) (by decide) ?_
      refine gs_aload_n dX11_node_44 rfl rfl ?_
      refine g_getR dX11_node_45 fX11_32 kFC (by decide) rFC_machine ?_
      refine g_getR dX11_node_48 fX11_235 (kMa hb) (by decide) (rMa_taken hb) ?_
      refine gs_iload_n dX11_node_51 rfl rfl ?_
      refine g_iald dX11_node_52 (kMa_taken hb) (by omega) ((hR.2.2.2.1 a (by omega)).trans (by rw [hTk a ha])) ?_
      refine g_ireturn dX11_node_53 rfl ?_
      exact ⟨_, rfl, by rw [aNode, if_pos c8, nN_n (by omega), swA_n (by decide) (Nat.le_of_ble_eq_true rfl)] <;> rfl, rfl⟩
    · subst h9
      refine g_tableIn (off := 40) (tgt := 54) dX11_node_14 (by decide) (by decide) (by decide) (by decide) ?_
      refine gs_aload_n dX11_node_54 rfl rfl ?_
      refine g_getR dX11_node_55 fX11_32 kFC (by decide) rFC_machine ?_
      refine g_getR dX11_node_58 fX11_238 (kMa hb) (by decide) (rMa_nodeBills hb) ?_
      refine gs_iload_n dX11_node_61 rfl rfl ?_
      refine g_iald dX11_node_62 (kMa_nodeBills hb) (by omega) (CV_nodeBill hR (by omega)) ?_
      refine g_ireturn dX11_node_63 rfl ?_
      exact ⟨_, rfl, by rw [aNode, if_pos c8, nN_n (by omega), swA_n (by decide) (Nat.le_of_ble_eq_true rfl)] <;> rfl, rfl⟩
    · subst h9
      refine g_tableIn (off := 50) (tgt := 64) dX11_node_14 (by decide) (by decide) (by decide) (by decide) ?_
      refine gs_aload_n dX11_node_64 rfl rfl ?_
      refine g_getR dX11_node_65 fX11_32 kFC (by decide) rFC_machine ?_
      refine gs_iload_n dX11_node_68 rfl rfl ?_
      refine g_cVI1 dX11_node_69 vX11_241 (by decide) (kMa hb) (by decide) (Nat.le_of_ble_eq_true rfl) (c_free hb hR hB (by omega) (hPI.1.2.2.2.2 a)) ?_
      rintro _ σ ⟨rfl, e9⟩
      subst e9
      refine g_ireturn dX11_node_72 rfl ?_
      exact ⟨_, rfl, by rw [aNode, if_pos c8, nN_n (by omega), swA_n (by decide) (Nat.le_of_ble_eq_true rfl)] <;> rfl, rfl⟩
    · subst h9
      refine g_tableIn (off := 59) (tgt := 73) dX11_node_14 (by decide) (by decide) (by decide) (by decide) ?_
      refine gs_aload_n dX11_node_73 rfl rfl ?_
      refine g_getR dX11_node_74 fX11_32 kFC (by decide) rFC_machine ?_
      refine g_getR dX11_node_77 fX11_164 (kMa hb) (by decide) (rMa_queues hb) ?_
      refine g_getR dX11_node_80 fX11_244 (kMa_queues hb) (by decide) (rQu_size hb) ?_
      refine gs_iload_n dX11_node_83 rfl rfl ?_
      refine g_iald dX11_node_84 (kQu_size hb) (by omega) ((qSz hR (by omega)).trans (by rw [q_len hPI.1.2.2.2.1 (by omega)])) ?_
      refine g_ireturn dX11_node_85 rfl ?_
      exact ⟨_, rfl, by rw [aNode, if_pos c8, nN_n (by omega), swA_n (by decide) (Nat.le_of_ble_eq_true rfl)] <;> rfl, rfl⟩
    · refine g_tableOut (tgt := 86) dX11_node_14 h9 (by decide) ?_
      refine g_iconst (v := -1) dX11_node_86 (by decide) ?_
      refine g_ireturn dX11_node_87 rfl ?_
      exact ⟨_, rfl, by rw [aNode, if_pos c8, nN_n (by omega), swA_o h9 rfl], rfl⟩
  · refine g_iconst (v := -1) dX11_node_11 (by decide) ?_
    refine g_ireturn dX11_node_12 rfl ?_
    exact ⟨_, rfl, by rw [aNode, if_neg (nbf c8)], rfl⟩
theorem l_node {σ : Mm} {S : Sx} {K : Option Value → Mm → Prop} (hM : RepM 0 σ S) (hB : Bd S) {a : Nat} {y : Int32} (ha : a < 4) (hK : G W0 mX12_node K 66 [some (.ref 258), some (.int (nI a)), some (.int y), some (.int (nI (cntB (onN S a) (S.1 9 0)))), none] [] σ) : ∀ k t, t + k = S.1 9 0 → G W0 mX12_node K 32 [some (.ref 258), some (.int (nI a)), some (.int y), some (.int (nI (cntB (onN S a) t))), some (.int (nI t))] [] σ := by
  intro k
  induction k with
  | zero =>
    intro t ht
    have bT := B_T hB 0
    have b29 := B_at hB t
    have bc := cnt_le (onN S a) t
    refine g_iload dX12_node_32 rfl ?_
    refine gs_aload_n dX12_node_34 rfl rfl ?_
    refine g_getI dX12_node_35 fX12_200 kwM (by decide) (M_T hM) ?_
    refine gt_icmp_ge (tgt := 66) dX12_node_38 (by decide) (by omega) (by omega) (by omega) ?_
    refine G.drop 4 (ls' := [_, _, _, _, none]) rfl ?_
    have e : t = S.1 9 0 := by omega
    rw [← e] at hK
    exact hK
  | succ k ih =>
    intro t ht
    have bT := B_T hB 0
    have b29 := B_at hB t
    have bc := cnt_le (onN S a) t
    refine g_iload dX12_node_32 rfl ?_
    refine gs_aload_n dX12_node_34 rfl rfl ?_
    refine g_getI dX12_node_35 fX12_200 kwM (by decide) (M_T hM) ?_
    refine gf_icmp_ge (tgt := 66) dX12_node_38 (by decide) (by omega) (by omega) (by omega) ?_
    refine gs_iload_n dX12_node_41 rfl rfl ?_
    refine gs_aload_n dX12_node_42 rfl rfl ?_
    refine g_getR dX12_node_43 fX12_103 kwM (by decide) rM_at ?_
    refine g_iload dX12_node_46 rfl ?_
    refine g_iald dX12_node_48 kw_at (by omega) (M0_at hM (by omega)) ?_
    refine gs_iload_n dX12_node_49 rfl rfl ?_
    refine gn_icmp_ne (tgt := 57) dX12_node_50 (by decide) (by omega) (by omega) (fun c50 => ?_) (fun c50 => ?_)
    · refine g_iconst (v := nI 0) dX12_node_57 (by decide) ?_
      refine g_iadd dX12_node_58 (by first | exact nI_add _ _ | rfl) ?_
      refine gs_istore_n (ls' := [_, _, _, _, _]) dX12_node_59 rfl rfl rfl ?_
      refine gs_iinc (ls' := [_, _, _, _, _]) dX12_node_60 rfl (nI_add _ 1) rfl rfl ?_
      refine g_goto (tgt := 32) dX12_node_63 (by decide) ?_
      have q := ih (t + 1) (by omega)
      rw [cntB, onN, if_neg (by rw [decide_eq_true_eq]; exact c50)] at q
      exact q
    · refine g_iconst (v := nI 1) dX12_node_53 (by decide) ?_
      refine g_goto (tgt := 58) dX12_node_54 (by decide) ?_
      refine g_iadd dX12_node_58 (by first | exact nI_add _ _ | rfl) ?_
      refine gs_istore_n (ls' := [_, _, _, _, _]) dX12_node_59 rfl rfl rfl ?_
      refine gs_iinc (ls' := [_, _, _, _, _]) dX12_node_60 rfl (nI_add _ 1) rfl rfl ?_
      refine g_goto (tgt := 32) dX12_node_63 (by decide) ?_
      have q := ih (t + 1) (by omega)
      rw [cntB, onN, if_pos (by rw [decide_eq_true_eq]; exact c50)] at q
      exact q
theorem n_node {σ : Mm} {S : Sx} {H : Hx} (hJ : MI_ σ S H) (hPI : PI S) (x y : Int32) : RI W0 mX12_node [.ref 258, .int x, .int y] σ (fun r τ => r = aNode S x y ∧ MJ σ S H τ) := by
  have hB : Bd S := hPI.1.1.1.1
  have b0 := B_nodes hB 0
  have bP := B_P hB 0
  have bT := B_T hB 0
  refine G.met (by decide) (Nat.le_of_ble_eq_true rfl) ?_
  show G _ _ _ 0 [some (.ref 258), some (.int x), some (.int y), none, none] [] σ
  refine gs_aload_n dX12_node_0 rfl rfl ?_
  refine g_iconst (v := nI 0) dX12_node_1 (by decide) ?_
  refine gp_putI dX12_node_2 pX12_194 kwM (by decide) (Or.inl rfl) ((MJ.rf hJ).off off0 (by decide)) (fun σ hQ => ?_)
  have hM := hQ.1.1
  have hC0 := hQ.1.2.1
  refine gs_aload_n dX12_node_5 rfl rfl ?_
  refine gs_iload_n dX12_node_6 rfl rfl ?_
  refine g_cVI1 dX12_node_7 vX12_204 (by decide) kwM (by decide) (Nat.le_of_ble_eq_true rfl) (s_isNode (M_nodes hM) (by omega) _) ?_
  rintro _ σ ⟨rfl, e9⟩
  subst e9
  refine gb_if_eq (tgt := 25) dX12_node_10 (by decide) (fun c10 => ?_) (fun c10 => ?_)
  · refine g_iconst (v := -1) dX12_node_25 (by decide) ?_
    refine g_ireturn dX12_node_26 rfl ?_
    exact ⟨_, rfl, by rw [aNode, if_neg (nbf c10)], hQ⟩
  · refine gs_iload_n dX12_node_13 rfl rfl ?_
    refine g_i2l dX12_node_14 rfl ?_
    refine g_lconst (v := 0) dX12_node_15 (by decide) ?_
    refine g_ldc2 dX12_node_16 qX12_226 ?_
    refine g_cSI3 dX12_node_19 vX12_214 (by decide) (Nat.le_of_ble_eq_true rfl) (m_isIn (a := 0) (b := 3) (by decide) (by decide)) ?_
    rintro _ σ ⟨rfl, e9⟩
    subst e9
    refine gb_if_ne (tgt := 27) dX12_node_22 (by decide) (fun c22 => ?_) (fun c22 => ?_)
    · refine g_iconst (v := nI 0) dX12_node_27 (by decide) ?_
      refine gs_istore_n (ls' := [_, _, _, _, _]) dX12_node_28 rfl rfl rfl ?_
      refine g_iconst (v := nI 0) dX12_node_29 (by decide) ?_
      refine gs_istore (ls' := [_, _, _, _, _]) dX12_node_30 rfl rfl ?_
      obtain ⟨a, ha, rfl⟩ := inN_of c10 (by omega)
      obtain ⟨k, hkl, hk, rfl⟩ := rg_of c22
      refine l_node hM hB (by omega) ?_ (S.1 9 0) 0 (by omega)
      rcases (show k = 0 ∨ k = 1 ∨ k = 2 ∨ k = 3 from by omega) with rfl | rfl | rfl | rfl
      · refine gs_iload_n dX12_node_66 rfl rfl ?_
        refine gf_if_ne (tgt := 78) dX12_node_67 (by decide) (by omega) (by omega) ?_
        refine gs_aload_n dX12_node_70 rfl rfl ?_
        refine gs_iload_n dX12_node_71 rfl rfl ?_
        refine g_cVI1 dX12_node_72 vX12_246 (by decide) kwM (by decide) (Nat.le_of_ble_eq_true rfl) (s_taken hM hB hC0 (a := a) (by omega)) ?_
        rintro _ σ ⟨rfl, e9⟩
        subst e9
        refine g_goto (tgt := 112) dX12_node_75 (by decide) ?_
        refine g_ireturn dX12_node_112 rfl ?_
        exact ⟨_, rfl, by rw [aNode, if_pos c10, nN_n (by omega), swA_n (by decide) (Nat.le_of_ble_eq_true rfl)] <;> rfl, hQ⟩
      · refine gs_iload_n dX12_node_66 rfl rfl ?_
        refine gt_if_ne (tgt := 78) dX12_node_67 (by decide) (by omega) (by omega) ?_
        refine gs_iload_n dX12_node_78 rfl rfl ?_
        refine g_iconst (v := nI 1) dX12_node_79 (by decide) ?_
        refine gf_icmp_ne (tgt := 93) dX12_node_80 (by decide) (by omega) (by omega) (by omega) ?_
        refine gs_aload_n dX12_node_83 rfl rfl ?_
        refine g_getR dX12_node_84 fX12_133 kwM (by decide) rM_nodeBill ?_
        refine gs_iload_n dX12_node_87 rfl rfl ?_
        refine g_lald dX12_node_88 kw_nodeBill (by omega) rfl ?_
        refine g_l2i dX12_node_89 (M0_nodeBill hM (by omega)) ?_
        refine g_goto (tgt := 112) dX12_node_90 (by decide) ?_
        refine g_ireturn dX12_node_112 rfl ?_
        exact ⟨_, rfl, by rw [aNode, if_pos c10, nN_n (by omega), swA_n (by decide) (Nat.le_of_ble_eq_true rfl)] <;> rfl, hQ⟩
      · refine gs_iload_n dX12_node_66 rfl rfl ?_
        refine gt_if_ne (tgt := 78) dX12_node_67 (by decide) (by omega) (by omega) ?_
        refine gs_iload_n dX12_node_78 rfl rfl ?_
        refine g_iconst (v := nI 1) dX12_node_79 (by decide) ?_
        refine gt_icmp_ne (tgt := 93) dX12_node_80 (by decide) (by omega) (by omega) (by omega) ?_
        refine gs_iload_n dX12_node_93 rfl rfl ?_
        refine g_iconst (v := nI 2) dX12_node_94 (by decide) ?_
        refine gf_icmp_ne (tgt := 111) dX12_node_95 (by decide) (by omega) (by omega) (by omega) ?_
        refine gs_aload_n dX12_node_98 rfl rfl ?_
        refine g_getI dX12_node_99 fX12_185 kwM (by decide) (M_proc hM) ?_
        refine gs_aload_n dX12_node_102 rfl rfl ?_
        refine gs_iload_n dX12_node_103 rfl rfl ?_
        refine g_cVI1 dX12_node_104 vX12_321 (by decide) kwM (by decide) (Nat.le_of_ble_eq_true rfl) (s_underWay hM hB hC0 (a := a) (by omega)) ?_
        rintro _ σ ⟨rfl, e9⟩
        subst e9
        refine g_isub dX12_node_107 (pk_sub (hPI.1.2.2.2.2 a)) ?_
        refine g_goto (tgt := 112) dX12_node_108 (by decide) ?_
        refine g_ireturn dX12_node_112 rfl ?_
        exact ⟨_, rfl, by rw [aNode, if_pos c10, nN_n (by omega), swA_n (by decide) (Nat.le_of_ble_eq_true rfl)] <;> rfl, hQ⟩
      · refine gs_iload_n dX12_node_66 rfl rfl ?_
        refine gt_if_ne (tgt := 78) dX12_node_67 (by decide) (by omega) (by omega) ?_
        refine gs_iload_n dX12_node_78 rfl rfl ?_
        refine g_iconst (v := nI 1) dX12_node_79 (by decide) ?_
        refine gt_icmp_ne (tgt := 93) dX12_node_80 (by decide) (by omega) (by omega) (by omega) ?_
        refine gs_iload_n dX12_node_93 rfl rfl ?_
        refine g_iconst (v := nI 2) dX12_node_94 (by decide) ?_
        refine gt_icmp_ne (tgt := 111) dX12_node_95 (by decide) (by omega) (by omega) (by omega) ?_
        refine gs_iload_n dX12_node_111 rfl rfl ?_
        refine g_ireturn dX12_node_112 rfl ?_
        exact ⟨_, rfl, by rw [aNode, if_pos c10, nN_n (by omega), swA_n (by decide) (Nat.le_of_ble_eq_true rfl)] <;> rfl, hQ⟩
    · refine g_iconst (v := -1) dX12_node_25 (by decide) ?_
      refine g_ireturn dX12_node_26 rfl ?_
      exact ⟨_, rfl, by rw [aNode, if_pos c10, swA_r c22], hQ⟩
def aAbout (S : Sx) (x y : Int32) : Int32 := if inN x (S.1 9 0) = true then swA y [nI (S.1 29 (nN x)), nI (S.1 30 (nN x)), nI (if S.1 32 (nN x) = 0 then S.1 10 (nN x) - S.1 30 (nN x) else 0), nI (S.1 31 (nN x)), S.2.1 10 (nN x), nI (S.1 32 (nN x)), S.2.1 11 (nN x), nI (cntB (bfN S (nN x)) (S.1 9 0))] else -1
theorem a_about {σ : Mm} {S : Sx} {H : Hx} (hJ : CI σ S H) (hPI : PI S) (x y : Int32) : RI W0 mX11_about [.ref 0, .int x, .int y] σ (fun r τ => r = aAbout S x y ∧ τ = σ) := by
  have hJ0 := hJ
  obtain ⟨⟨Tf, hR, hTk⟩, hSh, hTr1, hTr2⟩ := hJ
  have hb : mch 57 := Or.inl rfl
  have hB : Bd S := hPI.1.1.1.1
  have b0 := B_nodes hB 0
  have bP := B_P hB 0
  have bT := B_T hB 0
  refine G.met (by decide) (Nat.le_of_ble_eq_true rfl) ?_
  show G _ _ _ 0 [some (.ref 0), some (.int x), some (.int y), none] [] σ
  refine gs_aload_n dX11_about_0 rfl rfl ?_
  refine g_getR dX11_about_1 fX11_32 kFC (by decide) rFC_machine ?_
  refine gs_iload_n dX11_about_4 rfl rfl ?_
  refine g_cVI1 dX11_about_5 vX11_98 (by decide) (kMa hb) (by decide) (Nat.le_of_ble_eq_true rfl) (c_hasWorker hb hR hB _) ?_
  rintro _ σ ⟨rfl, e9⟩
  subst e9
  refine gb_if_ne (tgt := 13) dX11_about_8 (by decide) (fun c8 => ?_) (fun c8 => ?_)
  · obtain ⟨t, ht, rfl⟩ := inN_of c8 (by omega)
    have h10 : t < 10 := by omega
    have b32 := B_ended hB t
    have b10 := B_told hB t
    have b29 := B_at hB t
    have hnt := hPI.1.1.2.2.2.2 t
    have hpo := c_placeOf hb hR hB (a := S.1 29 t) (t := t) (by omega) (by omega) (fun i => Qi_lt hPI.1.2.2.2.1 hB (by omega) i)
    rw [q_place hPI.1.2.2.2.1 ht (by omega)] at hpo
    refine gs_aload_n dX11_about_13 rfl rfl ?_
    refine g_getR dX11_about_14 fX11_32 kFC (by decide) rFC_machine ?_
    refine g_getR dX11_about_17 fX11_101 (kMa hb) (by decide) (rMa_workers hb) ?_
    refine gs_iload_n dX11_about_20 rfl rfl ?_
    refine g_aald27 dX11_about_21 (kMa_workers hb) h10 (rWs hb h10) ?_
    refine gs_astore_n (ls' := [_, _, _, _]) dX11_about_22 rfl rfl rfl ?_
    refine gs_iload_n dX11_about_23 rfl rfl ?_
    rcases sw8 y with h9 | h9 | h9 | h9 | h9 | h9 | h9 | h9 | h9
    · subst h9
      refine g_tableIn (off := 48) (tgt := 72) dX11_about_24 (by decide) (by decide) (by decide) (by decide) ?_
      refine gs_aload_n dX11_about_72 rfl rfl ?_
      refine g_getI dX11_about_73 fX11_161 (kWk hb h10) (by decide) (C_at hR (by omega) (by omega)) ?_
      refine g_ireturn dX11_about_76 rfl ?_
      exact ⟨_, rfl, by rw [aAbout, if_pos c8, nN_n (by omega), swA_n (by decide) (Nat.le_of_ble_eq_true rfl)] <;> rfl, rfl⟩
    · subst h9
      refine g_tableIn (off := 53) (tgt := 77) dX11_about_24 (by decide) (by decide) (by decide) (by decide) ?_
      refine gs_aload_n dX11_about_77 rfl rfl ?_
      refine g_getI dX11_about_78 fX11_216 (kWk hb h10) (by decide) (C_next hR (by omega) (by omega)) ?_
      refine g_ireturn dX11_about_81 rfl ?_
      exact ⟨_, rfl, by rw [aAbout, if_pos c8, nN_n (by omega), swA_n (by decide) (Nat.le_of_ble_eq_true rfl)] <;> rfl, rfl⟩
    · subst h9
      refine g_tableIn (off := 58) (tgt := 82) dX11_about_24 (by decide) (by decide) (by decide) (by decide) ?_
      refine gs_aload_n dX11_about_82 rfl rfl ?_
      refine g_cVI0 dX11_about_83 vX11_219 (by decide) (kWk hb h10) (by decide) (Nat.le_of_ble_eq_true rfl) (c_left hb hR hB ht hnt) ?_
      rintro _ σ ⟨rfl, e9⟩
      subst e9
      refine g_ireturn dX11_about_86 rfl ?_
      exact ⟨_, rfl, by rw [aAbout, if_pos c8, nN_n (by omega), swA_n (by decide) (Nat.le_of_ble_eq_true rfl)] <;> rfl, rfl⟩
    · subst h9
      refine g_tableIn (off := 63) (tgt := 87) dX11_about_24 (by decide) (by decide) (by decide) (by decide) ?_
      refine gs_aload_n dX11_about_87 rfl rfl ?_
      refine g_getI dX11_about_88 fX11_158 (kWk hb h10) (by decide) (C_toGo hR (by omega) (by omega)) ?_
      refine g_ireturn dX11_about_91 rfl ?_
      exact ⟨_, rfl, by rw [aAbout, if_pos c8, nN_n (by omega), swA_n (by decide) (Nat.le_of_ble_eq_true rfl)] <;> rfl, rfl⟩
    · subst h9
      refine g_tableIn (off := 68) (tgt := 92) dX11_about_24 (by decide) (by decide) (by decide) (by decide) ?_
      refine gs_aload_n dX11_about_92 rfl rfl ?_
      refine g_getI dX11_about_93 fX11_223 (kWk hb h10) (by decide) (CV_waits hR (by omega) (by omega)) ?_
      refine g_ireturn dX11_about_96 rfl ?_
      exact ⟨_, rfl, by rw [aAbout, if_pos c8, nN_n (by omega), swA_n (by decide) (Nat.le_of_ble_eq_true rfl)] <;> rfl, rfl⟩
    · subst h9
      refine g_tableIn (off := 73) (tgt := 97) dX11_about_24 (by decide) (by decide) (by decide) (by decide) ?_
      refine gs_aload_n dX11_about_97 rfl rfl ?_
      refine g_getI dX11_about_98 fX11_105 (kWk hb h10) (by decide) (C_ended hR (by omega) (by omega)) ?_
      refine gn_if_eq (tgt := 108) dX11_about_101 (by decide) (by omega) (fun c101 => ?_) (fun c101 => ?_)
      · refine g_iconst (v := nI 0) dX11_about_108 (by decide) ?_
        refine g_ireturn dX11_about_109 rfl ?_
        exact ⟨_, rfl, by rw [aAbout, if_pos c8, nN_n (by omega), swA_n (by decide) (Nat.le_of_ble_eq_true rfl)]; show _ = nI (S.1 32 t); rw [show S.1 32 t = 0 from by omega], rfl⟩
      · refine g_iconst (v := nI 1) dX11_about_104 (by decide) ?_
        refine g_goto (tgt := 109) dX11_about_105 (by decide) ?_
        refine g_ireturn dX11_about_109 rfl ?_
        exact ⟨_, rfl, by rw [aAbout, if_pos c8, nN_n (by omega), swA_n (by decide) (Nat.le_of_ble_eq_true rfl)]; show _ = nI (S.1 32 t); rw [show S.1 32 t = 1 from by omega], rfl⟩
    · subst h9
      refine g_tableIn (off := 86) (tgt := 110) dX11_about_24 (by decide) (by decide) (by decide) (by decide) ?_
      refine gs_aload_n dX11_about_110 rfl rfl ?_
      refine g_getI dX11_about_111 fX11_226 (kWk hb h10) (by decide) (CV_threadBill hR (by omega) (by omega)) ?_
      refine g_ireturn dX11_about_114 rfl ?_
      exact ⟨_, rfl, by rw [aAbout, if_pos c8, nN_n (by omega), swA_n (by decide) (Nat.le_of_ble_eq_true rfl)] <;> rfl, rfl⟩
    · subst h9
      refine g_tableIn (off := 91) (tgt := 115) dX11_about_24 (by decide) (by decide) (by decide) (by decide) ?_
      refine gs_aload_n dX11_about_115 rfl rfl ?_
      refine g_getR dX11_about_116 fX11_32 kFC (by decide) rFC_machine ?_
      refine g_getR dX11_about_119 fX11_164 (kMa hb) (by decide) (rMa_queues hb) ?_
      refine gs_aload_n dX11_about_122 rfl rfl ?_
      refine g_getI dX11_about_123 fX11_161 (kWk hb h10) (by decide) (C_at hR (by omega) (by omega)) ?_
      refine gs_iload_n dX11_about_126 rfl rfl ?_
      refine g_cVI2 dX11_about_127 vX11_227 (by decide) (kMa_queues hb) (by decide) (Nat.le_of_ble_eq_true rfl) (hpo) ?_
      rintro _ σ ⟨rfl, e9⟩
      subst e9
      refine g_ireturn dX11_about_130 rfl ?_
      exact ⟨_, rfl, by rw [aAbout, if_pos c8, nN_n (by omega), swA_n (by decide) (Nat.le_of_ble_eq_true rfl)] <;> rfl, rfl⟩
    · refine g_tableOut (tgt := 131) dX11_about_24 h9 (by decide) ?_
      refine g_iconst (v := -1) dX11_about_131 (by decide) ?_
      refine g_ireturn dX11_about_132 rfl ?_
      exact ⟨_, rfl, by rw [aAbout, if_pos c8, nN_n (by omega), swA_o h9 rfl], rfl⟩
  · refine g_iconst (v := -1) dX11_about_11 (by decide) ?_
    refine g_ireturn dX11_about_12 rfl ?_
    exact ⟨_, rfl, by rw [aAbout, if_neg (nbf c8)], rfl⟩
theorem l_qp {σ : Mm} {S : Sx} {K : Option Value → Mm → Prop} (hM : RepM 0 σ S) (hB : Bd S) {t : Nat} (ht : t < 10) (hK : K (some (.int (nI (cntB (bfN S t) (S.1 9 0))))) σ) : ∀ k u, u + k = S.1 9 0 → G W0 mX12_queuePlace K 4 [some (.ref 258), some (.int (nI t)), some (.int (nI (cntB (bfN S t) u))), some (.int (nI u))] [] σ := by
  intro k
  induction k with
  | zero =>
    intro u hu
    have bT := B_T hB 0
    have b29 := B_at hB t
    have b29u := B_at hB u
    have b35 := B_stamp hB t
    have b35u := B_stamp hB u
    have bc := cnt_le (bfN S t) u
    refine gs_iload_n dX12_queuePlace_4 rfl rfl ?_
    refine gs_aload_n dX12_queuePlace_5 rfl rfl ?_
    refine g_getI dX12_queuePlace_6 fX12_200 kwM (by decide) (M_T hM) ?_
    refine gt_icmp_ge (tgt := 56) dX12_queuePlace_9 (by decide) (by omega) (by omega) (by omega) ?_
    refine gs_iload_n dX12_queuePlace_56 rfl rfl ?_
    refine g_ireturn dX12_queuePlace_57 rfl ?_
    have e : u = S.1 9 0 := by omega
    rw [← e] at hK
    exact hK
  | succ k ih =>
    intro u hu
    have bT := B_T hB 0
    have b29 := B_at hB t
    have b29u := B_at hB u
    have b35 := B_stamp hB t
    have b35u := B_stamp hB u
    have bc := cnt_le (bfN S t) u
    refine gs_iload_n dX12_queuePlace_4 rfl rfl ?_
    refine gs_aload_n dX12_queuePlace_5 rfl rfl ?_
    refine g_getI dX12_queuePlace_6 fX12_200 kwM (by decide) (M_T hM) ?_
    refine gf_icmp_ge (tgt := 56) dX12_queuePlace_9 (by decide) (by omega) (by omega) (by omega) ?_
    refine gs_iload_n dX12_queuePlace_12 rfl rfl ?_
    refine gs_aload_n dX12_queuePlace_13 rfl rfl ?_
    refine g_getR dX12_queuePlace_14 fX12_103 kwM (by decide) rM_at ?_
    refine gs_iload_n dX12_queuePlace_17 rfl rfl ?_
    refine g_iald dX12_queuePlace_18 kw_at (by omega) (M0_at hM (by omega)) ?_
    refine gs_aload_n dX12_queuePlace_19 rfl rfl ?_
    refine g_getR dX12_queuePlace_20 fX12_103 kwM (by decide) rM_at ?_
    refine gs_iload_n dX12_queuePlace_23 rfl rfl ?_
    refine g_iald dX12_queuePlace_24 kw_at (by omega) (M0_at hM (by omega)) ?_
    refine gn_icmp_ne (tgt := 47) dX12_queuePlace_25 (by decide) (by omega) (by omega) (fun c25 => ?_) (fun c25 => ?_)
    · refine g_iconst (v := nI 0) dX12_queuePlace_47 (by decide) ?_
      refine g_iadd dX12_queuePlace_48 (by first | exact nI_add _ _ | rfl) ?_
      refine gs_istore_n (ls' := [_, _, _, _]) dX12_queuePlace_49 rfl rfl rfl ?_
      refine gs_iinc (ls' := [_, _, _, _]) dX12_queuePlace_50 rfl (nI_add _ 1) rfl rfl ?_
      refine g_goto (tgt := 4) dX12_queuePlace_53 (by decide) ?_
      have q := ih (u + 1) (by omega)
      rw [cntB, bfN, decide_eq_false c25, Bool.false_and, if_neg (by decide)] at q
      exact q
    · refine gs_aload_n dX12_queuePlace_28 rfl rfl ?_
      refine g_getR dX12_queuePlace_29 fX12_106 kwM (by decide) rM_stamp ?_
      refine gs_iload_n dX12_queuePlace_32 rfl rfl ?_
      refine g_iald dX12_queuePlace_33 kw_stamp (by omega) (M0_stamp hM (by omega)) ?_
      refine gs_aload_n dX12_queuePlace_34 rfl rfl ?_
      refine g_getR dX12_queuePlace_35 fX12_106 kwM (by decide) rM_stamp ?_
      refine gs_iload_n dX12_queuePlace_38 rfl rfl ?_
      refine g_iald dX12_queuePlace_39 kw_stamp (by omega) (M0_stamp hM (by omega)) ?_
      refine gn_icmp_ge (tgt := 47) dX12_queuePlace_40 (by decide) (by omega) (by omega) (fun c40 => ?_) (fun c40 => ?_)
      · refine g_iconst (v := nI 0) dX12_queuePlace_47 (by decide) ?_
        refine g_iadd dX12_queuePlace_48 (by first | exact nI_add _ _ | rfl) ?_
        refine gs_istore_n (ls' := [_, _, _, _]) dX12_queuePlace_49 rfl rfl rfl ?_
        refine gs_iinc (ls' := [_, _, _, _]) dX12_queuePlace_50 rfl (nI_add _ 1) rfl rfl ?_
        refine g_goto (tgt := 4) dX12_queuePlace_53 (by decide) ?_
        have q := ih (u + 1) (by omega)
        rw [cntB, bfN, decide_eq_false (p := S.1 35 u < S.1 35 t) (by omega), Bool.and_false, if_neg (by decide)] at q
        exact q
      · refine g_iconst (v := nI 1) dX12_queuePlace_43 (by decide) ?_
        refine g_goto (tgt := 48) dX12_queuePlace_44 (by decide) ?_
        refine g_iadd dX12_queuePlace_48 (by first | exact nI_add _ _ | rfl) ?_
        refine gs_istore_n (ls' := [_, _, _, _]) dX12_queuePlace_49 rfl rfl rfl ?_
        refine gs_iinc (ls' := [_, _, _, _]) dX12_queuePlace_50 rfl (nI_add _ 1) rfl rfl ?_
        refine g_goto (tgt := 4) dX12_queuePlace_53 (by decide) ?_
        have q := ih (u + 1) (by omega)
        rw [cntB, bfN, decide_eq_true c25, decide_eq_true c40, Bool.and_true, if_pos rfl] at q
        exact q
theorem s_qp {σ : Mm} {S : Sx} (hM : RepM 0 σ S) (hB : Bd S) {t : Nat} (ht : t < 10) : RI W0 mX12_queuePlace [.ref 258, .int (nI t)] σ (fun r τ => r = nI (cntB (bfN S t) (S.1 9 0)) ∧ τ = σ) := by
  refine G.met (by decide) (Nat.le_of_ble_eq_true rfl) ?_
  show G _ _ _ 0 [some (.ref 258), some (.int (nI t)), none, none] [] σ
  refine g_iconst (v := nI 0) dX12_queuePlace_0 (by decide) ?_
  refine gs_istore_n (ls' := [_, _, _, _]) dX12_queuePlace_1 rfl rfl rfl ?_
  refine g_iconst (v := nI 0) dX12_queuePlace_2 (by decide) ?_
  refine gs_istore_n (ls' := [_, _, _, _]) dX12_queuePlace_3 rfl rfl rfl ?_
  exact l_qp hM hB ht ⟨_, rfl, rfl, rfl⟩ (S.1 9 0) 0 (by omega)
theorem n_about {σ : Mm} {S : Sx} {H : Hx} (hJ : MI_ σ S H) (hPI : PI S) (x y : Int32) : RI W0 mX12_about [.ref 258, .int x, .int y] σ (fun r τ => r = aAbout S x y ∧ MJ σ S H τ) := by
  have hB : Bd S := hPI.1.1.1.1
  have b0 := B_nodes hB 0
  have bP := B_P hB 0
  have bT := B_T hB 0
  refine G.met (by decide) (Nat.le_of_ble_eq_true rfl) ?_
  show G _ _ _ 0 [some (.ref 258), some (.int x), some (.int y)] [] σ
  refine gs_aload_n dX12_about_0 rfl rfl ?_
  refine g_iconst (v := nI 0) dX12_about_1 (by decide) ?_
  refine gp_putI dX12_about_2 pX12_194 kwM (by decide) (Or.inl rfl) ((MJ.rf hJ).off off0 (by decide)) (fun σ hQ => ?_)
  have hM := hQ.1.1
  have hC0 := hQ.1.2.1
  refine gs_aload_n dX12_about_5 rfl rfl ?_
  refine gs_iload_n dX12_about_6 rfl rfl ?_
  refine g_cVI1 dX12_about_7 vX12_228 (by decide) kwM (by decide) (Nat.le_of_ble_eq_true rfl) (s_isThread (M_T hM) (by omega) _) ?_
  rintro _ σ ⟨rfl, e9⟩
  subst e9
  refine gb_if_ne (tgt := 15) dX12_about_10 (by decide) (fun c10 => ?_) (fun c10 => ?_)
  · obtain ⟨t, ht, rfl⟩ := inN_of c10 (by omega)
    have h10 : t < 10 := by omega
    have b32 := B_ended hB t
    have b10 := B_told hB t
    have b29 := B_at hB t
    have hnt := hPI.1.1.2.2.2.2 t
    refine gs_iload_n dX12_about_15 rfl rfl ?_
    rcases sw8 y with h9 | h9 | h9 | h9 | h9 | h9 | h9 | h9 | h9
    · subst h9
      refine g_tableIn (off := 48) (tgt := 64) dX12_about_16 (by decide) (by decide) (by decide) (by decide) ?_
      refine gs_aload_n dX12_about_64 rfl rfl ?_
      refine g_getR dX12_about_65 fX12_103 kwM (by decide) rM_at ?_
      refine gs_iload_n dX12_about_68 rfl rfl ?_
      refine g_iald dX12_about_69 kw_at (by omega) (M0_at hM (by omega)) ?_
      refine g_ireturn dX12_about_70 rfl ?_
      exact ⟨_, rfl, by rw [aAbout, if_pos c10, nN_n (by omega), swA_n (by decide) (Nat.le_of_ble_eq_true rfl)] <;> rfl, hQ⟩
    · subst h9
      refine g_tableIn (off := 55) (tgt := 71) dX12_about_16 (by decide) (by decide) (by decide) (by decide) ?_
      refine gs_aload_n dX12_about_71 rfl rfl ?_
      refine g_getR dX12_about_72 fX12_121 kwM (by decide) rM_threadWent ?_
      refine gs_iload_n dX12_about_75 rfl rfl ?_
      refine g_iald dX12_about_76 kw_threadWent (by omega) ((M0_threadWent hM h10).trans (hPI.2.2.2.1 t)) ?_
      refine g_ireturn dX12_about_77 rfl ?_
      exact ⟨_, rfl, by rw [aAbout, if_pos c10, nN_n (by omega), swA_n (by decide) (Nat.le_of_ble_eq_true rfl)] <;> rfl, hQ⟩
    · subst h9
      refine g_tableIn (off := 62) (tgt := 78) dX12_about_16 (by decide) (by decide) (by decide) (by decide) ?_
      refine gs_aload_n dX12_about_78 rfl rfl ?_
      refine g_getR dX12_about_79 fX12_118 kwM (by decide) rM_ended ?_
      refine gs_iload_n dX12_about_82 rfl rfl ?_
      refine g_zald dX12_about_83 kw_ended (by omega) (M0_ended hM (by omega)) ?_
      refine gn_if_eq (tgt := 91) dX12_about_84 (by decide) (by omega) (fun c84 => ?_) (fun c84 => ?_)
      · refine gs_aload_n dX12_about_91 rfl rfl ?_
        refine g_getR dX12_about_92 fX12_22 kwM (by decide) rM_told ?_
        refine gs_iload_n dX12_about_95 rfl rfl ?_
        refine g_iald dX12_about_96 kw_told (by omega) (M_told hM (by omega)) ?_
        refine gs_aload_n dX12_about_97 rfl rfl ?_
        refine g_getR dX12_about_98 fX12_109 kwM (by decide) rM_next ?_
        refine gs_iload_n dX12_about_101 rfl rfl ?_
        refine g_iald dX12_about_102 kw_next (by omega) (M0_next hM (by omega)) ?_
        refine g_isub dX12_about_103 (pk_sub hnt) ?_
        refine g_ireturn dX12_about_104 rfl ?_
        exact ⟨_, rfl, by rw [aAbout, if_pos c10, nN_n (by omega), swA_n (by decide) (Nat.le_of_ble_eq_true rfl)]; show _ = nI (if S.1 32 t = 0 then _ else 0); rw [if_pos c84], hQ⟩
      · refine g_iconst (v := nI 0) dX12_about_87 (by decide) ?_
        refine g_goto (tgt := 104) dX12_about_88 (by decide) ?_
        refine g_ireturn dX12_about_104 rfl ?_
        exact ⟨_, rfl, by rw [aAbout, if_pos c10, nN_n (by omega), swA_n (by decide) (Nat.le_of_ble_eq_true rfl)]; show _ = nI (if S.1 32 t = 0 then _ else 0); rw [if_neg (by omega)], hQ⟩
    · subst h9
      refine g_tableIn (off := 89) (tgt := 105) dX12_about_16 (by decide) (by decide) (by decide) (by decide) ?_
      refine gs_aload_n dX12_about_105 rfl rfl ?_
      refine g_getR dX12_about_106 fX12_112 kwM (by decide) rM_toGo ?_
      refine gs_iload_n dX12_about_109 rfl rfl ?_
      refine g_iald dX12_about_110 kw_toGo (by omega) (M0_toGo hM (by omega)) ?_
      refine g_ireturn dX12_about_111 rfl ?_
      exact ⟨_, rfl, by rw [aAbout, if_pos c10, nN_n (by omega), swA_n (by decide) (Nat.le_of_ble_eq_true rfl)] <;> rfl, hQ⟩
    · subst h9
      refine g_tableIn (off := 96) (tgt := 112) dX12_about_16 (by decide) (by decide) (by decide) (by decide) ?_
      refine gs_aload_n dX12_about_112 rfl rfl ?_
      refine g_getR dX12_about_113 fX12_115 kwM (by decide) rM_waits ?_
      refine gs_iload_n dX12_about_116 rfl rfl ?_
      refine g_iald dX12_about_117 kw_waits (by omega) (M0_waits hM (by omega)) ?_
      refine g_ireturn dX12_about_118 rfl ?_
      exact ⟨_, rfl, by rw [aAbout, if_pos c10, nN_n (by omega), swA_n (by decide) (Nat.le_of_ble_eq_true rfl)] <;> rfl, hQ⟩
    · subst h9
      refine g_tableIn (off := 103) (tgt := 119) dX12_about_16 (by decide) (by decide) (by decide) (by decide) ?_
      refine gs_aload_n dX12_about_119 rfl rfl ?_
      refine g_getR dX12_about_120 fX12_118 kwM (by decide) rM_ended ?_
      refine gs_iload_n dX12_about_123 rfl rfl ?_
      refine g_zald dX12_about_124 kw_ended (by omega) (M0_ended hM (by omega)) ?_
      refine gn_if_eq (tgt := 132) dX12_about_125 (by decide) (by omega) (fun c125 => ?_) (fun c125 => ?_)
      · refine g_iconst (v := nI 0) dX12_about_132 (by decide) ?_
        refine g_ireturn dX12_about_133 rfl ?_
        exact ⟨_, rfl, by rw [aAbout, if_pos c10, nN_n (by omega), swA_n (by decide) (Nat.le_of_ble_eq_true rfl)]; show _ = nI (S.1 32 t); rw [show S.1 32 t = 0 from by omega], hQ⟩
      · refine g_iconst (v := nI 1) dX12_about_128 (by decide) ?_
        refine g_goto (tgt := 133) dX12_about_129 (by decide) ?_
        refine g_ireturn dX12_about_133 rfl ?_
        exact ⟨_, rfl, by rw [aAbout, if_pos c10, nN_n (by omega), swA_n (by decide) (Nat.le_of_ble_eq_true rfl)]; show _ = nI (S.1 32 t); rw [show S.1 32 t = 1 from by omega], hQ⟩
    · subst h9
      refine g_tableIn (off := 118) (tgt := 134) dX12_about_16 (by decide) (by decide) (by decide) (by decide) ?_
      refine gs_aload_n dX12_about_134 rfl rfl ?_
      refine g_getR dX12_about_135 fX12_124 kwM (by decide) rM_threadBill ?_
      refine gs_iload_n dX12_about_138 rfl rfl ?_
      refine g_lald dX12_about_139 kw_threadBill (by omega) rfl ?_
      refine g_l2i dX12_about_140 (M0_threadBill hM (by omega)) ?_
      refine g_ireturn dX12_about_141 rfl ?_
      exact ⟨_, rfl, by rw [aAbout, if_pos c10, nN_n (by omega), swA_n (by decide) (Nat.le_of_ble_eq_true rfl)] <;> rfl, hQ⟩
    · subst h9
      refine g_tableIn (off := 126) (tgt := 142) dX12_about_16 (by decide) (by decide) (by decide) (by decide) ?_
      refine gs_aload_n dX12_about_142 rfl rfl ?_
      refine gs_iload_n dX12_about_143 rfl rfl ?_
      refine g_cVI1 dX12_about_144 vX12_335 (by decide) kwM (by decide) (Nat.le_of_ble_eq_true rfl) (s_qp hM hB h10) ?_
      rintro _ σ ⟨rfl, e9⟩
      subst e9
      refine g_ireturn dX12_about_147 rfl ?_
      exact ⟨_, rfl, by rw [aAbout, if_pos c10, nN_n (by omega), swA_n (by decide) (Nat.le_of_ble_eq_true rfl)] <;> rfl, hQ⟩
    · refine g_tableOut (tgt := 148) dX12_about_16 h9 (by decide) ?_
      refine g_iconst (v := -1) dX12_about_148 (by decide) ?_
      refine g_ireturn dX12_about_149 rfl ?_
      exact ⟨_, rfl, by rw [aAbout, if_pos c10, nN_n (by omega), swA_o h9 rfl], hQ⟩
  · refine g_iconst (v := -1) dX12_about_13 (by decide) ?_
    refine g_ireturn dX12_about_14 rfl ?_
    exact ⟨_, rfl, by rw [aAbout, if_neg (nbf c10)], hQ⟩
def wyR (S : Sx) (b : Nat) : Nat → Nat → Int32
  | 0, h => nI h
  | k + 1, h => if h = b then -1 else wyR S b k (bh S h b)
theorem wyR_end {S : Sx} {b : Nat} : ∀ k h i, rhS S b k h → k < i → wyR S b i h = -1 := by
  intro k
  induction k with
  | zero =>
    intro h i hr hi
    cases i with
    | zero => omega
    | succ i => exact if_pos hr
  | succ k ih =>
    intro h i hr hi
    cases i with
    | zero => omega
    | succ i =>
      rw [wyR]
      split
      · rfl
      · next hne => exact ih _ i (hr.resolve_left hne) (by omega)
theorem nI_nn {x : Int32} (h : 0 ≤ x) : ∃ m : Nat, m < 2 ^ 31 ∧ x = nI m ∧ nN x = m := by
  have h0 : (0 : Int) ≤ x.toInt := by
    have q := Int32.le_iff_toInt_le.mp h
    exact q
  have h1 := x.toInt_lt
  refine ⟨x.toInt.toNat, by omega, ?_, rfl⟩
  show x = Int32.ofNat x.toInt.toNat
  rw [← Int32.ofInt_eq_ofNat, Int.toNat_of_nonneg h0, Int32.ofInt_toInt]
def aWay (S : Sx) (x y z : Int32) : Int32 := if (inN x (S.1 0 0) && (inN y (S.1 0 0) && decide (0 ≤ z))) = true then (if rcS S (nN x) (nN y) = true then wyR S (nN y) (nN z) (nN x) else -2) else -1
theorem cl_way {σ : Mm} {S : Sx} {Tf : Nat → Nat} {K : Option Value → Mm → Prop} (hR : RepC 57 σ S Tf) (hB : Bd S) (hH : Hp S) {a c m : Nat} (hc : c < S.1 0 0) (hm : m < 10) {R : Int32} (hK : K (some (.int R)) σ) : ∀ k s h, s + k = m → h < S.1 0 0 → S.1 5 (4 * h + c) < 1000 → wyR S c k h = R → G W0 mX11_way K 62 [some (.ref 0), some (.int (nI a)), some (.int (nI c)), some (.int (nI m)), some (.int (nI h)), some (.int (nI s))] [] σ := by
  intro k
  induction k with
  | zero =>
    intro s h hs hh hr hW
    have hb : mch 57 := Or.inl rfl
    have b0 := B_nodes hB 0
    refine g_iload dX11_way_62 rfl ?_
    refine gs_iload_n dX11_way_64 rfl rfl ?_
    refine gt_icmp_ge (tgt := 94) dX11_way_65 (by decide) (by omega) (by omega) (by omega) ?_
    refine g_iload dX11_way_94 rfl ?_
    refine g_ireturn dX11_way_96 rfl ?_
    rw [← hW] at hK
    exact hK
  | succ k ih =>
    intro s h hs hh hr hW
    have hb : mch 57 := Or.inl rfl
    have b0 := B_nodes hB 0
    refine g_iload dX11_way_62 rfl ?_
    refine gs_iload_n dX11_way_64 rfl rfl ?_
    refine gf_icmp_ge (tgt := 94) dX11_way_65 (by decide) (by omega) (by omega) (by omega) ?_
    refine g_iload dX11_way_68 rfl ?_
    refine gs_iload_n dX11_way_70 rfl rfl ?_
    refine gn_icmp_ne (tgt := 76) dX11_way_71 (by decide) (by omega) (by omega) (fun c71 => ?_) (fun c71 => ?_)
    · refine gs_aload_n dX11_way_76 rfl rfl ?_
      refine g_getR dX11_way_77 fX11_18 kFC (by decide) rFC_board ?_
      refine g_iload dX11_way_80 rfl ?_
      refine gs_iload_n dX11_way_82 rfl rfl ?_
      refine g_cVI2 dX11_way_83 vX11_82 (by decide) bdW0.1 (by decide) (Nat.le_of_ble_eq_true rfl) (c_nextNode hb hR hB hh hc) ?_
      rintro _ σ ⟨rfl, e9⟩
      subst e9
      refine gs_istore (ls' := [_, _, _, _, _, _]) dX11_way_86 rfl rfl ?_
      refine gs_iinc (ls' := [_, _, _, _, _, _]) dX11_way_88 rfl (nI_add _ 1) rfl rfl ?_
      refine g_goto (tgt := 62) dX11_way_91 (by decide) ?_
      rw [hH.1 h c hh hc c71 hr]
      exact ih (s + 1) (bh S h c) (by omega) (bh_lt hc) (bh_rc hH hc hr) (by rw [← hW]; exact (if_neg c71).symm)
    · refine g_iconst (v := -1) dX11_way_74 (by decide) ?_
      refine g_ireturn dX11_way_75 rfl ?_
      rw [show wyR S c (k + 1) h = -1 from if_pos c71] at hW
      rw [← hW] at hK
      exact hK
theorem a_way {σ : Mm} {S : Sx} {H : Hx} (hJ : CI σ S H) (hPI : PI S) (x y z : Int32) : RI W0 mX11_way [.ref 0, .int x, .int y, .int z] σ (fun r τ => r = aWay S x y z ∧ τ = σ) := by
  have hJ0 := hJ
  obtain ⟨⟨Tf, hR, hTk⟩, hSh, hTr1, hTr2⟩ := hJ
  have hb : mch 57 := Or.inl rfl
  have hB : Bd S := hPI.1.1.1.1
  have b0 := B_nodes hB 0
  have bP := B_P hB 0
  have bT := B_T hB 0
  refine G.met (by decide) (Nat.le_of_ble_eq_true rfl) ?_
  show G _ _ _ 0 [some (.ref 0), some (.int x), some (.int y), some (.int z), none, none] [] σ
  refine gs_aload_n dX11_way_0 rfl rfl ?_
  refine g_getR dX11_way_1 fX11_18 kFC (by decide) rFC_board ?_
  refine gs_iload_n dX11_way_4 rfl rfl ?_
  refine g_cVI1 dX11_way_5 vX11_69 (by decide) bdW0.1 (by decide) (Nat.le_of_ble_eq_true rfl) (c_has hb hR hB _) ?_
  rintro _ σ ⟨rfl, e9⟩
  subst e9
  refine gb_if_eq (tgt := 26) dX11_way_8 (by decide) (fun c8 => ?_) (fun c8 => ?_)
  · refine g_iconst (v := -1) dX11_way_26 (by decide) ?_
    refine g_ireturn dX11_way_27 rfl ?_
    exact ⟨_, rfl, by rw [aWay, if_neg (nb1 c8)], rfl⟩
  · refine gs_aload_n dX11_way_11 rfl rfl ?_
    refine g_getR dX11_way_12 fX11_18 kFC (by decide) rFC_board ?_
    refine gs_iload_n dX11_way_15 rfl rfl ?_
    refine g_cVI1 dX11_way_16 vX11_69 (by decide) bdW0.1 (by decide) (Nat.le_of_ble_eq_true rfl) (c_has hb hR hB _) ?_
    rintro _ σ ⟨rfl, e9⟩
    subst e9
    refine gb_if_eq (tgt := 26) dX11_way_19 (by decide) (fun c19 => ?_) (fun c19 => ?_)
    · refine g_iconst (v := -1) dX11_way_26 (by decide) ?_
      refine g_ireturn dX11_way_27 rfl ?_
      exact ⟨_, rfl, by rw [aWay, if_neg (nb2 (nb1 c19))], rfl⟩
    · refine gs_iload_n dX11_way_22 rfl rfl ?_
      refine g_if_ge (tgt := 28) dX11_way_23 (by decide) (fun c23 => ?_) (fun c23 => ?_)
      · obtain ⟨a, ha, rfl⟩ := inN_of c8 (by omega)
        obtain ⟨c, hc, rfl⟩ := inN_of c19 (by omega)
        obtain ⟨m, hm31, rfl, hmN⟩ := nI_nn c23
        refine gs_aload_n dX11_way_28 rfl rfl ?_
        refine g_getR dX11_way_29 fX11_18 kFC (by decide) rFC_board ?_
        refine gs_iload_n dX11_way_32 rfl rfl ?_
        refine gs_iload_n dX11_way_33 rfl rfl ?_
        refine g_cVI2 dX11_way_34 vX11_73 (by decide) bdW0.1 (by decide) (Nat.le_of_ble_eq_true rfl) (c_reaches hb hR hB ha hc) ?_
        rintro _ σ ⟨rfl, e9⟩
        subst e9
        refine gb_if_ne (tgt := 43) dX11_way_37 (by decide) (fun c37 => ?_) (fun c37 => ?_)
        · have hrc : S.1 5 (4 * a + c) < 1000 := by simpa [rcS] using c37
          have eA : aWay S (nI a) (nI c) (nI m) = wyR S c m a := by rw [aWay, if_pos (yb c8 (yb c19 (decide_eq_true c23))), nN_n (by omega), nN_n (by omega), if_pos c37, hmN]
          refine gs_iload_n dX11_way_43 rfl rfl ?_
          refine gs_aload_n dX11_way_44 rfl rfl ?_
          refine g_getR dX11_way_45 fX11_18 kFC (by decide) rFC_board ?_
          refine g_getI dX11_way_48 fX11_79 bdW0.1 (by decide) (C_nodes hR) ?_
          refine gn_icmp_lt (tgt := 56) dX11_way_51 (by decide) (by omega) (by omega) (fun c51 => ?_) (fun c51 => ?_)
          · refine gs_iload_n dX11_way_56 rfl rfl ?_
            refine gs_istore (ls' := [_, _, _, _, _, _]) dX11_way_57 rfl rfl ?_
            refine g_iconst (v := nI 0) dX11_way_59 (by decide) ?_
            refine gs_istore (ls' := [_, _, _, _, _, _]) dX11_way_60 rfl rfl ?_
            exact cl_way hR hB hPI.1.1.2.1 hc (by omega) ⟨_, rfl, eA.symm, rfl⟩ m 0 a (by omega) ha hrc rfl
          · refine g_iconst (v := -1) dX11_way_54 (by decide) ?_
            refine g_ireturn dX11_way_55 rfl ?_
            exact ⟨_, rfl, by rw [eA, wyR_end (S.1 0 0 - 1) a m (hPI.2.2.2.2.1 a c ha hc hrc) (by omega)], rfl⟩
        · refine g_bipush (v := -2) dX11_way_40 (by decide) ?_
          refine g_ireturn dX11_way_42 rfl ?_
          exact ⟨_, rfl, by rw [aWay, if_pos (yb c8 (yb c19 (decide_eq_true c23))), nN_n (by omega), nN_n (by omega), if_neg (nbf c37)], rfl⟩
      · refine g_iconst (v := -1) dX11_way_26 (by decide) ?_
        refine g_ireturn dX11_way_27 rfl ?_
        exact ⟨_, rfl, by rw [aWay, if_neg (nb2 (nb2 (nbf (decide_eq_false c23))))], rfl⟩
theorem l_way {σ : Mm} {S : Sx} {K : Option Value → Mm → Prop} (hM : RepM 0 σ S) (hB : Bd S) (hC0 : hC 0 σ) {a c m : Nat} (hc : c < S.1 0 0) (hm : m < 2 ^ 31) {R : Int32} (hK : K (some (.int R)) σ) : ∀ k s h, s + k = m → h < S.1 0 0 → wyR S c k h = R → G W0 mX12_way K 45 [some (.ref 258), some (.int (nI a)), some (.int (nI c)), some (.int (nI m)), some (.int (nI h)), some (.int (nI s))] [] σ := by
  intro k
  induction k with
  | zero =>
    intro s h hs hh hW
    have b0 := B_nodes hB 0
    refine g_iload dX12_way_45 rfl ?_
    refine gs_iload_n dX12_way_47 rfl rfl ?_
    refine gt_icmp_ge (tgt := 74) dX12_way_48 (by decide) (by omega) (by omega) (by omega) ?_
    refine g_iload dX12_way_74 rfl ?_
    refine g_ireturn dX12_way_76 rfl ?_
    rw [← hW] at hK
    exact hK
  | succ k ih =>
    intro s h hs hh hW
    have b0 := B_nodes hB 0
    refine g_iload dX12_way_45 rfl ?_
    refine gs_iload_n dX12_way_47 rfl rfl ?_
    refine gf_icmp_ge (tgt := 74) dX12_way_48 (by decide) (by omega) (by omega) (by omega) ?_
    refine g_iload dX12_way_51 rfl ?_
    refine gs_iload_n dX12_way_53 rfl rfl ?_
    refine gn_icmp_ne (tgt := 59) dX12_way_54 (by decide) (by omega) (by omega) (fun c54 => ?_) (fun c54 => ?_)
    · refine gs_aload_n dX12_way_59 rfl rfl ?_
      refine g_iload dX12_way_60 rfl ?_
      refine gs_iload_n dX12_way_62 rfl rfl ?_
      refine g_cVI2 dX12_way_63 vX12_223 (by decide) kwM (by decide) (Nat.le_of_ble_eq_true rfl) (s_behind hM hB hC0 (a := h) (b := c) (by omega) (by omega)) ?_
      rintro _ σ ⟨rfl, e9⟩
      subst e9
      refine gs_istore (ls' := [_, _, _, _, _, _]) dX12_way_66 rfl rfl ?_
      refine gs_iinc (ls' := [_, _, _, _, _, _]) dX12_way_68 rfl (nI_add _ 1) rfl rfl ?_
      refine g_goto (tgt := 45) dX12_way_71 (by decide) ?_
      exact ih (s + 1) (bh S h c) (by omega) (bh_lt hc) (by rw [← hW]; exact (if_neg c54).symm)
    · refine g_iconst (v := -1) dX12_way_57 (by decide) ?_
      refine g_ireturn dX12_way_58 rfl ?_
      rw [show wyR S c (k + 1) h = -1 from if_pos c54] at hW
      rw [← hW] at hK
      exact hK
theorem n_way {σ : Mm} {S : Sx} {H : Hx} (hJ : MI_ σ S H) (hPI : PI S) (x y z : Int32) : RI W0 mX12_way [.ref 258, .int x, .int y, .int z] σ (fun r τ => r = aWay S x y z ∧ MJ σ S H τ) := by
  have hB : Bd S := hPI.1.1.1.1
  have b0 := B_nodes hB 0
  have bP := B_P hB 0
  have bT := B_T hB 0
  refine G.met (by decide) (Nat.le_of_ble_eq_true rfl) ?_
  show G _ _ _ 0 [some (.ref 258), some (.int x), some (.int y), some (.int z), none, none] [] σ
  refine gs_aload_n dX12_way_0 rfl rfl ?_
  refine g_iconst (v := nI 0) dX12_way_1 (by decide) ?_
  refine gp_putI dX12_way_2 pX12_194 kwM (by decide) (Or.inl rfl) ((MJ.rf hJ).off off0 (by decide)) (fun σ hQ => ?_)
  have hM := hQ.1.1
  have hC0 := hQ.1.2.1
  refine gs_aload_n dX12_way_5 rfl rfl ?_
  refine gs_iload_n dX12_way_6 rfl rfl ?_
  refine g_cVI1 dX12_way_7 vX12_204 (by decide) kwM (by decide) (Nat.le_of_ble_eq_true rfl) (s_isNode (M_nodes hM) (by omega) _) ?_
  rintro _ σ ⟨rfl, e9⟩
  subst e9
  refine gb_if_eq (tgt := 25) dX12_way_10 (by decide) (fun c10 => ?_) (fun c10 => ?_)
  · refine g_iconst (v := -1) dX12_way_25 (by decide) ?_
    refine g_ireturn dX12_way_26 rfl ?_
    exact ⟨_, rfl, by rw [aWay, if_neg (nb1 c10)], hQ⟩
  · refine gs_aload_n dX12_way_13 rfl rfl ?_
    refine gs_iload_n dX12_way_14 rfl rfl ?_
    refine g_cVI1 dX12_way_15 vX12_204 (by decide) kwM (by decide) (Nat.le_of_ble_eq_true rfl) (s_isNode (M_nodes hM) (by omega) _) ?_
    rintro _ σ ⟨rfl, e9⟩
    subst e9
    refine gb_if_eq (tgt := 25) dX12_way_18 (by decide) (fun c18 => ?_) (fun c18 => ?_)
    · refine g_iconst (v := -1) dX12_way_25 (by decide) ?_
      refine g_ireturn dX12_way_26 rfl ?_
      exact ⟨_, rfl, by rw [aWay, if_neg (nb2 (nb1 c18))], hQ⟩
    · refine gs_iload_n dX12_way_21 rfl rfl ?_
      refine g_if_ge (tgt := 27) dX12_way_22 (by decide) (fun c22 => ?_) (fun c22 => ?_)
      · obtain ⟨a, ha, rfl⟩ := inN_of c10 (by omega)
        obtain ⟨c, hc, rfl⟩ := inN_of c18 (by omega)
        obtain ⟨m, hm31, rfl, hmN⟩ := nI_nn c22
        refine gs_aload_n dX12_way_27 rfl rfl ?_
        refine gs_iload_n dX12_way_28 rfl rfl ?_
        refine gs_iload_n dX12_way_29 rfl rfl ?_
        refine g_cVI2 dX12_way_30 vX12_220 (by decide) kwM (by decide) (Nat.le_of_ble_eq_true rfl) (s_isWay hM hB hC0 (a := a) (b := c) (by omega) (by omega)) ?_
        rintro _ σ ⟨rfl, e9⟩
        subst e9
        refine gb_if_ne (tgt := 39) dX12_way_33 (by decide) (fun c33 => ?_) (fun c33 => ?_)
        · refine gs_iload_n dX12_way_39 rfl rfl ?_
          refine gs_istore (ls' := [_, _, _, _, _, _]) dX12_way_40 rfl rfl ?_
          refine g_iconst (v := nI 0) dX12_way_42 (by decide) ?_
          refine gs_istore (ls' := [_, _, _, _, _, _]) dX12_way_43 rfl rfl ?_
          have eA : aWay S (nI a) (nI c) (nI m) = wyR S c m a := by rw [aWay, if_pos (yb c10 (yb c18 (decide_eq_true c22))), nN_n (by omega), nN_n (by omega), if_pos c33, hmN]
          exact l_way hM hB hC0 hc hm31 ⟨_, rfl, eA.symm, hQ⟩ m 0 a (by omega) ha rfl
        · refine g_bipush (v := -2) dX12_way_36 (by decide) ?_
          refine g_ireturn dX12_way_38 rfl ?_
          exact ⟨_, rfl, by rw [aWay, if_pos (yb c10 (yb c18 (decide_eq_true c22))), nN_n (by omega), nN_n (by omega), if_neg (nbf c33)], hQ⟩
      · refine g_iconst (v := -1) dX12_way_25 (by decide) ?_
        refine g_ireturn dX12_way_26 rfl ?_
        exact ⟨_, rfl, by rw [aWay, if_neg (nb2 (nb2 (nbf (decide_eq_false c22))))], hQ⟩
