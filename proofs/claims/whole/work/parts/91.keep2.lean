/-! Shelves: keep of the reference, make, copy, weight. -/
theorem MH1 {σ0 σ : Mm} {S : Sx} {H : Hx} (h : MJ σ0 S H σ) {d : Nat} (hd : d < 8) : σ.1 307 d = H 1 d := (h.1.2.2.1.1 d hd).2.1
theorem MH0 {σ0 σ : Mm} {S : Sx} {H : Hx} (h : MJ σ0 S H σ) {d : Nat} (hd : d < 8) : σ.1 306 d = H 0 d := (h.1.2.2.1.1 d hd).1
theorem s_weightOf {σ : Mm} {S : Sx} (hM : RepM 0 σ S) (hB : Bd S) {p : Nat} (h20 : p < 20) : RI W0 mX12_weightOf [.ref 258, .int (nI p)] σ (fun r τ => r = wtK S p ∧ τ = σ) := by
  have b8 := B_kind hB p
  have b24 := B_lies hB p
  have b25 := B_copies hB p
  have bp := @pc4_le (S.1 25 p)
  refine G.met (by decide) (Nat.le_of_ble_eq_true rfl) ?_
  show G _ _ _ 0 [some (.ref 258), some (.int (nI p)), none] [] σ
  by_cases hz : S.1 24 p = 0
  · refine gs_iload_n dX12_weightOf_0 rfl rfl ?_
    refine g_iconst (v := nI 1) dX12_weightOf_1 (by decide) ?_
    refine g_iadd dX12_weightOf_2 (by first | exact nI_add _ _ | rfl) ?_
    refine gs_istore_n (ls' := [_, _, _]) dX12_weightOf_3 rfl rfl rfl ?_
    refine gs_aload_n dX12_weightOf_4 rfl rfl ?_
    refine g_getR dX12_weightOf_5 fX12_19 kwM (by decide) rM_kind ?_
    refine gs_iload_n dX12_weightOf_8 rfl rfl ?_
    refine g_iald dX12_weightOf_9 kw_kind (by omega) (M_kind hM h20) ?_
    refine gn_if_ne (tgt := 17) dX12_weightOf_10 (by decide) (by omega) (fun c10 => ?_) (fun c10 => ?_)
    · refine gs_aload_n dX12_weightOf_17 rfl rfl ?_
      refine g_getR dX12_weightOf_18 fX12_19 kwM (by decide) rM_kind ?_
      refine gs_iload_n dX12_weightOf_21 rfl rfl ?_
      refine g_iald dX12_weightOf_22 kw_kind (by omega) (M_kind hM h20) ?_
      refine g_iconst (v := nI 1) dX12_weightOf_23 (by decide) ?_
      refine gn_icmp_ne (tgt := 45) dX12_weightOf_24 (by decide) (by omega) (by omega) (fun c24 => ?_) (fun c24 => ?_)
      · refine gs_aload_n dX12_weightOf_45 rfl rfl ?_
        refine g_getR dX12_weightOf_46 fX12_19 kwM (by decide) rM_kind ?_
        refine gs_iload_n dX12_weightOf_49 rfl rfl ?_
        refine g_iald dX12_weightOf_50 kw_kind (by omega) (M_kind hM h20) ?_
        refine g_iconst (v := nI 2) dX12_weightOf_51 (by decide) ?_
        refine gn_icmp_ne (tgt := 81) dX12_weightOf_52 (by decide) (by omega) (by omega) (fun c52 => ?_) (fun c52 => ?_)
        · refine gs_iload_n dX12_weightOf_81 rfl rfl ?_
          refine g_sipush (v := nI 300) dX12_weightOf_82 (by decide) ?_
          refine g_iadd dX12_weightOf_85 (by first | exact nI_add _ _ | rfl) ?_
          refine g_ireturn dX12_weightOf_86 rfl ?_
          exact ⟨_, rfl, by rw [wtK, wgt, if_neg (by omega), if_neg (by omega), if_neg (by omega)], rfl⟩
        · refine g_iconst (v := nI 2) dX12_weightOf_55 (by decide) ?_
          refine gs_iload_n dX12_weightOf_56 rfl rfl ?_
          refine g_imul dX12_weightOf_57 (by first | exact pk_mul _ _ | rfl) ?_
          refine gs_aload_n dX12_weightOf_58 rfl rfl ?_
          refine g_getR dX12_weightOf_59 fX12_79 kwM (by decide) rM_lies ?_
          refine gs_iload_n dX12_weightOf_62 rfl rfl ?_
          refine g_iald dX12_weightOf_63 kw_lies (by omega) (show _ = (-2 : Int32) from by rw [M0_lies hM h20, hz]; rfl) ?_
          refine rf_if_ge (tgt := 71) dX12_weightOf_64 (by decide) (by decide) ?_
          refine g_iconst (v := nI 0) dX12_weightOf_67 (by decide) ?_
          refine g_goto (tgt := 77) dX12_weightOf_68 (by decide) ?_
          refine g_iadd dX12_weightOf_77 (by first | exact nI_add _ _ | rfl) ?_
          refine g_goto (tgt := 86) dX12_weightOf_78 (by decide) ?_
          refine g_ireturn dX12_weightOf_86 rfl ?_
          exact ⟨_, rfl, by rw [wtK, wgt, if_neg (by omega), if_neg (by omega), if_pos c52, hz], rfl⟩
      · refine gs_iload_n dX12_weightOf_27 rfl rfl ?_
        refine g_bipush (v := nI 10) dX12_weightOf_28 (by decide) ?_
        refine gs_aload_n dX12_weightOf_30 rfl rfl ?_
        refine gs_aload_n dX12_weightOf_31 rfl rfl ?_
        refine g_getR dX12_weightOf_32 fX12_82 kwM (by decide) rM_copies ?_
        refine gs_iload_n dX12_weightOf_35 rfl rfl ?_
        refine g_iald dX12_weightOf_36 kw_copies (by omega) (M0_copies hM h20) ?_
        refine g_cVI1 dX12_weightOf_37 vX12_281 (by decide) kwM (by decide) (Nat.le_of_ble_eq_true rfl) (s_countBits (c := S.1 25 p) (by omega)) ?_
        rintro _ σ ⟨rfl, e9⟩
        subst e9
        refine g_imul dX12_weightOf_40 (by first | exact pk_mul _ _ | rfl) ?_
        refine g_iadd dX12_weightOf_41 (by first | exact nI_add _ _ | rfl) ?_
        refine g_goto (tgt := 86) dX12_weightOf_42 (by decide) ?_
        refine g_ireturn dX12_weightOf_86 rfl ?_
        exact ⟨_, rfl, by rw [wtK, wgt, if_neg (by omega), if_pos c24], rfl⟩
    · refine gs_iload_n dX12_weightOf_13 rfl rfl ?_
      refine g_goto (tgt := 86) dX12_weightOf_14 (by decide) ?_
      refine g_ireturn dX12_weightOf_86 rfl ?_
      exact ⟨_, rfl, by rw [wtK, wgt, if_pos c10], rfl⟩
  · refine gs_iload_n dX12_weightOf_0 rfl rfl ?_
    refine g_iconst (v := nI 1) dX12_weightOf_1 (by decide) ?_
    refine g_iadd dX12_weightOf_2 (by first | exact nI_add _ _ | rfl) ?_
    refine gs_istore_n (ls' := [_, _, _]) dX12_weightOf_3 rfl rfl rfl ?_
    refine gs_aload_n dX12_weightOf_4 rfl rfl ?_
    refine g_getR dX12_weightOf_5 fX12_19 kwM (by decide) rM_kind ?_
    refine gs_iload_n dX12_weightOf_8 rfl rfl ?_
    refine g_iald dX12_weightOf_9 kw_kind (by omega) (M_kind hM h20) ?_
    refine gn_if_ne (tgt := 17) dX12_weightOf_10 (by decide) (by omega) (fun c10 => ?_) (fun c10 => ?_)
    · refine gs_aload_n dX12_weightOf_17 rfl rfl ?_
      refine g_getR dX12_weightOf_18 fX12_19 kwM (by decide) rM_kind ?_
      refine gs_iload_n dX12_weightOf_21 rfl rfl ?_
      refine g_iald dX12_weightOf_22 kw_kind (by omega) (M_kind hM h20) ?_
      refine g_iconst (v := nI 1) dX12_weightOf_23 (by decide) ?_
      refine gn_icmp_ne (tgt := 45) dX12_weightOf_24 (by decide) (by omega) (by omega) (fun c24 => ?_) (fun c24 => ?_)
      · refine gs_aload_n dX12_weightOf_45 rfl rfl ?_
        refine g_getR dX12_weightOf_46 fX12_19 kwM (by decide) rM_kind ?_
        refine gs_iload_n dX12_weightOf_49 rfl rfl ?_
        refine g_iald dX12_weightOf_50 kw_kind (by omega) (M_kind hM h20) ?_
        refine g_iconst (v := nI 2) dX12_weightOf_51 (by decide) ?_
        refine gn_icmp_ne (tgt := 81) dX12_weightOf_52 (by decide) (by omega) (by omega) (fun c52 => ?_) (fun c52 => ?_)
        · refine gs_iload_n dX12_weightOf_81 rfl rfl ?_
          refine g_sipush (v := nI 300) dX12_weightOf_82 (by decide) ?_
          refine g_iadd dX12_weightOf_85 (by first | exact nI_add _ _ | rfl) ?_
          refine g_ireturn dX12_weightOf_86 rfl ?_
          exact ⟨_, rfl, by rw [wtK, wgt, if_neg (by omega), if_neg (by omega), if_neg (by omega)], rfl⟩
        · refine g_iconst (v := nI 2) dX12_weightOf_55 (by decide) ?_
          refine gs_iload_n dX12_weightOf_56 rfl rfl ?_
          refine g_imul dX12_weightOf_57 (by first | exact pk_mul _ _ | rfl) ?_
          refine gs_aload_n dX12_weightOf_58 rfl rfl ?_
          refine g_getR dX12_weightOf_59 fX12_79 kwM (by decide) rM_lies ?_
          refine gs_iload_n dX12_weightOf_62 rfl rfl ?_
          refine g_iald dX12_weightOf_63 kw_lies (by omega) (show _ = nI (S.1 24 p - 1) from by rw [M0_lies hM h20]; exact lzM_s (by omega)) ?_
          refine gt_if_ge (tgt := 71) dX12_weightOf_64 (by decide) (by omega) ?_
          refine gs_aload_n dX12_weightOf_71 rfl rfl ?_
          refine g_getR dX12_weightOf_72 fX12_79 kwM (by decide) rM_lies ?_
          refine gs_iload_n dX12_weightOf_75 rfl rfl ?_
          refine g_iald dX12_weightOf_76 kw_lies (by omega) (show _ = nI (S.1 24 p - 1) from by rw [M0_lies hM h20]; exact lzM_s (by omega)) ?_
          refine g_iadd dX12_weightOf_77 (by first | exact nI_add _ _ | rfl) ?_
          refine g_goto (tgt := 86) dX12_weightOf_78 (by decide) ?_
          refine g_ireturn dX12_weightOf_86 rfl ?_
          exact ⟨_, rfl, by rw [wtK, wgt, if_neg (by omega), if_neg (by omega), if_pos c52], rfl⟩
      · refine gs_iload_n dX12_weightOf_27 rfl rfl ?_
        refine g_bipush (v := nI 10) dX12_weightOf_28 (by decide) ?_
        refine gs_aload_n dX12_weightOf_30 rfl rfl ?_
        refine gs_aload_n dX12_weightOf_31 rfl rfl ?_
        refine g_getR dX12_weightOf_32 fX12_82 kwM (by decide) rM_copies ?_
        refine gs_iload_n dX12_weightOf_35 rfl rfl ?_
        refine g_iald dX12_weightOf_36 kw_copies (by omega) (M0_copies hM h20) ?_
        refine g_cVI1 dX12_weightOf_37 vX12_281 (by decide) kwM (by decide) (Nat.le_of_ble_eq_true rfl) (s_countBits (c := S.1 25 p) (by omega)) ?_
        rintro _ σ ⟨rfl, e9⟩
        subst e9
        refine g_imul dX12_weightOf_40 (by first | exact pk_mul _ _ | rfl) ?_
        refine g_iadd dX12_weightOf_41 (by first | exact nI_add _ _ | rfl) ?_
        refine g_goto (tgt := 86) dX12_weightOf_42 (by decide) ?_
        refine g_ireturn dX12_weightOf_86 rfl ?_
        exact ⟨_, rfl, by rw [wtK, wgt, if_neg (by omega), if_pos c24], rfl⟩
    · refine gs_iload_n dX12_weightOf_13 rfl rfl ?_
      refine g_goto (tgt := 86) dX12_weightOf_14 (by decide) ?_
      refine g_ireturn dX12_weightOf_86 rfl ?_
      exact ⟨_, rfl, by rw [wtK, wgt, if_pos c10], rfl⟩
theorem l_keep3 {σ0 : Mm} {S : Sx} {H : Hx} {K : Option Value → Mm → Prop} (hB : Bd S) {d : Nat} (hd : d < 8) {z : Int32} (hK : ∀ τ, MJ σ0 S (hrow (hw (hw H 0 d (nI 3)) 1 d (nI (S.1 9 0))) d (fun i => nI (S.1 29 i)) (S.1 9 0)) τ → K (some (.int (nI 0))) τ) : ∀ j i σ, i + j = S.1 9 0 → MJ σ0 S (hrow (hw (hw H 0 d (nI 3)) 1 d (nI (S.1 9 0))) d (fun i => nI (S.1 29 i)) i) σ → G W0 mX12_keep K 128 [some (.ref 258), some (.int (nI d)), some (.int (nI 3)), some (.int z), some (.int (nI 1)), some (.int (nI i))] [] σ := by
  have bT := B_T hB 0
  intro j
  induction j with
  | zero =>
    intro i σ hi hQ
    have e : i = S.1 9 0 := by omega
    refine g_iload dX12_keep_128 rfl ?_
    refine gs_aload_n dX12_keep_130 rfl rfl ?_
    refine g_getR dX12_keep_131 fX12_163 kwM (by decide) rM_shelfSize ?_
    refine gs_iload_n dX12_keep_134 rfl rfl ?_
    refine g_iald dX12_keep_135 kw_shelfSize (by omega) (show _ = nI (S.1 9 0) from by rw [MH1 hQ hd, hrow_k (by decide), hw_s, if_pos rfl]) ?_
    refine gt_icmp_ge (tgt := 183) dX12_keep_136 (by decide) (by omega) (by omega) (by omega) ?_
    refine g_iconst (v := nI 0) dX12_keep_183 (by decide) ?_
    refine g_ireturn dX12_keep_184 rfl ?_
    rw [e] at hQ
    exact hK σ hQ
  | succ j ih =>
    intro i σ hi hQ
    have hM := hQ.1.1
    refine g_iload dX12_keep_128 rfl ?_
    refine gs_aload_n dX12_keep_130 rfl rfl ?_
    refine g_getR dX12_keep_131 fX12_163 kwM (by decide) rM_shelfSize ?_
    refine gs_iload_n dX12_keep_134 rfl rfl ?_
    refine g_iald dX12_keep_135 kw_shelfSize (by omega) (show _ = nI (S.1 9 0) from by rw [MH1 hQ hd, hrow_k (by decide), hw_s, if_pos rfl]) ?_
    refine gf_icmp_ge (tgt := 183) dX12_keep_136 (by decide) (by omega) (by omega) (by omega) ?_
    refine gs_aload_n dX12_keep_139 rfl rfl ?_
    refine g_getR dX12_keep_140 fX12_172 kwM (by decide) rM_shelfRow ?_
    refine g_bipush (v := nI 60) dX12_keep_143 (by decide) ?_
    refine gs_iload_n dX12_keep_145 rfl rfl ?_
    refine g_imul dX12_keep_146 (by first | exact pk_mul _ _ | rfl) ?_
    refine g_iload dX12_keep_147 rfl ?_
    refine g_iadd dX12_keep_149 (by first | exact nI_add _ _ | rfl) ?_
    refine gs_iload_n dX12_keep_150 rfl rfl ?_
    refine g_iconst (v := nI 3) dX12_keep_151 (by decide) ?_
    refine gf_icmp_ne (tgt := 165) dX12_keep_152 (by decide) (by omega) (by omega) (by omega) ?_
    refine gs_aload_n dX12_keep_155 rfl rfl ?_
    refine g_getR dX12_keep_156 fX12_103 kwM (by decide) rM_at ?_
    refine g_iload dX12_keep_159 rfl ?_
    refine g_iald dX12_keep_161 kw_at (by omega) (M0_at hM (by omega)) ?_
    refine g_goto (tgt := 176) dX12_keep_162 (by decide) ?_
    refine gp_iast dX12_keep_176 kw_shelfRow (by omega) (show MJ σ0 S (hrow (hw (hw H 0 d (nI 3)) 1 d (nI (S.1 9 0))) d (fun i => nI (S.1 29 i)) (i + 1)) _ from by rw [← hrow_s]; exact ZH4 hQ) (fun σ hQ => ?_)
    have hM := hQ.1.1
    have hC0 := hQ.1.2.1
    refine gs_iinc (ls' := [_, _, _, _, _, _]) dX12_keep_177 rfl (nI_add _ 1) rfl rfl ?_
    refine g_goto (tgt := 128) dX12_keep_180 (by decide) ?_
    exact ih (i + 1) σ (by omega) hQ
theorem l_keep4 {σ0 : Mm} {S : Sx} {H : Hx} {K : Option Value → Mm → Prop} (hB : Bd S) {d : Nat} (hd : d < 8) {p : Nat} (h20 : p < 20) (hK : ∀ τ, MJ σ0 S (hrow (hw (hw H 0 d (nI 4)) 1 d (nI (4))) d (fun i => S.2.1 9 (4 * p + i)) (4)) τ → K (some (.int (nI 0))) τ) : ∀ j i σ, i + j = 4 → MJ σ0 S (hrow (hw (hw H 0 d (nI 4)) 1 d (nI (4))) d (fun i => S.2.1 9 (4 * p + i)) i) σ → G W0 mX12_keep K 128 [some (.ref 258), some (.int (nI d)), some (.int (nI 4)), some (.int (nI p)), some (.int (nI 1)), some (.int (nI i))] [] σ := by
  have bT := B_T hB 0
  intro j
  induction j with
  | zero =>
    intro i σ hi hQ
    have e : i = 4 := by omega
    refine g_iload dX12_keep_128 rfl ?_
    refine gs_aload_n dX12_keep_130 rfl rfl ?_
    refine g_getR dX12_keep_131 fX12_163 kwM (by decide) rM_shelfSize ?_
    refine gs_iload_n dX12_keep_134 rfl rfl ?_
    refine g_iald dX12_keep_135 kw_shelfSize (by omega) (show _ = nI (4) from by rw [MH1 hQ hd, hrow_k (by decide), hw_s, if_pos rfl]) ?_
    refine gt_icmp_ge (tgt := 183) dX12_keep_136 (by decide) (by omega) (by omega) (by omega) ?_
    refine g_iconst (v := nI 0) dX12_keep_183 (by decide) ?_
    refine g_ireturn dX12_keep_184 rfl ?_
    rw [e] at hQ
    exact hK σ hQ
  | succ j ih =>
    intro i σ hi hQ
    have hM := hQ.1.1
    refine g_iload dX12_keep_128 rfl ?_
    refine gs_aload_n dX12_keep_130 rfl rfl ?_
    refine g_getR dX12_keep_131 fX12_163 kwM (by decide) rM_shelfSize ?_
    refine gs_iload_n dX12_keep_134 rfl rfl ?_
    refine g_iald dX12_keep_135 kw_shelfSize (by omega) (show _ = nI (4) from by rw [MH1 hQ hd, hrow_k (by decide), hw_s, if_pos rfl]) ?_
    refine gf_icmp_ge (tgt := 183) dX12_keep_136 (by decide) (by omega) (by omega) (by omega) ?_
    refine gs_aload_n dX12_keep_139 rfl rfl ?_
    refine g_getR dX12_keep_140 fX12_172 kwM (by decide) rM_shelfRow ?_
    refine g_bipush (v := nI 60) dX12_keep_143 (by decide) ?_
    refine gs_iload_n dX12_keep_145 rfl rfl ?_
    refine g_imul dX12_keep_146 (by first | exact pk_mul _ _ | rfl) ?_
    refine g_iload dX12_keep_147 rfl ?_
    refine g_iadd dX12_keep_149 (by first | exact nI_add _ _ | rfl) ?_
    refine gs_iload_n dX12_keep_150 rfl rfl ?_
    refine g_iconst (v := nI 3) dX12_keep_151 (by decide) ?_
    refine gt_icmp_ne (tgt := 165) dX12_keep_152 (by decide) (by omega) (by omega) (by omega) ?_
    refine gs_aload_n dX12_keep_165 rfl rfl ?_
    refine g_getR dX12_keep_166 fX12_100 kwM (by decide) rM_cell ?_
    refine g_iconst (v := nI 4) dX12_keep_169 (by decide) ?_
    refine gs_iload_n dX12_keep_170 rfl rfl ?_
    refine g_imul dX12_keep_171 (by first | exact pk_mul _ _ | rfl) ?_
    refine g_iload dX12_keep_172 rfl ?_
    refine g_iadd dX12_keep_174 (by first | exact nI_add _ _ | rfl) ?_
    refine g_iald dX12_keep_175 kw_cell (by omega) (M0_cell hM (by omega)) ?_
    refine gp_iast dX12_keep_176 kw_shelfRow (by omega) (show MJ σ0 S (hrow (hw (hw H 0 d (nI 4)) 1 d (nI (4))) d (fun i => S.2.1 9 (4 * p + i)) (i + 1)) _ from by rw [← hrow_s]; exact ZH4 hQ) (fun σ hQ => ?_)
    have hM := hQ.1.1
    have hC0 := hQ.1.2.1
    refine gs_iinc (ls' := [_, _, _, _, _, _]) dX12_keep_177 rfl (nI_add _ 1) rfl rfl ?_
    refine g_goto (tgt := 128) dX12_keep_180 (by decide) ?_
    exact ih (i + 1) σ (by omega) hQ
theorem n_keep {σ : Mm} {S : Sx} {H : Hx} (hJ : MI_ σ S H) (hPI : PI S) (x y z : Int32) : RI W0 mX12_keep [.ref 258, .int x, .int y, .int z] σ (fun r τ => r = aKeep S x y z ∧ MJ σ S (nKeep S H x y z) τ) := by
  have hB : Bd S := hPI.1.1.1.1
  have b0 := B_nodes hB 0
  have bP := B_P hB 0
  have bT := B_T hB 0
  refine G.met (by decide) (Nat.le_of_ble_eq_true rfl) ?_
  show G _ _ _ 0 [some (.ref 258), some (.int x), some (.int y), some (.int z), none, none] [] σ
  refine gs_aload_n dX12_keep_0 rfl rfl ?_
  refine g_iconst (v := nI 0) dX12_keep_1 (by decide) ?_
  refine gp_putI dX12_keep_2 pX12_194 kwM (by decide) (Or.inl rfl) ((MJ.rf hJ).off off0 (by decide)) (fun σ hQ => ?_)
  have hM := hQ.1.1
  have hC0 := hQ.1.2.1
  refine gs_iload_n dX12_keep_5 rfl rfl ?_
  refine g_cSI1 dX12_keep_6 vX12_343 (by decide) (Nat.le_of_ble_eq_true rfl) (s_isShelf _) ?_
  rintro _ σ ⟨rfl, e9⟩
  subst e9
  refine gb_if_eq (tgt := 43) dX12_keep_9 (by decide) (fun c9 => ?_) (fun c9 => ?_)
  · refine g_iconst (v := nI 0) dX12_keep_43 (by decide) ?_
    refine gs_istore (ls' := [_, _, _, _, _, _]) dX12_keep_44 rfl rfl ?_
    refine g_iload dX12_keep_46 rfl ?_
    refine gf_if_ne (tgt := 53) dX12_keep_48 (by decide) (by omega) (by omega) ?_
    refine g_iconst (v := -1) dX12_keep_51 (by decide) ?_
    refine g_ireturn dX12_keep_52 rfl ?_
    exact ⟨_, rfl, by rw [aKeep, if_neg (nbf c9)], by rw [nKeep, if_neg (nbf c9)]; exact hQ⟩
  · obtain ⟨d, hdl, hd, rfl⟩ := rg_of c9
    have hd : d < 8 := by omega
    rcases sw5 y with h9 | h9 | h9 | h9 | h9 | h9
    · subst h9
      refine gs_iload_n dX12_keep_12 rfl rfl ?_
      refine gt_if_eq (tgt := 39) dX12_keep_13 (by decide) (by omega) (by omega) ?_
      refine g_iconst (v := nI 1) dX12_keep_39 (by decide) ?_
      refine g_goto (tgt := 44) dX12_keep_40 (by decide) ?_
      refine gs_istore (ls' := [_, _, _, _, _, _]) dX12_keep_44 rfl rfl ?_
      refine g_iload dX12_keep_46 rfl ?_
      refine gt_if_ne (tgt := 53) dX12_keep_48 (by decide) (by omega) (by omega) ?_
      refine gs_aload_n dX12_keep_53 rfl rfl ?_
      refine g_getR dX12_keep_54 fX12_160 kwM (by decide) rM_shelf ?_
      refine gs_iload_n dX12_keep_57 rfl rfl ?_
      refine gs_iload_n dX12_keep_58 rfl rfl ?_
      refine gp_iast dX12_keep_59 kw_shelf (by omega) (ZH0 (d := d) hQ) (fun σ hQ => ?_)
      have hM := hQ.1.1
      have hC0 := hQ.1.2.1
      refine gs_aload_n dX12_keep_60 rfl rfl ?_
      refine g_getR dX12_keep_61 fX12_163 kwM (by decide) rM_shelfSize ?_
      refine gs_iload_n dX12_keep_64 rfl rfl ?_
      refine gs_iload_n dX12_keep_65 rfl rfl ?_
      refine g_iconst (v := nI 3) dX12_keep_66 (by decide) ?_
      refine gt_icmp_ne (tgt := 77) dX12_keep_67 (by decide) (by omega) (by omega) (by omega) ?_
      refine gs_iload_n dX12_keep_77 rfl rfl ?_
      refine g_iconst (v := nI 4) dX12_keep_78 (by decide) ?_
      refine gt_icmp_ne (tgt := 86) dX12_keep_79 (by decide) (by omega) (by omega) (by omega) ?_
      refine g_iconst (v := nI 0) dX12_keep_86 (by decide) ?_
      refine gp_iast dX12_keep_87 kw_shelfSize (by omega) (ZH1 (d := d) hQ) (fun σ hQ => ?_)
      have hM := hQ.1.1
      have hC0 := hQ.1.2.1
      refine gs_iload_n dX12_keep_88 rfl rfl ?_
      refine g_iconst (v := nI 1) dX12_keep_89 (by decide) ?_
      refine gt_icmp_ne (tgt := 125) dX12_keep_90 (by decide) (by omega) (by omega) (by omega) ?_
      refine g_iconst (v := nI 0) dX12_keep_125 (by decide) ?_
      refine gs_istore (ls' := [_, _, _, _, _, _]) dX12_keep_126 rfl rfl ?_
      refine g_iload dX12_keep_128 rfl ?_
      refine gs_aload_n dX12_keep_130 rfl rfl ?_
      refine g_getR dX12_keep_131 fX12_163 kwM (by decide) rM_shelfSize ?_
      refine gs_iload_n dX12_keep_134 rfl rfl ?_
      refine g_iald dX12_keep_135 kw_shelfSize (by omega) (show _ = nI 0 from by rw [MH1 hQ hd, hw_s, if_pos rfl]) ?_
      refine gt_icmp_ge (tgt := 183) dX12_keep_136 (by decide) (by omega) (by omega) (by omega) ?_
      refine g_iconst (v := nI 0) dX12_keep_183 (by decide) ?_
      refine g_ireturn dX12_keep_184 rfl ?_
      exact ⟨_, rfl, by rw [aKeep, if_pos c9, swA_n (by decide) (Nat.le_of_ble_eq_true rfl)] <;> rfl, by rw [nKeep, if_pos c9, swH_n (by decide) (Nat.le_of_ble_eq_true rfl), nN_n (by omega)]; exact hQ⟩
    · subst h9
      refine gs_iload_n dX12_keep_12 rfl rfl ?_
      refine gf_if_eq (tgt := 39) dX12_keep_13 (by decide) (by omega) (by omega) ?_
      refine gs_iload_n dX12_keep_16 rfl rfl ?_
      refine g_iconst (v := nI 1) dX12_keep_17 (by decide) ?_
      refine gt_icmp_eq (tgt := 26) dX12_keep_18 (by decide) (by omega) (by omega) (by omega) ?_
      refine gs_aload_n dX12_keep_26 rfl rfl ?_
      refine gs_iload_n dX12_keep_27 rfl rfl ?_
      refine g_cVI1 dX12_keep_28 vX12_253 (by decide) kwM (by decide) (Nat.le_of_ble_eq_true rfl) (s_isPage (M_P hM) (by omega) _) ?_
      rintro _ σ ⟨rfl, e9⟩
      subst e9
      refine gb_if_ne (tgt := 39) dX12_keep_31 (by decide) (fun c31 => ?_) (fun c31 => ?_)
      · refine g_iconst (v := nI 1) dX12_keep_39 (by decide) ?_
        refine g_goto (tgt := 44) dX12_keep_40 (by decide) ?_
        refine gs_istore (ls' := [_, _, _, _, _, _]) dX12_keep_44 rfl rfl ?_
        obtain ⟨p, hp, rfl⟩ := inN_of c31 (by omega)
        have h20 : p < 20 := by omega
        have b8 := B_kind hB p
        refine g_iload dX12_keep_46 rfl ?_
        refine gt_if_ne (tgt := 53) dX12_keep_48 (by decide) (by omega) (by omega) ?_
        refine gs_aload_n dX12_keep_53 rfl rfl ?_
        refine g_getR dX12_keep_54 fX12_160 kwM (by decide) rM_shelf ?_
        refine gs_iload_n dX12_keep_57 rfl rfl ?_
        refine gs_iload_n dX12_keep_58 rfl rfl ?_
        refine gp_iast dX12_keep_59 kw_shelf (by omega) (ZH0 (d := d) hQ) (fun σ hQ => ?_)
        have hM := hQ.1.1
        have hC0 := hQ.1.2.1
        refine gs_aload_n dX12_keep_60 rfl rfl ?_
        refine g_getR dX12_keep_61 fX12_163 kwM (by decide) rM_shelfSize ?_
        refine gs_iload_n dX12_keep_64 rfl rfl ?_
        refine gs_iload_n dX12_keep_65 rfl rfl ?_
        refine g_iconst (v := nI 3) dX12_keep_66 (by decide) ?_
        refine gt_icmp_ne (tgt := 77) dX12_keep_67 (by decide) (by omega) (by omega) (by omega) ?_
        refine gs_iload_n dX12_keep_77 rfl rfl ?_
        refine g_iconst (v := nI 4) dX12_keep_78 (by decide) ?_
        refine gt_icmp_ne (tgt := 86) dX12_keep_79 (by decide) (by omega) (by omega) (by omega) ?_
        refine g_iconst (v := nI 0) dX12_keep_86 (by decide) ?_
        refine gp_iast dX12_keep_87 kw_shelfSize (by omega) (ZH1 (d := d) hQ) (fun σ hQ => ?_)
        have hM := hQ.1.1
        have hC0 := hQ.1.2.1
        refine gs_iload_n dX12_keep_88 rfl rfl ?_
        refine g_iconst (v := nI 1) dX12_keep_89 (by decide) ?_
        refine gf_icmp_ne (tgt := 125) dX12_keep_90 (by decide) (by omega) (by omega) (by omega) ?_
        refine gs_aload_n dX12_keep_93 rfl rfl ?_
        refine g_getR dX12_keep_94 fX12_166 kwM (by decide) rM_shelfWeight ?_
        refine gs_iload_n dX12_keep_97 rfl rfl ?_
        refine gs_aload_n dX12_keep_98 rfl rfl ?_
        refine gs_iload_n dX12_keep_99 rfl rfl ?_
        refine g_cVI1 dX12_keep_100 vX12_346 (by decide) kwM (by decide) (Nat.le_of_ble_eq_true rfl) (s_weightOf hM hB h20) ?_
        rintro _ σ ⟨rfl, e9⟩
        subst e9
        refine gp_iast dX12_keep_103 kw_shelfWeight (by omega) (ZH2 (d := d) hQ) (fun σ hQ => ?_)
        have hM := hQ.1.1
        have hC0 := hQ.1.2.1
        refine gs_aload_n dX12_keep_104 rfl rfl ?_
        refine g_getR dX12_keep_105 fX12_169 kwM (by decide) rM_shelfFailure ?_
        refine gs_iload_n dX12_keep_108 rfl rfl ?_
        refine gs_aload_n dX12_keep_109 rfl rfl ?_
        refine g_getR dX12_keep_110 fX12_19 kwM (by decide) rM_kind ?_
        refine gs_iload_n dX12_keep_113 rfl rfl ?_
        refine g_iald dX12_keep_114 kw_kind (by omega) (M_kind hM h20) ?_
        refine gn_if_ne (tgt := 123) dX12_keep_115 (by decide) (by omega) (fun c115 => ?_) (fun c115 => ?_)
        · refine gs_iload_n dX12_keep_123 rfl rfl ?_
          refine gp_iast dX12_keep_124 kw_shelfFailure (by omega) (show MJ _ S (h1K S H d p) _ from by rw [h1K, show flK S p = nI p from if_neg (by omega)]; exact ZH3 (d := d) hQ) (fun σ hQ => ?_)
          have hM := hQ.1.1
          have hC0 := hQ.1.2.1
          refine g_iconst (v := nI 0) dX12_keep_125 (by decide) ?_
          refine gs_istore (ls' := [_, _, _, _, _, _]) dX12_keep_126 rfl rfl ?_
          refine g_iload dX12_keep_128 rfl ?_
          refine gs_aload_n dX12_keep_130 rfl rfl ?_
          refine g_getR dX12_keep_131 fX12_163 kwM (by decide) rM_shelfSize ?_
          refine gs_iload_n dX12_keep_134 rfl rfl ?_
          refine g_iald dX12_keep_135 kw_shelfSize (by omega) (show _ = nI 0 from by rw [MH1 hQ hd, h1K, hw_o (by decide), hw_o (by decide), hw_s, if_pos rfl]) ?_
          refine gt_icmp_ge (tgt := 183) dX12_keep_136 (by decide) (by omega) (by omega) (by omega) ?_
          refine g_iconst (v := nI 0) dX12_keep_183 (by decide) ?_
          refine g_ireturn dX12_keep_184 rfl ?_
          exact ⟨_, rfl, by rw [aKeep, if_pos c9, swA_n (by decide) (Nat.le_of_ble_eq_true rfl)]; exact (if_pos c31).symm, by rw [nKeep, if_pos c9, swH_n (by decide) (Nat.le_of_ble_eq_true rfl), nN_n (by omega)]; show MJ _ S (if inN (nI p) (S.1 7 0) = true then h1K S H d (nN (nI p)) else H) _; rw [if_pos c31, nN_n (by omega)]; exact hQ⟩
        · refine g_bipush (v := -15) dX12_keep_118 (by decide) ?_
          refine g_goto (tgt := 124) dX12_keep_120 (by decide) ?_
          refine gp_iast dX12_keep_124 kw_shelfFailure (by omega) (show MJ _ S (h1K S H d p) _ from by rw [h1K, show flK S p = -15 from if_pos c115]; exact ZH3 (d := d) hQ) (fun σ hQ => ?_)
          have hM := hQ.1.1
          have hC0 := hQ.1.2.1
          refine g_iconst (v := nI 0) dX12_keep_125 (by decide) ?_
          refine gs_istore (ls' := [_, _, _, _, _, _]) dX12_keep_126 rfl rfl ?_
          refine g_iload dX12_keep_128 rfl ?_
          refine gs_aload_n dX12_keep_130 rfl rfl ?_
          refine g_getR dX12_keep_131 fX12_163 kwM (by decide) rM_shelfSize ?_
          refine gs_iload_n dX12_keep_134 rfl rfl ?_
          refine g_iald dX12_keep_135 kw_shelfSize (by omega) (show _ = nI 0 from by rw [MH1 hQ hd, h1K, hw_o (by decide), hw_o (by decide), hw_s, if_pos rfl]) ?_
          refine gt_icmp_ge (tgt := 183) dX12_keep_136 (by decide) (by omega) (by omega) (by omega) ?_
          refine g_iconst (v := nI 0) dX12_keep_183 (by decide) ?_
          refine g_ireturn dX12_keep_184 rfl ?_
          exact ⟨_, rfl, by rw [aKeep, if_pos c9, swA_n (by decide) (Nat.le_of_ble_eq_true rfl)]; exact (if_pos c31).symm, by rw [nKeep, if_pos c9, swH_n (by decide) (Nat.le_of_ble_eq_true rfl), nN_n (by omega)]; show MJ _ S (if inN (nI p) (S.1 7 0) = true then h1K S H d (nN (nI p)) else H) _; rw [if_pos c31, nN_n (by omega)]; exact hQ⟩
      · refine gs_iload_n dX12_keep_34 rfl rfl ?_
        refine g_iconst (v := nI 3) dX12_keep_35 (by decide) ?_
        refine gt_icmp_ne (tgt := 43) dX12_keep_36 (by decide) (by omega) (by omega) (by omega) ?_
        refine g_iconst (v := nI 0) dX12_keep_43 (by decide) ?_
        refine gs_istore (ls' := [_, _, _, _, _, _]) dX12_keep_44 rfl rfl ?_
        refine g_iload dX12_keep_46 rfl ?_
        refine gf_if_ne (tgt := 53) dX12_keep_48 (by decide) (by omega) (by omega) ?_
        refine g_iconst (v := -1) dX12_keep_51 (by decide) ?_
        refine g_ireturn dX12_keep_52 rfl ?_
        exact ⟨_, rfl, by rw [aKeep, if_pos c9, swA_n (by decide) (Nat.le_of_ble_eq_true rfl)]; exact (if_neg (nbf c31)).symm, by rw [nKeep, if_pos c9, swH_n (by decide) (Nat.le_of_ble_eq_true rfl)]; show MJ _ S (if inN z (S.1 7 0) = true then h1K S H (nN (nI d)) (nN z) else H) _; rw [if_neg (nbf c31)]; exact hQ⟩
    · subst h9
      refine gs_iload_n dX12_keep_12 rfl rfl ?_
      refine gf_if_eq (tgt := 39) dX12_keep_13 (by decide) (by omega) (by omega) ?_
      refine gs_iload_n dX12_keep_16 rfl rfl ?_
      refine g_iconst (v := nI 1) dX12_keep_17 (by decide) ?_
      refine gf_icmp_eq (tgt := 26) dX12_keep_18 (by decide) (by omega) (by omega) (by omega) ?_
      refine gs_iload_n dX12_keep_21 rfl rfl ?_
      refine g_iconst (v := nI 4) dX12_keep_22 (by decide) ?_
      refine gt_icmp_ne (tgt := 34) dX12_keep_23 (by decide) (by omega) (by omega) (by omega) ?_
      refine gs_iload_n dX12_keep_34 rfl rfl ?_
      refine g_iconst (v := nI 3) dX12_keep_35 (by decide) ?_
      refine gt_icmp_ne (tgt := 43) dX12_keep_36 (by decide) (by omega) (by omega) (by omega) ?_
      refine g_iconst (v := nI 0) dX12_keep_43 (by decide) ?_
      refine gs_istore (ls' := [_, _, _, _, _, _]) dX12_keep_44 rfl rfl ?_
      refine g_iload dX12_keep_46 rfl ?_
      refine gf_if_ne (tgt := 53) dX12_keep_48 (by decide) (by omega) (by omega) ?_
      refine g_iconst (v := -1) dX12_keep_51 (by decide) ?_
      refine g_ireturn dX12_keep_52 rfl ?_
      exact ⟨_, rfl, by rw [aKeep, if_pos c9, swA_n (by decide) (Nat.le_of_ble_eq_true rfl)] <;> rfl, by rw [nKeep, if_pos c9, swH_n (by decide) (Nat.le_of_ble_eq_true rfl)]; exact hQ⟩
    · subst h9
      refine gs_iload_n dX12_keep_12 rfl rfl ?_
      refine gf_if_eq (tgt := 39) dX12_keep_13 (by decide) (by omega) (by omega) ?_
      refine gs_iload_n dX12_keep_16 rfl rfl ?_
      refine g_iconst (v := nI 1) dX12_keep_17 (by decide) ?_
      refine gf_icmp_eq (tgt := 26) dX12_keep_18 (by decide) (by omega) (by omega) (by omega) ?_
      refine gs_iload_n dX12_keep_21 rfl rfl ?_
      refine g_iconst (v := nI 4) dX12_keep_22 (by decide) ?_
      refine gt_icmp_ne (tgt := 34) dX12_keep_23 (by decide) (by omega) (by omega) (by omega) ?_
      refine gs_iload_n dX12_keep_34 rfl rfl ?_
      refine g_iconst (v := nI 3) dX12_keep_35 (by decide) ?_
      refine gf_icmp_ne (tgt := 43) dX12_keep_36 (by decide) (by omega) (by omega) (by omega) ?_
      refine g_iconst (v := nI 1) dX12_keep_39 (by decide) ?_
      refine g_goto (tgt := 44) dX12_keep_40 (by decide) ?_
      refine gs_istore (ls' := [_, _, _, _, _, _]) dX12_keep_44 rfl rfl ?_
      refine g_iload dX12_keep_46 rfl ?_
      refine gt_if_ne (tgt := 53) dX12_keep_48 (by decide) (by omega) (by omega) ?_
      refine gs_aload_n dX12_keep_53 rfl rfl ?_
      refine g_getR dX12_keep_54 fX12_160 kwM (by decide) rM_shelf ?_
      refine gs_iload_n dX12_keep_57 rfl rfl ?_
      refine gs_iload_n dX12_keep_58 rfl rfl ?_
      refine gp_iast dX12_keep_59 kw_shelf (by omega) (ZH0 (d := d) hQ) (fun σ hQ => ?_)
      have hM := hQ.1.1
      have hC0 := hQ.1.2.1
      refine gs_aload_n dX12_keep_60 rfl rfl ?_
      refine g_getR dX12_keep_61 fX12_163 kwM (by decide) rM_shelfSize ?_
      refine gs_iload_n dX12_keep_64 rfl rfl ?_
      refine gs_iload_n dX12_keep_65 rfl rfl ?_
      refine g_iconst (v := nI 3) dX12_keep_66 (by decide) ?_
      refine gf_icmp_ne (tgt := 77) dX12_keep_67 (by decide) (by omega) (by omega) (by omega) ?_
      refine gs_aload_n dX12_keep_70 rfl rfl ?_
      refine g_getI dX12_keep_71 fX12_200 kwM (by decide) (M_T hM) ?_
      refine g_goto (tgt := 87) dX12_keep_74 (by decide) ?_
      refine gp_iast dX12_keep_87 kw_shelfSize (by omega) (ZH1 (d := d) hQ) (fun σ hQ => ?_)
      have hM := hQ.1.1
      have hC0 := hQ.1.2.1
      refine gs_iload_n dX12_keep_88 rfl rfl ?_
      refine g_iconst (v := nI 1) dX12_keep_89 (by decide) ?_
      refine gt_icmp_ne (tgt := 125) dX12_keep_90 (by decide) (by omega) (by omega) (by omega) ?_
      refine g_iconst (v := nI 0) dX12_keep_125 (by decide) ?_
      refine gs_istore (ls' := [_, _, _, _, _, _]) dX12_keep_126 rfl rfl ?_
      exact l_keep3 hB hd (fun τ hQ => ⟨_, rfl, by rw [aKeep, if_pos c9, swA_n (by decide) (Nat.le_of_ble_eq_true rfl)] <;> rfl, by rw [nKeep, if_pos c9, swH_n (by decide) (Nat.le_of_ble_eq_true rfl), nN_n (by omega)]; exact hQ⟩) (S.1 9 0) 0 σ (by omega) (by rw [hrow_0]; exact hQ)
    · subst h9
      refine gs_iload_n dX12_keep_12 rfl rfl ?_
      refine gf_if_eq (tgt := 39) dX12_keep_13 (by decide) (by omega) (by omega) ?_
      refine gs_iload_n dX12_keep_16 rfl rfl ?_
      refine g_iconst (v := nI 1) dX12_keep_17 (by decide) ?_
      refine gf_icmp_eq (tgt := 26) dX12_keep_18 (by decide) (by omega) (by omega) (by omega) ?_
      refine gs_iload_n dX12_keep_21 rfl rfl ?_
      refine g_iconst (v := nI 4) dX12_keep_22 (by decide) ?_
      refine gf_icmp_ne (tgt := 34) dX12_keep_23 (by decide) (by omega) (by omega) (by omega) ?_
      refine gs_aload_n dX12_keep_26 rfl rfl ?_
      refine gs_iload_n dX12_keep_27 rfl rfl ?_
      refine g_cVI1 dX12_keep_28 vX12_253 (by decide) kwM (by decide) (Nat.le_of_ble_eq_true rfl) (s_isPage (M_P hM) (by omega) _) ?_
      rintro _ σ ⟨rfl, e9⟩
      subst e9
      refine gb_if_ne (tgt := 39) dX12_keep_31 (by decide) (fun c31 => ?_) (fun c31 => ?_)
      · refine g_iconst (v := nI 1) dX12_keep_39 (by decide) ?_
        refine g_goto (tgt := 44) dX12_keep_40 (by decide) ?_
        refine gs_istore (ls' := [_, _, _, _, _, _]) dX12_keep_44 rfl rfl ?_
        obtain ⟨p, hp, rfl⟩ := inN_of c31 (by omega)
        have h20 : p < 20 := by omega
        have b8 := B_kind hB p
        refine g_iload dX12_keep_46 rfl ?_
        refine gt_if_ne (tgt := 53) dX12_keep_48 (by decide) (by omega) (by omega) ?_
        refine gs_aload_n dX12_keep_53 rfl rfl ?_
        refine g_getR dX12_keep_54 fX12_160 kwM (by decide) rM_shelf ?_
        refine gs_iload_n dX12_keep_57 rfl rfl ?_
        refine gs_iload_n dX12_keep_58 rfl rfl ?_
        refine gp_iast dX12_keep_59 kw_shelf (by omega) (ZH0 (d := d) hQ) (fun σ hQ => ?_)
        have hM := hQ.1.1
        have hC0 := hQ.1.2.1
        refine gs_aload_n dX12_keep_60 rfl rfl ?_
        refine g_getR dX12_keep_61 fX12_163 kwM (by decide) rM_shelfSize ?_
        refine gs_iload_n dX12_keep_64 rfl rfl ?_
        refine gs_iload_n dX12_keep_65 rfl rfl ?_
        refine g_iconst (v := nI 3) dX12_keep_66 (by decide) ?_
        refine gt_icmp_ne (tgt := 77) dX12_keep_67 (by decide) (by omega) (by omega) (by omega) ?_
        refine gs_iload_n dX12_keep_77 rfl rfl ?_
        refine g_iconst (v := nI 4) dX12_keep_78 (by decide) ?_
        refine gf_icmp_ne (tgt := 86) dX12_keep_79 (by decide) (by omega) (by omega) (by omega) ?_
        refine g_iconst (v := nI 4) dX12_keep_82 (by decide) ?_
        refine g_goto (tgt := 87) dX12_keep_83 (by decide) ?_
        refine gp_iast dX12_keep_87 kw_shelfSize (by omega) (ZH1 (d := d) hQ) (fun σ hQ => ?_)
        have hM := hQ.1.1
        have hC0 := hQ.1.2.1
        refine gs_iload_n dX12_keep_88 rfl rfl ?_
        refine g_iconst (v := nI 1) dX12_keep_89 (by decide) ?_
        refine gt_icmp_ne (tgt := 125) dX12_keep_90 (by decide) (by omega) (by omega) (by omega) ?_
        refine g_iconst (v := nI 0) dX12_keep_125 (by decide) ?_
        refine gs_istore (ls' := [_, _, _, _, _, _]) dX12_keep_126 rfl rfl ?_
        exact l_keep4 hB hd h20 (fun τ hQ => ⟨_, rfl, by rw [aKeep, if_pos c9, swA_n (by decide) (Nat.le_of_ble_eq_true rfl)]; exact (if_pos c31).symm, by rw [nKeep, if_pos c9, swH_n (by decide) (Nat.le_of_ble_eq_true rfl), nN_n (by omega)]; show MJ _ S (if inN (nI p) (S.1 7 0) = true then h4K S H d (nN (nI p)) else H) _; rw [if_pos c31, nN_n (by omega)]; exact hQ⟩) 4 0 σ (by omega) (by rw [hrow_0]; exact hQ)
      · refine gs_iload_n dX12_keep_34 rfl rfl ?_
        refine g_iconst (v := nI 3) dX12_keep_35 (by decide) ?_
        refine gt_icmp_ne (tgt := 43) dX12_keep_36 (by decide) (by omega) (by omega) (by omega) ?_
        refine g_iconst (v := nI 0) dX12_keep_43 (by decide) ?_
        refine gs_istore (ls' := [_, _, _, _, _, _]) dX12_keep_44 rfl rfl ?_
        refine g_iload dX12_keep_46 rfl ?_
        refine gf_if_ne (tgt := 53) dX12_keep_48 (by decide) (by omega) (by omega) ?_
        refine g_iconst (v := -1) dX12_keep_51 (by decide) ?_
        refine g_ireturn dX12_keep_52 rfl ?_
        exact ⟨_, rfl, by rw [aKeep, if_pos c9, swA_n (by decide) (Nat.le_of_ble_eq_true rfl)]; exact (if_neg (nbf c31)).symm, by rw [nKeep, if_pos c9, swH_n (by decide) (Nat.le_of_ble_eq_true rfl)]; show MJ _ S (if inN z (S.1 7 0) = true then h4K S H (nN (nI d)) (nN z) else H) _; rw [if_neg (nbf c31)]; exact hQ⟩
    · refine gs_iload_n dX12_keep_12 rfl rfl ?_
      refine rf_if_eq (tgt := 39) dX12_keep_13 (by decide) (fun e => by rw [e] at h9; revert h9; decide) ?_
      refine gs_iload_n dX12_keep_16 rfl rfl ?_
      refine g_iconst (v := nI 1) dX12_keep_17 (by decide) ?_
      refine rf_icmp_eq (tgt := 26) dX12_keep_18 (by decide) (fun e => by rw [e] at h9; revert h9; decide) ?_
      refine gs_iload_n dX12_keep_21 rfl rfl ?_
      refine g_iconst (v := nI 4) dX12_keep_22 (by decide) ?_
      refine rt_icmp_ne (tgt := 34) dX12_keep_23 (by decide) (fun e => by rw [e] at h9; revert h9; decide) ?_
      refine gs_iload_n dX12_keep_34 rfl rfl ?_
      refine g_iconst (v := nI 3) dX12_keep_35 (by decide) ?_
      refine rt_icmp_ne (tgt := 43) dX12_keep_36 (by decide) (fun e => by rw [e] at h9; revert h9; decide) ?_
      refine g_iconst (v := nI 0) dX12_keep_43 (by decide) ?_
      refine gs_istore (ls' := [_, _, _, _, _, _]) dX12_keep_44 rfl rfl ?_
      refine g_iload dX12_keep_46 rfl ?_
      refine gf_if_ne (tgt := 53) dX12_keep_48 (by decide) (by omega) (by omega) ?_
      refine g_iconst (v := -1) dX12_keep_51 (by decide) ?_
      refine g_ireturn dX12_keep_52 rfl ?_
      exact ⟨_, rfl, by rw [aKeep, if_pos c9, swA_o h9 rfl], by rw [nKeep, if_pos c9, swH_o h9 rfl]; exact hQ⟩
def hmK (H : Hx) (d : Nat) (y : Int32) (n : Nat) : Hx := hrow (hw (hw H 0 d y) 1 d (nI n)) d (fun _ => nI 0) n
abbrev okMk (x y z : Int32) : Bool := rg x 0 7 && (rg y 3 4 && decide (z ≤ nI 60))
def aMake (x y z : Int32) : Int32 := if okMk x y z = true then (if 0 ≤ z then nI 0 else -14) else -1
def nMake (H : Hx) (x y z : Int32) : Hx := if okMk x y z = true then (if 0 ≤ z then hmK H (nN x) y (nN z) else H) else H
theorem le60 {z : Int32} (h1 : z ≤ nI 60) (h2 : 0 ≤ z) : ∃ n, n ≤ 60 ∧ z = nI n ∧ nN z = n := by
  obtain ⟨m, m1, m2, m3⟩ := nI_nn h2
  refine ⟨m, ?_, m2, m3⟩
  have q := Int32.le_iff_toInt_le.mp h1
  rw [toInt_nI (by decide)] at q
  have h0 : (0 : Int) ≤ z.toInt := Int32.le_iff_toInt_le.mp h2
  unfold nN at m3
  omega
theorem mk_C {σ : Mm} {S : Sx} {H : Hx} (h : CI σ S H) (hB : Bd S) {d n : Nat} {y : Int32} (hd : d < 8) (hn : n ≤ 60) (hy : y = nI 3 ∨ y = nI 4) : CI (flI (flI (wI (wI σ (234 + 3 * d) 2 y) (234 + 3 * d) 3 (nI n)) (235 + 3 * d) 60 (nI 0)) (236 + 3 * d) 60 (nI 0)) S (hmK H d y n) ∧ frK σ (flI (flI (wI (wI σ (234 + 3 * d) 2 y) (234 + 3 * d) 3 (nI n)) (235 + 3 * d) 60 (nI 0)) (236 + 3 * d) 60 (nI 0)) := by
  have e0 : hmK H d y n 0 d = y := by rw [hmK, hrow_k (by decide), hw_o (by decide), hw_s, if_pos rfl]
  have e1 : hmK H d y n 1 d = nI n := by rw [hmK, hrow_k (by decide), hw_s, if_pos rfl]
  have er : ∀ (τ : Mm) (a n x : Nat) (v : Int32), x ≠ a → (flI τ a n v).1 x = τ.1 x := fun τ a n x v hx => by funext j; exact if_neg (fun z => hx z.1)
  refine h.sh hB hd (fun a ha => by rw [er _ _ _ _ _ (by omega), er _ _ _ _ _ (by omega), wI_o _ _ _ _ (by omega), wI_o _ _ _ _ (by omega)]) rfl (fun k x hk hx => by rw [hmK, hrow_k (by omega), hw_ne hx, hw_ne hx]) (fun x hx => by rw [hmK, hrow_o hn hx, hw_o (by decide), hw_o (by decide)]) ⟨?_, ?_, ?_, ?_, ?_⟩
  · rw [e0, er _ _ _ _ _ (by omega), er _ _ _ _ _ (by omega)]; simp [wI_at]
  · rw [e0]
    rcases hy with q | q
    · exact Or.inr (Or.inr (Or.inl q))
    · exact Or.inr (Or.inr (Or.inr q))
  · intro _
    refine ⟨n, hn, e1, by rw [er _ _ _ _ _ (by omega), er _ _ _ _ _ (by omega)]; simp [wI_at], fun i hi => ?_⟩
    rw [hmK, hrow_i hi, er _ _ _ _ _ (by omega), flI_at, if_pos ⟨rfl, by omega⟩]
    exact ⟨rfl, 0, by decide, rfl⟩
  · intro _
    refine ⟨n, hn, e1, by rw [er _ _ _ _ _ (by omega), er _ _ _ _ _ (by omega)]; simp [wI_at], fun i hi => ?_⟩
    rw [hmK, hrow_i hi, flI_at, if_pos ⟨rfl, by omega⟩]
  · rw [e0]; intro q
    rw [q] at hy
    exact absurd hy (by decide)
theorem rg34 {y : Int32} : rg y 3 4 = true ↔ (y = nI 3 ∨ y = nI 4) := by
  constructor
  · intro h
    obtain ⟨a, a1, a2, rfl⟩ := rg_of h
    rcases (show a = 3 ∨ a = 4 from by omega) with rfl | rfl
    · exact Or.inl rfl
    · exact Or.inr rfl
  · intro h
    rcases h with rfl | rfl <;> decide
theorem a_make {σ : Mm} {S : Sx} {H : Hx} (hJ : CI σ S H) (hPI : PI S) (x y z : Int32) : RI W0 mX11_make [.ref 0, .int x, .int y, .int z] σ (fun r τ => r = aMake x y z ∧ CI τ S (nMake H x y z) ∧ frK σ τ) := by
  have hJ0 := hJ
  obtain ⟨⟨Tf, hR, hTk⟩, hSh, hTr1, hTr2⟩ := hJ
  have hb : mch 57 := Or.inl rfl
  have hB : Bd S := hPI.1.1.1.1
  have b0 := B_nodes hB 0
  have bP := B_P hB 0
  have bT := B_T hB 0
  refine G.met (by decide) (Nat.le_of_ble_eq_true rfl) ?_
  show G _ _ _ 0 [some (.ref 0), some (.int x), some (.int y), some (.int z)] [] σ
  refine gs_iload_n dX11_make_0 rfl rfl ?_
  refine g_cSI1 dX11_make_1 vX11_306 (by decide) (Nat.le_of_ble_eq_true rfl) (c_isShelf _) ?_
  rintro _ σ ⟨rfl, e9⟩
  subst e9
  refine gb_if_eq (tgt := 23) dX11_make_4 (by decide) (fun c4 => ?_) (fun c4 => ?_)
  · refine g_iconst (v := -1) dX11_make_23 (by decide) ?_
    refine g_ireturn dX11_make_24 rfl ?_
    exact ⟨_, rfl, by rw [aMake, if_neg (nb1 c4)], by rw [nMake, if_neg (nb1 c4)]; exact ⟨hJ0, frK.rf _⟩⟩
  · refine gs_iload_n dX11_make_7 rfl rfl ?_
    refine g_iconst (v := nI 3) dX11_make_8 (by decide) ?_
    refine g_icmp_eq (tgt := 17) dX11_make_9 (by decide) (fun c9 => ?_) (fun c9 => ?_)
    · refine gs_iload_n dX11_make_17 rfl rfl ?_
      refine g_bipush (v := nI 60) dX11_make_18 (by decide) ?_
      refine g_icmp_le (tgt := 25) dX11_make_20 (by decide) (fun c20 => ?_) (fun c20 => ?_)
      · have hy : y = nI 3 ∨ y = nI 4 := Or.inl c9
        have ok : okMk x y z = true := yb c4 (yb (rg34.mpr hy) (decide_eq_true c20))
        refine gs_iload_n dX11_make_25 rfl rfl ?_
        refine g_if_ge (tgt := 32) dX11_make_26 (by decide) (fun c26 => ?_) (fun c26 => ?_)
        · obtain ⟨d, hdl, hd, rfl⟩ := rg_of c4
          have hd : d < 8 := by omega
          obtain ⟨n, hn, rfl, hnN⟩ := le60 c20 c26
          refine gs_aload_n dX11_make_32 rfl rfl ?_
          refine g_getR dX11_make_33 fX11_41 kFC (by decide) rFC_shelves ?_
          refine gs_iload_n dX11_make_36 rfl rfl ?_
          refine g_aald26 dX11_make_37 kShs hd (rSh hd) ?_
          refine gs_iload_n dX11_make_38 rfl rfl ?_
          refine gs_iload_n dX11_make_39 rfl rfl ?_
          refine g_cVV2 dX11_make_40 vX11_324 (by decide) (kSh hd) (by decide) (Nat.le_of_ble_eq_true rfl) (r_holdZeros hd) ?_
          rintro _ rfl
          refine g_iconst (v := nI 0) dX11_make_43 (by decide) ?_
          refine g_ireturn dX11_make_44 rfl ?_
          exact ⟨_, rfl, by rw [aMake, if_pos ok, if_pos c26], by rw [nMake, if_pos ok, if_pos c26, nN_n (by omega), hnN]; exact mk_C hJ0 hB hd hn hy⟩
        · refine g_bipush (v := -14) dX11_make_29 (by decide) ?_
          refine g_ireturn dX11_make_31 rfl ?_
          exact ⟨_, rfl, by rw [aMake, if_pos ok, if_neg c26], by rw [nMake, if_pos ok, if_neg c26]; exact ⟨hJ0, frK.rf _⟩⟩
      · refine g_iconst (v := -1) dX11_make_23 (by decide) ?_
        refine g_ireturn dX11_make_24 rfl ?_
        exact ⟨_, rfl, by rw [aMake, if_neg (nb2 (nb2 (nbf (decide_eq_false c20))))], by rw [nMake, if_neg (nb2 (nb2 (nbf (decide_eq_false c20))))]; exact ⟨hJ0, frK.rf _⟩⟩
    · refine gs_iload_n dX11_make_12 rfl rfl ?_
      refine g_iconst (v := nI 4) dX11_make_13 (by decide) ?_
      refine g_icmp_ne (tgt := 23) dX11_make_14 (by decide) (fun c14 => ?_) (fun c14 => ?_)
      · refine g_iconst (v := -1) dX11_make_23 (by decide) ?_
        refine g_ireturn dX11_make_24 rfl ?_
        exact ⟨_, rfl, by rw [aMake, if_neg (nb2 (nb1 (by cases hq : rg y 3 4; exact rfl; exact absurd (rg34.mp hq) (fun z => z.elim c9 c14))))], by rw [nMake, if_neg (nb2 (nb1 (by cases hq : rg y 3 4; exact rfl; exact absurd (rg34.mp hq) (fun z => z.elim c9 c14))))]; exact ⟨hJ0, frK.rf _⟩⟩
      · refine gs_iload_n dX11_make_17 rfl rfl ?_
        refine g_bipush (v := nI 60) dX11_make_18 (by decide) ?_
        refine g_icmp_le (tgt := 25) dX11_make_20 (by decide) (fun c20 => ?_) (fun c20 => ?_)
        · have hy : y = nI 3 ∨ y = nI 4 := Or.inr c14
          have ok : okMk x y z = true := yb c4 (yb (rg34.mpr hy) (decide_eq_true c20))
          refine gs_iload_n dX11_make_25 rfl rfl ?_
          refine g_if_ge (tgt := 32) dX11_make_26 (by decide) (fun c26 => ?_) (fun c26 => ?_)
          · obtain ⟨d, hdl, hd, rfl⟩ := rg_of c4
            have hd : d < 8 := by omega
            obtain ⟨n, hn, rfl, hnN⟩ := le60 c20 c26
            refine gs_aload_n dX11_make_32 rfl rfl ?_
            refine g_getR dX11_make_33 fX11_41 kFC (by decide) rFC_shelves ?_
            refine gs_iload_n dX11_make_36 rfl rfl ?_
            refine g_aald26 dX11_make_37 kShs hd (rSh hd) ?_
            refine gs_iload_n dX11_make_38 rfl rfl ?_
            refine gs_iload_n dX11_make_39 rfl rfl ?_
            refine g_cVV2 dX11_make_40 vX11_324 (by decide) (kSh hd) (by decide) (Nat.le_of_ble_eq_true rfl) (r_holdZeros hd) ?_
            rintro _ rfl
            refine g_iconst (v := nI 0) dX11_make_43 (by decide) ?_
            refine g_ireturn dX11_make_44 rfl ?_
            exact ⟨_, rfl, by rw [aMake, if_pos ok, if_pos c26], by rw [nMake, if_pos ok, if_pos c26, nN_n (by omega), hnN]; exact mk_C hJ0 hB hd hn hy⟩
          · refine g_bipush (v := -14) dX11_make_29 (by decide) ?_
            refine g_ireturn dX11_make_31 rfl ?_
            exact ⟨_, rfl, by rw [aMake, if_pos ok, if_neg c26], by rw [nMake, if_pos ok, if_neg c26]; exact ⟨hJ0, frK.rf _⟩⟩
        · refine g_iconst (v := -1) dX11_make_23 (by decide) ?_
          refine g_ireturn dX11_make_24 rfl ?_
          exact ⟨_, rfl, by rw [aMake, if_neg (nb2 (nb2 (nbf (decide_eq_false c20))))], by rw [nMake, if_neg (nb2 (nb2 (nbf (decide_eq_false c20))))]; exact ⟨hJ0, frK.rf _⟩⟩
theorem l_make {σ0 : Mm} {S : Sx} {H : Hx} {K : Option Value → Mm → Prop} {d n : Nat} {y : Int32} (hd : d < 8) (hn : n ≤ 60) (hK : ∀ τ, MJ σ0 S (hmK H d y n) τ → K (some (.int (nI 0))) τ) : ∀ j i σ, i + j = n → MJ σ0 S (hrow (hw (hw H 0 d y) 1 d (nI n)) d (fun _ => nI 0) i) σ → G W0 mX12_make K 58 [some (.ref 258), some (.int (nI d)), some (.int y), some (.int (nI n)), some (.int (nI i))] [] σ := by
  intro j
  induction j with
  | zero =>
    intro i σ hi hQ
    have e : i = n := by omega
    refine g_iload dX12_make_58 rfl ?_
    refine gs_iload_n dX12_make_60 rfl rfl ?_
    refine gt_icmp_ge (tgt := 83) dX12_make_61 (by decide) (by omega) (by omega) (by omega) ?_
    refine g_iconst (v := nI 0) dX12_make_83 (by decide) ?_
    refine g_ireturn dX12_make_84 rfl ?_
    rw [e] at hQ
    exact hK σ hQ
  | succ j ih =>
    intro i σ hi hQ
    refine g_iload dX12_make_58 rfl ?_
    refine gs_iload_n dX12_make_60 rfl rfl ?_
    refine gf_icmp_ge (tgt := 83) dX12_make_61 (by decide) (by omega) (by omega) (by omega) ?_
    refine gs_aload_n dX12_make_64 rfl rfl ?_
    refine g_getR dX12_make_65 fX12_172 kwM (by decide) rM_shelfRow ?_
    refine g_bipush (v := nI 60) dX12_make_68 (by decide) ?_
    refine gs_iload_n dX12_make_70 rfl rfl ?_
    refine g_imul dX12_make_71 (by first | exact pk_mul _ _ | rfl) ?_
    refine g_iload dX12_make_72 rfl ?_
    refine g_iadd dX12_make_74 (by first | exact nI_add _ _ | rfl) ?_
    refine g_iconst (v := nI 0) dX12_make_75 (by decide) ?_
    refine gp_iast dX12_make_76 kw_shelfRow (by omega) (show MJ σ0 S (hrow (hw (hw H 0 d y) 1 d (nI n)) d (fun _ => nI 0) (i + 1)) _ from by rw [← hrow_s]; exact ZH4 hQ) (fun σ hQ => ?_)
    have hM := hQ.1.1
    have hC0 := hQ.1.2.1
    refine gs_iinc (ls' := [_, _, _, _, _]) dX12_make_77 rfl (nI_add _ 1) rfl rfl ?_
    refine g_goto (tgt := 58) dX12_make_80 (by decide) ?_
    exact ih (i + 1) σ (by omega) hQ
theorem n_make {σ : Mm} {S : Sx} {H : Hx} (hJ : MI_ σ S H) (hPI : PI S) (x y z : Int32) : RI W0 mX12_make [.ref 258, .int x, .int y, .int z] σ (fun r τ => r = aMake x y z ∧ MJ σ S (nMake H x y z) τ) := by
  have hB : Bd S := hPI.1.1.1.1
  have b0 := B_nodes hB 0
  have bP := B_P hB 0
  have bT := B_T hB 0
  refine G.met (by decide) (Nat.le_of_ble_eq_true rfl) ?_
  show G _ _ _ 0 [some (.ref 258), some (.int x), some (.int y), some (.int z), none] [] σ
  refine gs_aload_n dX12_make_0 rfl rfl ?_
  refine g_iconst (v := nI 0) dX12_make_1 (by decide) ?_
  refine gp_putI dX12_make_2 pX12_194 kwM (by decide) (Or.inl rfl) ((MJ.rf hJ).off off0 (by decide)) (fun σ hQ => ?_)
  have hM := hQ.1.1
  have hC0 := hQ.1.2.1
  refine gs_iload_n dX12_make_5 rfl rfl ?_
  refine g_cSI1 dX12_make_6 vX12_343 (by decide) (Nat.le_of_ble_eq_true rfl) (s_isShelf _) ?_
  rintro _ σ ⟨rfl, e9⟩
  subst e9
  refine gb_if_eq (tgt := 32) dX12_make_9 (by decide) (fun c9 => ?_) (fun c9 => ?_)
  · refine g_iconst (v := -1) dX12_make_32 (by decide) ?_
    refine g_ireturn dX12_make_33 rfl ?_
    exact ⟨_, rfl, by rw [aMake, if_neg (nb1 c9)], by rw [nMake, if_neg (nb1 c9)]; exact hQ⟩
  · refine gs_iload_n dX12_make_12 rfl rfl ?_
    refine g_i2l dX12_make_13 rfl ?_
    refine g_ldc2 dX12_make_14 qX12_226 ?_
    refine g_ldc2 dX12_make_17 qX12_218 ?_
    refine g_cSI3 dX12_make_20 vX12_214 (by decide) (Nat.le_of_ble_eq_true rfl) (m_isIn (a := 3) (b := 4) (by decide) (by decide)) ?_
    rintro _ σ ⟨rfl, e9⟩
    subst e9
    refine gb_if_eq (tgt := 32) dX12_make_23 (by decide) (fun c23 => ?_) (fun c23 => ?_)
    · refine g_iconst (v := -1) dX12_make_32 (by decide) ?_
      refine g_ireturn dX12_make_33 rfl ?_
      exact ⟨_, rfl, by rw [aMake, if_neg (nb2 (nb1 c23))], by rw [nMake, if_neg (nb2 (nb1 c23))]; exact hQ⟩
    · refine gs_iload_n dX12_make_26 rfl rfl ?_
      refine g_bipush (v := nI 60) dX12_make_27 (by decide) ?_
      refine g_icmp_le (tgt := 34) dX12_make_29 (by decide) (fun c29 => ?_) (fun c29 => ?_)
      · have ok : okMk x y z = true := yb c9 (yb c23 (decide_eq_true c29))
        refine gs_iload_n dX12_make_34 rfl rfl ?_
        refine g_if_ge (tgt := 41) dX12_make_35 (by decide) (fun c35 => ?_) (fun c35 => ?_)
        · obtain ⟨d, hdl, hd, rfl⟩ := rg_of c9
          have hd : d < 8 := by omega
          obtain ⟨n, hn, rfl, hnN⟩ := le60 c29 c35
          refine gs_aload_n dX12_make_41 rfl rfl ?_
          refine g_getR dX12_make_42 fX12_160 kwM (by decide) rM_shelf ?_
          refine gs_iload_n dX12_make_45 rfl rfl ?_
          refine gs_iload_n dX12_make_46 rfl rfl ?_
          refine gp_iast dX12_make_47 kw_shelf (by omega) (ZH0 (d := d) hQ) (fun σ hQ => ?_)
          have hM := hQ.1.1
          have hC0 := hQ.1.2.1
          refine gs_aload_n dX12_make_48 rfl rfl ?_
          refine g_getR dX12_make_49 fX12_163 kwM (by decide) rM_shelfSize ?_
          refine gs_iload_n dX12_make_52 rfl rfl ?_
          refine gs_iload_n dX12_make_53 rfl rfl ?_
          refine gp_iast dX12_make_54 kw_shelfSize (by omega) (ZH1 (d := d) hQ) (fun σ hQ => ?_)
          have hM := hQ.1.1
          have hC0 := hQ.1.2.1
          refine g_iconst (v := nI 0) dX12_make_55 (by decide) ?_
          refine gs_istore (ls' := [_, _, _, _, _]) dX12_make_56 rfl rfl ?_
          exact l_make hd hn (fun τ hQ => ⟨_, rfl, by rw [aMake, if_pos ok, if_pos c35], by rw [nMake, if_pos ok, if_pos c35, nN_n (by omega), hnN]; exact hQ⟩) n 0 σ (by omega) (by rw [hrow_0]; exact hQ)
        · refine g_bipush (v := -14) dX12_make_38 (by decide) ?_
          refine g_ireturn dX12_make_40 rfl ?_
          exact ⟨_, rfl, by rw [aMake, if_pos ok, if_neg c35], by rw [nMake, if_pos ok, if_neg c35]; exact hQ⟩
      · refine g_iconst (v := -1) dX12_make_32 (by decide) ?_
        refine g_ireturn dX12_make_33 rfl ?_
        exact ⟨_, rfl, by rw [aMake, if_neg (nb2 (nb2 (nbf (decide_eq_false c29))))], by rw [nMake, if_neg (nb2 (nb2 (nbf (decide_eq_false c29))))]; exact hQ⟩
