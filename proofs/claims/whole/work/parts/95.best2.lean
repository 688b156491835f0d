/-! best of the reference. -/
def nJ (a : Nat) : Int64 := Int64.ofNat a
theorem nJ_toInt {a : Nat} (h : a < 2 ^ 40) : (nJ a).toInt = (a : Int) := Int64.toInt_ofNat_of_lt (Nat.lt_trans h (by decide))
theorem nJ_add (a b : Nat) : nJ a + nJ b = nJ (a + b) := (Int64.ofNat_add a b).symm
theorem nJ_add1 (a : Nat) : nJ a + 1 = nJ (a + 1) := (Int64.ofNat_add a 1).symm
theorem nJ_mul2 (a : Nat) : 2 * nJ a = nJ (2 * a) := (Int64.ofNat_mul 2 a).symm
theorem cJ_ge {a b : Nat} (ha : a < 2 ^ 40) (hb : b < 2 ^ 40) : 0 ≤ lg_cmp (nJ a) (nJ b) ↔ b ≤ a := by
  rw [← Int32.not_lt, cmp_lt, Int64.lt_iff_toInt_lt, nJ_toInt ha, nJ_toInt hb]
  omega
theorem cJ_lt {a b : Nat} (ha : a < 2 ^ 40) (hb : b < 2 ^ 40) : lg_cmp (nJ a) (nJ b) < 0 ↔ a < b := by
  rw [cmp_lt, Int64.lt_iff_toInt_lt, nJ_toInt ha, nJ_toInt hb]
  omega
theorem nJ_mil : (1000000 : Int64) = nJ 1000000 := rfl
theorem i2l_n {v : Nat} (h : v ≤ 1000000) : (nI v).toInt64 = nJ v := by
  refine Int64.toInt_inj.mp ?_
  rw [Int32.toInt_toInt64, nJ_toInt (by omega)]
  show (Int32.ofNat v).toInt = _
  rw [← Int32.ofInt_eq_ofNat, Int32.toInt_ofInt_of_le (by omega) (by omega)]
theorem l2i_n (v : Nat) : (nJ v).toInt32 = nI v := Int64.toInt32_ofNat
theorem MJ.l {σ0 σ : Mm} {S : Sx} {H : Hx} (h : MJ σ0 S H σ) {a j : Nat} {v : Int64} (ha : a = 303 ∨ a = 304) : MJ σ0 S H (wL σ a j v) := h.x (fun _ _ => rfl) (fun x hx => if_neg (by omega))
def Sj (n : Nat) (f : Nat → Nat) (σ : Mm) : Prop := ∀ a, a < n → σ.2 303 a = nJ (f a)
def Tj (n : Nat) (f : Nat → Nat) (σ : Mm) : Prop := ∀ a, a < n → σ.2 304 a = nJ (f a)
theorem l_b0 {σ0 : Mm} {S : Sx} {H : Hx} {x : Int32} {K : Option Value → Mm → Prop} (hB : Bd S) (hX : ∀ σ, MJ σ0 S H σ → Sj (S.1 0 0) (fun _ => 0) σ → G W0 mX12_best K 38 [some (.ref 258), some (.int x), none, none, none, none, none, none, none, none, none] [] σ) : ∀ j a σ, a + j = S.1 0 0 → MJ σ0 S H σ → Sj a (fun _ => 0) σ → G W0 mX12_best K 17 [some (.ref 258), some (.int x), some (.int (nI a)), none, none, none, none, none, none, none, none] [] σ := by
  have b0 := B_nodes hB 0
  intro j
  induction j with
  | zero =>
    intro a σ ha hQ hs
    have hM := hQ.1.1
    have e : a = S.1 0 0 := by omega
    refine gs_iload_n dX12_best_17 rfl rfl ?_
    refine gs_aload_n dX12_best_18 rfl rfl ?_
    refine g_getI dX12_best_19 fX12_182 kwM (by decide) (M_nodes hM) ?_
    refine gt_icmp_ge (tgt := 38) dX12_best_22 (by decide) (by omega) (by omega) (by omega) ?_
    refine G.drop 2 (ls' := [_, _, none, _, _, _, _, _, _, _, _]) rfl ?_
    rw [e] at hs
    exact hX σ hQ hs
  | succ j ih =>
    intro a σ ha hQ hs
    have hM := hQ.1.1
    refine gs_iload_n dX12_best_17 rfl rfl ?_
    refine gs_aload_n dX12_best_18 rfl rfl ?_
    refine g_getI dX12_best_19 fX12_182 kwM (by decide) (M_nodes hM) ?_
    refine gf_icmp_ge (tgt := 38) dX12_best_22 (by decide) (by omega) (by omega) (by omega) ?_
    refine gs_aload_n dX12_best_25 rfl rfl ?_
    refine g_getR dX12_best_26 fX12_151 kwM (by decide) rM_sum ?_
    refine gs_iload_n dX12_best_29 rfl rfl ?_
    refine g_lconst (v := 0) dX12_best_30 (by decide) ?_
    refine g_last dX12_best_31 kw_sum (by omega) ?_
    refine gs_iinc (ls' := [_, _, _, _, _, _, _, _, _, _, _]) dX12_best_32 rfl (nI_add _ 1) rfl rfl ?_
    refine g_goto (tgt := 17) dX12_best_35 (by decide) ?_
    refine ih (a + 1) _ (by omega) (hQ.l (Or.inl rfl)) (fun c hc => ?_)
    rw [wL_at]
    by_cases e : c = a
    · rw [if_pos ⟨rfl, e⟩]; rfl
    · rw [if_neg (fun z => e z.2)]; exact hs c (by omega)
theorem l_b2 {σ : Mm} {S : Sx} {x : Int32} {f : Nat → Nat} {M i : Nat} {K : Option Value → Mm → Prop} (hM : RepM 0 σ S) (hB : Bd S) (hf : Fb M f) (hs : Sj (S.1 0 0) f σ) (hX : G W0 mX12_best K 112 [some (.ref 258), some (.int x), some (.int (nI i)), some (.long (nJ (lsF f (S.1 0 0)))), none, none, none, none, none, none, none] [] σ) : ∀ j a, a + j = S.1 0 0 → G W0 mX12_best K 73 [some (.ref 258), some (.int x), some (.int (nI i)), some (.long (nJ (lsF f a))), none, some (.int (nI a)), none, none, none, none, none] [] σ := by
  have b0 := B_nodes hB 0
  intro j
  induction j with
  | zero =>
    intro a ha
    have e : a = S.1 0 0 := by omega
    refine g_iload dX12_best_73 rfl ?_
    refine gs_aload_n dX12_best_75 rfl rfl ?_
    refine g_getI dX12_best_76 fX12_182 kwM (by decide) (M_nodes hM) ?_
    refine gt_icmp_ge (tgt := 112) dX12_best_79 (by decide) (by omega) (by omega) (by omega) ?_
    refine G.drop 5 (ls' := [_, _, _, _, _, none, _, _, _, _, _]) rfl ?_
    rw [← e] at hX
    exact hX
  | succ j ih =>
    intro a ha
    have l1 := (lsF_le hf a).1
    have l2 := (hf a).1
    have q := ih (a + 1) (by omega)
    rw [lsF] at q
    refine g_iload dX12_best_73 rfl ?_
    refine gs_aload_n dX12_best_75 rfl rfl ?_
    refine g_getI dX12_best_76 fX12_182 kwM (by decide) (M_nodes hM) ?_
    refine gf_icmp_ge (tgt := 112) dX12_best_79 (by decide) (by omega) (by omega) (by omega) ?_
    refine gs_aload_n dX12_best_82 rfl rfl ?_
    refine g_getR dX12_best_83 fX12_151 kwM (by decide) rM_sum ?_
    refine g_iload dX12_best_86 rfl ?_
    refine g_lald dX12_best_88 kw_sum (by omega) (hs a (by omega)) ?_
    refine gs_lload_n dX12_best_89 rfl rfl ?_
    refine g_lcmp dX12_best_90 rfl ?_
    refine g_if_ge (tgt := 104) dX12_best_91 (by decide) (fun c91 => ?_) (fun c91 => ?_)
    · refine gs_lload_n dX12_best_104 rfl rfl ?_
      refine gs_lstore_n (ls' := [_, _, _, _, _, _, _, _, _, _, _]) dX12_best_105 rfl rfl rfl ?_
      refine gs_iinc (ls' := [_, _, _, _, _, _, _, _, _, _, _]) dX12_best_106 rfl (nI_add _ 1) rfl rfl ?_
      refine g_goto (tgt := 73) dX12_best_109 (by decide) ?_
      rw [cJ_ge (by omega) (by omega)] at c91
      rw [Nat.min_eq_left c91] at q
      exact q
    · refine gs_aload_n dX12_best_94 rfl rfl ?_
      refine g_getR dX12_best_95 fX12_151 kwM (by decide) rM_sum ?_
      refine g_iload dX12_best_98 rfl ?_
      refine g_lald dX12_best_100 kw_sum (by omega) (hs a (by omega)) ?_
      refine g_goto (tgt := 105) dX12_best_101 (by decide) ?_
      refine gs_lstore_n (ls' := [_, _, _, _, _, _, _, _, _, _, _]) dX12_best_105 rfl rfl rfl ?_
      refine gs_iinc (ls' := [_, _, _, _, _, _, _, _, _, _, _]) dX12_best_106 rfl (nI_add _ 1) rfl rfl ?_
      refine g_goto (tgt := 73) dX12_best_109 (by decide) ?_
      rw [cJ_ge (by omega) (by omega)] at c91
      rw [Nat.min_eq_right (by omega)] at q
      exact q
theorem l_b3 {σ0 : Mm} {S : Sx} {H : Hx} {x : Int32} {f : Nat → Nat} {M i nd : Nat} {K : Option Value → Mm → Prop} (hB : Bd S) (hf : Fb M f) (hM9 : M ≤ 700000) (hnd : nd < S.1 0 0) (hi : i < 300) (l2 : S.2.1 16 (10 * i + 2) = nI nd) (hX : ∀ σ, MJ σ0 S H σ → Tj (S.1 0 0) (stp S f nd) σ → G W0 mX12_best K 248 [some (.ref 258), some (.int x), some (.int (nI i)), none, none, none, none, none, none, none, none] [] σ) : ∀ j a σ, a + j = S.1 0 0 → MJ σ0 S H σ → Sj (S.1 0 0) f σ → Tj a (stp S f nd) σ → G W0 mX12_best K 115 [some (.ref 258), some (.int x), some (.int (nI i)), some (.long (nJ (lsF f (S.1 0 0)))), none, some (.int (nI a)), none, none, none, none, none] [] σ := by
  have b0 := B_nodes hB 0
  have b15 := B_movePrice hB 0
  intro j
  induction j with
  | zero =>
    intro a σ ha hQ hs ht
    have hM := hQ.1.1
    have e : a = S.1 0 0 := by omega
    refine g_iload dX12_best_115 rfl ?_
    refine gs_aload_n dX12_best_117 rfl rfl ?_
    refine g_getI dX12_best_118 fX12_182 kwM (by decide) (M_nodes hM) ?_
    refine gt_icmp_ge (tgt := 248) dX12_best_121 (by decide) (by omega) (by omega) (by omega) ?_
    refine G.drop 5 (ls' := [_, _, _, _, _, none, _, _, _, _, _]) rfl ?_
    refine G.drop 3 (ls' := [_, _, _, none, _, _, _, _, _, _, _]) rfl ?_
    rw [e] at ht
    exact hX σ hQ ht
  | succ j ih =>
    intro a σ ha hQ hs ht
    have hM := hQ.1.1
    have hC0 := hQ.1.2.1
    have l1 := lsF_le hf (S.1 0 0)
    have hfa := hf a
    have b5 := B_far hB (4 * nd + a)
    have z5 := fz_le b5
    have hfz : rcS S nd a = true → fz (S.1 5 (4 * nd + a)) = S.1 5 (4 * nd + a) := fun q => fz_id (by simpa [rcS] using q)
    have h5 : rcS S nd a = true → S.1 5 (4 * nd + a) < 1000 := fun q => by simpa [rcS] using q
    refine g_iload dX12_best_115 rfl ?_
    refine gs_aload_n dX12_best_117 rfl rfl ?_
    refine g_getI dX12_best_118 fX12_182 kwM (by decide) (M_nodes hM) ?_
    refine gf_icmp_ge (tgt := 248) dX12_best_121 (by decide) (by omega) (by omega) (by omega) ?_
    refine gs_aload_n dX12_best_124 rfl rfl ?_
    refine gs_aload_n dX12_best_125 rfl rfl ?_
    refine g_getR dX12_best_126 fX12_145 kwM (by decide) rM_log ?_
    refine g_bipush (v := nI 10) dX12_best_129 (by decide) ?_
    refine gs_iload_n dX12_best_131 rfl rfl ?_
    refine g_imul dX12_best_132 (by first | exact pk_mul _ _ | rfl) ?_
    refine g_iconst (v := nI 2) dX12_best_133 (by decide) ?_
    refine g_iadd dX12_best_134 (by first | exact nI_add _ _ | rfl) ?_
    refine g_iald dX12_best_135 kw_log (by omega) ((M0_log hM (by omega)).trans l2) ?_
    refine g_iload dX12_best_136 rfl ?_
    refine g_cVI2 dX12_best_138 vX12_220 (by decide) kwM (by decide) (Nat.le_of_ble_eq_true rfl) (s_isWay hM hB hC0 (a := nd) (b := a) (by omega) (by omega)) ?_
    rintro _ σ ⟨rfl, e9⟩
    subst e9
    refine gs_istore (ls' := [_, _, _, _, _, _, _, _, _, _, _]) dX12_best_141 rfl rfl ?_
    refine gs_aload_n dX12_best_143 rfl rfl ?_
    refine g_getR dX12_best_144 fX12_151 kwM (by decide) rM_sum ?_
    refine g_iload dX12_best_147 rfl ?_
    refine g_lald dX12_best_149 kw_sum (by omega) (hs a (by omega)) ?_
    refine gs_lload_n dX12_best_150 rfl rfl ?_
    refine gs_aload_n dX12_best_151 rfl rfl ?_
    refine g_getI dX12_best_152 fX12_42 kwM (by decide) (M_movePrice hM) ?_
    refine g_i2l dX12_best_155 (i2l_n (by omega)) ?_
    refine g_ladd dX12_best_156 (nJ_add _ _) ?_
    refine g_lcmp dX12_best_157 rfl ?_
    refine g_if_ge (tgt := 171) dX12_best_158 (by decide) (fun c158 => ?_) (fun c158 => ?_)
    · refine gs_lload_n dX12_best_171 rfl rfl ?_
      refine gs_aload_n dX12_best_172 rfl rfl ?_
      refine g_getI dX12_best_173 fX12_42 kwM (by decide) (M_movePrice hM) ?_
      refine g_i2l dX12_best_176 (i2l_n (by omega)) ?_
      refine g_ladd dX12_best_177 (nJ_add _ _) ?_
      refine gs_lstore (ls' := [_, _, _, _, _, _, _, _, _, _, _]) dX12_best_178 rfl rfl ?_
      refine g_lload dX12_best_180 rfl ?_
      refine g_lconst (v := 1) dX12_best_182 (by decide) ?_
      refine g_ladd dX12_best_183 (nJ_add1 _) ?_
      refine g_ldc2 dX12_best_184 qX12_235 ?_
      refine gs_aload_n dX12_best_187 rfl rfl ?_
      refine g_getR dX12_best_188 fX12_16 kwM (by decide) rM_far ?_
      refine g_iconst (v := nI 4) dX12_best_191 (by decide) ?_
      refine gs_aload_n dX12_best_192 rfl rfl ?_
      refine g_getR dX12_best_193 fX12_145 kwM (by decide) rM_log ?_
      refine g_bipush (v := nI 10) dX12_best_196 (by decide) ?_
      refine gs_iload_n dX12_best_198 rfl rfl ?_
      refine g_imul dX12_best_199 (by first | exact pk_mul _ _ | rfl) ?_
      refine g_iconst (v := nI 2) dX12_best_200 (by decide) ?_
      refine g_iadd dX12_best_201 (by first | exact nI_add _ _ | rfl) ?_
      refine g_iald dX12_best_202 kw_log (by omega) ((M0_log hM (by omega)).trans l2) ?_
      refine g_imul dX12_best_203 (by first | exact pk_mul _ _ | rfl) ?_
      refine g_iload dX12_best_204 rfl ?_
      refine g_iadd dX12_best_206 (by first | exact nI_add _ _ | rfl) ?_
      refine g_iald dX12_best_207 kw_far (by omega) ((M_far hM (by omega)).trans (fzM_nI _)) ?_
      refine g_i2l dX12_best_208 (i2l_n (by omega)) ?_
      refine g_lmul dX12_best_209 (nJ_mul2 _) ?_
      refine g_ladd dX12_best_210 (nJ_add _ _) ?_
      refine gs_lstore (ls' := [_, _, _, _, _, _, _, _, _, _, _]) dX12_best_211 rfl rfl ?_
      refine gs_aload_n dX12_best_213 rfl rfl ?_
      refine g_getR dX12_best_214 fX12_154 kwM (by decide) rM_then ?_
      refine g_iload dX12_best_217 rfl ?_
      refine g_iload dX12_best_219 rfl ?_
      refine gb_if_eq (tgt := 238) dX12_best_221 (by decide) (fun c221 => ?_) (fun c221 => ?_)
      · refine g_ldc2 dX12_best_238 qX12_338 ?_
        refine g_last dX12_best_241 kw_then (by omega) ?_
        refine gs_iinc (ls' := [_, _, _, _, _, _, _, _, _, _, _]) dX12_best_242 rfl (nI_add _ 1) rfl rfl ?_
        refine g_goto (tgt := 115) dX12_best_245 (by decide) ?_
        rw [cJ_ge (by omega) (by omega)] at c158
        have hm : min (f a) (lsF f (S.1 0 0) + S.1 15 0) = lsF f (S.1 0 0) + S.1 15 0 := Nat.min_eq_right c158
        refine G.drop 6 (ls' := [_, _, _, _, _, _, none, _, _, _, _]) rfl ?_
        refine G.drop 7 (ls' := [_, _, _, _, _, _, _, none, _, _, _]) rfl ?_
        refine G.drop 9 (ls' := [_, _, _, _, _, _, _, _, _, none, _]) rfl ?_
        refine ih (a + 1) _ (by omega) (hQ.l (Or.inr rfl)) (fun c hc => ?_) (fun c hc => ?_)
        · rw [wL_at, if_neg (by omega)]; exact hs c hc
        · rw [wL_at]
          by_cases e : c = a
          · rw [if_pos ⟨rfl, e⟩, e, stp, if_neg (fun z => nbf c221 z.1)]; rfl
          · rw [if_neg (fun z => e z.2)]; exact ht c (by omega)
      · refine g_lload dX12_best_224 rfl ?_
        refine g_ldc2 dX12_best_226 qX12_338 ?_
        refine g_lcmp dX12_best_229 rfl ?_
        refine g_if_ge (tgt := 238) dX12_best_230 (by decide) (fun c230 => ?_) (fun c230 => ?_)
        · refine g_ldc2 dX12_best_238 qX12_338 ?_
          refine g_last dX12_best_241 kw_then (by omega) ?_
          refine gs_iinc (ls' := [_, _, _, _, _, _, _, _, _, _, _]) dX12_best_242 rfl (nI_add _ 1) rfl rfl ?_
          refine g_goto (tgt := 115) dX12_best_245 (by decide) ?_
          rw [cJ_ge (by omega) (by omega)] at c158
          have hm : min (f a) (lsF f (S.1 0 0) + S.1 15 0) = lsF f (S.1 0 0) + S.1 15 0 := Nat.min_eq_right c158
          refine G.drop 6 (ls' := [_, _, _, _, _, _, none, _, _, _, _]) rfl ?_
          refine G.drop 7 (ls' := [_, _, _, _, _, _, _, none, _, _, _]) rfl ?_
          refine G.drop 9 (ls' := [_, _, _, _, _, _, _, _, _, none, _]) rfl ?_
          rw [nJ_mil, cJ_ge (by omega) (by omega), hfz c221] at c230
          have h5 := h5 c221
          refine ih (a + 1) _ (by omega) (hQ.l (Or.inr rfl)) (fun c hc => ?_) (fun c hc => ?_)
          · rw [wL_at, if_neg (by omega)]; exact hs c hc
          · rw [wL_at]
            by_cases e : c = a
            · rw [if_pos ⟨rfl, e⟩, e, stp, hm, if_neg (fun z => by have z2 := z.2; omega)]; rfl
            · rw [if_neg (fun z => e z.2)]; exact ht c (by omega)
        · refine g_lload dX12_best_233 rfl ?_
          refine g_goto (tgt := 241) dX12_best_235 (by decide) ?_
          refine g_last dX12_best_241 kw_then (by omega) ?_
          refine gs_iinc (ls' := [_, _, _, _, _, _, _, _, _, _, _]) dX12_best_242 rfl (nI_add _ 1) rfl rfl ?_
          refine g_goto (tgt := 115) dX12_best_245 (by decide) ?_
          rw [cJ_ge (by omega) (by omega)] at c158
          have hm : min (f a) (lsF f (S.1 0 0) + S.1 15 0) = lsF f (S.1 0 0) + S.1 15 0 := Nat.min_eq_right c158
          refine G.drop 6 (ls' := [_, _, _, _, _, _, none, _, _, _, _]) rfl ?_
          refine G.drop 7 (ls' := [_, _, _, _, _, _, _, none, _, _, _]) rfl ?_
          refine G.drop 9 (ls' := [_, _, _, _, _, _, _, _, _, none, _]) rfl ?_
          rw [nJ_mil, cJ_ge (by omega) (by omega), hfz c221] at c230
          have h5 := h5 c221
          refine ih (a + 1) _ (by omega) (hQ.l (Or.inr rfl)) (fun c hc => ?_) (fun c hc => ?_)
          · rw [wL_at, if_neg (by omega)]; exact hs c hc
          · rw [wL_at]
            by_cases e : c = a
            · rw [if_pos ⟨rfl, e⟩, e, hfz c221, stp, hm, if_pos ⟨c221, by omega⟩]
            · rw [if_neg (fun z => e z.2)]; exact ht c (by omega)
    · refine gs_aload_n dX12_best_161 rfl rfl ?_
      refine g_getR dX12_best_162 fX12_151 kwM (by decide) rM_sum ?_
      refine g_iload dX12_best_165 rfl ?_
      refine g_lald dX12_best_167 kw_sum (by omega) (hs a (by omega)) ?_
      refine g_goto (tgt := 178) dX12_best_168 (by decide) ?_
      refine gs_lstore (ls' := [_, _, _, _, _, _, _, _, _, _, _]) dX12_best_178 rfl rfl ?_
      refine g_lload dX12_best_180 rfl ?_
      refine g_lconst (v := 1) dX12_best_182 (by decide) ?_
      refine g_ladd dX12_best_183 (nJ_add1 _) ?_
      refine g_ldc2 dX12_best_184 qX12_235 ?_
      refine gs_aload_n dX12_best_187 rfl rfl ?_
      refine g_getR dX12_best_188 fX12_16 kwM (by decide) rM_far ?_
      refine g_iconst (v := nI 4) dX12_best_191 (by decide) ?_
      refine gs_aload_n dX12_best_192 rfl rfl ?_
      refine g_getR dX12_best_193 fX12_145 kwM (by decide) rM_log ?_
      refine g_bipush (v := nI 10) dX12_best_196 (by decide) ?_
      refine gs_iload_n dX12_best_198 rfl rfl ?_
      refine g_imul dX12_best_199 (by first | exact pk_mul _ _ | rfl) ?_
      refine g_iconst (v := nI 2) dX12_best_200 (by decide) ?_
      refine g_iadd dX12_best_201 (by first | exact nI_add _ _ | rfl) ?_
      refine g_iald dX12_best_202 kw_log (by omega) ((M0_log hM (by omega)).trans l2) ?_
      refine g_imul dX12_best_203 (by first | exact pk_mul _ _ | rfl) ?_
      refine g_iload dX12_best_204 rfl ?_
      refine g_iadd dX12_best_206 (by first | exact nI_add _ _ | rfl) ?_
      refine g_iald dX12_best_207 kw_far (by omega) ((M_far hM (by omega)).trans (fzM_nI _)) ?_
      refine g_i2l dX12_best_208 (i2l_n (by omega)) ?_
      refine g_lmul dX12_best_209 (nJ_mul2 _) ?_
      refine g_ladd dX12_best_210 (nJ_add _ _) ?_
      refine gs_lstore (ls' := [_, _, _, _, _, _, _, _, _, _, _]) dX12_best_211 rfl rfl ?_
      refine gs_aload_n dX12_best_213 rfl rfl ?_
      refine g_getR dX12_best_214 fX12_154 kwM (by decide) rM_then ?_
      refine g_iload dX12_best_217 rfl ?_
      refine g_iload dX12_best_219 rfl ?_
      refine gb_if_eq (tgt := 238) dX12_best_221 (by decide) (fun c221 => ?_) (fun c221 => ?_)
      · refine g_ldc2 dX12_best_238 qX12_338 ?_
        refine g_last dX12_best_241 kw_then (by omega) ?_
        refine gs_iinc (ls' := [_, _, _, _, _, _, _, _, _, _, _]) dX12_best_242 rfl (nI_add _ 1) rfl rfl ?_
        refine g_goto (tgt := 115) dX12_best_245 (by decide) ?_
        rw [cJ_ge (by omega) (by omega)] at c158
        have hm : min (f a) (lsF f (S.1 0 0) + S.1 15 0) = f a := Nat.min_eq_left (by omega)
        refine G.drop 6 (ls' := [_, _, _, _, _, _, none, _, _, _, _]) rfl ?_
        refine G.drop 7 (ls' := [_, _, _, _, _, _, _, none, _, _, _]) rfl ?_
        refine G.drop 9 (ls' := [_, _, _, _, _, _, _, _, _, none, _]) rfl ?_
        refine ih (a + 1) _ (by omega) (hQ.l (Or.inr rfl)) (fun c hc => ?_) (fun c hc => ?_)
        · rw [wL_at, if_neg (by omega)]; exact hs c hc
        · rw [wL_at]
          by_cases e : c = a
          · rw [if_pos ⟨rfl, e⟩, e, stp, if_neg (fun z => nbf c221 z.1)]; rfl
          · rw [if_neg (fun z => e z.2)]; exact ht c (by omega)
      · refine g_lload dX12_best_224 rfl ?_
        refine g_ldc2 dX12_best_226 qX12_338 ?_
        refine g_lcmp dX12_best_229 rfl ?_
        refine g_if_ge (tgt := 238) dX12_best_230 (by decide) (fun c230 => ?_) (fun c230 => ?_)
        · refine g_ldc2 dX12_best_238 qX12_338 ?_
          refine g_last dX12_best_241 kw_then (by omega) ?_
          refine gs_iinc (ls' := [_, _, _, _, _, _, _, _, _, _, _]) dX12_best_242 rfl (nI_add _ 1) rfl rfl ?_
          refine g_goto (tgt := 115) dX12_best_245 (by decide) ?_
          rw [cJ_ge (by omega) (by omega)] at c158
          have hm : min (f a) (lsF f (S.1 0 0) + S.1 15 0) = f a := Nat.min_eq_left (by omega)
          refine G.drop 6 (ls' := [_, _, _, _, _, _, none, _, _, _, _]) rfl ?_
          refine G.drop 7 (ls' := [_, _, _, _, _, _, _, none, _, _, _]) rfl ?_
          refine G.drop 9 (ls' := [_, _, _, _, _, _, _, _, _, none, _]) rfl ?_
          rw [nJ_mil, cJ_ge (by omega) (by omega), hfz c221] at c230
          have h5 := h5 c221
          refine ih (a + 1) _ (by omega) (hQ.l (Or.inr rfl)) (fun c hc => ?_) (fun c hc => ?_)
          · rw [wL_at, if_neg (by omega)]; exact hs c hc
          · rw [wL_at]
            by_cases e : c = a
            · rw [if_pos ⟨rfl, e⟩, e, stp, hm, if_neg (fun z => by have z2 := z.2; omega)]; rfl
            · rw [if_neg (fun z => e z.2)]; exact ht c (by omega)
        · refine g_lload dX12_best_233 rfl ?_
          refine g_goto (tgt := 241) dX12_best_235 (by decide) ?_
          refine g_last dX12_best_241 kw_then (by omega) ?_
          refine gs_iinc (ls' := [_, _, _, _, _, _, _, _, _, _, _]) dX12_best_242 rfl (nI_add _ 1) rfl rfl ?_
          refine g_goto (tgt := 115) dX12_best_245 (by decide) ?_
          rw [cJ_ge (by omega) (by omega)] at c158
          have hm : min (f a) (lsF f (S.1 0 0) + S.1 15 0) = f a := Nat.min_eq_left (by omega)
          refine G.drop 6 (ls' := [_, _, _, _, _, _, none, _, _, _, _]) rfl ?_
          refine G.drop 7 (ls' := [_, _, _, _, _, _, _, none, _, _, _]) rfl ?_
          refine G.drop 9 (ls' := [_, _, _, _, _, _, _, _, _, none, _]) rfl ?_
          rw [nJ_mil, cJ_ge (by omega) (by omega), hfz c221] at c230
          have h5 := h5 c221
          refine ih (a + 1) _ (by omega) (hQ.l (Or.inr rfl)) (fun c hc => ?_) (fun c hc => ?_)
          · rw [wL_at, if_neg (by omega)]; exact hs c hc
          · rw [wL_at]
            by_cases e : c = a
            · rw [if_pos ⟨rfl, e⟩, e, hfz c221, stp, hm, if_pos ⟨c221, by omega⟩]
            · rw [if_neg (fun z => e z.2)]; exact ht c (by omega)
theorem l_b4 {σ0 : Mm} {S : Sx} {H : Hx} {x : Int32} {g : Nat → Nat} {i : Nat} {K : Option Value → Mm → Prop} (hB : Bd S) (hX : ∀ σ, MJ σ0 S H σ → Sj (S.1 0 0) g σ → G W0 mX12_best K 280 [some (.ref 258), some (.int x), some (.int (nI i)), none, none, none, none, none, none, none, none] [] σ) : ∀ j a σ, a + j = S.1 0 0 → MJ σ0 S H σ → Tj (S.1 0 0) g σ → Sj a g σ → G W0 mX12_best K 251 [some (.ref 258), some (.int x), some (.int (nI i)), none, none, some (.int (nI a)), none, none, none, none, none] [] σ := by
  have b0 := B_nodes hB 0
  intro j
  induction j with
  | zero =>
    intro a σ ha hQ ht hs
    have hM := hQ.1.1
    have e : a = S.1 0 0 := by omega
    refine g_iload dX12_best_251 rfl ?_
    refine gs_aload_n dX12_best_253 rfl rfl ?_
    refine g_getI dX12_best_254 fX12_182 kwM (by decide) (M_nodes hM) ?_
    refine gt_icmp_ge (tgt := 280) dX12_best_257 (by decide) (by omega) (by omega) (by omega) ?_
    refine G.drop 5 (ls' := [_, _, _, _, _, none, _, _, _, _, _]) rfl ?_
    rw [e] at hs
    exact hX σ hQ hs
  | succ j ih =>
    intro a σ ha hQ ht hs
    have hM := hQ.1.1
    refine g_iload dX12_best_251 rfl ?_
    refine gs_aload_n dX12_best_253 rfl rfl ?_
    refine g_getI dX12_best_254 fX12_182 kwM (by decide) (M_nodes hM) ?_
    refine gf_icmp_ge (tgt := 280) dX12_best_257 (by decide) (by omega) (by omega) (by omega) ?_
    refine gs_aload_n dX12_best_260 rfl rfl ?_
    refine g_getR dX12_best_261 fX12_151 kwM (by decide) rM_sum ?_
    refine g_iload dX12_best_264 rfl ?_
    refine gs_aload_n dX12_best_266 rfl rfl ?_
    refine g_getR dX12_best_267 fX12_154 kwM (by decide) rM_then ?_
    refine g_iload dX12_best_270 rfl ?_
    refine g_lald dX12_best_272 kw_then (by omega) (ht a (by omega)) ?_
    refine g_last dX12_best_273 kw_sum (by omega) ?_
    refine gs_iinc (ls' := [_, _, _, _, _, _, _, _, _, _, _]) dX12_best_274 rfl (nI_add _ 1) rfl rfl ?_
    refine g_goto (tgt := 251) dX12_best_277 (by decide) ?_
    refine ih (a + 1) _ (by omega) (hQ.l (Or.inl rfl)) (fun c hc => ?_) (fun c hc => ?_)
    · rw [wL_at, if_neg (by omega)]; exact ht c hc
    · rw [wL_at]
      by_cases e : c = a
      · rw [if_pos ⟨rfl, e⟩, e]
      · rw [if_neg (fun z => e z.2)]; exact hs c (by omega)
theorem l_b5 {σ : Mm} {S : Sx} {x : Int32} {f : Nat → Nat} {M : Nat} {K : Option Value → Mm → Prop} (hM : RepM 0 σ S) (hB : Bd S) (hf : Fb M f) (hs : Sj (S.1 0 0) f σ) (hK : K (some (.int (if lsF f (S.1 0 0) < 1000000 then nI (lsF f (S.1 0 0)) else -2))) σ) : ∀ j a, a + j = S.1 0 0 → G W0 mX12_best K 293 [some (.ref 258), some (.int x), some (.long (nJ (lsF f a))), none, some (.int (nI a)), none, none, none, none, none, none] [] σ := by
  have b0 := B_nodes hB 0
  intro j
  induction j with
  | zero =>
    intro a ha
    have e : a = S.1 0 0 := by omega
    have l1 := (lsF_le hf a).1
    rw [← e] at hK
    refine g_iload dX12_best_293 rfl ?_
    refine gs_aload_n dX12_best_295 rfl rfl ?_
    refine g_getI dX12_best_296 fX12_182 kwM (by decide) (M_nodes hM) ?_
    refine gt_icmp_ge (tgt := 332) dX12_best_299 (by decide) (by omega) (by omega) (by omega) ?_
    refine gs_lload_n dX12_best_332 rfl rfl ?_
    refine g_ldc2 dX12_best_333 qX12_338 ?_
    refine g_lcmp dX12_best_336 rfl ?_
    refine g_if_lt (tgt := 345) dX12_best_337 (by decide) (fun c337 => ?_) (fun c337 => ?_)
    · refine gs_lload_n dX12_best_345 rfl rfl ?_
      refine g_l2i dX12_best_346 (l2i_n _) ?_
      refine g_ireturn dX12_best_347 rfl ?_
      rw [nJ_mil, cJ_lt (by omega) (by omega)] at c337
      rw [if_pos c337] at hK
      exact hK
    · refine g_bipush (v := -2) dX12_best_340 (by decide) ?_
      refine g_goto (tgt := 347) dX12_best_342 (by decide) ?_
      refine g_ireturn dX12_best_347 rfl ?_
      rw [nJ_mil, cJ_lt (by omega) (by omega)] at c337
      rw [if_neg c337] at hK
      exact hK
  | succ j ih =>
    intro a ha
    have l1 := (lsF_le hf a).1
    have l2 := (hf a).1
    have q := ih (a + 1) (by omega)
    rw [lsF] at q
    refine g_iload dX12_best_293 rfl ?_
    refine gs_aload_n dX12_best_295 rfl rfl ?_
    refine g_getI dX12_best_296 fX12_182 kwM (by decide) (M_nodes hM) ?_
    refine gf_icmp_ge (tgt := 332) dX12_best_299 (by decide) (by omega) (by omega) (by omega) ?_
    refine gs_aload_n dX12_best_302 rfl rfl ?_
    refine g_getR dX12_best_303 fX12_151 kwM (by decide) rM_sum ?_
    refine g_iload dX12_best_306 rfl ?_
    refine g_lald dX12_best_308 kw_sum (by omega) (hs a (by omega)) ?_
    refine gs_lload_n dX12_best_309 rfl rfl ?_
    refine g_lcmp dX12_best_310 rfl ?_
    refine g_if_ge (tgt := 324) dX12_best_311 (by decide) (fun c311 => ?_) (fun c311 => ?_)
    · refine gs_lload_n dX12_best_324 rfl rfl ?_
      refine gs_lstore_n (ls' := [_, _, _, _, _, _, _, _, _, _, _]) dX12_best_325 rfl rfl rfl ?_
      refine gs_iinc (ls' := [_, _, _, _, _, _, _, _, _, _, _]) dX12_best_326 rfl (nI_add _ 1) rfl rfl ?_
      refine g_goto (tgt := 293) dX12_best_329 (by decide) ?_
      rw [cJ_ge (by omega) (by omega)] at c311
      rw [Nat.min_eq_left c311] at q
      exact q
    · refine gs_aload_n dX12_best_314 rfl rfl ?_
      refine g_getR dX12_best_315 fX12_151 kwM (by decide) rM_sum ?_
      refine g_iload dX12_best_318 rfl ?_
      refine g_lald dX12_best_320 kw_sum (by omega) (hs a (by omega)) ?_
      refine g_goto (tgt := 325) dX12_best_321 (by decide) ?_
      refine gs_lstore_n (ls' := [_, _, _, _, _, _, _, _, _, _, _]) dX12_best_325 rfl rfl rfl ?_
      refine gs_iinc (ls' := [_, _, _, _, _, _, _, _, _, _, _]) dX12_best_326 rfl (nI_add _ 1) rfl rfl ?_
      refine g_goto (tgt := 293) dX12_best_329 (by decide) ?_
      rw [cJ_ge (by omega) (by omega)] at c311
      rw [Nat.min_eq_right (by omega)] at q
      exact q
theorem l_b1 {σ0 : Mm} {S : Sx} {H : Hx} {x : Int32} {K : Option Value → Mm → Prop} (hB : Bd S) (hLg : Lg S) (hX : ∀ σ, MJ σ0 S H σ → Sj (S.1 0 0) (bsF S x (S.1 34 0)) σ → G W0 mX12_best K 286 [some (.ref 258), some (.int x), none, none, none, none, none, none, none, none, none] [] σ) : ∀ j i σ, i + j = S.1 34 0 → MJ σ0 S H σ → Sj (S.1 0 0) (bsF S x i) σ → G W0 mX12_best K 40 [some (.ref 258), some (.int x), some (.int (nI i)), none, none, none, none, none, none, none, none] [] σ := by
  have b0 := B_nodes hB 0
  have b34 := B_logged hB 0
  intro j
  induction j with
  | zero =>
    intro i σ hi hQ hs
    have hM := hQ.1.1
    have e : i = S.1 34 0 := by omega
    refine gs_iload_n dX12_best_40 rfl rfl ?_
    refine gs_aload_n dX12_best_41 rfl rfl ?_
    refine g_getI dX12_best_42 fX12_284 kwM (by decide) (M_logged hM) ?_
    refine gt_icmp_ge (tgt := 286) dX12_best_45 (by decide) (by omega) (by omega) (by omega) ?_
    refine G.drop 2 (ls' := [_, _, none, _, _, _, _, _, _, _, _]) rfl ?_
    rw [e] at hs
    exact hX σ hQ hs
  | succ j ih =>
    intro i σ hi hQ hs
    have hM := hQ.1.1
    obtain ⟨nd, p, c, hnd, hp, hc, l2, l3, l4⟩ := hLg i (by omega)
    have n2 : nN (S.2.1 16 (10 * i + 2)) = nd := by rw [l2, nN_n (by omega)]
    have hf := Fb_b hB x i (by omega)
    refine gs_iload_n dX12_best_40 rfl rfl ?_
    refine gs_aload_n dX12_best_41 rfl rfl ?_
    refine g_getI dX12_best_42 fX12_284 kwM (by decide) (M_logged hM) ?_
    refine gf_icmp_ge (tgt := 286) dX12_best_45 (by decide) (by omega) (by omega) (by omega) ?_
    refine gs_aload_n dX12_best_48 rfl rfl ?_
    refine g_getR dX12_best_49 fX12_145 kwM (by decide) rM_log ?_
    refine g_bipush (v := nI 10) dX12_best_52 (by decide) ?_
    refine gs_iload_n dX12_best_54 rfl rfl ?_
    refine g_imul dX12_best_55 (by first | exact pk_mul _ _ | rfl) ?_
    refine g_iconst (v := nI 3) dX12_best_56 (by decide) ?_
    refine g_iadd dX12_best_57 (by first | exact nI_add _ _ | rfl) ?_
    refine g_iald dX12_best_58 kw_log (by omega) (M0_log hM (by omega)) ?_
    refine gs_iload_n dX12_best_59 rfl rfl ?_
    refine g_icmp_eq (tgt := 66) dX12_best_60 (by decide) (fun c60 => ?_) (fun c60 => ?_)
    · refine g_ldc2 dX12_best_66 qX12_338 ?_
      refine gs_lstore_n (ls' := [_, _, _, _, _, _, _, _, _, _, _]) dX12_best_69 rfl rfl rfl ?_
      refine g_iconst (v := nI 0) dX12_best_70 (by decide) ?_
      refine gs_istore (ls' := [_, _, _, _, _, _, _, _, _, _, _]) dX12_best_71 rfl rfl ?_
      refine l_b2 hM hB hf hs ?_ (S.1 0 0) 0 (by omega)
      refine g_iconst (v := nI 0) dX12_best_112 (by decide) ?_
      refine gs_istore (ls' := [_, _, _, _, _, _, _, _, _, _, _]) dX12_best_113 rfl rfl ?_
      refine l_b3 hB hf (by omega) hnd (by omega) l2 (fun σ hQ ht => ?_) (S.1 0 0) 0 _ (by omega) hQ hs (fun c hc => absurd hc (by omega))
      refine g_iconst (v := nI 0) dX12_best_248 (by decide) ?_
      refine gs_istore (ls' := [_, _, _, _, _, _, _, _, _, _, _]) dX12_best_249 rfl rfl ?_
      refine l_b4 hB (fun σ hQ hs => ?_) (S.1 0 0) 0 _ (by omega) hQ ht (fun c hc => absurd hc (by omega))
      refine gs_iinc (ls' := [_, _, _, _, _, _, _, _, _, _, _]) dX12_best_280 rfl (nI_add _ 1) rfl rfl ?_
      refine g_goto (tgt := 40) dX12_best_283 (by decide) ?_
      exact ih (i + 1) _ (by omega) hQ (by rw [bsF, if_pos c60, n2]; exact hs)
    · refine g_goto (tgt := 280) dX12_best_63 (by decide) ?_
      refine gs_iinc (ls' := [_, _, _, _, _, _, _, _, _, _, _]) dX12_best_280 rfl (nI_add _ 1) rfl rfl ?_
      refine g_goto (tgt := 40) dX12_best_283 (by decide) ?_
      exact ih (i + 1) _ (by omega) hQ (by rw [bsF, if_neg c60]; exact hs)
theorem n_best {σ : Mm} {S : Sx} {H : Hx} (hJ : MI_ σ S H) (hPI : PI S) (x : Int32) : RI W0 mX12_best [.ref 258, .int x] σ (fun r τ => r = aBest S x ∧ MJ σ (S) H τ) := by
  have hB : Bd S := hPI.1.1.1.1
  have b0 := B_nodes hB 0
  have bP := B_P hB 0
  have bT := B_T hB 0
  refine G.met (by decide) (Nat.le_of_ble_eq_true rfl) ?_
  show G _ _ _ 0 [some (.ref 258), some (.int x), none, none, none, none, none, none, none, none, none] [] σ
  have b34 := B_logged hB 0
  refine gs_aload_n dX12_best_0 rfl rfl ?_
  refine g_iconst (v := nI 0) dX12_best_1 (by decide) ?_
  refine gp_putI dX12_best_2 pX12_194 kwM (by decide) (Or.inl rfl) ((MJ.rf hJ).off off0 (by decide)) (fun σ hQ => ?_)
  have hM := hQ.1.1
  have hC0 := hQ.1.2.1
  refine gs_aload_n dX12_best_5 rfl rfl ?_
  refine gs_iload_n dX12_best_6 rfl rfl ?_
  refine g_cVI1 dX12_best_7 vX12_253 (by decide) kwM (by decide) (Nat.le_of_ble_eq_true rfl) (s_isPage (M_P hM) (by omega) _) ?_
  rintro _ σ ⟨rfl, e9⟩
  subst e9
  refine gb_if_ne (tgt := 15) dX12_best_10 (by decide) (fun c10 => ?_) (fun c10 => ?_)
  · refine g_iconst (v := nI 0) dX12_best_15 (by decide) ?_
    refine gs_istore_n (ls' := [_, _, _, _, _, _, _, _, _, _, _]) dX12_best_16 rfl rfl rfl ?_
    refine l_b0 hB (fun σ hQ hs => ?_) (S.1 0 0) 0 _ (by omega) hQ (fun c hc => absurd hc (by omega))
    refine g_iconst (v := nI 0) dX12_best_38 (by decide) ?_
    refine gs_istore_n (ls' := [_, _, _, _, _, _, _, _, _, _, _]) dX12_best_39 rfl rfl rfl ?_
    refine l_b1 hB hPI.2.2.1 (x := x) (fun σ hQ hs => ?_) (S.1 34 0) 0 _ (by omega) hQ hs
    refine g_ldc2 dX12_best_286 qX12_338 ?_
    refine gs_lstore_n (ls' := [_, _, _, _, _, _, _, _, _, _, _]) dX12_best_289 rfl rfl rfl ?_
    refine g_iconst (v := nI 0) dX12_best_290 (by decide) ?_
    refine gs_istore (ls' := [_, _, _, _, _, _, _, _, _, _, _]) dX12_best_291 rfl rfl ?_
    exact l_b5 hQ.1.1 hB (Fb_b hB x (S.1 34 0) (by omega)) hs ⟨_, rfl, by rw [aBest, if_pos c10], hQ⟩ (S.1 0 0) 0 (by omega)
  · refine g_iconst (v := -1) dX12_best_13 (by decide) ?_
    refine g_ireturn dX12_best_14 rfl ?_
    exact ⟨_, rfl, by rw [aBest, if_neg (nbf c10)], hQ⟩
