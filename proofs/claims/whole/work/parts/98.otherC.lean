/-! other of the reference. -/
theorem RepM.congr {w : Nat} {σ : Mm} {S S2 : Sx} (h : RepM w σ S) (h1 : ∀ g i, i < mS w g → S2.1 g i = S.1 g i) (h2 : ∀ g i, i < vS w g → S2.2.1 g i = S.2.1 g i) : RepM w σ S2 :=
  ⟨fun g i hi => by rw [h1 g i hi]; exact h.1 g i hi, fun g i hi hl => by rw [h2 g i hi]; exact h.2.1 g i hi hl, fun g i hi hl => by rw [h2 g i hi]; exact h.2.2 g i hi hl⟩
theorem Mq.congr {w : Nat} {σ0 σ : Mm} {S S2 : Sx} (h : Mq w σ0 S σ) (h1 : ∀ g i, i < mS w g → S2.1 g i = S.1 g i) (h2 : ∀ g i, i < vS w g → S2.2.1 g i = S.2.1 g i) : Mq w σ0 S2 σ := ⟨h.1.congr h1 h2, h.2⟩
def MB (S S' : Sx) (k c t : Nat) : Sx := (fun g i => if g = 23 then 0 else if g = 36 then S.1 9 0 else if (g = 24 ∨ g = 25 ∨ g = 26 ∨ g = 27) ∧ i < k then 0 else if g = 29 ∧ i < t then S.1 29 i else if g = 35 ∧ i < t then i else if (g = 30 ∨ g = 31 ∨ g = 32) ∧ i < t then 0 else S'.1 g i,
  fun g i => if g = 1 then nI 1 else if g = 2 then nI 0 else if g = 3 then nI 0 else if g = 8 ∧ i < k then nI 0 else if g = 9 ∧ i < c then nI 0 else S'.2.1 g i, S'.2.2)
theorem MB_p {S S' : Sx} {k c : Nat} : setV (setN (setN (setN (setN (MB S S' k c 0) 24 k 0) 25 k 0) 26 k 0) 27 k 0) 8 k (nI 0) = MB S S' (k + 1) c 0 := by
  refine Prod.ext ?_ (Prod.ext ?_ rfl)
  · funext g i
    show (if g = 27 ∧ i = k then 0 else if g = 26 ∧ i = k then 0 else if g = 25 ∧ i = k then 0 else if g = 24 ∧ i = k then 0 else (MB S S' k c 0).1 g i) = (MB S S' (k + 1) c 0).1 g i
    unfold MB
    simp only
    by_cases h1 : g = 23
    · subst h1; simp
    by_cases h2 : g = 36
    · subst h2; simp
    by_cases h3 : (g = 24 ∨ g = 25 ∨ g = 26 ∨ g = 27)
    · by_cases h4 : i = k
      · have : (g = 24 ∨ g = 25 ∨ g = 26 ∨ g = 27) ∧ i < k + 1 := ⟨h3, by omega⟩
        rw [if_neg h1, if_neg h1, if_neg h2, if_neg h2, if_pos this]
        rcases h3 with rfl | rfl | rfl | rfl <;> simp [h4]
      · rw [if_neg (by omega), if_neg (by omega), if_neg (by omega), if_neg (by omega), if_neg h1, if_neg h1, if_neg h2, if_neg h2]
        by_cases h5 : i < k
        · rw [if_pos ⟨h3, h5⟩, if_pos ⟨h3, by omega⟩]
        · have n1 : ¬ ((g = 24 ∨ g = 25 ∨ g = 26 ∨ g = 27) ∧ i < k) := fun z => h5 z.2
          have n2 : ¬ ((g = 24 ∨ g = 25 ∨ g = 26 ∨ g = 27) ∧ i < k + 1) := fun z => by omega
          rw [if_neg n1, if_neg n2]
    · have n1 : ¬ ((g = 24 ∨ g = 25 ∨ g = 26 ∨ g = 27) ∧ i < k) := fun z => h3 z.1
      have n2 : ¬ ((g = 24 ∨ g = 25 ∨ g = 26 ∨ g = 27) ∧ i < k + 1) := fun z => h3 z.1
      rw [if_neg (by omega), if_neg (by omega), if_neg (by omega), if_neg (by omega), if_neg h1, if_neg h1, if_neg h2, if_neg h2, if_neg n1, if_neg n2]
  · funext g i
    show (if g = 8 ∧ i = k then nI 0 else (MB S S' k c 0).2.1 g i) = (MB S S' (k + 1) c 0).2.1 g i
    unfold MB
    simp only
    by_cases h1 : g = 8
    · subst h1
      by_cases h2 : i = k
      · simp [h2]
      · by_cases h3 : i < k
        · have : i < k + 1 := by omega
          simp [h2, h3, this]
        · have : ¬ i < k + 1 := by omega
          simp [h2, h3, this]
    · simp [h1]
theorem MB_c {S S' : Sx} {k c t : Nat} : setV (MB S S' k c t) 9 c (nI 0) = MB S S' k (c + 1) t := by
  refine Prod.ext rfl (Prod.ext ?_ rfl)
  funext g i
  show (if g = 9 ∧ i = c then nI 0 else (MB S S' k c t).2.1 g i) = (MB S S' k (c + 1) t).2.1 g i
  unfold MB
  simp only
  by_cases h1 : g = 9
  · subst h1
    by_cases h2 : i = c
    · simp [h2]
    · by_cases h3 : i < c
      · have : i < c + 1 := by omega
        simp [h2, h3, this]
      · have : ¬ i < c + 1 := by omega
        simp [h2, h3, this]
  · simp [h1]
theorem MB_t {S S' : Sx} {k c t : Nat} : setN (setN (setN (setN (setN (MB S S' k c t) 29 t (S.1 29 t)) 35 t t) 30 t 0) 31 t 0) 32 t 0 = MB S S' k c (t + 1) := by
  refine Prod.ext ?_ rfl
  funext g i
  show (if g = 32 ∧ i = t then 0 else if g = 31 ∧ i = t then 0 else if g = 30 ∧ i = t then 0 else if g = 35 ∧ i = t then t else if g = 29 ∧ i = t then S.1 29 t else (MB S S' k c t).1 g i) = (MB S S' k c (t + 1)).1 g i
  by_cases hi : i = t
  · subst hi
    by_cases a1 : g = 32
    · subst a1; simp [MB]
    by_cases a2 : g = 31
    · subst a2; simp [MB]
    by_cases a3 : g = 30
    · subst a3; simp [MB]
    by_cases a4 : g = 35
    · subst a4; simp [MB]
    by_cases a5 : g = 29
    · subst a5; simp [MB]
    · simp [MB, a1, a2, a3, a4, a5]
  · have e : (i < t + 1) = (i < t) := by simp only [eq_iff_iff]; omega
    simp [MB, hi, e]
theorem hC_of {w : Nat} {τ : Mm} {S : Sx} {σ0 : Mm} (h : Mq w σ0 S τ) : hC w τ := h.2.1
theorem i64z : (0 : Int64).toInt32 = nI 0 := by decide
theorem l_bo1 {σ0 : Mm} {S S' : Sx} {K : Option Value → Mm → Prop} {k : Nat} (hk : k < 20) (hX : ∀ σ, Mq 1 σ0 (MB S S' (k + 1) (4 * (k + 1)) 0) σ → G W0 mX12_beginOther K 116 [some (.ref 258), some (.int (nI k)), none, none] [] σ) : ∀ j c σ, c + j = 4 → Mq 1 σ0 (MB S S' (k + 1) (4 * k + c) 0) σ → G W0 mX12_beginOther K 94 [some (.ref 258), some (.int (nI k)), some (.int (nI (20 + k))), some (.int (nI c))] [] σ := by
  intro j
  induction j with
  | zero =>
    intro c σ hc hQ
    have e : 4 * k + c = 4 * (k + 1) := by omega
    refine gs_iload_n dX12_beginOther_94 rfl rfl ?_
    refine g_iconst (v := nI 4) dX12_beginOther_95 (by decide) ?_
    refine gt_icmp_ge (tgt := 116) dX12_beginOther_96 (by decide) (by omega) (by omega) (by omega) ?_
    refine G.drop 3 (ls' := [_, _, _, none]) rfl ?_
    refine G.drop 2 (ls' := [_, _, none, _]) rfl ?_
    rw [e] at hQ
    exact hX σ hQ
  | succ j ih =>
    intro c σ hc hQ
    refine gs_iload_n dX12_beginOther_94 rfl rfl ?_
    refine g_iconst (v := nI 4) dX12_beginOther_95 (by decide) ?_
    refine gf_icmp_ge (tgt := 116) dX12_beginOther_96 (by decide) (by omega) (by omega) (by omega) ?_
    refine gs_aload_n dX12_beginOther_99 rfl rfl ?_
    refine g_getR dX12_beginOther_100 fX12_100 kwM (by decide) rM_cell ?_
    refine g_iconst (v := nI 4) dX12_beginOther_103 (by decide) ?_
    refine gs_iload_n dX12_beginOther_104 rfl rfl ?_
    refine g_imul dX12_beginOther_105 (by first | exact pk_mul _ _ | rfl) ?_
    refine gs_iload_n dX12_beginOther_106 rfl rfl ?_
    refine g_iadd dX12_beginOther_107 (by first | exact nI_add _ _ | rfl) ?_
    refine g_iconst (v := nI 0) dX12_beginOther_108 (by decide) ?_
    refine gq_iast dX12_beginOther_109 kw_cell (by omega) (show Mq 1 σ0 (MB S S' (k + 1) (4 * k + (c + 1)) 0) _ from by rw [← Nat.add_assoc, ← MB_c]; exact QV_cellx hQ (by omega) (by omega)) (fun σ hQ => ?_)
    have hM := hQ.1
    have hC0 := hQ.2.1
    refine gs_iinc (ls' := [_, _, _, _]) dX12_beginOther_110 rfl (nI_add _ 1) rfl rfl ?_
    refine g_goto (tgt := 94) dX12_beginOther_113 (by decide) ?_
    exact ih (c + 1) σ (by omega) hQ
theorem l_bo2 {σ0 : Mm} {S S' : Sx} {K : Option Value → Mm → Prop} (hX : ∀ σ, Mq 1 σ0 (MB S S' 20 80 0) σ → G W0 mX12_beginOther K 122 [some (.ref 258), none, none, none] [] σ) : ∀ j k σ, k + j = 20 → Mq 1 σ0 (MB S S' k (4 * k) 0) σ → G W0 mX12_beginOther K 45 [some (.ref 258), some (.int (nI k)), none, none] [] σ := by
  intro j
  induction j with
  | zero =>
    intro k σ hk hQ
    have e : k = 20 := by omega
    refine gs_iload_n dX12_beginOther_45 rfl rfl ?_
    refine g_bipush (v := nI 20) dX12_beginOther_46 (by decide) ?_
    refine gt_icmp_ge (tgt := 122) dX12_beginOther_48 (by decide) (by omega) (by omega) (by omega) ?_
    refine G.drop 1 (ls' := [_, none, _, _]) rfl ?_
    rw [e] at hQ
    exact hX σ hQ
  | succ j ih =>
    intro k σ hk hQ
    have h20 : k < 20 := by omega
    refine gs_iload_n dX12_beginOther_45 rfl rfl ?_
    refine g_bipush (v := nI 20) dX12_beginOther_46 (by decide) ?_
    refine gf_icmp_ge (tgt := 122) dX12_beginOther_48 (by decide) (by omega) (by omega) (by omega) ?_
    refine g_bipush (v := nI 20) dX12_beginOther_51 (by decide) ?_
    refine gs_iload_n dX12_beginOther_53 rfl rfl ?_
    refine g_iadd dX12_beginOther_54 (by first | exact nI_add _ _ | rfl) ?_
    refine gs_istore_n (ls' := [_, _, _, _]) dX12_beginOther_55 rfl rfl rfl ?_
    refine gs_aload_n dX12_beginOther_56 rfl rfl ?_
    refine g_getR dX12_beginOther_57 fX12_79 kwM (by decide) rM_lies ?_
    refine gs_iload_n dX12_beginOther_60 rfl rfl ?_
    refine g_bipush (v := -2) dX12_beginOther_61 (by decide) ?_
    refine gq_iast dX12_beginOther_63 kw_lies (by omega) (Q_lies (v := 0) hQ h20) (fun σ hQ => ?_)
    have hM := hQ.1
    have hC0 := hQ.2.1
    refine gs_aload_n dX12_beginOther_64 rfl rfl ?_
    refine g_getR dX12_beginOther_65 fX12_82 kwM (by decide) rM_copies ?_
    refine gs_iload_n dX12_beginOther_68 rfl rfl ?_
    refine g_iconst (v := nI 0) dX12_beginOther_69 (by decide) ?_
    refine gq_iast dX12_beginOther_70 kw_copies (by omega) (Q_copies (v := 0) hQ h20) (fun σ hQ => ?_)
    have hM := hQ.1
    have hC0 := hQ.2.1
    refine gs_aload_n dX12_beginOther_71 rfl rfl ?_
    refine g_getR dX12_beginOther_72 fX12_85 kwM (by decide) rM_hidden ?_
    refine gs_iload_n dX12_beginOther_75 rfl rfl ?_
    refine g_iconst (v := nI 0) dX12_beginOther_76 (by decide) ?_
    refine gq_zast dX12_beginOther_77 kw_hidden (by omega) (by decide) (Q_hidden (v := 0) hQ h20) (fun σ hQ => ?_)
    have hM := hQ.1
    have hC0 := hQ.2.1
    refine gs_aload_n dX12_beginOther_78 rfl rfl ?_
    refine g_getR dX12_beginOther_79 fX12_88 kwM (by decide) rM_faultMany ?_
    refine gs_iload_n dX12_beginOther_82 rfl rfl ?_
    refine g_iconst (v := nI 0) dX12_beginOther_83 (by decide) ?_
    refine gq_iast dX12_beginOther_84 kw_faultMany (by omega) (Q_faultMany (v := 0) hQ h20) (fun σ hQ => ?_)
    have hM := hQ.1
    have hC0 := hQ.2.1
    refine gs_aload_n dX12_beginOther_85 rfl rfl ?_
    refine g_getR dX12_beginOther_86 fX12_97 kwM (by decide) rM_pageBill ?_
    refine gs_iload_n dX12_beginOther_89 rfl rfl ?_
    refine g_lconst (v := 0) dX12_beginOther_90 (by decide) ?_
    refine gq_last dX12_beginOther_91 kw_pageBill (by omega) (show Mq 1 σ0 (MB S S' (k + 1) (4 * k) 0) _ from by have q := QV_pageBill (v := 0) hQ h20; rw [i64z, MB_p] at q; exact q) (fun σ hQ => ?_)
    have hM := hQ.1
    have hC0 := hQ.2.1
    refine g_iconst (v := nI 0) dX12_beginOther_92 (by decide) ?_
    refine gs_istore_n (ls' := [_, _, _, _]) dX12_beginOther_93 rfl rfl rfl ?_
    refine l_bo1 h20 (fun σ hQ => ?_) 4 0 σ (by omega) hQ
    refine gs_iinc (ls' := [_, _, _, _]) dX12_beginOther_116 rfl (nI_add _ 1) rfl rfl ?_
    refine g_goto (tgt := 45) dX12_beginOther_119 (by decide) ?_
    exact ih (k + 1) σ (by omega) hQ
theorem l_bo3 {σ0 : Mm} {S S' : Sx} {K : Option Value → Mm → Prop} (hB : Bd S) (hJ : Jw S S') (hat : ∀ σ, Mq 1 σ0 (MB S S' 20 80 0) σ → True) (h0 : RepM 0 σ0 S) (e9 : S'.1 9 0 = S.1 9 0) (hX : ∀ σ, Mq 1 σ0 (MB S S' 20 80 (S.1 9 0)) σ → K none σ) : ∀ j t σ, t + j = S.1 9 0 → Mq 1 σ0 (MB S S' 20 80 t) σ → G W0 mX12_beginOther K 124 [some (.ref 258), some (.int (nI t)), none, none] [] σ := by
  have bT := B_T hB 0
  intro j
  induction j with
  | zero =>
    intro t σ ht hQ
    have e : t = S.1 9 0 := by omega
    have fT : σ.1 258 9 = nI (S.1 9 0) := by have q := M_T hQ.1; rw [show (MB S S' 20 80 t).1 9 0 = S'.1 9 0 from rfl, e9] at q; exact q
    refine gs_iload_n dX12_beginOther_124 rfl rfl ?_
    refine gs_aload_n dX12_beginOther_125 rfl rfl ?_
    refine g_getI dX12_beginOther_126 fX12_200 kwM (by decide) fT ?_
    refine gt_icmp_ge (tgt := 183) dX12_beginOther_129 (by decide) (by omega) (by omega) (by omega) ?_
    refine g_return dX12_beginOther_183 rfl ?_
    rw [e] at hQ
    exact hX σ hQ
  | succ j ih =>
    intro t σ ht hQ
    have h10 : t < 10 := by omega
    have fT : σ.1 258 9 = nI (S.1 9 0) := by have q := M_T hQ.1; rw [show (MB S S' 20 80 t).1 9 0 = S'.1 9 0 from rfl, e9] at q; exact q
    have fA : σ.1 287 t = nI (S.1 29 t) := M0_at (hQ.2.2.2 S h0) h10
    refine gs_iload_n dX12_beginOther_124 rfl rfl ?_
    refine gs_aload_n dX12_beginOther_125 rfl rfl ?_
    refine g_getI dX12_beginOther_126 fX12_200 kwM (by decide) fT ?_
    refine gf_icmp_ge (tgt := 183) dX12_beginOther_129 (by decide) (by omega) (by omega) (by omega) ?_
    refine g_bipush (v := nI 10) dX12_beginOther_132 (by decide) ?_
    refine gs_iload_n dX12_beginOther_134 rfl rfl ?_
    refine g_iadd dX12_beginOther_135 (by first | exact nI_add _ _ | rfl) ?_
    refine gs_istore_n (ls' := [_, _, _, _]) dX12_beginOther_136 rfl rfl rfl ?_
    refine gs_aload_n dX12_beginOther_137 rfl rfl ?_
    refine g_getR dX12_beginOther_138 fX12_103 kwM (by decide) rM_at ?_
    refine gs_iload_n dX12_beginOther_141 rfl rfl ?_
    refine gs_aload_n dX12_beginOther_142 rfl rfl ?_
    refine g_getR dX12_beginOther_143 fX12_103 kwM (by decide) rM_at ?_
    refine gs_iload_n dX12_beginOther_146 rfl rfl ?_
    refine g_iald dX12_beginOther_147 kw_at (by omega) fA ?_
    refine gq_iast dX12_beginOther_148 kw_at (by omega) (Q_at (v := S.1 29 t) hQ h10) (fun σ hQ => ?_)
    have hM := hQ.1
    have hC0 := hQ.2.1
    refine gs_aload_n dX12_beginOther_149 rfl rfl ?_
    refine g_getR dX12_beginOther_150 fX12_106 kwM (by decide) rM_stamp ?_
    refine gs_iload_n dX12_beginOther_153 rfl rfl ?_
    refine gs_iload_n dX12_beginOther_154 rfl rfl ?_
    refine gq_iast dX12_beginOther_155 kw_stamp (by omega) (Q_stamp (v := t) hQ h10) (fun σ hQ => ?_)
    have hM := hQ.1
    have hC0 := hQ.2.1
    refine gs_aload_n dX12_beginOther_156 rfl rfl ?_
    refine g_getR dX12_beginOther_157 fX12_109 kwM (by decide) rM_next ?_
    refine gs_iload_n dX12_beginOther_160 rfl rfl ?_
    refine g_iconst (v := nI 0) dX12_beginOther_161 (by decide) ?_
    refine gq_iast dX12_beginOther_162 kw_next (by omega) (Q_next (v := 0) hQ h10) (fun σ hQ => ?_)
    have hM := hQ.1
    have hC0 := hQ.2.1
    refine gs_aload_n dX12_beginOther_163 rfl rfl ?_
    refine g_getR dX12_beginOther_164 fX12_112 kwM (by decide) rM_toGo ?_
    refine gs_iload_n dX12_beginOther_167 rfl rfl ?_
    refine g_iconst (v := nI 0) dX12_beginOther_168 (by decide) ?_
    refine gq_iast dX12_beginOther_169 kw_toGo (by omega) (Q_toGo (v := 0) hQ h10) (fun σ hQ => ?_)
    have hM := hQ.1
    have hC0 := hQ.2.1
    refine gs_aload_n dX12_beginOther_170 rfl rfl ?_
    refine g_getR dX12_beginOther_171 fX12_118 kwM (by decide) rM_ended ?_
    refine gs_iload_n dX12_beginOther_174 rfl rfl ?_
    refine g_iconst (v := nI 0) dX12_beginOther_175 (by decide) ?_
    refine gq_zast dX12_beginOther_176 kw_ended (by omega) (by decide) (show Mq 1 σ0 (MB S S' 20 80 (t + 1)) _ from by have q := Q_ended (v := 0) hQ h10; rw [MB_t] at q; exact q) (fun σ hQ => ?_)
    have hM := hQ.1
    have hC0 := hQ.2.1
    refine gs_iinc (ls' := [_, _, _, _]) dX12_beginOther_177 rfl (nI_add _ 1) rfl rfl ?_
    refine g_goto (tgt := 124) dX12_beginOther_180 (by decide) ?_
    refine G.drop 2 (ls' := [_, _, none, _]) rfl ?_
    exact ih (t + 1) σ (by omega) hQ
theorem tab1 : ((List.range 40).all fun g => decide (mS 1 g = 0) || (decide (g ≠ 23 ∧ g ≠ 36) || decide (mS 1 g = 1))) = true := by decide +kernel
theorem tabv1 : ((List.range 20).all fun g => decide (g ≠ 1 ∧ g ≠ 2 ∧ g ≠ 3) || decide (vS 1 g = 1)) = true := by decide +kernel
theorem s_beginOther {σ : Mm} {S S' : Sx} (hM0 : RepM 0 σ S) (hM1 : RepM 1 σ S') (hB : Bd S) (hJ : Jw S S') (e9 : S'.1 9 0 = S.1 9 0) : RV W0 mX12_beginOther [.ref 258] σ (fun τ => Mq 1 (wI σ 258 17 (nI 1)) (MB S S' 20 80 (S.1 9 0)) τ) := by
  have o17 : offM 258 17 = true := by decide +kernel
  have hM0' : RepM 0 (wI σ 258 17 (nI 1)) S := hM0.off o17
  have hM1' : RepM 1 (wI σ 258 17 (nI 1)) S' := hM1.off o17
  have hC1 : hC 1 (wI σ 258 17 (nI 1)) := ⟨by decide, by rw [wI_at, if_pos ⟨rfl, rfl⟩]⟩
  obtain ⟨σ1, e1⟩ : ∃ σ1, σ1 = wI σ 258 17 (nI 1) := ⟨_, rfl⟩
  rw [← e1] at hM0' hM1' hC1 ⊢
  have hQ := Mq.rf hM1' hC1
  have fT : σ1.1 258 9 = nI (S.1 9 0) := M_T hM0'
  refine G.met (by decide) (Nat.le_of_ble_eq_true rfl) ?_
  show G _ _ _ 0 [some (.ref 258), none, none, none] [] σ
  refine gs_aload_n dX12_beginOther_0 rfl rfl ?_
  refine g_iconst (v := nI 1) dX12_beginOther_1 (by decide) ?_
  refine g_putI dX12_beginOther_2 pX12_243 kwM (by decide) (Or.inl rfl) ?_
  rw [← e1]
  obtain ⟨σ2, e2⟩ : ∃ z, z = σ1 := ⟨_, rfl⟩
  have fT2 : ∀ τ X, Mq 1 σ1 X τ → X.1 9 0 = S'.1 9 0 → τ.1 258 9 = nI (S.1 9 0) := fun τ X h z => by have q := M_T h.1; rw [z, e9] at q; exact q
  clear e1 fT
  revert hQ
  suffices hh : ∀ σ, Mq 1 σ1 S' σ → G W0 mX12_beginOther (fun v τ => v = none ∧ Mq 1 σ1 (MB S S' 20 80 (S.1 9 0)) τ) 5 [some (.ref 258), none, none, none] [] σ from fun hQ => hh σ1 hQ
  intro σ hQ
  refine gs_aload_n dX12_beginOther_5 rfl rfl ?_
  refine g_getR dX12_beginOther_6 fX12_54 kwM (by decide) rM_tick ?_
  refine g_iconst (v := nI 1) dX12_beginOther_9 (by decide) ?_
  refine g_iconst (v := nI 1) dX12_beginOther_10 (by decide) ?_
  refine gq_iast dX12_beginOther_11 kw_tick (by omega) (QV_tick (v := nI 1) hQ) (fun σ hQ => ?_)
  have hM := hQ.1
  have hC0 := hQ.2.1
  refine gs_aload_n dX12_beginOther_12 rfl rfl ?_
  refine g_getR dX12_beginOther_13 fX12_57 kwM (by decide) rM_turns ?_
  refine g_iconst (v := nI 1) dX12_beginOther_16 (by decide) ?_
  refine g_iconst (v := nI 0) dX12_beginOther_17 (by decide) ?_
  refine gq_iast dX12_beginOther_18 kw_turns (by omega) (Q_turns (v := 0) hQ) (fun σ hQ => ?_)
  have hM := hQ.1
  have hC0 := hQ.2.1
  refine gs_aload_n dX12_beginOther_19 rfl rfl ?_
  refine g_getR dX12_beginOther_20 fX12_60 kwM (by decide) rM_went ?_
  refine g_iconst (v := nI 1) dX12_beginOther_23 (by decide) ?_
  refine g_iconst (v := nI 0) dX12_beginOther_24 (by decide) ?_
  refine gq_iast dX12_beginOther_25 kw_went (by omega) (QV_went (v := nI 0) hQ) (fun σ hQ => ?_)
  have hM := hQ.1
  have hC0 := hQ.2.1
  refine gs_aload_n dX12_beginOther_26 rfl rfl ?_
  refine g_getR dX12_beginOther_27 fX12_63 kwM (by decide) rM_cost ?_
  refine g_iconst (v := nI 1) dX12_beginOther_30 (by decide) ?_
  refine g_lconst (v := 0) dX12_beginOther_31 (by decide) ?_
  refine gq_last dX12_beginOther_32 kw_cost (by omega) (QV_cost (v := 0) hQ) (fun σ hQ => ?_)
  have hM := hQ.1
  have hC0 := hQ.2.1
  refine gs_aload_n dX12_beginOther_33 rfl rfl ?_
  refine g_getR dX12_beginOther_34 fX12_76 kwM (by decide) rM_stamps ?_
  refine g_iconst (v := nI 1) dX12_beginOther_37 (by decide) ?_
  refine gs_aload_n dX12_beginOther_38 rfl rfl ?_
  refine g_getI dX12_beginOther_39 fX12_200 kwM (by decide) (fT2 σ _ hQ (by rfl)) ?_
  refine gq_iast dX12_beginOther_42 kw_stamps (by omega) (Q_stamps (v := S.1 9 0) hQ) (fun σ hQ => ?_)
  have hM := hQ.1
  have hC0 := hQ.2.1
  refine g_iconst (v := nI 0) dX12_beginOther_43 (by decide) ?_
  refine gs_istore_n (ls' := [_, _, _, _]) dX12_beginOther_44 rfl rfl rfl ?_
  refine l_bo2 (S := S) (S' := S') (fun σ hQ => ?_) 20 0 σ (by omega) (hQ.congr (fun g i hi => ?_) (fun g i hi => ?_))
  refine g_iconst (v := nI 0) dX12_beginOther_122 (by decide) ?_
  refine gs_istore_n (ls' := [_, _, _, _]) dX12_beginOther_123 rfl rfl rfl ?_
  exact l_bo3 hB hJ (fun _ _ => trivial) hM0' e9 (fun τ h => ⟨rfl, h⟩) (S.1 9 0) 0 σ (by omega) hQ
  · have hg := (mS_lt hi).2
    have q := List.all_eq_true.mp tab1 g (List.mem_range.mpr hg)
    simp only [Bool.or_eq_true, decide_eq_true_eq] at q
    show (if g = 23 then 0 else if g = 36 then S.1 9 0 else if (g = 24 ∨ g = 25 ∨ g = 26 ∨ g = 27) ∧ i < 0 then 0 else if g = 29 ∧ i < 0 then S.1 29 i else if g = 35 ∧ i < 0 then i else if (g = 30 ∨ g = 31 ∨ g = 32) ∧ i < 0 then 0 else S'.1 g i) = (if g = 36 ∧ i = 0 then S.1 9 0 else if g = 23 ∧ i = 0 then 0 else S'.1 g i)
    by_cases a1 : g = 23
    · rw [if_pos a1, if_neg (by omega), if_pos ⟨a1, by omega⟩]
    · by_cases a2 : g = 36
      · rw [if_neg a1, if_pos a2, if_pos ⟨a2, by omega⟩]
      · rw [if_neg a1, if_neg a2, if_neg (by omega), if_neg (by omega), if_neg (by omega), if_neg (by omega), if_neg (fun z => a2 z.1), if_neg (fun z => a1 z.1)]
  · have hg := (vS_lt hi).2
    have q := List.all_eq_true.mp tabv1 g (List.mem_range.mpr hg)
    simp only [Bool.or_eq_true, decide_eq_true_eq] at q
    show (if g = 1 then nI 1 else if g = 2 then nI 0 else if g = 3 then nI 0 else if g = 8 ∧ i < 0 then nI 0 else if g = 9 ∧ i < 4 * 0 then nI 0 else S'.2.1 g i) = (if g = 3 ∧ i = 0 then (0 : Int64).toInt32 else if g = 2 ∧ i = 0 then nI 0 else if g = 1 ∧ i = 0 then nI 1 else S'.2.1 g i)
    by_cases a1 : g = 1
    · rw [if_pos a1, if_neg (by omega), if_neg (by omega), if_pos ⟨a1, by omega⟩]
    · by_cases a2 : g = 2
      · rw [if_neg a1, if_pos a2, if_neg (by omega), if_pos ⟨a2, by omega⟩]
      · by_cases a3 : g = 3
        · rw [if_neg a1, if_neg a2, if_pos a3, if_pos ⟨a3, by omega⟩, i64z]
        · rw [if_neg a1, if_neg a2, if_neg a3, if_neg (by omega), if_neg (by omega), if_neg (fun z => a3 z.1), if_neg (fun z => a2 z.1), if_neg (fun z => a1 z.1)]
