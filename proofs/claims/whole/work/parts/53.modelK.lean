/-! The reference: finish. -/
/-- the thread goes to the end of its queue -/
def rqS (S : Sx) (t : Nat) : Sx := setQ S (S.1 29 t) ((S.2.2 (S.1 29 t)).erase t ++ [t])
def fn1 (S : Sx) (t : Nat) : Sx := if S.1 31 t = 0 then S else if S.1 31 t = 1 then rqS (setN (setN (setN S 31 t 0) 35 t (S.1 36 0)) 36 0 (S.1 36 0 + 1)) t else setN S 31 t (S.1 31 t - 1)
def fnL (S : Sx) : Nat → Sx
  | 0 => S
  | t + 1 => fn1 (fnL S t) t
def hdQ (S : Sx) : Bool := decide (0 < S.1 21 0) && decide (S.2.1 1 0 - S.2.1 1 0 / nI (S.1 21 0) * nI (S.1 21 0) = 0)
def hdL (S : Sx) : Nat → Sx
  | 0 => S
  | p + 1 => setN (hdL S p) 26 p (if S.1 26 p = 1 ∨ 0 < S.1 24 p then 1 else 0)
def hdS (S : Sx) : Sx := if hdQ S = true then hdL S (S.1 7 0) else S
def tkS (S : Sx) : Sx := setV S 1 0 (S.2.1 1 0 + nI 1)
def finS (S : Sx) : Sx := tkS (hdS (fnL S (S.1 9 0)))
theorem fn1_ne {S : Sx} {t g : Nat} (h1 : g ≠ 31) (h2 : g ≠ 35) (h3 : g ≠ 36) : (fn1 S t).1 g = S.1 g := by
  unfold fn1
  split
  · rfl
  · split
    · show (setN (setN (setN S 31 t 0) 35 t (S.1 36 0)) 36 0 (S.1 36 0 + 1)).1 g = _
      rw [setN_ne h3, setN_ne h2, setN_ne h1]
    · rw [setN_ne h1]
theorem fn1_v {S : Sx} {t : Nat} : (fn1 S t).2.1 = S.2.1 := by
  unfold fn1
  split
  · rfl
  · split <;> rfl
theorem fnL_ne {S : Sx} {g : Nat} (h1 : g ≠ 31) (h2 : g ≠ 35) (h3 : g ≠ 36) (t : Nat) : (fnL S t).1 g = S.1 g := by
  induction t with
  | zero => rfl
  | succ t ih => rw [fnL, fn1_ne h1 h2 h3, ih]
theorem fnL_v {S : Sx} (t : Nat) : (fnL S t).2.1 = S.2.1 := by
  induction t with
  | zero => rfl
  | succ t ih => rw [fnL, fn1_v, ih]
theorem fn1_Bd {S : Sx} {t : Nat} (hB : Bd S) (h : S.1 36 0 < 1073741824) : Bd (fn1 S t) := by
  have h1 := B_toGo hB t
  unfold fn1
  split
  · exact hB
  · split
    · exact Bd_setN (Bd_setN (Bd_setN hB (by decide)) (show _ ≤ 1073741824 by omega)) (show _ ≤ 1073741824 by omega)
    · exact Bd_setN hB (show _ ≤ 5000 by omega)
theorem fn1_36 {S : Sx} {t : Nat} : (fn1 S t).1 36 0 ≤ S.1 36 0 + 1 := by
  unfold fn1
  split
  · omega
  · split
    · show (setN (setN (setN S 31 t 0) 35 t (S.1 36 0)) 36 0 (S.1 36 0 + 1)).1 36 0 ≤ _
      rw [setN_at, if_pos ⟨rfl, rfl⟩]; omega
    · rw [setN_ne (by decide)]; omega
theorem fnL_Bd {S : Sx} (hB : Bd S) (h : S.1 36 0 + 10 ≤ 1073741824) : ∀ t, t ≤ 10 → Bd (fnL S t) ∧ (fnL S t).1 36 0 ≤ S.1 36 0 + t := by
  intro t
  induction t with
  | zero => intro _; exact ⟨hB, Nat.le_refl _⟩
  | succ t ih =>
    intro ht
    obtain ⟨h1, h2⟩ := ih (by omega)
    exact ⟨fn1_Bd h1 (by omega), by have := fn1_36 (S := fnL S t) (t := t); show (fn1 (fnL S t) t).1 36 0 ≤ _; omega⟩
theorem hdL_ne {S : Sx} {g : Nat} (h : g ≠ 26) (p : Nat) : (hdL S p).1 g = S.1 g := by
  induction p with
  | zero => rfl
  | succ p ih => rw [hdL, setN_ne h, ih]
theorem hdL_v {S : Sx} (p : Nat) : (hdL S p).2 = S.2 := by
  induction p with
  | zero => rfl
  | succ p ih => rw [hdL, setN_2, ih]
theorem hdL_26 {S : Sx} : ∀ k p, k ≤ p → (hdL S k).1 26 p = S.1 26 p := by
  intro k
  induction k with
  | zero => intro p _; rfl
  | succ k ih => intro p hp; rw [hdL, setN_at, if_neg (by omega), ih p (by omega)]
theorem hdL_Bd {S : Sx} (hB : Bd S) (p : Nat) : Bd (hdL S p) := by
  induction p with
  | zero => exact hB
  | succ p ih => exact Bd_setN ih (show _ ≤ 1 by split <;> omega)
theorem hdS_ne {S : Sx} {g : Nat} (h : g ≠ 26) : (hdS S).1 g = S.1 g := by
  unfold hdS
  split
  · exact hdL_ne h _
  · rfl
theorem hdS_2 {S : Sx} : (hdS S).2 = S.2 := by
  unfold hdS
  split
  · exact hdL_v _
  · rfl
theorem l_finish1 {w : Nat} {σ0 : Mm} {S : Sx} {K : Option Value → Mm → Prop} (hB : Bd S) (hs : S.1 36 0 + 10 ≤ 1073741824) (hX : ∀ σ, Mq w σ0 (fnL S (S.1 9 0)) σ → G W0 mX12_finish K 82 [some (.ref 258), none, none] [] σ) : ∀ k t σ, t + k = S.1 9 0 → Mq w σ0 (fnL S t) σ → G W0 mX12_finish K 2 [some (.ref 258), some (.int (nI t)), none] [] σ := by
  have b0 := B_T hB 0
  intro k
  induction k with
  | zero =>
    intro t σ ht hQ
    have hM := hQ.1
    have hC0 := hQ.2.1
    have hw := hC0.1
    refine gs_iload_n dX12_finish_2 rfl rfl ?_
    refine gs_aload_n dX12_finish_3 rfl rfl ?_
    refine g_getI dX12_finish_4 fX12_200 kwM (by decide) (show _ = nI (S.1 9 0) from (M_T hM).trans (by rw [fnL_ne (g := 9) (by decide) (by decide) (by decide)])) ?_
    refine gt_icmp_ge (tgt := 82) dX12_finish_7 (by decide) (by omega) (by omega) (by omega) ?_
    refine G.drop 1 (ls' := [_, none, _]) rfl ?_
    have e : t = S.1 9 0 := by omega
    rw [e] at hQ
    exact hX _ hQ
  | succ k ih =>
    intro t σ ht hQ
    have hM := hQ.1
    have hC0 := hQ.2.1
    have hw := hC0.1
    have hBf := (fnL_Bd hB hs t (by omega)).1
    have b1 := B_toGo hBf t
    have b2 := B_stamps hBf 0
    refine gs_iload_n dX12_finish_2 rfl rfl ?_
    refine gs_aload_n dX12_finish_3 rfl rfl ?_
    refine g_getI dX12_finish_4 fX12_200 kwM (by decide) (show _ = nI (S.1 9 0) from (M_T hM).trans (by rw [fnL_ne (g := 9) (by decide) (by decide) (by decide)])) ?_
    refine gf_icmp_ge (tgt := 82) dX12_finish_7 (by decide) (by omega) (by omega) (by omega) ?_
    refine g_bipush (v := nI 10) dX12_finish_10 (by decide) ?_
    refine gs_aload_n dX12_finish_12 rfl rfl ?_
    refine g_getI dX12_finish_13 fX12_243 kwM (by decide) hC0.2 ?_
    refine g_imul dX12_finish_16 (by first | exact pk_mul _ _ | rfl) ?_
    refine gs_iload_n dX12_finish_17 rfl rfl ?_
    refine g_iadd dX12_finish_18 (by first | exact nI_add _ _ | rfl) ?_
    refine gs_istore_n (ls' := [_, _, _]) dX12_finish_19 rfl rfl rfl ?_
    refine gs_aload_n dX12_finish_20 rfl rfl ?_
    refine g_getR dX12_finish_21 fX12_112 kwM (by decide) rM_toGo ?_
    refine gs_iload_n dX12_finish_24 rfl rfl ?_
    refine g_iald dX12_finish_25 kw_toGo (by omega) (M_toGo hM (by omega)) ?_
    refine gn_if_le (tgt := 76) dX12_finish_26 (by decide) (by omega) (fun c26 => ?_) (fun c26 => ?_)
    · refine gs_iinc (ls' := [_, _, _]) dX12_finish_76 rfl (nI_add _ 1) rfl rfl ?_
      refine g_goto (tgt := 2) dX12_finish_79 (by decide) ?_
      refine G.drop 2 (ls' := [_, _, none]) rfl ?_
      have e : fn1 (fnL S t) t = (fnL S t) := if_pos c26
      refine ih (t + 1) σ (by omega) ?_
      rw [fnL, e]
      exact hQ
    · refine gs_aload_n dX12_finish_29 rfl rfl ?_
      refine g_getR dX12_finish_30 fX12_112 kwM (by decide) rM_toGo ?_
      refine gs_iload_n dX12_finish_33 rfl rfl ?_
      refine g_dup2 dX12_finish_34 rfl rfl ?_
      refine g_iald dX12_finish_35 kw_toGo (by omega) (M_toGo hM (by omega)) ?_
      refine g_iconst (v := nI 1) dX12_finish_36 (by decide) ?_
      refine g_isub dX12_finish_37 (by first | exact pk_sub (by omega) | rfl) ?_
      refine gq_iast dX12_finish_38 kw_toGo (by omega) (Q_toGo hQ (by omega)) (fun σ hQ => ?_)
      have hM := hQ.1
      have hC0 := hQ.2.1
      refine gs_aload_n dX12_finish_39 rfl rfl ?_
      refine g_getR dX12_finish_40 fX12_112 kwM (by decide) rM_toGo ?_
      refine gs_iload_n dX12_finish_43 rfl rfl ?_
      refine g_iald dX12_finish_44 kw_toGo (by omega) (show _ = nI ((fnL S t).1 31 t - 1) from (M_toGo hM (by omega)).trans (by rw [setN_at, if_pos ⟨rfl, rfl⟩])) ?_
      refine gn_if_ne (tgt := 76) dX12_finish_45 (by decide) (by omega) (fun c45 => ?_) (fun c45 => ?_)
      · refine gs_iinc (ls' := [_, _, _]) dX12_finish_76 rfl (nI_add _ 1) rfl rfl ?_
        refine g_goto (tgt := 2) dX12_finish_79 (by decide) ?_
        refine G.drop 2 (ls' := [_, _, none]) rfl ?_
        have e : fn1 (fnL S t) t = setN (fnL S t) 31 t ((fnL S t).1 31 t - 1) := by rw [fn1, if_neg (by omega), if_neg (by omega)]
        refine ih (t + 1) σ (by omega) ?_
        rw [fnL, e]
        exact hQ
      · refine gs_aload_n dX12_finish_48 rfl rfl ?_
        refine g_getR dX12_finish_49 fX12_106 kwM (by decide) rM_stamp ?_
        refine gs_iload_n dX12_finish_52 rfl rfl ?_
        refine gs_aload_n dX12_finish_53 rfl rfl ?_
        refine g_getR dX12_finish_54 fX12_76 kwM (by decide) rM_stamps ?_
        refine gs_aload_n dX12_finish_57 rfl rfl ?_
        refine g_getI dX12_finish_58 fX12_243 kwM (by decide) hC0.2 ?_
        refine g_iald dX12_finish_61 kw_stamps (by omega) (show _ = nI ((fnL S t).1 36 0) from by have q := M_stamps hM; exact q) ?_
        refine gq_iast dX12_finish_62 kw_stamp (by omega) (Q_stamp hQ (by omega)) (fun σ hQ => ?_)
        have hM := hQ.1
        have hC0 := hQ.2.1
        refine gs_aload_n dX12_finish_63 rfl rfl ?_
        refine g_getR dX12_finish_64 fX12_76 kwM (by decide) rM_stamps ?_
        refine gs_aload_n dX12_finish_67 rfl rfl ?_
        refine g_getI dX12_finish_68 fX12_243 kwM (by decide) hC0.2 ?_
        refine g_dup2 dX12_finish_71 rfl rfl ?_
        refine g_iald dX12_finish_72 kw_stamps (by omega) (show _ = nI ((fnL S t).1 36 0) from by have q := M_stamps hM; exact q) ?_
        refine g_iconst (v := nI 1) dX12_finish_73 (by decide) ?_
        refine g_iadd dX12_finish_74 (by first | exact nI_add _ _ | rfl) ?_
        refine gq_iast dX12_finish_75 kw_stamps (by omega) (Q_stamps hQ) (fun σ hQ => ?_)
        have hM := hQ.1
        have hC0 := hQ.2.1
        refine gs_iinc (ls' := [_, _, _]) dX12_finish_76 rfl (nI_add _ 1) rfl rfl ?_
        refine g_goto (tgt := 2) dX12_finish_79 (by decide) ?_
        refine G.drop 2 (ls' := [_, _, none]) rfl ?_
        have e : fn1 (fnL S t) t = rqS (setN (setN (setN (fnL S t) 31 t 0) 35 t ((fnL S t).1 36 0)) 36 0 ((fnL S t).1 36 0 + 1)) t := by rw [fn1, if_neg (by omega), if_pos (by omega)]
        have z1 : (fnL S t).1 31 t - 1 = 0 := by omega
        rw [z1] at hQ
        refine ih (t + 1) σ (by omega) ?_
        rw [fnL, e]
        exact hQ
theorem l_finish2 {w : Nat} {σ0 : Mm} {S : Sx} {K : Option Value → Mm → Prop} (hB : Bd S) (hd1 : 0 < S.1 21 0) (hd2 : S.2.1 1 0 - S.2.1 1 0 / nI (S.1 21 0) * nI (S.1 21 0) = 0) (hX : ∀ σ, Mq w σ0 (hdL S (S.1 7 0)) σ → G W0 mX12_finish K 187 [some (.ref 258), none, none] [] σ) : ∀ k p σ, p + k = S.1 7 0 → Mq w σ0 (hdL S p) σ → G W0 mX12_finish K 84 [some (.ref 258), some (.int (nI p)), none] [] σ := by
  have b0 := B_P hB 0
  have b3 := B_every hB 0
  intro k
  induction k with
  | zero =>
    intro p σ hp hQ
    have hM := hQ.1
    have hC0 := hQ.2.1
    have hw := hC0.1
    refine gs_iload_n dX12_finish_84 rfl rfl ?_
    refine gs_aload_n dX12_finish_85 rfl rfl ?_
    refine g_getI dX12_finish_86 fX12_197 kwM (by decide) (show _ = nI (S.1 7 0) from (M_P hM).trans (by rw [hdL_ne (g := 7) (by decide)])) ?_
    refine gt_icmp_ge (tgt := 187) dX12_finish_89 (by decide) (by omega) (by omega) (by omega) ?_
    refine G.drop 1 (ls' := [_, none, _]) rfl ?_
    have e : p = S.1 7 0 := by omega
    rw [e] at hQ
    exact hX _ hQ
  | succ k ih =>
    intro p σ hp hQ
    have hM := hQ.1
    have hC0 := hQ.2.1
    have hw := hC0.1
    have b1 := B_hidden hB p
    refine gs_iload_n dX12_finish_84 rfl rfl ?_
    refine gs_aload_n dX12_finish_85 rfl rfl ?_
    refine g_getI dX12_finish_86 fX12_197 kwM (by decide) (show _ = nI (S.1 7 0) from (M_P hM).trans (by rw [hdL_ne (g := 7) (by decide)])) ?_
    refine gf_icmp_ge (tgt := 187) dX12_finish_89 (by decide) (by omega) (by omega) (by omega) ?_
    refine gs_aload_n dX12_finish_92 rfl rfl ?_
    refine g_getR dX12_finish_93 fX12_48 kwM (by decide) rM_every ?_
    refine gs_aload_n dX12_finish_96 rfl rfl ?_
    refine g_getI dX12_finish_97 fX12_243 kwM (by decide) hC0.2 ?_
    refine g_iald dX12_finish_100 kw_every (by omega) (show _ = nI (S.1 21 0) from (M_every hM).trans (by rw [hdL_ne (g := 21) (by decide)])) ?_
    refine gf_if_le (tgt := 187) dX12_finish_101 (by decide) (by omega) (by omega) ?_
    refine gs_aload_n dX12_finish_104 rfl rfl ?_
    refine g_getR dX12_finish_105 fX12_54 kwM (by decide) rM_tick ?_
    refine gs_aload_n dX12_finish_108 rfl rfl ?_
    refine g_getI dX12_finish_109 fX12_243 kwM (by decide) hC0.2 ?_
    refine g_iald dX12_finish_112 kw_tick (by omega) (show _ = S.2.1 1 0 from (MV_tick hM).trans (by rw [hdL_v])) ?_
    refine gs_aload_n dX12_finish_113 rfl rfl ?_
    refine g_getR dX12_finish_114 fX12_48 kwM (by decide) rM_every ?_
    refine gs_aload_n dX12_finish_117 rfl rfl ?_
    refine g_getI dX12_finish_118 fX12_243 kwM (by decide) hC0.2 ?_
    refine g_iald dX12_finish_121 kw_every (by omega) (show _ = nI (S.1 21 0) from (M_every hM).trans (by rw [hdL_ne (g := 21) (by decide)])) ?_
    refine g_irem dX12_finish_122 (nI_ne0 (by omega) (by omega)) rfl ?_
    refine rf_if_ne (tgt := 187) dX12_finish_123 (by decide) hd2 ?_
    refine gs_aload_n dX12_finish_126 rfl rfl ?_
    refine g_getR dX12_finish_127 fX12_85 kwM (by decide) rM_hidden ?_
    refine g_bipush (v := nI 20) dX12_finish_130 (by decide) ?_
    refine gs_aload_n dX12_finish_132 rfl rfl ?_
    refine g_getI dX12_finish_133 fX12_243 kwM (by decide) hC0.2 ?_
    refine g_imul dX12_finish_136 (by first | exact pk_mul _ _ | rfl) ?_
    refine gs_iload_n dX12_finish_137 rfl rfl ?_
    refine g_iadd dX12_finish_138 (by first | exact nI_add _ _ | rfl) ?_
    refine gs_aload_n dX12_finish_139 rfl rfl ?_
    refine g_getR dX12_finish_140 fX12_85 kwM (by decide) rM_hidden ?_
    refine g_bipush (v := nI 20) dX12_finish_143 (by decide) ?_
    refine gs_aload_n dX12_finish_145 rfl rfl ?_
    refine g_getI dX12_finish_146 fX12_243 kwM (by decide) hC0.2 ?_
    refine g_imul dX12_finish_149 (by first | exact pk_mul _ _ | rfl) ?_
    refine gs_iload_n dX12_finish_150 rfl rfl ?_
    refine g_iadd dX12_finish_151 (by first | exact nI_add _ _ | rfl) ?_
    refine g_zald dX12_finish_152 kw_hidden (by omega) (show _ = nI (S.1 26 p) from (M_hidden hM (by omega)).trans (by rw [hdL_26 p p (Nat.le_refl _)])) ?_
    refine gn_if_ne (tgt := 175) dX12_finish_153 (by decide) (by omega) (fun c153 => ?_) (fun c153 => ?_)
    · refine g_iconst (v := nI 1) dX12_finish_175 (by decide) ?_
      refine g_goto (tgt := 180) dX12_finish_176 (by decide) ?_
      refine gq_zast dX12_finish_180 kw_hidden (by omega) (by first | exact bI_01 _ | decide) (Q_hidden hQ (by omega)) (fun σ hQ => ?_)
      have hM := hQ.1
      have hC0 := hQ.2.1
      refine gs_iinc (ls' := [_, _, _]) dX12_finish_181 rfl (nI_add _ 1) rfl rfl ?_
      refine g_goto (tgt := 84) dX12_finish_184 (by decide) ?_
      refine ih (p + 1) σ (by omega) ?_
      rw [hdL, show (if S.1 26 p = 1 ∨ 0 < S.1 24 p then 1 else 0) = 1 from if_pos (Or.inl (by omega))]
      exact hQ
    · refine gs_aload_n dX12_finish_156 rfl rfl ?_
      refine g_getR dX12_finish_157 fX12_79 kwM (by decide) rM_lies ?_
      refine g_bipush (v := nI 20) dX12_finish_160 (by decide) ?_
      refine gs_aload_n dX12_finish_162 rfl rfl ?_
      refine g_getI dX12_finish_163 fX12_243 kwM (by decide) hC0.2 ?_
      refine g_imul dX12_finish_166 (by first | exact pk_mul _ _ | rfl) ?_
      refine gs_iload_n dX12_finish_167 rfl rfl ?_
      refine g_iadd dX12_finish_168 (by first | exact nI_add _ _ | rfl) ?_
      refine g_iald dX12_finish_169 kw_lies (by omega) (show _ = lzM (S.1 24 p) from (M_lies hM (by omega)).trans (by rw [hdL_ne (g := 24) (by decide)])) ?_
      refine g_bipush (v := -2) dX12_finish_170 (by decide) ?_
      refine g_icmp_eq (tgt := 179) dX12_finish_172 (by decide) (fun c172 => ?_) (fun c172 => ?_)
      · refine g_iconst (v := nI 0) dX12_finish_179 (by decide) ?_
        refine gq_zast dX12_finish_180 kw_hidden (by omega) (by first | exact bI_01 _ | decide) (Q_hidden hQ (by omega)) (fun σ hQ => ?_)
        have hM := hQ.1
        have hC0 := hQ.2.1
        refine gs_iinc (ls' := [_, _, _]) dX12_finish_181 rfl (nI_add _ 1) rfl rfl ?_
        refine g_goto (tgt := 84) dX12_finish_184 (by decide) ?_
        refine ih (p + 1) σ (by omega) ?_
        rw [hdL, show (if S.1 26 p = 1 ∨ 0 < S.1 24 p then 1 else 0) = 0 from if_neg (by have := (lzM_none (B_lies hB p)).mp c172; omega)]
        exact hQ
      · refine g_iconst (v := nI 1) dX12_finish_175 (by decide) ?_
        refine g_goto (tgt := 180) dX12_finish_176 (by decide) ?_
        refine gq_zast dX12_finish_180 kw_hidden (by omega) (by first | exact bI_01 _ | decide) (Q_hidden hQ (by omega)) (fun σ hQ => ?_)
        have hM := hQ.1
        have hC0 := hQ.2.1
        refine gs_iinc (ls' := [_, _, _]) dX12_finish_181 rfl (nI_add _ 1) rfl rfl ?_
        refine g_goto (tgt := 84) dX12_finish_184 (by decide) ?_
        refine ih (p + 1) σ (by omega) ?_
        rw [hdL, show (if S.1 26 p = 1 ∨ 0 < S.1 24 p then 1 else 0) = 1 from if_pos (Or.inr (Nat.pos_of_ne_zero (fun z => c172 ((lzM_none (B_lies hB p)).mpr z))))]
        exact hQ
theorem s_finish {w : Nat} {σ : Mm} {S : Sx} (hM : RepM w σ S) (hB : Bd S) (hC0 : hC w σ) (hs : S.1 36 0 + 10 ≤ 1073741824) : RV W0 mX12_finish [.ref 258] σ (fun τ => Mq w σ (finS S) τ) := by
  have bT := B_T hB 0
  have hBf := (fnL_Bd hB hs (S.1 9 0) (by omega)).1
  have b3 := B_every hBf 0
  have b4 := B_P hBf 0
  have hend : ∀ σ1, Mq w σ (hdS (fnL S (S.1 9 0))) σ1 → G W0 mX12_finish (fun v τ => v = none ∧ Mq w σ (finS S) τ) 187 [some (.ref 258), none, none] [] σ1 := by
    intro σ1 hQ
    obtain ⟨σ2, e2⟩ : ∃ z, z = σ := ⟨_, rfl⟩
    rw [← e2] at hQ ⊢
    clear e2
    revert hQ
    generalize σ1 = σ
    intro hQ
    have hM := hQ.1
    have hC0 := hQ.2.1
    have hw := hC0.1
    refine gs_aload_n dX12_finish_187 rfl rfl ?_
    refine g_getR dX12_finish_188 fX12_54 kwM (by decide) rM_tick ?_
    refine gs_aload_n dX12_finish_191 rfl rfl ?_
    refine g_getI dX12_finish_192 fX12_243 kwM (by decide) hC0.2 ?_
    refine g_dup2 dX12_finish_195 rfl rfl ?_
    refine g_iald dX12_finish_196 kw_tick (by omega) (MV_tick hM) ?_
    refine g_iconst (v := nI 1) dX12_finish_197 (by decide) ?_
    refine g_iadd dX12_finish_198 (by first | exact nI_add _ _ | rfl) ?_
    refine gq_iast dX12_finish_199 kw_tick (by omega) (QV_tick hQ) (fun σ hQ => ?_)
    have hM := hQ.1
    have hC0 := hQ.2.1
    refine g_return dX12_finish_200 rfl ?_
    exact ⟨rfl, hQ⟩
  refine G.met (by decide) (Nat.le_of_ble_eq_true rfl) ?_
  show G _ _ _ 0 [some (.ref 258), none, none] [] σ
  refine g_iconst (v := nI 0) dX12_finish_0 (by decide) ?_
  refine gs_istore_n (ls' := [_, _, _]) dX12_finish_1 rfl rfl rfl ?_
  refine l_finish1 hB hs (fun σ1 hQ => ?_) (S.1 9 0) 0 σ (by omega) (Mq.rf hM hC0)
  clear hM hC0
  obtain ⟨σ2, e2⟩ : ∃ z, z = σ := ⟨_, rfl⟩
  rw [← e2] at hQ hend ⊢
  clear e2
  revert hQ
  generalize σ1 = σ
  intro hQ
  have hM := hQ.1
  have hC0 := hQ.2.1
  have hw := hC0.1
  by_cases hq : hdQ (fnL S (S.1 9 0)) = true
  · have hq2 := hq
    rw [hdQ, Bool.and_eq_true, decide_eq_true_eq, decide_eq_true_eq] at hq2
    refine g_iconst (v := nI 0) dX12_finish_82 (by decide) ?_
    refine gs_istore_n (ls' := [_, _, _]) dX12_finish_83 rfl rfl rfl ?_
    exact l_finish2 hBf hq2.1 hq2.2 (fun σ3 hQ3 => hend σ3 (by rw [hdS, if_pos hq]; exact hQ3)) ((fnL S (S.1 9 0)).1 7 0) 0 σ (by omega) hQ
  · have hend2 := hend σ (by rw [hdS, if_neg hq]; exact hQ)
    refine g_iconst (v := nI 0) dX12_finish_82 (by decide) ?_
    refine gs_istore_n (ls' := [_, _, _]) dX12_finish_83 rfl rfl rfl ?_
    refine gs_iload_n dX12_finish_84 rfl rfl ?_
    refine gs_aload_n dX12_finish_85 rfl rfl ?_
    refine g_getI dX12_finish_86 fX12_197 kwM (by decide) (M_P hM) ?_
    refine gn_icmp_ge (tgt := 187) dX12_finish_89 (by decide) (by omega) (by omega) (fun c89 => ?_) (fun c89 => ?_)
    · refine G.drop 1 (ls' := [_, none, _]) rfl ?_
      exact hend2
    · refine gs_aload_n dX12_finish_92 rfl rfl ?_
      refine g_getR dX12_finish_93 fX12_48 kwM (by decide) rM_every ?_
      refine gs_aload_n dX12_finish_96 rfl rfl ?_
      refine g_getI dX12_finish_97 fX12_243 kwM (by decide) hC0.2 ?_
      refine g_iald dX12_finish_100 kw_every (by omega) (M_every hM) ?_
      refine gn_if_le (tgt := 187) dX12_finish_101 (by decide) (by omega) (fun c101 => ?_) (fun c101 => ?_)
      · refine G.drop 1 (ls' := [_, none, _]) rfl ?_
        exact hend2
      · refine gs_aload_n dX12_finish_104 rfl rfl ?_
        refine g_getR dX12_finish_105 fX12_54 kwM (by decide) rM_tick ?_
        refine gs_aload_n dX12_finish_108 rfl rfl ?_
        refine g_getI dX12_finish_109 fX12_243 kwM (by decide) hC0.2 ?_
        refine g_iald dX12_finish_112 kw_tick (by omega) (MV_tick hM) ?_
        refine gs_aload_n dX12_finish_113 rfl rfl ?_
        refine g_getR dX12_finish_114 fX12_48 kwM (by decide) rM_every ?_
        refine gs_aload_n dX12_finish_117 rfl rfl ?_
        refine g_getI dX12_finish_118 fX12_243 kwM (by decide) hC0.2 ?_
        refine g_iald dX12_finish_121 kw_every (by omega) (M_every hM) ?_
        refine g_irem dX12_finish_122 (nI_ne0 (by omega) (by omega)) rfl ?_
        refine rt_if_ne (tgt := 187) dX12_finish_123 (by decide) (fun z => hq (by rw [hdQ, decide_eq_true c101, decide_eq_true z]; rfl)) ?_
        refine G.drop 1 (ls' := [_, none, _]) rfl ?_
        exact hend2
