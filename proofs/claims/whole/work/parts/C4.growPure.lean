/-! The reference measures in its constructor: its own cells alone. -/
def W3 : Nat × Nat := (258, 312)
theorem kwMz : kw W3 258 = (12, 65) := by decide +kernel
theorem kw_pricez : kw W3 259 = (20, 16) := by decide +kernel
theorem kw_farz : kw W3 261 = (20, 16) := by decide +kernel
theorem l_ms1z {w : Nat} {σ0 : Mm} {S : Sx} {K : Option Value → Mm → Prop} (hB : Bd S) (hX : ∀ σ, RepM w σ (s5 S (dir (prS S))) → fr261 σ0 σ → G W3 mX12_measure K 53 [some (.ref 258), none, none, none, none] [] σ) : ∀ j k σ, k + j = 16 → RepM w σ (s5 S (eK S k)) → fr261 σ0 σ → G W3 mX12_measure K 2 [some (.ref 258), some (.int (nI k)), none, none, none] [] σ := by
  intro j
  induction j with
  | zero =>
    intro k σ hk hM hf
    have e : k = 16 := by omega
    refine gs_iload_n dX12_measure_2 rfl rfl ?_
    refine g_bipush (v := nI 16) dX12_measure_3 (by decide) ?_
    refine gt_icmp_ge (tgt := 53) dX12_measure_5 (by decide) (by omega) (by omega) (by omega) ?_
    refine G.drop 1 (ls' := [_, none, _, _, _]) rfl ?_
    rw [e, eK_16] at hM
    exact hX σ hM hf
  | succ j ih =>
    intro k σ hk hM hf
    have hk16 : k < 16 := by omega
    have e3 : (s5 S (eK S k)).1 3 = S.1 3 := s5_ne (by decide)
    have b3 := B_price hB k
    have ek : 4 * (k / 4) + k % 4 = k := by omega
    have hd : dir (prS S) (k / 4) (k % 4) = if k / 4 = k % 4 then 0 else if S.1 3 k = 0 then 1000 else S.1 3 k := by
      unfold dir prS
      rw [ek]
    refine gs_iload_n dX12_measure_2 rfl rfl ?_
    refine g_bipush (v := nI 16) dX12_measure_3 (by decide) ?_
    refine gf_icmp_ge (tgt := 53) dX12_measure_5 (by decide) (by omega) (by omega) (by omega) ?_
    refine gs_aload_n dX12_measure_8 rfl rfl ?_
    refine g_getR dX12_measure_9 fX12_16 kwMz (by decide) rM_far ?_
    refine gs_iload_n dX12_measure_12 rfl rfl ?_
    refine gs_iload_n dX12_measure_13 rfl rfl ?_
    refine g_iconst (v := nI 4) dX12_measure_14 (by decide) ?_
    refine g_idiv dX12_measure_15 (by decide) (dv4 hk16) ?_
    refine gs_iload_n dX12_measure_16 rfl rfl ?_
    refine g_iconst (v := nI 4) dX12_measure_17 (by decide) ?_
    refine g_irem dX12_measure_18 (by decide) (rm4 hk16) ?_
    refine gn_icmp_ne (tgt := 26) dX12_measure_19 (by decide) (by omega) (by omega) (fun c19 => ?_) (fun c19 => ?_)
    · refine gs_aload_n dX12_measure_26 rfl rfl ?_
      refine g_getR dX12_measure_27 fX12_7 kwMz (by decide) rM_price ?_
      refine gs_iload_n dX12_measure_30 rfl rfl ?_
      refine g_iald dX12_measure_31 kw_pricez (by omega) (show _ = nI (S.1 3 k) from by rw [← e3]; exact M_price hM hk16) ?_
      refine gn_if_le (tgt := 44) dX12_measure_32 (by decide) (by omega) (fun c32 => ?_) (fun c32 => ?_)
      · refine g_ldc dX12_measure_44 qnX12_203 ?_
        refine g_iast dX12_measure_46 kw_farz (by omega) ?_
        refine gs_iinc (ls' := [_, _, _, _, _]) dX12_measure_47 rfl (nI_add _ 1) rfl rfl ?_
        refine g_goto (tgt := 2) dX12_measure_50 (by decide) ?_
        have q := P_far (v := dir (prS S) (k / 4) (k % 4)) hM hk16
        rw [eK_s hk16, hd, if_neg c19, if_pos c32] at q
        exact ih (k + 1) _ (by omega) q hf.w
      · refine gs_aload_n dX12_measure_35 rfl rfl ?_
        refine g_getR dX12_measure_36 fX12_7 kwMz (by decide) rM_price ?_
        refine gs_iload_n dX12_measure_39 rfl rfl ?_
        refine g_iald dX12_measure_40 kw_pricez (by omega) (show _ = nI (S.1 3 k) from by rw [← e3]; exact M_price hM hk16) ?_
        refine g_goto (tgt := 46) dX12_measure_41 (by decide) ?_
        refine g_iast dX12_measure_46 kw_farz (by omega) ?_
        refine gs_iinc (ls' := [_, _, _, _, _]) dX12_measure_47 rfl (nI_add _ 1) rfl rfl ?_
        refine g_goto (tgt := 2) dX12_measure_50 (by decide) ?_
        have q := P_far (v := dir (prS S) (k / 4) (k % 4)) hM hk16
        rw [eK_s hk16, hd, if_neg c19, if_neg (by omega), show fzM (S.1 3 k) = nI (S.1 3 k) from if_pos (by omega)] at q
        exact ih (k + 1) _ (by omega) q hf.w
    · refine g_iconst (v := nI 0) dX12_measure_22 (by decide) ?_
      refine g_goto (tgt := 46) dX12_measure_23 (by decide) ?_
      refine g_iast dX12_measure_46 kw_farz (by omega) ?_
      refine gs_iinc (ls' := [_, _, _, _, _]) dX12_measure_47 rfl (nI_add _ 1) rfl rfl ?_
      refine g_goto (tgt := 2) dX12_measure_50 (by decide) ?_
      have q := P_far (v := dir (prS S) (k / 4) (k % 4)) hM hk16
      rw [eK_s hk16, hd, if_pos c19] at q
      exact ih (k + 1) _ (by omega) q hf.w
theorem l_ms4z {w : Nat} {σ0 : Mm} {S : Sx} {K : Option Value → Mm → Prop} (hB : Bd S) {n : Nat} (hn : n = S.1 0 0) (hN : ∀ {σ : Mm} {E : Dm}, RepM w σ (s5 S E) → σ.1 258 1 = nI n) {m a : Nat} (hm : m < n) (ha : a < n) (hX : ∀ σ, RepM w σ (s5 S (fwA n m (a + 1) (fwM n m (dir (prS S))))) → fr261 σ0 σ → G W3 mX12_measure K 152 [some (.ref 258), some (.int (nI m)), some (.int (nI a)), none, none] [] σ) : ∀ j b σ, b + j = n → RepM w σ (s5 S (fwB m a b (fwA n m a (fwM n m (dir (prS S)))))) → fr261 σ0 σ → G W3 mX12_measure K 75 [some (.ref 258), some (.int (nI m)), some (.int (nI a)), some (.int (nI b)), none] [] σ := by
  have h4 : n ≤ 4 := by rw [hn]; exact B_nodes hB 0
  intro j
  induction j with
  | zero =>
    intro b σ hb hM hf
    have e : b = n := by omega
    refine gs_iload_n dX12_measure_75 rfl rfl ?_
    refine gs_aload_n dX12_measure_76 rfl rfl ?_
    refine g_getI dX12_measure_77 fX12_182 kwMz (by decide) (show _ = nI n from hN hM) ?_
    refine gt_icmp_ge (tgt := 152) dX12_measure_80 (by decide) (by omega) (by omega) (by omega) ?_
    refine G.drop 3 (ls' := [_, _, _, none, _]) rfl ?_
    rw [e] at hM
    exact hX σ hM hf
  | succ j ih =>
    intro b σ hb hM hf
    have hbn : b < n := by omega
    have hW := FW_all (P := prS S) (n := n) (fun x y => B_price hB _) m (by omega)
    have hFe := hW.2.1.e (n := n) (a := a) (k := b) (hW.1 m)
    have hc : 2 * (9 * 2 ^ m) ≤ 144 := by
      have h9 : ∀ m, m < 4 → 2 * (9 * 2 ^ m) ≤ 144 := by decide
      exact h9 m (by omega)
    obtain ⟨E, hE⟩ : ∃ E, E = fwB m a b (fwA n m a (fwM n m (dir (prS S)))) := ⟨_, rfl⟩
    have hn1 : fwB m a (b + 1) (fwA n m a (fwM n m (dir (prS S)))) = u2 E a b (min (E a b) (E a m + E m b)) := by rw [hE]; rfl
    rw [← hE] at hM hFe
    have q1 := hFe a b
    have q2 := hFe a m
    have q3 := hFe m b
    have z1 := fz_le q1.1
    have z2 := fz_le q2.1
    have z3 := fz_le q3.1
    refine gs_iload_n dX12_measure_75 rfl rfl ?_
    refine gs_aload_n dX12_measure_76 rfl rfl ?_
    refine g_getI dX12_measure_77 fX12_182 kwMz (by decide) (show _ = nI n from hN hM) ?_
    refine gf_icmp_ge (tgt := 152) dX12_measure_80 (by decide) (by omega) (by omega) (by omega) ?_
    refine gs_aload_n dX12_measure_83 rfl rfl ?_
    refine g_getR dX12_measure_84 fX12_16 kwMz (by decide) rM_far ?_
    refine g_iconst (v := nI 4) dX12_measure_87 (by decide) ?_
    refine gs_iload_n dX12_measure_88 rfl rfl ?_
    refine g_imul dX12_measure_89 (by first | exact pk_mul _ _ | rfl) ?_
    refine gs_iload_n dX12_measure_90 rfl rfl ?_
    refine g_iadd dX12_measure_91 (by first | exact nI_add _ _ | rfl) ?_
    refine g_iald dX12_measure_92 kw_farz (by omega) ((M_far hM (i := 4 * a + m) (by omega)).trans (by rw [s5_at (by omega) (by omega), fzM_nI])) ?_
    refine gs_aload_n dX12_measure_93 rfl rfl ?_
    refine g_getR dX12_measure_94 fX12_16 kwMz (by decide) rM_far ?_
    refine g_iconst (v := nI 4) dX12_measure_97 (by decide) ?_
    refine gs_iload_n dX12_measure_98 rfl rfl ?_
    refine g_imul dX12_measure_99 (by first | exact pk_mul _ _ | rfl) ?_
    refine gs_iload_n dX12_measure_100 rfl rfl ?_
    refine g_iadd dX12_measure_101 (by first | exact nI_add _ _ | rfl) ?_
    refine g_iald dX12_measure_102 kw_farz (by omega) ((M_far hM (i := 4 * m + b) (by omega)).trans (by rw [s5_at (by omega) (by omega), fzM_nI])) ?_
    refine g_iadd dX12_measure_103 (by first | exact nI_add _ _ | rfl) ?_
    refine gs_istore (ls' := [_, _, _, _, _]) dX12_measure_104 rfl rfl ?_
    refine gs_aload_n dX12_measure_106 rfl rfl ?_
    refine g_getR dX12_measure_107 fX12_16 kwMz (by decide) rM_far ?_
    refine g_iconst (v := nI 4) dX12_measure_110 (by decide) ?_
    refine gs_iload_n dX12_measure_111 rfl rfl ?_
    refine g_imul dX12_measure_112 (by first | exact pk_mul _ _ | rfl) ?_
    refine gs_iload_n dX12_measure_113 rfl rfl ?_
    refine g_iadd dX12_measure_114 (by first | exact nI_add _ _ | rfl) ?_
    refine g_iload dX12_measure_115 rfl ?_
    refine gs_aload_n dX12_measure_117 rfl rfl ?_
    refine g_getR dX12_measure_118 fX12_16 kwMz (by decide) rM_far ?_
    refine g_iconst (v := nI 4) dX12_measure_121 (by decide) ?_
    refine gs_iload_n dX12_measure_122 rfl rfl ?_
    refine g_imul dX12_measure_123 (by first | exact pk_mul _ _ | rfl) ?_
    refine gs_iload_n dX12_measure_124 rfl rfl ?_
    refine g_iadd dX12_measure_125 (by first | exact nI_add _ _ | rfl) ?_
    refine g_iald dX12_measure_126 kw_farz (by omega) ((M_far hM (i := 4 * a + b) (by omega)).trans (by rw [s5_at (by omega) (by omega), fzM_nI])) ?_
    refine gn_icmp_ge (tgt := 135) dX12_measure_127 (by decide) (by omega) (by omega) (fun c127 => ?_) (fun c127 => ?_)
    · refine gs_aload_n dX12_measure_135 rfl rfl ?_
      refine g_getR dX12_measure_136 fX12_16 kwMz (by decide) rM_far ?_
      refine g_iconst (v := nI 4) dX12_measure_139 (by decide) ?_
      refine gs_iload_n dX12_measure_140 rfl rfl ?_
      refine g_imul dX12_measure_141 (by first | exact pk_mul _ _ | rfl) ?_
      refine gs_iload_n dX12_measure_142 rfl rfl ?_
      refine g_iadd dX12_measure_143 (by first | exact nI_add _ _ | rfl) ?_
      refine g_iald dX12_measure_144 kw_farz (by omega) ((M_far hM (i := 4 * a + b) (by omega)).trans (by rw [s5_at (by omega) (by omega), fzM_nI])) ?_
      refine g_iast dX12_measure_145 kw_farz (by omega) ?_
      refine gs_iinc (ls' := [_, _, _, _, _]) dX12_measure_146 rfl (nI_add _ 1) rfl rfl ?_
      refine g_goto (tgt := 75) dX12_measure_149 (by decide) ?_
      refine G.drop 4 (ls' := [_, _, _, _, none]) rfl ?_
      have t := fz_T q1.1 (fun z => Nat.le_trans (q2.2 z) hc) (fun z => Nat.le_trans (q3.2 z) hc) c127
      have q := P_far (i := 4 * a + b) (v := E a b) hM (by omega)
      rw [s5_set (by omega) (by omega), fzM_nI] at q
      exact ih (b + 1) _ (by omega) (by rw [hn1, Nat.min_eq_left t]; exact q) hf.w
    · refine g_iload dX12_measure_130 rfl ?_
      refine g_goto (tgt := 145) dX12_measure_132 (by decide) ?_
      refine g_iast dX12_measure_145 kw_farz (by omega) ?_
      refine gs_iinc (ls' := [_, _, _, _, _]) dX12_measure_146 rfl (nI_add _ 1) rfl rfl ?_
      refine g_goto (tgt := 75) dX12_measure_149 (by decide) ?_
      refine G.drop 4 (ls' := [_, _, _, _, none]) rfl ?_
      obtain ⟨t1, t2⟩ := fz_F q1.1 (fun z => Nat.le_trans (q2.2 z) hc) (fun z => Nat.le_trans (q3.2 z) hc) c127
      have q := P_far (i := 4 * a + b) (v := E a m + E m b) hM (by omega)
      rw [s5_set (by omega) (by omega), fzM_nI, t2] at q
      exact ih (b + 1) _ (by omega) (by rw [hn1, Nat.min_eq_right t1]; exact q) hf.w
theorem l_ms3z {w : Nat} {σ0 : Mm} {S : Sx} {K : Option Value → Mm → Prop} (hB : Bd S) {n : Nat} (hn : n = S.1 0 0) (hN : ∀ {σ : Mm} {E : Dm}, RepM w σ (s5 S E) → σ.1 258 1 = nI n) {m : Nat} (hm : m < n) (hX : ∀ σ, RepM w σ (s5 S (fwA n m n (fwM n m (dir (prS S))))) → fr261 σ0 σ → G W3 mX12_measure K 158 [some (.ref 258), some (.int (nI m)), none, none, none] [] σ) : ∀ j a σ, a + j = n → RepM w σ (s5 S (fwA n m a (fwM n m (dir (prS S))))) → fr261 σ0 σ → G W3 mX12_measure K 65 [some (.ref 258), some (.int (nI m)), some (.int (nI a)), none, none] [] σ := by
  have h4 : n ≤ 4 := by rw [hn]; exact B_nodes hB 0
  intro j
  induction j with
  | zero =>
    intro a σ ha hM hf
    have e : a = n := by omega
    refine gs_iload_n dX12_measure_65 rfl rfl ?_
    refine gs_aload_n dX12_measure_66 rfl rfl ?_
    refine g_getI dX12_measure_67 fX12_182 kwMz (by decide) (show _ = nI n from hN hM) ?_
    refine gt_icmp_ge (tgt := 158) dX12_measure_70 (by decide) (by omega) (by omega) (by omega) ?_
    refine G.drop 2 (ls' := [_, _, none, _, _]) rfl ?_
    rw [e] at hM
    exact hX σ hM hf
  | succ j ih =>
    intro a σ ha hM hf
    have han : a < n := by omega
    refine gs_iload_n dX12_measure_65 rfl rfl ?_
    refine gs_aload_n dX12_measure_66 rfl rfl ?_
    refine g_getI dX12_measure_67 fX12_182 kwMz (by decide) (show _ = nI n from hN hM) ?_
    refine gf_icmp_ge (tgt := 158) dX12_measure_70 (by decide) (by omega) (by omega) (by omega) ?_
    refine g_iconst (v := nI 0) dX12_measure_73 (by decide) ?_
    refine gs_istore_n (ls' := [_, _, _, _, _]) dX12_measure_74 rfl rfl rfl ?_
    refine l_ms4z hB hn hN hm han (fun σ hM hf => ?_) n 0 _ (by omega) hM hf
    refine gs_iinc (ls' := [_, _, _, _, _]) dX12_measure_152 rfl (nI_add _ 1) rfl rfl ?_
    refine g_goto (tgt := 65) dX12_measure_155 (by decide) ?_
    exact ih (a + 1) _ (by omega) hM hf
theorem l_ms2z {w : Nat} {σ0 : Mm} {S : Sx} {K : Option Value → Mm → Prop} (hB : Bd S) {n : Nat} (hn : n = S.1 0 0) (hN : ∀ {σ : Mm} {E : Dm}, RepM w σ (s5 S E) → σ.1 258 1 = nI n) (hX : ∀ σ, RepM w σ (ms5 S) → fr261 σ0 σ → K none σ) : ∀ j m σ, m + j = n → RepM w σ (s5 S (fwM n m (dir (prS S)))) → fr261 σ0 σ → G W3 mX12_measure K 55 [some (.ref 258), some (.int (nI m)), none, none, none] [] σ := by
  have h4 : n ≤ 4 := by rw [hn]; exact B_nodes hB 0
  intro j
  induction j with
  | zero =>
    intro m σ hm hM hf
    have e : m = n := by omega
    refine gs_iload_n dX12_measure_55 rfl rfl ?_
    refine gs_aload_n dX12_measure_56 rfl rfl ?_
    refine g_getI dX12_measure_57 fX12_182 kwMz (by decide) (show _ = nI n from hN hM) ?_
    refine gt_icmp_ge (tgt := 164) dX12_measure_60 (by decide) (by omega) (by omega) (by omega) ?_
    refine g_return dX12_measure_164 rfl ?_
    rw [e] at hM
    exact hX σ (by rw [ms5, ← hn]; exact hM) hf
  | succ j ih =>
    intro m σ hm hM hf
    have hmn : m < n := by omega
    refine gs_iload_n dX12_measure_55 rfl rfl ?_
    refine gs_aload_n dX12_measure_56 rfl rfl ?_
    refine g_getI dX12_measure_57 fX12_182 kwMz (by decide) (show _ = nI n from hN hM) ?_
    refine gf_icmp_ge (tgt := 164) dX12_measure_60 (by decide) (by omega) (by omega) (by omega) ?_
    refine g_iconst (v := nI 0) dX12_measure_63 (by decide) ?_
    refine gs_istore_n (ls' := [_, _, _, _, _]) dX12_measure_64 rfl rfl rfl ?_
    refine l_ms3z hB hn hN hmn (fun σ hM hf => ?_) n 0 _ (by omega) hM hf
    refine gs_iinc (ls' := [_, _, _, _, _]) dX12_measure_158 rfl (nI_add _ 1) rfl rfl ?_
    refine g_goto (tgt := 55) dX12_measure_161 (by decide) ?_
    exact ih (m + 1) _ (by omega) hM hf
theorem s_measurez {w : Nat} {σ : Mm} {S : Sx} (hM : RepM w σ S) (hB : Bd S) : RV W3 mX12_measure [.ref 258] σ (fun τ => RepM w τ (msS S) ∧ fr261 σ τ) := by
  refine G.met (by decide) (Nat.le_of_ble_eq_true rfl) ?_
  show G _ _ _ 0 [some (.ref 258), none, none, none, none] [] σ
  refine g_iconst (v := nI 0) dX12_measure_0 (by decide) ?_
  refine gs_istore_n (ls' := [_, _, _, _, _]) dX12_measure_1 rfl rfl rfl ?_
  have hN : ∀ {σ : Mm} {E : Dm}, RepM w σ (s5 S E) → σ.1 258 1 = nI (S.1 0 0) := fun {σ} {E} h => by
    have q := M_nodes h
    rw [s5_ne (by decide)] at q
    exact q
  refine l_ms1z (S := S) hB (fun σ1 hM hf => ?_) 16 0 _ (by omega) (by rw [eK_0]; exact hM) (fr261.rf _)
  refine g_iconst (v := nI 0) dX12_measure_53 (by decide) ?_
  refine gs_istore_n (ls' := [_, _, _, _, _]) dX12_measure_54 rfl rfl rfl ?_
  exact l_ms2z hB rfl hN (fun τ h1 h2 => ⟨rfl, h1.hop, h2⟩) (S.1 0 0) 0 _ (by omega) hM hf
theorem metWF {l : Launch} {y : MethodName} {ws ws' : List Cond} {rm : Room} {Pc : Array Value → State → Prop} {Qc : Array Value → State → Outcome → State → Prop} {mc ms : Nat} {free : Addr → Prop} {cc : ByteArray} {maxL : Nat} {ret : Option FieldType}
    (hy : plainFor y = true) (hw : ws = Cond.code y cc maxL ret :: ws')
    (body : ∀ p e s m args below meth c s₁, BodyLoose p l y (headSpec ws rm) cc maxL ret e s m args below meth c s₁ → c.maxLocals = maxL → Pc args s →
      W p l e (headSpec ws rm).room s m args below meth c s.heap [] 0 0 (MQ below Qc args s mc ms free) (entryFrame m args maxL)) : Met l y ws rm Pc Qc mc ms free := by
  refine MetFree.of_bodySF (code := cc) (maxLocals := maxL) (ret := ret) hy ?_ ?_
  · intro args s m h hn
    obtain ⟨meth, c, h1, h2, h3, h4, h5, h6, -, -⟩ := Cond.code_spec hn (atoms_spec (ws := ws) h _ (by rw [hw]; exact List.mem_cons_self))
    exact ⟨meth, c, h1, h2, h3, h4, h5, h6⟩
  · intro p e s m args below meth c s₁ B hml hP _
    have hh0 : s₁.heap = s.heap := by rw [B.state]; rfl
    obtain ⟨t, a1, o, b1, b2, b3⟩ := body p e s m args below meth c s₁ B hml hP s₁ hh0 (Stand.of_body B)
    exact ⟨t, o, a1, b1, b2, ⟨b3.1, b3.2⟩⟩
theorem G.metF {Ω : Nat × Nat} {M : MI} {av : List Value} {σ : Mm} {K : Option Value → Mm → Prop} (hy : plainFor (iy M) = true) (hlen : (lg_sl av).length ≤ il M) (h : G Ω M K 0 (ls0 av (il M)) [] σ) : MetM Ω M av σ K := by
  intro l B D cA
  refine metWF (cc := ic M) (maxL := il M) (ret := ir M) hy rfl ?_
  intro p e s m args below meth c s₁ B0 hml hv
  obtain ⟨rfl, hP, hK, hNs⟩ := hv
  have hts := atoms_spec (ws := wsM M) B0.pre
  rw [lg_entry_eq]
  exact h B D cA p l e s m _ below meth c s.heap [] _ ⟨B0.exec, B0.bytes, hml, findClass_of_methodNamed B0.named, B0.returns, B0.notSynchronized, fun w hw => hts w (List.mem_cons_of_mem _ hw), hK, hNs⟩ hP va_S.rf (lvR_entry hlen)
theorem xor_nn {x y : Int32} (hy : 0 < y.toInt) : 0 ≤ (x ^^^ y) ↔ 0 ≤ x := by
  rw [Jvm.Kit.i32_nonneg, Jvm.Kit.i32_nonneg]
  have h1 : (x ^^^ y).toBitVec.msb = (x.toBitVec.msb ^^ y.toBitVec.msb) := by rw [Int32.toBitVec_xor, BitVec.msb_xor]
  have e1 : (x ^^^ y).toBitVec.msb = decide ((x ^^^ y).toInt < 0) := BitVec.msb_eq_toInt
  have e2 : x.toBitVec.msb = decide (x.toInt < 0) := BitVec.msb_eq_toInt
  have e3 : y.toBitVec.msb = decide (y.toInt < 0) := BitVec.msb_eq_toInt
  rw [e1, e2, e3, show decide (y.toInt < 0) = false from decide_eq_false (by omega), Bool.xor_false, decide_eq_decide] at h1
  omega
theorem rem_sg {x y : Int32} (hy : 0 < y.toInt) : (0 ≤ x → 0 ≤ x - x / y * y) ∧ (¬ 0 ≤ x → 0 ≤ x - x / y * y → x - x / y * y = 0) := by
  rw [Jvm.Kit.i32_nonneg, Jvm.Kit.i32_nonneg, rem_toInt]
  refine ⟨fun h => Int.tmod_nonneg _ h, fun h h2 => ?_⟩
  apply Int32.toInt_inj.mp
  rw [rem_toInt]
  show x.toInt.tmod y.toInt = 0
  have h3 : -x.toInt ≥ 0 := by omega
  have h4 := Int.tmod_nonneg y.toInt h3
  rw [Int.neg_tmod] at h4
  omega
theorem r_floorMod {Ω : Nat × Nat} {σ : Mm} {x y : Int32} (hy : 0 < y.toInt) : RI Ω mJ9_floorMod_7cf53 [.int x, .int y] σ (fun r τ => r = fmv x y ∧ τ = σ) := by
  have hy0 : ¬ y = 0 := fun h => by rw [h] at hy; exact absurd hy (by decide)
  refine G.metF (by decide +kernel) (Nat.le_of_ble_eq_true rfl) ?_
  show G _ _ _ 0 [some (.int x), some (.int y), none] [] σ
  refine gs_iload_n dJ9_floorMod_7cf53_0 rfl rfl ?_
  refine gs_iload_n dJ9_floorMod_7cf53_1 rfl rfl ?_
  refine g_irem dJ9_floorMod_7cf53_2 hy0 rfl ?_
  refine gs_istore_n (ls' := [_, _, _]) dJ9_floorMod_7cf53_3 rfl rfl rfl ?_
  refine gs_iload_n dJ9_floorMod_7cf53_4 rfl rfl ?_
  refine gs_iload_n dJ9_floorMod_7cf53_5 rfl rfl ?_
  refine g_ixor dJ9_floorMod_7cf53_6 rfl ?_
  have hs := rem_sg (x := x) hy
  refine g_if_ge (tgt := 18) dJ9_floorMod_7cf53_7 (by decide) (fun c7 => ?_) (fun c7 => ?_)
  · refine gs_iload_n dJ9_floorMod_7cf53_18 rfl rfl ?_
    refine g_ireturn dJ9_floorMod_7cf53_19 rfl ?_
    have h := hs.1 ((xor_nn hy).mp c7)
    exact ⟨_, rfl, by unfold fmv fmOf; rw [if_pos h], rfl⟩
  · have c8 : ¬ 0 ≤ x := fun h => c7 ((xor_nn hy).mpr h)
    refine gs_iload_n dJ9_floorMod_7cf53_10 rfl rfl ?_
    refine g_if_eq (tgt := 18) dJ9_floorMod_7cf53_11 (by decide) (fun c11 => ?_) (fun c11 => ?_)
    · refine gs_iload_n dJ9_floorMod_7cf53_18 rfl rfl ?_
      refine g_ireturn dJ9_floorMod_7cf53_19 rfl ?_
      exact ⟨_, rfl, by unfold fmv fmOf; rw [c11]; exact (if_pos (by decide)).symm, rfl⟩
    · refine gs_iload_n dJ9_floorMod_7cf53_14 rfl rfl ?_
      refine gs_iload_n dJ9_floorMod_7cf53_15 rfl rfl ?_
      refine g_iadd dJ9_floorMod_7cf53_16 rfl ?_
      refine g_ireturn dJ9_floorMod_7cf53_17 rfl ?_
      exact ⟨_, rfl, by unfold fmv fmOf; rw [if_neg (fun h => c11 (hs.2 c8 h))], rfl⟩
theorem s_mod {Ω : Nat × Nat} {σ : Mm} {x y : Int32} (hy : 0 < y.toInt) : RI Ω mX12_mod [.int x, .int y] σ (fun r τ => r = fmv x y ∧ τ = σ) := by
  have hy0 : ¬ y = 0 := fun h => by rw [h] at hy; exact absurd hy (by decide)
  refine G.met (by decide) (Nat.le_of_ble_eq_true rfl) ?_
  show G _ _ _ 0 [some (.int x), some (.int y), none] [] σ
  refine gs_iload_n dX12_mod_0 rfl rfl ?_
  refine gs_iload_n dX12_mod_1 rfl rfl ?_
  refine g_irem dX12_mod_2 hy0 rfl ?_
  refine gs_istore_n (ls' := [_, _, _]) dX12_mod_3 rfl rfl rfl ?_
  refine gs_iload_n dX12_mod_4 rfl rfl ?_
  refine g_if_ge (tgt := 14) dX12_mod_5 (by decide) (fun c5 => ?_) (fun c5 => ?_)
  · refine gs_iload_n dX12_mod_14 rfl rfl ?_
    refine g_ireturn dX12_mod_15 rfl ?_
    exact ⟨_, rfl, by unfold fmv fmOf; rw [if_pos c5], rfl⟩
  · refine gs_iload_n dX12_mod_8 rfl rfl ?_
    refine gs_iload_n dX12_mod_9 rfl rfl ?_
    refine g_iadd dX12_mod_10 rfl ?_
    refine g_goto (tgt := 15) dX12_mod_11 (by decide) ?_
    refine g_ireturn dX12_mod_15 rfl ?_
    exact ⟨_, rfl, by unfold fmv fmOf; rw [if_neg c5], rfl⟩
