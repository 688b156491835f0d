/-! The reference: isPlaced, where. -/
theorem Q_lies1 {w : Nat} {σ0 σ : Mm} {S : Sx} (h : Mq w σ0 S σ) {i : Nat} (hi : i < 20) {nd : Nat} : Mq w σ0 (setN S 24 i (nd + 1)) (wI σ 279 (20 * w + i) (nI nd)) := by
  have q := Q_lies h hi (v := nd + 1)
  rwa [lzM_s (by omega), Nat.add_sub_cancel] at q
def fcS (S : Sx) (a : Nat) : Nat := if S.1 20 0 = 0 then a else if S.1 20 0 = 1 then S.1 23 0 % S.1 0 0 else emS S (S.1 0 0 - 1)
def nrS (S : Sx) (n : Nat) : Nat → Nat → Option Nat
  | 0, _ => none
  | k + 1, nd => if hrS S nd = true then some nd else nrS S n k ((nd + 1) % n)
def plO (S : Sx) (p a : Nat) : Option Nat := if S.1 8 p = 2 then (if arS S (S.1 0 0) = true then some (fcS S a) else none) else nrS S (S.1 0 0) (S.1 0 0) (fcS S a)
def plSt (S : Sx) (p nd : Nat) : Sx := setN (setN S 23 0 (S.1 23 0 + (if S.1 20 0 = 1 then 1 else 0))) 24 p (nd + 1)
theorem fcS_lt {S : Sx} {a : Nat} (hn : 2 ≤ S.1 0 0) (ha : a < S.1 0 0) : fcS S a < S.1 0 0 := by
  unfold fcS
  split
  · exact ha
  · split
    · exact Nat.mod_lt _ (by omega)
    · have := emS_le S (S.1 0 0 - 1); omega
theorem nrS_lt {S : Sx} {n : Nat} (hn : 0 < n) : ∀ k nd nd', nd < n → nrS S n k nd = some nd' → nd' < n := by
  intro k
  induction k with
  | zero => intro nd nd' h q; cases q
  | succ k ih =>
    intro nd nd' h q
    simp only [nrS] at q
    split at q
    · cases q; exact h
    · exact ih _ _ (Nat.mod_lt _ hn) q
theorem plO_lt {S : Sx} {p a nd : Nat} (hn : 2 ≤ S.1 0 0) (ha : a < S.1 0 0) (h : plO S p a = some nd) : nd < S.1 0 0 := by
  unfold plO at h
  split at h
  · split at h
    · cases h; exact fcS_lt hn ha
    · cases h
  · exact nrS_lt (by omega) _ _ _ (fcS_lt hn ha) h

theorem e_isPlaced {w : Nat} {σ : Mm} {S : Sx} {K : Option Value → Mm → Prop} (hM : RepM w σ S) (hB : Bd S) (hC0 : hC w σ) {p a nd : Nat} (hp : p < 20) (hnd : nd < 4) (hK : ∀ τ, Mq w σ (plSt S p nd) τ → K (some (.int (bI true))) τ) : G W0 mX12_isPlaced K 104 [some (.ref 258), some (.int (nI p)), some (.int (nI a)), some (.int (nI nd)), none] [] σ := by
  have b0 := B_turns hB 0
  have b1 := B_placing hB 0
  have hw := hC0.1
  have hQ := Mq.rf hM hC0
  refine gs_aload_n dX12_isPlaced_104 rfl rfl ?_
  refine g_getR dX12_isPlaced_105 fX12_57 kwM (by decide) rM_turns ?_
  refine gs_aload_n dX12_isPlaced_108 rfl rfl ?_
  refine g_getI dX12_isPlaced_109 fX12_243 kwM (by decide) hC0.2 ?_
  refine g_dup2 dX12_isPlaced_112 rfl rfl ?_
  refine g_iald dX12_isPlaced_113 kw_turns (by omega) (M_turns hM) ?_
  refine gs_aload_n dX12_isPlaced_114 rfl rfl ?_
  refine g_getR dX12_isPlaced_115 fX12_45 kwM (by decide) rM_placing ?_
  refine gs_aload_n dX12_isPlaced_118 rfl rfl ?_
  refine g_getI dX12_isPlaced_119 fX12_243 kwM (by decide) hC0.2 ?_
  refine g_iald dX12_isPlaced_122 kw_placing (by omega) (M_placing hM) ?_
  refine g_iconst (v := nI 1) dX12_isPlaced_123 (by decide) ?_
  refine gn_icmp_ne (tgt := 131) dX12_isPlaced_124 (by decide) (by omega) (by omega) (fun c124 => ?_) (fun c124 => ?_)
  · refine g_iconst (v := nI 0) dX12_isPlaced_131 (by decide) ?_
    refine g_iadd dX12_isPlaced_132 (by first | exact nI_add _ _ | rfl) ?_
    refine gq_iast dX12_isPlaced_133 kw_turns (by omega) (Q_turns hQ) (fun σ hQ => ?_)
    have hM := hQ.1
    have hC0 := hQ.2.1
    refine gs_aload_n dX12_isPlaced_134 rfl rfl ?_
    refine g_getR dX12_isPlaced_135 fX12_79 kwM (by decide) rM_lies ?_
    refine g_bipush (v := nI 20) dX12_isPlaced_138 (by decide) ?_
    refine gs_aload_n dX12_isPlaced_140 rfl rfl ?_
    refine g_getI dX12_isPlaced_141 fX12_243 kwM (by decide) hC0.2 ?_
    refine g_imul dX12_isPlaced_144 (by first | exact pk_mul _ _ | rfl) ?_
    refine gs_iload_n dX12_isPlaced_145 rfl rfl ?_
    refine g_iadd dX12_isPlaced_146 (by first | exact nI_add _ _ | rfl) ?_
    refine gs_iload_n dX12_isPlaced_147 rfl rfl ?_
    refine gq_iast dX12_isPlaced_148 kw_lies (by omega) (Q_lies1 hQ hp) (fun σ hQ => ?_)
    have hM := hQ.1
    have hC0 := hQ.2.1
    refine g_iconst (v := nI 1) dX12_isPlaced_149 (by decide) ?_
    refine g_zreturn dX12_isPlaced_150 rfl (by first | exact bI_01 _ | decide) ?_
    have e : plSt S p nd = setN (setN S 23 0 (S.1 23 0 + 0)) 24 p (nd + 1) := by simp only [plSt, c124, if_false]
    rw [← e] at hQ
    exact hK _ hQ
  · refine g_iconst (v := nI 1) dX12_isPlaced_127 (by decide) ?_
    refine g_goto (tgt := 132) dX12_isPlaced_128 (by decide) ?_
    refine g_iadd dX12_isPlaced_132 (by first | exact nI_add _ _ | rfl) ?_
    refine gq_iast dX12_isPlaced_133 kw_turns (by omega) (Q_turns hQ) (fun σ hQ => ?_)
    have hM := hQ.1
    have hC0 := hQ.2.1
    refine gs_aload_n dX12_isPlaced_134 rfl rfl ?_
    refine g_getR dX12_isPlaced_135 fX12_79 kwM (by decide) rM_lies ?_
    refine g_bipush (v := nI 20) dX12_isPlaced_138 (by decide) ?_
    refine gs_aload_n dX12_isPlaced_140 rfl rfl ?_
    refine g_getI dX12_isPlaced_141 fX12_243 kwM (by decide) hC0.2 ?_
    refine g_imul dX12_isPlaced_144 (by first | exact pk_mul _ _ | rfl) ?_
    refine gs_iload_n dX12_isPlaced_145 rfl rfl ?_
    refine g_iadd dX12_isPlaced_146 (by first | exact nI_add _ _ | rfl) ?_
    refine gs_iload_n dX12_isPlaced_147 rfl rfl ?_
    refine gq_iast dX12_isPlaced_148 kw_lies (by omega) (Q_lies1 hQ hp) (fun σ hQ => ?_)
    have hM := hQ.1
    have hC0 := hQ.2.1
    refine g_iconst (v := nI 1) dX12_isPlaced_149 (by decide) ?_
    refine g_zreturn dX12_isPlaced_150 rfl (by first | exact bI_01 _ | decide) ?_
    have e : plSt S p nd = setN (setN S 23 0 (S.1 23 0 + 1)) 24 p (nd + 1) := by simp only [plSt, c124, if_true]
    rw [← e] at hQ
    exact hK _ hQ
theorem l_isPlaced {w : Nat} {σ : Mm} {S : Sx} {K : Option Value → Mm → Prop} (hM : RepM w σ S) (hB : Bd S) (hC0 : hC w σ) {p a : Nat} (hp : p < 20) (hn : 2 ≤ S.1 0 0) (hK : ∀ nd, nd < S.1 0 0 → nrS S (S.1 0 0) (S.1 0 0) (fcS S a) = some nd → ∀ τ, Mq w σ (plSt S p nd) τ → K (some (.int (bI true))) τ) (hN : nrS S (S.1 0 0) (S.1 0 0) (fcS S a) = none → K (some (.int (bI false))) σ) : ∀ k nd tr, tr + (k + 1) = S.1 0 0 → nd < S.1 0 0 → nrS S (S.1 0 0) (k + 1) nd = nrS S (S.1 0 0) (S.1 0 0) (fcS S a) → G W0 mX12_isPlaced K 73 [some (.ref 258), some (.int (nI p)), some (.int (nI a)), some (.int (nI nd)), some (.int (nI tr))] [] σ := by
  have b0 := B_nodes hB 0
  have hw := hC0.1
  intro k
  induction k with
  | zero =>
    intro nd tr ht hnd he
    refine gs_aload_n dX12_isPlaced_73 rfl rfl ?_
    refine gs_iload_n dX12_isPlaced_74 rfl rfl ?_
    refine g_cVI1 dX12_isPlaced_75 vX12_250 (by decide) kwM (by decide) (Nat.le_of_ble_eq_true rfl) (s_hasRoom hM hB hC0 (by omega)) ?_
    rintro _ _ ⟨rfl, rfl⟩
    refine gb_if_ne (tgt := 104) dX12_isPlaced_78 (by decide) (fun c78 => ?_) (fun c78 => ?_)
    · refine G.drop 4 (ls' := [_, _, _, _, none]) rfl ?_
      exact e_isPlaced hM hB hC0 hp (by omega) (hK nd hnd (by rw [← he]; simp only [nrS, c78, if_true]))
    · refine gs_iload_n dX12_isPlaced_81 rfl rfl ?_
      refine g_iconst (v := nI 1) dX12_isPlaced_82 (by decide) ?_
      refine g_iadd dX12_isPlaced_83 (by first | exact nI_add _ _ | rfl) ?_
      refine gs_aload_n dX12_isPlaced_84 rfl rfl ?_
      refine g_getI dX12_isPlaced_85 fX12_182 kwM (by decide) (M_nodes hM) ?_
      refine g_irem dX12_isPlaced_88 (nI_ne0 (by omega) (by omega)) (pk_rem (by omega) (by omega) (by omega)) ?_
      refine gs_istore_n (ls' := [_, _, _, _, _]) dX12_isPlaced_89 rfl rfl rfl ?_
      refine gs_iinc (ls' := [_, _, _, _, _]) dX12_isPlaced_90 rfl (nI_add _ 1) rfl rfl ?_
      refine g_iload dX12_isPlaced_93 rfl ?_
      refine gs_aload_n dX12_isPlaced_95 rfl rfl ?_
      refine g_getI dX12_isPlaced_96 fX12_182 kwM (by decide) (M_nodes hM) ?_
      refine gf_icmp_ne (tgt := 73) dX12_isPlaced_99 (by decide) (by omega) (by omega) (by omega) ?_
      refine g_iconst (v := nI 0) dX12_isPlaced_102 (by decide) ?_
      refine g_zreturn dX12_isPlaced_103 rfl (by first | exact bI_01 _ | decide) ?_
      exact hN (by rw [← he]; simp [nrS, c78])
  | succ k ih =>
    intro nd tr ht hnd he
    refine gs_aload_n dX12_isPlaced_73 rfl rfl ?_
    refine gs_iload_n dX12_isPlaced_74 rfl rfl ?_
    refine g_cVI1 dX12_isPlaced_75 vX12_250 (by decide) kwM (by decide) (Nat.le_of_ble_eq_true rfl) (s_hasRoom hM hB hC0 (by omega)) ?_
    rintro _ _ ⟨rfl, rfl⟩
    refine gb_if_ne (tgt := 104) dX12_isPlaced_78 (by decide) (fun c78 => ?_) (fun c78 => ?_)
    · refine G.drop 4 (ls' := [_, _, _, _, none]) rfl ?_
      exact e_isPlaced hM hB hC0 hp (by omega) (hK nd hnd (by rw [← he]; simp only [nrS, c78, if_true]))
    · refine gs_iload_n dX12_isPlaced_81 rfl rfl ?_
      refine g_iconst (v := nI 1) dX12_isPlaced_82 (by decide) ?_
      refine g_iadd dX12_isPlaced_83 (by first | exact nI_add _ _ | rfl) ?_
      refine gs_aload_n dX12_isPlaced_84 rfl rfl ?_
      refine g_getI dX12_isPlaced_85 fX12_182 kwM (by decide) (M_nodes hM) ?_
      refine g_irem dX12_isPlaced_88 (nI_ne0 (by omega) (by omega)) (pk_rem (by omega) (by omega) (by omega)) ?_
      refine gs_istore_n (ls' := [_, _, _, _, _]) dX12_isPlaced_89 rfl rfl rfl ?_
      refine gs_iinc (ls' := [_, _, _, _, _]) dX12_isPlaced_90 rfl (nI_add _ 1) rfl rfl ?_
      refine g_iload dX12_isPlaced_93 rfl ?_
      refine gs_aload_n dX12_isPlaced_95 rfl rfl ?_
      refine g_getI dX12_isPlaced_96 fX12_182 kwM (by decide) (M_nodes hM) ?_
      refine gt_icmp_ne (tgt := 73) dX12_isPlaced_99 (by decide) (by omega) (by omega) (by omega) ?_
      exact ih _ _ (by omega) (Nat.mod_lt _ (by omega)) (by rw [← he, show nrS S (S.1 0 0) (k + 1 + 1) nd = nrS S (S.1 0 0) (k + 1) ((nd + 1) % S.1 0 0) from if_neg (by simp [c78])])
theorem j_isPlaced {w : Nat} {σ : Mm} {S : Sx} (hM : RepM w σ S) (hB : Bd S) (hC0 : hC w σ) {p a : Nat} (hp : p < 20) (hn : 2 ≤ S.1 0 0) (ha : a < S.1 0 0) : G W0 mX12_isPlaced (fun v τ => ∃ r : Int32, v = some (.int r) ∧ (fun r τ => (∃ nd, plO S p a = some nd ∧ r = bI true ∧ Mq w σ (plSt S p nd) τ) ∨ (plO S p a = none ∧ r = bI false ∧ τ = σ)) r τ) 50 [some (.ref 258), some (.int (nI p)), some (.int (nI a)), none, none] [.int (nI (fcS S a))] σ := by
  have b0 := B_nodes hB 0
  have hw := hC0.1
  have hf := fcS_lt hn ha
  have b1 := B_kind hB p
  refine gs_istore_n (ls' := [_, _, _, _, _]) dX12_isPlaced_50 rfl rfl rfl ?_
  refine gs_aload_n dX12_isPlaced_51 rfl rfl ?_
  refine g_getR dX12_isPlaced_52 fX12_19 kwM (by decide) rM_kind ?_
  refine gs_iload_n dX12_isPlaced_55 rfl rfl ?_
  refine g_iald dX12_isPlaced_56 kw_kind (by omega) (M_kind hM (by omega)) ?_
  refine g_iconst (v := nI 2) dX12_isPlaced_57 (by decide) ?_
  refine gn_icmp_ne (tgt := 70) dX12_isPlaced_58 (by decide) (by omega) (by omega) (fun c58 => ?_) (fun c58 => ?_)
  · refine g_iconst (v := nI 0) dX12_isPlaced_70 (by decide) ?_
    refine gs_istore (ls' := [_, _, _, _, _]) dX12_isPlaced_71 rfl rfl ?_
    have hpo : plO S p a = nrS S (S.1 0 0) (S.1 0 0) (fcS S a) := by simp only [plO, c58, if_false]
    exact l_isPlaced hM hB hC0 hp hn (fun nd hnd he τ hτ => ⟨_, rfl, Or.inl ⟨nd, hpo.trans he, rfl, hτ⟩⟩) (fun he => ⟨_, rfl, Or.inr ⟨hpo.trans he, rfl, rfl⟩⟩) (S.1 0 0 - 1) _ 0 (by omega) hf (by rw [Nat.sub_add_cancel (by omega)])
  · refine gs_aload_n dX12_isPlaced_61 rfl rfl ?_
    refine g_cVI0 dX12_isPlaced_62 vX12_256 (by decide) kwM (by decide) (Nat.le_of_ble_eq_true rfl) (s_allHaveRoom hM hB hC0) ?_
    rintro _ _ ⟨rfl, rfl⟩
    refine gb_if_ne (tgt := 104) dX12_isPlaced_65 (by decide) (fun c65 => ?_) (fun c65 => ?_)
    · exact e_isPlaced hM hB hC0 hp (by omega) (fun τ hτ => ⟨_, rfl, Or.inl ⟨_, by simp only [plO, c58, c65, if_true], rfl, hτ⟩⟩)
    · refine g_iconst (v := nI 0) dX12_isPlaced_68 (by decide) ?_
      refine g_zreturn dX12_isPlaced_69 rfl (by first | exact bI_01 _ | decide) ?_
      exact ⟨_, rfl, Or.inr ⟨by simp [plO, c58, c65], rfl, rfl⟩⟩
theorem s_isPlaced {w : Nat} {σ : Mm} {S : Sx} (hM : RepM w σ S) (hB : Bd S) (hC0 : hC w σ) {p a : Nat} (hp : p < 20) (hn : 2 ≤ S.1 0 0) (ha : a < S.1 0 0) : RI W0 mX12_isPlaced [.ref 258, .int (nI p), .int (nI a)] σ (fun r τ => (∃ nd, plO S p a = some nd ∧ r = bI true ∧ Mq w σ (plSt S p nd) τ) ∨ (plO S p a = none ∧ r = bI false ∧ τ = σ)) := by
  have b0 := B_nodes hB 0
  have hw := hC0.1
  have b1 := B_placing hB 0
  have b2 := B_turns hB 0
  refine G.met (by decide) (Nat.le_of_ble_eq_true rfl) ?_
  show G _ _ _ 0 [some (.ref 258), some (.int (nI p)), some (.int (nI a)), none, none] [] σ
  refine gs_aload_n dX12_isPlaced_0 rfl rfl ?_
  refine g_getR dX12_isPlaced_1 fX12_45 kwM (by decide) rM_placing ?_
  refine gs_aload_n dX12_isPlaced_4 rfl rfl ?_
  refine g_getI dX12_isPlaced_5 fX12_243 kwM (by decide) hC0.2 ?_
  refine g_iald dX12_isPlaced_8 kw_placing (by omega) (M_placing hM) ?_
  refine gn_if_ne (tgt := 16) dX12_isPlaced_9 (by decide) (by omega) (fun c9 => ?_) (fun c9 => ?_)
  · refine gs_aload_n dX12_isPlaced_16 rfl rfl ?_
    refine g_getR dX12_isPlaced_17 fX12_45 kwM (by decide) rM_placing ?_
    refine gs_aload_n dX12_isPlaced_20 rfl rfl ?_
    refine g_getI dX12_isPlaced_21 fX12_243 kwM (by decide) hC0.2 ?_
    refine g_iald dX12_isPlaced_24 kw_placing (by omega) (M_placing hM) ?_
    refine g_iconst (v := nI 1) dX12_isPlaced_25 (by decide) ?_
    refine gn_icmp_ne (tgt := 46) dX12_isPlaced_26 (by decide) (by omega) (by omega) (fun c26 => ?_) (fun c26 => ?_)
    · refine gs_aload_n dX12_isPlaced_46 rfl rfl ?_
      refine g_cVI0 dX12_isPlaced_47 vX12_260 (by decide) kwM (by decide) (Nat.le_of_ble_eq_true rfl) (s_emptiest hM hB hC0 hn) ?_
      rintro _ _ ⟨rfl, rfl⟩
      have q := j_isPlaced hM hB hC0 hp hn ha
      rw [show fcS S a = emS S (S.1 0 0 - 1) from by rw [fcS, if_neg (by omega), if_neg c26]] at q
      exact q
    · refine gs_aload_n dX12_isPlaced_29 rfl rfl ?_
      refine g_getR dX12_isPlaced_30 fX12_57 kwM (by decide) rM_turns ?_
      refine gs_aload_n dX12_isPlaced_33 rfl rfl ?_
      refine g_getI dX12_isPlaced_34 fX12_243 kwM (by decide) hC0.2 ?_
      refine g_iald dX12_isPlaced_37 kw_turns (by omega) (M_turns hM) ?_
      refine gs_aload_n dX12_isPlaced_38 rfl rfl ?_
      refine g_getI dX12_isPlaced_39 fX12_182 kwM (by decide) (M_nodes hM) ?_
      refine g_irem dX12_isPlaced_42 (nI_ne0 (by omega) (by omega)) (pk_rem (by omega) (by omega) (by omega)) ?_
      refine g_goto (tgt := 50) dX12_isPlaced_43 (by decide) ?_
      have q := j_isPlaced hM hB hC0 hp hn ha
      rw [show fcS S a = S.1 23 0 % S.1 0 0 from by rw [fcS, if_neg (by omega), if_pos c26]] at q
      exact q
  · refine gs_iload_n dX12_isPlaced_12 rfl rfl ?_
    refine g_goto (tgt := 50) dX12_isPlaced_13 (by decide) ?_
    have q := j_isPlaced hM hB hC0 hp hn ha
    rw [show fcS S a = a from by simp only [fcS, c9, if_true]] at q
    exact q
/-- where cell c of page p lies for node a -/
def whS (S : Sx) (p c a : Nat) : Nat := if S.1 8 p = 2 then (c + (S.1 24 p - 1)) % S.1 0 0 else if S.1 8 p = 1 ∧ bt (S.1 25 p) a = 1 then a else S.1 24 p - 1
theorem s_where {w : Nat} {σ : Mm} {S : Sx} (hM : RepM w σ S) (hB : Bd S) (hC0 : hC w σ) {p c a : Nat} (hp : p < 20) (hc : c < 4) (ha : a < 4) (hn : 2 ≤ S.1 0 0) (hl : 0 < S.1 24 p) : RI W0 mX12_where [.ref 258, .int (nI p), .int (nI c), .int (nI a)] σ (fun r τ => r = nI (whS S p c a) ∧ τ = σ) := by
  have b0 := B_nodes hB 0
  have hw := hC0.1
  have b1 := B_kind hB p
  have b2 := B_copies hB p
  have b3 := B_lies hB p
  have b4 := bt_le (S.1 25 p) a
  refine G.met (by decide) (Nat.le_of_ble_eq_true rfl) ?_
  show G _ _ _ 0 [some (.ref 258), some (.int (nI p)), some (.int (nI c)), some (.int (nI a)), none] [] σ
  refine g_bipush (v := nI 20) dX12_where_0 (by decide) ?_
  refine gs_aload_n dX12_where_2 rfl rfl ?_
  refine g_getI dX12_where_3 fX12_243 kwM (by decide) hC0.2 ?_
  refine g_imul dX12_where_6 (by first | exact pk_mul _ _ | rfl) ?_
  refine gs_iload_n dX12_where_7 rfl rfl ?_
  refine g_iadd dX12_where_8 (by first | exact nI_add _ _ | rfl) ?_
  refine gs_istore (ls' := [_, _, _, _, _]) dX12_where_9 rfl rfl ?_
  refine gs_aload_n dX12_where_11 rfl rfl ?_
  refine g_getR dX12_where_12 fX12_19 kwM (by decide) rM_kind ?_
  refine gs_iload_n dX12_where_15 rfl rfl ?_
  refine g_iald dX12_where_16 kw_kind (by omega) (M_kind hM (by omega)) ?_
  refine g_iconst (v := nI 2) dX12_where_17 (by decide) ?_
  refine gn_icmp_ne (tgt := 36) dX12_where_18 (by decide) (by omega) (by omega) (fun c18 => ?_) (fun c18 => ?_)
  · refine gs_aload_n dX12_where_36 rfl rfl ?_
    refine g_getR dX12_where_37 fX12_19 kwM (by decide) rM_kind ?_
    refine gs_iload_n dX12_where_40 rfl rfl ?_
    refine g_iald dX12_where_41 kw_kind (by omega) (M_kind hM (by omega)) ?_
    refine g_iconst (v := nI 1) dX12_where_42 (by decide) ?_
    refine gn_icmp_ne (tgt := 65) dX12_where_43 (by decide) (by omega) (by omega) (fun c43 => ?_) (fun c43 => ?_)
    · refine gs_aload_n dX12_where_65 rfl rfl ?_
      refine g_getR dX12_where_66 fX12_79 kwM (by decide) rM_lies ?_
      refine g_iload dX12_where_69 rfl ?_
      refine g_iald dX12_where_71 kw_lies (by omega) ((M_lies hM (by omega)).trans (lzM_s hl)) ?_
      refine g_ireturn dX12_where_72 rfl ?_
      exact ⟨_, rfl, by rw [whS, if_neg c18, if_neg (fun q => c43 q.1)], rfl⟩
    · refine gs_aload_n dX12_where_46 rfl rfl ?_
      refine g_getR dX12_where_47 fX12_82 kwM (by decide) rM_copies ?_
      refine g_iload dX12_where_50 rfl ?_
      refine g_iald dX12_where_52 kw_copies (by omega) (M_copies hM (by omega)) ?_
      refine gs_iload_n dX12_where_53 rfl rfl ?_
      refine g_ishr dX12_where_54 rfl ?_
      refine g_iconst (v := nI 1) dX12_where_55 (by decide) ?_
      refine g_iand dX12_where_56 (bt_eq b2 ha) ?_
      refine g_iconst (v := nI 1) dX12_where_57 (by decide) ?_
      refine gn_icmp_ne (tgt := 65) dX12_where_58 (by decide) (by omega) (by omega) (fun c58 => ?_) (fun c58 => ?_)
      · refine gs_aload_n dX12_where_65 rfl rfl ?_
        refine g_getR dX12_where_66 fX12_79 kwM (by decide) rM_lies ?_
        refine g_iload dX12_where_69 rfl ?_
        refine g_iald dX12_where_71 kw_lies (by omega) ((M_lies hM (by omega)).trans (lzM_s hl)) ?_
        refine g_ireturn dX12_where_72 rfl ?_
        exact ⟨_, rfl, by rw [whS, if_neg c18, if_neg (fun q => c58 q.2)], rfl⟩
      · refine gs_iload_n dX12_where_61 rfl rfl ?_
        refine g_goto (tgt := 72) dX12_where_62 (by decide) ?_
        refine g_ireturn dX12_where_72 rfl ?_
        exact ⟨_, rfl, by rw [whS, if_neg c18, if_pos ⟨c43, c58⟩], rfl⟩
  · refine gs_iload_n dX12_where_21 rfl rfl ?_
    refine gs_aload_n dX12_where_22 rfl rfl ?_
    refine g_getR dX12_where_23 fX12_79 kwM (by decide) rM_lies ?_
    refine g_iload dX12_where_26 rfl ?_
    refine g_iald dX12_where_28 kw_lies (by omega) ((M_lies hM (by omega)).trans (lzM_s hl)) ?_
    refine g_iadd dX12_where_29 (by first | exact nI_add _ _ | rfl) ?_
    refine gs_aload_n dX12_where_30 rfl rfl ?_
    refine g_getI dX12_where_31 fX12_182 kwM (by decide) (M_nodes hM) ?_
    refine g_irem dX12_where_34 (nI_ne0 (by omega) (by omega)) (pk_rem (by omega) (by omega) (by omega)) ?_
    refine g_ireturn dX12_where_35 rfl ?_
    exact ⟨_, rfl, by rw [whS, if_pos c18], rfl⟩
