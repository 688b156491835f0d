/-! best. -/
def lsF (f : Nat → Nat) : Nat → Nat
  | 0 => 1000000
  | a + 1 => min (lsF f a) (f a)
def stp (S : Sx) (f : Nat → Nat) (nd a : Nat) : Nat := if rcS S nd a = true ∧ min (f a) (lsF f (S.1 0 0) + S.1 15 0) < 1000000 then min (f a) (lsF f (S.1 0 0) + S.1 15 0) + 1 + 2 * S.1 5 (4 * nd + a) else 1000000
def bsF (S : Sx) (x : Int32) : Nat → Nat → Nat
  | 0 => fun _ => 0
  | i + 1 => if S.2.1 16 (10 * i + 3) = x then stp S (bsF S x i) (nN (S.2.1 16 (10 * i + 2))) else bsF S x i
def Fb (M : Nat) (f : Nat → Nat) : Prop := ∀ a, f a ≤ 1000000 ∧ (f a < 1000000 → f a ≤ M)
theorem lsF_le {f : Nat → Nat} {M : Nat} (h : Fb M f) (n : Nat) : lsF f n ≤ 1000000 ∧ (lsF f n < 1000000 → lsF f n ≤ M) := by
  induction n with
  | zero => exact ⟨Nat.le_refl _, fun z => absurd z (Nat.lt_irrefl _)⟩
  | succ n ih =>
    have q := h n
    rw [lsF]
    rcases Nat.le_total (lsF f n) (f n) with z | z
    · rw [Nat.min_eq_left z]; exact ih
    · rw [Nat.min_eq_right z]; exact q
theorem lsF_lt {f : Nat → Nat} {a : Nat} : ∀ n, a < n → lsF f n ≤ f a := by
  intro n
  induction n with
  | zero => intro z; omega
  | succ n ih =>
    intro z
    rw [lsF]
    rcases Nat.lt_or_ge a n with q | q
    · exact Nat.le_trans (Nat.min_le_left _ _) (ih q)
    · rw [show a = n from by omega]; exact Nat.min_le_right _ _
theorem Fb_s {S : Sx} (hB : Bd S) {f : Nat → Nat} {M nd : Nat} (h : Fb M f) (hM : M ≤ 900000) : Fb (M + 2100) (stp S f nd) := by
  intro a
  have b15 := B_movePrice hB 0
  have h1 := h a
  have h2 := lsF_le h (S.1 0 0)
  unfold stp
  split
  · next q =>
    have h3 : S.1 5 (4 * nd + a) < 1000 := by simpa [rcS] using q.1
    have h4 := q.2
    rcases Nat.le_total (f a) (lsF f (S.1 0 0) + S.1 15 0) with z | z
    · rw [Nat.min_eq_left z] at h4 ⊢; omega
    · rw [Nat.min_eq_right z] at h4 ⊢; omega
  · omega
theorem Fb_b {S : Sx} (hB : Bd S) (x : Int32) : ∀ i, i ≤ 300 → Fb (2100 * i) (bsF S x i) := by
  intro i
  induction i with
  | zero => intro _ a; exact ⟨Nat.zero_le _, fun _ => Nat.zero_le _⟩
  | succ i ih =>
    intro hi
    have q := ih (by omega)
    rw [bsF]
    split
    · have z := Fb_s (M := 2100 * i) (nd := nN (S.2.1 16 (10 * i + 2))) hB q (by omega)
      rw [show 2100 * (i + 1) = 2100 * i + 2100 from by omega]
      exact z
    · intro a; have := q a; omega
def aBest (S : Sx) (x : Int32) : Int32 := if inN x (S.1 7 0) = true then (if lsF (bsF S x (S.1 34 0)) (S.1 0 0) < 1000000 then nI (lsF (bsF S x (S.1 34 0)) (S.1 0 0)) else -2) else -1
-- the class
def eN (v : Nat) : Nat := if v < 1000000 then v else 536870912
theorem eN_c (v : Nat) : (v < 1000000 ∧ eN v = v) ∨ (1000000 ≤ v ∧ eN v = 536870912) := by
  unfold eN
  rcases Nat.lt_or_ge v 1000000 with h | h
  · exact Or.inl ⟨h, if_pos h⟩
  · exact Or.inr ⟨h, if_neg (by omega)⟩
theorem eN_min {x y : Nat} (hx : x ≤ 1000000) (hy : y ≤ 1000000) : min (eN x) (eN y) = eN (min x y) := by
  rcases Nat.le_total x y with z | z
  · rw [Nat.min_eq_left z]
    refine Nat.min_eq_left ?_
    rcases eN_c x with a | a <;> rcases eN_c y with b | b <;> omega
  · rw [Nat.min_eq_right z]
    refine Nat.min_eq_right ?_
    rcases eN_c x with a | a <;> rcases eN_c y with b | b <;> omega
theorem eN_le {v : Nat} : eN v ≤ 536870912 := by rcases eN_c v with a | a <;> omega
def Sc72 (n : Nat) (f : Nat → Nat) (σ : Mm) : Prop := ∀ a, a < n → σ.1 72 a = nI (eN (f a))
theorem cl_least2 {σ : Mm} {n M : Nat} {f : Nat → Nat} {K : Option Value → Mm → Prop} (hn : n ≤ 4) (hf : Fb M f) (hs : Sc72 n f σ) (hK : K (some (.int (nI (eN (lsF f n))))) σ) : ∀ k a, a + k = n → G W0 mX2_leastOf K 5 [some (.ref (57 + 14)), some (.int (nI n)), some (.int (nI (eN (lsF f a)))), some (.int (nI a))] [] σ := by
  have hb : mch 57 := Or.inl rfl
  intro k
  induction k with
  | zero =>
    intro a ha
    have e : a = n := by omega
    refine gs_iload_n dX2_leastOf_5 rfl rfl ?_
    refine gs_iload_n dX2_leastOf_6 rfl rfl ?_
    refine gt_icmp_ge (tgt := 27) dX2_leastOf_7 (by decide) (by omega) (by omega) (by omega) ?_
    refine gs_iload_n dX2_leastOf_27 rfl rfl ?_
    refine g_ireturn dX2_leastOf_28 rfl ?_
    rw [← e] at hK
    exact hK
  | succ k ih =>
    intro a ha
    have e1 := @eN_le (lsF f a)
    have e2 := @eN_le (f a)
    refine gs_iload_n dX2_leastOf_5 rfl rfl ?_
    refine gs_iload_n dX2_leastOf_6 rfl rfl ?_
    refine gf_icmp_ge (tgt := 27) dX2_leastOf_7 (by decide) (by omega) (by omega) (by omega) ?_
    refine gs_iload_n dX2_leastOf_10 rfl rfl ?_
    refine gs_aload_n dX2_leastOf_11 rfl rfl ?_
    refine g_getR dX2_leastOf_12 fX2_9 (kMa_journal hb) (by decide) (rJo_sums hb) ?_
    refine gs_iload_n dX2_leastOf_15 rfl rfl ?_
    refine g_iald dX2_leastOf_16 (kJo_sums hb) (by omega) (hs a (by omega)) ?_
    refine g_mmin dX2_leastOf_17 mmLX2_84 (by decide) (Nat.le_of_ble_eq_true rfl) (show _ = nI (eN (lsF f (a + 1))) from by rw [nI_min (by omega) (by omega), eN_min (lsF_le hf a).1 (hf a).1]; rfl) ?_
    refine gs_istore_n (ls' := [_, _, _, _]) dX2_leastOf_20 rfl rfl rfl ?_
    refine gs_iinc (ls' := [_, _, _, _]) dX2_leastOf_21 rfl (nI_add _ 1) rfl rfl ?_
    refine g_goto (tgt := 5) dX2_leastOf_24 (by decide) ?_
    exact ih (a + 1) (by omega)
theorem r_leastOf {σ : Mm} {n M : Nat} {f : Nat → Nat} (hn : n ≤ 4) (hf : Fb M f) (hs : Sc72 n f σ) : RI W0 mX2_leastOf [.ref (57 + 14), .int (nI n)] σ (fun r τ => r = nI (eN (lsF f n)) ∧ τ = σ) := by
  refine G.met (by decide) (Nat.le_of_ble_eq_true rfl) ?_
  show G _ _ _ 0 [some (.ref (57 + 14)), some (.int (nI n)), none, none] [] σ
  refine g_ldc dX2_leastOf_0 qnX2_93 ?_
  refine gs_istore_n (ls' := [_, _, _, _]) dX2_leastOf_2 rfl rfl rfl ?_
  refine g_iconst (v := nI 0) dX2_leastOf_3 (by decide) ?_
  refine gs_istore_n (ls' := [_, _, _, _]) dX2_leastOf_4 rfl rfl rfl ?_
  exact cl_least2 hn hf hs ⟨_, rfl, rfl, rfl⟩ n 0 (by omega)
def mxF (f g : Nat → Nat) (k : Nat) : Nat → Nat := fun a => if a < k then g a else f a
theorem can_c {fa l mp : Nat} (h1 : fa ≤ 1000000) (h2 : l ≤ fa) (h3 : l < 1000000 → l ≤ 900000) (hm : mp ≤ 50) : (min (eN fa) (eN l + mp) < 536870912 ↔ min fa (l + mp) < 1000000) ∧ (min fa (l + mp) < 1000000 → min (eN fa) (eN l + mp) = min fa (l + mp)) := by
  rcases eN_c fa with a | a <;> rcases eN_c l with b | b <;> rcases Nat.le_total (eN fa) (eN l + mp) with c | c <;> rcases Nat.le_total fa (l + mp) with d | d <;> (first | rw [Nat.min_eq_left c] | rw [Nat.min_eq_right c]) <;> (first | rw [Nat.min_eq_left d] | rw [Nat.min_eq_right d]) <;> omega
theorem cl_add {σ0 : Mm} {S : Sx} {Tf : Nat → Nat} {K : Option Value → Mm → Prop} (hR0 : RepC 57 σ0 S Tf) (hB : Bd S) {f : Nat → Nat} {M nd : Nat} (hf : Fb M f) (hM : M ≤ 700000) (hnd : nd < S.1 0 0) (hK : ∀ τ, fx σ0 τ → Sc72 (S.1 0 0) (stp S f nd) τ → K none τ) : ∀ k a σ, a + k = S.1 0 0 → fx σ0 σ → Sc72 (S.1 0 0) (mxF f (stp S f nd) a) σ → G W0 mX2_addAccess K 15 [some (.ref (57 + 14)), some (.int (nI nd)), some (.ref 1), some (.int (nI (S.1 15 0))), some (.int (nI (eN (lsF f (S.1 0 0)) + S.1 15 0))), some (.int (nI a)), none, none] [] σ := by
  have hb : mch 57 := Or.inl rfl
  have b0 := B_nodes hB 0
  have b15 := B_movePrice hB 0
  intro k
  induction k with
  | zero =>
    intro a σ ha hx hs
    have hR := hR0.fx hB hx
    refine g_iload dX2_addAccess_15 rfl ?_
    refine gs_aload_n dX2_addAccess_17 rfl rfl ?_
    refine g_getI dX2_addAccess_18 fX2_75 bdW0.1 (by decide) (C_nodes hR) ?_
    refine gt_icmp_ge (tgt := 99) dX2_addAccess_21 (by decide) (by omega) (by omega) (by omega) ?_
    refine g_return dX2_addAccess_99 rfl ?_
    refine hK σ hx (fun c hc => ?_)
    rw [hs c hc]
    show nI (eN (if c < a then _ else _)) = _
    rw [if_pos (by omega)]
  | succ k ih =>
    intro a σ ha hx hs
    have hR := hR0.fx hB hx
    have han : a < S.1 0 0 := by omega
    have hsa : σ.1 72 a = nI (eN (f a)) := by
      rw [hs a han]
      show nI (eN (if a < a then _ else _)) = _
      rw [if_neg (Nat.lt_irrefl a)]
    have l1 := lsF_le hf (S.1 0 0)
    have l2 := lsF_lt (f := f) (S.1 0 0) han
    have hfa := hf a
    obtain ⟨q1, q2⟩ := can_c (fa := f a) (l := lsF f (S.1 0 0)) (mp := S.1 15 0) hfa.1 l2 (by omega) b15
    have e1 := @eN_le (f a)
    have e2 := @eN_le (lsF f (S.1 0 0))
    have e3 := Nat.min_le_left (eN (f a)) (eN (lsF f (S.1 0 0)) + S.1 15 0)
    have b5 := B_far hB (4 * nd + a)
    have hsm : rcS S nd a = true → min (eN (f a)) (eN (lsF f (S.1 0 0)) + S.1 15 0) < 536870912 → min (eN (f a)) (eN (lsF f (S.1 0 0)) + S.1 15 0) + 1 + 2 * S.1 5 (4 * nd + a) < 1000000 := fun c45 c52 => by
      have h5 : S.1 5 (4 * nd + a) < 1000 := by simpa [rcS] using c45
      have h6 := q1.mp c52
      rw [q2 h6]
      rcases Nat.le_total (f a) (lsF f (S.1 0 0) + S.1 15 0) with z | z
      · rw [Nat.min_eq_left z] at h6 ⊢; omega
      · rw [Nat.min_eq_right z] at h6 ⊢; omega
    refine g_iload dX2_addAccess_15 rfl ?_
    refine gs_aload_n dX2_addAccess_17 rfl rfl ?_
    refine g_getI dX2_addAccess_18 fX2_75 bdW0.1 (by decide) (C_nodes hR) ?_
    refine gf_icmp_ge (tgt := 99) dX2_addAccess_21 (by decide) (by omega) (by omega) (by omega) ?_
    refine gs_aload_n dX2_addAccess_24 rfl rfl ?_
    refine g_getR dX2_addAccess_25 fX2_9 (kMa_journal hb) (by decide) (rJo_sums hb) ?_
    refine g_iload dX2_addAccess_28 rfl ?_
    refine g_iald dX2_addAccess_30 (kJo_sums hb) (by omega) hsa ?_
    refine g_iload dX2_addAccess_31 rfl ?_
    refine g_mmin dX2_addAccess_33 mmLX2_84 (by decide) (Nat.le_of_ble_eq_true rfl) (nI_min (by omega) (by omega)) ?_
    refine gs_istore (ls' := [_, _, _, _, _, _, _, _]) dX2_addAccess_36 rfl rfl ?_
    refine gs_aload_n dX2_addAccess_38 rfl rfl ?_
    refine gs_iload_n dX2_addAccess_39 rfl rfl ?_
    refine g_iload dX2_addAccess_40 rfl ?_
    refine g_cVI2 dX2_addAccess_42 vX2_89 (by decide) bdW0.1 (by decide) (Nat.le_of_ble_eq_true rfl) (c_reaches hb hR hB hnd han) ?_
    rintro _ σ ⟨rfl, e9⟩
    subst e9
    refine gb_if_eq (tgt := 59) dX2_addAccess_45 (by decide) (fun c45 => ?_) (fun c45 => ?_)
    · refine g_iconst (v := nI 0) dX2_addAccess_59 (by decide) ?_
      refine gs_istore (ls' := [_, _, _, _, _, _, _, _]) dX2_addAccess_60 rfl rfl ?_
      refine gs_aload_n dX2_addAccess_62 rfl rfl ?_
      refine g_getR dX2_addAccess_63 fX2_9 (kMa_journal hb) (by decide) (rJo_sums hb) ?_
      refine g_iload dX2_addAccess_66 rfl ?_
      refine g_iload dX2_addAccess_68 rfl ?_
      refine gt_if_eq (tgt := 90) dX2_addAccess_70 (by decide) (by omega) (by omega) ?_
      refine g_ldc dX2_addAccess_90 qnX2_93 ?_
      refine g_iast dX2_addAccess_92 (kJo_sums hb) (by omega) ?_
      refine gs_iinc (ls' := [_, _, _, _, _, _, _, _]) dX2_addAccess_93 rfl (nI_add _ 1) rfl rfl ?_
      refine g_goto (tgt := 15) dX2_addAccess_96 (by decide) ?_
      refine G.drop 6 (ls' := [_, _, _, _, _, _, none, _]) rfl ?_
      refine G.drop 7 (ls' := [_, _, _, _, _, _, _, none]) rfl ?_
      refine ih (a + 1) _ (by omega) (hx.w (Or.inl rfl)) (fun c hc => ?_)
      show (wI σ 72 a _).1 72 c = _
      rw [wI_at]
      by_cases e : c = a
      · rw [if_pos ⟨rfl, e⟩, e]
        show _ = nI (eN (if a < a + 1 then stp S f nd a else f a))
        rw [if_pos (Nat.lt_succ_self a), stp, if_neg (fun z => nbf c45 z.1)]; rfl
      · rw [if_neg (fun z => e z.2), hs c hc]
        show nI (eN (if c < a then _ else _)) = nI (eN (if c < a + 1 then _ else _))
        by_cases q : c < a
        · rw [if_pos q, if_pos (by omega)]
        · rw [if_neg q, if_neg (by omega)]
    · refine g_iload dX2_addAccess_48 rfl ?_
      refine g_ldc dX2_addAccess_50 qnX2_93 ?_
      refine gn_icmp_ge (tgt := 59) dX2_addAccess_52 (by decide) (by omega) (by omega) (fun c52 => ?_) (fun c52 => ?_)
      · refine g_iconst (v := nI 0) dX2_addAccess_59 (by decide) ?_
        refine gs_istore (ls' := [_, _, _, _, _, _, _, _]) dX2_addAccess_60 rfl rfl ?_
        refine gs_aload_n dX2_addAccess_62 rfl rfl ?_
        refine g_getR dX2_addAccess_63 fX2_9 (kMa_journal hb) (by decide) (rJo_sums hb) ?_
        refine g_iload dX2_addAccess_66 rfl ?_
        refine g_iload dX2_addAccess_68 rfl ?_
        refine gt_if_eq (tgt := 90) dX2_addAccess_70 (by decide) (by omega) (by omega) ?_
        refine g_ldc dX2_addAccess_90 qnX2_93 ?_
        refine g_iast dX2_addAccess_92 (kJo_sums hb) (by omega) ?_
        refine gs_iinc (ls' := [_, _, _, _, _, _, _, _]) dX2_addAccess_93 rfl (nI_add _ 1) rfl rfl ?_
        refine g_goto (tgt := 15) dX2_addAccess_96 (by decide) ?_
        refine G.drop 6 (ls' := [_, _, _, _, _, _, none, _]) rfl ?_
        refine G.drop 7 (ls' := [_, _, _, _, _, _, _, none]) rfl ?_
        refine ih (a + 1) _ (by omega) (hx.w (Or.inl rfl)) (fun c hc => ?_)
        show (wI σ 72 a _).1 72 c = _
        rw [wI_at]
        by_cases e : c = a
        · rw [if_pos ⟨rfl, e⟩, e]
          show _ = nI (eN (if a < a + 1 then stp S f nd a else f a))
          rw [if_pos (Nat.lt_succ_self a), stp, if_neg (fun z => absurd (q1.mpr z.2) (by omega))]; rfl
        · rw [if_neg (fun z => e z.2), hs c hc]
          show nI (eN (if c < a then _ else _)) = nI (eN (if c < a + 1 then _ else _))
          by_cases q : c < a
          · rw [if_pos q, if_pos (by omega)]
          · rw [if_neg q, if_neg (by omega)]
      · refine g_iconst (v := nI 1) dX2_addAccess_55 (by decide) ?_
        refine g_goto (tgt := 60) dX2_addAccess_56 (by decide) ?_
        refine gs_istore (ls' := [_, _, _, _, _, _, _, _]) dX2_addAccess_60 rfl rfl ?_
        refine gs_aload_n dX2_addAccess_62 rfl rfl ?_
        refine g_getR dX2_addAccess_63 fX2_9 (kMa_journal hb) (by decide) (rJo_sums hb) ?_
        refine g_iload dX2_addAccess_66 rfl ?_
        refine g_iload dX2_addAccess_68 rfl ?_
        refine gf_if_eq (tgt := 90) dX2_addAccess_70 (by decide) (by omega) (by omega) ?_
        refine g_iload dX2_addAccess_73 rfl ?_
        refine g_iconst (v := nI 1) dX2_addAccess_75 (by decide) ?_
        refine g_iadd dX2_addAccess_76 (by first | exact nI_add _ _ | rfl) ?_
        refine g_iconst (v := nI 2) dX2_addAccess_77 (by decide) ?_
        refine gs_aload_n dX2_addAccess_78 rfl rfl ?_
        refine gs_iload_n dX2_addAccess_79 rfl rfl ?_
        refine g_iload dX2_addAccess_80 rfl ?_
        refine g_cVI2 dX2_addAccess_82 vX2_94 (by decide) bdW0.1 (by decide) (Nat.le_of_ble_eq_true rfl) (c_distance hb hR hB hnd han) ?_
        rintro _ σ ⟨rfl, e9⟩
        subst e9
        refine g_imul dX2_addAccess_85 (by first | exact pk_mul _ _ | rfl) ?_
        refine g_iadd dX2_addAccess_86 (by first | exact nI_add _ _ | rfl) ?_
        refine g_goto (tgt := 92) dX2_addAccess_87 (by decide) ?_
        refine g_iast dX2_addAccess_92 (kJo_sums hb) (by omega) ?_
        refine gs_iinc (ls' := [_, _, _, _, _, _, _, _]) dX2_addAccess_93 rfl (nI_add _ 1) rfl rfl ?_
        refine g_goto (tgt := 15) dX2_addAccess_96 (by decide) ?_
        refine G.drop 6 (ls' := [_, _, _, _, _, _, none, _]) rfl ?_
        refine G.drop 7 (ls' := [_, _, _, _, _, _, _, none]) rfl ?_
        refine ih (a + 1) _ (by omega) (hx.w (Or.inl rfl)) (fun c hc => ?_)
        show (wI σ 72 a _).1 72 c = _
        rw [wI_at]
        by_cases e : c = a
        · rw [if_pos ⟨rfl, e⟩, e]
          show _ = nI (eN (if a < a + 1 then stp S f nd a else f a))
          rw [if_pos (Nat.lt_succ_self a), show stp S f nd a = min (eN (f a)) (eN (lsF f (S.1 0 0)) + S.1 15 0) + 1 + 2 * S.1 5 (4 * nd + a) from by rw [stp, if_pos ⟨c45, q1.mp c52⟩, q2 (q1.mp c52)], show eN (min (eN (f a)) (eN (lsF f (S.1 0 0)) + S.1 15 0) + 1 + 2 * S.1 5 (4 * nd + a)) = min (eN (f a)) (eN (lsF f (S.1 0 0)) + S.1 15 0) + 1 + 2 * S.1 5 (4 * nd + a) from if_pos (hsm c45 c52)]
        · rw [if_neg (fun z => e z.2), hs c hc]
          show nI (eN (if c < a then _ else _)) = nI (eN (if c < a + 1 then _ else _))
          by_cases q : c < a
          · rw [if_pos q, if_pos (by omega)]
          · rw [if_neg q, if_neg (by omega)]
theorem r_add {σ : Mm} {S : Sx} {Tf : Nat → Nat} (hR : RepC 57 σ S Tf) (hB : Bd S) {f : Nat → Nat} {M nd : Nat} (hf : Fb M f) (hM : M ≤ 700000) (hnd : nd < S.1 0 0) (hs : Sc72 (S.1 0 0) f σ) : RV W0 mX2_addAccess [.ref (57 + 14), .int (nI nd), .ref 1, .int (nI (S.1 15 0))] σ (fun τ => fx σ τ ∧ Sc72 (S.1 0 0) (stp S f nd) τ) := by
  have b0 := B_nodes hB 0
  have hb : mch 57 := Or.inl rfl
  refine G.met (by decide) (Nat.le_of_ble_eq_true rfl) ?_
  show G _ _ _ 0 [some (.ref (57 + 14)), some (.int (nI nd)), some (.ref 1), some (.int (nI (S.1 15 0))), none, none, none, none] [] σ
  refine gs_aload_n dX2_addAccess_0 rfl rfl ?_
  refine gs_aload_n dX2_addAccess_1 rfl rfl ?_
  refine g_getI dX2_addAccess_2 fX2_75 bdW0.1 (by decide) (C_nodes hR) ?_
  refine g_cVI1 dX2_addAccess_5 vX2_80 (by decide) (kMa_journal hb) (by decide) (Nat.le_of_ble_eq_true rfl) (r_leastOf b0 hf hs) ?_
  rintro _ σ ⟨rfl, e9⟩
  subst e9
  refine gs_iload_n dX2_addAccess_8 rfl rfl ?_
  refine g_iadd dX2_addAccess_9 (by first | exact nI_add _ _ | rfl) ?_
  refine gs_istore (ls' := [_, _, _, _, _, _, _, _]) dX2_addAccess_10 rfl rfl ?_
  refine g_iconst (v := nI 0) dX2_addAccess_12 (by decide) ?_
  refine gs_istore (ls' := [_, _, _, _, _, _, _, _]) dX2_addAccess_13 rfl rfl ?_
  exact cl_add hR hB hf hM hnd (fun τ h1 h2 => ⟨rfl, h1, h2⟩) (S.1 0 0) 0 σ (by omega) (fx.rf σ) (fun c hc => by rw [hs c hc]; rfl)
theorem cl_lsum {σ0 : Mm} {S : Sx} {Tf : Nat → Nat} {K : Option Value → Mm → Prop} (hR0 : RepC 57 σ0 S Tf) (hB : Bd S) (hLg : Lg S) (hcap : S.1 39 0 = 300) {x : Int32} (hK : ∀ τ, fx σ0 τ → K (some (.int (nI (eN (lsF (bsF S x (S.1 34 0)) (S.1 0 0)))))) τ) : ∀ k i σ, i + k = S.1 34 0 → fx σ0 σ → Sc72 (S.1 0 0) (bsF S x i) σ → G W0 mX2_leastSum K 11 [some (.ref (57 + 14)), some (.int x), some (.ref 1), some (.int (nI (S.1 15 0))), some (.int (nI i))] [] σ := by
  have hb : mch 57 := Or.inl rfl
  have b0 := B_nodes hB 0
  have b34 := B_logged hB 0
  intro k
  induction k with
  | zero =>
    intro i σ hi hx hs
    have hR := hR0.fx hB hx
    have e : i = S.1 34 0 := by omega
    rw [e] at hs
    refine g_iload dX2_leastSum_11 rfl ?_
    refine gs_aload_n dX2_leastSum_13 rfl rfl ?_
    refine g_getI dX2_leastSum_14 fX2_25 (kMa_journal hb) (by decide) (C_logged hR) ?_
    refine gt_icmp_ge (tgt := 50) dX2_leastSum_17 (by decide) (by omega) (by omega) (by omega) ?_
    refine gs_aload_n dX2_leastSum_50 rfl rfl ?_
    refine gs_aload_n dX2_leastSum_51 rfl rfl ?_
    refine g_getI dX2_leastSum_52 fX2_75 bdW0.1 (by decide) (C_nodes hR) ?_
    refine g_cVI1 dX2_leastSum_55 vX2_80 (by decide) (kMa_journal hb) (by decide) (Nat.le_of_ble_eq_true rfl) (r_leastOf b0 (Fb_b hB x (S.1 34 0) (by omega)) hs) ?_
    rintro _ σ ⟨rfl, e9⟩
    subst e9
    refine g_ireturn dX2_leastSum_58 rfl ?_
    exact hK _ hx
  | succ k ih =>
    intro i σ hi hx hs
    have hR := hR0.fx hB hx
    obtain ⟨a, p, c, ha, hp, hc, l2, l3, l4⟩ := hLg i (by omega)
    have h2 := r_entry hR hcap (i := i) (k := 2) (by omega) (by omega)
    rw [l2] at h2
    have n2 : nN (S.2.1 16 (10 * i + 2)) = a := by rw [l2, nN_n (by omega)]
    refine g_iload dX2_leastSum_11 rfl ?_
    refine gs_aload_n dX2_leastSum_13 rfl rfl ?_
    refine g_getI dX2_leastSum_14 fX2_25 (kMa_journal hb) (by decide) (C_logged hR) ?_
    refine gf_icmp_ge (tgt := 50) dX2_leastSum_17 (by decide) (by omega) (by omega) (by omega) ?_
    refine gs_aload_n dX2_leastSum_20 rfl rfl ?_
    refine g_iload dX2_leastSum_21 rfl ?_
    refine g_iconst (v := nI 3) dX2_leastSum_23 (by decide) ?_
    refine g_cVI2 dX2_leastSum_24 vX2_61 (by decide) (kMa_journal hb) (by decide) (Nat.le_of_ble_eq_true rfl) (r_entry hR hcap (i := i) (k := 3) (by omega) (by omega)) ?_
    rintro _ σ ⟨rfl, e9⟩
    subst e9
    refine gs_iload_n dX2_leastSum_27 rfl rfl ?_
    refine g_icmp_ne (tgt := 44) dX2_leastSum_28 (by decide) (fun c28 => ?_) (fun c28 => ?_)
    · refine gs_iinc (ls' := [_, _, _, _, _]) dX2_leastSum_44 rfl (nI_add _ 1) rfl rfl ?_
      refine g_goto (tgt := 11) dX2_leastSum_47 (by decide) ?_
      exact ih (i + 1) _ (by omega) hx (by rw [bsF, if_neg c28]; exact hs)
    · refine gs_aload_n dX2_leastSum_31 rfl rfl ?_
      refine gs_aload_n dX2_leastSum_32 rfl rfl ?_
      refine g_iload dX2_leastSum_33 rfl ?_
      refine g_iconst (v := nI 2) dX2_leastSum_35 (by decide) ?_
      refine g_cVI2 dX2_leastSum_36 vX2_61 (by decide) (kMa_journal hb) (by decide) (Nat.le_of_ble_eq_true rfl) h2 ?_
      rintro _ σ ⟨rfl, e9⟩
      subst e9
      refine gs_aload_n dX2_leastSum_39 rfl rfl ?_
      refine gs_iload_n dX2_leastSum_40 rfl rfl ?_
      refine g_cVV3 dX2_leastSum_41 vX2_71 (by decide) (kMa_journal hb) (by decide) (Nat.le_of_ble_eq_true rfl) (r_add hR hB (Fb_b hB x i (by omega)) (by omega) ha hs) ?_
      rintro σ ⟨hx9, hs⟩
      have hx := hx.tr hx9
      refine gs_iinc (ls' := [_, _, _, _, _]) dX2_leastSum_44 rfl (nI_add _ 1) rfl rfl ?_
      refine g_goto (tgt := 11) dX2_leastSum_47 (by decide) ?_
      exact ih (i + 1) _ (by omega) hx (by rw [bsF, if_pos c28, n2]; exact hs)
theorem fx_fl2 {σ : Mm} {n : Nat} {v : Int32} : fx σ (flI σ 72 n v) := ⟨fun a h1 h2 => by funext j; exact if_neg (fun z => h1 z.1), rfl⟩
theorem r_lsum {σ : Mm} {S : Sx} {Tf : Nat → Nat} (hR : RepC 57 σ S Tf) (hB : Bd S) (hLg : Lg S) (hcap : S.1 39 0 = 300) {x : Int32} : RI W0 mX2_leastSum [.ref (57 + 14), .int x, .ref 1, .int (nI (S.1 15 0))] σ (fun r τ => r = nI (eN (lsF (bsF S x (S.1 34 0)) (S.1 0 0))) ∧ fx σ τ) := by
  have hb : mch 57 := Or.inl rfl
  have b0 := B_nodes hB 0
  refine G.met (by decide) (Nat.le_of_ble_eq_true rfl) ?_
  show G _ _ _ 0 [some (.ref (57 + 14)), some (.int x), some (.ref 1), some (.int (nI (S.1 15 0))), none] [] σ
  refine gs_aload_n dX2_leastSum_0 rfl rfl ?_
  refine g_getR dX2_leastSum_1 fX2_9 (kMa_journal hb) (by decide) (rJo_sums hb) ?_
  refine g_iconst (v := nI 0) dX2_leastSum_4 (by decide) ?_
  refine g_cSV2 dX2_leastSum_5 vX2_65 (by decide) (Nat.le_of_ble_eq_true rfl) (s_fill (kJo_sums hb) (by decide)) ?_
  rintro _ rfl
  refine g_iconst (v := nI 0) dX2_leastSum_8 (by decide) ?_
  refine gs_istore (ls' := [_, _, _, _, _]) dX2_leastSum_9 rfl rfl ?_
  exact cl_lsum hR hB hLg hcap (fun τ h1 => ⟨_, rfl, rfl, h1⟩) (S.1 34 0) 0 _ (by omega) fx_fl2 (fun a ha => if_pos ⟨rfl, by omega⟩)
theorem a_best {σ : Mm} {S : Sx} {H : Hx} (hJ : CI σ S H) (hPI : PI S) (x : Int32) : RI W0 mX11_best [.ref 0, .int x] σ (fun r τ => r = aBest S x ∧ CI τ (S) H ∧ frK σ τ) := by
  have hJ0 := hJ
  obtain ⟨⟨Tf, hR, hTk⟩, hSh, hTr1, hTr2⟩ := hJ
  have hb : mch 57 := Or.inl rfl
  have hB : Bd S := hPI.1.1.1.1
  have b0 := B_nodes hB 0
  have bP := B_P hB 0
  have bT := B_T hB 0
  refine G.met (by decide) (Nat.le_of_ble_eq_true rfl) ?_
  show G _ _ _ 0 [some (.ref 0), some (.int x), none] [] σ
  have hcap : S.1 39 0 = 300 := hPI.1.2.1.1 rfl
  have e1 := @eN_le (lsF (bsF S x (S.1 34 0)) (S.1 0 0))
  have e2 := eN_c (lsF (bsF S x (S.1 34 0)) (S.1 0 0))
  refine gs_aload_n dX11_best_0 rfl rfl ?_
  refine g_getR dX11_best_1 fX11_32 kFC (by decide) rFC_machine ?_
  refine gs_iload_n dX11_best_4 rfl rfl ?_
  refine g_cVI1 dX11_best_5 vX11_138 (by decide) (kMa hb) (by decide) (Nat.le_of_ble_eq_true rfl) (c_hasPage hb hR hB _) ?_
  rintro _ σ ⟨rfl, e9⟩
  subst e9
  refine gb_if_ne (tgt := 13) dX11_best_8 (by decide) (fun c8 => ?_) (fun c8 => ?_)
  · refine gs_aload_n dX11_best_13 rfl rfl ?_
    refine g_getR dX11_best_14 fX11_32 kFC (by decide) rFC_machine ?_
    refine g_getR dX11_best_17 fX11_261 (kMa hb) (by decide) (rMa_journal hb) ?_
    refine gs_iload_n dX11_best_20 rfl rfl ?_
    refine gs_aload_n dX11_best_21 rfl rfl ?_
    refine g_getR dX11_best_22 fX11_18 kFC (by decide) rFC_board ?_
    refine gs_aload_n dX11_best_25 rfl rfl ?_
    refine g_getR dX11_best_26 fX11_32 kFC (by decide) rFC_machine ?_
    refine g_getR dX11_best_29 fX11_125 (kMa hb) (by decide) (rMa_rules hb) ?_
    refine g_getI dX11_best_32 fX11_272 (kMa_rules hb) (by decide) (C_movePrice hR) ?_
    refine g_cVI3 dX11_best_35 vX11_275 (by decide) (kMa_journal hb) (by decide) (Nat.le_of_ble_eq_true rfl) (r_lsum hR hB hPI.2.2.1 hcap) ?_
    rintro _ τ ⟨rfl, hf⟩
    refine gs_istore_n (ls' := [_, _, _]) dX11_best_38 rfl rfl rfl ?_
    refine gs_iload_n dX11_best_39 rfl rfl ?_
    refine g_ldc_w dX11_best_40 qnX11_279 ?_
    refine gn_icmp_ge (tgt := 50) dX11_best_43 (by decide) (by omega) (by omega) (fun c43 => ?_) (fun c43 => ?_)
    · refine g_bipush (v := -2) dX11_best_50 (by decide) ?_
      refine g_ireturn dX11_best_52 rfl ?_
      exact ⟨_, rfl, by rw [aBest, if_pos c8, if_neg (by omega)], hJ0.fx hB hf⟩
    · refine gs_iload_n dX11_best_46 rfl rfl ?_
      refine g_goto (tgt := 52) dX11_best_47 (by decide) ?_
      refine g_ireturn dX11_best_52 rfl ?_
      have e3 : eN (lsF (bsF S x (S.1 34 0)) (S.1 0 0)) = lsF (bsF S x (S.1 34 0)) (S.1 0 0) := by omega
      exact ⟨_, rfl, by rw [aBest, if_pos c8, if_pos (by omega), e3], hJ0.fx hB hf⟩
  · refine g_iconst (v := -1) dX11_best_11 (by decide) ?_
    refine g_ireturn dX11_best_12 rfl ?_
    exact ⟨_, rfl, by rw [aBest, if_neg (nbf c8)], hJ0, frK.rf _⟩
