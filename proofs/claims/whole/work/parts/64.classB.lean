/-! The class: a page's faults. -/
theorem RepC.note {b : Nat} {σ τ : Mm} {S : Sx} {Tf : Nat → Nat} (hb : mch b) (h : RepC b σ S Tf) (hB : Bd S) {p a : Nat} (hp : p < S.1 7 0) (ha : a ≤ 3)
    (hf : ∀ k, k < 4 → τ.1 (b + 20 + 3 * p) k = if k = 0 then nI a else σ.1 (b + 20 + 3 * p) (k - 1)) (hm : τ.1 (b + 18 + 3 * p) 5 = nI (min (S.1 27 p + 1) 4)) (ho : ∀ x j, ¬ (x = b + 20 + 3 * p ∧ j < 4) → ¬ (x = b + 18 + 3 * p ∧ j = 5) → τ.1 x j = σ.1 x j) : RepC b τ (kfS S p a) Tf := by
  have b7 := B_P hB 0
  have b27 := B_faultMany hB p
  have e7 : (kfS S p a).1 7 = S.1 7 := kfS_ne (by decide) (by decide)
  have e0 : (kfS S p a).1 0 = S.1 0 := kfS_ne (by decide) (by decide)
  have e9 : (kfS S p a).1 9 = S.1 9 := kfS_ne (by decide) (by decide)
  have e39 : (kfS S p a).1 39 = S.1 39 := kfS_ne (by decide) (by decide)
  have e2 : (kfS S p a).2 = S.2 := by unfold kfS; split <;> rfl
  have m27 : ∀ q, (kfS S p a).1 27 q = if q = p then min (S.1 27 p + 1) 4 else S.1 27 q := by
    intro q
    unfold kfS
    split
    · next h4 =>
      rw [setN_at]
      by_cases hq : q = p
      · rw [if_pos ⟨rfl, hq⟩, if_pos hq, h4]; rfl
      · rw [if_neg (fun z => hq z.2), if_neg hq, setN_ne (by decide), setN_at, if_neg (fun z => hq z.2), setN_ne (by decide), setN_ne (by decide), setN_ne (by decide)]
    · next h4 =>
      rw [setN_at]
      by_cases hq : q = p
      · rw [if_pos ⟨rfl, hq⟩, if_pos hq, Nat.min_eq_left (by omega)]
      · rw [if_neg (fun z => hq z.2), if_neg hq, setN_ne (by decide)]
  have hF : ∀ k, k < 4 → invC b (b + 20 + 3 * p) k = (200, 4 * p + k) := fun k hk => inv_F hb (by omega) hk
  have hP5 : invC b (b + 18 + 3 * p) 5 = (27, p) := by
    have := inv_N (b := b) (g := 27) (i := p) hb (by show p < szC 27; simp [szC]; omega)
    simpa [cl] using this
  refine ⟨fun g i hi hd => ?_, fun g i hi hd => ?_, fun q k hq hk => ?_, fun a' ha' => ?_, fun a' ha' => ?_⟩
  · have hd := (dmC_eq (S := S) (by rw [e0]) (by rw [e7]) (by rw [e9]) g i).mp hd
    have hinv := inv_N hb hi
    by_cases hg : g = 27 ∧ i = p
    · obtain ⟨rfl, rfl⟩ := hg
      have : (cl b 27 i) = (b + 18 + 3 * i, 5) := by simp [cl]
      rw [this]
      show τ.1 (b + 18 + 3 * i) 5 = encC 27 _
      rw [hm, m27, if_pos rfl]; rfl
    · rw [ho _ _ (fun z => by
        rw [z.1, hF _ z.2] at hinv
        have := (Prod.mk.inj hinv).1
        have := szC_lt hi
        omega) (fun z => by
        rw [z.1, z.2, hP5] at hinv
        exact hg ⟨(Prod.mk.inj hinv).1.symm, (Prod.mk.inj hinv).2.symm⟩), h.1 g i hi hd]
      congr 1
      by_cases h27 : g = 27
      · subst h27
        rw [m27, if_neg (fun z => hg ⟨rfl, z⟩)]
      · by_cases h28 : g = 28
        · subst h28
          exact absurd hi (by simp [szC])
        · rw [kfS_ne h27 h28]
  · have hd := (dmV_eq (S := S) (by rw [e7]) (by rw [e9]) (by rw [e39]) g i).mp hd
    have hinv := inv_V hb hi
    rw [e2, ho _ _ (fun z => by
        rw [z.1, hF _ z.2] at hinv
        have := (Prod.mk.inj hinv).1
        have := szV_lt hi
        omega) (fun z => by
        rw [z.1, z.2, hP5] at hinv
        have := (Prod.mk.inj hinv).1
        omega)]
    exact h.2.1 g i hi hd
  · rw [e7] at hq
    have bq := B_faultMany hB q
    rw [m27] at hk ⊢
    by_cases hqp : q = p
    · subst hqp
      rw [if_pos rfl] at hk ⊢
      rw [hf k (by omega)]
      by_cases h4 : S.1 27 q = 4
      · have e28 : ∀ j, j < 4 → (kfS S q a).1 28 (4 * q + j) = if j = 3 then a else S.1 28 (4 * q + j + 1) := by
          intro j hj
          rw [kfS, if_pos h4, setN_ne (by decide), setN_at]
          have : j = 0 ∨ j = 1 ∨ j = 2 ∨ j = 3 := by omega
          rcases this with rfl | rfl | rfl | rfl
          · rw [if_neg (by omega), setN_ne (by decide), setN_at, if_neg (by omega), setN_at, if_neg (by omega), setN_at, if_pos ⟨rfl, rfl⟩]; rfl
          · rw [if_neg (by omega), setN_ne (by decide), setN_at, if_neg (by omega), setN_at, if_pos ⟨rfl, rfl⟩]; rfl
          · rw [if_neg (by omega), setN_ne (by decide), setN_at, if_pos ⟨rfl, rfl⟩]; rfl
          · rw [if_pos ⟨rfl, rfl⟩]; rfl
        rw [h4] at hk ⊢
        have hk : k < 4 := hk
        show _ = nI ((kfS S q a).1 28 (4 * q + (4 - 1 - k)))
        rw [e28 (4 - 1 - k) (by omega)]
        by_cases k0 : k = 0
        · subst k0; rfl
        · rw [if_neg k0, if_neg (by omega), h.2.2.1 q (k - 1) hq (by omega), h4, show 4 * q + (4 - 1 - (k - 1)) = 4 * q + (4 - 1 - k) + 1 from by omega]
      · have hmn : min (S.1 27 q + 1) 4 = S.1 27 q + 1 := Nat.min_eq_left (by omega)
        rw [hmn] at hk ⊢
        rw [kfS, if_neg h4, setN_ne (by decide), setN_at]
        by_cases k0 : k = 0
        · subst k0; rw [if_pos rfl, if_pos ⟨rfl, by omega⟩]
        · rw [if_neg k0, if_neg (by omega), h.2.2.1 q (k - 1) hq (by omega), show 4 * q + (S.1 27 q - 1 - (k - 1)) = 4 * q + (S.1 27 q + 1 - 1 - k) from by omega]
    · rw [if_neg hqp] at hk ⊢
      have e28 : ∀ j, j < 4 → (kfS S p a).1 28 (4 * q + j) = S.1 28 (4 * q + j) := by
        intro j hj
        unfold kfS
        split
        · rw [setN_ne (by decide), setN_at, if_neg (by omega), setN_ne (by decide), setN_at, if_neg (by omega), setN_at, if_neg (by omega), setN_at, if_neg (by omega)]
        · rw [setN_ne (by decide), setN_at, if_neg (by omega)]
      rw [e28 _ (by omega), ho _ _ (by omega) (by omega)]
      exact h.2.2.1 q k hq hk
  · rw [ho _ _ (by omega) (by omega)]; exact h.2.2.2.1 a' ha'
  · rw [e2]
    obtain ⟨q1, q2, q3⟩ := h.2.2.2.2 a' ha'
    refine ⟨q1, ?_, fun i hi => ?_⟩
    · rw [ho _ _ (by omega) (by omega)]; exact q2
    · rw [ho _ _ (by omega) (by omega)]; exact q3 i hi
theorem c_noteFault {b : Nat} {σ : Mm} {S : Sx} {Tf : Nat → Nat} (hb : mch b) (hR : RepC b σ S Tf) (hB : Bd S) {p a : Nat} (hp : p < S.1 7 0) (ha : a ≤ 3) : RV W0 mX4_noteFault [.ref (b + 18 + 3 * p), .int (nI a)] σ (fun τ => Cq b σ (kfS S p a) Tf (σ.1 (b + 5)) τ) := by
  have bP := B_P hB 0
  have h20 : p < 20 := by omega
  have b27 := B_faultMany hB p
  refine G.met (by decide) (Nat.le_of_ble_eq_true rfl) ?_
  show G _ _ _ 0 [some (.ref (b + 18 + 3 * p)), some (.int (nI a)), none] [] σ
  refine g_iconst (v := nI 3) dX4_noteFault_0 (by decide) ?_
  refine gs_istore_n (ls' := [_, _, _]) dX4_noteFault_1 rfl rfl rfl ?_
  refine gs_iload_n dX4_noteFault_2 rfl rfl ?_
  refine gf_if_le (tgt := 26) dX4_noteFault_3 (by decide) (by omega) (by omega) ?_
  refine gs_aload_n dX4_noteFault_6 rfl rfl ?_
  refine g_getR dX4_noteFault_7 fX4_15 (kPg hb h20) (by decide) (rPg_faults hb h20) ?_
  refine gs_iload_n dX4_noteFault_10 rfl rfl ?_
  refine gs_aload_n dX4_noteFault_11 rfl rfl ?_
  refine g_getR dX4_noteFault_12 fX4_15 (kPg hb h20) (by decide) (rPg_faults hb h20) ?_
  refine gs_iload_n dX4_noteFault_15 rfl rfl ?_
  refine g_iconst (v := nI 1) dX4_noteFault_16 (by decide) ?_
  refine g_isub dX4_noteFault_17 (show nI 3 - nI 1 = nI 2 by decide) ?_
  refine g_iald dX4_noteFault_18 (kPg_faults hb h20) (by omega) (show _ = σ.1 (b + 20 + 3 * p) 2 from rfl) ?_
  refine g_iast dX4_noteFault_19 (kPg_faults hb h20) (by omega) ?_
  refine gs_iinc (ls' := [_, _, _]) dX4_noteFault_20 rfl (show nI 3 + Int32.ofInt (-1) = nI 2 by decide) rfl rfl ?_
  refine g_goto (tgt := 2) dX4_noteFault_23 (by decide) ?_
  refine gs_iload_n dX4_noteFault_2 rfl rfl ?_
  refine gf_if_le (tgt := 26) dX4_noteFault_3 (by decide) (by omega) (by omega) ?_
  refine gs_aload_n dX4_noteFault_6 rfl rfl ?_
  refine g_getR dX4_noteFault_7 fX4_15 (kPg hb h20) (by decide) (rPg_faults hb h20) ?_
  refine gs_iload_n dX4_noteFault_10 rfl rfl ?_
  refine gs_aload_n dX4_noteFault_11 rfl rfl ?_
  refine g_getR dX4_noteFault_12 fX4_15 (kPg hb h20) (by decide) (rPg_faults hb h20) ?_
  refine gs_iload_n dX4_noteFault_15 rfl rfl ?_
  refine g_iconst (v := nI 1) dX4_noteFault_16 (by decide) ?_
  refine g_isub dX4_noteFault_17 (show nI 2 - nI 1 = nI 1 by decide) ?_
  refine g_iald dX4_noteFault_18 (kPg_faults hb h20) (by omega) (show _ = σ.1 (b + 20 + 3 * p) 1 from by rw [wI_at, if_neg (by omega)]) ?_
  refine g_iast dX4_noteFault_19 (kPg_faults hb h20) (by omega) ?_
  refine gs_iinc (ls' := [_, _, _]) dX4_noteFault_20 rfl (show nI 2 + Int32.ofInt (-1) = nI 1 by decide) rfl rfl ?_
  refine g_goto (tgt := 2) dX4_noteFault_23 (by decide) ?_
  refine gs_iload_n dX4_noteFault_2 rfl rfl ?_
  refine gf_if_le (tgt := 26) dX4_noteFault_3 (by decide) (by omega) (by omega) ?_
  refine gs_aload_n dX4_noteFault_6 rfl rfl ?_
  refine g_getR dX4_noteFault_7 fX4_15 (kPg hb h20) (by decide) (rPg_faults hb h20) ?_
  refine gs_iload_n dX4_noteFault_10 rfl rfl ?_
  refine gs_aload_n dX4_noteFault_11 rfl rfl ?_
  refine g_getR dX4_noteFault_12 fX4_15 (kPg hb h20) (by decide) (rPg_faults hb h20) ?_
  refine gs_iload_n dX4_noteFault_15 rfl rfl ?_
  refine g_iconst (v := nI 1) dX4_noteFault_16 (by decide) ?_
  refine g_isub dX4_noteFault_17 (show nI 1 - nI 1 = nI 0 by decide) ?_
  refine g_iald dX4_noteFault_18 (kPg_faults hb h20) (by omega) (show _ = σ.1 (b + 20 + 3 * p) 0 from by rw [wI_at, if_neg (by omega), wI_at, if_neg (by omega)]) ?_
  refine g_iast dX4_noteFault_19 (kPg_faults hb h20) (by omega) ?_
  refine gs_iinc (ls' := [_, _, _]) dX4_noteFault_20 rfl (show nI 1 + Int32.ofInt (-1) = nI 0 by decide) rfl rfl ?_
  refine g_goto (tgt := 2) dX4_noteFault_23 (by decide) ?_
  refine gs_iload_n dX4_noteFault_2 rfl rfl ?_
  refine gt_if_le (tgt := 26) dX4_noteFault_3 (by decide) (by omega) (by omega) ?_
  refine gs_aload_n dX4_noteFault_26 rfl rfl ?_
  refine g_getR dX4_noteFault_27 fX4_15 (kPg hb h20) (by decide) (rPg_faults hb h20) ?_
  refine g_iconst (v := nI 0) dX4_noteFault_30 (by decide) ?_
  refine gs_iload_n dX4_noteFault_31 rfl rfl ?_
  refine g_iast dX4_noteFault_32 (kPg_faults hb h20) (by omega) ?_
  refine gs_aload_n dX4_noteFault_33 rfl rfl ?_
  refine gs_aload_n dX4_noteFault_34 rfl rfl ?_
  refine g_getI dX4_noteFault_35 fX4_34 (kPg hb h20) (by decide) (show _ = nI (S.1 27 p) from by rw [wI_at, if_neg (by omega), wI_at, if_neg (by omega), wI_at, if_neg (by omega), wI_at, if_neg (by omega)]; exact C_faultMany hR h20 hp) ?_
  refine g_iconst (v := nI 1) dX4_noteFault_38 (by decide) ?_
  refine g_iadd dX4_noteFault_39 (by first | exact nI_add _ _ | rfl) ?_
  refine g_iconst (v := nI 4) dX4_noteFault_40 (by decide) ?_
  refine g_mmin dX4_noteFault_41 mmLX4_51 (by decide) (Nat.le_of_ble_eq_true rfl) (nI_min (by omega) (by omega)) ?_
  refine g_putI dX4_noteFault_44 pX4_34 (kPg hb h20) (by decide) (Or.inl rfl) ?_
  refine g_return dX4_noteFault_47 rfl ?_
  refine ⟨rfl, hR.note hb hB hp ha (fun k hk => ?_) ?_ (fun x j h1 h2 => ?_), ?_, ?_⟩
  · have : k = 0 ∨ k = 1 ∨ k = 2 ∨ k = 3 := by omega
    rcases this with rfl | rfl | rfl | rfl
    · rw [wI_at, if_neg (by omega), wI_at, if_pos ⟨rfl, rfl⟩]; rfl
    · rw [wI_at, if_neg (by omega), wI_at, if_neg (by omega), wI_at, if_pos ⟨rfl, rfl⟩]; rfl
    · rw [wI_at, if_neg (by omega), wI_at, if_neg (by omega), wI_at, if_neg (by omega), wI_at, if_pos ⟨rfl, rfl⟩]; rfl
    · rw [wI_at, if_neg (by omega), wI_at, if_neg (by omega), wI_at, if_neg (by omega), wI_at, if_neg (by omega), wI_at, if_pos ⟨rfl, rfl⟩]; rfl
  · rw [wI_at, if_pos ⟨rfl, rfl⟩]
  · rw [wI_at, if_neg h2, wI_at, if_neg (fun z => h1 ⟨z.1, by omega⟩), wI_at, if_neg (fun z => h1 ⟨z.1, by omega⟩), wI_at, if_neg (fun z => h1 ⟨z.1, by omega⟩), wI_at, if_neg (fun z => h1 ⟨z.1, by omega⟩)]
  · exact ((((frC.rf b σ).wI (by omega) (by omega)).wI (by omega) (by omega)).wI (by omega) (by omega)).wI (by omega) (by omega) |>.wI (by omega) (by omega)
  · funext k
    rw [wI_at, if_neg (by omega), wI_at, if_neg (by omega), wI_at, if_neg (by omega), wI_at, if_neg (by omega), wI_at, if_neg (by omega)]
/-- counted from the latest one on -/
def crF (S : Sx) (p a : Nat) : Nat → Nat
  | 0 => 0
  | k + 1 => crF S p a k + (if S.1 28 (4 * p + (S.1 27 p - 1 - k)) = a then 1 else 0)
theorem crF_le (S : Sx) (p a k : Nat) : crF S p a k ≤ k := by
  induction k with
  | zero => exact Nat.le_refl _
  | succ k ih => simp only [crF]; split <;> omega
theorem crF_eq {S : Sx} {p : Nat} (hm : S.1 27 p ≤ 4) (a : Nat) : crF S p a (S.1 27 p) = cfS S p a (S.1 27 p) := by
  have : S.1 27 p = 0 ∨ S.1 27 p = 1 ∨ S.1 27 p = 2 ∨ S.1 27 p = 3 ∨ S.1 27 p = 4 := by omega
  rcases this with h | h | h | h | h <;> simp only [h, crF, cfS, Nat.reduceSub, Nat.sub_zero] <;> omega
theorem cl_faultsOf {b : Nat} {σ : Mm} {S : Sx} {Tf : Nat → Nat} {K : Option Value → Mm → Prop} (hb : mch b) (hR : RepC b σ S Tf) (hB : Bd S) {p a : Nat} (hp : p < S.1 7 0) (ha : a < 4) (h20 : p < 20) (hK : K (some (.int (nI (crF S p a (S.1 27 p))))) σ) : ∀ k k0, k0 + k = S.1 27 p → G W0 mX4_faultsOf K 4 [some (.ref (b + 18 + 3 * p)), some (.int (nI a)), some (.int (nI (crF S p a k0))), some (.int (nI k0))] [] σ := by
  intro k
  induction k with
  | zero =>
    intro k0 hk0
    have b1 := B_faultMany hB p
    have b2 := B_faultNode hB (4 * p + (S.1 27 p - 1 - k0))
    have b3 := crF_le S p a k0
    refine gs_iload_n dX4_faultsOf_4 rfl rfl ?_
    refine gs_aload_n dX4_faultsOf_5 rfl rfl ?_
    refine g_getI dX4_faultsOf_6 fX4_34 (kPg hb h20) (by decide) (C_faultMany hR (by omega) (by omega)) ?_
    refine gt_icmp_ge (tgt := 31) dX4_faultsOf_9 (by decide) (by omega) (by omega) (by omega) ?_
    refine gs_iload_n dX4_faultsOf_31 rfl rfl ?_
    refine g_ireturn dX4_faultsOf_32 rfl ?_
    have e : k0 = S.1 27 p := by omega
    rw [← e] at hK
    exact hK
  | succ k ih =>
    intro k0 hk0
    have b1 := B_faultMany hB p
    have b2 := B_faultNode hB (4 * p + (S.1 27 p - 1 - k0))
    have b3 := crF_le S p a k0
    refine gs_iload_n dX4_faultsOf_4 rfl rfl ?_
    refine gs_aload_n dX4_faultsOf_5 rfl rfl ?_
    refine g_getI dX4_faultsOf_6 fX4_34 (kPg hb h20) (by decide) (C_faultMany hR (by omega) (by omega)) ?_
    refine gf_icmp_ge (tgt := 31) dX4_faultsOf_9 (by decide) (by omega) (by omega) (by omega) ?_
    refine gs_aload_n dX4_faultsOf_12 rfl rfl ?_
    refine g_getR dX4_faultsOf_13 fX4_15 (kPg hb h20) (by decide) (rPg_faults hb h20) ?_
    refine gs_iload_n dX4_faultsOf_16 rfl rfl ?_
    refine g_iald dX4_faultsOf_17 (kPg_faults hb h20) (by omega) (hR.2.2.1 p k0 hp (by omega)) ?_
    refine gs_iload_n dX4_faultsOf_18 rfl rfl ?_
    refine gn_icmp_ne (tgt := 25) dX4_faultsOf_19 (by decide) (by omega) (by omega) (fun c19 => ?_) (fun c19 => ?_)
    · refine gs_iinc (ls' := [_, _, _, _]) dX4_faultsOf_25 rfl (nI_add _ 1) rfl rfl ?_
      refine g_goto (tgt := 4) dX4_faultsOf_28 (by decide) ?_
      have q := ih (k0 + 1) (by omega)
      rw [show crF S p a (k0 + 1) = crF S p a k0 + 0 from by rw [crF, if_neg c19]] at q
      exact q
    · refine gs_iinc (ls' := [_, _, _, _]) dX4_faultsOf_22 rfl (nI_add _ 1) rfl rfl ?_
      refine gs_iinc (ls' := [_, _, _, _]) dX4_faultsOf_25 rfl (nI_add _ 1) rfl rfl ?_
      refine g_goto (tgt := 4) dX4_faultsOf_28 (by decide) ?_
      have q := ih (k0 + 1) (by omega)
      rw [show crF S p a (k0 + 1) = crF S p a k0 + 1 from by rw [crF, if_pos c19]] at q
      exact q
theorem c_faultsOf {b : Nat} {σ : Mm} {S : Sx} {Tf : Nat → Nat} (hb : mch b) (hR : RepC b σ S Tf) (hB : Bd S) {p a : Nat} (hp : p < S.1 7 0) (ha : a < 4) : RI W0 mX4_faultsOf [.ref (b + 18 + 3 * p), .int (nI a)] σ (fun r τ => r = nI (cfS S p a (S.1 27 p)) ∧ τ = σ) := by
  have bP := B_P hB 0
  have h20 : p < 20 := by omega
  have e := crF_eq (B_faultMany hB p) a
  refine G.met (by decide) (Nat.le_of_ble_eq_true rfl) ?_
  show G _ _ _ 0 [some (.ref (b + 18 + 3 * p)), some (.int (nI a)), none, none] [] σ
  refine g_iconst (v := nI 0) dX4_faultsOf_0 (by decide) ?_
  refine gs_istore_n (ls' := [_, _, _, _]) dX4_faultsOf_1 rfl rfl rfl ?_
  refine g_iconst (v := nI 0) dX4_faultsOf_2 (by decide) ?_
  refine gs_istore_n (ls' := [_, _, _, _]) dX4_faultsOf_3 rfl rfl rfl ?_
  exact cl_faultsOf hb hR hB hp ha h20 ⟨_, rfl, by rw [e], rfl⟩ (S.1 27 p) 0 (by omega)
def wcS (S : Sx) (p : Nat) : Nat → Nat × Nat
  | 0 => (S.1 24 p - 1, 0)
  | a + 1 => if (wcS S p a).2 < cfS S p a (S.1 27 p) then (a, cfS S p a (S.1 27 p)) else wcS S p a
theorem wcS_le (S : Sx) (p k : Nat) (h : S.1 27 p ≤ 4) : (wcS S p k).2 ≤ 4 := by
  induction k with
  | zero => exact Nat.zero_le _
  | succ k ih =>
    have := cfS_le S p k (S.1 27 p)
    simp only [wcS]
    split
    · show cfS S p k (S.1 27 p) ≤ 4; omega
    · exact ih
/-- both find the least of the nodes that stand most often, once there is a fault -/
theorem wt_wc {S : Sx} {p : Nat} : ∀ k, ((wtS S p k).2 = (wcS S p k).2 + 1 ∧ (0 < (wcS S p k).2 → (wtS S p k).1 = (wcS S p k).1)) ∨ (k = 0) := by
  intro k
  induction k with
  | zero => exact Or.inr rfl
  | succ k ih =>
    left
    rcases ih with ⟨h1, h2⟩ | rfl
    · simp only [wtS, wcS]
      by_cases hc : (wcS S p k).2 < cfS S p k (S.1 27 p)
      · rw [if_pos hc, if_pos (by omega)]
        exact ⟨rfl, fun _ => rfl⟩
      · rw [if_neg hc, if_neg (by omega)]
        exact ⟨h1, h2⟩
    · have e1 : wtS S p (0 + 1) = (0, cfS S p 0 (S.1 27 p) + 1) := if_pos (Nat.succ_pos _)
      have e2 : wcS S p (0 + 1) = if 0 < cfS S p 0 (S.1 27 p) then (0, cfS S p 0 (S.1 27 p)) else (S.1 24 p - 1, 0) := rfl
      rw [e1, e2]
      by_cases hc : 0 < cfS S p 0 (S.1 27 p)
      · rw [if_pos hc]; exact ⟨rfl, fun _ => rfl⟩
      · rw [if_neg hc]
        refine ⟨by show cfS S p 0 (S.1 27 p) + 1 = 0 + 1; omega, fun z => absurd z (by show ¬ 0 < 0; omega)⟩
theorem wcS_mono {S : Sx} {p : Nat} {a : Nat} : ∀ k, a < k → cfS S p a (S.1 27 p) ≤ (wcS S p k).2 := by
  intro k
  induction k with
  | zero => intro h; omega
  | succ k ih =>
    intro h
    simp only [wcS]
    by_cases e : a = k
    · subst e
      split
      · exact Nat.le_refl _
      · omega
    · have := ih (by omega)
      split
      · show _ ≤ cfS S p k (S.1 27 p); omega
      · exact this
theorem cfS_last {S : Sx} {p m : Nat} (h : 0 < m) : 0 < cfS S p (S.1 28 (4 * p + (m - 1))) m := by
  cases m with
  | zero => omega
  | succ m => simp [cfS]
theorem cfS_zero {S : Sx} {p a : Nat} : ∀ m, (∀ k, k < m → S.1 28 (4 * p + k) ≠ a) → cfS S p a m = 0 := by
  intro m
  induction m with
  | zero => intro _; rfl
  | succ m ih => intro h; simp only [cfS]; rw [ih (fun k hk => h k (by omega)), if_neg (h m (by omega))]
theorem wcS_cut {S : Sx} {p n : Nat} (hf : ∀ k, k < S.1 27 p → S.1 28 (4 * p + k) < n) : ∀ k, n ≤ k → wcS S p k = wcS S p n := by
  intro k
  induction k with
  | zero => intro h; have : n = 0 := by omega
            rw [this]
  | succ k ih =>
    intro h
    by_cases e : n = k + 1
    · rw [e]
    · simp only [wcS]
      rw [cfS_zero (a := k) (S.1 27 p) (fun j hj => by have := hf j hj; omega), if_neg (by omega)]
      exact ih (by omega)
theorem wc_wt {S : Sx} {p : Nat} (hn : 2 ≤ S.1 0 0) (hn4 : S.1 0 0 ≤ 4) (hm : 0 < S.1 27 p) (hf : ∀ k, k < S.1 27 p → S.1 28 (4 * p + k) < S.1 0 0) : (wcS S p 4).1 = (wtS S p (S.1 0 0)).1 := by
  rw [wcS_cut hf 4 hn4]
  rcases wt_wc (S := S) (p := p) (S.1 0 0) with ⟨h1, h2⟩ | h
  · have h3 := wcS_mono (S := S) (p := p) (a := S.1 28 (4 * p + (S.1 27 p - 1))) (S.1 0 0) (hf _ (by omega))
    have h4 := cfS_last (S := S) (p := p) hm
    exact (h2 (by omega)).symm
  · omega
theorem cl_wanted {b : Nat} {σ : Mm} {S : Sx} {Tf : Nat → Nat} {K : Option Value → Mm → Prop} (hb : mch b) (hR : RepC b σ S Tf) (hB : Bd S) {p : Nat} (hp : p < S.1 7 0) (h20 : p < 20) (hK : K (some (.int (nI (wcS S p 4).1))) σ) : ∀ k a, a + k = 4 → G W0 mX4_wanted K 9 [some (.ref (b + 18 + 3 * p)), some (.int (nI (wcS S p a).1)), some (.int (nI (wcS S p a).2)), some (.int (nI a)), none] [] σ := by
  intro k
  induction k with
  | zero =>
    intro a ha
    have b1 := B_faultMany hB p
    have b2 := wcS_le S p a b1
    have b3 := cfS_le S p a (S.1 27 p)
    refine gs_iload_n dX4_wanted_9 rfl rfl ?_
    refine g_iconst (v := nI 4) dX4_wanted_10 (by decide) ?_
    refine gt_icmp_ge (tgt := 38) dX4_wanted_11 (by decide) (by omega) (by omega) (by omega) ?_
    refine gs_iload_n dX4_wanted_38 rfl rfl ?_
    refine g_ireturn dX4_wanted_39 rfl ?_
    have e : a = 4 := by omega
    subst e
    exact hK
  | succ k ih =>
    intro a ha
    have b1 := B_faultMany hB p
    have b2 := wcS_le S p a b1
    have b3 := cfS_le S p a (S.1 27 p)
    refine gs_iload_n dX4_wanted_9 rfl rfl ?_
    refine g_iconst (v := nI 4) dX4_wanted_10 (by decide) ?_
    refine gf_icmp_ge (tgt := 38) dX4_wanted_11 (by decide) (by omega) (by omega) (by omega) ?_
    refine gs_aload_n dX4_wanted_14 rfl rfl ?_
    refine gs_iload_n dX4_wanted_15 rfl rfl ?_
    refine g_cVI1 dX4_wanted_16 vX4_57 (by decide) (kPg hb h20) (by decide) (Nat.le_of_ble_eq_true rfl) (c_faultsOf hb hR hB hp (by omega)) ?_
    rintro _ σ ⟨rfl, e9⟩
    subst e9
    refine gs_istore (ls' := [_, _, _, _, _]) dX4_wanted_19 rfl rfl ?_
    refine g_iload dX4_wanted_21 rfl ?_
    refine gs_iload_n dX4_wanted_23 rfl rfl ?_
    refine gn_icmp_le (tgt := 32) dX4_wanted_24 (by decide) (by omega) (by omega) (fun c24 => ?_) (fun c24 => ?_)
    · refine gs_iinc (ls' := [_, _, _, _, _]) dX4_wanted_32 rfl (nI_add _ 1) rfl rfl ?_
      refine g_goto (tgt := 9) dX4_wanted_35 (by decide) ?_
      refine G.drop 4 (ls' := [_, _, _, _, none]) rfl ?_
      have q := ih (a + 1) (by omega)
      rw [show wcS S p (a + 1) = wcS S p a from by rw [wcS, if_neg (by omega)]] at q
      exact q
    · refine g_iload dX4_wanted_27 rfl ?_
      refine gs_istore_n (ls' := [_, _, _, _, _]) dX4_wanted_29 rfl rfl rfl ?_
      refine gs_iload_n dX4_wanted_30 rfl rfl ?_
      refine gs_istore_n (ls' := [_, _, _, _, _]) dX4_wanted_31 rfl rfl rfl ?_
      refine gs_iinc (ls' := [_, _, _, _, _]) dX4_wanted_32 rfl (nI_add _ 1) rfl rfl ?_
      refine g_goto (tgt := 9) dX4_wanted_35 (by decide) ?_
      refine G.drop 4 (ls' := [_, _, _, _, none]) rfl ?_
      have q := ih (a + 1) (by omega)
      rw [show wcS S p (a + 1) = (a, cfS S p a (S.1 27 p)) from by rw [wcS, if_pos (by omega)]] at q
      exact q
theorem c_wanted {b : Nat} {σ : Mm} {S : Sx} {Tf : Nat → Nat} (hb : mch b) (hR : RepC b σ S Tf) (hB : Bd S) {p : Nat} (hp : p < S.1 7 0) (hl : 0 < S.1 24 p) : RI W0 mX4_wanted [.ref (b + 18 + 3 * p)] σ (fun r τ => r = nI (wcS S p 4).1 ∧ τ = σ) := by
  have bP := B_P hB 0
  have h20 : p < 20 := by omega
  refine G.met (by decide) (Nat.le_of_ble_eq_true rfl) ?_
  show G _ _ _ 0 [some (.ref (b + 18 + 3 * p)), none, none, none, none] [] σ
  refine gs_aload_n dX4_wanted_0 rfl rfl ?_
  refine g_getI dX4_wanted_1 fX4_18 (kPg hb h20) (by decide) ((C_lies hR (by omega) (by omega)).trans (lzC_s hl)) ?_
  refine gs_istore_n (ls' := [_, _, _, _, _]) dX4_wanted_4 rfl rfl rfl ?_
  refine g_iconst (v := nI 0) dX4_wanted_5 (by decide) ?_
  refine gs_istore_n (ls' := [_, _, _, _, _]) dX4_wanted_6 rfl rfl rfl ?_
  refine g_iconst (v := nI 0) dX4_wanted_7 (by decide) ?_
  refine gs_istore_n (ls' := [_, _, _, _, _]) dX4_wanted_8 rfl rfl rfl ?_
  exact cl_wanted hb hR hB hp h20 ⟨_, rfl, rfl, rfl⟩ 4 0 (by omega)
def svP (S : Sx) (p to : Nat) : Nat → Bool
  | 0 => true
  | k + 1 => svP S p to k && (rcS S (S.1 28 (4 * p + (S.1 27 p - 1 - k))) (S.1 24 p - 1) && rcS S (S.1 28 (4 * p + (S.1 27 p - 1 - k))) to)
def svX (S : Sx) (p to : Nat) : Nat → Int32
  | 0 => nI 0
  | k + 1 => svX S p to k + (nI (S.1 5 (4 * S.1 28 (4 * p + (S.1 27 p - 1 - k)) + (S.1 24 p - 1))) - nI (S.1 5 (4 * S.1 28 (4 * p + (S.1 27 p - 1 - k)) + to)))
def svR (S : Sx) (p to : Nat) : Int32 := if svP S p to (S.1 27 p) = true then svX S p to (S.1 27 p) else nI 0
theorem svP_mono {S : Sx} {p to : Nat} {k : Nat} : ∀ m, k ≤ m → svP S p to k = false → svP S p to m = false := by
  intro m
  induction m with
  | zero => intro h e; have : k = 0 := by omega
            subst this; exact e
  | succ m ih =>
    intro h e
    by_cases q : k = m + 1
    · subst q; exact e
    · simp [svP, ih (by omega) e]
theorem cl_savingAt {b : Nat} {σ : Mm} {S : Sx} {Tf : Nat → Nat} {K : Option Value → Mm → Prop} (hb : mch b) (hR : RepC b σ S Tf) (hB : Bd S) {p to : Nat} (hp : p < S.1 7 0) (h20 : p < 20) (ht : to < S.1 0 0) (hl : 0 < S.1 24 p) (hln : S.1 24 p ≤ S.1 0 0) (hf : ∀ k, k < S.1 27 p → S.1 28 (4 * p + k) < S.1 0 0) (hK : K (some (.int (svR S p to))) σ) : ∀ k k0, k0 + k = S.1 27 p → svP S p to k0 = true → G W0 mX4_savingAt K 5 [some (.ref (b + 18 + 3 * p)), some (.int (nI to)), some (.ref 1), some (.int (svX S p to k0)), some (.int (nI k0))] [] σ := by
  intro k
  induction k with
  | zero =>
    intro k0 hk0 hv
    have b1 := B_faultMany hB p
    have b0 := B_nodes hB 0
    have b2 := hf (S.1 27 p - 1 - k0)
    refine g_iload dX4_savingAt_5 rfl ?_
    refine gs_aload_n dX4_savingAt_7 rfl rfl ?_
    refine g_getI dX4_savingAt_8 fX4_34 (kPg hb h20) (by decide) (C_faultMany hR (by omega) (by omega)) ?_
    refine gt_icmp_ge (tgt := 86) dX4_savingAt_11 (by decide) (by omega) (by omega) (by omega) ?_
    refine gs_iload_n dX4_savingAt_86 rfl rfl ?_
    refine g_ireturn dX4_savingAt_87 rfl ?_
    have e : k0 = S.1 27 p := by omega
    rw [e] at hv
    rw [svR, if_pos hv, ← e] at hK
    exact hK
  | succ k ih =>
    intro k0 hk0 hv
    have b1 := B_faultMany hB p
    have b0 := B_nodes hB 0
    have b2 := hf (S.1 27 p - 1 - k0)
    refine g_iload dX4_savingAt_5 rfl ?_
    refine gs_aload_n dX4_savingAt_7 rfl rfl ?_
    refine g_getI dX4_savingAt_8 fX4_34 (kPg hb h20) (by decide) (C_faultMany hR (by omega) (by omega)) ?_
    refine gf_icmp_ge (tgt := 86) dX4_savingAt_11 (by decide) (by omega) (by omega) (by omega) ?_
    refine gs_aload_n dX4_savingAt_14 rfl rfl ?_
    refine gs_aload_n dX4_savingAt_15 rfl rfl ?_
    refine g_getR dX4_savingAt_16 fX4_15 (kPg hb h20) (by decide) (rPg_faults hb h20) ?_
    refine g_iload dX4_savingAt_19 rfl ?_
    refine g_iald dX4_savingAt_21 (kPg_faults hb h20) (by omega) (hR.2.2.1 p k0 hp (by omega)) ?_
    refine gs_aload_n dX4_savingAt_22 rfl rfl ?_
    refine g_getI dX4_savingAt_23 fX4_18 (kPg hb h20) (by decide) ((C_lies hR (by omega) (by omega)).trans (lzC_s hl)) ?_
    refine g_cVI2 dX4_savingAt_26 vX4_61 (by decide) bdW0.1 (by decide) (Nat.le_of_ble_eq_true rfl) (c_reaches hb hR hB (hf _ (by omega)) (by omega)) ?_
    rintro _ σ ⟨rfl, e9⟩
    subst e9
    refine gb_if_eq (tgt := 47) dX4_savingAt_29 (by decide) (fun c29 => ?_) (fun c29 => ?_)
    · refine g_iconst (v := nI 0) dX4_savingAt_47 (by decide) ?_
      refine g_ireturn dX4_savingAt_48 rfl ?_
      have e1 : svP S p to (k0 + 1) = false := by simp [svP, c29]
      have e2 := svP_mono (S.1 27 p) (by omega) e1
      rw [svR, if_neg (by rw [e2]; decide)] at hK
      exact hK
    · refine gs_aload_n dX4_savingAt_32 rfl rfl ?_
      refine gs_aload_n dX4_savingAt_33 rfl rfl ?_
      refine g_getR dX4_savingAt_34 fX4_15 (kPg hb h20) (by decide) (rPg_faults hb h20) ?_
      refine g_iload dX4_savingAt_37 rfl ?_
      refine g_iald dX4_savingAt_39 (kPg_faults hb h20) (by omega) (hR.2.2.1 p k0 hp (by omega)) ?_
      refine gs_iload_n dX4_savingAt_40 rfl rfl ?_
      refine g_cVI2 dX4_savingAt_41 vX4_61 (by decide) bdW0.1 (by decide) (Nat.le_of_ble_eq_true rfl) (c_reaches hb hR hB (hf _ (by omega)) (by omega)) ?_
      rintro _ σ ⟨rfl, e9⟩
      subst e9
      refine gb_if_ne (tgt := 49) dX4_savingAt_44 (by decide) (fun c44 => ?_) (fun c44 => ?_)
      · refine gs_iload_n dX4_savingAt_49 rfl rfl ?_
        refine gs_aload_n dX4_savingAt_50 rfl rfl ?_
        refine gs_aload_n dX4_savingAt_51 rfl rfl ?_
        refine g_getR dX4_savingAt_52 fX4_15 (kPg hb h20) (by decide) (rPg_faults hb h20) ?_
        refine g_iload dX4_savingAt_55 rfl ?_
        refine g_iald dX4_savingAt_57 (kPg_faults hb h20) (by omega) (hR.2.2.1 p k0 hp (by omega)) ?_
        refine gs_aload_n dX4_savingAt_58 rfl rfl ?_
        refine g_getI dX4_savingAt_59 fX4_18 (kPg hb h20) (by decide) ((C_lies hR (by omega) (by omega)).trans (lzC_s hl)) ?_
        refine g_cVI2 dX4_savingAt_62 vX4_67 (by decide) bdW0.1 (by decide) (Nat.le_of_ble_eq_true rfl) (c_distance hb hR hB (hf _ (by omega)) (by omega)) ?_
        rintro _ σ ⟨rfl, e9⟩
        subst e9
        refine gs_aload_n dX4_savingAt_65 rfl rfl ?_
        refine gs_aload_n dX4_savingAt_66 rfl rfl ?_
        refine g_getR dX4_savingAt_67 fX4_15 (kPg hb h20) (by decide) (rPg_faults hb h20) ?_
        refine g_iload dX4_savingAt_70 rfl ?_
        refine g_iald dX4_savingAt_72 (kPg_faults hb h20) (by omega) (hR.2.2.1 p k0 hp (by omega)) ?_
        refine gs_iload_n dX4_savingAt_73 rfl rfl ?_
        refine g_cVI2 dX4_savingAt_74 vX4_67 (by decide) bdW0.1 (by decide) (Nat.le_of_ble_eq_true rfl) (c_distance hb hR hB (hf _ (by omega)) (by omega)) ?_
        rintro _ σ ⟨rfl, e9⟩
        subst e9
        refine g_isub dX4_savingAt_77 rfl ?_
        refine g_iadd dX4_savingAt_78 rfl ?_
        refine gs_istore_n (ls' := [_, _, _, _, _]) dX4_savingAt_79 rfl rfl rfl ?_
        refine gs_iinc (ls' := [_, _, _, _, _]) dX4_savingAt_80 rfl (nI_add _ 1) rfl rfl ?_
        refine g_goto (tgt := 5) dX4_savingAt_83 (by decide) ?_
        refine ih (k0 + 1) (by omega) (by simp [svP, hv, c29, c44])
      · refine g_iconst (v := nI 0) dX4_savingAt_47 (by decide) ?_
        refine g_ireturn dX4_savingAt_48 rfl ?_
        have e1 : svP S p to (k0 + 1) = false := by simp [svP, c44]
        have e2 := svP_mono (S.1 27 p) (by omega) e1
        rw [svR, if_neg (by rw [e2]; decide)] at hK
        exact hK
theorem c_savingAt {b : Nat} {σ : Mm} {S : Sx} {Tf : Nat → Nat} (hb : mch b) (hR : RepC b σ S Tf) (hB : Bd S) {p to : Nat} (hp : p < S.1 7 0) (ht : to < S.1 0 0) (hl : 0 < S.1 24 p) (hln : S.1 24 p ≤ S.1 0 0) (hf : ∀ k, k < S.1 27 p → S.1 28 (4 * p + k) < S.1 0 0) : RI W0 mX4_savingAt [.ref (b + 18 + 3 * p), .int (nI to), .ref 1] σ (fun r τ => r = svR S p to ∧ τ = σ) := by
  have bP := B_P hB 0
  have h20 : p < 20 := by omega
  refine G.met (by decide) (Nat.le_of_ble_eq_true rfl) ?_
  show G _ _ _ 0 [some (.ref (b + 18 + 3 * p)), some (.int (nI to)), some (.ref 1), none, none] [] σ
  refine g_iconst (v := nI 0) dX4_savingAt_0 (by decide) ?_
  refine gs_istore_n (ls' := [_, _, _, _, _]) dX4_savingAt_1 rfl rfl rfl ?_
  refine g_iconst (v := nI 0) dX4_savingAt_2 (by decide) ?_
  refine gs_istore (ls' := [_, _, _, _, _]) dX4_savingAt_3 rfl rfl ?_
  exact cl_savingAt hb hR hB hp h20 ht hl hln hf ⟨_, rfl, rfl, rfl⟩ (S.1 27 p) 0 (by omega) rfl
