/-! The reference: taken, hasRoom, allHaveRoom, emptiest. -/
theorem G.drop {Ω : Nat × Nat} {M : MI} {K : Option Value → Mm → Prop} {pc : Nat} {ls ls' : List (Option Value)} {st : List Value} {σ : Mm} (i : Nat) (hs : ls.set i none = ls') (h : G Ω M K pc ls' st σ) : G Ω M K pc ls st σ := by
  subst hs
  intro B D cA p l e s m args below meth c H locs la C hP hS hl
  refine h B D cA p l e s m args below meth c H locs la C hP hS ⟨hl.1, hl.2.1, fun j v hj => hl.2.2 j v ?_⟩
  rw [List.getElem?_set] at hj
  split at hj
  · split at hj <;> cases hj
  · exact hj
def bt (c a : Nat) : Nat := c / 2 ^ a % 2
theorem bt_eq {c a : Nat} (hc : c ≤ 15) (ha : a < 4) : ((nI c >>> (nI a &&& 31)) &&& nI 1) = nI (bt c a) := by
  have h : ∀ c, c < 16 → ∀ a, a < 4 → ((nI c >>> (nI a &&& 31)) &&& nI 1) = nI (bt c a) := by decide +kernel
  exact h c (by omega) a ha
theorem bt_le (c a : Nat) : bt c a ≤ 1 := by unfold bt; omega
theorem lzM_none {v : Nat} (hv : v ≤ 4) : lzM v = -2 ↔ v = 0 := by
  have h : ∀ v, v < 5 → (lzM v = -2 ↔ v = 0) := by decide +kernel
  exact h v (by omega)
theorem lzM_a {v a : Nat} (hv : v ≤ 4) (ha : a < 4) : lzM v = nI a ↔ v = a + 1 := by
  have h : ∀ v, v < 5 → ∀ a, a < 4 → (lzM v = nI a ↔ v = a + 1) := by decide +kernel
  exact h v (by omega) a ha
theorem lzM_s {v : Nat} (h : 0 < v) : lzM v = nI (v - 1) := if_neg (by omega)
/-- what page p takes on node a -/
def tkC (S : Sx) (a p : Nat) : Nat := if S.1 24 p = 0 then 0 else (if S.1 8 p = 2 ∨ S.1 24 p = a + 1 then 1 else 0) + bt (S.1 25 p) a
def tk (S : Sx) (a : Nat) : Nat → Nat
  | 0 => 0
  | p + 1 => tk S a p + tkC S a p
theorem tkC_le (S : Sx) (a p : Nat) : tkC S a p ≤ 2 := by
  unfold tkC
  have := bt_le (S.1 25 p) a
  split
  · omega
  · split <;> omega
theorem tk_le (S : Sx) (a p : Nat) : tk S a p ≤ 2 * p := by
  induction p with
  | zero => exact Nat.le_refl _
  | succ p ih =>
    have := tkC_le S a p
    simp only [tk]
    omega
def hC (w : Nat) (σ : Mm) : Prop := w < 2 ∧ σ.1 258 17 = nI w
theorem l_taken {w : Nat} {σ : Mm} {S : Sx} {K : Option Value → Mm → Prop} (hM : RepM w σ S) (hB : Bd S) (hC0 : hC w σ) {a : Nat} (ha : a < 4) (hK : K (some (.int (nI (tk S a (S.1 7 0))))) σ) : ∀ k p, p + k = S.1 7 0 → G W0 mX12_taken K 4 [some (.ref 258), some (.int (nI a)), some (.int (nI (tk S a p))), some (.int (nI p)), none] [] σ := by
  have b0 := B_P hB 0
  have hw := hC0.1
  intro k
  induction k with
  | zero =>
    intro p hp
    have b1 := B_lies hB p
    have b2 := B_copies hB p
    have b3 := B_kind hB p
    have b4 := tk_le S a p
    refine gs_iload_n dX12_taken_4 rfl rfl ?_
    refine gs_aload_n dX12_taken_5 rfl rfl ?_
    refine g_getI dX12_taken_6 fX12_197 kwM (by decide) (M_P hM) ?_
    refine gt_icmp_ge (tgt := 84) dX12_taken_9 (by decide) (by omega) (by omega) (by omega) ?_
    refine gs_iload_n dX12_taken_84 rfl rfl ?_
    refine g_ireturn dX12_taken_85 rfl ?_
    have e : p = S.1 7 0 := by omega
    subst e
    exact hK
  | succ k ih =>
    intro p hp
    have b1 := B_lies hB p
    have b2 := B_copies hB p
    have b3 := B_kind hB p
    have b4 := tk_le S a p
    have ih : ∀ p, p + k = S.1 7 0 → _ := ih
    refine gs_iload_n dX12_taken_4 rfl rfl ?_
    refine gs_aload_n dX12_taken_5 rfl rfl ?_
    refine g_getI dX12_taken_6 fX12_197 kwM (by decide) (M_P hM) ?_
    refine gn_icmp_ge (tgt := 84) dX12_taken_9 (by decide) (by omega) (by omega) (fun c9 => ?_) (fun c9 => ?_)
    · refine gs_iload_n dX12_taken_84 rfl rfl ?_
      refine g_ireturn dX12_taken_85 rfl ?_
      have e : p = S.1 7 0 := by omega
      subst e
      exact hK
    · refine g_bipush (v := nI 20) dX12_taken_12 (by decide) ?_
      refine gs_aload_n dX12_taken_14 rfl rfl ?_
      refine g_getI dX12_taken_15 fX12_243 kwM (by decide) hC0.2 ?_
      refine g_imul dX12_taken_18 (by first | exact pk_mul _ _ | rfl) ?_
      refine gs_iload_n dX12_taken_19 rfl rfl ?_
      refine g_iadd dX12_taken_20 (by first | exact nI_add _ _ | rfl) ?_
      refine gs_istore (ls' := [_, _, _, _, _]) dX12_taken_21 rfl rfl ?_
      refine gs_aload_n dX12_taken_23 rfl rfl ?_
      refine g_getR dX12_taken_24 fX12_79 kwM (by decide) rM_lies ?_
      refine g_iload dX12_taken_27 rfl ?_
      refine g_iald dX12_taken_29 kw_lies (by omega) (M_lies hM (by omega)) ?_
      refine g_bipush (v := -2) dX12_taken_30 (by decide) ?_
      refine g_icmp_eq (tgt := 78) dX12_taken_32 (by decide) (fun c32 => ?_) (fun c32 => ?_)
      · refine gs_iinc (ls' := [_, _, _, _, _]) dX12_taken_78 rfl (nI_add _ 1) rfl rfl ?_
        refine g_goto (tgt := 4) dX12_taken_81 (by decide) ?_
        refine G.drop 4 (ls' := [_, _, _, _, none]) rfl ?_
        rw [show tk S a p = tk S a (p + 1) from by simp only [tk, tkC, (lzM_none b1).mp c32, if_true]; rfl]
        exact ih (p + 1) (by omega)
      · refine gs_iload_n dX12_taken_35 rfl rfl ?_
        refine gs_aload_n dX12_taken_36 rfl rfl ?_
        refine g_getR dX12_taken_37 fX12_19 kwM (by decide) rM_kind ?_
        refine gs_iload_n dX12_taken_40 rfl rfl ?_
        refine g_iald dX12_taken_41 kw_kind (by omega) (M_kind hM (by omega)) ?_
        refine g_iconst (v := nI 2) dX12_taken_42 (by decide) ?_
        refine gn_icmp_eq (tgt := 57) dX12_taken_43 (by decide) (by omega) (by omega) (fun c43 => ?_) (fun c43 => ?_)
        · refine g_iconst (v := nI 1) dX12_taken_57 (by decide) ?_
          refine g_goto (tgt := 62) dX12_taken_58 (by decide) ?_
          refine g_iadd dX12_taken_62 (by first | exact nI_add _ _ | rfl) ?_
          refine gs_istore_n (ls' := [_, _, _, _, _]) dX12_taken_63 rfl rfl rfl ?_
          refine gs_iload_n dX12_taken_64 rfl rfl ?_
          refine gs_aload_n dX12_taken_65 rfl rfl ?_
          refine g_getR dX12_taken_66 fX12_82 kwM (by decide) rM_copies ?_
          refine g_iload dX12_taken_69 rfl ?_
          refine g_iald dX12_taken_71 kw_copies (by omega) (M_copies hM (by omega)) ?_
          refine gs_iload_n dX12_taken_72 rfl rfl ?_
          refine g_ishr dX12_taken_73 rfl ?_
          refine g_iconst (v := nI 1) dX12_taken_74 (by decide) ?_
          refine g_iand dX12_taken_75 (bt_eq b2 ha) ?_
          refine g_iadd dX12_taken_76 (by first | exact nI_add _ _ | rfl) ?_
          refine gs_istore_n (ls' := [_, _, _, _, _]) dX12_taken_77 rfl rfl rfl ?_
          refine gs_iinc (ls' := [_, _, _, _, _]) dX12_taken_78 rfl (nI_add _ 1) rfl rfl ?_
          refine g_goto (tgt := 4) dX12_taken_81 (by decide) ?_
          refine G.drop 4 (ls' := [_, _, _, _, none]) rfl ?_
          have c0 : ¬ S.1 24 p = 0 := fun q => c32 ((lzM_none b1).mpr q)
          rw [show tk S a p + 1 + bt (S.1 25 p) a = tk S a (p + 1) from by simp only [tk, tkC, c0, if_false, c43, true_or, if_true, Nat.add_assoc]]
          exact ih (p + 1) (by omega)
        · refine gs_aload_n dX12_taken_46 rfl rfl ?_
          refine g_getR dX12_taken_47 fX12_79 kwM (by decide) rM_lies ?_
          refine g_iload dX12_taken_50 rfl ?_
          refine g_iald dX12_taken_52 kw_lies (by omega) (M_lies hM (by omega)) ?_
          refine gs_iload_n dX12_taken_53 rfl rfl ?_
          refine g_icmp_ne (tgt := 61) dX12_taken_54 (by decide) (fun c54 => ?_) (fun c54 => ?_)
          · refine g_iconst (v := nI 0) dX12_taken_61 (by decide) ?_
            refine g_iadd dX12_taken_62 (by first | exact nI_add _ _ | rfl) ?_
            refine gs_istore_n (ls' := [_, _, _, _, _]) dX12_taken_63 rfl rfl rfl ?_
            refine gs_iload_n dX12_taken_64 rfl rfl ?_
            refine gs_aload_n dX12_taken_65 rfl rfl ?_
            refine g_getR dX12_taken_66 fX12_82 kwM (by decide) rM_copies ?_
            refine g_iload dX12_taken_69 rfl ?_
            refine g_iald dX12_taken_71 kw_copies (by omega) (M_copies hM (by omega)) ?_
            refine gs_iload_n dX12_taken_72 rfl rfl ?_
            refine g_ishr dX12_taken_73 rfl ?_
            refine g_iconst (v := nI 1) dX12_taken_74 (by decide) ?_
            refine g_iand dX12_taken_75 (bt_eq b2 ha) ?_
            refine g_iadd dX12_taken_76 (by first | exact nI_add _ _ | rfl) ?_
            refine gs_istore_n (ls' := [_, _, _, _, _]) dX12_taken_77 rfl rfl rfl ?_
            refine gs_iinc (ls' := [_, _, _, _, _]) dX12_taken_78 rfl (nI_add _ 1) rfl rfl ?_
            refine g_goto (tgt := 4) dX12_taken_81 (by decide) ?_
            refine G.drop 4 (ls' := [_, _, _, _, none]) rfl ?_
            have c0 : ¬ S.1 24 p = 0 := fun q => c32 ((lzM_none b1).mpr q)
            have c1 : ¬ S.1 24 p = a + 1 := fun q => c54 ((lzM_a b1 ha).mpr q)
            rw [show tk S a p + 0 + bt (S.1 25 p) a = tk S a (p + 1) from by simp only [tk, tkC, c0, if_false, c43, c1, or_self, Nat.add_zero, Nat.zero_add]]
            exact ih (p + 1) (by omega)
          · refine g_iconst (v := nI 1) dX12_taken_57 (by decide) ?_
            refine g_goto (tgt := 62) dX12_taken_58 (by decide) ?_
            refine g_iadd dX12_taken_62 (by first | exact nI_add _ _ | rfl) ?_
            refine gs_istore_n (ls' := [_, _, _, _, _]) dX12_taken_63 rfl rfl rfl ?_
            refine gs_iload_n dX12_taken_64 rfl rfl ?_
            refine gs_aload_n dX12_taken_65 rfl rfl ?_
            refine g_getR dX12_taken_66 fX12_82 kwM (by decide) rM_copies ?_
            refine g_iload dX12_taken_69 rfl ?_
            refine g_iald dX12_taken_71 kw_copies (by omega) (M_copies hM (by omega)) ?_
            refine gs_iload_n dX12_taken_72 rfl rfl ?_
            refine g_ishr dX12_taken_73 rfl ?_
            refine g_iconst (v := nI 1) dX12_taken_74 (by decide) ?_
            refine g_iand dX12_taken_75 (bt_eq b2 ha) ?_
            refine g_iadd dX12_taken_76 (by first | exact nI_add _ _ | rfl) ?_
            refine gs_istore_n (ls' := [_, _, _, _, _]) dX12_taken_77 rfl rfl rfl ?_
            refine gs_iinc (ls' := [_, _, _, _, _]) dX12_taken_78 rfl (nI_add _ 1) rfl rfl ?_
            refine g_goto (tgt := 4) dX12_taken_81 (by decide) ?_
            refine G.drop 4 (ls' := [_, _, _, _, none]) rfl ?_
            have c0 : ¬ S.1 24 p = 0 := fun q => c32 ((lzM_none b1).mpr q)
            have c1 : S.1 24 p = a + 1 := (lzM_a b1 ha).mp c54
            rw [show tk S a p + 1 + bt (S.1 25 p) a = tk S a (p + 1) from by rw [tk, tkC, if_neg c0, if_pos (Or.inr c1)]; omega]
            exact ih (p + 1) (by omega)
theorem s_taken {w : Nat} {σ : Mm} {S : Sx} (hM : RepM w σ S) (hB : Bd S) (hC0 : hC w σ) {a : Nat} (ha : a < 4) : RI W0 mX12_taken [.ref 258, .int (nI a)] σ (fun r τ => r = nI (tk S a (S.1 7 0)) ∧ τ = σ) := by
  refine G.met (by decide) (Nat.le_of_ble_eq_true rfl) ?_
  show G _ _ _ 0 [some (.ref 258), some (.int (nI a)), none, none, none] [] σ
  refine g_iconst (v := nI 0) dX12_taken_0 (by decide) ?_
  refine gs_istore_n (ls' := [_, _, _, _, _]) dX12_taken_1 rfl rfl rfl ?_
  refine g_iconst (v := nI 0) dX12_taken_2 (by decide) ?_
  refine gs_istore_n (ls' := [_, _, _, _, _]) dX12_taken_3 rfl rfl rfl ?_
  exact l_taken hM hB hC0 ha ⟨_, rfl, rfl, rfl⟩ (S.1 7 0) 0 (by omega)
