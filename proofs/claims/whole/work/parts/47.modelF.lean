/-! The reference: useLinks, keepFault, wanted, pays. -/
theorem Bd_setN {S : Sx} {g i v : Nat} (hB : Bd S) (hv : v ≤ bnd g) : Bd (setN S g i v) := by
  intro g' i'
  simp only [setN]
  split
  · next h => rw [h.1]; exact hv
  · exact hB g' i'
theorem Bd_setV {S : Sx} {g i : Nat} {v : Int32} (hB : Bd S) : Bd (setV S g i v) := hB
theorem Bd_setQ {S : Sx} {a : Nat} {q : List Nat} (hB : Bd S) : Bd (setQ S a q) := hB
theorem bhL_eq {S S' : Sx} (h3 : S'.1 3 = S.1 3) (h5 : S'.1 5 = S.1 5) (a b : Nat) : ∀ k c, bhL S' a b k c = bhL S a b k c := by
  intro k
  induction k with
  | zero => intro c; rfl
  | succ k ih => intro c; simp only [bhL, h3, h5, ih]
theorem bh_eq {S S' : Sx} (h0 : S'.1 0 = S.1 0) (h3 : S'.1 3 = S.1 3) (h5 : S'.1 5 = S.1 5) (a b : Nat) : bh S' a b = bh S a b := by
  unfold bh; rw [h0, bhL_eq h3 h5]
theorem rhS_eq {S S' : Sx} (h0 : S'.1 0 = S.1 0) (h3 : S'.1 3 = S.1 3) (h5 : S'.1 5 = S.1 5) (b : Nat) : ∀ k h, rhS S' b k h ↔ rhS S b k h := by
  intro k
  induction k with
  | zero => intro h; exact Iff.rfl
  | succ k ih => intro h; simp only [rhS, bh_eq h0 h3 h5, ih]
theorem setN_ne {S : Sx} {g i v g' : Nat} (h : g' ≠ g) : (setN S g i v).1 g' = S.1 g' := by
  funext j; simp [setN, h]
theorem setN_at (S : Sx) (g i v g' i' : Nat) : (setN S g i v).1 g' i' = if g' = g ∧ i' = i then v else S.1 g' i' := rfl
theorem setV_1 (S : Sx) (g i : Nat) (v : Int32) : (setV S g i v).1 = S.1 := rfl
theorem setN_2 (S : Sx) (g i v : Nat) : (setN S g i v).2 = S.2 := rfl
theorem setV_at (S : Sx) (g i : Nat) (v : Int32) (g' i' : Nat) : (setV S g i v).2.1 g' i' = if g' = g ∧ i' = i then v else S.2.1 g' i' := rfl
theorem setV_2 (S : Sx) (g i : Nat) (v : Int32) : (setV S g i v).2.2 = S.2.2 := rfl
theorem l_useLinks {w : Nat} {σ0 : Mm} {K : Option Value → Mm → Prop} {a b : Nat} : ∀ k h σ S, Mq w σ0 S σ → Bd S → b < S.1 0 0 → h < S.1 0 0 → (∀ i, S.1 33 i + k ≤ 1000) → rhS S b k h → (∀ τ, Mq w σ0 (ulS b k S h) τ → K none τ) → G W0 mX12_useLinks K 2 [some (.ref 258), some (.int (nI a)), some (.int (nI b)), some (.int (nI h)), none, none] [] σ := by
  intro k
  induction k with
  | zero =>
    intro h σ S hQ hB hbn hh hL hr hK
    have hM := hQ.1
    have hC0 := hQ.2.1
    have hw := hC0.1
    have b0 := B_nodes hB 0
    have hr : h = b := hr
    refine gs_iload_n dX12_useLinks_2 rfl rfl ?_
    refine gs_iload_n dX12_useLinks_3 rfl rfl ?_
    refine gt_icmp_eq (tgt := 74) dX12_useLinks_4 (by decide) (by omega) (by omega) (by omega) ?_
    refine g_return dX12_useLinks_74 rfl ?_
    exact hK _ hQ
  | succ k ih =>
    intro h σ S hQ hB hbn hh hL hr hK
    have hM := hQ.1
    have hC0 := hQ.2.1
    have hw := hC0.1
    have b0 := B_nodes hB 0
    have hr : h = b ∨ rhS S b k (bh S h b) := hr
    have b1 := bh_lt (S := S) (a := h) hbn
    refine gs_iload_n dX12_useLinks_2 rfl rfl ?_
    refine gs_iload_n dX12_useLinks_3 rfl rfl ?_
    refine gn_icmp_eq (tgt := 74) dX12_useLinks_4 (by decide) (by omega) (by omega) (fun c4 => ?_) (fun c4 => ?_)
    · refine g_return dX12_useLinks_74 rfl ?_
      exact hK _ (by rw [ulS, if_pos c4]; exact hQ)
    · refine gs_aload_n dX12_useLinks_7 rfl rfl ?_
      refine gs_iload_n dX12_useLinks_8 rfl rfl ?_
      refine gs_iload_n dX12_useLinks_9 rfl rfl ?_
      refine g_cVI2 dX12_useLinks_10 vX12_223 (by decide) kwM (by decide) (Nat.le_of_ble_eq_true rfl) (s_behind hM hB hC0 (by omega) (by omega)) ?_
      rintro _ σ ⟨rfl, e9⟩
      subst e9
      refine gs_istore (ls' := [_, _, _, _, _, _]) dX12_useLinks_13 rfl rfl ?_
      refine g_bipush (v := nI 16) dX12_useLinks_15 (by decide) ?_
      refine gs_aload_n dX12_useLinks_17 rfl rfl ?_
      refine g_getI dX12_useLinks_18 fX12_243 kwM (by decide) hC0.2 ?_
      refine g_imul dX12_useLinks_21 (by first | exact pk_mul _ _ | rfl) ?_
      refine gs_iload_n dX12_useLinks_22 rfl rfl ?_
      refine g_iload dX12_useLinks_23 rfl ?_
      refine gn_icmp_ge (tgt := 37) dX12_useLinks_25 (by decide) (by omega) (by omega) (fun c25 => ?_) (fun c25 => ?_)
      · refine g_iconst (v := nI 4) dX12_useLinks_37 (by decide) ?_
        refine g_iload dX12_useLinks_38 rfl ?_
        refine g_imul dX12_useLinks_40 (by first | exact pk_mul _ _ | rfl) ?_
        refine gs_iload_n dX12_useLinks_41 rfl rfl ?_
        refine g_iadd dX12_useLinks_42 (by first | exact nI_add _ _ | rfl) ?_
        refine g_iadd dX12_useLinks_43 (by first | exact nI_add _ _ | rfl) ?_
        refine gs_istore (ls' := [_, _, _, _, _, _]) dX12_useLinks_44 rfl rfl ?_
        refine gs_aload_n dX12_useLinks_46 rfl rfl ?_
        refine g_getR dX12_useLinks_47 fX12_136 kwM (by decide) rM_linkNow ?_
        refine g_iload dX12_useLinks_50 rfl ?_
        refine g_dup2 dX12_useLinks_52 rfl rfl ?_
        refine g_iald dX12_useLinks_53 kw_linkNow (by omega) (M_linkNow hM (by omega)) ?_
        refine g_iconst (v := nI 1) dX12_useLinks_54 (by decide) ?_
        refine g_iadd dX12_useLinks_55 (by first | exact nI_add _ _ | rfl) ?_
        refine gq_iast dX12_useLinks_56 kw_linkNow (by omega) (Q_linkNow hQ (by omega)) (fun σ hQ => ?_)
        have hM := hQ.1
        have hC0 := hQ.2.1
        refine gs_aload_n dX12_useLinks_57 rfl rfl ?_
        refine g_getR dX12_useLinks_58 fX12_139 kwM (by decide) rM_linkWent ?_
        refine g_iload dX12_useLinks_61 rfl ?_
        refine g_dup2 dX12_useLinks_63 rfl rfl ?_
        refine g_iald dX12_useLinks_64 kw_linkWent (by omega) rfl ?_
        refine g_iconst (v := nI 1) dX12_useLinks_65 (by decide) ?_
        refine g_iadd dX12_useLinks_66 (by first | exact nI_add _ _ | rfl) ?_
        refine gq_iast dX12_useLinks_67 kw_linkWent (by omega) (QJ_linkWent hQ (by omega)) (fun σ hQ => ?_)
        have hM := hQ.1
        have hC0 := hQ.2.1
        refine g_iload dX12_useLinks_68 rfl ?_
        refine gs_istore_n (ls' := [_, _, _, _, _, _]) dX12_useLinks_70 rfl rfl rfl ?_
        refine g_goto (tgt := 2) dX12_useLinks_71 (by decide) ?_
        have e : ed h (bh S h b) = 4 * bh S h b + h := if_neg (by omega)
        refine G.drop 4 (ls' := [_, _, _, _, none, _]) rfl ?_
        refine G.drop 5 (ls' := [_, _, _, _, none, none]) rfl ?_
        refine ih _ _ _ hQ (Bd_setV (Bd_setN hB (by show _ ≤ 1000; have := hL (4 * bh S h b + h); omega))) hbn b1 (fun i => ?_) ((rhS_eq (S := S) (by rw [setV_1]; exact setN_ne (by decide)) (by rw [setV_1]; exact setN_ne (by decide)) (by rw [setV_1]; exact setN_ne (by decide)) b k _).mpr (hr.resolve_left c4)) (fun τ hτ => hK τ ?_)
        · rw [setV_1, setN_at]
          have := hL i
          have := hL (4 * bh S h b + h)
          split <;> omega
        · rw [ulS, if_neg c4, e]
          exact hτ
      · refine g_iconst (v := nI 4) dX12_useLinks_28 (by decide) ?_
        refine gs_iload_n dX12_useLinks_29 rfl rfl ?_
        refine g_imul dX12_useLinks_30 (by first | exact pk_mul _ _ | rfl) ?_
        refine g_iload dX12_useLinks_31 rfl ?_
        refine g_iadd dX12_useLinks_33 (by first | exact nI_add _ _ | rfl) ?_
        refine g_goto (tgt := 43) dX12_useLinks_34 (by decide) ?_
        refine g_iadd dX12_useLinks_43 (by first | exact nI_add _ _ | rfl) ?_
        refine gs_istore (ls' := [_, _, _, _, _, _]) dX12_useLinks_44 rfl rfl ?_
        refine gs_aload_n dX12_useLinks_46 rfl rfl ?_
        refine g_getR dX12_useLinks_47 fX12_136 kwM (by decide) rM_linkNow ?_
        refine g_iload dX12_useLinks_50 rfl ?_
        refine g_dup2 dX12_useLinks_52 rfl rfl ?_
        refine g_iald dX12_useLinks_53 kw_linkNow (by omega) (M_linkNow hM (by omega)) ?_
        refine g_iconst (v := nI 1) dX12_useLinks_54 (by decide) ?_
        refine g_iadd dX12_useLinks_55 (by first | exact nI_add _ _ | rfl) ?_
        refine gq_iast dX12_useLinks_56 kw_linkNow (by omega) (Q_linkNow hQ (by omega)) (fun σ hQ => ?_)
        have hM := hQ.1
        have hC0 := hQ.2.1
        refine gs_aload_n dX12_useLinks_57 rfl rfl ?_
        refine g_getR dX12_useLinks_58 fX12_139 kwM (by decide) rM_linkWent ?_
        refine g_iload dX12_useLinks_61 rfl ?_
        refine g_dup2 dX12_useLinks_63 rfl rfl ?_
        refine g_iald dX12_useLinks_64 kw_linkWent (by omega) rfl ?_
        refine g_iconst (v := nI 1) dX12_useLinks_65 (by decide) ?_
        refine g_iadd dX12_useLinks_66 (by first | exact nI_add _ _ | rfl) ?_
        refine gq_iast dX12_useLinks_67 kw_linkWent (by omega) (QJ_linkWent hQ (by omega)) (fun σ hQ => ?_)
        have hM := hQ.1
        have hC0 := hQ.2.1
        refine g_iload dX12_useLinks_68 rfl ?_
        refine gs_istore_n (ls' := [_, _, _, _, _, _]) dX12_useLinks_70 rfl rfl rfl ?_
        refine g_goto (tgt := 2) dX12_useLinks_71 (by decide) ?_
        have e : ed h (bh S h b) = 4 * h + bh S h b := if_pos c25
        refine G.drop 4 (ls' := [_, _, _, _, none, _]) rfl ?_
        refine G.drop 5 (ls' := [_, _, _, _, none, none]) rfl ?_
        refine ih _ _ _ hQ (Bd_setV (Bd_setN hB (by show _ ≤ 1000; have := hL (4 * h + bh S h b); omega))) hbn b1 (fun i => ?_) ((rhS_eq (S := S) (by rw [setV_1]; exact setN_ne (by decide)) (by rw [setV_1]; exact setN_ne (by decide)) (by rw [setV_1]; exact setN_ne (by decide)) b k _).mpr (hr.resolve_left c4)) (fun τ hτ => hK τ ?_)
        · rw [setV_1, setN_at]
          have := hL i
          have := hL (4 * h + bh S h b)
          split <;> omega
        · rw [ulS, if_neg c4, e]
          exact hτ
theorem s_useLinks {w : Nat} {σ : Mm} {S : Sx} (hM : RepM w σ S) (hB : Bd S) (hC0 : hC w σ) {a b : Nat} (ha : a < S.1 0 0) (hb : b < S.1 0 0) (hr : rhS S b 3 a) (hL : ∀ i, S.1 33 i ≤ 900) : RV W0 mX12_useLinks [.ref 258, .int (nI a), .int (nI b)] σ (fun τ => Mq w σ (ulS b 3 S a) τ) := by
  refine G.met (by decide) (Nat.le_of_ble_eq_true rfl) ?_
  show G _ _ _ 0 [some (.ref 258), some (.int (nI a)), some (.int (nI b)), none, none, none] [] σ
  refine gs_iload_n dX12_useLinks_0 rfl rfl ?_
  refine gs_istore_n (ls' := [_, _, _, _, _, _]) dX12_useLinks_1 rfl rfl rfl ?_
  exact l_useLinks 3 a σ S (Mq.rf hM hC0) hB hb ha (fun i => by have := hL i; omega) hr (fun τ hτ => ⟨rfl, hτ⟩)
theorem M_fnx {w : Nat} {σ : Mm} {S : Sx} (h : RepM w σ S) {j i : Nat} (hj : j = 80 * w + i) (hi : i < 80) : σ.1 283 j = nI (S.1 28 i) := by subst hj; exact M_faultNode h hi
theorem Q_fnx {w : Nat} {σ0 σ : Mm} {S : Sx} (h : Mq w σ0 S σ) {j i v : Nat} (hj : j = 80 * w + i) (hi : i < 80) : Mq w σ0 (setN S 28 i v) (wI σ 283 j (nI v)) := by subst hj; exact Q_faultNode h hi
/-- the node a comes to the faults of page p; the latest four are kept -/
def kfS (S : Sx) (p a : Nat) : Sx :=
  if S.1 27 p = 4 then setN (setN (setN (setN (setN (setN S 28 (4 * p) (S.1 28 (4 * p + 1))) 28 (4 * p + 1) (S.1 28 (4 * p + 2))) 28 (4 * p + 2) (S.1 28 (4 * p + 3))) 27 p 3) 28 (4 * p + 3) a) 27 p 4
  else setN (setN S 28 (4 * p + S.1 27 p) a) 27 p (S.1 27 p + 1)
theorem s_keepFault {w : Nat} {σ : Mm} {S : Sx} (hM : RepM w σ S) (hB : Bd S) (hC0 : hC w σ) {p a : Nat} (hp : p < 20) : RV W0 mX12_keepFault [.ref 258, .int (nI (20 * w + p)), .int (nI a)] σ (fun τ => Mq w σ (kfS S p a) τ) := by
  have hw := hC0.1
  have b1 := B_faultMany hB p
  have hQ := Mq.rf hM hC0
  refine G.met (by decide) (Nat.le_of_ble_eq_true rfl) ?_
  show G _ _ _ 0 [some (.ref 258), some (.int (nI (20 * w + p))), some (.int (nI a)), none] [] σ
  refine gs_aload_n dX12_keepFault_0 rfl rfl ?_
  refine g_getR dX12_keepFault_1 fX12_88 kwM (by decide) rM_faultMany ?_
  refine gs_iload_n dX12_keepFault_4 rfl rfl ?_
  refine g_iald dX12_keepFault_5 kw_faultMany (by omega) (M_faultMany hM (by omega)) ?_
  refine g_iconst (v := nI 4) dX12_keepFault_6 (by decide) ?_
  refine gn_icmp_ne (tgt := 52) dX12_keepFault_7 (by decide) (by omega) (by omega) (fun c7 => ?_) (fun c7 => ?_)
  · refine gs_aload_n dX12_keepFault_52 rfl rfl ?_
    refine g_getR dX12_keepFault_53 fX12_91 kwM (by decide) rM_faultNode ?_
    refine g_iconst (v := nI 4) dX12_keepFault_56 (by decide) ?_
    refine gs_iload_n dX12_keepFault_57 rfl rfl ?_
    refine g_imul dX12_keepFault_58 (by first | exact pk_mul _ _ | rfl) ?_
    refine gs_aload_n dX12_keepFault_59 rfl rfl ?_
    refine g_getR dX12_keepFault_60 fX12_88 kwM (by decide) rM_faultMany ?_
    refine gs_iload_n dX12_keepFault_63 rfl rfl ?_
    refine g_iald dX12_keepFault_64 kw_faultMany (by omega) (M_faultMany hM (by omega)) ?_
    refine g_iadd dX12_keepFault_65 (by first | exact nI_add _ _ | rfl) ?_
    refine gs_iload_n dX12_keepFault_66 rfl rfl ?_
    refine gq_iast dX12_keepFault_67 kw_faultNode (by omega) (Q_fnx hQ (i := 4 * p + S.1 27 p) (by omega) (by omega)) (fun σ hQ => ?_)
    have hM := hQ.1
    have hC0 := hQ.2.1
    refine gs_aload_n dX12_keepFault_68 rfl rfl ?_
    refine g_getR dX12_keepFault_69 fX12_88 kwM (by decide) rM_faultMany ?_
    refine gs_iload_n dX12_keepFault_72 rfl rfl ?_
    refine g_dup2 dX12_keepFault_73 rfl rfl ?_
    refine g_iald dX12_keepFault_74 kw_faultMany (by omega) (show _ = nI (S.1 27 p) from M_faultMany hM (by omega)) ?_
    refine g_iconst (v := nI 1) dX12_keepFault_75 (by decide) ?_
    refine g_iadd dX12_keepFault_76 (by first | exact nI_add _ _ | rfl) ?_
    refine gq_iast dX12_keepFault_77 kw_faultMany (by omega) (Q_faultMany hQ hp) (fun σ hQ => ?_)
    have hM := hQ.1
    have hC0 := hQ.2.1
    refine g_return dX12_keepFault_78 rfl ?_
    exact ⟨rfl, by rw [kfS, if_neg c7]; exact hQ⟩
  · refine g_iconst (v := nI 0) dX12_keepFault_10 (by decide) ?_
    refine gs_istore_n (ls' := [_, _, _, _]) dX12_keepFault_11 rfl rfl rfl ?_
    refine gs_iload_n dX12_keepFault_12 rfl rfl ?_
    refine g_iconst (v := nI 3) dX12_keepFault_13 (by decide) ?_
    refine gf_icmp_ge (tgt := 45) dX12_keepFault_14 (by decide) (by omega) (by omega) (by omega) ?_
    refine gs_aload_n dX12_keepFault_17 rfl rfl ?_
    refine g_getR dX12_keepFault_18 fX12_91 kwM (by decide) rM_faultNode ?_
    refine g_iconst (v := nI 4) dX12_keepFault_21 (by decide) ?_
    refine gs_iload_n dX12_keepFault_22 rfl rfl ?_
    refine g_imul dX12_keepFault_23 (by first | exact pk_mul _ _ | rfl) ?_
    refine gs_iload_n dX12_keepFault_24 rfl rfl ?_
    refine g_iadd dX12_keepFault_25 (by first | exact nI_add _ _ | rfl) ?_
    refine gs_aload_n dX12_keepFault_26 rfl rfl ?_
    refine g_getR dX12_keepFault_27 fX12_91 kwM (by decide) rM_faultNode ?_
    refine g_iconst (v := nI 4) dX12_keepFault_30 (by decide) ?_
    refine gs_iload_n dX12_keepFault_31 rfl rfl ?_
    refine g_imul dX12_keepFault_32 (by first | exact pk_mul _ _ | rfl) ?_
    refine gs_iload_n dX12_keepFault_33 rfl rfl ?_
    refine g_iadd dX12_keepFault_34 (by first | exact nI_add _ _ | rfl) ?_
    refine g_iconst (v := nI 1) dX12_keepFault_35 (by decide) ?_
    refine g_iadd dX12_keepFault_36 (by first | exact nI_add _ _ | rfl) ?_
    refine g_iald dX12_keepFault_37 kw_faultNode (by omega) (M_fnx hM (i := 4 * p + 1) (by omega) (by omega)) ?_
    refine gq_iast dX12_keepFault_38 kw_faultNode (by omega) (Q_fnx hQ (i := 4 * p) (by omega) (by omega)) (fun σ hQ => ?_)
    have hM := hQ.1
    have hC0 := hQ.2.1
    refine gs_iinc (ls' := [_, _, _, _]) dX12_keepFault_39 rfl (nI_add _ 1) rfl rfl ?_
    refine g_goto (tgt := 12) dX12_keepFault_42 (by decide) ?_
    refine gs_iload_n dX12_keepFault_12 rfl rfl ?_
    refine g_iconst (v := nI 3) dX12_keepFault_13 (by decide) ?_
    refine gf_icmp_ge (tgt := 45) dX12_keepFault_14 (by decide) (by omega) (by omega) (by omega) ?_
    refine gs_aload_n dX12_keepFault_17 rfl rfl ?_
    refine g_getR dX12_keepFault_18 fX12_91 kwM (by decide) rM_faultNode ?_
    refine g_iconst (v := nI 4) dX12_keepFault_21 (by decide) ?_
    refine gs_iload_n dX12_keepFault_22 rfl rfl ?_
    refine g_imul dX12_keepFault_23 (by first | exact pk_mul _ _ | rfl) ?_
    refine gs_iload_n dX12_keepFault_24 rfl rfl ?_
    refine g_iadd dX12_keepFault_25 (by first | exact nI_add _ _ | rfl) ?_
    refine gs_aload_n dX12_keepFault_26 rfl rfl ?_
    refine g_getR dX12_keepFault_27 fX12_91 kwM (by decide) rM_faultNode ?_
    refine g_iconst (v := nI 4) dX12_keepFault_30 (by decide) ?_
    refine gs_iload_n dX12_keepFault_31 rfl rfl ?_
    refine g_imul dX12_keepFault_32 (by first | exact pk_mul _ _ | rfl) ?_
    refine gs_iload_n dX12_keepFault_33 rfl rfl ?_
    refine g_iadd dX12_keepFault_34 (by first | exact nI_add _ _ | rfl) ?_
    refine g_iconst (v := nI 1) dX12_keepFault_35 (by decide) ?_
    refine g_iadd dX12_keepFault_36 (by first | exact nI_add _ _ | rfl) ?_
    refine g_iald dX12_keepFault_37 kw_faultNode (by omega) (show _ = nI (S.1 28 (4 * p + 2)) from (M_fnx hM (i := 4 * p + 2) (by omega) (by omega)).trans (by rw [setN_at, if_neg (by omega)])) ?_
    refine gq_iast dX12_keepFault_38 kw_faultNode (by omega) (Q_fnx hQ (i := 4 * p + 1) (by omega) (by omega)) (fun σ hQ => ?_)
    have hM := hQ.1
    have hC0 := hQ.2.1
    refine gs_iinc (ls' := [_, _, _, _]) dX12_keepFault_39 rfl (nI_add _ 1) rfl rfl ?_
    refine g_goto (tgt := 12) dX12_keepFault_42 (by decide) ?_
    refine gs_iload_n dX12_keepFault_12 rfl rfl ?_
    refine g_iconst (v := nI 3) dX12_keepFault_13 (by decide) ?_
    refine gf_icmp_ge (tgt := 45) dX12_keepFault_14 (by decide) (by omega) (by omega) (by omega) ?_
    refine gs_aload_n dX12_keepFault_17 rfl rfl ?_
    refine g_getR dX12_keepFault_18 fX12_91 kwM (by decide) rM_faultNode ?_
    refine g_iconst (v := nI 4) dX12_keepFault_21 (by decide) ?_
    refine gs_iload_n dX12_keepFault_22 rfl rfl ?_
    refine g_imul dX12_keepFault_23 (by first | exact pk_mul _ _ | rfl) ?_
    refine gs_iload_n dX12_keepFault_24 rfl rfl ?_
    refine g_iadd dX12_keepFault_25 (by first | exact nI_add _ _ | rfl) ?_
    refine gs_aload_n dX12_keepFault_26 rfl rfl ?_
    refine g_getR dX12_keepFault_27 fX12_91 kwM (by decide) rM_faultNode ?_
    refine g_iconst (v := nI 4) dX12_keepFault_30 (by decide) ?_
    refine gs_iload_n dX12_keepFault_31 rfl rfl ?_
    refine g_imul dX12_keepFault_32 (by first | exact pk_mul _ _ | rfl) ?_
    refine gs_iload_n dX12_keepFault_33 rfl rfl ?_
    refine g_iadd dX12_keepFault_34 (by first | exact nI_add _ _ | rfl) ?_
    refine g_iconst (v := nI 1) dX12_keepFault_35 (by decide) ?_
    refine g_iadd dX12_keepFault_36 (by first | exact nI_add _ _ | rfl) ?_
    refine g_iald dX12_keepFault_37 kw_faultNode (by omega) (show _ = nI (S.1 28 (4 * p + 3)) from (M_fnx hM (i := 4 * p + 3) (by omega) (by omega)).trans (by rw [setN_at, if_neg (by omega), setN_at, if_neg (by omega)])) ?_
    refine gq_iast dX12_keepFault_38 kw_faultNode (by omega) (Q_fnx hQ (i := 4 * p + 2) (by omega) (by omega)) (fun σ hQ => ?_)
    have hM := hQ.1
    have hC0 := hQ.2.1
    refine gs_iinc (ls' := [_, _, _, _]) dX12_keepFault_39 rfl (nI_add _ 1) rfl rfl ?_
    refine g_goto (tgt := 12) dX12_keepFault_42 (by decide) ?_
    refine gs_iload_n dX12_keepFault_12 rfl rfl ?_
    refine g_iconst (v := nI 3) dX12_keepFault_13 (by decide) ?_
    refine gt_icmp_ge (tgt := 45) dX12_keepFault_14 (by decide) (by omega) (by omega) (by omega) ?_
    refine gs_aload_n dX12_keepFault_45 rfl rfl ?_
    refine g_getR dX12_keepFault_46 fX12_88 kwM (by decide) rM_faultMany ?_
    refine gs_iload_n dX12_keepFault_49 rfl rfl ?_
    refine g_iconst (v := nI 3) dX12_keepFault_50 (by decide) ?_
    refine gq_iast dX12_keepFault_51 kw_faultMany (by omega) (Q_faultMany hQ hp) (fun σ hQ => ?_)
    have hM := hQ.1
    have hC0 := hQ.2.1
    refine gs_aload_n dX12_keepFault_52 rfl rfl ?_
    refine g_getR dX12_keepFault_53 fX12_91 kwM (by decide) rM_faultNode ?_
    refine g_iconst (v := nI 4) dX12_keepFault_56 (by decide) ?_
    refine gs_iload_n dX12_keepFault_57 rfl rfl ?_
    refine g_imul dX12_keepFault_58 (by first | exact pk_mul _ _ | rfl) ?_
    refine gs_aload_n dX12_keepFault_59 rfl rfl ?_
    refine g_getR dX12_keepFault_60 fX12_88 kwM (by decide) rM_faultMany ?_
    refine gs_iload_n dX12_keepFault_63 rfl rfl ?_
    refine g_iald dX12_keepFault_64 kw_faultMany (by omega) (show _ = nI 3 from (M_faultMany hM (by omega)).trans (by rw [setN_at, if_pos ⟨rfl, rfl⟩])) ?_
    refine g_iadd dX12_keepFault_65 (by first | exact nI_add _ _ | rfl) ?_
    refine gs_iload_n dX12_keepFault_66 rfl rfl ?_
    refine gq_iast dX12_keepFault_67 kw_faultNode (by omega) (Q_fnx hQ (i := 4 * p + 3) (by omega) (by omega)) (fun σ hQ => ?_)
    have hM := hQ.1
    have hC0 := hQ.2.1
    refine gs_aload_n dX12_keepFault_68 rfl rfl ?_
    refine g_getR dX12_keepFault_69 fX12_88 kwM (by decide) rM_faultMany ?_
    refine gs_iload_n dX12_keepFault_72 rfl rfl ?_
    refine g_dup2 dX12_keepFault_73 rfl rfl ?_
    refine g_iald dX12_keepFault_74 kw_faultMany (by omega) (show _ = nI 3 from (M_faultMany hM (by omega)).trans (by rw [setN_ne (by decide), setN_at, if_pos ⟨rfl, rfl⟩])) ?_
    refine g_iconst (v := nI 1) dX12_keepFault_75 (by decide) ?_
    refine g_iadd dX12_keepFault_76 (by first | exact nI_add _ _ | rfl) ?_
    refine gq_iast dX12_keepFault_77 kw_faultMany (by omega) (Q_faultMany hQ hp) (fun σ hQ => ?_)
    have hM := hQ.1
    have hC0 := hQ.2.1
    refine g_return dX12_keepFault_78 rfl ?_
    exact ⟨rfl, by rw [kfS, if_pos c7]; exact hQ⟩
/-- how many of the first k faults of page p are of node a -/
def cfS (S : Sx) (p a : Nat) : Nat → Nat
  | 0 => 0
  | k + 1 => cfS S p a k + (if S.1 28 (4 * p + k) = a then 1 else 0)
theorem cfS_le (S : Sx) (p a k : Nat) : cfS S p a k ≤ k := by
  induction k with
  | zero => exact Nat.le_refl _
  | succ k ih =>
    simp only [cfS]
    split <;> omega
/-- the best of the first nodes, and its number and 1 (0: none yet) -/
def wtS (S : Sx) (p : Nat) : Nat → Nat × Nat
  | 0 => (0, 0)
  | a + 1 => if (wtS S p a).2 < cfS S p a (S.1 27 p) + 1 then (a, cfS S p a (S.1 27 p) + 1) else wtS S p a
def moI (m : Nat) : Int32 := if m = 0 then -1 else nI (m - 1)
theorem moI_le {n m : Nat} (hn : n ≤ 4) (hm : m ≤ 5) : nI n ≤ moI m ↔ n + 1 ≤ m := by
  have h : ∀ n, n < 5 → ∀ m, m < 6 → (nI n ≤ moI m ↔ n + 1 ≤ m) := by decide +kernel
  exact h n (by omega) m (by omega)
theorem moI_s (n : Nat) : moI (n + 1) = nI n := by simp [moI]
theorem wtS_le (S : Sx) (p k : Nat) (h : S.1 27 p ≤ 4) : (wtS S p k).2 ≤ 5 ∧ (wtS S p k).1 ≤ k := by
  induction k with
  | zero => exact ⟨Nat.zero_le _, Nat.le_refl _⟩
  | succ k ih =>
    have := cfS_le S p k (S.1 27 p)
    simp only [wtS]
    split
    · exact ⟨by show cfS S p k (S.1 27 p) + 1 ≤ 5; omega, by show k ≤ k + 1; omega⟩
    · exact ⟨ih.1, by omega⟩
theorem l_wanted2 {w : Nat} {σ : Mm} {S : Sx} {K : Option Value → Mm → Prop} (hM : RepM w σ S) (hB : Bd S) (hC0 : hC w σ) {p a : Nat} {x2 x3 : Int32} (hp : p < 20) (ha : a < S.1 0 0) (hX : G W0 mX12_wanted K 65 [some (.ref 258), some (.int (nI (20 * w + p))), some (.int x2), some (.int x3), some (.int (nI a)), some (.int (nI (cfS S p a (S.1 27 p)))), none] [] σ) : ∀ k k0, k0 + k = S.1 27 p → G W0 mX12_wanted K 22 [some (.ref 258), some (.int (nI (20 * w + p))), some (.int x2), some (.int x3), some (.int (nI a)), some (.int (nI (cfS S p a k0))), some (.int (nI k0))] [] σ := by
  intro k
  induction k with
  | zero =>
    intro k0 hk0
    have hw := hC0.1
    have b0 := B_nodes hB 0
    have b1 := B_faultMany hB p
    have b5 := B_faultNode hB (4 * p + k0)
    have b6 := cfS_le S p a k0
    refine g_iload dX12_wanted_22 rfl ?_
    refine gs_aload_n dX12_wanted_24 rfl rfl ?_
    refine g_getR dX12_wanted_25 fX12_88 kwM (by decide) rM_faultMany ?_
    refine gs_iload_n dX12_wanted_28 rfl rfl ?_
    refine g_iald dX12_wanted_29 kw_faultMany (by omega) (M_faultMany hM (by omega)) ?_
    refine gt_icmp_ge (tgt := 65) dX12_wanted_30 (by decide) (by omega) (by omega) (by omega) ?_
    have e : k0 = S.1 27 p := by omega
    refine G.drop 6 (ls' := [_, _, _, _, _, _, none]) rfl ?_
    rw [e]
    exact hX
  | succ k ih =>
    intro k0 hk0
    have hw := hC0.1
    have b0 := B_nodes hB 0
    have b1 := B_faultMany hB p
    have b5 := B_faultNode hB (4 * p + k0)
    have b6 := cfS_le S p a k0
    refine g_iload dX12_wanted_22 rfl ?_
    refine gs_aload_n dX12_wanted_24 rfl rfl ?_
    refine g_getR dX12_wanted_25 fX12_88 kwM (by decide) rM_faultMany ?_
    refine gs_iload_n dX12_wanted_28 rfl rfl ?_
    refine g_iald dX12_wanted_29 kw_faultMany (by omega) (M_faultMany hM (by omega)) ?_
    refine gf_icmp_ge (tgt := 65) dX12_wanted_30 (by decide) (by omega) (by omega) (by omega) ?_
    refine g_iload dX12_wanted_33 rfl ?_
    refine gs_aload_n dX12_wanted_35 rfl rfl ?_
    refine g_getR dX12_wanted_36 fX12_91 kwM (by decide) rM_faultNode ?_
    refine g_iconst (v := nI 4) dX12_wanted_39 (by decide) ?_
    refine gs_iload_n dX12_wanted_40 rfl rfl ?_
    refine g_imul dX12_wanted_41 (by first | exact pk_mul _ _ | rfl) ?_
    refine g_iload dX12_wanted_42 rfl ?_
    refine g_iadd dX12_wanted_44 (by first | exact nI_add _ _ | rfl) ?_
    refine g_iald dX12_wanted_45 kw_faultNode (by omega) (M_fnx hM (i := 4 * p + k0) (by omega) (by omega)) ?_
    refine g_iload dX12_wanted_46 rfl ?_
    refine gn_icmp_ne (tgt := 55) dX12_wanted_48 (by decide) (by omega) (by omega) (fun c48 => ?_) (fun c48 => ?_)
    · refine g_iconst (v := nI 0) dX12_wanted_55 (by decide) ?_
      refine g_iadd dX12_wanted_56 (by first | exact nI_add _ _ | rfl) ?_
      refine gs_istore (ls' := [_, _, _, _, _, _, _]) dX12_wanted_57 rfl rfl ?_
      refine gs_iinc (ls' := [_, _, _, _, _, _, _]) dX12_wanted_59 rfl (nI_add _ 1) rfl rfl ?_
      refine g_goto (tgt := 22) dX12_wanted_62 (by decide) ?_
      have q := ih (k0 + 1) (by omega)
      rw [show cfS S p a (k0 + 1) = cfS S p a k0 + 0 from by rw [cfS, if_neg c48]] at q
      exact q
    · refine g_iconst (v := nI 1) dX12_wanted_51 (by decide) ?_
      refine g_goto (tgt := 56) dX12_wanted_52 (by decide) ?_
      refine g_iadd dX12_wanted_56 (by first | exact nI_add _ _ | rfl) ?_
      refine gs_istore (ls' := [_, _, _, _, _, _, _]) dX12_wanted_57 rfl rfl ?_
      refine gs_iinc (ls' := [_, _, _, _, _, _, _]) dX12_wanted_59 rfl (nI_add _ 1) rfl rfl ?_
      refine g_goto (tgt := 22) dX12_wanted_62 (by decide) ?_
      have q := ih (k0 + 1) (by omega)
      rw [show cfS S p a (k0 + 1) = cfS S p a k0 + 1 from by rw [cfS, if_pos c48]] at q
      exact q
theorem l_wanted {w : Nat} {σ : Mm} {S : Sx} {K : Option Value → Mm → Prop} (hM : RepM w σ S) (hB : Bd S) (hC0 : hC w σ) {p : Nat} (hp : p < 20) (hK : K (some (.int (nI (wtS S p (S.1 0 0)).1))) σ) : ∀ k a, a + k = S.1 0 0 → G W0 mX12_wanted K 7 [some (.ref 258), some (.int (nI (20 * w + p))), some (.int (nI (wtS S p a).1)), some (.int (moI (wtS S p a).2)), some (.int (nI a)), none, none] [] σ := by
  intro k
  induction k with
  | zero =>
    intro a ha
    have b0 := B_nodes hB 0
    have b1 := B_faultMany hB p
    have b7 := wtS_le S p a b1
    have b8 := cfS_le S p a (S.1 27 p)
    refine g_iload dX12_wanted_7 rfl ?_
    refine gs_aload_n dX12_wanted_9 rfl rfl ?_
    refine g_getI dX12_wanted_10 fX12_182 kwM (by decide) (M_nodes hM) ?_
    refine gt_icmp_ge (tgt := 97) dX12_wanted_13 (by decide) (by omega) (by omega) (by omega) ?_
    refine gs_iload_n dX12_wanted_97 rfl rfl ?_
    refine g_ireturn dX12_wanted_98 rfl ?_
    have e : a = S.1 0 0 := by omega
    subst e
    exact hK
  | succ k ih =>
    intro a ha
    have b0 := B_nodes hB 0
    have b1 := B_faultMany hB p
    have b7 := wtS_le S p a b1
    have b8 := cfS_le S p a (S.1 27 p)
    refine g_iload dX12_wanted_7 rfl ?_
    refine gs_aload_n dX12_wanted_9 rfl rfl ?_
    refine g_getI dX12_wanted_10 fX12_182 kwM (by decide) (M_nodes hM) ?_
    refine gf_icmp_ge (tgt := 97) dX12_wanted_13 (by decide) (by omega) (by omega) (by omega) ?_
    refine g_iconst (v := nI 0) dX12_wanted_16 (by decide) ?_
    refine gs_istore (ls' := [_, _, _, _, _, _, _]) dX12_wanted_17 rfl rfl ?_
    refine g_iconst (v := nI 0) dX12_wanted_19 (by decide) ?_
    refine gs_istore (ls' := [_, _, _, _, _, _, _]) dX12_wanted_20 rfl rfl ?_
    refine l_wanted2 hM hB hC0 hp (by omega) ?_ (S.1 27 p) 0 (by omega)
    refine g_iload dX12_wanted_65 rfl ?_
    refine gs_iload_n dX12_wanted_67 rfl rfl ?_
    refine g_icmp_le (tgt := 76) dX12_wanted_68 (by decide) (fun c68 => ?_) (fun c68 => ?_)
    · refine gs_iload_n dX12_wanted_76 rfl rfl ?_
      refine gs_istore_n (ls' := [_, _, _, _, _, _, _]) dX12_wanted_77 rfl rfl rfl ?_
      refine g_iload dX12_wanted_78 rfl ?_
      refine gs_iload_n dX12_wanted_80 rfl rfl ?_
      refine rt_icmp_le (tgt := 89) dX12_wanted_81 (by decide) c68 ?_
      refine gs_iload_n dX12_wanted_89 rfl rfl ?_
      refine gs_istore_n (ls' := [_, _, _, _, _, _, _]) dX12_wanted_90 rfl rfl rfl ?_
      refine gs_iinc (ls' := [_, _, _, _, _, _, _]) dX12_wanted_91 rfl (nI_add _ 1) rfl rfl ?_
      refine g_goto (tgt := 7) dX12_wanted_94 (by decide) ?_
      refine G.drop 5 (ls' := [_, _, _, _, _, none, _]) rfl ?_
      have q := ih (a + 1) (by omega)
      have c68 : cfS S p a (S.1 27 p) + 1 ≤ (wtS S p a).2 := (moI_le (by omega) b7.1).mp c68
      rw [show wtS S p (a + 1) = wtS S p a from by rw [wtS, if_neg (by omega)]] at q
      exact q
    · refine g_iload dX12_wanted_71 rfl ?_
      refine g_goto (tgt := 77) dX12_wanted_73 (by decide) ?_
      refine gs_istore_n (ls' := [_, _, _, _, _, _, _]) dX12_wanted_77 rfl rfl rfl ?_
      refine g_iload dX12_wanted_78 rfl ?_
      refine gs_iload_n dX12_wanted_80 rfl rfl ?_
      refine rf_icmp_le (tgt := 89) dX12_wanted_81 (by decide) c68 ?_
      refine g_iload dX12_wanted_84 rfl ?_
      refine g_goto (tgt := 90) dX12_wanted_86 (by decide) ?_
      refine gs_istore_n (ls' := [_, _, _, _, _, _, _]) dX12_wanted_90 rfl rfl rfl ?_
      refine gs_iinc (ls' := [_, _, _, _, _, _, _]) dX12_wanted_91 rfl (nI_add _ 1) rfl rfl ?_
      refine g_goto (tgt := 7) dX12_wanted_94 (by decide) ?_
      refine G.drop 5 (ls' := [_, _, _, _, _, none, _]) rfl ?_
      have q := ih (a + 1) (by omega)
      have c68 : ¬ cfS S p a (S.1 27 p) + 1 ≤ (wtS S p a).2 := fun z => c68 ((moI_le (by omega) b7.1).mpr z)
      rw [show wtS S p (a + 1) = (a, cfS S p a (S.1 27 p) + 1) from by rw [wtS, if_pos (by omega)], moI_s] at q
      exact q
theorem s_wanted {w : Nat} {σ : Mm} {S : Sx} (hM : RepM w σ S) (hB : Bd S) (hC0 : hC w σ) {p : Nat} (hp : p < 20) : RI W0 mX12_wanted [.ref 258, .int (nI (20 * w + p))] σ (fun r τ => r = nI (wtS S p (S.1 0 0)).1 ∧ τ = σ) := by
  refine G.met (by decide) (Nat.le_of_ble_eq_true rfl) ?_
  show G _ _ _ 0 [some (.ref 258), some (.int (nI (20 * w + p))), none, none, none, none, none] [] σ
  refine g_iconst (v := nI 0) dX12_wanted_0 (by decide) ?_
  refine gs_istore_n (ls' := [_, _, _, _, _, _, _]) dX12_wanted_1 rfl rfl rfl ?_
  refine g_iconst (v := -1) dX12_wanted_2 (by decide) ?_
  refine gs_istore_n (ls' := [_, _, _, _, _, _, _]) dX12_wanted_3 rfl rfl rfl ?_
  refine g_iconst (v := nI 0) dX12_wanted_4 (by decide) ?_
  refine gs_istore (ls' := [_, _, _, _, _, _, _]) dX12_wanted_5 rfl rfl ?_
  exact l_wanted hM hB hC0 hp ⟨_, rfl, rfl, rfl⟩ (S.1 0 0) 0 (by omega)
def wyS (S : Sx) (p to : Nat) : Nat → Bool
  | 0 => true
  | k + 1 => wyS S p to k && (rcS S (S.1 28 (4 * p + k)) (S.1 24 p - 1) && rcS S (S.1 28 (4 * p + k)) to)
def psS (S : Sx) (p to : Nat) : Nat → Int32
  | 0 => nI 0
  | k + 1 => psS S p to k + (nI (fz (S.1 5 (4 * S.1 28 (4 * p + k) + (S.1 24 p - 1)))) - nI (fz (S.1 5 (4 * S.1 28 (4 * p + k) + to))))
def pyS (S : Sx) (p to : Nat) : Bool := wyS S p to (S.1 27 p) && decide (nI (S.1 15 0) < psS S p to (S.1 27 p) * nI (S.1 22 0))
theorem l_pays {w : Nat} {σ : Mm} {S : Sx} {K : Option Value → Mm → Prop} (hM : RepM w σ S) (hB : Bd S) (hC0 : hC w σ) {p to : Nat} (hp : p < 20) (ht : to < 4) (hl : 0 < S.1 24 p) (hX : G W0 mX12_pays K 106 [some (.ref 258), some (.int (nI (20 * w + p))), some (.int (nI to)), some (.int (psS S p to (S.1 27 p))), some (.int (bI (wyS S p to (S.1 27 p)))), none, none] [] σ) : ∀ k k0, k0 + k = S.1 27 p → G W0 mX12_pays K 8 [some (.ref 258), some (.int (nI (20 * w + p))), some (.int (nI to)), some (.int (psS S p to k0)), some (.int (bI (wyS S p to k0))), some (.int (nI k0)), none] [] σ := by
  intro k
  induction k with
  | zero =>
    intro k0 hk0
    have hw := hC0.1
    have b0 := B_lies hB p
    have b1 := B_faultMany hB p
    have b5 := B_faultNode hB (4 * p + k0)
    refine g_iload dX12_pays_8 rfl ?_
    refine gs_aload_n dX12_pays_10 rfl rfl ?_
    refine g_getR dX12_pays_11 fX12_88 kwM (by decide) rM_faultMany ?_
    refine gs_iload_n dX12_pays_14 rfl rfl ?_
    refine g_iald dX12_pays_15 kw_faultMany (by omega) (M_faultMany hM (by omega)) ?_
    refine gt_icmp_ge (tgt := 106) dX12_pays_16 (by decide) (by omega) (by omega) (by omega) ?_
    have e : k0 = S.1 27 p := by omega
    refine G.drop 5 (ls' := [_, _, _, _, _, none, _]) rfl ?_
    rw [e]
    exact hX
  | succ k ih =>
    intro k0 hk0
    have hw := hC0.1
    have b0 := B_lies hB p
    have b1 := B_faultMany hB p
    have b5 := B_faultNode hB (4 * p + k0)
    refine g_iload dX12_pays_8 rfl ?_
    refine gs_aload_n dX12_pays_10 rfl rfl ?_
    refine g_getR dX12_pays_11 fX12_88 kwM (by decide) rM_faultMany ?_
    refine gs_iload_n dX12_pays_14 rfl rfl ?_
    refine g_iald dX12_pays_15 kw_faultMany (by omega) (M_faultMany hM (by omega)) ?_
    refine gf_icmp_ge (tgt := 106) dX12_pays_16 (by decide) (by omega) (by omega) (by omega) ?_
    refine gs_aload_n dX12_pays_19 rfl rfl ?_
    refine g_getR dX12_pays_20 fX12_91 kwM (by decide) rM_faultNode ?_
    refine g_iconst (v := nI 4) dX12_pays_23 (by decide) ?_
    refine gs_iload_n dX12_pays_24 rfl rfl ?_
    refine g_imul dX12_pays_25 (by first | exact pk_mul _ _ | rfl) ?_
    refine g_iload dX12_pays_26 rfl ?_
    refine g_iadd dX12_pays_28 (by first | exact nI_add _ _ | rfl) ?_
    refine g_iald dX12_pays_29 kw_faultNode (by omega) (M_fnx hM (i := 4 * p + k0) (by omega) (by omega)) ?_
    refine gs_istore (ls' := [_, _, _, _, _, _, _]) dX12_pays_30 rfl rfl ?_
    refine g_iload dX12_pays_32 rfl ?_
    refine gb_if_eq (tgt := 66) dX12_pays_34 (by decide) (fun c34 => ?_) (fun c34 => ?_)
    · refine g_iconst (v := nI 0) dX12_pays_66 (by decide) ?_
      refine gs_istore (ls' := [_, _, _, _, _, _, _]) dX12_pays_67 rfl rfl ?_
      refine gs_iload_n dX12_pays_69 rfl rfl ?_
      refine gs_aload_n dX12_pays_70 rfl rfl ?_
      refine g_getR dX12_pays_71 fX12_16 kwM (by decide) rM_far ?_
      refine g_iconst (v := nI 4) dX12_pays_74 (by decide) ?_
      refine g_iload dX12_pays_75 rfl ?_
      refine g_imul dX12_pays_77 (by first | exact pk_mul _ _ | rfl) ?_
      refine gs_aload_n dX12_pays_78 rfl rfl ?_
      refine g_getR dX12_pays_79 fX12_79 kwM (by decide) rM_lies ?_
      refine gs_iload_n dX12_pays_82 rfl rfl ?_
      refine g_iald dX12_pays_83 kw_lies (by omega) ((M_lies hM (by omega)).trans (lzM_s hl)) ?_
      refine g_iadd dX12_pays_84 (by first | exact nI_add _ _ | rfl) ?_
      refine g_iald dX12_pays_85 kw_far (by omega) ((M_far hM (by omega)).trans (fzM_nI _)) ?_
      refine gs_aload_n dX12_pays_86 rfl rfl ?_
      refine g_getR dX12_pays_87 fX12_16 kwM (by decide) rM_far ?_
      refine g_iconst (v := nI 4) dX12_pays_90 (by decide) ?_
      refine g_iload dX12_pays_91 rfl ?_
      refine g_imul dX12_pays_93 (by first | exact pk_mul _ _ | rfl) ?_
      refine gs_iload_n dX12_pays_94 rfl rfl ?_
      refine g_iadd dX12_pays_95 (by first | exact nI_add _ _ | rfl) ?_
      refine g_iald dX12_pays_96 kw_far (by omega) ((M_far hM (by omega)).trans (fzM_nI _)) ?_
      refine g_isub dX12_pays_97 rfl ?_
      refine g_iadd dX12_pays_98 rfl ?_
      refine gs_istore_n (ls' := [_, _, _, _, _, _, _]) dX12_pays_99 rfl rfl rfl ?_
      refine gs_iinc (ls' := [_, _, _, _, _, _, _]) dX12_pays_100 rfl (nI_add _ 1) rfl rfl ?_
      refine g_goto (tgt := 8) dX12_pays_103 (by decide) ?_
      refine G.drop 6 (ls' := [_, _, _, _, _, _, none]) rfl ?_
      have q := ih (k0 + 1) (by omega)
      rw [show wyS S p to (k0 + 1) = false from by simp [wyS, c34]] at q
      exact q
    · refine gs_aload_n dX12_pays_37 rfl rfl ?_
      refine g_iload dX12_pays_38 rfl ?_
      refine gs_aload_n dX12_pays_40 rfl rfl ?_
      refine g_getR dX12_pays_41 fX12_79 kwM (by decide) rM_lies ?_
      refine gs_iload_n dX12_pays_44 rfl rfl ?_
      refine g_iald dX12_pays_45 kw_lies (by omega) ((M_lies hM (by omega)).trans (lzM_s hl)) ?_
      refine g_cVI2 dX12_pays_46 vX12_220 (by decide) kwM (by decide) (Nat.le_of_ble_eq_true rfl) (s_isWay hM hB hC0 (by omega) (by omega)) ?_
      rintro _ _ ⟨rfl, rfl⟩
      refine gb_if_eq (tgt := 66) dX12_pays_49 (by decide) (fun c49 => ?_) (fun c49 => ?_)
      · refine g_iconst (v := nI 0) dX12_pays_66 (by decide) ?_
        refine gs_istore (ls' := [_, _, _, _, _, _, _]) dX12_pays_67 rfl rfl ?_
        refine gs_iload_n dX12_pays_69 rfl rfl ?_
        refine gs_aload_n dX12_pays_70 rfl rfl ?_
        refine g_getR dX12_pays_71 fX12_16 kwM (by decide) rM_far ?_
        refine g_iconst (v := nI 4) dX12_pays_74 (by decide) ?_
        refine g_iload dX12_pays_75 rfl ?_
        refine g_imul dX12_pays_77 (by first | exact pk_mul _ _ | rfl) ?_
        refine gs_aload_n dX12_pays_78 rfl rfl ?_
        refine g_getR dX12_pays_79 fX12_79 kwM (by decide) rM_lies ?_
        refine gs_iload_n dX12_pays_82 rfl rfl ?_
        refine g_iald dX12_pays_83 kw_lies (by omega) ((M_lies hM (by omega)).trans (lzM_s hl)) ?_
        refine g_iadd dX12_pays_84 (by first | exact nI_add _ _ | rfl) ?_
        refine g_iald dX12_pays_85 kw_far (by omega) ((M_far hM (by omega)).trans (fzM_nI _)) ?_
        refine gs_aload_n dX12_pays_86 rfl rfl ?_
        refine g_getR dX12_pays_87 fX12_16 kwM (by decide) rM_far ?_
        refine g_iconst (v := nI 4) dX12_pays_90 (by decide) ?_
        refine g_iload dX12_pays_91 rfl ?_
        refine g_imul dX12_pays_93 (by first | exact pk_mul _ _ | rfl) ?_
        refine gs_iload_n dX12_pays_94 rfl rfl ?_
        refine g_iadd dX12_pays_95 (by first | exact nI_add _ _ | rfl) ?_
        refine g_iald dX12_pays_96 kw_far (by omega) ((M_far hM (by omega)).trans (fzM_nI _)) ?_
        refine g_isub dX12_pays_97 rfl ?_
        refine g_iadd dX12_pays_98 rfl ?_
        refine gs_istore_n (ls' := [_, _, _, _, _, _, _]) dX12_pays_99 rfl rfl rfl ?_
        refine gs_iinc (ls' := [_, _, _, _, _, _, _]) dX12_pays_100 rfl (nI_add _ 1) rfl rfl ?_
        refine g_goto (tgt := 8) dX12_pays_103 (by decide) ?_
        refine G.drop 6 (ls' := [_, _, _, _, _, _, none]) rfl ?_
        have q := ih (k0 + 1) (by omega)
        rw [show wyS S p to (k0 + 1) = false from by simp [wyS, c49]] at q
        exact q
      · refine gs_aload_n dX12_pays_52 rfl rfl ?_
        refine g_iload dX12_pays_53 rfl ?_
        refine gs_iload_n dX12_pays_55 rfl rfl ?_
        refine g_cVI2 dX12_pays_56 vX12_220 (by decide) kwM (by decide) (Nat.le_of_ble_eq_true rfl) (s_isWay hM hB hC0 (by omega) (by omega)) ?_
        rintro _ _ ⟨rfl, rfl⟩
        refine gb_if_eq (tgt := 66) dX12_pays_59 (by decide) (fun c59 => ?_) (fun c59 => ?_)
        · refine g_iconst (v := nI 0) dX12_pays_66 (by decide) ?_
          refine gs_istore (ls' := [_, _, _, _, _, _, _]) dX12_pays_67 rfl rfl ?_
          refine gs_iload_n dX12_pays_69 rfl rfl ?_
          refine gs_aload_n dX12_pays_70 rfl rfl ?_
          refine g_getR dX12_pays_71 fX12_16 kwM (by decide) rM_far ?_
          refine g_iconst (v := nI 4) dX12_pays_74 (by decide) ?_
          refine g_iload dX12_pays_75 rfl ?_
          refine g_imul dX12_pays_77 (by first | exact pk_mul _ _ | rfl) ?_
          refine gs_aload_n dX12_pays_78 rfl rfl ?_
          refine g_getR dX12_pays_79 fX12_79 kwM (by decide) rM_lies ?_
          refine gs_iload_n dX12_pays_82 rfl rfl ?_
          refine g_iald dX12_pays_83 kw_lies (by omega) ((M_lies hM (by omega)).trans (lzM_s hl)) ?_
          refine g_iadd dX12_pays_84 (by first | exact nI_add _ _ | rfl) ?_
          refine g_iald dX12_pays_85 kw_far (by omega) ((M_far hM (by omega)).trans (fzM_nI _)) ?_
          refine gs_aload_n dX12_pays_86 rfl rfl ?_
          refine g_getR dX12_pays_87 fX12_16 kwM (by decide) rM_far ?_
          refine g_iconst (v := nI 4) dX12_pays_90 (by decide) ?_
          refine g_iload dX12_pays_91 rfl ?_
          refine g_imul dX12_pays_93 (by first | exact pk_mul _ _ | rfl) ?_
          refine gs_iload_n dX12_pays_94 rfl rfl ?_
          refine g_iadd dX12_pays_95 (by first | exact nI_add _ _ | rfl) ?_
          refine g_iald dX12_pays_96 kw_far (by omega) ((M_far hM (by omega)).trans (fzM_nI _)) ?_
          refine g_isub dX12_pays_97 rfl ?_
          refine g_iadd dX12_pays_98 rfl ?_
          refine gs_istore_n (ls' := [_, _, _, _, _, _, _]) dX12_pays_99 rfl rfl rfl ?_
          refine gs_iinc (ls' := [_, _, _, _, _, _, _]) dX12_pays_100 rfl (nI_add _ 1) rfl rfl ?_
          refine g_goto (tgt := 8) dX12_pays_103 (by decide) ?_
          refine G.drop 6 (ls' := [_, _, _, _, _, _, none]) rfl ?_
          have q := ih (k0 + 1) (by omega)
          rw [show wyS S p to (k0 + 1) = false from by simp [wyS, c59]] at q
          exact q
        · refine g_iconst (v := nI 1) dX12_pays_62 (by decide) ?_
          refine g_goto (tgt := 67) dX12_pays_63 (by decide) ?_
          refine gs_istore (ls' := [_, _, _, _, _, _, _]) dX12_pays_67 rfl rfl ?_
          refine gs_iload_n dX12_pays_69 rfl rfl ?_
          refine gs_aload_n dX12_pays_70 rfl rfl ?_
          refine g_getR dX12_pays_71 fX12_16 kwM (by decide) rM_far ?_
          refine g_iconst (v := nI 4) dX12_pays_74 (by decide) ?_
          refine g_iload dX12_pays_75 rfl ?_
          refine g_imul dX12_pays_77 (by first | exact pk_mul _ _ | rfl) ?_
          refine gs_aload_n dX12_pays_78 rfl rfl ?_
          refine g_getR dX12_pays_79 fX12_79 kwM (by decide) rM_lies ?_
          refine gs_iload_n dX12_pays_82 rfl rfl ?_
          refine g_iald dX12_pays_83 kw_lies (by omega) ((M_lies hM (by omega)).trans (lzM_s hl)) ?_
          refine g_iadd dX12_pays_84 (by first | exact nI_add _ _ | rfl) ?_
          refine g_iald dX12_pays_85 kw_far (by omega) ((M_far hM (by omega)).trans (fzM_nI _)) ?_
          refine gs_aload_n dX12_pays_86 rfl rfl ?_
          refine g_getR dX12_pays_87 fX12_16 kwM (by decide) rM_far ?_
          refine g_iconst (v := nI 4) dX12_pays_90 (by decide) ?_
          refine g_iload dX12_pays_91 rfl ?_
          refine g_imul dX12_pays_93 (by first | exact pk_mul _ _ | rfl) ?_
          refine gs_iload_n dX12_pays_94 rfl rfl ?_
          refine g_iadd dX12_pays_95 (by first | exact nI_add _ _ | rfl) ?_
          refine g_iald dX12_pays_96 kw_far (by omega) ((M_far hM (by omega)).trans (fzM_nI _)) ?_
          refine g_isub dX12_pays_97 rfl ?_
          refine g_iadd dX12_pays_98 rfl ?_
          refine gs_istore_n (ls' := [_, _, _, _, _, _, _]) dX12_pays_99 rfl rfl rfl ?_
          refine gs_iinc (ls' := [_, _, _, _, _, _, _]) dX12_pays_100 rfl (nI_add _ 1) rfl rfl ?_
          refine g_goto (tgt := 8) dX12_pays_103 (by decide) ?_
          refine G.drop 6 (ls' := [_, _, _, _, _, _, none]) rfl ?_
          have q := ih (k0 + 1) (by omega)
          rw [show wyS S p to (k0 + 1) = true from by simp [wyS, c34, c49, c59]] at q
          exact q
theorem s_pays {w : Nat} {σ : Mm} {S : Sx} (hM : RepM w σ S) (hB : Bd S) (hC0 : hC w σ) {p to : Nat} (hp : p < 20) (ht : to < 4) (hl : 0 < S.1 24 p) : RI W0 mX12_pays [.ref 258, .int (nI (20 * w + p)), .int (nI to)] σ (fun r τ => r = bI (pyS S p to) ∧ τ = σ) := by
  have hw := hC0.1
  refine G.met (by decide) (Nat.le_of_ble_eq_true rfl) ?_
  show G _ _ _ 0 [some (.ref 258), some (.int (nI (20 * w + p))), some (.int (nI to)), none, none, none, none] [] σ
  refine g_iconst (v := nI 0) dX12_pays_0 (by decide) ?_
  refine gs_istore_n (ls' := [_, _, _, _, _, _, _]) dX12_pays_1 rfl rfl rfl ?_
  refine g_iconst (v := nI 1) dX12_pays_2 (by decide) ?_
  refine gs_istore (ls' := [_, _, _, _, _, _, _]) dX12_pays_3 rfl rfl ?_
  refine g_iconst (v := nI 0) dX12_pays_5 (by decide) ?_
  refine gs_istore (ls' := [_, _, _, _, _, _, _]) dX12_pays_6 rfl rfl ?_
  refine l_pays hM hB hC0 hp ht hl ?_ (S.1 27 p) 0 (by omega)
  refine g_iload dX12_pays_106 rfl ?_
  refine gb_if_eq (tgt := 133) dX12_pays_108 (by decide) (fun c108 => ?_) (fun c108 => ?_)
  · refine g_iconst (v := nI 0) dX12_pays_133 (by decide) ?_
    refine g_zreturn dX12_pays_134 rfl (by first | exact bI_01 _ | decide) ?_
    exact ⟨_, rfl, by simp only [pyS, c108, Bool.false_and]; rfl, rfl⟩
  · refine gs_iload_n dX12_pays_111 rfl rfl ?_
    refine gs_aload_n dX12_pays_112 rfl rfl ?_
    refine g_getR dX12_pays_113 fX12_51 kwM (by decide) rM_gain ?_
    refine gs_aload_n dX12_pays_116 rfl rfl ?_
    refine g_getI dX12_pays_117 fX12_243 kwM (by decide) hC0.2 ?_
    refine g_iald dX12_pays_120 kw_gain (by omega) (M_gain hM) ?_
    refine g_imul dX12_pays_121 rfl ?_
    refine gs_aload_n dX12_pays_122 rfl rfl ?_
    refine g_getI dX12_pays_123 fX12_42 kwM (by decide) (M_movePrice hM) ?_
    refine g_icmp_le (tgt := 133) dX12_pays_126 (by decide) (fun c126 => ?_) (fun c126 => ?_)
    · refine g_iconst (v := nI 0) dX12_pays_133 (by decide) ?_
      refine g_zreturn dX12_pays_134 rfl (by first | exact bI_01 _ | decide) ?_
      exact ⟨_, rfl, by rw [pyS, decide_eq_false (fun z => absurd c126 (Int32.not_le.mpr z)), Bool.and_false]; rfl, rfl⟩
    · refine g_iconst (v := nI 1) dX12_pays_129 (by decide) ?_
      refine g_goto (tgt := 134) dX12_pays_130 (by decide) ?_
      refine g_zreturn dX12_pays_134 rfl (by first | exact bI_01 _ | decide) ?_
      exact ⟨_, rfl, by rw [pyS, c108, decide_eq_true (Int32.not_le.mp c126)]; rfl, rfl⟩
