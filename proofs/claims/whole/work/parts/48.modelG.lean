/-! The reference: faulted, copied, fail, underWay, isReady, first. -/
/-- a page's fault at a thread of node a: the state, the price, whether it moved -/
def ft1 (S : Sx) (p : Nat) : Sx := setV (setN S 26 p 0) 4 0 (S.2.1 4 0 + nI 1)
def ft2 (S : Sx) (p a : Nat) : Sx := kfS (ft1 S p) p a
def ftTo (S : Sx) (p a : Nat) : Nat := (wtS (ft2 S p a) p (S.1 0 0)).1
def ftMv (S : Sx) (p a : Nat) : Bool := decide (S.1 8 p = 0) && (decide (S.1 24 p ≠ ftTo S p a + 1) && (pyS (ft2 S p a) p (ftTo S p a) && hrS (ft2 S p a) (ftTo S p a)))
def ft3 (S : Sx) (p to : Nat) : Sx := setV (setV (setN S 24 p (to + 1)) 7 p (S.2.1 7 p + nI 1)) 5 0 (S.2.1 5 0 + nI 1)
def ftS (S : Sx) (p a : Nat) : Sx := if ftMv S p a = true then ft3 (ft2 S p a) p (ftTo S p a) else ft2 S p a
def ftC (S : Sx) (p a : Nat) : Nat := S.1 14 0 + (if ftMv S p a = true then S.1 15 0 else 0)
theorem kfS_ne {S : Sx} {p a g : Nat} (h1 : g ≠ 27) (h2 : g ≠ 28) : (kfS S p a).1 g = S.1 g := by
  unfold kfS
  split
  · simp only [setN_ne h1, setN_ne h2]
  · simp only [setN_ne h1, setN_ne h2]
theorem Bd_kfS {S : Sx} {p a : Nat} (hB : Bd S) (ha : a ≤ 3) : Bd (kfS S p a) := by
  have h1 := B_faultMany hB p
  unfold kfS
  split
  · exact Bd_setN (Bd_setN (Bd_setN (Bd_setN (Bd_setN (Bd_setN hB (hB 28 _)) (hB 28 _)) (hB 28 _)) (by decide)) ha) (by decide)
  · exact Bd_setN (Bd_setN hB ha) (show _ ≤ 4 by omega)
theorem Bd_ft2 {S : Sx} {p a : Nat} (hB : Bd S) (ha : a ≤ 3) : Bd (ft2 S p a) := Bd_kfS (Bd_setV (Bd_setN hB (by decide))) ha
theorem ft2_ne {S : Sx} {p a g : Nat} (h1 : g ≠ 27) (h2 : g ≠ 28) (h3 : g ≠ 26) : (ft2 S p a).1 g = S.1 g := by
  unfold ft2 ft1
  rw [kfS_ne h1 h2, setV_1, setN_ne h3]
theorem ftTo_lt {S : Sx} {p a : Nat} (hB : Bd S) (ha : a ≤ 3) (hn : 2 ≤ S.1 0 0) : ftTo S p a < S.1 0 0 := by
  have hB2 := Bd_ft2 (p := p) hB ha
  unfold ftTo
  have h : ∀ k, 0 < k → (wtS (ft2 S p a) p k).1 < k := by
    intro k
    induction k with
    | zero => intro h; omega
    | succ k ih =>
      intro _
      simp only [wtS]
      split
      · show k < k + 1; omega
      · rcases Nat.eq_zero_or_pos k with q | q
        · subst q; show 0 < 0 + 1; omega
        · have := ih q; omega
  exact h _ (by omega)
theorem fP54 : FP RX12 264 12 54 .boolean := pX12_264
theorem fP55 : FP RX12 278 12 55 .boolean := pX12_278
section
variable {Ω : Nat × Nat} {M : MI} {K : Option Value → Mm → Prop} {pc : Nat} {ls : List (Option Value)} {st : List Value} {σ : Mm}
/-- a write of didFault or didMove: a new beginning -/
theorem gw_putI {idx j : Nat} {x : Int32} {ty : FieldType} (d : decode (ic M) pc = .ok (.putfield idx, 3)) (f : FP (iy M).cls idx 12 j ty) (ha : kw Ω 258 = (12, 65)) (hq : 12 < 20 ∧ j < 65 ∧ isR 12 j = false) (hty : ty = .int ∨ (ty = .boolean ∧ (x = 0 ∨ x = 1))) {w : Nat} {σ0 : Mm} {S : Sx} (h : Mw w σ0 S σ) (ho : offM 258 j = true) (h3 : j ≠ 17) (k : ∀ τ, Mw w σ0 S τ → (∀ i, τ.1 258 i = if i = j then x else σ.1 258 i) → G Ω M K (pc + 3) ls st τ) : G Ω M K pc ls (.int x :: .ref 258 :: st) σ :=
  g_putI d f ha hq hty (k _ (h.off ho h3) (fun i => by rw [wI_at]; simp))
end
def hD (df dm : Bool) (σ : Mm) : Prop := σ.1 258 54 = bI df ∧ σ.1 258 55 = bI dm
theorem s_faulted {w : Nat} {σ : Mm} {S : Sx} (hM : RepM w σ S) (hB : Bd S) (hC0 : hC w σ) {p a : Nat} (hp : p < 20) (ha : a < S.1 0 0) (hn : 2 ≤ S.1 0 0) (hl : 0 < S.1 24 p) {df : Bool} (hd : σ.1 258 55 = bI false) : RI W0 mX12_faulted [.ref 258, .int (nI p), .int (nI a)] σ (fun r τ => r = nI (ftC S p a) ∧ Mw w σ (ftS S p a) τ ∧ hD true (ftMv S p a) τ) := by
  have hw := hC0.1
  have b0 := B_nodes hB 0
  have b2 := B_kind hB p
  have b3 := B_lies hB p
  have ha3 : a ≤ 3 := by omega
  have hto := ftTo_lt (p := p) hB ha3 hn
  have hQ := Mq.rf hM hC0
  refine G.met (by decide) (Nat.le_of_ble_eq_true rfl) ?_
  show G _ _ _ 0 [some (.ref 258), some (.int (nI p)), some (.int (nI a)), none, none] [] σ
  refine g_bipush (v := nI 20) dX12_faulted_0 (by decide) ?_
  refine gs_aload_n dX12_faulted_2 rfl rfl ?_
  refine g_getI dX12_faulted_3 fX12_243 kwM (by decide) hC0.2 ?_
  refine g_imul dX12_faulted_6 (by first | exact pk_mul _ _ | rfl) ?_
  refine gs_iload_n dX12_faulted_7 rfl rfl ?_
  refine g_iadd dX12_faulted_8 (by first | exact nI_add _ _ | rfl) ?_
  refine gs_istore_n (ls' := [_, _, _, _, _]) dX12_faulted_9 rfl rfl rfl ?_
  refine gs_aload_n dX12_faulted_10 rfl rfl ?_
  refine g_getR dX12_faulted_11 fX12_85 kwM (by decide) rM_hidden ?_
  refine gs_iload_n dX12_faulted_14 rfl rfl ?_
  refine g_iconst (v := nI 0) dX12_faulted_15 (by decide) ?_
  refine gq_zast dX12_faulted_16 kw_hidden (by omega) (by first | exact bI_01 _ | decide) (Q_hidden hQ hp) (fun σ hQ => ?_)
  have hM := hQ.1
  have hC0 := hQ.2.1
  refine gs_aload_n dX12_faulted_17 rfl rfl ?_
  refine g_iconst (v := nI 1) dX12_faulted_18 (by decide) ?_
  have hO0 := congrFun hQ.2.2.1.2.1 55
  refine gw_putI dX12_faulted_19 fP54 kwM (by decide) (Or.inr ⟨rfl, by decide⟩) (S := setN S 26 p 0) hQ.weak (by decide) (by decide) (fun σ1 hW1 hO1 => ?_)
  obtain ⟨σ, eσ⟩ : ∃ t, t = σ1 := ⟨_, rfl⟩
  subst eσ
  have hM := hW1.1
  have hC0 := hW1.2.1
  have hQ := Mq.rf hM hC0
  have hB1 : Bd (ft1 S p) := Bd_setV (Bd_setN hB (by decide))
  have hB2 := Bd_ft2 (p := p) hB ha3
  refine gs_aload_n dX12_faulted_22 rfl rfl ?_
  refine g_getR dX12_faulted_23 fX12_67 kwM (by decide) rM_faults ?_
  refine gs_aload_n dX12_faulted_26 rfl rfl ?_
  refine g_getI dX12_faulted_27 fX12_243 kwM (by decide) hC0.2 ?_
  refine g_dup2 dX12_faulted_30 rfl rfl ?_
  refine g_iald dX12_faulted_31 kw_faults (by omega) rfl ?_
  refine g_iconst (v := nI 1) dX12_faulted_32 (by decide) ?_
  refine g_iadd dX12_faulted_33 (by first | exact nI_add _ _ | rfl) ?_
  refine gq_iast dX12_faulted_34 kw_faults (by omega) (QJ_faults hQ) (fun σ hQ => ?_)
  have hM := hQ.1
  have hC0 := hQ.2.1
  refine gs_aload_n dX12_faulted_35 rfl rfl ?_
  refine gs_iload_n dX12_faulted_36 rfl rfl ?_
  refine gs_iload_n dX12_faulted_37 rfl rfl ?_
  refine g_cVV2 dX12_faulted_38 vX12_268 (by decide) kwM (by decide) (Nat.le_of_ble_eq_true rfl) (s_keepFault hM hB1 hC0 hp) ?_
  rintro σ hQ9
  have hQ := hQ.tr hQ9
  have hM : RepM w σ (ft2 S p a) := hQ.1
  have hC0 := hQ.2.1
  refine gs_aload_n dX12_faulted_41 rfl rfl ?_
  refine gs_iload_n dX12_faulted_42 rfl rfl ?_
  refine g_cVI1 dX12_faulted_43 vX12_272 (by decide) kwM (by decide) (Nat.le_of_ble_eq_true rfl) (s_wanted hM hB2 hC0 hp) ?_
  rintro r9 σ ⟨q9, e9⟩
  subst e9
  have q9 : r9 = nI (ftTo S p a) := by rw [q9, ftTo, ft2_ne (g := 0) (by decide) (by decide) (by decide)]
  subst q9
  refine gs_istore (ls' := [_, _, _, _, _]) dX12_faulted_46 rfl rfl ?_
  refine gs_aload_n dX12_faulted_48 rfl rfl ?_
  refine g_getR dX12_faulted_49 fX12_19 kwM (by decide) rM_kind ?_
  refine gs_iload_n dX12_faulted_52 rfl rfl ?_
  refine g_iald dX12_faulted_53 kw_kind (by omega) (show _ = nI (S.1 8 p) from (M_kind hM (by omega)).trans (by rw [ft2_ne (by decide) (by decide) (by decide)])) ?_
  refine gn_if_ne (tgt := 133) dX12_faulted_54 (by decide) (by omega) (fun c54 => ?_) (fun c54 => ?_)
  · refine gs_aload_n dX12_faulted_133 rfl rfl ?_
    refine g_getI dX12_faulted_134 fX12_38 kwM (by decide) (show _ = nI (S.1 14 0) from (M_faultPrice hM).trans (by rw [ft2_ne (by decide) (by decide) (by decide)])) ?_
    refine g_ireturn dX12_faulted_137 rfl ?_
    have e1 : ftMv S p a = false := by
      rw [ftMv, decide_eq_false (by omega), Bool.false_and]
    refine ⟨_, rfl, by rw [ftC, e1]; rfl, ?_, ?_⟩
    · rw [ftS, e1]
      exact hW1.tr hQ.weak
    · rw [e1]
      have h8 := hQ.2.2.1.2.1
      exact ⟨by rw [h8, hO1, if_pos rfl]; rfl, by rw [h8, hO1, if_neg (by decide), hO0]; exact hd⟩
  · refine g_iload dX12_faulted_57 rfl ?_
    refine gs_aload_n dX12_faulted_59 rfl rfl ?_
    refine g_getR dX12_faulted_60 fX12_79 kwM (by decide) rM_lies ?_
    refine gs_iload_n dX12_faulted_63 rfl rfl ?_
    refine g_iald dX12_faulted_64 kw_lies (by omega) (show _ = lzM (S.1 24 p) from (M_lies hM (by omega)).trans (by rw [ft2_ne (by decide) (by decide) (by decide)])) ?_
    refine g_icmp_eq (tgt := 133) dX12_faulted_65 (by decide) (fun c65 => ?_) (fun c65 => ?_)
    · refine gs_aload_n dX12_faulted_133 rfl rfl ?_
      refine g_getI dX12_faulted_134 fX12_38 kwM (by decide) (show _ = nI (S.1 14 0) from (M_faultPrice hM).trans (by rw [ft2_ne (by decide) (by decide) (by decide)])) ?_
      refine g_ireturn dX12_faulted_137 rfl ?_
      have e1 : ftMv S p a = false := by
        have : S.1 24 p = ftTo S p a + 1 := (lzM_a b3 (by omega)).mp c65.symm
        simp [ftMv, this]
      refine ⟨_, rfl, by rw [ftC, e1]; rfl, ?_, ?_⟩
      · rw [ftS, e1]
        exact hW1.tr hQ.weak
      · rw [e1]
        have h8 := hQ.2.2.1.2.1
        exact ⟨by rw [h8, hO1, if_pos rfl]; rfl, by rw [h8, hO1, if_neg (by decide), hO0]; exact hd⟩
    · refine gs_aload_n dX12_faulted_68 rfl rfl ?_
      refine gs_iload_n dX12_faulted_69 rfl rfl ?_
      refine g_iload dX12_faulted_70 rfl ?_
      refine g_cVI2 dX12_faulted_72 vX12_275 (by decide) kwM (by decide) (Nat.le_of_ble_eq_true rfl) (s_pays hM hB2 hC0 hp (by omega) (by rw [ft2_ne (by decide) (by decide) (by decide)]; exact hl)) ?_
      rintro _ σ ⟨rfl, e9⟩
      subst e9
      refine gb_if_eq (tgt := 133) dX12_faulted_75 (by decide) (fun c75 => ?_) (fun c75 => ?_)
      · refine gs_aload_n dX12_faulted_133 rfl rfl ?_
        refine g_getI dX12_faulted_134 fX12_38 kwM (by decide) (show _ = nI (S.1 14 0) from (M_faultPrice hM).trans (by rw [ft2_ne (by decide) (by decide) (by decide)])) ?_
        refine g_ireturn dX12_faulted_137 rfl ?_
        have e1 : ftMv S p a = false := by
          simp only [ftMv]; rw [show pyS (ft2 S p a) p (ftTo S p a) = false from c75]; simp
        refine ⟨_, rfl, by rw [ftC, e1]; rfl, ?_, ?_⟩
        · rw [ftS, e1]
          exact hW1.tr hQ.weak
        · rw [e1]
          have h8 := hQ.2.2.1.2.1
          exact ⟨by rw [h8, hO1, if_pos rfl]; rfl, by rw [h8, hO1, if_neg (by decide), hO0]; exact hd⟩
      · refine gs_aload_n dX12_faulted_78 rfl rfl ?_
        refine g_iload dX12_faulted_79 rfl ?_
        refine g_cVI1 dX12_faulted_81 vX12_250 (by decide) kwM (by decide) (Nat.le_of_ble_eq_true rfl) (s_hasRoom hM hB2 hC0 (by omega)) ?_
        rintro _ σ ⟨rfl, e9⟩
        subst e9
        refine gb_if_eq (tgt := 133) dX12_faulted_84 (by decide) (fun c84 => ?_) (fun c84 => ?_)
        · refine gs_aload_n dX12_faulted_133 rfl rfl ?_
          refine g_getI dX12_faulted_134 fX12_38 kwM (by decide) (show _ = nI (S.1 14 0) from (M_faultPrice hM).trans (by rw [ft2_ne (by decide) (by decide) (by decide)])) ?_
          refine g_ireturn dX12_faulted_137 rfl ?_
          have e1 : ftMv S p a = false := by
            simp only [ftMv]; rw [show hrS (ft2 S p a) (ftTo S p a) = false from c84]; simp
          refine ⟨_, rfl, by rw [ftC, e1]; rfl, ?_, ?_⟩
          · rw [ftS, e1]
            exact hW1.tr hQ.weak
          · rw [e1]
            have h8 := hQ.2.2.1.2.1
            exact ⟨by rw [h8, hO1, if_pos rfl]; rfl, by rw [h8, hO1, if_neg (by decide), hO0]; exact hd⟩
        · refine gs_aload_n dX12_faulted_87 rfl rfl ?_
          refine g_getR dX12_faulted_88 fX12_79 kwM (by decide) rM_lies ?_
          refine gs_iload_n dX12_faulted_91 rfl rfl ?_
          refine g_iload dX12_faulted_92 rfl ?_
          refine gq_iast dX12_faulted_94 kw_lies (by omega) (Q_lies1 hQ hp) (fun σ hQ => ?_)
          have hM := hQ.1
          have hC0 := hQ.2.1
          refine gs_aload_n dX12_faulted_95 rfl rfl ?_
          refine g_getR dX12_faulted_96 fX12_94 kwM (by decide) rM_moved ?_
          refine gs_iload_n dX12_faulted_99 rfl rfl ?_
          refine g_dup2 dX12_faulted_100 rfl rfl ?_
          refine g_iald dX12_faulted_101 kw_moved (by omega) rfl ?_
          refine g_iconst (v := nI 1) dX12_faulted_102 (by decide) ?_
          refine g_iadd dX12_faulted_103 (by first | exact nI_add _ _ | rfl) ?_
          refine gq_iast dX12_faulted_104 kw_moved (by omega) (QJ_moved hQ hp) (fun σ hQ => ?_)
          have hM := hQ.1
          have hC0 := hQ.2.1
          refine gs_aload_n dX12_faulted_105 rfl rfl ?_
          refine g_getR dX12_faulted_106 fX12_70 kwM (by decide) rM_moves ?_
          refine gs_aload_n dX12_faulted_109 rfl rfl ?_
          refine g_getI dX12_faulted_110 fX12_243 kwM (by decide) hC0.2 ?_
          refine g_dup2 dX12_faulted_113 rfl rfl ?_
          refine g_iald dX12_faulted_114 kw_moves (by omega) rfl ?_
          refine g_iconst (v := nI 1) dX12_faulted_115 (by decide) ?_
          refine g_iadd dX12_faulted_116 (by first | exact nI_add _ _ | rfl) ?_
          refine gq_iast dX12_faulted_117 kw_moves (by omega) (QJ_moves hQ) (fun σ hQ => ?_)
          have hM := hQ.1
          have hC0 := hQ.2.1
          refine gs_aload_n dX12_faulted_118 rfl rfl ?_
          refine g_iconst (v := nI 1) dX12_faulted_119 (by decide) ?_
          refine gw_putI dX12_faulted_120 fP55 kwM (by decide) (Or.inr ⟨rfl, by decide⟩) (σ0 := _) (hW1.tr hQ.weak) (by decide) (by decide) (fun σ hW2 hO2 => ?_)
          have hM := hW2.1
          have hC0 := hW2.2.1
          refine gs_aload_n dX12_faulted_123 rfl rfl ?_
          refine g_getI dX12_faulted_124 fX12_38 kwM (by decide) (show _ = nI (S.1 14 0) from M_faultPrice hM |>.trans (by show nI ((ft2 S p a).1 14 0) = _; rw [ft2_ne (by decide) (by decide) (by decide)])) ?_
          refine gs_aload_n dX12_faulted_127 rfl rfl ?_
          refine g_getI dX12_faulted_128 fX12_42 kwM (by decide) (show _ = nI (S.1 15 0) from M_movePrice hM |>.trans (by show nI ((ft2 S p a).1 15 0) = _; rw [ft2_ne (by decide) (by decide) (by decide)])) ?_
          refine g_iadd dX12_faulted_131 (by first | exact nI_add _ _ | rfl) ?_
          refine g_ireturn dX12_faulted_132 rfl ?_
          have e1 : ftMv S p a = true := by
            have h1 : ¬ S.1 24 p = ftTo S p a + 1 := fun q => c65 ((lzM_a b3 (by omega)).mpr q).symm
            simp only [ftMv]
            rw [show pyS (ft2 S p a) p (ftTo S p a) = true from c75, show hrS (ft2 S p a) (ftTo S p a) = true from c84]
            simp [c54, h1]
          refine ⟨_, rfl, by rw [ftC, e1]; rfl, ?_, ?_⟩
          · rw [ftS, e1]
            exact hW2
          · rw [e1]
            have h8 := hQ.2.2.1.2.1
            exact ⟨by rw [hO2, if_neg (by decide), h8, hO1, if_pos rfl]; rfl, by rw [hO2, if_pos rfl]; rfl⟩
def pc4 (c : Nat) : Nat := bt c 0 + bt c 1 + bt c 2 + bt c 3
def clr (c a : Nat) : Nat := c - bt c a * 2 ^ a
def stb (c a : Nat) : Nat := if bt c a = 1 then c else c + 2 ^ a
theorem bt0_eq {c : Nat} (hc : c ≤ 15) : (nI c &&& nI 1) = nI (bt c 0) := by
  have h : ∀ c, c < 16 → (nI c &&& nI 1) = nI (bt c 0) := by decide +kernel
  exact h c (by omega)
theorem clr_eq {c a : Nat} (hc : c ≤ 15) (ha : a < 4) : (nI c &&& ((nI 1 <<< (nI a &&& 31)) ^^^ -1)) = nI (clr c a) := by
  have h : ∀ c, c < 16 → ∀ a, a < 4 → (nI c &&& ((nI 1 <<< (nI a &&& 31)) ^^^ -1)) = nI (clr c a) := by decide +kernel
  exact h c (by omega) a ha
theorem stb_eq {c a : Nat} (hc : c ≤ 15) (ha : a < 4) : (nI c ||| (nI 1 <<< (nI a &&& 31))) = nI (stb c a) := by
  have h : ∀ c, c < 16 → ∀ a, a < 4 → (nI c ||| (nI 1 <<< (nI a &&& 31))) = nI (stb c a) := by decide +kernel
  exact h c (by omega) a ha
theorem clr_le {c a : Nat} (hc : c ≤ 15) : clr c a ≤ 15 := by unfold clr; omega
theorem s_countBits {σ : Mm} {c : Nat} (hc : c ≤ 15) : RI W0 mX12_countBits [.ref 258, .int (nI c)] σ (fun r τ => r = nI (pc4 c) ∧ τ = σ) := by
  refine G.met (by decide) (Nat.le_of_ble_eq_true rfl) ?_
  show G _ _ _ 0 [some (.ref 258), some (.int (nI c))] [] σ
  refine gs_iload_n dX12_countBits_0 rfl rfl ?_
  refine g_iconst (v := nI 1) dX12_countBits_1 (by decide) ?_
  refine g_iand dX12_countBits_2 (bt0_eq hc) ?_
  refine gs_iload_n dX12_countBits_3 rfl rfl ?_
  refine g_iconst (v := nI 1) dX12_countBits_4 (by decide) ?_
  refine g_ishr dX12_countBits_5 rfl ?_
  refine g_iconst (v := nI 1) dX12_countBits_6 (by decide) ?_
  refine g_iand dX12_countBits_7 (bt_eq hc (by omega)) ?_
  refine g_iadd dX12_countBits_8 (by first | exact nI_add _ _ | rfl) ?_
  refine gs_iload_n dX12_countBits_9 rfl rfl ?_
  refine g_iconst (v := nI 2) dX12_countBits_10 (by decide) ?_
  refine g_ishr dX12_countBits_11 rfl ?_
  refine g_iconst (v := nI 1) dX12_countBits_12 (by decide) ?_
  refine g_iand dX12_countBits_13 (bt_eq hc (by omega)) ?_
  refine g_iadd dX12_countBits_14 (by first | exact nI_add _ _ | rfl) ?_
  refine gs_iload_n dX12_countBits_15 rfl rfl ?_
  refine g_iconst (v := nI 3) dX12_countBits_16 (by decide) ?_
  refine g_ishr dX12_countBits_17 rfl ?_
  refine g_iconst (v := nI 1) dX12_countBits_18 (by decide) ?_
  refine g_iand dX12_countBits_19 (bt_eq hc (by omega)) ?_
  refine g_iadd dX12_countBits_20 (by first | exact nI_add _ _ | rfl) ?_
  refine g_ireturn dX12_countBits_21 rfl ?_
  exact ⟨_, rfl, rfl, rfl⟩
/-- a copied page: a reader's copy comes, a writer ends them -/
def cpS (S : Sx) (p a : Nat) (wr : Bool) : Sx :=
  if wr = true then setN (if bt (S.1 25 p) a = 1 then setN S 24 p (a + 1) else S) 25 p 0
  else if S.1 24 p = a + 1 ∨ bt (S.1 25 p) a = 1 ∨ hrS S a = false then S else setN S 25 p (stb (S.1 25 p) a)
def cpC (S : Sx) (p a : Nat) (wr : Bool) : Nat :=
  if wr = true then pc4 (clr (S.1 25 p) a) + bt (S.1 25 p) a
  else if S.1 24 p = a + 1 ∨ bt (S.1 25 p) a = 1 ∨ hrS S a = false then 0 else 1
theorem s_copied {w : Nat} {σ : Mm} {S : Sx} (hM : RepM w σ S) (hB : Bd S) (hC0 : hC w σ) {p a : Nat} {wr : Bool} (hp : p < 20) (ha : a < 4) : RI W0 mX12_copied [.ref 258, .int (nI p), .int (nI a), .int (bI wr)] σ (fun r τ => r = nI (cpC S p a wr) ∧ Mq w σ (cpS S p a wr) τ) := by
  have hw := hC0.1
  have b2 := B_copies hB p
  have b3 := B_lies hB p
  have b4 := bt_le (S.1 25 p) a
  have hQ := Mq.rf hM hC0
  refine G.met (by decide) (Nat.le_of_ble_eq_true rfl) ?_
  show G _ _ _ 0 [some (.ref 258), some (.int (nI p)), some (.int (nI a)), some (.int (bI wr)), none, none, none, none] [] σ
  refine g_bipush (v := nI 20) dX12_copied_0 (by decide) ?_
  refine gs_aload_n dX12_copied_2 rfl rfl ?_
  refine g_getI dX12_copied_3 fX12_243 kwM (by decide) hC0.2 ?_
  refine g_imul dX12_copied_6 (by first | exact pk_mul _ _ | rfl) ?_
  refine gs_iload_n dX12_copied_7 rfl rfl ?_
  refine g_iadd dX12_copied_8 (by first | exact nI_add _ _ | rfl) ?_
  refine gs_istore (ls' := [_, _, _, _, _, _, _, _]) dX12_copied_9 rfl rfl ?_
  refine gs_aload_n dX12_copied_11 rfl rfl ?_
  refine g_getR dX12_copied_12 fX12_79 kwM (by decide) rM_lies ?_
  refine g_iload dX12_copied_15 rfl ?_
  refine g_iald dX12_copied_17 kw_lies (by omega) (M_lies hM (by omega)) ?_
  refine gs_iload_n dX12_copied_18 rfl rfl ?_
  refine g_icmp_ne (tgt := 26) dX12_copied_19 (by decide) (fun c19 => ?_) (fun c19 => ?_)
  · refine g_iconst (v := nI 0) dX12_copied_26 (by decide) ?_
    refine gs_istore (ls' := [_, _, _, _, _, _, _, _]) dX12_copied_27 rfl rfl ?_
    refine gs_aload_n dX12_copied_29 rfl rfl ?_
    refine g_getR dX12_copied_30 fX12_82 kwM (by decide) rM_copies ?_
    refine g_iload dX12_copied_33 rfl ?_
    refine g_iald dX12_copied_35 kw_copies (by omega) (M_copies hM (by omega)) ?_
    refine gs_iload_n dX12_copied_36 rfl rfl ?_
    refine g_ishr dX12_copied_37 rfl ?_
    refine g_iconst (v := nI 1) dX12_copied_38 (by decide) ?_
    refine g_iand dX12_copied_39 (bt_eq b2 ha) ?_
    refine g_iconst (v := nI 1) dX12_copied_40 (by decide) ?_
    refine gn_icmp_ne (tgt := 48) dX12_copied_41 (by decide) (by omega) (by omega) (fun c41 => ?_) (fun c41 => ?_)
    · refine g_iconst (v := nI 0) dX12_copied_48 (by decide) ?_
      refine gs_istore (ls' := [_, _, _, _, _, _, _, _]) dX12_copied_49 rfl rfl ?_
      refine gs_iload_n dX12_copied_51 rfl rfl ?_
      refine gb_if_ne (tgt := 90) dX12_copied_52 (by decide) (fun c52 => ?_) (fun c52 => ?_)
      · refine gs_aload_n dX12_copied_90 rfl rfl ?_
        refine gs_aload_n dX12_copied_91 rfl rfl ?_
        refine g_getR dX12_copied_92 fX12_82 kwM (by decide) rM_copies ?_
        refine g_iload dX12_copied_95 rfl ?_
        refine g_iald dX12_copied_97 kw_copies (by omega) (show _ = nI (S.1 25 p) from M_copies hM (by omega)) ?_
        refine g_iconst (v := nI 1) dX12_copied_98 (by decide) ?_
        refine gs_iload_n dX12_copied_99 rfl rfl ?_
        refine g_ishl dX12_copied_100 rfl ?_
        refine g_iconst (v := -1) dX12_copied_101 (by decide) ?_
        refine g_ixor dX12_copied_102 rfl ?_
        refine g_iand dX12_copied_103 (clr_eq b2 ha) ?_
        refine g_cVI1 dX12_copied_104 vX12_281 (by decide) kwM (by decide) (Nat.le_of_ble_eq_true rfl) (s_countBits (clr_le b2)) ?_
        rintro _ σ ⟨rfl, e9⟩
        subst e9
        refine gs_istore (ls' := [_, _, _, _, _, _, _, _]) dX12_copied_107 rfl rfl ?_
        refine g_iload dX12_copied_109 rfl ?_
        refine gt_if_eq (tgt := 125) dX12_copied_111 (by decide) (by omega) (by omega) ?_
        refine gs_aload_n dX12_copied_125 rfl rfl ?_
        refine g_getR dX12_copied_126 fX12_82 kwM (by decide) rM_copies ?_
        refine g_iload dX12_copied_129 rfl ?_
        refine g_iconst (v := nI 0) dX12_copied_131 (by decide) ?_
        refine gq_iast dX12_copied_132 kw_copies (by omega) (Q_copies hQ hp) (fun σ hQ => ?_)
        have hM := hQ.1
        have hC0 := hQ.2.1
        refine g_iload dX12_copied_133 rfl ?_
        refine g_ireturn dX12_copied_135 rfl ?_
        have c19 : ¬ S.1 24 p = a + 1 := fun q => c19 ((lzM_a b3 ha).mpr q)
        have c41 : bt (S.1 25 p) a = 0 := by omega
        subst c52
        exact ⟨_, rfl, by rw [cpC, if_pos rfl, c41]; rfl, by rw [cpS, if_pos rfl, if_neg (by omega)]; exact hQ⟩
      · refine g_iload dX12_copied_55 rfl ?_
        refine gf_if_ne (tgt := 73) dX12_copied_57 (by decide) (by omega) (by omega) ?_
        refine g_iload dX12_copied_60 rfl ?_
        refine gf_if_ne (tgt := 73) dX12_copied_62 (by decide) (by omega) (by omega) ?_
        refine gs_aload_n dX12_copied_65 rfl rfl ?_
        refine gs_iload_n dX12_copied_66 rfl rfl ?_
        refine g_cVI1 dX12_copied_67 vX12_250 (by decide) kwM (by decide) (Nat.le_of_ble_eq_true rfl) (s_hasRoom hM hB hC0 ha) ?_
        rintro _ σ ⟨rfl, e9⟩
        subst e9
        refine gb_if_ne (tgt := 75) dX12_copied_70 (by decide) (fun c70 => ?_) (fun c70 => ?_)
        · refine gs_aload_n dX12_copied_75 rfl rfl ?_
          refine g_getR dX12_copied_76 fX12_82 kwM (by decide) rM_copies ?_
          refine g_iload dX12_copied_79 rfl ?_
          refine g_dup2 dX12_copied_81 rfl rfl ?_
          refine g_iald dX12_copied_82 kw_copies (by omega) (M_copies hM (by omega)) ?_
          refine g_iconst (v := nI 1) dX12_copied_83 (by decide) ?_
          refine gs_iload_n dX12_copied_84 rfl rfl ?_
          refine g_ishl dX12_copied_85 rfl ?_
          refine g_ior dX12_copied_86 (stb_eq b2 ha) ?_
          refine gq_iast dX12_copied_87 kw_copies (by omega) (Q_copies hQ hp) (fun σ hQ => ?_)
          have hM := hQ.1
          have hC0 := hQ.2.1
          refine g_iconst (v := nI 1) dX12_copied_88 (by decide) ?_
          refine g_ireturn dX12_copied_89 rfl ?_
          have c19 : ¬ S.1 24 p = a + 1 := fun q => c19 ((lzM_a b3 ha).mpr q)
          have c41 : bt (S.1 25 p) a = 0 := by omega
          subst c52
          have z : ¬ (S.1 24 p = a + 1 ∨ bt (S.1 25 p) a = 1 ∨ hrS S a = false) := fun q => q.elim c19 (fun q => q.elim (fun q => absurd q (by omega)) (fun q => by rw [c70] at q; cases q))
          exact ⟨_, rfl, by rw [cpC, if_neg (by decide), if_neg z], by rw [cpS, if_neg (by decide), if_neg z]; exact hQ⟩
        · refine g_iconst (v := nI 0) dX12_copied_73 (by decide) ?_
          refine g_ireturn dX12_copied_74 rfl ?_
          have c19 : ¬ S.1 24 p = a + 1 := fun q => c19 ((lzM_a b3 ha).mpr q)
          have c41 : bt (S.1 25 p) a = 0 := by omega
          subst c52
          have z : S.1 24 p = a + 1 ∨ bt (S.1 25 p) a = 1 ∨ hrS S a = false := Or.inr (Or.inr c70)
          exact ⟨_, rfl, by rw [cpC, if_neg (by decide), if_pos z], by rw [cpS, if_neg (by decide), if_pos z]; exact hQ⟩
    · refine g_iconst (v := nI 1) dX12_copied_44 (by decide) ?_
      refine g_goto (tgt := 49) dX12_copied_45 (by decide) ?_
      refine gs_istore (ls' := [_, _, _, _, _, _, _, _]) dX12_copied_49 rfl rfl ?_
      refine gs_iload_n dX12_copied_51 rfl rfl ?_
      refine gb_if_ne (tgt := 90) dX12_copied_52 (by decide) (fun c52 => ?_) (fun c52 => ?_)
      · refine gs_aload_n dX12_copied_90 rfl rfl ?_
        refine gs_aload_n dX12_copied_91 rfl rfl ?_
        refine g_getR dX12_copied_92 fX12_82 kwM (by decide) rM_copies ?_
        refine g_iload dX12_copied_95 rfl ?_
        refine g_iald dX12_copied_97 kw_copies (by omega) (show _ = nI (S.1 25 p) from M_copies hM (by omega)) ?_
        refine g_iconst (v := nI 1) dX12_copied_98 (by decide) ?_
        refine gs_iload_n dX12_copied_99 rfl rfl ?_
        refine g_ishl dX12_copied_100 rfl ?_
        refine g_iconst (v := -1) dX12_copied_101 (by decide) ?_
        refine g_ixor dX12_copied_102 rfl ?_
        refine g_iand dX12_copied_103 (clr_eq b2 ha) ?_
        refine g_cVI1 dX12_copied_104 vX12_281 (by decide) kwM (by decide) (Nat.le_of_ble_eq_true rfl) (s_countBits (clr_le b2)) ?_
        rintro _ σ ⟨rfl, e9⟩
        subst e9
        refine gs_istore (ls' := [_, _, _, _, _, _, _, _]) dX12_copied_107 rfl rfl ?_
        refine g_iload dX12_copied_109 rfl ?_
        refine gf_if_eq (tgt := 125) dX12_copied_111 (by decide) (by omega) (by omega) ?_
        refine gs_aload_n dX12_copied_114 rfl rfl ?_
        refine g_getR dX12_copied_115 fX12_79 kwM (by decide) rM_lies ?_
        refine g_iload dX12_copied_118 rfl ?_
        refine gs_iload_n dX12_copied_120 rfl rfl ?_
        refine gq_iast dX12_copied_121 kw_lies (by omega) (Q_lies1 hQ hp) (fun σ hQ => ?_)
        have hM := hQ.1
        have hC0 := hQ.2.1
        refine gs_iinc (ls' := [_, _, _, _, _, _, _, _]) dX12_copied_122 rfl (nI_add _ 1) rfl rfl ?_
        refine gs_aload_n dX12_copied_125 rfl rfl ?_
        refine g_getR dX12_copied_126 fX12_82 kwM (by decide) rM_copies ?_
        refine g_iload dX12_copied_129 rfl ?_
        refine g_iconst (v := nI 0) dX12_copied_131 (by decide) ?_
        refine gq_iast dX12_copied_132 kw_copies (by omega) (Q_copies hQ hp) (fun σ hQ => ?_)
        have hM := hQ.1
        have hC0 := hQ.2.1
        refine g_iload dX12_copied_133 rfl ?_
        refine g_ireturn dX12_copied_135 rfl ?_
        have c19 : ¬ S.1 24 p = a + 1 := fun q => c19 ((lzM_a b3 ha).mpr q)
        have c41 : bt (S.1 25 p) a = 1 := c41
        subst c52
        exact ⟨_, rfl, by rw [cpC, if_pos rfl, c41], by rw [cpS, if_pos rfl, if_pos c41]; exact hQ⟩
      · refine g_iload dX12_copied_55 rfl ?_
        refine gf_if_ne (tgt := 73) dX12_copied_57 (by decide) (by omega) (by omega) ?_
        refine g_iload dX12_copied_60 rfl ?_
        refine gt_if_ne (tgt := 73) dX12_copied_62 (by decide) (by omega) (by omega) ?_
        refine g_iconst (v := nI 0) dX12_copied_73 (by decide) ?_
        refine g_ireturn dX12_copied_74 rfl ?_
        have c19 : ¬ S.1 24 p = a + 1 := fun q => c19 ((lzM_a b3 ha).mpr q)
        have c41 : bt (S.1 25 p) a = 1 := c41
        subst c52
        have z : S.1 24 p = a + 1 ∨ bt (S.1 25 p) a = 1 ∨ hrS S a = false := Or.inr (Or.inl c41)
        exact ⟨_, rfl, by rw [cpC, if_neg (by decide), if_pos z], by rw [cpS, if_neg (by decide), if_pos z]; exact hQ⟩
  · refine g_iconst (v := nI 1) dX12_copied_22 (by decide) ?_
    refine g_goto (tgt := 27) dX12_copied_23 (by decide) ?_
    refine gs_istore (ls' := [_, _, _, _, _, _, _, _]) dX12_copied_27 rfl rfl ?_
    refine gs_aload_n dX12_copied_29 rfl rfl ?_
    refine g_getR dX12_copied_30 fX12_82 kwM (by decide) rM_copies ?_
    refine g_iload dX12_copied_33 rfl ?_
    refine g_iald dX12_copied_35 kw_copies (by omega) (M_copies hM (by omega)) ?_
    refine gs_iload_n dX12_copied_36 rfl rfl ?_
    refine g_ishr dX12_copied_37 rfl ?_
    refine g_iconst (v := nI 1) dX12_copied_38 (by decide) ?_
    refine g_iand dX12_copied_39 (bt_eq b2 ha) ?_
    refine g_iconst (v := nI 1) dX12_copied_40 (by decide) ?_
    refine gn_icmp_ne (tgt := 48) dX12_copied_41 (by decide) (by omega) (by omega) (fun c41 => ?_) (fun c41 => ?_)
    · refine g_iconst (v := nI 0) dX12_copied_48 (by decide) ?_
      refine gs_istore (ls' := [_, _, _, _, _, _, _, _]) dX12_copied_49 rfl rfl ?_
      refine gs_iload_n dX12_copied_51 rfl rfl ?_
      refine gb_if_ne (tgt := 90) dX12_copied_52 (by decide) (fun c52 => ?_) (fun c52 => ?_)
      · refine gs_aload_n dX12_copied_90 rfl rfl ?_
        refine gs_aload_n dX12_copied_91 rfl rfl ?_
        refine g_getR dX12_copied_92 fX12_82 kwM (by decide) rM_copies ?_
        refine g_iload dX12_copied_95 rfl ?_
        refine g_iald dX12_copied_97 kw_copies (by omega) (show _ = nI (S.1 25 p) from M_copies hM (by omega)) ?_
        refine g_iconst (v := nI 1) dX12_copied_98 (by decide) ?_
        refine gs_iload_n dX12_copied_99 rfl rfl ?_
        refine g_ishl dX12_copied_100 rfl ?_
        refine g_iconst (v := -1) dX12_copied_101 (by decide) ?_
        refine g_ixor dX12_copied_102 rfl ?_
        refine g_iand dX12_copied_103 (clr_eq b2 ha) ?_
        refine g_cVI1 dX12_copied_104 vX12_281 (by decide) kwM (by decide) (Nat.le_of_ble_eq_true rfl) (s_countBits (clr_le b2)) ?_
        rintro _ σ ⟨rfl, e9⟩
        subst e9
        refine gs_istore (ls' := [_, _, _, _, _, _, _, _]) dX12_copied_107 rfl rfl ?_
        refine g_iload dX12_copied_109 rfl ?_
        refine gt_if_eq (tgt := 125) dX12_copied_111 (by decide) (by omega) (by omega) ?_
        refine gs_aload_n dX12_copied_125 rfl rfl ?_
        refine g_getR dX12_copied_126 fX12_82 kwM (by decide) rM_copies ?_
        refine g_iload dX12_copied_129 rfl ?_
        refine g_iconst (v := nI 0) dX12_copied_131 (by decide) ?_
        refine gq_iast dX12_copied_132 kw_copies (by omega) (Q_copies hQ hp) (fun σ hQ => ?_)
        have hM := hQ.1
        have hC0 := hQ.2.1
        refine g_iload dX12_copied_133 rfl ?_
        refine g_ireturn dX12_copied_135 rfl ?_
        have c19 : S.1 24 p = a + 1 := (lzM_a b3 ha).mp c19
        have c41 : bt (S.1 25 p) a = 0 := by omega
        subst c52
        exact ⟨_, rfl, by rw [cpC, if_pos rfl, c41]; rfl, by rw [cpS, if_pos rfl, if_neg (by omega)]; exact hQ⟩
      · refine g_iload dX12_copied_55 rfl ?_
        refine gt_if_ne (tgt := 73) dX12_copied_57 (by decide) (by omega) (by omega) ?_
        refine g_iconst (v := nI 0) dX12_copied_73 (by decide) ?_
        refine g_ireturn dX12_copied_74 rfl ?_
        have c19 : S.1 24 p = a + 1 := (lzM_a b3 ha).mp c19
        have c41 : bt (S.1 25 p) a = 0 := by omega
        subst c52
        have z : S.1 24 p = a + 1 ∨ bt (S.1 25 p) a = 1 ∨ hrS S a = false := Or.inl c19
        exact ⟨_, rfl, by rw [cpC, if_neg (by decide), if_pos z], by rw [cpS, if_neg (by decide), if_pos z]; exact hQ⟩
    · refine g_iconst (v := nI 1) dX12_copied_44 (by decide) ?_
      refine g_goto (tgt := 49) dX12_copied_45 (by decide) ?_
      refine gs_istore (ls' := [_, _, _, _, _, _, _, _]) dX12_copied_49 rfl rfl ?_
      refine gs_iload_n dX12_copied_51 rfl rfl ?_
      refine gb_if_ne (tgt := 90) dX12_copied_52 (by decide) (fun c52 => ?_) (fun c52 => ?_)
      · refine gs_aload_n dX12_copied_90 rfl rfl ?_
        refine gs_aload_n dX12_copied_91 rfl rfl ?_
        refine g_getR dX12_copied_92 fX12_82 kwM (by decide) rM_copies ?_
        refine g_iload dX12_copied_95 rfl ?_
        refine g_iald dX12_copied_97 kw_copies (by omega) (show _ = nI (S.1 25 p) from M_copies hM (by omega)) ?_
        refine g_iconst (v := nI 1) dX12_copied_98 (by decide) ?_
        refine gs_iload_n dX12_copied_99 rfl rfl ?_
        refine g_ishl dX12_copied_100 rfl ?_
        refine g_iconst (v := -1) dX12_copied_101 (by decide) ?_
        refine g_ixor dX12_copied_102 rfl ?_
        refine g_iand dX12_copied_103 (clr_eq b2 ha) ?_
        refine g_cVI1 dX12_copied_104 vX12_281 (by decide) kwM (by decide) (Nat.le_of_ble_eq_true rfl) (s_countBits (clr_le b2)) ?_
        rintro _ σ ⟨rfl, e9⟩
        subst e9
        refine gs_istore (ls' := [_, _, _, _, _, _, _, _]) dX12_copied_107 rfl rfl ?_
        refine g_iload dX12_copied_109 rfl ?_
        refine gf_if_eq (tgt := 125) dX12_copied_111 (by decide) (by omega) (by omega) ?_
        refine gs_aload_n dX12_copied_114 rfl rfl ?_
        refine g_getR dX12_copied_115 fX12_79 kwM (by decide) rM_lies ?_
        refine g_iload dX12_copied_118 rfl ?_
        refine gs_iload_n dX12_copied_120 rfl rfl ?_
        refine gq_iast dX12_copied_121 kw_lies (by omega) (Q_lies1 hQ hp) (fun σ hQ => ?_)
        have hM := hQ.1
        have hC0 := hQ.2.1
        refine gs_iinc (ls' := [_, _, _, _, _, _, _, _]) dX12_copied_122 rfl (nI_add _ 1) rfl rfl ?_
        refine gs_aload_n dX12_copied_125 rfl rfl ?_
        refine g_getR dX12_copied_126 fX12_82 kwM (by decide) rM_copies ?_
        refine g_iload dX12_copied_129 rfl ?_
        refine g_iconst (v := nI 0) dX12_copied_131 (by decide) ?_
        refine gq_iast dX12_copied_132 kw_copies (by omega) (Q_copies hQ hp) (fun σ hQ => ?_)
        have hM := hQ.1
        have hC0 := hQ.2.1
        refine g_iload dX12_copied_133 rfl ?_
        refine g_ireturn dX12_copied_135 rfl ?_
        have c19 : S.1 24 p = a + 1 := (lzM_a b3 ha).mp c19
        have c41 : bt (S.1 25 p) a = 1 := c41
        subst c52
        exact ⟨_, rfl, by rw [cpC, if_pos rfl, c41], by rw [cpS, if_pos rfl, if_pos c41]; exact hQ⟩
      · refine g_iload dX12_copied_55 rfl ?_
        refine gt_if_ne (tgt := 73) dX12_copied_57 (by decide) (by omega) (by omega) ?_
        refine g_iconst (v := nI 0) dX12_copied_73 (by decide) ?_
        refine g_ireturn dX12_copied_74 rfl ?_
        have c19 : S.1 24 p = a + 1 := (lzM_a b3 ha).mp c19
        have c41 : bt (S.1 25 p) a = 1 := c41
        subst c52
        have z : S.1 24 p = a + 1 ∨ bt (S.1 25 p) a = 1 ∨ hrS S a = false := Or.inl c19
        exact ⟨_, rfl, by rw [cpC, if_neg (by decide), if_pos z], by rw [cpS, if_neg (by decide), if_pos z]; exact hQ⟩
def flS (S : Sx) (t : Nat) : Sx := setV (setN S 32 t 1) 6 0 (S.2.1 6 0 + nI 1)
theorem s_fail {w : Nat} {σ : Mm} {S : Sx} (hM : RepM w σ S) (hB : Bd S) (hC0 : hC w σ) {t : Nat} (ht : t < 10) : RV W0 mX12_fail [.ref 258, .int (nI t)] σ (fun τ => Mq w σ (flS S t) τ) := by
  have hw := hC0.1
  have hQ := Mq.rf hM hC0
  refine G.met (by decide) (Nat.le_of_ble_eq_true rfl) ?_
  show G _ _ _ 0 [some (.ref 258), some (.int (nI t))] [] σ
  refine gs_aload_n dX12_fail_0 rfl rfl ?_
  refine g_getR dX12_fail_1 fX12_118 kwM (by decide) rM_ended ?_
  refine g_bipush (v := nI 10) dX12_fail_4 (by decide) ?_
  refine gs_aload_n dX12_fail_6 rfl rfl ?_
  refine g_getI dX12_fail_7 fX12_243 kwM (by decide) hC0.2 ?_
  refine g_imul dX12_fail_10 (by first | exact pk_mul _ _ | rfl) ?_
  refine gs_iload_n dX12_fail_11 rfl rfl ?_
  refine g_iadd dX12_fail_12 (by first | exact nI_add _ _ | rfl) ?_
  refine g_iconst (v := nI 1) dX12_fail_13 (by decide) ?_
  refine gq_zast dX12_fail_14 kw_ended (by omega) (by first | exact bI_01 _ | decide) (Q_ended hQ ht) (fun σ hQ => ?_)
  have hM := hQ.1
  have hC0 := hQ.2.1
  refine gs_aload_n dX12_fail_15 rfl rfl ?_
  refine g_getR dX12_fail_16 fX12_73 kwM (by decide) rM_failed ?_
  refine gs_aload_n dX12_fail_19 rfl rfl ?_
  refine g_getI dX12_fail_20 fX12_243 kwM (by decide) hC0.2 ?_
  refine g_dup2 dX12_fail_23 rfl rfl ?_
  refine g_iald dX12_fail_24 kw_failed (by omega) rfl ?_
  refine g_iconst (v := nI 1) dX12_fail_25 (by decide) ?_
  refine g_iadd dX12_fail_26 (by first | exact nI_add _ _ | rfl) ?_
  refine gq_iast dX12_fail_27 kw_failed (by omega) (QJ_failed hQ) (fun σ hQ => ?_)
  have hM := hQ.1
  have hC0 := hQ.2.1
  refine g_return dX12_fail_28 rfl ?_
  exact ⟨rfl, hQ⟩
def uwS (S : Sx) (a : Nat) : Nat → Nat
  | 0 => 0
  | t + 1 => uwS S a t + (if S.1 29 t = a ∧ 0 < S.1 31 t then 1 else 0)
theorem uwS_le (S : Sx) (a t : Nat) : uwS S a t ≤ t := by
  induction t with
  | zero => exact Nat.le_refl _
  | succ t ih =>
    simp only [uwS]
    split <;> omega
def rdS (S : Sx) (t : Nat) : Bool := decide (S.1 32 t = 0) && (decide (S.1 31 t = 0) && decide (S.1 30 t < S.1 10 t))
theorem l_underWay {w : Nat} {σ : Mm} {S : Sx} {K : Option Value → Mm → Prop} (hM : RepM w σ S) (hB : Bd S) (hC0 : hC w σ) {a : Nat} (ha : a < 4) (hK : K (some (.int (nI (uwS S a (S.1 9 0))))) σ) : ∀ k t, t + k = S.1 9 0 → G W0 mX12_underWay K 4 [some (.ref 258), some (.int (nI a)), some (.int (nI (uwS S a t))), some (.int (nI t))] [] σ := by
  intro k
  induction k with
  | zero =>
    intro t ht
    have hw := hC0.1
    have b0 := B_T hB 0
    have b1 := B_at hB t
    have b2 := B_toGo hB t
    have b3 := uwS_le S a t
    refine gs_iload_n dX12_underWay_4 rfl rfl ?_
    refine gs_aload_n dX12_underWay_5 rfl rfl ?_
    refine g_getI dX12_underWay_6 fX12_200 kwM (by decide) (M_T hM) ?_
    refine gt_icmp_ge (tgt := 61) dX12_underWay_9 (by decide) (by omega) (by omega) (by omega) ?_
    refine gs_iload_n dX12_underWay_61 rfl rfl ?_
    refine g_ireturn dX12_underWay_62 rfl ?_
    have e : t = S.1 9 0 := by omega
    subst e
    exact hK
  | succ k ih =>
    intro t ht
    have hw := hC0.1
    have b0 := B_T hB 0
    have b1 := B_at hB t
    have b2 := B_toGo hB t
    have b3 := uwS_le S a t
    refine gs_iload_n dX12_underWay_4 rfl rfl ?_
    refine gs_aload_n dX12_underWay_5 rfl rfl ?_
    refine g_getI dX12_underWay_6 fX12_200 kwM (by decide) (M_T hM) ?_
    refine gf_icmp_ge (tgt := 61) dX12_underWay_9 (by decide) (by omega) (by omega) (by omega) ?_
    refine gs_iload_n dX12_underWay_12 rfl rfl ?_
    refine gs_aload_n dX12_underWay_13 rfl rfl ?_
    refine g_getR dX12_underWay_14 fX12_103 kwM (by decide) rM_at ?_
    refine g_bipush (v := nI 10) dX12_underWay_17 (by decide) ?_
    refine gs_aload_n dX12_underWay_19 rfl rfl ?_
    refine g_getI dX12_underWay_20 fX12_243 kwM (by decide) hC0.2 ?_
    refine g_imul dX12_underWay_23 (by first | exact pk_mul _ _ | rfl) ?_
    refine gs_iload_n dX12_underWay_24 rfl rfl ?_
    refine g_iadd dX12_underWay_25 (by first | exact nI_add _ _ | rfl) ?_
    refine g_iald dX12_underWay_26 kw_at (by omega) (M_at hM (by omega)) ?_
    refine gs_iload_n dX12_underWay_27 rfl rfl ?_
    refine gn_icmp_ne (tgt := 52) dX12_underWay_28 (by decide) (by omega) (by omega) (fun c28 => ?_) (fun c28 => ?_)
    · refine g_iconst (v := nI 0) dX12_underWay_52 (by decide) ?_
      refine g_iadd dX12_underWay_53 (by first | exact nI_add _ _ | rfl) ?_
      refine gs_istore_n (ls' := [_, _, _, _]) dX12_underWay_54 rfl rfl rfl ?_
      refine gs_iinc (ls' := [_, _, _, _]) dX12_underWay_55 rfl (nI_add _ 1) rfl rfl ?_
      refine g_goto (tgt := 4) dX12_underWay_58 (by decide) ?_
      have q := ih (t + 1) (by omega)
      rw [show uwS S a (t + 1) = uwS S a t + 0 from by rw [uwS, if_neg (fun q => c28 q.1)]] at q
      exact q
    · refine gs_aload_n dX12_underWay_31 rfl rfl ?_
      refine g_getR dX12_underWay_32 fX12_112 kwM (by decide) rM_toGo ?_
      refine g_bipush (v := nI 10) dX12_underWay_35 (by decide) ?_
      refine gs_aload_n dX12_underWay_37 rfl rfl ?_
      refine g_getI dX12_underWay_38 fX12_243 kwM (by decide) hC0.2 ?_
      refine g_imul dX12_underWay_41 (by first | exact pk_mul _ _ | rfl) ?_
      refine gs_iload_n dX12_underWay_42 rfl rfl ?_
      refine g_iadd dX12_underWay_43 (by first | exact nI_add _ _ | rfl) ?_
      refine g_iald dX12_underWay_44 kw_toGo (by omega) (M_toGo hM (by omega)) ?_
      refine gn_if_le (tgt := 52) dX12_underWay_45 (by decide) (by omega) (fun c45 => ?_) (fun c45 => ?_)
      · refine g_iconst (v := nI 0) dX12_underWay_52 (by decide) ?_
        refine g_iadd dX12_underWay_53 (by first | exact nI_add _ _ | rfl) ?_
        refine gs_istore_n (ls' := [_, _, _, _]) dX12_underWay_54 rfl rfl rfl ?_
        refine gs_iinc (ls' := [_, _, _, _]) dX12_underWay_55 rfl (nI_add _ 1) rfl rfl ?_
        refine g_goto (tgt := 4) dX12_underWay_58 (by decide) ?_
        have q := ih (t + 1) (by omega)
        rw [show uwS S a (t + 1) = uwS S a t + 0 from by rw [uwS, if_neg (fun q => absurd q.2 (by omega))]] at q
        exact q
      · refine g_iconst (v := nI 1) dX12_underWay_48 (by decide) ?_
        refine g_goto (tgt := 53) dX12_underWay_49 (by decide) ?_
        refine g_iadd dX12_underWay_53 (by first | exact nI_add _ _ | rfl) ?_
        refine gs_istore_n (ls' := [_, _, _, _]) dX12_underWay_54 rfl rfl rfl ?_
        refine gs_iinc (ls' := [_, _, _, _]) dX12_underWay_55 rfl (nI_add _ 1) rfl rfl ?_
        refine g_goto (tgt := 4) dX12_underWay_58 (by decide) ?_
        have q := ih (t + 1) (by omega)
        rw [show uwS S a (t + 1) = uwS S a t + 1 from by rw [uwS, if_pos ⟨c28, c45⟩]] at q
        exact q
theorem s_underWay {w : Nat} {σ : Mm} {S : Sx} (hM : RepM w σ S) (hB : Bd S) (hC0 : hC w σ) {a : Nat} (ha : a < 4) : RI W0 mX12_underWay [.ref 258, .int (nI a)] σ (fun r τ => r = nI (uwS S a (S.1 9 0)) ∧ τ = σ) := by
  refine G.met (by decide) (Nat.le_of_ble_eq_true rfl) ?_
  show G _ _ _ 0 [some (.ref 258), some (.int (nI a)), none, none] [] σ
  refine g_iconst (v := nI 0) dX12_underWay_0 (by decide) ?_
  refine gs_istore_n (ls' := [_, _, _, _]) dX12_underWay_1 rfl rfl rfl ?_
  refine g_iconst (v := nI 0) dX12_underWay_2 (by decide) ?_
  refine gs_istore_n (ls' := [_, _, _, _]) dX12_underWay_3 rfl rfl rfl ?_
  exact l_underWay hM hB hC0 ha ⟨_, rfl, rfl, rfl⟩ (S.1 9 0) 0 (by omega)
theorem s_isReady {w : Nat} {σ : Mm} {S : Sx} (hM : RepM w σ S) (hB : Bd S) (hC0 : hC w σ) {t : Nat} (ht : t < 10) : RI W0 mX12_isReady [.ref 258, .int (nI t)] σ (fun r τ => r = bI (rdS S t) ∧ τ = σ) := by
  have hw := hC0.1
  have b0 := B_ended hB t
  have b1 := B_toGo hB t
  have b2 := B_next hB t
  have b3 := B_told hB t
  refine G.met (by decide) (Nat.le_of_ble_eq_true rfl) ?_
  show G _ _ _ 0 [some (.ref 258), some (.int (nI t)), none] [] σ
  refine g_bipush (v := nI 10) dX12_isReady_0 (by decide) ?_
  refine gs_aload_n dX12_isReady_2 rfl rfl ?_
  refine g_getI dX12_isReady_3 fX12_243 kwM (by decide) hC0.2 ?_
  refine g_imul dX12_isReady_6 (by first | exact pk_mul _ _ | rfl) ?_
  refine gs_iload_n dX12_isReady_7 rfl rfl ?_
  refine g_iadd dX12_isReady_8 (by first | exact nI_add _ _ | rfl) ?_
  refine gs_istore_n (ls' := [_, _, _]) dX12_isReady_9 rfl rfl rfl ?_
  refine gs_aload_n dX12_isReady_10 rfl rfl ?_
  refine g_getR dX12_isReady_11 fX12_118 kwM (by decide) rM_ended ?_
  refine gs_iload_n dX12_isReady_14 rfl rfl ?_
  refine g_zald dX12_isReady_15 kw_ended (by omega) (M_ended hM (by omega)) ?_
  refine gn_if_ne (tgt := 47) dX12_isReady_16 (by decide) (by omega) (fun c16 => ?_) (fun c16 => ?_)
  · refine g_iconst (v := nI 0) dX12_isReady_47 (by decide) ?_
    refine g_zreturn dX12_isReady_48 rfl (by first | exact bI_01 _ | decide) ?_
    exact ⟨_, rfl, by rw [rdS, decide_eq_false (by omega), Bool.false_and]; rfl, rfl⟩
  · refine gs_aload_n dX12_isReady_19 rfl rfl ?_
    refine g_getR dX12_isReady_20 fX12_112 kwM (by decide) rM_toGo ?_
    refine gs_iload_n dX12_isReady_23 rfl rfl ?_
    refine g_iald dX12_isReady_24 kw_toGo (by omega) (M_toGo hM (by omega)) ?_
    refine gn_if_ne (tgt := 47) dX12_isReady_25 (by decide) (by omega) (fun c25 => ?_) (fun c25 => ?_)
    · refine g_iconst (v := nI 0) dX12_isReady_47 (by decide) ?_
      refine g_zreturn dX12_isReady_48 rfl (by first | exact bI_01 _ | decide) ?_
      exact ⟨_, rfl, by rw [rdS, decide_eq_false (p := S.1 31 t = 0) (by omega), Bool.false_and, Bool.and_false]; rfl, rfl⟩
    · refine gs_aload_n dX12_isReady_28 rfl rfl ?_
      refine g_getR dX12_isReady_29 fX12_109 kwM (by decide) rM_next ?_
      refine gs_iload_n dX12_isReady_32 rfl rfl ?_
      refine g_iald dX12_isReady_33 kw_next (by omega) (M_next hM (by omega)) ?_
      refine gs_aload_n dX12_isReady_34 rfl rfl ?_
      refine g_getR dX12_isReady_35 fX12_22 kwM (by decide) rM_told ?_
      refine gs_iload_n dX12_isReady_38 rfl rfl ?_
      refine g_iald dX12_isReady_39 kw_told (by omega) (M_told hM (by omega)) ?_
      refine gn_icmp_ge (tgt := 47) dX12_isReady_40 (by decide) (by omega) (by omega) (fun c40 => ?_) (fun c40 => ?_)
      · refine g_iconst (v := nI 0) dX12_isReady_47 (by decide) ?_
        refine g_zreturn dX12_isReady_48 rfl (by first | exact bI_01 _ | decide) ?_
        exact ⟨_, rfl, by rw [rdS, decide_eq_false (p := S.1 30 t < S.1 10 t) (by omega), Bool.and_false, Bool.and_false]; rfl, rfl⟩
      · refine g_iconst (v := nI 1) dX12_isReady_43 (by decide) ?_
        refine g_goto (tgt := 48) dX12_isReady_44 (by decide) ?_
        refine g_zreturn dX12_isReady_48 rfl (by first | exact bI_01 _ | decide) ?_
        exact ⟨_, rfl, by rw [rdS, decide_eq_true c16, decide_eq_true c25, decide_eq_true c40]; rfl, rfl⟩
