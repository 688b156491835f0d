/-! The reference: first, note. -/
def canS (S : Sx) (a t : Nat) : Bool := decide (S.1 29 t = a) && (rdS S t && decide (S.1 38 t = 0))
def fsS (S : Sx) (a : Nat) : Nat → Option Nat
  | 0 => none
  | t + 1 => if canS S a t = true ∧ (∀ b, fsS S a t = some b → S.1 35 t < S.1 35 b) then some t else fsS S a t
theorem fsS_lt {S : Sx} {a : Nat} : ∀ t b, fsS S a t = some b → b < t := by
  intro t
  induction t with
  | zero => intro b h; cases h
  | succ t ih =>
    intro b h
    simp only [fsS] at h
    split at h
    · cases h; omega
    · have := ih b h; omega

theorem l_first {w : Nat} {σ : Mm} {S : Sx} {K : Option Value → Mm → Prop} (hM : RepM w σ S) (hB : Bd S) (hC0 : hC w σ) {a : Nat} (ha : a < 4) (hK : K (some (.int (crI (fsS S a (S.1 9 0))))) σ) : ∀ k t, t + k = S.1 9 0 → G W0 mX12_first K 4 [some (.ref 258), some (.int (nI a)), some (.int (crI (fsS S a t))), some (.int (nI t)), none, none] [] σ := by
  have b0 := B_T hB 0
  have hw := hC0.1
  intro k
  induction k with
  | zero =>
    intro t ht
    refine gs_iload_n dX12_first_4 rfl rfl ?_
    refine gs_aload_n dX12_first_5 rfl rfl ?_
    refine g_getI dX12_first_6 fX12_200 kwM (by decide) (M_T hM) ?_
    refine gt_icmp_ge (tgt := 104) dX12_first_9 (by decide) (by omega) (by omega) (by omega) ?_
    refine gs_iload_n dX12_first_104 rfl rfl ?_
    refine g_ireturn dX12_first_105 rfl ?_
    have e : t = S.1 9 0 := by omega
    subst e
    exact hK
  | succ k ih =>
    intro t ht
    have b1 := B_at hB t
    have b2 := B_tried hB t
    have b3 := B_stamp hB t
    have q := ih (t + 1) (by omega)
    cases ho : fsS S a t with
    | none =>
      show G _ _ _ 4 [_, _, some (.int (-1)), _, _, _] _ _
      refine gs_iload_n dX12_first_4 rfl rfl ?_
      refine gs_aload_n dX12_first_5 rfl rfl ?_
      refine g_getI dX12_first_6 fX12_200 kwM (by decide) (M_T hM) ?_
      refine gf_icmp_ge (tgt := 104) dX12_first_9 (by decide) (by omega) (by omega) (by omega) ?_
      refine g_bipush (v := nI 10) dX12_first_12 (by decide) ?_
      refine gs_aload_n dX12_first_14 rfl rfl ?_
      refine g_getI dX12_first_15 fX12_243 kwM (by decide) hC0.2 ?_
      refine g_imul dX12_first_18 (by first | exact pk_mul _ _ | rfl) ?_
      refine gs_iload_n dX12_first_19 rfl rfl ?_
      refine g_iadd dX12_first_20 (by first | exact nI_add _ _ | rfl) ?_
      refine gs_istore (ls' := [_, _, _, _, _, _]) dX12_first_21 rfl rfl ?_
      refine gs_aload_n dX12_first_23 rfl rfl ?_
      refine g_getR dX12_first_24 fX12_103 kwM (by decide) rM_at ?_
      refine g_iload dX12_first_27 rfl ?_
      refine g_iald dX12_first_29 kw_at (by omega) (M_at hM (by omega)) ?_
      refine gs_iload_n dX12_first_30 rfl rfl ?_
      refine gn_icmp_ne (tgt := 56) dX12_first_31 (by decide) (by omega) (by omega) (fun c31 => ?_) (fun c31 => ?_)
      · refine g_iconst (v := nI 0) dX12_first_56 (by decide) ?_
        refine gs_istore (ls' := [_, _, _, _, _, _]) dX12_first_57 rfl rfl ?_
        refine g_iload dX12_first_59 rfl ?_
        refine gt_if_eq (tgt := 96) dX12_first_61 (by decide) (by omega) (by omega) ?_
        refine gs_iload_n dX12_first_96 rfl rfl ?_
        refine gs_istore_n (ls' := [_, _, _, _, _, _]) dX12_first_97 rfl rfl rfl ?_
        refine gs_iinc (ls' := [_, _, _, _, _, _]) dX12_first_98 rfl (nI_add _ 1) rfl rfl ?_
        refine g_goto (tgt := 4) dX12_first_101 (by decide) ?_
        refine G.drop 4 (ls' := [_, _, _, _, none, _]) rfl ?_
        refine G.drop 5 (ls' := [_, _, _, _, none, none]) rfl ?_
        have e : canS S a t = false := by simp [canS, c31]
        rw [show fsS S a (t + 1) = none from by rw [fsS, if_neg (fun z => by rw [e] at z; cases z.1)]; exact ho] at q
        exact q
      · refine gs_aload_n dX12_first_34 rfl rfl ?_
        refine gs_iload_n dX12_first_35 rfl rfl ?_
        refine g_cVI1 dX12_first_36 vX12_315 (by decide) kwM (by decide) (Nat.le_of_ble_eq_true rfl) (s_isReady hM hB hC0 (by omega)) ?_
        rintro _ σ ⟨rfl, e9⟩
        subst e9
        refine gb_if_eq (tgt := 56) dX12_first_39 (by decide) (fun c39 => ?_) (fun c39 => ?_)
        · refine g_iconst (v := nI 0) dX12_first_56 (by decide) ?_
          refine gs_istore (ls' := [_, _, _, _, _, _]) dX12_first_57 rfl rfl ?_
          refine g_iload dX12_first_59 rfl ?_
          refine gt_if_eq (tgt := 96) dX12_first_61 (by decide) (by omega) (by omega) ?_
          refine gs_iload_n dX12_first_96 rfl rfl ?_
          refine gs_istore_n (ls' := [_, _, _, _, _, _]) dX12_first_97 rfl rfl rfl ?_
          refine gs_iinc (ls' := [_, _, _, _, _, _]) dX12_first_98 rfl (nI_add _ 1) rfl rfl ?_
          refine g_goto (tgt := 4) dX12_first_101 (by decide) ?_
          refine G.drop 4 (ls' := [_, _, _, _, none, _]) rfl ?_
          refine G.drop 5 (ls' := [_, _, _, _, none, none]) rfl ?_
          have e : canS S a t = false := by simp [canS, c39]
          rw [show fsS S a (t + 1) = none from by rw [fsS, if_neg (fun z => by rw [e] at z; cases z.1)]; exact ho] at q
          exact q
        · refine gs_aload_n dX12_first_42 rfl rfl ?_
          refine g_getR dX12_first_43 fX12_130 kwM (by decide) rM_tried ?_
          refine g_iload dX12_first_46 rfl ?_
          refine g_zald dX12_first_48 kw_tried (by omega) (M_tried hM (by omega)) ?_
          refine gn_if_ne (tgt := 56) dX12_first_49 (by decide) (by omega) (fun c49 => ?_) (fun c49 => ?_)
          · refine g_iconst (v := nI 0) dX12_first_56 (by decide) ?_
            refine gs_istore (ls' := [_, _, _, _, _, _]) dX12_first_57 rfl rfl ?_
            refine g_iload dX12_first_59 rfl ?_
            refine gt_if_eq (tgt := 96) dX12_first_61 (by decide) (by omega) (by omega) ?_
            refine gs_iload_n dX12_first_96 rfl rfl ?_
            refine gs_istore_n (ls' := [_, _, _, _, _, _]) dX12_first_97 rfl rfl rfl ?_
            refine gs_iinc (ls' := [_, _, _, _, _, _]) dX12_first_98 rfl (nI_add _ 1) rfl rfl ?_
            refine g_goto (tgt := 4) dX12_first_101 (by decide) ?_
            refine G.drop 4 (ls' := [_, _, _, _, none, _]) rfl ?_
            refine G.drop 5 (ls' := [_, _, _, _, none, none]) rfl ?_
            have e : canS S a t = false := by simp only [canS]; rw [decide_eq_false (p := S.1 38 t = 0) (by omega)]; simp
            rw [show fsS S a (t + 1) = none from by rw [fsS, if_neg (fun z => by rw [e] at z; cases z.1)]; exact ho] at q
            exact q
          · refine g_iconst (v := nI 1) dX12_first_52 (by decide) ?_
            refine g_goto (tgt := 57) dX12_first_53 (by decide) ?_
            refine gs_istore (ls' := [_, _, _, _, _, _]) dX12_first_57 rfl rfl ?_
            refine g_iload dX12_first_59 rfl ?_
            refine gf_if_eq (tgt := 96) dX12_first_61 (by decide) (by omega) (by omega) ?_
            refine gs_iload_n dX12_first_64 rfl rfl ?_
            refine rt_if_lt (tgt := 92) dX12_first_65 (by decide) (by decide) ?_
            refine gs_iload_n dX12_first_92 rfl rfl ?_
            refine g_goto (tgt := 97) dX12_first_93 (by decide) ?_
            refine gs_istore_n (ls' := [_, _, _, _, _, _]) dX12_first_97 rfl rfl rfl ?_
            refine gs_iinc (ls' := [_, _, _, _, _, _]) dX12_first_98 rfl (nI_add _ 1) rfl rfl ?_
            refine g_goto (tgt := 4) dX12_first_101 (by decide) ?_
            refine G.drop 4 (ls' := [_, _, _, _, none, _]) rfl ?_
            refine G.drop 5 (ls' := [_, _, _, _, none, none]) rfl ?_
            have e : canS S a t = true := by simp only [canS]; rw [decide_eq_true c31, c39, decide_eq_true c49]; rfl
            rw [show fsS S a (t + 1) = some t from by rw [fsS, if_pos ⟨e, fun b hb => by rw [ho] at hb; cases hb⟩]] at q
            exact q
    | some b =>
      have hb := fsS_lt t b ho
      have b4 := B_stamp hB b
      show G _ _ _ 4 [_, _, some (.int (nI b)), _, _, _] _ _
      refine gs_iload_n dX12_first_4 rfl rfl ?_
      refine gs_aload_n dX12_first_5 rfl rfl ?_
      refine g_getI dX12_first_6 fX12_200 kwM (by decide) (M_T hM) ?_
      refine gf_icmp_ge (tgt := 104) dX12_first_9 (by decide) (by omega) (by omega) (by omega) ?_
      refine g_bipush (v := nI 10) dX12_first_12 (by decide) ?_
      refine gs_aload_n dX12_first_14 rfl rfl ?_
      refine g_getI dX12_first_15 fX12_243 kwM (by decide) hC0.2 ?_
      refine g_imul dX12_first_18 (by first | exact pk_mul _ _ | rfl) ?_
      refine gs_iload_n dX12_first_19 rfl rfl ?_
      refine g_iadd dX12_first_20 (by first | exact nI_add _ _ | rfl) ?_
      refine gs_istore (ls' := [_, _, _, _, _, _]) dX12_first_21 rfl rfl ?_
      refine gs_aload_n dX12_first_23 rfl rfl ?_
      refine g_getR dX12_first_24 fX12_103 kwM (by decide) rM_at ?_
      refine g_iload dX12_first_27 rfl ?_
      refine g_iald dX12_first_29 kw_at (by omega) (M_at hM (by omega)) ?_
      refine gs_iload_n dX12_first_30 rfl rfl ?_
      refine gn_icmp_ne (tgt := 56) dX12_first_31 (by decide) (by omega) (by omega) (fun c31 => ?_) (fun c31 => ?_)
      · refine g_iconst (v := nI 0) dX12_first_56 (by decide) ?_
        refine gs_istore (ls' := [_, _, _, _, _, _]) dX12_first_57 rfl rfl ?_
        refine g_iload dX12_first_59 rfl ?_
        refine gt_if_eq (tgt := 96) dX12_first_61 (by decide) (by omega) (by omega) ?_
        refine gs_iload_n dX12_first_96 rfl rfl ?_
        refine gs_istore_n (ls' := [_, _, _, _, _, _]) dX12_first_97 rfl rfl rfl ?_
        refine gs_iinc (ls' := [_, _, _, _, _, _]) dX12_first_98 rfl (nI_add _ 1) rfl rfl ?_
        refine g_goto (tgt := 4) dX12_first_101 (by decide) ?_
        refine G.drop 4 (ls' := [_, _, _, _, none, _]) rfl ?_
        refine G.drop 5 (ls' := [_, _, _, _, none, none]) rfl ?_
        have e : canS S a t = false := by simp [canS, c31]
        rw [show fsS S a (t + 1) = some b from by rw [fsS, if_neg (fun z => by rw [e] at z; cases z.1)]; exact ho] at q
        exact q
      · refine gs_aload_n dX12_first_34 rfl rfl ?_
        refine gs_iload_n dX12_first_35 rfl rfl ?_
        refine g_cVI1 dX12_first_36 vX12_315 (by decide) kwM (by decide) (Nat.le_of_ble_eq_true rfl) (s_isReady hM hB hC0 (by omega)) ?_
        rintro _ σ ⟨rfl, e9⟩
        subst e9
        refine gb_if_eq (tgt := 56) dX12_first_39 (by decide) (fun c39 => ?_) (fun c39 => ?_)
        · refine g_iconst (v := nI 0) dX12_first_56 (by decide) ?_
          refine gs_istore (ls' := [_, _, _, _, _, _]) dX12_first_57 rfl rfl ?_
          refine g_iload dX12_first_59 rfl ?_
          refine gt_if_eq (tgt := 96) dX12_first_61 (by decide) (by omega) (by omega) ?_
          refine gs_iload_n dX12_first_96 rfl rfl ?_
          refine gs_istore_n (ls' := [_, _, _, _, _, _]) dX12_first_97 rfl rfl rfl ?_
          refine gs_iinc (ls' := [_, _, _, _, _, _]) dX12_first_98 rfl (nI_add _ 1) rfl rfl ?_
          refine g_goto (tgt := 4) dX12_first_101 (by decide) ?_
          refine G.drop 4 (ls' := [_, _, _, _, none, _]) rfl ?_
          refine G.drop 5 (ls' := [_, _, _, _, none, none]) rfl ?_
          have e : canS S a t = false := by simp [canS, c39]
          rw [show fsS S a (t + 1) = some b from by rw [fsS, if_neg (fun z => by rw [e] at z; cases z.1)]; exact ho] at q
          exact q
        · refine gs_aload_n dX12_first_42 rfl rfl ?_
          refine g_getR dX12_first_43 fX12_130 kwM (by decide) rM_tried ?_
          refine g_iload dX12_first_46 rfl ?_
          refine g_zald dX12_first_48 kw_tried (by omega) (M_tried hM (by omega)) ?_
          refine gn_if_ne (tgt := 56) dX12_first_49 (by decide) (by omega) (fun c49 => ?_) (fun c49 => ?_)
          · refine g_iconst (v := nI 0) dX12_first_56 (by decide) ?_
            refine gs_istore (ls' := [_, _, _, _, _, _]) dX12_first_57 rfl rfl ?_
            refine g_iload dX12_first_59 rfl ?_
            refine gt_if_eq (tgt := 96) dX12_first_61 (by decide) (by omega) (by omega) ?_
            refine gs_iload_n dX12_first_96 rfl rfl ?_
            refine gs_istore_n (ls' := [_, _, _, _, _, _]) dX12_first_97 rfl rfl rfl ?_
            refine gs_iinc (ls' := [_, _, _, _, _, _]) dX12_first_98 rfl (nI_add _ 1) rfl rfl ?_
            refine g_goto (tgt := 4) dX12_first_101 (by decide) ?_
            refine G.drop 4 (ls' := [_, _, _, _, none, _]) rfl ?_
            refine G.drop 5 (ls' := [_, _, _, _, none, none]) rfl ?_
            have e : canS S a t = false := by simp only [canS]; rw [decide_eq_false (p := S.1 38 t = 0) (by omega)]; simp
            rw [show fsS S a (t + 1) = some b from by rw [fsS, if_neg (fun z => by rw [e] at z; cases z.1)]; exact ho] at q
            exact q
          · refine g_iconst (v := nI 1) dX12_first_52 (by decide) ?_
            refine g_goto (tgt := 57) dX12_first_53 (by decide) ?_
            refine gs_istore (ls' := [_, _, _, _, _, _]) dX12_first_57 rfl rfl ?_
            refine g_iload dX12_first_59 rfl ?_
            refine gf_if_eq (tgt := 96) dX12_first_61 (by decide) (by omega) (by omega) ?_
            refine gs_iload_n dX12_first_64 rfl rfl ?_
            refine gf_if_lt (tgt := 92) dX12_first_65 (by decide) (by omega) ?_
            refine gs_aload_n dX12_first_68 rfl rfl ?_
            refine g_getR dX12_first_69 fX12_106 kwM (by decide) rM_stamp ?_
            refine g_iload dX12_first_72 rfl ?_
            refine g_iald dX12_first_74 kw_stamp (by omega) (M_stamp hM (by omega)) ?_
            refine gs_aload_n dX12_first_75 rfl rfl ?_
            refine g_getR dX12_first_76 fX12_106 kwM (by decide) rM_stamp ?_
            refine g_bipush (v := nI 10) dX12_first_79 (by decide) ?_
            refine gs_aload_n dX12_first_81 rfl rfl ?_
            refine g_getI dX12_first_82 fX12_243 kwM (by decide) hC0.2 ?_
            refine g_imul dX12_first_85 (by first | exact pk_mul _ _ | rfl) ?_
            refine gs_iload_n dX12_first_86 rfl rfl ?_
            refine g_iadd dX12_first_87 (by first | exact nI_add _ _ | rfl) ?_
            refine g_iald dX12_first_88 kw_stamp (by omega) (M_stamp hM (by omega)) ?_
            refine gn_icmp_ge (tgt := 96) dX12_first_89 (by decide) (by omega) (by omega) (fun c89 => ?_) (fun c89 => ?_)
            · refine gs_iload_n dX12_first_96 rfl rfl ?_
              refine gs_istore_n (ls' := [_, _, _, _, _, _]) dX12_first_97 rfl rfl rfl ?_
              refine gs_iinc (ls' := [_, _, _, _, _, _]) dX12_first_98 rfl (nI_add _ 1) rfl rfl ?_
              refine g_goto (tgt := 4) dX12_first_101 (by decide) ?_
              refine G.drop 4 (ls' := [_, _, _, _, none, _]) rfl ?_
              refine G.drop 5 (ls' := [_, _, _, _, none, none]) rfl ?_
              have e : canS S a t = true := by simp only [canS]; rw [decide_eq_true c31, c39, decide_eq_true c49]; rfl
              rw [show fsS S a (t + 1) = some b from by rw [fsS, if_neg (fun z => absurd (z.2 b ho) (by omega))]; exact ho] at q
              exact q
            · refine gs_iload_n dX12_first_92 rfl rfl ?_
              refine g_goto (tgt := 97) dX12_first_93 (by decide) ?_
              refine gs_istore_n (ls' := [_, _, _, _, _, _]) dX12_first_97 rfl rfl rfl ?_
              refine gs_iinc (ls' := [_, _, _, _, _, _]) dX12_first_98 rfl (nI_add _ 1) rfl rfl ?_
              refine g_goto (tgt := 4) dX12_first_101 (by decide) ?_
              refine G.drop 4 (ls' := [_, _, _, _, none, _]) rfl ?_
              refine G.drop 5 (ls' := [_, _, _, _, none, none]) rfl ?_
              have e : canS S a t = true := by simp only [canS]; rw [decide_eq_true c31, c39, decide_eq_true c49]; rfl
              rw [show fsS S a (t + 1) = some t from by rw [fsS, if_pos ⟨e, fun b2 hb => by rw [ho] at hb; cases hb; exact c89⟩]] at q
              exact q
theorem s_first {w : Nat} {σ : Mm} {S : Sx} (hM : RepM w σ S) (hB : Bd S) (hC0 : hC w σ) {a : Nat} (ha : a < 4) : RI W0 mX12_first [.ref 258, .int (nI a)] σ (fun r τ => r = crI (fsS S a (S.1 9 0)) ∧ τ = σ) := by
  refine G.met (by decide) (Nat.le_of_ble_eq_true rfl) ?_
  show G _ _ _ 0 [some (.ref 258), some (.int (nI a)), none, none, none, none] [] σ
  refine g_iconst (v := -1) dX12_first_0 (by decide) ?_
  refine gs_istore_n (ls' := [_, _, _, _, _, _]) dX12_first_1 rfl rfl rfl ?_
  refine g_iconst (v := nI 0) dX12_first_2 (by decide) ?_
  refine gs_istore_n (ls' := [_, _, _, _, _, _]) dX12_first_3 rfl rfl rfl ?_
  exact l_first hM hB hC0 ha ⟨_, rfl, rfl, rfl⟩ (S.1 9 0) 0 (by omega)
/-- the log's writes, seen from the other world -/
theorem RepM.other4 {w : Nat} {σ : Mm} {S : Sx} (h : RepM w σ S) (hw : w ≠ 0) {g j : Nat} {v : Int32} (hg : g < 20) (hs : 0 < vSL.getD g 0) (hj : vJL.getD g false = true) : RepM w (wI σ (vA g) j v) S := by
  refine ⟨fun g' i' hd => ?_, fun g' i' hd hl => ?_, fun g' i' hd hl => ?_⟩
  · obtain ⟨hd1, hd2⟩ := mS_lt hd
    rw [wI_at, if_neg (fun q => tab_nv g' hd2 g hg (by omega) hs q.1)]
    exact h.1 g' i' hd
  · obtain ⟨hd1, hd2⟩ := vS_lt hd
    rw [wI_at, if_neg ?_]
    · exact h.2.1 g' i' hd hl
    · rintro ⟨e1, e2⟩
      by_cases e : g = g'
      · subst e
        unfold vS at hd
        rw [if_neg (by rintro (q | q); exact hw q; rw [hj] at q; cases q)] at hd
        omega
      · exact tab_vv g hg g' hd2 e hs (by omega) e1.symm
  · rw [wI_2]; exact h.2.2 g' i' hd hl
theorem RepM.other5 {w : Nat} {σ : Mm} {S : Sx} (h : RepM w σ S) (hw : w ≠ 0) {v : Int32} : RepM w (wI σ 258 51 v) S := by
  refine ⟨fun g' i' hd => ?_, fun g' i' hd hl => ?_, fun g' i' hd hl => ?_⟩
  · obtain ⟨hd1, hd2⟩ := mS_lt hd
    rw [wI_at, if_neg ?_]
    · exact h.1 g' i' hd
    · rintro ⟨e1, e2⟩
      have e : g' = 34 := loc_nn (w := w) (w' := w) (g := 34) (i := 0) (by decide) hd1 (e1.trans rfl) (e2.trans (by simp [mK, mKL, mML]))
      subst e
      unfold mS at hd
      rw [if_neg (by rintro (q | q); exact hw q; cases q)] at hd
      omega
  · obtain ⟨hd1, hd2⟩ := vS_lt hd
    rw [wI_at, if_neg (fun q => tab_nv 34 (by decide) g' hd2 (by decide) (by omega) q.1.symm)]
    exact h.2.1 g' i' hd hl
  · rw [wI_2]; exact h.2.2 g' i' hd hl
theorem M_logged {σ : Mm} {S : Sx} (h : RepM 0 σ S) : σ.1 258 51 = nI (S.1 34 0) := by
  have q := h.1 34 0 (by decide)
  simpa [mA, mAL, mK, mKL, mML, encM] using q
theorem QV_log {σ0 σ : Mm} {S : Sx} (h : Mq 0 σ0 S σ) {i : Nat} (hi : i < 3000) {v : Int32} : Mq 0 σ0 (setV S 16 i v) (wI σ 301 i v) := by
  have q := h.1.putV (g := 16) (i := i) (v := v) (by simp [vSL]; exact hi) rfl
  have hf : frM σ (wI σ 301 i v) := (frM.rf σ).wI (by decide) (by decide)
  refine ⟨by simpa [vA, vAL, vK, vML] using q, h.2.1.of hf.2.1, h.2.2.1.tr hf, fun X hX => ?_⟩
  exact (h.2.2.2 X hX).other4 (g := 16) (by decide) (by decide) (by decide) rfl
theorem QV_logValue {σ0 σ : Mm} {S : Sx} (h : Mq 0 σ0 S σ) {i : Nat} (hi : i < 300) {v : Int32} : Mq 0 σ0 (setV S 17 i v) (wI σ 302 i v) := by
  have q := h.1.putV (g := 17) (i := i) (v := v) (by simp [vSL]; exact hi) rfl
  have hf : frM σ (wI σ 302 i v) := (frM.rf σ).wI (by decide) (by decide)
  refine ⟨by simpa [vA, vAL, vK, vML] using q, h.2.1.of hf.2.1, h.2.2.1.tr hf, fun X hX => ?_⟩
  exact (h.2.2.2 X hX).other4 (g := 17) (by decide) (by decide) (by decide) rfl
theorem Mw_logged {σ0 σ : Mm} {S : Sx} (h : Mw 0 σ0 S σ) {v : Nat} : Mw 0 σ0 (setN S 34 0 v) (wI σ 258 51 (nI v)) := by
  have q := h.1.putN (g := 34) (i := 0) (v := v) (by decide)
  have q : RepM 0 (wI σ 258 51 (nI v)) (setN S 34 0 v) := by simpa [mA, mAL, mK, mKL, mML, encM] using q
  have hf : frW σ (wI σ 258 51 (nI v)) := by
    refine ⟨fun q hq => ⟨?_, rfl⟩, ?_, fun q hq => ⟨?_, rfl⟩⟩
    · funext k; rw [wI_at, if_neg (by omega)]
    · rw [wI_at, if_neg (by omega)]
    · funext k; rw [wI_at, if_neg (by omega)]
  exact ⟨q, ⟨h.2.1.1, hf.2.1.trans h.2.1.2⟩, h.2.2.1.tr hf, fun X hX => (h.2.2.2 X hX).other5 (by decide)⟩
def ntS (S : Sx) (t a x place by0 : Nat) (df dm : Bool) : Sx :=
  if S.1 34 0 = S.1 39 0 then S else
  setN (setV (setV (setV (setV (setV (setV (setV (setV (setV (setV (setV S 16 (10 * S.1 34 0) (S.2.1 1 0)) 16 (10 * S.1 34 0 + 1) (nI t)) 16 (10 * S.1 34 0 + 2) (nI a)) 16 (10 * S.1 34 0 + 3) (nI (S.1 11 x))) 16 (10 * S.1 34 0 + 4) (nI (S.1 12 x))) 16 (10 * S.1 34 0 + 5) (nI (S.1 13 x))) 16 (10 * S.1 34 0 + 6) (nI place)) 16 (10 * S.1 34 0 + 7) (nI by0)) 16 (10 * S.1 34 0 + 8) (bI df)) 16 (10 * S.1 34 0 + 9) (bI dm)) 17 (S.1 34 0) (S.2.1 0 x)) 34 0 (S.1 34 0 + 1)
/-- the log is open in the first world alone -/
def hCap (w : Nat) (S : Sx) : Prop := (w = 0 → S.1 39 0 = 300) ∧ (w = 1 → S.1 34 0 = S.1 39 0)
theorem s_note {w : Nat} {σ : Mm} {S : Sx} (hM : RepM w σ S) (hB : Bd S) (hC0 : hC w σ) {t a x place by0 : Nat} {df dm : Bool} (hcap : hCap w S) (hd : hD df dm σ) (hx : x < 600) : RV W0 mX12_note [.ref 258, .int (nI t), .int (nI a), .int (nI x), .int (nI place), .int (nI by0)] σ (fun τ => Mw w σ (ntS S t a x place by0 df dm) τ) := by
  have hw := hC0.1
  have b0 := B_logged hB 0
  have b1 := B_aWrites hB x
  refine G.met (by decide) (Nat.le_of_ble_eq_true rfl) ?_
  show G _ _ _ 0 [some (.ref 258), some (.int (nI t)), some (.int (nI a)), some (.int (nI x)), some (.int (nI place)), some (.int (nI by0)), none] [] σ
  refine gs_aload_n dX12_note_0 rfl rfl ?_
  refine g_getI dX12_note_1 fX12_243 kwM (by decide) hC0.2 ?_
  refine gn_if_gt (tgt := 17) dX12_note_4 (by decide) (by omega) (fun c4 => ?_) (fun c4 => ?_)
  · refine g_return dX12_note_17 rfl ?_
    exact ⟨rfl, by rw [ntS, if_pos (hcap.2 (by omega))]; exact (Mq.rf hM hC0).weak⟩
  · subst c4
    have hQ := Mq.rf hM hC0
    refine gs_aload_n dX12_note_7 rfl rfl ?_
    refine g_getI dX12_note_8 fX12_284 kwM (by decide) (show _ = nI (S.1 34 0) from by have q := M_logged hM; exact q) ?_
    refine g_sipush (v := nI 300) dX12_note_11 (by decide) ?_
    refine gn_icmp_ne (tgt := 18) dX12_note_14 (by decide) (by omega) (by omega) (fun c14 => ?_) (fun c14 => ?_)
    · refine g_bipush (v := nI 10) dX12_note_18 (by decide) ?_
      refine gs_aload_n dX12_note_20 rfl rfl ?_
      refine g_getI dX12_note_21 fX12_284 kwM (by decide) (show _ = nI (S.1 34 0) from by have q := M_logged hM; exact q) ?_
      refine g_imul dX12_note_24 (by first | exact pk_mul _ _ | rfl) ?_
      refine gs_istore (ls' := [_, _, _, _, _, _, _]) dX12_note_25 rfl rfl ?_
      refine gs_aload_n dX12_note_27 rfl rfl ?_
      refine g_getR dX12_note_28 fX12_145 kwM (by decide) rM_log ?_
      refine g_iload dX12_note_31 rfl ?_
      refine gs_aload_n dX12_note_33 rfl rfl ?_
      refine g_getR dX12_note_34 fX12_54 kwM (by decide) rM_tick ?_
      refine g_iconst (v := nI 0) dX12_note_37 (by decide) ?_
      refine g_iald dX12_note_38 kw_tick (by omega) (show _ = S.2.1 1 0 from (by have q := MV_tick hM; exact q)) ?_
      refine gq_iast dX12_note_39 kw_log (by omega) (QV_log hQ (by omega)) (fun σ hQ => ?_)
      have hM := hQ.1
      have hC0 := hQ.2.1
      refine gs_aload_n dX12_note_40 rfl rfl ?_
      refine g_getR dX12_note_41 fX12_145 kwM (by decide) rM_log ?_
      refine g_iload dX12_note_44 rfl ?_
      refine g_iconst (v := nI 1) dX12_note_46 (by decide) ?_
      refine g_iadd dX12_note_47 (by first | exact nI_add _ _ | rfl) ?_
      refine gs_iload_n dX12_note_48 rfl rfl ?_
      refine gq_iast dX12_note_49 kw_log (by omega) (QV_log hQ (by omega)) (fun σ hQ => ?_)
      have hM := hQ.1
      have hC0 := hQ.2.1
      refine gs_aload_n dX12_note_50 rfl rfl ?_
      refine g_getR dX12_note_51 fX12_145 kwM (by decide) rM_log ?_
      refine g_iload dX12_note_54 rfl ?_
      refine g_iconst (v := nI 2) dX12_note_56 (by decide) ?_
      refine g_iadd dX12_note_57 (by first | exact nI_add _ _ | rfl) ?_
      refine gs_iload_n dX12_note_58 rfl rfl ?_
      refine gq_iast dX12_note_59 kw_log (by omega) (QV_log hQ (by omega)) (fun σ hQ => ?_)
      have hM := hQ.1
      have hC0 := hQ.2.1
      refine gs_aload_n dX12_note_60 rfl rfl ?_
      refine g_getR dX12_note_61 fX12_145 kwM (by decide) rM_log ?_
      refine g_iload dX12_note_64 rfl ?_
      refine g_iconst (v := nI 3) dX12_note_66 (by decide) ?_
      refine g_iadd dX12_note_67 (by first | exact nI_add _ _ | rfl) ?_
      refine gs_aload_n dX12_note_68 rfl rfl ?_
      refine g_getR dX12_note_69 fX12_25 kwM (by decide) rM_aPage ?_
      refine gs_iload_n dX12_note_72 rfl rfl ?_
      refine g_iald dX12_note_73 kw_aPage (by omega) (show _ = nI (S.1 11 x) from by have q := M_aPage hM hx; exact q) ?_
      refine gq_iast dX12_note_74 kw_log (by omega) (QV_log hQ (by omega)) (fun σ hQ => ?_)
      have hM := hQ.1
      have hC0 := hQ.2.1
      refine gs_aload_n dX12_note_75 rfl rfl ?_
      refine g_getR dX12_note_76 fX12_145 kwM (by decide) rM_log ?_
      refine g_iload dX12_note_79 rfl ?_
      refine g_iconst (v := nI 4) dX12_note_81 (by decide) ?_
      refine g_iadd dX12_note_82 (by first | exact nI_add _ _ | rfl) ?_
      refine gs_aload_n dX12_note_83 rfl rfl ?_
      refine g_getR dX12_note_84 fX12_28 kwM (by decide) rM_aCell ?_
      refine gs_iload_n dX12_note_87 rfl rfl ?_
      refine g_iald dX12_note_88 kw_aCell (by omega) (show _ = nI (S.1 12 x) from by have q := M_aCell hM hx; exact q) ?_
      refine gq_iast dX12_note_89 kw_log (by omega) (QV_log hQ (by omega)) (fun σ hQ => ?_)
      have hM := hQ.1
      have hC0 := hQ.2.1
      refine gs_aload_n dX12_note_90 rfl rfl ?_
      refine g_getR dX12_note_91 fX12_145 kwM (by decide) rM_log ?_
      refine g_iload dX12_note_94 rfl ?_
      refine g_iconst (v := nI 5) dX12_note_96 (by decide) ?_
      refine g_iadd dX12_note_97 (by first | exact nI_add _ _ | rfl) ?_
      refine gs_aload_n dX12_note_98 rfl rfl ?_
      refine g_getR dX12_note_99 fX12_31 kwM (by decide) rM_aWrites ?_
      refine gs_iload_n dX12_note_102 rfl rfl ?_
      refine g_zald dX12_note_103 kw_aWrites (by omega) (show _ = nI (S.1 13 x) from by have q := M_aWrites hM hx; exact q) ?_
      refine gn_if_eq (tgt := 111) dX12_note_104 (by decide) (by omega) (fun c104 => ?_) (fun c104 => ?_)
      · refine g_iconst (v := nI 0) dX12_note_111 (by decide) ?_
        refine gq_iast dX12_note_112 kw_log (by omega) (QV_log hQ (by omega)) (fun σ hQ => ?_)
        have hM := hQ.1
        have hC0 := hQ.2.1
        refine gs_aload_n dX12_note_113 rfl rfl ?_
        refine g_getR dX12_note_114 fX12_145 kwM (by decide) rM_log ?_
        refine g_iload dX12_note_117 rfl ?_
        refine g_bipush (v := nI 6) dX12_note_119 (by decide) ?_
        refine g_iadd dX12_note_121 (by first | exact nI_add _ _ | rfl) ?_
        refine g_iload dX12_note_122 rfl ?_
        refine gq_iast dX12_note_124 kw_log (by omega) (QV_log hQ (by omega)) (fun σ hQ => ?_)
        have hM := hQ.1
        have hC0 := hQ.2.1
        refine gs_aload_n dX12_note_125 rfl rfl ?_
        refine g_getR dX12_note_126 fX12_145 kwM (by decide) rM_log ?_
        refine g_iload dX12_note_129 rfl ?_
        refine g_bipush (v := nI 7) dX12_note_131 (by decide) ?_
        refine g_iadd dX12_note_133 (by first | exact nI_add _ _ | rfl) ?_
        refine g_iload dX12_note_134 rfl ?_
        refine gq_iast dX12_note_136 kw_log (by omega) (QV_log hQ (by omega)) (fun σ hQ => ?_)
        have hM := hQ.1
        have hC0 := hQ.2.1
        refine gs_aload_n dX12_note_137 rfl rfl ?_
        refine g_getR dX12_note_138 fX12_145 kwM (by decide) rM_log ?_
        refine g_iload dX12_note_141 rfl ?_
        refine g_bipush (v := nI 8) dX12_note_143 (by decide) ?_
        refine g_iadd dX12_note_145 (by first | exact nI_add _ _ | rfl) ?_
        refine gs_aload_n dX12_note_146 rfl rfl ?_
        refine g_getI dX12_note_147 fX12_264 kwM (by decide) (show _ = bI df from ((congrFun hQ.2.2.1.2.1 54).trans hd.1)) ?_
        refine gb_if_eq (tgt := 157) dX12_note_150 (by decide) (fun c150 => ?_) (fun c150 => ?_)
        · refine g_iconst (v := nI 0) dX12_note_157 (by decide) ?_
          refine gq_iast dX12_note_158 kw_log (by omega) (QV_log hQ (by omega)) (fun σ hQ => ?_)
          have hM := hQ.1
          have hC0 := hQ.2.1
          refine gs_aload_n dX12_note_159 rfl rfl ?_
          refine g_getR dX12_note_160 fX12_145 kwM (by decide) rM_log ?_
          refine g_iload dX12_note_163 rfl ?_
          refine g_bipush (v := nI 9) dX12_note_165 (by decide) ?_
          refine g_iadd dX12_note_167 (by first | exact nI_add _ _ | rfl) ?_
          refine gs_aload_n dX12_note_168 rfl rfl ?_
          refine g_getI dX12_note_169 fX12_278 kwM (by decide) (show _ = bI dm from ((congrFun hQ.2.2.1.2.1 55).trans hd.2)) ?_
          refine gb_if_eq (tgt := 179) dX12_note_172 (by decide) (fun c172 => ?_) (fun c172 => ?_)
          · refine g_iconst (v := nI 0) dX12_note_179 (by decide) ?_
            refine gq_iast dX12_note_180 kw_log (by omega) (QV_log hQ (by omega)) (fun σ hQ => ?_)
            have hM := hQ.1
            have hC0 := hQ.2.1
            refine gs_aload_n dX12_note_181 rfl rfl ?_
            refine g_getR dX12_note_182 fX12_148 kwM (by decide) rM_logValue ?_
            refine gs_aload_n dX12_note_185 rfl rfl ?_
            refine g_getI dX12_note_186 fX12_284 kwM (by decide) (show _ = nI (S.1 34 0) from by have q := M_logged hM; exact q) ?_
            refine gs_aload_n dX12_note_189 rfl rfl ?_
            refine g_getR dX12_note_190 fX12_35 kwM (by decide) rM_aValue ?_
            refine gs_iload_n dX12_note_193 rfl rfl ?_
            refine g_iald dX12_note_194 kw_aValue (by omega) (show _ = S.2.1 0 x from by have q := MV_aValue hM hx; exact q) ?_
            refine gq_iast dX12_note_195 kw_logValue (by omega) (QV_logValue hQ (by omega)) (fun σ hQ => ?_)
            have hM := hQ.1
            have hC0 := hQ.2.1
            refine gs_aload_n dX12_note_196 rfl rfl ?_
            refine g_dup dX12_note_197 rfl ?_
            refine g_getI dX12_note_198 fX12_284 kwM (by decide) (show _ = nI (S.1 34 0) from by have q := M_logged hM; exact q) ?_
            refine g_iconst (v := nI 1) dX12_note_201 (by decide) ?_
            refine g_iadd dX12_note_202 (by first | exact nI_add _ _ | rfl) ?_
            refine g_putI dX12_note_203 pX12_284 kwM (by decide) (Or.inl rfl) ?_
            have hW := Mw_logged hQ.weak (v := S.1 34 0 + 1)
            refine g_return dX12_note_206 rfl ?_
            have e5 : nI (S.1 13 x) = nI 0 := by rw [show S.1 13 x = 0 from by omega]
            have e8 : bI df = nI 0 := by rw [c150]; rfl
            have e9 : bI dm = nI 0 := by rw [c172]; rfl
            exact ⟨rfl, by rw [ntS, if_neg (by rw [hcap.1 rfl]; exact c14), e5, e8, e9]; exact hW⟩
          · refine g_iconst (v := nI 1) dX12_note_175 (by decide) ?_
            refine g_goto (tgt := 180) dX12_note_176 (by decide) ?_
            refine gq_iast dX12_note_180 kw_log (by omega) (QV_log hQ (by omega)) (fun σ hQ => ?_)
            have hM := hQ.1
            have hC0 := hQ.2.1
            refine gs_aload_n dX12_note_181 rfl rfl ?_
            refine g_getR dX12_note_182 fX12_148 kwM (by decide) rM_logValue ?_
            refine gs_aload_n dX12_note_185 rfl rfl ?_
            refine g_getI dX12_note_186 fX12_284 kwM (by decide) (show _ = nI (S.1 34 0) from by have q := M_logged hM; exact q) ?_
            refine gs_aload_n dX12_note_189 rfl rfl ?_
            refine g_getR dX12_note_190 fX12_35 kwM (by decide) rM_aValue ?_
            refine gs_iload_n dX12_note_193 rfl rfl ?_
            refine g_iald dX12_note_194 kw_aValue (by omega) (show _ = S.2.1 0 x from by have q := MV_aValue hM hx; exact q) ?_
            refine gq_iast dX12_note_195 kw_logValue (by omega) (QV_logValue hQ (by omega)) (fun σ hQ => ?_)
            have hM := hQ.1
            have hC0 := hQ.2.1
            refine gs_aload_n dX12_note_196 rfl rfl ?_
            refine g_dup dX12_note_197 rfl ?_
            refine g_getI dX12_note_198 fX12_284 kwM (by decide) (show _ = nI (S.1 34 0) from by have q := M_logged hM; exact q) ?_
            refine g_iconst (v := nI 1) dX12_note_201 (by decide) ?_
            refine g_iadd dX12_note_202 (by first | exact nI_add _ _ | rfl) ?_
            refine g_putI dX12_note_203 pX12_284 kwM (by decide) (Or.inl rfl) ?_
            have hW := Mw_logged hQ.weak (v := S.1 34 0 + 1)
            refine g_return dX12_note_206 rfl ?_
            have e5 : nI (S.1 13 x) = nI 0 := by rw [show S.1 13 x = 0 from by omega]
            have e8 : bI df = nI 0 := by rw [c150]; rfl
            have e9 : bI dm = nI 1 := by rw [c172]; rfl
            exact ⟨rfl, by rw [ntS, if_neg (by rw [hcap.1 rfl]; exact c14), e5, e8, e9]; exact hW⟩
        · refine g_iconst (v := nI 1) dX12_note_153 (by decide) ?_
          refine g_goto (tgt := 158) dX12_note_154 (by decide) ?_
          refine gq_iast dX12_note_158 kw_log (by omega) (QV_log hQ (by omega)) (fun σ hQ => ?_)
          have hM := hQ.1
          have hC0 := hQ.2.1
          refine gs_aload_n dX12_note_159 rfl rfl ?_
          refine g_getR dX12_note_160 fX12_145 kwM (by decide) rM_log ?_
          refine g_iload dX12_note_163 rfl ?_
          refine g_bipush (v := nI 9) dX12_note_165 (by decide) ?_
          refine g_iadd dX12_note_167 (by first | exact nI_add _ _ | rfl) ?_
          refine gs_aload_n dX12_note_168 rfl rfl ?_
          refine g_getI dX12_note_169 fX12_278 kwM (by decide) (show _ = bI dm from ((congrFun hQ.2.2.1.2.1 55).trans hd.2)) ?_
          refine gb_if_eq (tgt := 179) dX12_note_172 (by decide) (fun c172 => ?_) (fun c172 => ?_)
          · refine g_iconst (v := nI 0) dX12_note_179 (by decide) ?_
            refine gq_iast dX12_note_180 kw_log (by omega) (QV_log hQ (by omega)) (fun σ hQ => ?_)
            have hM := hQ.1
            have hC0 := hQ.2.1
            refine gs_aload_n dX12_note_181 rfl rfl ?_
            refine g_getR dX12_note_182 fX12_148 kwM (by decide) rM_logValue ?_
            refine gs_aload_n dX12_note_185 rfl rfl ?_
            refine g_getI dX12_note_186 fX12_284 kwM (by decide) (show _ = nI (S.1 34 0) from by have q := M_logged hM; exact q) ?_
            refine gs_aload_n dX12_note_189 rfl rfl ?_
            refine g_getR dX12_note_190 fX12_35 kwM (by decide) rM_aValue ?_
            refine gs_iload_n dX12_note_193 rfl rfl ?_
            refine g_iald dX12_note_194 kw_aValue (by omega) (show _ = S.2.1 0 x from by have q := MV_aValue hM hx; exact q) ?_
            refine gq_iast dX12_note_195 kw_logValue (by omega) (QV_logValue hQ (by omega)) (fun σ hQ => ?_)
            have hM := hQ.1
            have hC0 := hQ.2.1
            refine gs_aload_n dX12_note_196 rfl rfl ?_
            refine g_dup dX12_note_197 rfl ?_
            refine g_getI dX12_note_198 fX12_284 kwM (by decide) (show _ = nI (S.1 34 0) from by have q := M_logged hM; exact q) ?_
            refine g_iconst (v := nI 1) dX12_note_201 (by decide) ?_
            refine g_iadd dX12_note_202 (by first | exact nI_add _ _ | rfl) ?_
            refine g_putI dX12_note_203 pX12_284 kwM (by decide) (Or.inl rfl) ?_
            have hW := Mw_logged hQ.weak (v := S.1 34 0 + 1)
            refine g_return dX12_note_206 rfl ?_
            have e5 : nI (S.1 13 x) = nI 0 := by rw [show S.1 13 x = 0 from by omega]
            have e8 : bI df = nI 1 := by rw [c150]; rfl
            have e9 : bI dm = nI 0 := by rw [c172]; rfl
            exact ⟨rfl, by rw [ntS, if_neg (by rw [hcap.1 rfl]; exact c14), e5, e8, e9]; exact hW⟩
          · refine g_iconst (v := nI 1) dX12_note_175 (by decide) ?_
            refine g_goto (tgt := 180) dX12_note_176 (by decide) ?_
            refine gq_iast dX12_note_180 kw_log (by omega) (QV_log hQ (by omega)) (fun σ hQ => ?_)
            have hM := hQ.1
            have hC0 := hQ.2.1
            refine gs_aload_n dX12_note_181 rfl rfl ?_
            refine g_getR dX12_note_182 fX12_148 kwM (by decide) rM_logValue ?_
            refine gs_aload_n dX12_note_185 rfl rfl ?_
            refine g_getI dX12_note_186 fX12_284 kwM (by decide) (show _ = nI (S.1 34 0) from by have q := M_logged hM; exact q) ?_
            refine gs_aload_n dX12_note_189 rfl rfl ?_
            refine g_getR dX12_note_190 fX12_35 kwM (by decide) rM_aValue ?_
            refine gs_iload_n dX12_note_193 rfl rfl ?_
            refine g_iald dX12_note_194 kw_aValue (by omega) (show _ = S.2.1 0 x from by have q := MV_aValue hM hx; exact q) ?_
            refine gq_iast dX12_note_195 kw_logValue (by omega) (QV_logValue hQ (by omega)) (fun σ hQ => ?_)
            have hM := hQ.1
            have hC0 := hQ.2.1
            refine gs_aload_n dX12_note_196 rfl rfl ?_
            refine g_dup dX12_note_197 rfl ?_
            refine g_getI dX12_note_198 fX12_284 kwM (by decide) (show _ = nI (S.1 34 0) from by have q := M_logged hM; exact q) ?_
            refine g_iconst (v := nI 1) dX12_note_201 (by decide) ?_
            refine g_iadd dX12_note_202 (by first | exact nI_add _ _ | rfl) ?_
            refine g_putI dX12_note_203 pX12_284 kwM (by decide) (Or.inl rfl) ?_
            have hW := Mw_logged hQ.weak (v := S.1 34 0 + 1)
            refine g_return dX12_note_206 rfl ?_
            have e5 : nI (S.1 13 x) = nI 0 := by rw [show S.1 13 x = 0 from by omega]
            have e8 : bI df = nI 1 := by rw [c150]; rfl
            have e9 : bI dm = nI 1 := by rw [c172]; rfl
            exact ⟨rfl, by rw [ntS, if_neg (by rw [hcap.1 rfl]; exact c14), e5, e8, e9]; exact hW⟩
      · refine g_iconst (v := nI 1) dX12_note_107 (by decide) ?_
        refine g_goto (tgt := 112) dX12_note_108 (by decide) ?_
        refine gq_iast dX12_note_112 kw_log (by omega) (QV_log hQ (by omega)) (fun σ hQ => ?_)
        have hM := hQ.1
        have hC0 := hQ.2.1
        refine gs_aload_n dX12_note_113 rfl rfl ?_
        refine g_getR dX12_note_114 fX12_145 kwM (by decide) rM_log ?_
        refine g_iload dX12_note_117 rfl ?_
        refine g_bipush (v := nI 6) dX12_note_119 (by decide) ?_
        refine g_iadd dX12_note_121 (by first | exact nI_add _ _ | rfl) ?_
        refine g_iload dX12_note_122 rfl ?_
        refine gq_iast dX12_note_124 kw_log (by omega) (QV_log hQ (by omega)) (fun σ hQ => ?_)
        have hM := hQ.1
        have hC0 := hQ.2.1
        refine gs_aload_n dX12_note_125 rfl rfl ?_
        refine g_getR dX12_note_126 fX12_145 kwM (by decide) rM_log ?_
        refine g_iload dX12_note_129 rfl ?_
        refine g_bipush (v := nI 7) dX12_note_131 (by decide) ?_
        refine g_iadd dX12_note_133 (by first | exact nI_add _ _ | rfl) ?_
        refine g_iload dX12_note_134 rfl ?_
        refine gq_iast dX12_note_136 kw_log (by omega) (QV_log hQ (by omega)) (fun σ hQ => ?_)
        have hM := hQ.1
        have hC0 := hQ.2.1
        refine gs_aload_n dX12_note_137 rfl rfl ?_
        refine g_getR dX12_note_138 fX12_145 kwM (by decide) rM_log ?_
        refine g_iload dX12_note_141 rfl ?_
        refine g_bipush (v := nI 8) dX12_note_143 (by decide) ?_
        refine g_iadd dX12_note_145 (by first | exact nI_add _ _ | rfl) ?_
        refine gs_aload_n dX12_note_146 rfl rfl ?_
        refine g_getI dX12_note_147 fX12_264 kwM (by decide) (show _ = bI df from ((congrFun hQ.2.2.1.2.1 54).trans hd.1)) ?_
        refine gb_if_eq (tgt := 157) dX12_note_150 (by decide) (fun c150 => ?_) (fun c150 => ?_)
        · refine g_iconst (v := nI 0) dX12_note_157 (by decide) ?_
          refine gq_iast dX12_note_158 kw_log (by omega) (QV_log hQ (by omega)) (fun σ hQ => ?_)
          have hM := hQ.1
          have hC0 := hQ.2.1
          refine gs_aload_n dX12_note_159 rfl rfl ?_
          refine g_getR dX12_note_160 fX12_145 kwM (by decide) rM_log ?_
          refine g_iload dX12_note_163 rfl ?_
          refine g_bipush (v := nI 9) dX12_note_165 (by decide) ?_
          refine g_iadd dX12_note_167 (by first | exact nI_add _ _ | rfl) ?_
          refine gs_aload_n dX12_note_168 rfl rfl ?_
          refine g_getI dX12_note_169 fX12_278 kwM (by decide) (show _ = bI dm from ((congrFun hQ.2.2.1.2.1 55).trans hd.2)) ?_
          refine gb_if_eq (tgt := 179) dX12_note_172 (by decide) (fun c172 => ?_) (fun c172 => ?_)
          · refine g_iconst (v := nI 0) dX12_note_179 (by decide) ?_
            refine gq_iast dX12_note_180 kw_log (by omega) (QV_log hQ (by omega)) (fun σ hQ => ?_)
            have hM := hQ.1
            have hC0 := hQ.2.1
            refine gs_aload_n dX12_note_181 rfl rfl ?_
            refine g_getR dX12_note_182 fX12_148 kwM (by decide) rM_logValue ?_
            refine gs_aload_n dX12_note_185 rfl rfl ?_
            refine g_getI dX12_note_186 fX12_284 kwM (by decide) (show _ = nI (S.1 34 0) from by have q := M_logged hM; exact q) ?_
            refine gs_aload_n dX12_note_189 rfl rfl ?_
            refine g_getR dX12_note_190 fX12_35 kwM (by decide) rM_aValue ?_
            refine gs_iload_n dX12_note_193 rfl rfl ?_
            refine g_iald dX12_note_194 kw_aValue (by omega) (show _ = S.2.1 0 x from by have q := MV_aValue hM hx; exact q) ?_
            refine gq_iast dX12_note_195 kw_logValue (by omega) (QV_logValue hQ (by omega)) (fun σ hQ => ?_)
            have hM := hQ.1
            have hC0 := hQ.2.1
            refine gs_aload_n dX12_note_196 rfl rfl ?_
            refine g_dup dX12_note_197 rfl ?_
            refine g_getI dX12_note_198 fX12_284 kwM (by decide) (show _ = nI (S.1 34 0) from by have q := M_logged hM; exact q) ?_
            refine g_iconst (v := nI 1) dX12_note_201 (by decide) ?_
            refine g_iadd dX12_note_202 (by first | exact nI_add _ _ | rfl) ?_
            refine g_putI dX12_note_203 pX12_284 kwM (by decide) (Or.inl rfl) ?_
            have hW := Mw_logged hQ.weak (v := S.1 34 0 + 1)
            refine g_return dX12_note_206 rfl ?_
            have e5 : nI (S.1 13 x) = nI 1 := by rw [show S.1 13 x = 1 from by omega]
            have e8 : bI df = nI 0 := by rw [c150]; rfl
            have e9 : bI dm = nI 0 := by rw [c172]; rfl
            exact ⟨rfl, by rw [ntS, if_neg (by rw [hcap.1 rfl]; exact c14), e5, e8, e9]; exact hW⟩
          · refine g_iconst (v := nI 1) dX12_note_175 (by decide) ?_
            refine g_goto (tgt := 180) dX12_note_176 (by decide) ?_
            refine gq_iast dX12_note_180 kw_log (by omega) (QV_log hQ (by omega)) (fun σ hQ => ?_)
            have hM := hQ.1
            have hC0 := hQ.2.1
            refine gs_aload_n dX12_note_181 rfl rfl ?_
            refine g_getR dX12_note_182 fX12_148 kwM (by decide) rM_logValue ?_
            refine gs_aload_n dX12_note_185 rfl rfl ?_
            refine g_getI dX12_note_186 fX12_284 kwM (by decide) (show _ = nI (S.1 34 0) from by have q := M_logged hM; exact q) ?_
            refine gs_aload_n dX12_note_189 rfl rfl ?_
            refine g_getR dX12_note_190 fX12_35 kwM (by decide) rM_aValue ?_
            refine gs_iload_n dX12_note_193 rfl rfl ?_
            refine g_iald dX12_note_194 kw_aValue (by omega) (show _ = S.2.1 0 x from by have q := MV_aValue hM hx; exact q) ?_
            refine gq_iast dX12_note_195 kw_logValue (by omega) (QV_logValue hQ (by omega)) (fun σ hQ => ?_)
            have hM := hQ.1
            have hC0 := hQ.2.1
            refine gs_aload_n dX12_note_196 rfl rfl ?_
            refine g_dup dX12_note_197 rfl ?_
            refine g_getI dX12_note_198 fX12_284 kwM (by decide) (show _ = nI (S.1 34 0) from by have q := M_logged hM; exact q) ?_
            refine g_iconst (v := nI 1) dX12_note_201 (by decide) ?_
            refine g_iadd dX12_note_202 (by first | exact nI_add _ _ | rfl) ?_
            refine g_putI dX12_note_203 pX12_284 kwM (by decide) (Or.inl rfl) ?_
            have hW := Mw_logged hQ.weak (v := S.1 34 0 + 1)
            refine g_return dX12_note_206 rfl ?_
            have e5 : nI (S.1 13 x) = nI 1 := by rw [show S.1 13 x = 1 from by omega]
            have e8 : bI df = nI 0 := by rw [c150]; rfl
            have e9 : bI dm = nI 1 := by rw [c172]; rfl
            exact ⟨rfl, by rw [ntS, if_neg (by rw [hcap.1 rfl]; exact c14), e5, e8, e9]; exact hW⟩
        · refine g_iconst (v := nI 1) dX12_note_153 (by decide) ?_
          refine g_goto (tgt := 158) dX12_note_154 (by decide) ?_
          refine gq_iast dX12_note_158 kw_log (by omega) (QV_log hQ (by omega)) (fun σ hQ => ?_)
          have hM := hQ.1
          have hC0 := hQ.2.1
          refine gs_aload_n dX12_note_159 rfl rfl ?_
          refine g_getR dX12_note_160 fX12_145 kwM (by decide) rM_log ?_
          refine g_iload dX12_note_163 rfl ?_
          refine g_bipush (v := nI 9) dX12_note_165 (by decide) ?_
          refine g_iadd dX12_note_167 (by first | exact nI_add _ _ | rfl) ?_
          refine gs_aload_n dX12_note_168 rfl rfl ?_
          refine g_getI dX12_note_169 fX12_278 kwM (by decide) (show _ = bI dm from ((congrFun hQ.2.2.1.2.1 55).trans hd.2)) ?_
          refine gb_if_eq (tgt := 179) dX12_note_172 (by decide) (fun c172 => ?_) (fun c172 => ?_)
          · refine g_iconst (v := nI 0) dX12_note_179 (by decide) ?_
            refine gq_iast dX12_note_180 kw_log (by omega) (QV_log hQ (by omega)) (fun σ hQ => ?_)
            have hM := hQ.1
            have hC0 := hQ.2.1
            refine gs_aload_n dX12_note_181 rfl rfl ?_
            refine g_getR dX12_note_182 fX12_148 kwM (by decide) rM_logValue ?_
            refine gs_aload_n dX12_note_185 rfl rfl ?_
            refine g_getI dX12_note_186 fX12_284 kwM (by decide) (show _ = nI (S.1 34 0) from by have q := M_logged hM; exact q) ?_
            refine gs_aload_n dX12_note_189 rfl rfl ?_
            refine g_getR dX12_note_190 fX12_35 kwM (by decide) rM_aValue ?_
            refine gs_iload_n dX12_note_193 rfl rfl ?_
            refine g_iald dX12_note_194 kw_aValue (by omega) (show _ = S.2.1 0 x from by have q := MV_aValue hM hx; exact q) ?_
            refine gq_iast dX12_note_195 kw_logValue (by omega) (QV_logValue hQ (by omega)) (fun σ hQ => ?_)
            have hM := hQ.1
            have hC0 := hQ.2.1
            refine gs_aload_n dX12_note_196 rfl rfl ?_
            refine g_dup dX12_note_197 rfl ?_
            refine g_getI dX12_note_198 fX12_284 kwM (by decide) (show _ = nI (S.1 34 0) from by have q := M_logged hM; exact q) ?_
            refine g_iconst (v := nI 1) dX12_note_201 (by decide) ?_
            refine g_iadd dX12_note_202 (by first | exact nI_add _ _ | rfl) ?_
            refine g_putI dX12_note_203 pX12_284 kwM (by decide) (Or.inl rfl) ?_
            have hW := Mw_logged hQ.weak (v := S.1 34 0 + 1)
            refine g_return dX12_note_206 rfl ?_
            have e5 : nI (S.1 13 x) = nI 1 := by rw [show S.1 13 x = 1 from by omega]
            have e8 : bI df = nI 1 := by rw [c150]; rfl
            have e9 : bI dm = nI 0 := by rw [c172]; rfl
            exact ⟨rfl, by rw [ntS, if_neg (by rw [hcap.1 rfl]; exact c14), e5, e8, e9]; exact hW⟩
          · refine g_iconst (v := nI 1) dX12_note_175 (by decide) ?_
            refine g_goto (tgt := 180) dX12_note_176 (by decide) ?_
            refine gq_iast dX12_note_180 kw_log (by omega) (QV_log hQ (by omega)) (fun σ hQ => ?_)
            have hM := hQ.1
            have hC0 := hQ.2.1
            refine gs_aload_n dX12_note_181 rfl rfl ?_
            refine g_getR dX12_note_182 fX12_148 kwM (by decide) rM_logValue ?_
            refine gs_aload_n dX12_note_185 rfl rfl ?_
            refine g_getI dX12_note_186 fX12_284 kwM (by decide) (show _ = nI (S.1 34 0) from by have q := M_logged hM; exact q) ?_
            refine gs_aload_n dX12_note_189 rfl rfl ?_
            refine g_getR dX12_note_190 fX12_35 kwM (by decide) rM_aValue ?_
            refine gs_iload_n dX12_note_193 rfl rfl ?_
            refine g_iald dX12_note_194 kw_aValue (by omega) (show _ = S.2.1 0 x from by have q := MV_aValue hM hx; exact q) ?_
            refine gq_iast dX12_note_195 kw_logValue (by omega) (QV_logValue hQ (by omega)) (fun σ hQ => ?_)
            have hM := hQ.1
            have hC0 := hQ.2.1
            refine gs_aload_n dX12_note_196 rfl rfl ?_
            refine g_dup dX12_note_197 rfl ?_
            refine g_getI dX12_note_198 fX12_284 kwM (by decide) (show _ = nI (S.1 34 0) from by have q := M_logged hM; exact q) ?_
            refine g_iconst (v := nI 1) dX12_note_201 (by decide) ?_
            refine g_iadd dX12_note_202 (by first | exact nI_add _ _ | rfl) ?_
            refine g_putI dX12_note_203 pX12_284 kwM (by decide) (Or.inl rfl) ?_
            have hW := Mw_logged hQ.weak (v := S.1 34 0 + 1)
            refine g_return dX12_note_206 rfl ?_
            have e5 : nI (S.1 13 x) = nI 1 := by rw [show S.1 13 x = 1 from by omega]
            have e8 : bI df = nI 1 := by rw [c150]; rfl
            have e9 : bI dm = nI 1 := by rw [c172]; rfl
            exact ⟨rfl, by rw [ntS, if_neg (by rw [hcap.1 rfl]; exact c14), e5, e8, e9]; exact hW⟩
    · refine g_return dX12_note_17 rfl ?_
      exact ⟨rfl, by rw [ntS, if_pos (by rw [hcap.1 rfl]; exact c14)]; exact (Mq.rf hM hC0).weak⟩
