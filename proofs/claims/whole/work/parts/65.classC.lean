/-! The class: ways over links; room. -/
/-- the hops of the board are the reference's next nodes; a node reaches itself -/
def Hp (S : Sx) : Prop := (∀ a c, a < S.1 0 0 → c < S.1 0 0 → a ≠ c → S.1 5 (4 * a + c) < 1000 → S.1 6 (4 * a + c) = bh S a c) ∧ ∀ c, c < S.1 0 0 → S.1 5 (4 * c + c) < 1000
theorem bhL_spec {S : Sx} {a c : Nat} : ∀ k i, bhL S a c k i = c ∨ (bhL S a c k i ≠ a ∧ S.1 3 (4 * a + bhL S a c k i) + fz (S.1 5 (4 * bhL S a c k i + c)) = fz (S.1 5 (4 * a + c))) := by
  intro k
  induction k with
  | zero => intro i; exact Or.inl rfl
  | succ k ih =>
    intro i
    simp only [bhL]
    split
    · next h => exact Or.inr ⟨h.1, h.2.2⟩
    · exact ih (i + 1)
theorem bh_ne {S : Sx} {a c : Nat} (h : a ≠ c) : bh S a c ≠ a := by
  rcases bhL_spec (S := S) (a := a) (c := c) (S.1 0 0) 0 with q | q
  · intro z; exact h (z.symm.trans q)
  · exact q.1
theorem bh_rc {S : Sx} {a c : Nat} (hH : Hp S) (hc : c < S.1 0 0) (hr : S.1 5 (4 * a + c) < 1000) : S.1 5 (4 * bh S a c + c) < 1000 := by
  rcases bhL_spec (S := S) (a := a) (c := c) (S.1 0 0) 0 with q | q
  · have q : bh S a c = c := q
    rw [q]; exact hH.2 c hc
  · have h1 := q.2
    have h2 : fz (S.1 5 (4 * a + c)) = S.1 5 (4 * a + c) := if_pos hr
    have h3 : fz (S.1 5 (4 * bh S a c + c)) < 1000000 := by
      show fz (S.1 5 (4 * bhL S a c (S.1 0 0) 0 + c)) < 1000000
      omega
    exact fz_lt.mp h3
theorem ed_dom {h c : Nat} (h1 : h < 4) (h2 : c < 4) (h3 : h ≠ c) : ed h c / 4 < ed h c % 4 := by
  unfold ed; split <;> omega
theorem l_holdsUp {b : Nat} {σ : Mm} {S : Sx} {Tf : Nat → Nat} {K : Option Value → Mm → Prop} (hb : mch b) (hR : RepC b σ S Tf) (hB : Bd S) (hH : Hp S) {a c : Nat} (hcn : c < S.1 0 0) {o : Option Nat} (hK0 : o = none → K (some (.int (bI false))) σ) (hK1 : ∀ l, o = some l → ∀ τ, Cq b σ (setV S 15 l (S.2.1 15 l + nI 1)) Tf (σ.1 (b + 5)) τ → K (some (.int (bI true))) τ) : ∀ k h s, s + k = 3 → h < S.1 0 0 → S.1 5 (4 * h + c) < 1000 → rhS S c k h → crS S c k h = o → G W0 mX9_holdsUp K 5 [some (.ref (b + 10)), some (.int (nI a)), some (.int (nI c)), some (.int (nI h)), some (.int (nI s)), none, none] [] σ := by
  have b0 := B_nodes hB 0
  intro k
  induction k with
  | zero =>
    intro h s hs hh hrc hr hk
    have hr : h = c := hr
    refine g_iload dX9_holdsUp_5 rfl ?_
    refine g_iconst (v := nI 4) dX9_holdsUp_7 (by decide) ?_
    refine gf_icmp_ge (tgt := 81) dX9_holdsUp_8 (by decide) (by omega) (by omega) (by omega) ?_
    refine gs_iload_n dX9_holdsUp_11 rfl rfl ?_
    refine gs_iload_n dX9_holdsUp_12 rfl rfl ?_
    refine gt_icmp_eq (tgt := 81) dX9_holdsUp_13 (by decide) (by omega) (by omega) (by omega) ?_
    refine g_iconst (v := nI 0) dX9_holdsUp_81 (by decide) ?_
    refine g_zreturn dX9_holdsUp_82 rfl (by first | exact bI_01 _ | decide) ?_
    exact hK0 hk.symm
  | succ k ih =>
    intro h s hs hh hrc hr hk
    have hr : h = c ∨ rhS S c k (bh S h c) := hr
    have b1 := bh_lt (S := S) (a := h) hcn
    have b2 := B_linkNow hB (ed h (bh S h c))
    have b3 := B_width hB (ed h (bh S h c))
    have b4 := ed_lt (show h < 4 by omega) (show bh S h c < 4 by omega)
    refine g_iload dX9_holdsUp_5 rfl ?_
    refine g_iconst (v := nI 4) dX9_holdsUp_7 (by decide) ?_
    refine gf_icmp_ge (tgt := 81) dX9_holdsUp_8 (by decide) (by omega) (by omega) (by omega) ?_
    refine gs_iload_n dX9_holdsUp_11 rfl rfl ?_
    refine gs_iload_n dX9_holdsUp_12 rfl rfl ?_
    refine gn_icmp_eq (tgt := 81) dX9_holdsUp_13 (by decide) (by omega) (by omega) (fun c13 => ?_) (fun c13 => ?_)
    · refine g_iconst (v := nI 0) dX9_holdsUp_81 (by decide) ?_
      refine g_zreturn dX9_holdsUp_82 rfl (by first | exact bI_01 _ | decide) ?_
      exact hK0 (hk.symm.trans (if_pos c13))
    · refine gs_aload_n dX9_holdsUp_16 rfl rfl ?_
      refine g_getR dX9_holdsUp_17 fX9_21 (kMa_traffic hb) (by decide) (rTr_board hb) ?_
      refine gs_iload_n dX9_holdsUp_20 rfl rfl ?_
      refine gs_iload_n dX9_holdsUp_21 rfl rfl ?_
      refine g_cVI2 dX9_holdsUp_22 vX9_31 (by decide) bdW0.1 (by decide) (Nat.le_of_ble_eq_true rfl) (c_nextNode hb hR hB hh hcn) ?_
      rintro r9 σ ⟨q9, e9⟩
      subst e9
      rw [hH.1 h c hh hcn c13 hrc] at q9
      subst q9
      refine gs_istore (ls' := [_, _, _, _, _, _, _]) dX9_holdsUp_25 rfl rfl ?_
      refine gs_aload_n dX9_holdsUp_27 rfl rfl ?_
      refine g_getR dX9_holdsUp_28 fX9_21 (kMa_traffic hb) (by decide) (rTr_board hb) ?_
      refine gs_iload_n dX9_holdsUp_31 rfl rfl ?_
      refine g_iload dX9_holdsUp_32 rfl ?_
      refine g_cVI2 dX9_holdsUp_34 vX9_37 (by decide) bdW0.1 (by decide) (Nat.le_of_ble_eq_true rfl) (s_edge (by omega) (by omega)) ?_
      rintro _ σ ⟨rfl, e9⟩
      subst e9
      refine gs_istore (ls' := [_, _, _, _, _, _, _]) dX9_holdsUp_37 rfl rfl ?_
      refine gs_aload_n dX9_holdsUp_39 rfl rfl ?_
      refine g_getR dX9_holdsUp_40 fX9_18 (kMa_traffic hb) (by decide) (rTr_inTick hb) ?_
      refine g_iload dX9_holdsUp_43 rfl ?_
      refine g_iald dX9_holdsUp_45 (kTr_inTick hb) (by omega) (C_linkNow hR (by omega)) ?_
      refine gs_aload_n dX9_holdsUp_46 rfl rfl ?_
      refine g_getR dX9_holdsUp_47 fX9_21 (kMa_traffic hb) (by decide) (rTr_board hb) ?_
      refine g_getR dX9_holdsUp_50 fX9_40 bdW0.1 (by decide) rBd_width ?_
      refine g_iload dX9_holdsUp_53 rfl ?_
      refine g_iald dX9_holdsUp_55 bdW0.2.2.1 (by omega) (C_width hR b4 (ed_dom (by omega) (by omega) (fun z => bh_ne c13 z.symm))) ?_
      refine gn_icmp_lt (tgt := 72) dX9_holdsUp_56 (by decide) (by omega) (by omega) (fun c56 => ?_) (fun c56 => ?_)
      · refine g_iload dX9_holdsUp_72 rfl ?_
        refine gs_istore_n (ls' := [_, _, _, _, _, _, _]) dX9_holdsUp_74 rfl rfl rfl ?_
        refine gs_iinc (ls' := [_, _, _, _, _, _, _]) dX9_holdsUp_75 rfl (nI_add _ 1) rfl rfl ?_
        refine g_goto (tgt := 5) dX9_holdsUp_78 (by decide) ?_
        refine G.drop 5 (ls' := [_, _, _, _, _, none, _]) rfl ?_
        refine G.drop 6 (ls' := [_, _, _, _, _, none, none]) rfl ?_
        exact ih _ _ (by omega) b1 (bh_rc hH hcn hrc) (hr.resolve_left c13) (by rw [← hk, crS, if_neg c13, if_neg (by omega)])
      · refine gs_aload_n dX9_holdsUp_59 rfl rfl ?_
        refine g_getR dX9_holdsUp_60 fX9_15 (kMa_traffic hb) (by decide) (rTr_waits hb) ?_
        refine g_iload dX9_holdsUp_63 rfl ?_
        refine g_dup2 dX9_holdsUp_65 rfl rfl ?_
        refine g_iald dX9_holdsUp_66 (kTr_waits hb) (by omega) (CV_linkWaits hR b4) ?_
        refine g_iconst (v := nI 1) dX9_holdsUp_67 (by decide) ?_
        refine g_iadd dX9_holdsUp_68 (by first | exact nI_add _ _ | rfl) ?_
        refine gc_iast dX9_holdsUp_69 (kTr_waits hb) (by omega) (DV_linkWaits (Cq.rf hR) hb hB b4) (fun σ hQ => ?_)
        have hR := hQ.1
        refine g_iconst (v := nI 1) dX9_holdsUp_70 (by decide) ?_
        refine g_zreturn dX9_holdsUp_71 rfl (by first | exact bI_01 _ | decide) ?_
        exact hK1 _ (hk.symm.trans (by rw [crS, if_neg c13, if_pos c56])) _ hQ
theorem c_holdsUp {b : Nat} {σ : Mm} {S : Sx} {Tf : Nat → Nat} (hb : mch b) (hR : RepC b σ S Tf) (hB : Bd S) (hH : Hp S) {a c : Nat} (ha : a < S.1 0 0) (hc : c < S.1 0 0) (hrc : S.1 5 (4 * a + c) < 1000) (hr : rhS S c 3 a) : RI W0 mX9_holdsUp [.ref (b + 10), .int (nI a), .int (nI c)] σ (fun r τ => (crS S c 3 a = none ∧ r = bI false ∧ τ = σ) ∨ ∃ l, crS S c 3 a = some l ∧ r = bI true ∧ Cq b σ (setV S 15 l (S.2.1 15 l + nI 1)) Tf (σ.1 (b + 5)) τ) := by
  refine G.met (by decide) (Nat.le_of_ble_eq_true rfl) ?_
  show G _ _ _ 0 [some (.ref (b + 10)), some (.int (nI a)), some (.int (nI c)), none, none, none, none] [] σ
  refine gs_iload_n dX9_holdsUp_0 rfl rfl ?_
  refine gs_istore_n (ls' := [_, _, _, _, _, _, _]) dX9_holdsUp_1 rfl rfl rfl ?_
  refine g_iconst (v := nI 0) dX9_holdsUp_2 (by decide) ?_
  refine gs_istore (ls' := [_, _, _, _, _, _, _]) dX9_holdsUp_3 rfl rfl ?_
  exact l_holdsUp hb hR hB hH hc (o := crS S c 3 a) (fun e => ⟨_, rfl, Or.inl ⟨e, rfl, rfl⟩⟩) (fun l e τ hτ => ⟨_, rfl, Or.inr ⟨l, e, rfl, hτ⟩⟩) 3 a 0 rfl ha hrc hr rfl
theorem Hp_of {S S' : Sx} (h : Hp S) (h0 : S'.1 0 = S.1 0) (h3 : S'.1 3 = S.1 3) (h5 : S'.1 5 = S.1 5) (h6 : S'.1 6 = S.1 6) : Hp S' := by
  refine ⟨fun a c h1 h2 hn hr => ?_, fun c hc => ?_⟩
  · rw [h6, bh_eq h0 h3 h5]
    rw [h0] at h1 h2
    rw [h5] at hr
    exact h.1 a c h1 h2 hn hr
  · rw [h5]; rw [h0] at hc; exact h.2 c hc
theorem l_carry {b : Nat} {σ0 : Mm} {Tf : Nat → Nat} {At : Nat → Int32} {K : Option Value → Mm → Prop} (hb : mch b) {a c : Nat} : ∀ k h s σ S, s + k = 3 → Cq b σ0 S Tf At σ → Bd S → Hp S → c < S.1 0 0 → h < S.1 0 0 → S.1 5 (4 * h + c) < 1000 → (∀ i, S.1 33 i + k ≤ 1000) → rhS S c k h → (∀ τ, Cq b σ0 (ulS c k S h) Tf At τ → K none τ) → G W0 mX9_carry K 5 [some (.ref (b + 10)), some (.int (nI a)), some (.int (nI c)), some (.int (nI h)), some (.int (nI s)), none, none] [] σ := by
  intro k
  induction k with
  | zero =>
    intro h s σ S hs hQ hB hH hcn hh hrc hL hr hK
    have hR := hQ.1
    have b0 := B_nodes hB 0
    have hr : h = c := hr
    refine g_iload dX9_carry_5 rfl ?_
    refine g_iconst (v := nI 4) dX9_carry_7 (by decide) ?_
    refine gf_icmp_ge (tgt := 70) dX9_carry_8 (by decide) (by omega) (by omega) (by omega) ?_
    refine gs_iload_n dX9_carry_11 rfl rfl ?_
    refine gs_iload_n dX9_carry_12 rfl rfl ?_
    refine gt_icmp_eq (tgt := 70) dX9_carry_13 (by decide) (by omega) (by omega) (by omega) ?_
    refine g_return dX9_carry_70 rfl ?_
    exact hK _ hQ
  | succ k ih =>
    intro h s σ S hs hQ hB hH hcn hh hrc hL hr hK
    have hR := hQ.1
    have b0 := B_nodes hB 0
    have hr : h = c ∨ rhS S c k (bh S h c) := hr
    have b1 := bh_lt (S := S) (a := h) hcn
    have b4 := ed_lt (show h < 4 by omega) (show bh S h c < 4 by omega)
    have hB2 : Bd (setN S 33 (ed h (bh S h c)) (S.1 33 (ed h (bh S h c)) + 1)) := Bd_setN hB (by show _ ≤ 1000; have := hL (ed h (bh S h c)); omega)
    refine g_iload dX9_carry_5 rfl ?_
    refine g_iconst (v := nI 4) dX9_carry_7 (by decide) ?_
    refine gf_icmp_ge (tgt := 70) dX9_carry_8 (by decide) (by omega) (by omega) (by omega) ?_
    refine gs_iload_n dX9_carry_11 rfl rfl ?_
    refine gs_iload_n dX9_carry_12 rfl rfl ?_
    refine gn_icmp_eq (tgt := 70) dX9_carry_13 (by decide) (by omega) (by omega) (fun c13 => ?_) (fun c13 => ?_)
    · refine g_return dX9_carry_70 rfl ?_
      exact hK _ (by rw [ulS, if_pos c13]; exact hQ)
    · refine gs_aload_n dX9_carry_16 rfl rfl ?_
      refine g_getR dX9_carry_17 fX9_21 (kMa_traffic hb) (by decide) (rTr_board hb) ?_
      refine gs_iload_n dX9_carry_20 rfl rfl ?_
      refine gs_iload_n dX9_carry_21 rfl rfl ?_
      refine g_cVI2 dX9_carry_22 vX9_31 (by decide) bdW0.1 (by decide) (Nat.le_of_ble_eq_true rfl) (c_nextNode hb hR hB hh hcn) ?_
      rintro r9 σ ⟨q9, e9⟩
      subst e9
      rw [hH.1 h c hh hcn c13 hrc] at q9
      subst q9
      refine gs_istore (ls' := [_, _, _, _, _, _, _]) dX9_carry_25 rfl rfl ?_
      refine gs_aload_n dX9_carry_27 rfl rfl ?_
      refine g_getR dX9_carry_28 fX9_21 (kMa_traffic hb) (by decide) (rTr_board hb) ?_
      refine gs_iload_n dX9_carry_31 rfl rfl ?_
      refine g_iload dX9_carry_32 rfl ?_
      refine g_cVI2 dX9_carry_34 vX9_37 (by decide) bdW0.1 (by decide) (Nat.le_of_ble_eq_true rfl) (s_edge (by omega) (by omega)) ?_
      rintro _ σ ⟨rfl, e9⟩
      subst e9
      refine gs_istore (ls' := [_, _, _, _, _, _, _]) dX9_carry_37 rfl rfl ?_
      refine gs_aload_n dX9_carry_39 rfl rfl ?_
      refine g_getR dX9_carry_40 fX9_18 (kMa_traffic hb) (by decide) (rTr_inTick hb) ?_
      refine g_iload dX9_carry_43 rfl ?_
      refine g_dup2 dX9_carry_45 rfl rfl ?_
      refine g_iald dX9_carry_46 (kTr_inTick hb) (by omega) (C_linkNow hR (by omega)) ?_
      refine g_iconst (v := nI 1) dX9_carry_47 (by decide) ?_
      refine g_iadd dX9_carry_48 (by first | exact nI_add _ _ | rfl) ?_
      refine gc_iast dX9_carry_49 (kTr_inTick hb) (by omega) (D_linkNow hQ hb hB b4) (fun σ hQ => ?_)
      have hR := hQ.1
      refine gs_aload_n dX9_carry_50 rfl rfl ?_
      refine g_getR dX9_carry_51 fX9_9 (kMa_traffic hb) (by decide) (rTr_carried hb) ?_
      refine g_iload dX9_carry_54 rfl ?_
      refine g_dup2 dX9_carry_56 rfl rfl ?_
      refine g_iald dX9_carry_57 (kTr_carried hb) (by omega) (show _ = S.2.1 14 (ed h (bh S h c)) from by have q := CV_linkWent hR b4; exact q) ?_
      refine g_iconst (v := nI 1) dX9_carry_58 (by decide) ?_
      refine g_iadd dX9_carry_59 (by first | exact nI_add _ _ | rfl) ?_
      refine gc_iast dX9_carry_60 (kTr_carried hb) (by omega) (DV_linkWent hQ hb hB2 b4) (fun σ hQ => ?_)
      have hR := hQ.1
      refine g_iload dX9_carry_61 rfl ?_
      refine gs_istore_n (ls' := [_, _, _, _, _, _, _]) dX9_carry_63 rfl rfl rfl ?_
      refine gs_iinc (ls' := [_, _, _, _, _, _, _]) dX9_carry_64 rfl (nI_add _ 1) rfl rfl ?_
      refine g_goto (tgt := 5) dX9_carry_67 (by decide) ?_
      refine G.drop 5 (ls' := [_, _, _, _, _, none, _]) rfl ?_
      refine G.drop 6 (ls' := [_, _, _, _, _, none, none]) rfl ?_
      refine ih _ _ σ _ (by omega) hQ hB2 (Hp_of hH (by rw [setV_1]; exact setN_ne (by decide)) (by rw [setV_1]; exact setN_ne (by decide)) (by rw [setV_1]; exact setN_ne (by decide)) (by rw [setV_1]; exact setN_ne (by decide))) hcn b1 (bh_rc hH hcn hrc) (fun i => ?_) ((rhS_eq (S := S) (by rw [setV_1]; exact setN_ne (by decide)) (by rw [setV_1]; exact setN_ne (by decide)) (by rw [setV_1]; exact setN_ne (by decide)) c k _).mpr (hr.resolve_left c13)) (fun τ hτ => hK τ ?_)
      · rw [setV_1, setN_at]
        have := hL i
        have := hL (ed h (bh S h c))
        split <;> omega
      · rw [ulS, if_neg c13]
        exact hτ
theorem c_carry {b : Nat} {σ : Mm} {S : Sx} {Tf : Nat → Nat} (hb : mch b) (hR : RepC b σ S Tf) (hB : Bd S) (hH : Hp S) {a c : Nat} (ha : a < S.1 0 0) (hc : c < S.1 0 0) (hrc : S.1 5 (4 * a + c) < 1000) (hr : rhS S c 3 a) (hL : ∀ i, S.1 33 i ≤ 900) : RV W0 mX9_carry [.ref (b + 10), .int (nI a), .int (nI c)] σ (fun τ => Cq b σ (ulS c 3 S a) Tf (σ.1 (b + 5)) τ) := by
  refine G.met (by decide) (Nat.le_of_ble_eq_true rfl) ?_
  show G _ _ _ 0 [some (.ref (b + 10)), some (.int (nI a)), some (.int (nI c)), none, none, none, none] [] σ
  refine gs_iload_n dX9_carry_0 rfl rfl ?_
  refine gs_istore_n (ls' := [_, _, _, _, _, _, _]) dX9_carry_1 rfl rfl rfl ?_
  refine g_iconst (v := nI 0) dX9_carry_2 (by decide) ?_
  refine gs_istore (ls' := [_, _, _, _, _, _, _]) dX9_carry_3 rfl rfl ?_
  exact l_carry hb 3 a 0 σ S rfl (Cq.rf hR) hB hH hc ha hrc (fun i => by have := hL i; omega) hr (fun τ hτ => ⟨rfl, hτ⟩)
/-- the places taken are those that the pages take -/
def Tk (S : Sx) (Tf : Nat → Nat) : Prop := ∀ a, a < S.1 0 0 → Tf a = tk S a (S.1 7 0)
theorem c_hasRoom {b : Nat} {σ : Mm} {S : Sx} {Tf : Nat → Nat} (hb : mch b) (hR : RepC b σ S Tf) (hB : Bd S) (hT : Tk S Tf) {a : Nat} (ha : a < S.1 0 0) : RI W0 mX3_hasRoom [.ref b, .int (nI a)] σ (fun r τ => r = bI (hrS S a) ∧ τ = σ) := by
  have b0 := B_nodes hB 0
  have bP := B_P hB 0
  have bR := B_room hB 0
  have b1 := tk_le S a (S.1 7 0)
  refine G.met (by decide) (Nat.le_of_ble_eq_true rfl) ?_
  show G _ _ _ 0 [some (.ref b), some (.int (nI a))] [] σ
  refine gs_aload_n dX3_hasRoom_0 rfl rfl ?_
  refine g_getR dX3_hasRoom_1 fX3_44 (kMa hb) (by decide) (rMa_taken hb) ?_
  refine gs_iload_n dX3_hasRoom_4 rfl rfl ?_
  refine g_iald dX3_hasRoom_5 (kMa_taken hb) (by omega) ((hR.2.2.2.1 a (by omega)).trans (by rw [hT a ha])) ?_
  refine gs_aload_n dX3_hasRoom_6 rfl rfl ?_
  refine g_getR dX3_hasRoom_7 fX3_55 (kMa hb) (by decide) (rMa_board hb) ?_
  refine g_getI dX3_hasRoom_10 fX3_156 bdW0.1 (by decide) (C_room hR) ?_
  refine gn_icmp_ge (tgt := 20) dX3_hasRoom_13 (by decide) (by omega) (by omega) (fun c13 => ?_) (fun c13 => ?_)
  · refine g_iconst (v := nI 0) dX3_hasRoom_20 (by decide) ?_
    refine g_zreturn dX3_hasRoom_21 rfl (by first | exact bI_01 _ | decide) ?_
    exact ⟨_, rfl, by simp only [hrS, decide_eq_false (Nat.not_lt.mpr c13)]; rfl, rfl⟩
  · refine g_iconst (v := nI 1) dX3_hasRoom_16 (by decide) ?_
    refine g_goto (tgt := 21) dX3_hasRoom_17 (by decide) ?_
    refine g_zreturn dX3_hasRoom_21 rfl (by first | exact bI_01 _ | decide) ?_
    exact ⟨_, rfl, by simp only [hrS, decide_eq_true c13]; rfl, rfl⟩
theorem arS_false {S : Sx} {a : Nat} (h : hrS S a = false) : ∀ n, a < n → arS S n = false := by
  intro n
  induction n with
  | zero => intro q; omega
  | succ n ih =>
    intro q
    by_cases e : a = n
    · subst e; simp [arS, h]
    · simp [arS, ih (by omega)]
theorem cl_allHaveRoom {b : Nat} {σ : Mm} {S : Sx} {Tf : Nat → Nat} {K : Option Value → Mm → Prop} (hb : mch b) (hR : RepC b σ S Tf) (hB : Bd S) (hT : Tk S Tf) (hK : K (some (.int (bI (arS S (S.1 0 0))))) σ) : ∀ k a, a + k = S.1 0 0 → arS S a = true → G W0 mX3_allHaveRoom K 2 [some (.ref b), some (.int (nI a))] [] σ := by
  intro k
  induction k with
  | zero =>
    intro a ha ha2
    have b0 := B_nodes hB 0
    have bP := B_P hB 0
    have bR := B_room hB 0
    have b1 := tk_le S a (S.1 7 0)
    refine gs_iload_n dX3_allHaveRoom_2 rfl rfl ?_
    refine gs_aload_n dX3_allHaveRoom_3 rfl rfl ?_
    refine g_getR dX3_allHaveRoom_4 fX3_55 (kMa hb) (by decide) (rMa_board hb) ?_
    refine g_getI dX3_allHaveRoom_7 fX3_167 bdW0.1 (by decide) (C_nodes hR) ?_
    refine gt_icmp_ge (tgt := 37) dX3_allHaveRoom_10 (by decide) (by omega) (by omega) (by omega) ?_
    refine g_iconst (v := nI 1) dX3_allHaveRoom_37 (by decide) ?_
    refine g_zreturn dX3_allHaveRoom_38 rfl (by first | exact bI_01 _ | decide) ?_
    have e : a = S.1 0 0 := by omega
    rw [e] at ha2
    rw [ha2] at hK
    exact hK
  | succ k ih =>
    intro a ha ha2
    have b0 := B_nodes hB 0
    have bP := B_P hB 0
    have bR := B_room hB 0
    have b1 := tk_le S a (S.1 7 0)
    refine gs_iload_n dX3_allHaveRoom_2 rfl rfl ?_
    refine gs_aload_n dX3_allHaveRoom_3 rfl rfl ?_
    refine g_getR dX3_allHaveRoom_4 fX3_55 (kMa hb) (by decide) (rMa_board hb) ?_
    refine g_getI dX3_allHaveRoom_7 fX3_167 bdW0.1 (by decide) (C_nodes hR) ?_
    refine gf_icmp_ge (tgt := 37) dX3_allHaveRoom_10 (by decide) (by omega) (by omega) (by omega) ?_
    refine gs_aload_n dX3_allHaveRoom_13 rfl rfl ?_
    refine g_getR dX3_allHaveRoom_14 fX3_44 (kMa hb) (by decide) (rMa_taken hb) ?_
    refine gs_iload_n dX3_allHaveRoom_17 rfl rfl ?_
    refine g_iald dX3_allHaveRoom_18 (kMa_taken hb) (by omega) ((hR.2.2.2.1 a (by omega)).trans (by rw [hT a (by omega)])) ?_
    refine gs_aload_n dX3_allHaveRoom_19 rfl rfl ?_
    refine g_getR dX3_allHaveRoom_20 fX3_55 (kMa hb) (by decide) (rMa_board hb) ?_
    refine g_getI dX3_allHaveRoom_23 fX3_156 bdW0.1 (by decide) (C_room hR) ?_
    refine gn_icmp_lt (tgt := 31) dX3_allHaveRoom_26 (by decide) (by omega) (by omega) (fun c26 => ?_) (fun c26 => ?_)
    · refine gs_iinc (ls' := [_, _]) dX3_allHaveRoom_31 rfl (nI_add _ 1) rfl rfl ?_
      refine g_goto (tgt := 2) dX3_allHaveRoom_34 (by decide) ?_
      exact ih (a + 1) (by omega) (by rw [arS, ha2, hrS, decide_eq_true c26]; rfl)
    · refine g_iconst (v := nI 0) dX3_allHaveRoom_29 (by decide) ?_
      refine g_zreturn dX3_allHaveRoom_30 rfl (by first | exact bI_01 _ | decide) ?_
      have e := arS_false (S := S) (a := a) (by rw [hrS, decide_eq_false (by omega)]) (S.1 0 0) (by omega)
      rw [e] at hK
      exact hK
theorem c_allHaveRoom {b : Nat} {σ : Mm} {S : Sx} {Tf : Nat → Nat} (hb : mch b) (hR : RepC b σ S Tf) (hB : Bd S) (hT : Tk S Tf) : RI W0 mX3_allHaveRoom [.ref b] σ (fun r τ => r = bI (arS S (S.1 0 0)) ∧ τ = σ) := by
  refine G.met (by decide) (Nat.le_of_ble_eq_true rfl) ?_
  show G _ _ _ 0 [some (.ref b), none] [] σ
  refine g_iconst (v := nI 0) dX3_allHaveRoom_0 (by decide) ?_
  refine gs_istore_n (ls' := [_, _]) dX3_allHaveRoom_1 rfl rfl rfl ?_
  exact cl_allHaveRoom hb hR hB hT ⟨_, rfl, rfl, rfl⟩ (S.1 0 0) 0 (by omega) rfl
theorem c_fits {b : Nat} {σ : Mm} {S : Sx} {Tf : Nat → Nat} (hb : mch b) (hR : RepC b σ S Tf) (hB : Bd S) (hT : Tk S Tf) {p a : Nat} (hp : p < S.1 7 0) (ha : a < S.1 0 0) : RI W0 mX3_fits [.ref b, .ref (b + 18 + 3 * p), .int (nI a)] σ (fun r τ => r = bI (if S.1 8 p = 2 then arS S (S.1 0 0) else hrS S a) ∧ τ = σ) := by
  have bP := B_P hB 0
  have h20 : p < 20 := by omega
  have b1 := B_kind hB p
  refine G.met (by decide) (Nat.le_of_ble_eq_true rfl) ?_
  show G _ _ _ 0 [some (.ref b), some (.ref (b + 18 + 3 * p)), some (.int (nI a))] [] σ
  refine gs_aload_n dX3_fits_0 rfl rfl ?_
  refine g_getI dX3_fits_1 fX3_115 (kPg hb h20) (by decide) (C_kind hR (by omega) (by omega)) ?_
  refine g_iconst (v := nI 2) dX3_fits_4 (by decide) ?_
  refine gn_icmp_ne (tgt := 15) dX3_fits_5 (by decide) (by omega) (by omega) (fun c5 => ?_) (fun c5 => ?_)
  · refine gs_aload_n dX3_fits_15 rfl rfl ?_
    refine gs_iload_n dX3_fits_16 rfl rfl ?_
    refine g_cVI1 dX3_fits_17 vX3_163 (by decide) (kMa hb) (by decide) (Nat.le_of_ble_eq_true rfl) (c_hasRoom hb hR hB hT ha) ?_
    rintro _ σ ⟨rfl, e9⟩
    subst e9
    refine g_zreturn dX3_fits_20 rfl (by first | exact bI_01 _ | decide) ?_
    exact ⟨_, rfl, by rw [if_neg c5], rfl⟩
  · refine gs_aload_n dX3_fits_8 rfl rfl ?_
    refine g_cVI0 dX3_fits_9 vX3_159 (by decide) (kMa hb) (by decide) (Nat.le_of_ble_eq_true rfl)  (c_allHaveRoom hb hR hB hT) ?_
    rintro _ σ ⟨rfl, e9⟩
    subst e9
    refine g_goto (tgt := 20) dX3_fits_12 (by decide) ?_
    refine g_zreturn dX3_fits_20 rfl (by first | exact bI_01 _ | decide) ?_
    exact ⟨_, rfl, by rw [if_pos c5], rfl⟩
theorem cl_emptiest {b : Nat} {σ : Mm} {S : Sx} {Tf : Nat → Nat} {K : Option Value → Mm → Prop} (hb : mch b) (hR : RepC b σ S Tf) (hB : Bd S) (hT : Tk S Tf) (hn : 2 ≤ S.1 0 0) (hK : K (some (.int (nI (emS S (S.1 0 0 - 1))))) σ) : ∀ k a, a + k = S.1 0 0 - 1 → G W0 mX3_emptiest K 4 [some (.ref b), some (.int (nI (emS S a))), some (.int (nI (a + 1)))] [] σ := by
  intro k
  induction k with
  | zero =>
    intro a ha
    have b0 := B_nodes hB 0
    have b1 := emS_le S a
    have b2 := tk_le S (a + 1) (S.1 7 0)
    have b3 := tk_le S (emS S a) (S.1 7 0)
    have b4 := B_P hB 0
    refine gs_iload_n dX3_emptiest_4 rfl rfl ?_
    refine gs_aload_n dX3_emptiest_5 rfl rfl ?_
    refine g_getR dX3_emptiest_6 fX3_55 (kMa hb) (by decide) (rMa_board hb) ?_
    refine g_getI dX3_emptiest_9 fX3_167 bdW0.1 (by decide) (C_nodes hR) ?_
    refine gt_icmp_ge (tgt := 38) dX3_emptiest_12 (by decide) (by omega) (by omega) (by omega) ?_
    refine gs_iload_n dX3_emptiest_38 rfl rfl ?_
    refine g_ireturn dX3_emptiest_39 rfl ?_
    have e : a = S.1 0 0 - 1 := by omega
    subst e
    exact hK
  | succ k ih =>
    intro a ha
    have b0 := B_nodes hB 0
    have b1 := emS_le S a
    have b2 := tk_le S (a + 1) (S.1 7 0)
    have b3 := tk_le S (emS S a) (S.1 7 0)
    have b4 := B_P hB 0
    refine gs_iload_n dX3_emptiest_4 rfl rfl ?_
    refine gs_aload_n dX3_emptiest_5 rfl rfl ?_
    refine g_getR dX3_emptiest_6 fX3_55 (kMa hb) (by decide) (rMa_board hb) ?_
    refine g_getI dX3_emptiest_9 fX3_167 bdW0.1 (by decide) (C_nodes hR) ?_
    refine gf_icmp_ge (tgt := 38) dX3_emptiest_12 (by decide) (by omega) (by omega) (by omega) ?_
    refine gs_aload_n dX3_emptiest_15 rfl rfl ?_
    refine g_getR dX3_emptiest_16 fX3_44 (kMa hb) (by decide) (rMa_taken hb) ?_
    refine gs_iload_n dX3_emptiest_19 rfl rfl ?_
    refine g_iald dX3_emptiest_20 (kMa_taken hb) (by omega) ((hR.2.2.2.1 (a + 1) (by omega)).trans (by rw [hT (a + 1) (by omega)])) ?_
    refine gs_aload_n dX3_emptiest_21 rfl rfl ?_
    refine g_getR dX3_emptiest_22 fX3_44 (kMa hb) (by decide) (rMa_taken hb) ?_
    refine gs_iload_n dX3_emptiest_25 rfl rfl ?_
    refine g_iald dX3_emptiest_26 (kMa_taken hb) (by omega) ((hR.2.2.2.1 (emS S a) (by omega)).trans (by rw [hT (emS S a) (by omega)])) ?_
    refine gn_icmp_ge (tgt := 32) dX3_emptiest_27 (by decide) (by omega) (by omega) (fun c27 => ?_) (fun c27 => ?_)
    · refine gs_iinc (ls' := [_, _, _]) dX3_emptiest_32 rfl (nI_add _ 1) rfl rfl ?_
      refine g_goto (tgt := 4) dX3_emptiest_35 (by decide) ?_
      have q := ih (a + 1) (by omega)
      rw [show emS S (a + 1) = emS S a from by simp only [emS]; rw [if_neg (by omega)]] at q
      exact q
    · refine gs_iload_n dX3_emptiest_30 rfl rfl ?_
      refine gs_istore_n (ls' := [_, _, _]) dX3_emptiest_31 rfl rfl rfl ?_
      refine gs_iinc (ls' := [_, _, _]) dX3_emptiest_32 rfl (nI_add _ 1) rfl rfl ?_
      refine g_goto (tgt := 4) dX3_emptiest_35 (by decide) ?_
      have q := ih (a + 1) (by omega)
      rw [show emS S (a + 1) = a + 1 from by simp only [emS]; rw [if_pos (by omega)]] at q
      exact q
theorem c_emptiest {b : Nat} {σ : Mm} {S : Sx} {Tf : Nat → Nat} (hb : mch b) (hR : RepC b σ S Tf) (hB : Bd S) (hT : Tk S Tf) (hn : 2 ≤ S.1 0 0) : RI W0 mX3_emptiest [.ref b] σ (fun r τ => r = nI (emS S (S.1 0 0 - 1)) ∧ τ = σ) := by
  refine G.met (by decide) (Nat.le_of_ble_eq_true rfl) ?_
  show G _ _ _ 0 [some (.ref b), none, none] [] σ
  refine g_iconst (v := nI 0) dX3_emptiest_0 (by decide) ?_
  refine gs_istore_n (ls' := [_, _, _]) dX3_emptiest_1 rfl rfl rfl ?_
  refine g_iconst (v := nI 1) dX3_emptiest_2 (by decide) ?_
  refine gs_istore_n (ls' := [_, _, _]) dX3_emptiest_3 rfl rfl rfl ?_
  exact cl_emptiest hb hR hB hT hn ⟨_, rfl, rfl, rfl⟩ (S.1 0 0 - 1) 0 (by omega)
