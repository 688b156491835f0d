/-! Calls that only read: far, count, look, fault, linked, log. -/
def Lg (S : Sx) : Prop := ∀ i, i < S.1 34 0 → ∃ a p c, a < S.1 0 0 ∧ p < S.1 7 0 ∧ c < 4 ∧ S.2.1 16 (10 * i + 2) = nI a ∧ S.2.1 16 (10 * i + 3) = nI p ∧ S.2.1 16 (10 * i + 4) = nI c
def Gw (S : Sx) : Prop := ∀ t, S.2.1 18 t = nI (S.1 30 t)
def Rn (S : Sx) : Prop := ∀ a b, a < S.1 0 0 → b < S.1 0 0 → S.1 5 (4 * a + b) < 1000 → rhS S b (S.1 0 0 - 1) a
/-- pages and threads that are not there yet -/
def Zp (S : Sx) : Prop := ∀ p, S.1 7 0 ≤ p → S.1 25 p = 0 ∧ S.1 26 p = 0 ∧ S.1 27 p = 0 ∧ S.2.1 7 p = nI 0 ∧ S.2.1 8 p = nI 0 ∧ ∀ c, c < 4 → S.2.1 9 (4 * p + c) = nI 0
def Zt (S : Sx) : Prop := ∀ t, S.1 9 0 ≤ t → S.1 30 t = 0 ∧ S.1 31 t = 0 ∧ S.1 32 t = 0 ∧ S.2.1 10 t = nI 0 ∧ S.2.1 11 t = nI 0 ∧ S.2.1 12 t = nI 0
def PI (S : Sx) : Prop := Tw 57 S ∧ Sp S ∧ Lg S ∧ Gw S ∧ Rn S ∧ Zp S ∧ Zt S
theorem vS_0 (g : Nat) : vS 0 g = vSL.getD g 0 := if_pos (Or.inl rfl)
theorem M0_copies {σ : Mm} {S : Sx} (h : RepM 0 σ S) {i : Nat} (hi : i < 20) : σ.1 280 i = nI (S.1 25 i) := by have q := M_copies h hi; simpa using q
theorem M0_hidden {σ : Mm} {S : Sx} (h : RepM 0 σ S) {i : Nat} (hi : i < 20) : σ.1 281 i = nI (S.1 26 i) := by have q := M_hidden h hi; simpa using q
theorem M0_faultMany {σ : Mm} {S : Sx} (h : RepM 0 σ S) {i : Nat} (hi : i < 20) : σ.1 282 i = nI (S.1 27 i) := by have q := M_faultMany h hi; simpa using q
theorem M0_at {σ : Mm} {S : Sx} (h : RepM 0 σ S) {i : Nat} (hi : i < 10) : σ.1 287 i = nI (S.1 29 i) := by have q := M_at h hi; simpa using q
theorem M0_next {σ : Mm} {S : Sx} (h : RepM 0 σ S) {i : Nat} (hi : i < 10) : σ.1 289 i = nI (S.1 30 i) := by have q := M_next h hi; simpa using q
theorem M0_toGo {σ : Mm} {S : Sx} (h : RepM 0 σ S) {i : Nat} (hi : i < 10) : σ.1 290 i = nI (S.1 31 i) := by have q := M_toGo h hi; simpa using q
theorem M0_ended {σ : Mm} {S : Sx} (h : RepM 0 σ S) {i : Nat} (hi : i < 10) : σ.1 292 i = nI (S.1 32 i) := by have q := M_ended h hi; simpa using q
theorem M0_stamp {σ : Mm} {S : Sx} (h : RepM 0 σ S) {i : Nat} (hi : i < 10) : σ.1 288 i = nI (S.1 35 i) := by have q := M_stamp h hi; simpa using q
theorem M0_faultNode {σ : Mm} {S : Sx} (h : RepM 0 σ S) {i : Nat} (hi : i < 80) : σ.1 283 i = nI (S.1 28 i) := by have q := M_faultNode h hi; simpa using q
theorem M0_aValue {σ : Mm} {S : Sx} (h : RepM 0 σ S) {i : Nat} (hi : i < 600) : σ.1 267 i = S.2.1 0 i := by
  have q := h.2.1 0 i (by rw [vS_0]; exact hi) (by decide)
  simpa [vA, vAL, vK, vML] using q
theorem M0_moved {σ : Mm} {S : Sx} (h : RepM 0 σ S) {i : Nat} (hi : i < 20) : σ.1 284 i = S.2.1 7 i := by
  have q := h.2.1 7 i (by rw [vS_0]; exact hi) (by decide)
  simpa [vA, vAL, vK, vML] using q
theorem M0_cell {σ : Mm} {S : Sx} (h : RepM 0 σ S) {i : Nat} (hi : i < 80) : σ.1 286 i = S.2.1 9 i := by
  have q := h.2.1 9 i (by rw [vS_0]; exact hi) (by decide)
  simpa [vA, vAL, vK, vML] using q
theorem M0_waits {σ : Mm} {S : Sx} (h : RepM 0 σ S) {i : Nat} (hi : i < 10) : σ.1 291 i = S.2.1 10 i := by
  have q := h.2.1 10 i (by rw [vS_0]; exact hi) (by decide)
  simpa [vA, vAL, vK, vML] using q
theorem M0_lastRead {σ : Mm} {S : Sx} (h : RepM 0 σ S) {i : Nat} (hi : i < 10) : σ.1 295 i = S.2.1 12 i := by
  have q := h.2.1 12 i (by rw [vS_0]; exact hi) (by decide)
  simpa [vA, vAL, vK, vML] using q
theorem M0_linkWent {σ : Mm} {S : Sx} (h : RepM 0 σ S) {i : Nat} (hi : i < 16) : σ.1 299 i = S.2.1 14 i := by
  have q := h.2.1 14 i (by rw [vS_0]; exact hi) (by decide)
  simpa [vA, vAL, vK, vML] using q
theorem M0_linkWaits {σ : Mm} {S : Sx} (h : RepM 0 σ S) {i : Nat} (hi : i < 16) : σ.1 300 i = S.2.1 15 i := by
  have q := h.2.1 15 i (by rw [vS_0]; exact hi) (by decide)
  simpa [vA, vAL, vK, vML] using q
theorem M0_log {σ : Mm} {S : Sx} (h : RepM 0 σ S) {i : Nat} (hi : i < 3000) : σ.1 301 i = S.2.1 16 i := by
  have q := h.2.1 16 i (by rw [vS_0]; exact hi) (by decide)
  simpa [vA, vAL, vK, vML] using q
theorem M0_logValue {σ : Mm} {S : Sx} (h : RepM 0 σ S) {i : Nat} (hi : i < 300) : σ.1 302 i = S.2.1 17 i := by
  have q := h.2.1 17 i (by rw [vS_0]; exact hi) (by decide)
  simpa [vA, vAL, vK, vML] using q
theorem M0_threadWent {σ : Mm} {S : Sx} (h : RepM 0 σ S) {i : Nat} (hi : i < 10) : σ.1 293 i = S.2.1 18 i := by
  have q := h.2.1 18 i (by rw [vS_0]; exact hi) (by decide)
  simpa [vA, vAL, vK, vML] using q
theorem M0_tick {σ : Mm} {S : Sx} (h : RepM 0 σ S) : σ.1 271 0 = S.2.1 1 0 := by
  have q := h.2.1 1 0 (by rw [vS_0]; decide) (by decide)
  simpa [vA, vAL, vK, vML] using q
theorem M0_went {σ : Mm} {S : Sx} (h : RepM 0 σ S) : σ.1 273 0 = S.2.1 2 0 := by
  have q := h.2.1 2 0 (by rw [vS_0]; decide) (by decide)
  simpa [vA, vAL, vK, vML] using q
theorem M0_faults {σ : Mm} {S : Sx} (h : RepM 0 σ S) : σ.1 275 0 = S.2.1 4 0 := by
  have q := h.2.1 4 0 (by rw [vS_0]; decide) (by decide)
  simpa [vA, vAL, vK, vML] using q
theorem M0_moves {σ : Mm} {S : Sx} (h : RepM 0 σ S) : σ.1 276 0 = S.2.1 5 0 := by
  have q := h.2.1 5 0 (by rw [vS_0]; decide) (by decide)
  simpa [vA, vAL, vK, vML] using q
theorem M0_failed {σ : Mm} {S : Sx} (h : RepM 0 σ S) : σ.1 277 0 = S.2.1 6 0 := by
  have q := h.2.1 6 0 (by rw [vS_0]; decide) (by decide)
  simpa [vA, vAL, vK, vML] using q
theorem M0_cost {σ : Mm} {S : Sx} (h : RepM 0 σ S) {i : Nat} (hi : i < 1) : (σ.2 274 i).toInt32 = S.2.1 3 i := by
  have q := h.2.2 3 i (by rw [vS_0]; exact hi) (by decide)
  simpa [vA, vAL, vK, vML] using q
theorem M0_pageBill {σ : Mm} {S : Sx} (h : RepM 0 σ S) {i : Nat} (hi : i < 20) : (σ.2 285 i).toInt32 = S.2.1 8 i := by
  have q := h.2.2 8 i (by rw [vS_0]; exact hi) (by decide)
  simpa [vA, vAL, vK, vML] using q
theorem M0_threadBill {σ : Mm} {S : Sx} (h : RepM 0 σ S) {i : Nat} (hi : i < 10) : (σ.2 294 i).toInt32 = S.2.1 11 i := by
  have q := h.2.2 11 i (by rw [vS_0]; exact hi) (by decide)
  simpa [vA, vAL, vK, vML] using q
theorem M0_nodeBill {σ : Mm} {S : Sx} (h : RepM 0 σ S) {i : Nat} (hi : i < 4) : (σ.2 297 i).toInt32 = S.2.1 13 i := by
  have q := h.2.2 13 i (by rw [vS_0]; exact hi) (by decide)
  simpa [vA, vAL, vK, vML] using q
theorem m_areLinked {σ : Mm} {S : Sx} (hM : RepM 0 σ S) (hB : Bd S) (x y : Int32) : RI W0 mX12_areLinked [.ref 258, .int x, .int y] σ (fun r τ => r = bI (inN x (S.1 0 0) && (inN y (S.1 0 0) && decide (x ≠ y))) ∧ τ = σ) := by
  have b0 := B_nodes hB 0
  refine G.met (by decide) (Nat.le_of_ble_eq_true rfl) ?_
  show G _ _ _ 0 [some (.ref 258), some (.int x), some (.int y)] [] σ
  refine gs_aload_n dX12_areLinked_0 rfl rfl ?_
  refine gs_iload_n dX12_areLinked_1 rfl rfl ?_
  refine g_cVI1 dX12_areLinked_2 vX12_204 (by decide) kwM (by decide) (Nat.le_of_ble_eq_true rfl) (s_isNode (M_nodes hM) (by omega) _) ?_
  rintro _ σ ⟨rfl, e9⟩
  subst e9
  refine gb_if_eq (tgt := 25) dX12_areLinked_5 (by decide) (fun c5 => ?_) (fun c5 => ?_)
  · refine g_iconst (v := nI 0) dX12_areLinked_25 (by decide) ?_
    refine g_zreturn dX12_areLinked_26 rfl (by first | exact bI_01 _ | decide) ?_
    exact ⟨_, rfl, by rw [c5]; rfl, rfl⟩
  · refine gs_aload_n dX12_areLinked_8 rfl rfl ?_
    refine gs_iload_n dX12_areLinked_9 rfl rfl ?_
    refine g_cVI1 dX12_areLinked_10 vX12_204 (by decide) kwM (by decide) (Nat.le_of_ble_eq_true rfl) (s_isNode (M_nodes hM) (by omega) _) ?_
    rintro _ σ ⟨rfl, e9⟩
    subst e9
    refine gb_if_eq (tgt := 25) dX12_areLinked_13 (by decide) (fun c13 => ?_) (fun c13 => ?_)
    · refine g_iconst (v := nI 0) dX12_areLinked_25 (by decide) ?_
      refine g_zreturn dX12_areLinked_26 rfl (by first | exact bI_01 _ | decide) ?_
      exact ⟨_, rfl, by rw [c5, c13]; rfl, rfl⟩
    · refine gs_iload_n dX12_areLinked_16 rfl rfl ?_
      refine gs_iload_n dX12_areLinked_17 rfl rfl ?_
      refine g_icmp_eq (tgt := 25) dX12_areLinked_18 (by decide) (fun c18 => ?_) (fun c18 => ?_)
      · refine g_iconst (v := nI 0) dX12_areLinked_25 (by decide) ?_
        refine g_zreturn dX12_areLinked_26 rfl (by first | exact bI_01 _ | decide) ?_
        exact ⟨_, rfl, by rw [c5, c13, decide_eq_false (fun z => z c18)]; rfl, rfl⟩
      · refine g_iconst (v := nI 1) dX12_areLinked_21 (by decide) ?_
        refine g_goto (tgt := 26) dX12_areLinked_22 (by decide) ?_
        refine g_zreturn dX12_areLinked_26 rfl (by first | exact bI_01 _ | decide) ?_
        exact ⟨_, rfl, by rw [c5, c13, decide_eq_true c18]; rfl, rfl⟩
def aFar (S : Sx) (x y : Int32) : Int32 := if (inN x (S.1 0 0) && inN y (S.1 0 0)) = true then (if rcS S (nN x) (nN y) = true then nI (S.1 5 (4 * nN x + nN y)) else -2) else -1
theorem a_far {σ : Mm} {S : Sx} {H : Hx} (hJ : CI σ S H) (hPI : PI S) (x y : Int32) : RI W0 mX11_far [.ref 0, .int x, .int y] σ (fun r τ => r = aFar S x y ∧ τ = σ) := by
  have hJ0 := hJ
  obtain ⟨⟨Tf, hR, hTk⟩, hSh, hTr1, hTr2⟩ := hJ
  have hb : mch 57 := Or.inl rfl
  have hB : Bd S := hPI.1.1.1.1
  have b0 := B_nodes hB 0
  have bP := B_P hB 0
  have bT := B_T hB 0
  refine G.met (by decide) (Nat.le_of_ble_eq_true rfl) ?_
  show G _ _ _ 0 [some (.ref 0), some (.int x), some (.int y)] [] σ
  refine gs_aload_n dX11_far_0 rfl rfl ?_
  refine g_getR dX11_far_1 fX11_18 kFC (by decide) rFC_board ?_
  refine gs_iload_n dX11_far_4 rfl rfl ?_
  refine g_cVI1 dX11_far_5 vX11_69 (by decide) bdW0.1 (by decide) (Nat.le_of_ble_eq_true rfl) (c_has hb hR hB _) ?_
  rintro _ σ ⟨rfl, e9⟩
  subst e9
  refine gb_if_eq (tgt := 22) dX11_far_8 (by decide) (fun c8 => ?_) (fun c8 => ?_)
  · refine g_iconst (v := -1) dX11_far_22 (by decide) ?_
    refine g_ireturn dX11_far_23 rfl ?_
    exact ⟨_, rfl, by rw [aFar, if_neg (nb1 c8)], rfl⟩
  · refine gs_aload_n dX11_far_11 rfl rfl ?_
    refine g_getR dX11_far_12 fX11_18 kFC (by decide) rFC_board ?_
    refine gs_iload_n dX11_far_15 rfl rfl ?_
    refine g_cVI1 dX11_far_16 vX11_69 (by decide) bdW0.1 (by decide) (Nat.le_of_ble_eq_true rfl) (c_has hb hR hB _) ?_
    rintro _ σ ⟨rfl, e9⟩
    subst e9
    refine gb_if_ne (tgt := 24) dX11_far_19 (by decide) (fun c19 => ?_) (fun c19 => ?_)
    · obtain ⟨a, ha, rfl⟩ := inN_of c8 (by omega)
      obtain ⟨c, hc, rfl⟩ := inN_of c19 (by omega)
      refine gs_aload_n dX11_far_24 rfl rfl ?_
      refine g_getR dX11_far_25 fX11_18 kFC (by decide) rFC_board ?_
      refine gs_iload_n dX11_far_28 rfl rfl ?_
      refine gs_iload_n dX11_far_29 rfl rfl ?_
      refine g_cVI2 dX11_far_30 vX11_73 (by decide) bdW0.1 (by decide) (Nat.le_of_ble_eq_true rfl) (c_reaches hb hR hB ha hc) ?_
      rintro _ σ ⟨rfl, e9⟩
      subst e9
      refine gb_if_eq (tgt := 48) dX11_far_33 (by decide) (fun c33 => ?_) (fun c33 => ?_)
      · refine g_bipush (v := -2) dX11_far_48 (by decide) ?_
        refine g_ireturn dX11_far_50 rfl ?_
        exact ⟨_, rfl, by rw [aFar, if_pos (yb c8 c19), nN_n (by omega), nN_n (by omega), if_neg (nbf c33)], rfl⟩
      · refine gs_aload_n dX11_far_36 rfl rfl ?_
        refine g_getR dX11_far_37 fX11_18 kFC (by decide) rFC_board ?_
        refine gs_iload_n dX11_far_40 rfl rfl ?_
        refine gs_iload_n dX11_far_41 rfl rfl ?_
        refine g_cVI2 dX11_far_42 vX11_76 (by decide) bdW0.1 (by decide) (Nat.le_of_ble_eq_true rfl) (c_distance hb hR hB ha hc) ?_
        rintro _ σ ⟨rfl, e9⟩
        subst e9
        refine g_goto (tgt := 50) dX11_far_45 (by decide) ?_
        refine g_ireturn dX11_far_50 rfl ?_
        exact ⟨_, rfl, by rw [aFar, if_pos (yb c8 c19), nN_n (by omega), nN_n (by omega), if_pos c33], rfl⟩
    · refine g_iconst (v := -1) dX11_far_22 (by decide) ?_
      refine g_ireturn dX11_far_23 rfl ?_
      exact ⟨_, rfl, by rw [aFar, if_neg (nb2 (nbf c19))], rfl⟩
theorem n_far {σ : Mm} {S : Sx} {H : Hx} (hJ : MI_ σ S H) (hPI : PI S) (x y : Int32) : RI W0 mX12_far [.ref 258, .int x, .int y] σ (fun r τ => r = aFar S x y ∧ MJ σ S H τ) := by
  have hB : Bd S := hPI.1.1.1.1
  have b0 := B_nodes hB 0
  have bP := B_P hB 0
  have bT := B_T hB 0
  refine G.met (by decide) (Nat.le_of_ble_eq_true rfl) ?_
  show G _ _ _ 0 [some (.ref 258), some (.int x), some (.int y)] [] σ
  refine gs_aload_n dX12_far_0 rfl rfl ?_
  refine g_iconst (v := nI 0) dX12_far_1 (by decide) ?_
  refine gp_putI dX12_far_2 pX12_194 kwM (by decide) (Or.inl rfl) ((MJ.rf hJ).off off0 (by decide)) (fun σ hQ => ?_)
  have hM := hQ.1.1
  have hC0 := hQ.1.2.1
  refine gs_aload_n dX12_far_5 rfl rfl ?_
  refine gs_iload_n dX12_far_6 rfl rfl ?_
  refine g_cVI1 dX12_far_7 vX12_204 (by decide) kwM (by decide) (Nat.le_of_ble_eq_true rfl) (s_isNode (M_nodes hM) (by omega) _) ?_
  rintro _ σ ⟨rfl, e9⟩
  subst e9
  refine gb_if_eq (tgt := 21) dX12_far_10 (by decide) (fun c10 => ?_) (fun c10 => ?_)
  · refine g_iconst (v := -1) dX12_far_21 (by decide) ?_
    refine g_goto (tgt := 49) dX12_far_22 (by decide) ?_
    refine g_ireturn dX12_far_49 rfl ?_
    exact ⟨_, rfl, by rw [aFar, if_neg (nb1 c10)], hQ⟩
  · refine gs_aload_n dX12_far_13 rfl rfl ?_
    refine gs_iload_n dX12_far_14 rfl rfl ?_
    refine g_cVI1 dX12_far_15 vX12_204 (by decide) kwM (by decide) (Nat.le_of_ble_eq_true rfl) (s_isNode (M_nodes hM) (by omega) _) ?_
    rintro _ σ ⟨rfl, e9⟩
    subst e9
    refine gb_if_ne (tgt := 25) dX12_far_18 (by decide) (fun c18 => ?_) (fun c18 => ?_)
    · obtain ⟨a, ha, rfl⟩ := inN_of c10 (by omega)
      obtain ⟨c, hc, rfl⟩ := inN_of c18 (by omega)
      refine gs_aload_n dX12_far_25 rfl rfl ?_
      refine gs_iload_n dX12_far_26 rfl rfl ?_
      refine gs_iload_n dX12_far_27 rfl rfl ?_
      refine g_cVI2 dX12_far_28 vX12_220 (by decide) kwM (by decide) (Nat.le_of_ble_eq_true rfl) (s_isWay hM hB hC0 (a := a) (b := c) (by omega) (by omega)) ?_
      rintro _ σ ⟨rfl, e9⟩
      subst e9
      refine gb_if_eq (tgt := 47) dX12_far_31 (by decide) (fun c31 => ?_) (fun c31 => ?_)
      · refine g_bipush (v := -2) dX12_far_47 (by decide) ?_
        refine g_ireturn dX12_far_49 rfl ?_
        exact ⟨_, rfl, by rw [aFar, if_pos (yb c10 c18), nN_n (by omega), nN_n (by omega), if_neg (nbf c31)], hQ⟩
      · refine gs_aload_n dX12_far_34 rfl rfl ?_
        refine g_getR dX12_far_35 fX12_16 kwM (by decide) rM_far ?_
        refine g_iconst (v := nI 4) dX12_far_38 (by decide) ?_
        refine gs_iload_n dX12_far_39 rfl rfl ?_
        refine g_imul dX12_far_40 (by first | exact pk_mul _ _ | rfl) ?_
        refine gs_iload_n dX12_far_41 rfl rfl ?_
        refine g_iadd dX12_far_42 (by first | exact nI_add _ _ | rfl) ?_
        refine g_iald dX12_far_43 kw_far (by omega) ((M_far hM (by omega)).trans (if_pos (by simpa [rcS] using c31))) ?_
        refine g_goto (tgt := 49) dX12_far_44 (by decide) ?_
        refine g_ireturn dX12_far_49 rfl ?_
        exact ⟨_, rfl, by rw [aFar, if_pos (yb c10 c18), nN_n (by omega), nN_n (by omega), if_pos c31], hQ⟩
    · refine g_iconst (v := -1) dX12_far_21 (by decide) ?_
      refine g_goto (tgt := 49) dX12_far_22 (by decide) ?_
      refine g_ireturn dX12_far_49 rfl ?_
      exact ⟨_, rfl, by rw [aFar, if_neg (nb2 (nbf c18))], hQ⟩
def aCount (S : Sx) (x : Int32) : Int32 := swA x [S.2.1 1 0, nI (S.1 0 0), nI (S.1 1 0), nI (S.1 2 0), nI (S.1 7 0), nI (S.1 9 0), S.2.1 2 0, S.2.1 3 0, S.2.1 4 0, S.2.1 5 0, S.2.1 6 0]
theorem a_count {σ : Mm} {S : Sx} {H : Hx} (hJ : CI σ S H) (hPI : PI S) (x : Int32) : RI W0 mX11_count [.ref 0, .int x] σ (fun r τ => r = aCount S x ∧ τ = σ) := by
  have hJ0 := hJ
  obtain ⟨⟨Tf, hR, hTk⟩, hSh, hTr1, hTr2⟩ := hJ
  have hb : mch 57 := Or.inl rfl
  have hB : Bd S := hPI.1.1.1.1
  have b0 := B_nodes hB 0
  have bP := B_P hB 0
  have bT := B_T hB 0
  refine G.met (by decide) (Nat.le_of_ble_eq_true rfl) ?_
  show G _ _ _ 0 [some (.ref 0), some (.int x)] [] σ
  refine gs_iload_n dX11_count_0 rfl rfl ?_
  rcases sw11 x with h9 | h9 | h9 | h9 | h9 | h9 | h9 | h9 | h9 | h9 | h9 | h9
  · subst h9
    refine g_tableIn (off := 59) (tgt := 60) dX11_count_1 (by decide) (by decide) (by decide) (by decide) ?_
    refine gs_aload_n dX11_count_60 rfl rfl ?_
    refine g_getR dX11_count_61 fX11_32 kFC (by decide) rFC_machine ?_
    refine g_getI dX11_count_64 fX11_54 (kMa hb) (by decide) (CV_tick hR) ?_
    refine g_ireturn dX11_count_67 rfl ?_
    exact ⟨_, rfl, by rw [aCount, swA_n (by decide) (Nat.le_of_ble_eq_true rfl)] <;> rfl, rfl⟩
  · subst h9
    refine g_tableIn (off := 67) (tgt := 68) dX11_count_1 (by decide) (by decide) (by decide) (by decide) ?_
    refine gs_aload_n dX11_count_68 rfl rfl ?_
    refine g_getR dX11_count_69 fX11_18 kFC (by decide) rFC_board ?_
    refine g_getI dX11_count_72 fX11_79 bdW0.1 (by decide) (C_nodes hR) ?_
    refine g_ireturn dX11_count_75 rfl ?_
    exact ⟨_, rfl, by rw [aCount, swA_n (by decide) (Nat.le_of_ble_eq_true rfl)] <;> rfl, rfl⟩
  · subst h9
    refine g_tableIn (off := 75) (tgt := 76) dX11_count_1 (by decide) (by decide) (by decide) (by decide) ?_
    refine gs_aload_n dX11_count_76 rfl rfl ?_
    refine g_getR dX11_count_77 fX11_18 kFC (by decide) rFC_board ?_
    refine g_getI dX11_count_80 fX11_294 bdW0.1 (by decide) (C_proc hR) ?_
    refine g_ireturn dX11_count_83 rfl ?_
    exact ⟨_, rfl, by rw [aCount, swA_n (by decide) (Nat.le_of_ble_eq_true rfl)] <;> rfl, rfl⟩
  · subst h9
    refine g_tableIn (off := 83) (tgt := 84) dX11_count_1 (by decide) (by decide) (by decide) (by decide) ?_
    refine gs_aload_n dX11_count_84 rfl rfl ?_
    refine g_getR dX11_count_85 fX11_18 kFC (by decide) rFC_board ?_
    refine g_getI dX11_count_88 fX11_297 bdW0.1 (by decide) (C_room hR) ?_
    refine g_ireturn dX11_count_91 rfl ?_
    exact ⟨_, rfl, by rw [aCount, swA_n (by decide) (Nat.le_of_ble_eq_true rfl)] <;> rfl, rfl⟩
  · subst h9
    refine g_tableIn (off := 91) (tgt := 92) dX11_count_1 (by decide) (by decide) (by decide) (by decide) ?_
    refine gs_aload_n dX11_count_92 rfl rfl ?_
    refine g_getR dX11_count_93 fX11_32 kFC (by decide) rFC_machine ?_
    refine g_getI dX11_count_96 fX11_85 (kMa hb) (by decide) (C_P hR) ?_
    refine g_ireturn dX11_count_99 rfl ?_
    exact ⟨_, rfl, by rw [aCount, swA_n (by decide) (Nat.le_of_ble_eq_true rfl)] <;> rfl, rfl⟩
  · subst h9
    refine g_tableIn (off := 99) (tgt := 100) dX11_count_1 (by decide) (by decide) (by decide) (by decide) ?_
    refine gs_aload_n dX11_count_100 rfl rfl ?_
    refine g_getR dX11_count_101 fX11_32 kFC (by decide) rFC_machine ?_
    refine g_getI dX11_count_104 fX11_92 (kMa hb) (by decide) (C_T hR) ?_
    refine g_ireturn dX11_count_107 rfl ?_
    exact ⟨_, rfl, by rw [aCount, swA_n (by decide) (Nat.le_of_ble_eq_true rfl)] <;> rfl, rfl⟩
  · subst h9
    refine g_tableIn (off := 107) (tgt := 108) dX11_count_1 (by decide) (by decide) (by decide) (by decide) ?_
    refine gs_aload_n dX11_count_108 rfl rfl ?_
    refine g_getR dX11_count_109 fX11_32 kFC (by decide) rFC_machine ?_
    refine g_getI dX11_count_112 fX11_179 (kMa hb) (by decide) (CV_went hR) ?_
    refine g_ireturn dX11_count_115 rfl ?_
    exact ⟨_, rfl, by rw [aCount, swA_n (by decide) (Nat.le_of_ble_eq_true rfl)] <;> rfl, rfl⟩
  · subst h9
    refine g_tableIn (off := 115) (tgt := 116) dX11_count_1 (by decide) (by decide) (by decide) (by decide) ?_
    refine gs_aload_n dX11_count_116 rfl rfl ?_
    refine g_getR dX11_count_117 fX11_32 kFC (by decide) rFC_machine ?_
    refine g_getI dX11_count_120 fX11_287 (kMa hb) (by decide) (CV_cost hR) ?_
    refine g_ireturn dX11_count_123 rfl ?_
    exact ⟨_, rfl, by rw [aCount, swA_n (by decide) (Nat.le_of_ble_eq_true rfl)] <;> rfl, rfl⟩
  · subst h9
    refine g_tableIn (off := 123) (tgt := 124) dX11_count_1 (by decide) (by decide) (by decide) (by decide) ?_
    refine gs_aload_n dX11_count_124 rfl rfl ?_
    refine g_getR dX11_count_125 fX11_32 kFC (by decide) rFC_machine ?_
    refine g_getI dX11_count_128 fX11_300 (kMa hb) (by decide) (CV_faults hR) ?_
    refine g_ireturn dX11_count_131 rfl ?_
    exact ⟨_, rfl, by rw [aCount, swA_n (by decide) (Nat.le_of_ble_eq_true rfl)] <;> rfl, rfl⟩
  · subst h9
    refine g_tableIn (off := 131) (tgt := 132) dX11_count_1 (by decide) (by decide) (by decide) (by decide) ?_
    refine gs_aload_n dX11_count_132 rfl rfl ?_
    refine g_getR dX11_count_133 fX11_32 kFC (by decide) rFC_machine ?_
    refine g_getI dX11_count_136 fX11_302 (kMa hb) (by decide) (CV_moves hR) ?_
    refine g_ireturn dX11_count_139 rfl ?_
    exact ⟨_, rfl, by rw [aCount, swA_n (by decide) (Nat.le_of_ble_eq_true rfl)] <;> rfl, rfl⟩
  · subst h9
    refine g_tableIn (off := 139) (tgt := 140) dX11_count_1 (by decide) (by decide) (by decide) (by decide) ?_
    refine gs_aload_n dX11_count_140 rfl rfl ?_
    refine g_getR dX11_count_141 fX11_32 kFC (by decide) rFC_machine ?_
    refine g_getI dX11_count_144 fX11_303 (kMa hb) (by decide) (CV_failed hR) ?_
    refine g_ireturn dX11_count_147 rfl ?_
    exact ⟨_, rfl, by rw [aCount, swA_n (by decide) (Nat.le_of_ble_eq_true rfl)] <;> rfl, rfl⟩
  · refine g_tableOut (tgt := 148) dX11_count_1 h9 (by decide) ?_
    refine g_iconst (v := -1) dX11_count_148 (by decide) ?_
    refine g_ireturn dX11_count_149 rfl ?_
    exact ⟨_, rfl, by rw [aCount, swA_o h9 rfl], rfl⟩
theorem n_count {σ : Mm} {S : Sx} {H : Hx} (hJ : MI_ σ S H) (hPI : PI S) (x : Int32) : RI W0 mX12_count [.ref 258, .int x] σ (fun r τ => r = aCount S x ∧ MJ σ S H τ) := by
  have hB : Bd S := hPI.1.1.1.1
  have b0 := B_nodes hB 0
  have bP := B_P hB 0
  have bT := B_T hB 0
  refine G.met (by decide) (Nat.le_of_ble_eq_true rfl) ?_
  show G _ _ _ 0 [some (.ref 258), some (.int x)] [] σ
  refine gs_aload_n dX12_count_0 rfl rfl ?_
  refine g_iconst (v := nI 0) dX12_count_1 (by decide) ?_
  refine gp_putI dX12_count_2 pX12_194 kwM (by decide) (Or.inl rfl) ((MJ.rf hJ).off off0 (by decide)) (fun σ hQ => ?_)
  have hM := hQ.1.1
  have hC0 := hQ.1.2.1
  refine gs_iload_n dX12_count_5 rfl rfl ?_
  rcases sw11 x with h9 | h9 | h9 | h9 | h9 | h9 | h9 | h9 | h9 | h9 | h9 | h9
  · subst h9
    refine g_tableIn (off := 58) (tgt := 64) dX12_count_6 (by decide) (by decide) (by decide) (by decide) ?_
    refine gs_aload_n dX12_count_64 rfl rfl ?_
    refine g_getR dX12_count_65 fX12_54 kwM (by decide) rM_tick ?_
    refine g_iconst (v := nI 0) dX12_count_68 (by decide) ?_
    refine g_iald dX12_count_69 kw_tick (by omega) (M0_tick hM) ?_
    refine g_ireturn dX12_count_70 rfl ?_
    exact ⟨_, rfl, by rw [aCount, swA_n (by decide) (Nat.le_of_ble_eq_true rfl)] <;> rfl, hQ⟩
  · subst h9
    refine g_tableIn (off := 65) (tgt := 71) dX12_count_6 (by decide) (by decide) (by decide) (by decide) ?_
    refine gs_aload_n dX12_count_71 rfl rfl ?_
    refine g_getI dX12_count_72 fX12_182 kwM (by decide) (M_nodes hM) ?_
    refine g_ireturn dX12_count_75 rfl ?_
    exact ⟨_, rfl, by rw [aCount, swA_n (by decide) (Nat.le_of_ble_eq_true rfl)] <;> rfl, hQ⟩
  · subst h9
    refine g_tableIn (off := 70) (tgt := 76) dX12_count_6 (by decide) (by decide) (by decide) (by decide) ?_
    refine gs_aload_n dX12_count_76 rfl rfl ?_
    refine g_getI dX12_count_77 fX12_185 kwM (by decide) (M_proc hM) ?_
    refine g_ireturn dX12_count_80 rfl ?_
    exact ⟨_, rfl, by rw [aCount, swA_n (by decide) (Nat.le_of_ble_eq_true rfl)] <;> rfl, hQ⟩
  · subst h9
    refine g_tableIn (off := 75) (tgt := 81) dX12_count_6 (by decide) (by decide) (by decide) (by decide) ?_
    refine gs_aload_n dX12_count_81 rfl rfl ?_
    refine g_getI dX12_count_82 fX12_188 kwM (by decide) (M_room hM) ?_
    refine g_ireturn dX12_count_85 rfl ?_
    exact ⟨_, rfl, by rw [aCount, swA_n (by decide) (Nat.le_of_ble_eq_true rfl)] <;> rfl, hQ⟩
  · subst h9
    refine g_tableIn (off := 80) (tgt := 86) dX12_count_6 (by decide) (by decide) (by decide) (by decide) ?_
    refine gs_aload_n dX12_count_86 rfl rfl ?_
    refine g_getI dX12_count_87 fX12_197 kwM (by decide) (M_P hM) ?_
    refine g_ireturn dX12_count_90 rfl ?_
    exact ⟨_, rfl, by rw [aCount, swA_n (by decide) (Nat.le_of_ble_eq_true rfl)] <;> rfl, hQ⟩
  · subst h9
    refine g_tableIn (off := 85) (tgt := 91) dX12_count_6 (by decide) (by decide) (by decide) (by decide) ?_
    refine gs_aload_n dX12_count_91 rfl rfl ?_
    refine g_getI dX12_count_92 fX12_200 kwM (by decide) (M_T hM) ?_
    refine g_ireturn dX12_count_95 rfl ?_
    exact ⟨_, rfl, by rw [aCount, swA_n (by decide) (Nat.le_of_ble_eq_true rfl)] <;> rfl, hQ⟩
  · subst h9
    refine g_tableIn (off := 90) (tgt := 96) dX12_count_6 (by decide) (by decide) (by decide) (by decide) ?_
    refine gs_aload_n dX12_count_96 rfl rfl ?_
    refine g_getR dX12_count_97 fX12_60 kwM (by decide) rM_went ?_
    refine g_iconst (v := nI 0) dX12_count_100 (by decide) ?_
    refine g_iald dX12_count_101 kw_went (by omega) (M0_went hM) ?_
    refine g_ireturn dX12_count_102 rfl ?_
    exact ⟨_, rfl, by rw [aCount, swA_n (by decide) (Nat.le_of_ble_eq_true rfl)] <;> rfl, hQ⟩
  · subst h9
    refine g_tableIn (off := 97) (tgt := 103) dX12_count_6 (by decide) (by decide) (by decide) (by decide) ?_
    refine gs_aload_n dX12_count_103 rfl rfl ?_
    refine g_getR dX12_count_104 fX12_63 kwM (by decide) rM_cost ?_
    refine g_iconst (v := nI 0) dX12_count_107 (by decide) ?_
    refine g_lald dX12_count_108 kw_cost (by omega) rfl ?_
    refine g_l2i dX12_count_109 (M0_cost hM (by decide)) ?_
    refine g_ireturn dX12_count_110 rfl ?_
    exact ⟨_, rfl, by rw [aCount, swA_n (by decide) (Nat.le_of_ble_eq_true rfl)] <;> rfl, hQ⟩
  · subst h9
    refine g_tableIn (off := 105) (tgt := 111) dX12_count_6 (by decide) (by decide) (by decide) (by decide) ?_
    refine gs_aload_n dX12_count_111 rfl rfl ?_
    refine g_getR dX12_count_112 fX12_67 kwM (by decide) rM_faults ?_
    refine g_iconst (v := nI 0) dX12_count_115 (by decide) ?_
    refine g_iald dX12_count_116 kw_faults (by omega) (M0_faults hM) ?_
    refine g_ireturn dX12_count_117 rfl ?_
    exact ⟨_, rfl, by rw [aCount, swA_n (by decide) (Nat.le_of_ble_eq_true rfl)] <;> rfl, hQ⟩
  · subst h9
    refine g_tableIn (off := 112) (tgt := 118) dX12_count_6 (by decide) (by decide) (by decide) (by decide) ?_
    refine gs_aload_n dX12_count_118 rfl rfl ?_
    refine g_getR dX12_count_119 fX12_70 kwM (by decide) rM_moves ?_
    refine g_iconst (v := nI 0) dX12_count_122 (by decide) ?_
    refine g_iald dX12_count_123 kw_moves (by omega) (M0_moves hM) ?_
    refine g_ireturn dX12_count_124 rfl ?_
    exact ⟨_, rfl, by rw [aCount, swA_n (by decide) (Nat.le_of_ble_eq_true rfl)] <;> rfl, hQ⟩
  · subst h9
    refine g_tableIn (off := 119) (tgt := 125) dX12_count_6 (by decide) (by decide) (by decide) (by decide) ?_
    refine gs_aload_n dX12_count_125 rfl rfl ?_
    refine g_getR dX12_count_126 fX12_73 kwM (by decide) rM_failed ?_
    refine g_iconst (v := nI 0) dX12_count_129 (by decide) ?_
    refine g_iald dX12_count_130 kw_failed (by omega) (M0_failed hM) ?_
    refine g_ireturn dX12_count_131 rfl ?_
    exact ⟨_, rfl, by rw [aCount, swA_n (by decide) (Nat.le_of_ble_eq_true rfl)] <;> rfl, hQ⟩
  · refine g_tableOut (tgt := 132) dX12_count_6 h9 (by decide) ?_
    refine g_iconst (v := -1) dX12_count_132 (by decide) ?_
    refine g_ireturn dX12_count_133 rfl ?_
    exact ⟨_, rfl, by rw [aCount, swA_o h9 rfl], hQ⟩
def aLook (S : Sx) (x y : Int32) : Int32 := if inN x (S.1 7 0) = true then swA y [nI (S.1 8 (nN x)), lzM (S.1 24 (nN x)), nI (S.1 25 (nN x)), nI (S.1 26 (nN x)), nI (S.1 27 (nN x)), S.2.1 7 (nN x), S.2.1 8 (nN x)] else -1
theorem a_look {σ : Mm} {S : Sx} {H : Hx} (hJ : CI σ S H) (hPI : PI S) (x y : Int32) : RI W0 mX11_look [.ref 0, .int x, .int y] σ (fun r τ => r = aLook S x y ∧ τ = σ) := by
  have hJ0 := hJ
  obtain ⟨⟨Tf, hR, hTk⟩, hSh, hTr1, hTr2⟩ := hJ
  have hb : mch 57 := Or.inl rfl
  have hB : Bd S := hPI.1.1.1.1
  have b0 := B_nodes hB 0
  have bP := B_P hB 0
  have bT := B_T hB 0
  refine G.met (by decide) (Nat.le_of_ble_eq_true rfl) ?_
  show G _ _ _ 0 [some (.ref 0), some (.int x), some (.int y), none] [] σ
  refine gs_aload_n dX11_look_0 rfl rfl ?_
  refine g_getR dX11_look_1 fX11_32 kFC (by decide) rFC_machine ?_
  refine gs_iload_n dX11_look_4 rfl rfl ?_
  refine g_cVI1 dX11_look_5 vX11_138 (by decide) (kMa hb) (by decide) (Nat.le_of_ble_eq_true rfl) (c_hasPage hb hR hB _) ?_
  rintro _ σ ⟨rfl, e9⟩
  subst e9
  refine gb_if_ne (tgt := 13) dX11_look_8 (by decide) (fun c8 => ?_) (fun c8 => ?_)
  · obtain ⟨p, hp, rfl⟩ := inN_of c8 (by omega)
    have h20 : p < 20 := by omega
    have b24 := B_lies hB p
    have b26 := B_hidden hB p
    refine gs_aload_n dX11_look_13 rfl rfl ?_
    refine g_getR dX11_look_14 fX11_32 kFC (by decide) rFC_machine ?_
    refine g_getR dX11_look_17 fX11_141 (kMa hb) (by decide) (rMa_pages hb) ?_
    refine gs_iload_n dX11_look_20 rfl rfl ?_
    refine g_aald24 dX11_look_21 (kMa_pages hb) h20 (rPs hb h20) ?_
    refine gs_astore_n (ls' := [_, _, _, _]) dX11_look_22 rfl rfl rfl ?_
    refine gs_iload_n dX11_look_23 rfl rfl ?_
    rcases sw7 y with h9 | h9 | h9 | h9 | h9 | h9 | h9 | h9
    · subst h9
      refine g_tableIn (off := 44) (tgt := 68) dX11_look_24 (by decide) (by decide) (by decide) (by decide) ?_
      refine gs_aload_n dX11_look_68 rfl rfl ?_
      refine g_getI dX11_look_69 fX11_185 (kPg hb h20) (by decide) (C_kind hR (by omega) (by omega)) ?_
      refine g_ireturn dX11_look_72 rfl ?_
      exact ⟨_, rfl, by rw [aLook, if_pos c8, nN_n (by omega), swA_n (by decide) (Nat.le_of_ble_eq_true rfl)] <;> rfl, rfl⟩
    · subst h9
      refine g_tableIn (off := 49) (tgt := 73) dX11_look_24 (by decide) (by decide) (by decide) (by decide) ?_
      refine gs_aload_n dX11_look_73 rfl rfl ?_
      refine g_getI dX11_look_74 fX11_149 (kPg hb h20) (by decide) (C_lies hR (by omega) (by omega)) ?_
      refine g_iconst (v := -1) dX11_look_77 (by decide) ?_
      refine g_icmp_ne (tgt := 86) dX11_look_78 (by decide) (fun c78 => ?_) (fun c78 => ?_)
      · refine gs_aload_n dX11_look_86 rfl rfl ?_
        refine g_getI dX11_look_87 fX11_149 (kPg hb h20) (by decide) (C_lies hR (by omega) (by omega)) ?_
        refine g_ireturn dX11_look_90 rfl ?_
        have ez : 0 < S.1 24 p := by
          rcases Nat.eq_zero_or_pos (S.1 24 p) with e | e
          · exact absurd (by rw [e]; rfl) c78
          · exact e
        exact ⟨_, rfl, by rw [aLook, if_pos c8, nN_n (by omega), swA_n (by decide) (Nat.le_of_ble_eq_true rfl), lzC_s ez]; exact (lzM_s ez).symm, rfl⟩
      · refine g_bipush (v := -2) dX11_look_81 (by decide) ?_
        refine g_goto (tgt := 90) dX11_look_83 (by decide) ?_
        refine g_ireturn dX11_look_90 rfl ?_
        have ez := lzC_z b24 c78
        exact ⟨_, rfl, by rw [aLook, if_pos c8, nN_n (by omega), swA_n (by decide) (Nat.le_of_ble_eq_true rfl), ez]; rfl, rfl⟩
    · subst h9
      refine g_tableIn (off := 67) (tgt := 91) dX11_look_24 (by decide) (by decide) (by decide) (by decide) ?_
      refine gs_aload_n dX11_look_91 rfl rfl ?_
      refine g_getI dX11_look_92 fX11_188 (kPg hb h20) (by decide) (C_copies hR (by omega) (by omega)) ?_
      refine g_ireturn dX11_look_95 rfl ?_
      exact ⟨_, rfl, by rw [aLook, if_pos c8, nN_n (by omega), swA_n (by decide) (Nat.le_of_ble_eq_true rfl)] <;> rfl, rfl⟩
    · subst h9
      refine g_tableIn (off := 72) (tgt := 96) dX11_look_24 (by decide) (by decide) (by decide) (by decide) ?_
      refine gs_aload_n dX11_look_96 rfl rfl ?_
      refine g_getI dX11_look_97 fX11_191 (kPg hb h20) (by decide) (C_hidden hR (by omega) (by omega)) ?_
      refine gn_if_eq (tgt := 107) dX11_look_100 (by decide) (by omega) (fun c100 => ?_) (fun c100 => ?_)
      · refine g_iconst (v := nI 0) dX11_look_107 (by decide) ?_
        refine g_ireturn dX11_look_108 rfl ?_
        exact ⟨_, rfl, by rw [aLook, if_pos c8, nN_n (by omega), swA_n (by decide) (Nat.le_of_ble_eq_true rfl)]; show _ = nI (S.1 26 p); rw [show S.1 26 p = 0 from by omega], rfl⟩
      · refine g_iconst (v := nI 1) dX11_look_103 (by decide) ?_
        refine g_goto (tgt := 108) dX11_look_104 (by decide) ?_
        refine g_ireturn dX11_look_108 rfl ?_
        exact ⟨_, rfl, by rw [aLook, if_pos c8, nN_n (by omega), swA_n (by decide) (Nat.le_of_ble_eq_true rfl)]; show _ = nI (S.1 26 p); rw [show S.1 26 p = 1 from by omega], rfl⟩
    · subst h9
      refine g_tableIn (off := 85) (tgt := 109) dX11_look_24 (by decide) (by decide) (by decide) (by decide) ?_
      refine gs_aload_n dX11_look_109 rfl rfl ?_
      refine g_getI dX11_look_110 fX11_194 (kPg hb h20) (by decide) (C_faultMany hR (by omega) (by omega)) ?_
      refine g_ireturn dX11_look_113 rfl ?_
      exact ⟨_, rfl, by rw [aLook, if_pos c8, nN_n (by omega), swA_n (by decide) (Nat.le_of_ble_eq_true rfl)] <;> rfl, rfl⟩
    · subst h9
      refine g_tableIn (off := 90) (tgt := 114) dX11_look_24 (by decide) (by decide) (by decide) (by decide) ?_
      refine gs_aload_n dX11_look_114 rfl rfl ?_
      refine g_getI dX11_look_115 fX11_197 (kPg hb h20) (by decide) (CV_moved hR (by omega) (by omega)) ?_
      refine g_ireturn dX11_look_118 rfl ?_
      exact ⟨_, rfl, by rw [aLook, if_pos c8, nN_n (by omega), swA_n (by decide) (Nat.le_of_ble_eq_true rfl)] <;> rfl, rfl⟩
    · subst h9
      refine g_tableIn (off := 95) (tgt := 119) dX11_look_24 (by decide) (by decide) (by decide) (by decide) ?_
      refine gs_aload_n dX11_look_119 rfl rfl ?_
      refine g_getI dX11_look_120 fX11_200 (kPg hb h20) (by decide) (CV_pageBill hR (by omega) (by omega)) ?_
      refine g_ireturn dX11_look_123 rfl ?_
      exact ⟨_, rfl, by rw [aLook, if_pos c8, nN_n (by omega), swA_n (by decide) (Nat.le_of_ble_eq_true rfl)] <;> rfl, rfl⟩
    · refine g_tableOut (tgt := 124) dX11_look_24 h9 (by decide) ?_
      refine g_iconst (v := -1) dX11_look_124 (by decide) ?_
      refine g_ireturn dX11_look_125 rfl ?_
      exact ⟨_, rfl, by rw [aLook, if_pos c8, nN_n (by omega), swA_o h9 rfl], rfl⟩
  · refine g_iconst (v := -1) dX11_look_11 (by decide) ?_
    refine g_ireturn dX11_look_12 rfl ?_
    exact ⟨_, rfl, by rw [aLook, if_neg (nbf c8)], rfl⟩
theorem n_look {σ : Mm} {S : Sx} {H : Hx} (hJ : MI_ σ S H) (hPI : PI S) (x y : Int32) : RI W0 mX12_look [.ref 258, .int x, .int y] σ (fun r τ => r = aLook S x y ∧ MJ σ S H τ) := by
  have hB : Bd S := hPI.1.1.1.1
  have b0 := B_nodes hB 0
  have bP := B_P hB 0
  have bT := B_T hB 0
  refine G.met (by decide) (Nat.le_of_ble_eq_true rfl) ?_
  show G _ _ _ 0 [some (.ref 258), some (.int x), some (.int y)] [] σ
  refine gs_aload_n dX12_look_0 rfl rfl ?_
  refine g_iconst (v := nI 0) dX12_look_1 (by decide) ?_
  refine gp_putI dX12_look_2 pX12_194 kwM (by decide) (Or.inl rfl) ((MJ.rf hJ).off off0 (by decide)) (fun σ hQ => ?_)
  have hM := hQ.1.1
  have hC0 := hQ.1.2.1
  refine gs_aload_n dX12_look_5 rfl rfl ?_
  refine gs_iload_n dX12_look_6 rfl rfl ?_
  refine g_cVI1 dX12_look_7 vX12_253 (by decide) kwM (by decide) (Nat.le_of_ble_eq_true rfl) (s_isPage (M_P hM) (by omega) _) ?_
  rintro _ σ ⟨rfl, e9⟩
  subst e9
  refine gb_if_ne (tgt := 15) dX12_look_10 (by decide) (fun c10 => ?_) (fun c10 => ?_)
  · obtain ⟨p, hp, rfl⟩ := inN_of c10 (by omega)
    have h20 : p < 20 := by omega
    have b24 := B_lies hB p
    have b26 := B_hidden hB p
    refine gs_iload_n dX12_look_15 rfl rfl ?_
    rcases sw7 y with h9 | h9 | h9 | h9 | h9 | h9 | h9 | h9
    · subst h9
      refine g_tableIn (off := 44) (tgt := 60) dX12_look_16 (by decide) (by decide) (by decide) (by decide) ?_
      refine gs_aload_n dX12_look_60 rfl rfl ?_
      refine g_getR dX12_look_61 fX12_19 kwM (by decide) rM_kind ?_
      refine gs_iload_n dX12_look_64 rfl rfl ?_
      refine g_iald dX12_look_65 kw_kind (by omega) (M_kind hM (by omega)) ?_
      refine g_ireturn dX12_look_66 rfl ?_
      exact ⟨_, rfl, by rw [aLook, if_pos c10, nN_n (by omega), swA_n (by decide) (Nat.le_of_ble_eq_true rfl)] <;> rfl, hQ⟩
    · subst h9
      refine g_tableIn (off := 51) (tgt := 67) dX12_look_16 (by decide) (by decide) (by decide) (by decide) ?_
      refine gs_aload_n dX12_look_67 rfl rfl ?_
      refine g_getR dX12_look_68 fX12_79 kwM (by decide) rM_lies ?_
      refine gs_iload_n dX12_look_71 rfl rfl ?_
      refine g_iald dX12_look_72 kw_lies (by omega) (M0_lies hM (by omega)) ?_
      refine g_ireturn dX12_look_73 rfl ?_
      exact ⟨_, rfl, by rw [aLook, if_pos c10, nN_n (by omega), swA_n (by decide) (Nat.le_of_ble_eq_true rfl)] <;> rfl, hQ⟩
    · subst h9
      refine g_tableIn (off := 58) (tgt := 74) dX12_look_16 (by decide) (by decide) (by decide) (by decide) ?_
      refine gs_aload_n dX12_look_74 rfl rfl ?_
      refine g_getR dX12_look_75 fX12_82 kwM (by decide) rM_copies ?_
      refine gs_iload_n dX12_look_78 rfl rfl ?_
      refine g_iald dX12_look_79 kw_copies (by omega) (M0_copies hM (by omega)) ?_
      refine g_ireturn dX12_look_80 rfl ?_
      exact ⟨_, rfl, by rw [aLook, if_pos c10, nN_n (by omega), swA_n (by decide) (Nat.le_of_ble_eq_true rfl)] <;> rfl, hQ⟩
    · subst h9
      refine g_tableIn (off := 65) (tgt := 81) dX12_look_16 (by decide) (by decide) (by decide) (by decide) ?_
      refine gs_aload_n dX12_look_81 rfl rfl ?_
      refine g_getR dX12_look_82 fX12_85 kwM (by decide) rM_hidden ?_
      refine gs_iload_n dX12_look_85 rfl rfl ?_
      refine g_zald dX12_look_86 kw_hidden (by omega) (M0_hidden hM (by omega)) ?_
      refine gn_if_eq (tgt := 94) dX12_look_87 (by decide) (by omega) (fun c87 => ?_) (fun c87 => ?_)
      · refine g_iconst (v := nI 0) dX12_look_94 (by decide) ?_
        refine g_ireturn dX12_look_95 rfl ?_
        exact ⟨_, rfl, by rw [aLook, if_pos c10, nN_n (by omega), swA_n (by decide) (Nat.le_of_ble_eq_true rfl)]; show _ = nI (S.1 26 p); rw [show S.1 26 p = 0 from by omega], hQ⟩
      · refine g_iconst (v := nI 1) dX12_look_90 (by decide) ?_
        refine g_goto (tgt := 95) dX12_look_91 (by decide) ?_
        refine g_ireturn dX12_look_95 rfl ?_
        exact ⟨_, rfl, by rw [aLook, if_pos c10, nN_n (by omega), swA_n (by decide) (Nat.le_of_ble_eq_true rfl)]; show _ = nI (S.1 26 p); rw [show S.1 26 p = 1 from by omega], hQ⟩
    · subst h9
      refine g_tableIn (off := 80) (tgt := 96) dX12_look_16 (by decide) (by decide) (by decide) (by decide) ?_
      refine gs_aload_n dX12_look_96 rfl rfl ?_
      refine g_getR dX12_look_97 fX12_88 kwM (by decide) rM_faultMany ?_
      refine gs_iload_n dX12_look_100 rfl rfl ?_
      refine g_iald dX12_look_101 kw_faultMany (by omega) (M0_faultMany hM (by omega)) ?_
      refine g_ireturn dX12_look_102 rfl ?_
      exact ⟨_, rfl, by rw [aLook, if_pos c10, nN_n (by omega), swA_n (by decide) (Nat.le_of_ble_eq_true rfl)] <;> rfl, hQ⟩
    · subst h9
      refine g_tableIn (off := 87) (tgt := 103) dX12_look_16 (by decide) (by decide) (by decide) (by decide) ?_
      refine gs_aload_n dX12_look_103 rfl rfl ?_
      refine g_getR dX12_look_104 fX12_94 kwM (by decide) rM_moved ?_
      refine gs_iload_n dX12_look_107 rfl rfl ?_
      refine g_iald dX12_look_108 kw_moved (by omega) (M0_moved hM (by omega)) ?_
      refine g_ireturn dX12_look_109 rfl ?_
      exact ⟨_, rfl, by rw [aLook, if_pos c10, nN_n (by omega), swA_n (by decide) (Nat.le_of_ble_eq_true rfl)] <;> rfl, hQ⟩
    · subst h9
      refine g_tableIn (off := 94) (tgt := 110) dX12_look_16 (by decide) (by decide) (by decide) (by decide) ?_
      refine gs_aload_n dX12_look_110 rfl rfl ?_
      refine g_getR dX12_look_111 fX12_97 kwM (by decide) rM_pageBill ?_
      refine gs_iload_n dX12_look_114 rfl rfl ?_
      refine g_lald dX12_look_115 kw_pageBill (by omega) rfl ?_
      refine g_l2i dX12_look_116 (M0_pageBill hM (by omega)) ?_
      refine g_ireturn dX12_look_117 rfl ?_
      exact ⟨_, rfl, by rw [aLook, if_pos c10, nN_n (by omega), swA_n (by decide) (Nat.le_of_ble_eq_true rfl)] <;> rfl, hQ⟩
    · refine g_tableOut (tgt := 118) dX12_look_16 h9 (by decide) ?_
      refine g_iconst (v := -1) dX12_look_118 (by decide) ?_
      refine g_ireturn dX12_look_119 rfl ?_
      exact ⟨_, rfl, by rw [aLook, if_pos c10, nN_n (by omega), swA_o h9 rfl], hQ⟩
  · refine g_iconst (v := -1) dX12_look_13 (by decide) ?_
    refine g_ireturn dX12_look_14 rfl ?_
    exact ⟨_, rfl, by rw [aLook, if_neg (nbf c10)], hQ⟩
def aFault (S : Sx) (x y : Int32) : Int32 := if (inN x (S.1 7 0) && inN y (S.1 27 (nN x))) = true then nI (S.1 28 (4 * nN x + (S.1 27 (nN x) - 1 - nN y))) else -1
theorem c_withinN {Ω : Nat × Nat} {σ : Mm} {x : Int32} {n : Nat} (h : n ≤ 300) : RI Ω mX11_within [.int x, .int (nI 0), .int (nI n - nI 1)] σ (fun r τ => r = bI (inN x n) ∧ τ = σ) := by
  have q := s_within (Ω := Ω) (σ := σ) x (nI 0) (nI n - nI 1)
  rw [within_n h] at q
  exact q
theorem a_fault {σ : Mm} {S : Sx} {H : Hx} (hJ : CI σ S H) (hPI : PI S) (x y : Int32) : RI W0 mX11_fault [.ref 0, .int x, .int y] σ (fun r τ => r = aFault S x y ∧ τ = σ) := by
  have hJ0 := hJ
  obtain ⟨⟨Tf, hR, hTk⟩, hSh, hTr1, hTr2⟩ := hJ
  have hb : mch 57 := Or.inl rfl
  have hB : Bd S := hPI.1.1.1.1
  have b0 := B_nodes hB 0
  have bP := B_P hB 0
  have bT := B_T hB 0
  refine G.met (by decide) (Nat.le_of_ble_eq_true rfl) ?_
  show G _ _ _ 0 [some (.ref 0), some (.int x), some (.int y), none] [] σ
  refine gs_aload_n dX11_fault_0 rfl rfl ?_
  refine g_getR dX11_fault_1 fX11_32 kFC (by decide) rFC_machine ?_
  refine gs_iload_n dX11_fault_4 rfl rfl ?_
  refine g_cVI1 dX11_fault_5 vX11_138 (by decide) (kMa hb) (by decide) (Nat.le_of_ble_eq_true rfl) (c_hasPage hb hR hB _) ?_
  rintro _ σ ⟨rfl, e9⟩
  subst e9
  refine gb_if_ne (tgt := 13) dX11_fault_8 (by decide) (fun c8 => ?_) (fun c8 => ?_)
  · obtain ⟨p, hp, rfl⟩ := inN_of c8 (by omega)
    have h20 : p < 20 := by omega
    have b27 := B_faultMany hB p
    refine gs_aload_n dX11_fault_13 rfl rfl ?_
    refine g_getR dX11_fault_14 fX11_32 kFC (by decide) rFC_machine ?_
    refine g_getR dX11_fault_17 fX11_141 (kMa hb) (by decide) (rMa_pages hb) ?_
    refine gs_iload_n dX11_fault_20 rfl rfl ?_
    refine g_aald24 dX11_fault_21 (kMa_pages hb) h20 (rPs hb h20) ?_
    refine gs_astore_n (ls' := [_, _, _, _]) dX11_fault_22 rfl rfl rfl ?_
    refine gs_iload_n dX11_fault_23 rfl rfl ?_
    refine g_iconst (v := nI 0) dX11_fault_24 (by decide) ?_
    refine gs_aload_n dX11_fault_25 rfl rfl ?_
    refine g_getI dX11_fault_26 fX11_194 (kPg hb h20) (by decide) (C_faultMany hR (by omega) (by omega)) ?_
    refine g_iconst (v := nI 1) dX11_fault_29 (by decide) ?_
    refine g_isub dX11_fault_30 rfl ?_
    refine g_cSI3 dX11_fault_31 vX11_50 (by decide) (Nat.le_of_ble_eq_true rfl) (c_withinN (by omega)) ?_
    rintro _ σ ⟨rfl, e9⟩
    subst e9
    refine gb_if_eq (tgt := 46) dX11_fault_34 (by decide) (fun c34 => ?_) (fun c34 => ?_)
    · refine g_iconst (v := -1) dX11_fault_46 (by decide) ?_
      refine g_ireturn dX11_fault_47 rfl ?_
      exact ⟨_, rfl, by rw [aFault, if_neg (nb2 (nbf (by rw [nN_n (by omega)]; exact c34)))], rfl⟩
    · obtain ⟨i, hi, rfl⟩ := inN_of c34 (by omega)
      refine gs_aload_n dX11_fault_37 rfl rfl ?_
      refine g_getR dX11_fault_38 fX11_203 (kPg hb h20) (by decide) (rPg_faults hb h20) ?_
      refine gs_iload_n dX11_fault_41 rfl rfl ?_
      refine g_iald dX11_fault_42 (kPg_faults hb h20) (by omega) (hR.2.2.1 p i hp hi) ?_
      refine g_goto (tgt := 47) dX11_fault_43 (by decide) ?_
      refine g_ireturn dX11_fault_47 rfl ?_
      exact ⟨_, rfl, by rw [aFault, if_pos (yb c8 (by rw [nN_n (by omega)]; exact c34)), nN_n (by omega), nN_n (by omega)], rfl⟩
  · refine g_iconst (v := -1) dX11_fault_11 (by decide) ?_
    refine g_ireturn dX11_fault_12 rfl ?_
    exact ⟨_, rfl, by rw [aFault, if_neg (nb1 c8)], rfl⟩
theorem n_fault {σ : Mm} {S : Sx} {H : Hx} (hJ : MI_ σ S H) (hPI : PI S) (x y : Int32) : RI W0 mX12_fault [.ref 258, .int x, .int y] σ (fun r τ => r = aFault S x y ∧ MJ σ S H τ) := by
  have hB : Bd S := hPI.1.1.1.1
  have b0 := B_nodes hB 0
  have bP := B_P hB 0
  have bT := B_T hB 0
  refine G.met (by decide) (Nat.le_of_ble_eq_true rfl) ?_
  show G _ _ _ 0 [some (.ref 258), some (.int x), some (.int y)] [] σ
  refine gs_aload_n dX12_fault_0 rfl rfl ?_
  refine g_iconst (v := nI 0) dX12_fault_1 (by decide) ?_
  refine gp_putI dX12_fault_2 pX12_194 kwM (by decide) (Or.inl rfl) ((MJ.rf hJ).off off0 (by decide)) (fun σ hQ => ?_)
  have hM := hQ.1.1
  have hC0 := hQ.1.2.1
  refine gs_aload_n dX12_fault_5 rfl rfl ?_
  refine gs_iload_n dX12_fault_6 rfl rfl ?_
  refine g_cVI1 dX12_fault_7 vX12_253 (by decide) kwM (by decide) (Nat.le_of_ble_eq_true rfl) (s_isPage (M_P hM) (by omega) _) ?_
  rintro _ σ ⟨rfl, e9⟩
  subst e9
  refine gb_if_eq (tgt := 27) dX12_fault_10 (by decide) (fun c10 => ?_) (fun c10 => ?_)
  · refine g_iconst (v := -1) dX12_fault_27 (by decide) ?_
    refine g_goto (tgt := 50) dX12_fault_28 (by decide) ?_
    refine g_ireturn dX12_fault_50 rfl ?_
    exact ⟨_, rfl, by rw [aFault, if_neg (nb1 c10)], hQ⟩
  · obtain ⟨p, hp, rfl⟩ := inN_of c10 (by omega)
    have h20 : p < 20 := by omega
    have b27 := B_faultMany hB p
    refine gs_iload_n dX12_fault_13 rfl rfl ?_
    refine g_if_lt (tgt := 27) dX12_fault_14 (by decide) (fun c14 => ?_) (fun c14 => ?_)
    · refine g_iconst (v := -1) dX12_fault_27 (by decide) ?_
      refine g_goto (tgt := 50) dX12_fault_28 (by decide) ?_
      refine g_ireturn dX12_fault_50 rfl ?_
      exact ⟨_, rfl, by rw [aFault, if_neg (nb2 (nbf (inN_lt c14)))], hQ⟩
    · refine gs_iload_n dX12_fault_17 rfl rfl ?_
      refine gs_aload_n dX12_fault_18 rfl rfl ?_
      refine g_getR dX12_fault_19 fX12_88 kwM (by decide) rM_faultMany ?_
      refine gs_iload_n dX12_fault_22 rfl rfl ?_
      refine g_iald dX12_fault_23 kw_faultMany (by omega) (M0_faultMany hM h20) ?_
      refine g_icmp_lt (tgt := 31) dX12_fault_24 (by decide) (fun c24 => ?_) (fun c24 => ?_)
      · have c9 : inN y (S.1 27 p) = true := inN_t (by omega) c14 (fun z => absurd c24 (Int32.not_lt.mpr z))
        obtain ⟨i, hi, rfl⟩ := inN_of c9 (by omega)
        refine gs_aload_n dX12_fault_31 rfl rfl ?_
        refine g_getR dX12_fault_32 fX12_91 kwM (by decide) rM_faultNode ?_
        refine g_iconst (v := nI 4) dX12_fault_35 (by decide) ?_
        refine gs_iload_n dX12_fault_36 rfl rfl ?_
        refine g_imul dX12_fault_37 (by first | exact pk_mul _ _ | rfl) ?_
        refine gs_aload_n dX12_fault_38 rfl rfl ?_
        refine g_getR dX12_fault_39 fX12_88 kwM (by decide) rM_faultMany ?_
        refine gs_iload_n dX12_fault_42 rfl rfl ?_
        refine g_iald dX12_fault_43 kw_faultMany (by omega) (M0_faultMany hM h20) ?_
        refine g_iadd dX12_fault_44 (by first | exact nI_add _ _ | rfl) ?_
        refine g_iconst (v := nI 1) dX12_fault_45 (by decide) ?_
        refine g_isub dX12_fault_46 (pk_sub (by omega)) ?_
        refine gs_iload_n dX12_fault_47 rfl rfl ?_
        refine g_isub dX12_fault_48 (pk_sub (by omega)) ?_
        refine g_iald dX12_fault_49 kw_faultNode (by omega) (M0_faultNode hM (by omega)) ?_
        refine g_ireturn dX12_fault_50 rfl ?_
        exact ⟨_, rfl, by rw [aFault, if_pos (yb c10 (by rw [nN_n (by omega)]; exact c9)), nN_n (by omega), nN_n (by omega), show 4 * p + (S.1 27 p - 1 - i) = 4 * p + S.1 27 p - 1 - i from by omega], hQ⟩
      · refine g_iconst (v := -1) dX12_fault_27 (by decide) ?_
        refine g_goto (tgt := 50) dX12_fault_28 (by decide) ?_
        refine g_ireturn dX12_fault_50 rfl ?_
        exact ⟨_, rfl, by rw [aFault, if_neg (nb2 (nbf (by rw [nN_n (by omega)]; exact inN_ge (by omega) (Int32.not_lt.mp c24))))], hQ⟩
