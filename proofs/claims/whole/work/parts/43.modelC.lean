/-! The reference: hasRoom, allHaveRoom, emptiest. -/
def hrS (S : Sx) (a : Nat) : Bool := decide (tk S a (S.1 7 0) < S.1 2 0)
def arS (S : Sx) : Nat → Bool
  | 0 => true
  | a + 1 => arS S a && hrS S a
def emS (S : Sx) : Nat → Nat
  | 0 => 0
  | k + 1 => if tk S (k + 1) (S.1 7 0) < tk S (emS S k) (S.1 7 0) then k + 1 else emS S k
theorem emS_le (S : Sx) (k : Nat) : emS S k ≤ k := by
  induction k with
  | zero => exact Nat.le_refl _
  | succ k ih =>
    simp only [emS]
    split <;> omega

theorem s_hasRoom {w : Nat} {σ : Mm} {S : Sx} (hM : RepM w σ S) (hB : Bd S) (hC0 : hC w σ) {a : Nat} (ha : a < 4) : RI W0 mX12_hasRoom [.ref 258, .int (nI a)] σ (fun r τ => r = bI (hrS S a) ∧ τ = σ) := by
  have b0 := B_P hB 0
  have b1 := tk_le S a (S.1 7 0)
  have b2 := B_room hB 0
  refine G.met (by decide) (Nat.le_of_ble_eq_true rfl) ?_
  show G _ _ _ 0 [some (.ref 258), some (.int (nI a))] [] σ
  refine gs_aload_n dX12_hasRoom_0 rfl rfl ?_
  refine gs_iload_n dX12_hasRoom_1 rfl rfl ?_
  refine g_cVI1 dX12_hasRoom_2 vX12_246 (by decide) kwM (by decide) (Nat.le_of_ble_eq_true rfl) (s_taken hM hB hC0 ha) ?_
  rintro _ _ ⟨rfl, rfl⟩
  refine gs_aload_n dX12_hasRoom_5 rfl rfl ?_
  refine g_getI dX12_hasRoom_6 fX12_188 kwM (by decide) (M_room hM) ?_
  refine gn_icmp_ge (tgt := 16) dX12_hasRoom_9 (by decide) (by omega) (by omega) (fun c9 => ?_) (fun c9 => ?_)
  · refine g_iconst (v := nI 0) dX12_hasRoom_16 (by decide) ?_
    refine g_zreturn dX12_hasRoom_17 rfl (by first | exact bI_01 _ | decide) ?_
    exact ⟨_, rfl, by simp only [hrS, decide_eq_false (Nat.not_lt.mpr c9)]; rfl, rfl⟩
  · refine g_iconst (v := nI 1) dX12_hasRoom_12 (by decide) ?_
    refine g_goto (tgt := 17) dX12_hasRoom_13 (by decide) ?_
    refine g_zreturn dX12_hasRoom_17 rfl (by first | exact bI_01 _ | decide) ?_
    exact ⟨_, rfl, by simp only [hrS, decide_eq_true c9]; rfl, rfl⟩
theorem l_allHaveRoom {w : Nat} {σ : Mm} {S : Sx} {K : Option Value → Mm → Prop} (hM : RepM w σ S) (hB : Bd S) (hC0 : hC w σ) (hK : K (some (.int (bI (arS S (S.1 0 0))))) σ) : ∀ k a, a + k = S.1 0 0 → G W0 mX12_allHaveRoom K 4 [some (.ref 258), some (.int (bI (arS S a))), some (.int (nI a))] [] σ := by
  intro k
  induction k with
  | zero =>
    intro a ha
    have b0 := B_nodes hB 0
    refine gs_iload_n dX12_allHaveRoom_4 rfl rfl ?_
    refine gs_aload_n dX12_allHaveRoom_5 rfl rfl ?_
    refine g_getI dX12_allHaveRoom_6 fX12_182 kwM (by decide) (M_nodes hM) ?_
    refine gt_icmp_ge (tgt := 36) dX12_allHaveRoom_9 (by decide) (by omega) (by omega) (by omega) ?_
    refine gs_iload_n dX12_allHaveRoom_36 rfl rfl ?_
    refine g_zreturn dX12_allHaveRoom_37 rfl (by first | exact bI_01 _ | decide) ?_
    have e : a = S.1 0 0 := by omega
    subst e
    exact hK
  | succ k ih =>
    intro a ha
    have b0 := B_nodes hB 0
    refine gs_iload_n dX12_allHaveRoom_4 rfl rfl ?_
    refine gs_aload_n dX12_allHaveRoom_5 rfl rfl ?_
    refine g_getI dX12_allHaveRoom_6 fX12_182 kwM (by decide) (M_nodes hM) ?_
    refine gf_icmp_ge (tgt := 36) dX12_allHaveRoom_9 (by decide) (by omega) (by omega) (by omega) ?_
    refine gs_iload_n dX12_allHaveRoom_12 rfl rfl ?_
    refine gb_if_eq (tgt := 28) dX12_allHaveRoom_13 (by decide) (fun c13 => ?_) (fun c13 => ?_)
    · refine g_iconst (v := nI 0) dX12_allHaveRoom_28 (by decide) ?_
      refine gs_istore_n (ls' := [_, _, _]) dX12_allHaveRoom_29 rfl rfl rfl ?_
      refine gs_iinc (ls' := [_, _, _]) dX12_allHaveRoom_30 rfl (nI_add _ 1) rfl rfl ?_
      refine g_goto (tgt := 4) dX12_allHaveRoom_33 (by decide) ?_
      have q := ih (a + 1) (by omega)
      rw [show arS S (a + 1) = false from by simp [arS, c13]] at q
      exact q
    · refine gs_aload_n dX12_allHaveRoom_16 rfl rfl ?_
      refine gs_iload_n dX12_allHaveRoom_17 rfl rfl ?_
      refine g_cVI1 dX12_allHaveRoom_18 vX12_250 (by decide) kwM (by decide) (Nat.le_of_ble_eq_true rfl) (s_hasRoom hM hB hC0 (by omega)) ?_
      rintro _ _ ⟨rfl, rfl⟩
      refine gb_if_eq (tgt := 28) dX12_allHaveRoom_21 (by decide) (fun c21 => ?_) (fun c21 => ?_)
      · refine g_iconst (v := nI 0) dX12_allHaveRoom_28 (by decide) ?_
        refine gs_istore_n (ls' := [_, _, _]) dX12_allHaveRoom_29 rfl rfl rfl ?_
        refine gs_iinc (ls' := [_, _, _]) dX12_allHaveRoom_30 rfl (nI_add _ 1) rfl rfl ?_
        refine g_goto (tgt := 4) dX12_allHaveRoom_33 (by decide) ?_
        have q := ih (a + 1) (by omega)
        rw [show arS S (a + 1) = false from by simp [arS, c21]] at q
        exact q
      · refine g_iconst (v := nI 1) dX12_allHaveRoom_24 (by decide) ?_
        refine g_goto (tgt := 29) dX12_allHaveRoom_25 (by decide) ?_
        refine gs_istore_n (ls' := [_, _, _]) dX12_allHaveRoom_29 rfl rfl rfl ?_
        refine gs_iinc (ls' := [_, _, _]) dX12_allHaveRoom_30 rfl (nI_add _ 1) rfl rfl ?_
        refine g_goto (tgt := 4) dX12_allHaveRoom_33 (by decide) ?_
        have q := ih (a + 1) (by omega)
        rw [show arS S (a + 1) = true from by simp [arS, c13, c21]] at q
        exact q
theorem s_allHaveRoom {w : Nat} {σ : Mm} {S : Sx} (hM : RepM w σ S) (hB : Bd S) (hC0 : hC w σ) : RI W0 mX12_allHaveRoom [.ref 258] σ (fun r τ => r = bI (arS S (S.1 0 0)) ∧ τ = σ) := by
  refine G.met (by decide) (Nat.le_of_ble_eq_true rfl) ?_
  show G _ _ _ 0 [some (.ref 258), none, none] [] σ
  refine g_iconst (v := nI 1) dX12_allHaveRoom_0 (by decide) ?_
  refine gs_istore_n (ls' := [_, _, _]) dX12_allHaveRoom_1 rfl rfl rfl ?_
  refine g_iconst (v := nI 0) dX12_allHaveRoom_2 (by decide) ?_
  refine gs_istore_n (ls' := [_, _, _]) dX12_allHaveRoom_3 rfl rfl rfl ?_
  exact l_allHaveRoom hM hB hC0 ⟨_, rfl, rfl, rfl⟩ (S.1 0 0) 0 (by omega)
theorem l_emptiest {w : Nat} {σ : Mm} {S : Sx} {K : Option Value → Mm → Prop} (hM : RepM w σ S) (hB : Bd S) (hC0 : hC w σ) (hK : K (some (.int (nI (emS S (S.1 0 0 - 1))))) σ) : ∀ k a, a + k = S.1 0 0 - 1 → G W0 mX12_emptiest K 4 [some (.ref 258), some (.int (nI (emS S a))), some (.int (nI (a + 1)))] [] σ := by
  intro k
  induction k with
  | zero =>
    intro a ha
    have b0 := B_nodes hB 0
    have b1 := emS_le S a
    have b2 := tk_le S (a + 1) (S.1 7 0)
    have b3 := tk_le S (emS S a) (S.1 7 0)
    have b4 := B_P hB 0
    refine gs_iload_n dX12_emptiest_4 rfl rfl ?_
    refine gs_aload_n dX12_emptiest_5 rfl rfl ?_
    refine g_getI dX12_emptiest_6 fX12_182 kwM (by decide) (M_nodes hM) ?_
    refine gt_icmp_ge (tgt := 37) dX12_emptiest_9 (by decide) (by omega) (by omega) (by omega) ?_
    refine gs_iload_n dX12_emptiest_37 rfl rfl ?_
    refine g_ireturn dX12_emptiest_38 rfl ?_
    have e : a = S.1 0 0 - 1 := by omega
    subst e
    exact hK
  | succ k ih =>
    intro a ha
    have b0 := B_nodes hB 0
    have b1 := emS_le S a
    have b2 := tk_le S (a + 1) (S.1 7 0)
    have b3 := tk_le S (emS S a) (S.1 7 0)
    have b4 := B_P hB 0
    refine gs_iload_n dX12_emptiest_4 rfl rfl ?_
    refine gs_aload_n dX12_emptiest_5 rfl rfl ?_
    refine g_getI dX12_emptiest_6 fX12_182 kwM (by decide) (M_nodes hM) ?_
    refine gf_icmp_ge (tgt := 37) dX12_emptiest_9 (by decide) (by omega) (by omega) (by omega) ?_
    refine gs_aload_n dX12_emptiest_12 rfl rfl ?_
    refine gs_iload_n dX12_emptiest_13 rfl rfl ?_
    refine g_cVI1 dX12_emptiest_14 vX12_246 (by decide) kwM (by decide) (Nat.le_of_ble_eq_true rfl) (s_taken hM hB hC0 (by omega)) ?_
    rintro _ _ ⟨rfl, rfl⟩
    refine gs_aload_n dX12_emptiest_17 rfl rfl ?_
    refine gs_iload_n dX12_emptiest_18 rfl rfl ?_
    refine g_cVI1 dX12_emptiest_19 vX12_246 (by decide) kwM (by decide) (Nat.le_of_ble_eq_true rfl) (s_taken hM hB hC0 (by omega)) ?_
    rintro _ _ ⟨rfl, rfl⟩
    refine gn_icmp_ge (tgt := 29) dX12_emptiest_22 (by decide) (by omega) (by omega) (fun c22 => ?_) (fun c22 => ?_)
    · refine gs_iload_n dX12_emptiest_29 rfl rfl ?_
      refine gs_istore_n (ls' := [_, _, _]) dX12_emptiest_30 rfl rfl rfl ?_
      refine gs_iinc (ls' := [_, _, _]) dX12_emptiest_31 rfl (nI_add _ 1) rfl rfl ?_
      refine g_goto (tgt := 4) dX12_emptiest_34 (by decide) ?_
      have q := ih (a + 1) (by omega)
      rw [show emS S (a + 1) = emS S a from by simp only [emS]; rw [if_neg (by omega)]] at q
      exact q
    · refine gs_iload_n dX12_emptiest_25 rfl rfl ?_
      refine g_goto (tgt := 30) dX12_emptiest_26 (by decide) ?_
      refine gs_istore_n (ls' := [_, _, _]) dX12_emptiest_30 rfl rfl rfl ?_
      refine gs_iinc (ls' := [_, _, _]) dX12_emptiest_31 rfl (nI_add _ 1) rfl rfl ?_
      refine g_goto (tgt := 4) dX12_emptiest_34 (by decide) ?_
      have q := ih (a + 1) (by omega)
      rw [show emS S (a + 1) = a + 1 from by simp only [emS]; rw [if_pos (by omega)]] at q
      exact q
theorem s_emptiest {w : Nat} {σ : Mm} {S : Sx} (hM : RepM w σ S) (hB : Bd S) (hC0 : hC w σ) (hn : 2 ≤ S.1 0 0) : RI W0 mX12_emptiest [.ref 258] σ (fun r τ => r = nI (emS S (S.1 0 0 - 1)) ∧ τ = σ) := by
  refine G.met (by decide) (Nat.le_of_ble_eq_true rfl) ?_
  show G _ _ _ 0 [some (.ref 258), none, none] [] σ
  refine g_iconst (v := nI 0) dX12_emptiest_0 (by decide) ?_
  refine gs_istore_n (ls' := [_, _, _]) dX12_emptiest_1 rfl rfl rfl ?_
  refine g_iconst (v := nI 1) dX12_emptiest_2 (by decide) ?_
  refine gs_istore_n (ls' := [_, _, _]) dX12_emptiest_3 rfl rfl rfl ?_
  exact l_emptiest hM hB hC0 ⟨_, rfl, rfl, rfl⟩ (S.1 0 0 - 1) 0 (by omega)
