/-! The reference: small methods. -/
def inN (x : Int32) (n : Nat) : Bool := decide (0 ≤ x.toInt ∧ x.toInt < (n : Int))
theorem inN_nI {a n : Nat} (h : a < 2 ^ 31) : inN (nI a) n = decide (a < n) := by
  unfold inN
  rw [nI_toInt h]
  by_cases hq : a < n
  · simp [hq]
  · simp [hq]
theorem inN_of {x : Int32} {n : Nat} (h : inN x n = true) (hn : n ≤ 2 ^ 31) : ∃ a : Nat, a < n ∧ x = nI a := by
  have h1 := of_decide_eq_true h
  refine ⟨x.toInt.toNat, by omega, ?_⟩
  apply Int32.toInt_inj.mp
  rw [nI_toInt (by omega)]
  omega
theorem inN_lt {x : Int32} {n : Nat} (h : x < 0) : inN x n = false := by
  have := Int32.lt_iff_toInt_lt.mp h
  simp only [inN, decide_eq_false_iff_not]
  intro q
  have h0 : (0 : Int32).toInt = 0 := rfl
  omega
theorem inN_ge {x : Int32} {n : Nat} (hn : n < 2 ^ 31) (h : nI n ≤ x) : inN x n = false := by
  have := Int32.le_iff_toInt_le.mp h
  rw [nI_toInt hn] at this
  simp only [inN, decide_eq_false_iff_not]
  intro q
  omega
theorem inN_t {x : Int32} {n : Nat} (hn : n < 2 ^ 31) (h : ¬ x < 0) (h2 : ¬ nI n ≤ x) : inN x n = true := by
  have h1 : ¬ x.toInt < 0 := fun q => h (Int32.lt_iff_toInt_lt.mpr q)
  have h3 : ¬ (n : Int) ≤ x.toInt := fun q => h2 (Int32.le_iff_toInt_le.mpr (by rw [nI_toInt hn]; exact q))
  simp only [inN, decide_eq_true_eq]
  omega

theorem s_isNode {σ : Mm} {n : Nat} (hn : σ.1 258 1 = nI n) (hb : n < 2 ^ 31) (x : Int32) : RI W0 mX12_isNode [.ref 258, .int x] σ (fun r τ => r = bI (inN x n) ∧ τ = σ) := by
  refine G.met (by decide) (Nat.le_of_ble_eq_true rfl) ?_
  show G _ _ _ 0 [some (.ref 258), some (.int x)] [] σ
  refine gs_iload_n dX12_isNode_0 rfl rfl ?_
  refine g_if_lt (tgt := 16) dX12_isNode_1 (by decide) (fun c1 => ?_) (fun c1 => ?_)
  · refine g_iconst (v := nI 0) dX12_isNode_16 (by decide) ?_
    refine g_zreturn dX12_isNode_17 rfl (by first | exact bI_01 _ | decide) ?_
    exact ⟨_, rfl, by rw [inN_lt c1]; rfl, rfl⟩
  · refine gs_iload_n dX12_isNode_4 rfl rfl ?_
    refine gs_aload_n dX12_isNode_5 rfl rfl ?_
    refine g_getI dX12_isNode_6 fX12_182 kwM (by decide) hn ?_
    refine g_icmp_ge (tgt := 16) dX12_isNode_9 (by decide) (fun c2 => ?_) (fun c2 => ?_)
    · refine g_iconst (v := nI 0) dX12_isNode_16 (by decide) ?_
      refine g_zreturn dX12_isNode_17 rfl (by first | exact bI_01 _ | decide) ?_
      exact ⟨_, rfl, by rw [inN_ge hb c2]; rfl, rfl⟩
    · refine g_iconst (v := nI 1) dX12_isNode_12 (by decide) ?_
      refine g_goto (tgt := 17) dX12_isNode_13 (by decide) ?_
      refine g_zreturn dX12_isNode_17 rfl (by first | exact bI_01 _ | decide) ?_
      exact ⟨_, rfl, by rw [inN_t hb c1 c2]; rfl, rfl⟩
theorem s_isPage {σ : Mm} {n : Nat} (hn : σ.1 258 7 = nI n) (hb : n < 2 ^ 31) (x : Int32) : RI W0 mX12_isPage [.ref 258, .int x] σ (fun r τ => r = bI (inN x n) ∧ τ = σ) := by
  refine G.met (by decide) (Nat.le_of_ble_eq_true rfl) ?_
  show G _ _ _ 0 [some (.ref 258), some (.int x)] [] σ
  refine gs_iload_n dX12_isPage_0 rfl rfl ?_
  refine g_if_lt (tgt := 16) dX12_isPage_1 (by decide) (fun c1 => ?_) (fun c1 => ?_)
  · refine g_iconst (v := nI 0) dX12_isPage_16 (by decide) ?_
    refine g_zreturn dX12_isPage_17 rfl (by first | exact bI_01 _ | decide) ?_
    exact ⟨_, rfl, by rw [inN_lt c1]; rfl, rfl⟩
  · refine gs_iload_n dX12_isPage_4 rfl rfl ?_
    refine gs_aload_n dX12_isPage_5 rfl rfl ?_
    refine g_getI dX12_isPage_6 fX12_197 kwM (by decide) hn ?_
    refine g_icmp_ge (tgt := 16) dX12_isPage_9 (by decide) (fun c2 => ?_) (fun c2 => ?_)
    · refine g_iconst (v := nI 0) dX12_isPage_16 (by decide) ?_
      refine g_zreturn dX12_isPage_17 rfl (by first | exact bI_01 _ | decide) ?_
      exact ⟨_, rfl, by rw [inN_ge hb c2]; rfl, rfl⟩
    · refine g_iconst (v := nI 1) dX12_isPage_12 (by decide) ?_
      refine g_goto (tgt := 17) dX12_isPage_13 (by decide) ?_
      refine g_zreturn dX12_isPage_17 rfl (by first | exact bI_01 _ | decide) ?_
      exact ⟨_, rfl, by rw [inN_t hb c1 c2]; rfl, rfl⟩
theorem s_isThread {σ : Mm} {n : Nat} (hn : σ.1 258 9 = nI n) (hb : n < 2 ^ 31) (x : Int32) : RI W0 mX12_isThread [.ref 258, .int x] σ (fun r τ => r = bI (inN x n) ∧ τ = σ) := by
  refine G.met (by decide) (Nat.le_of_ble_eq_true rfl) ?_
  show G _ _ _ 0 [some (.ref 258), some (.int x)] [] σ
  refine gs_iload_n dX12_isThread_0 rfl rfl ?_
  refine g_if_lt (tgt := 16) dX12_isThread_1 (by decide) (fun c1 => ?_) (fun c1 => ?_)
  · refine g_iconst (v := nI 0) dX12_isThread_16 (by decide) ?_
    refine g_zreturn dX12_isThread_17 rfl (by first | exact bI_01 _ | decide) ?_
    exact ⟨_, rfl, by rw [inN_lt c1]; rfl, rfl⟩
  · refine gs_iload_n dX12_isThread_4 rfl rfl ?_
    refine gs_aload_n dX12_isThread_5 rfl rfl ?_
    refine g_getI dX12_isThread_6 fX12_200 kwM (by decide) hn ?_
    refine g_icmp_ge (tgt := 16) dX12_isThread_9 (by decide) (fun c2 => ?_) (fun c2 => ?_)
    · refine g_iconst (v := nI 0) dX12_isThread_16 (by decide) ?_
      refine g_zreturn dX12_isThread_17 rfl (by first | exact bI_01 _ | decide) ?_
      exact ⟨_, rfl, by rw [inN_ge hb c2]; rfl, rfl⟩
    · refine g_iconst (v := nI 1) dX12_isThread_12 (by decide) ?_
      refine g_goto (tgt := 17) dX12_isThread_13 (by decide) ?_
      refine g_zreturn dX12_isThread_17 rfl (by first | exact bI_01 _ | decide) ?_
      exact ⟨_, rfl, by rw [inN_t hb c1 c2]; rfl, rfl⟩
