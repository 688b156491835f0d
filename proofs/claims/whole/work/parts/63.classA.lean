/-! The class: small methods of Board, Worker, Queues, Page. -/
theorem ed_mm (a c : Nat) : min a c * 4 + max a c = ed a c := by
  unfold ed
  rcases Nat.lt_or_ge a c with h | h
  · rw [if_pos h, Nat.min_eq_left (by omega), Nat.max_eq_right (by omega)]; omega
  · rw [if_neg (by omega), Nat.min_eq_right (by omega), Nat.max_eq_left (by omega)]; omega
theorem s_edge {Ω : Nat × Nat} {σ : Mm} {a c : Nat} (ha : a < 100) (hc : c < 100) : RI Ω mX1_edge [.ref 1, .int (nI a), .int (nI c)] σ (fun r τ => r = nI (ed a c) ∧ τ = σ) := by
  refine G.met (by decide) (Nat.le_of_ble_eq_true rfl) ?_
  show G _ _ _ 0 [some (.ref 1), some (.int (nI a)), some (.int (nI c))] [] σ
  refine gs_iload_n dX1_edge_0 rfl rfl ?_
  refine gs_iload_n dX1_edge_1 rfl rfl ?_
  refine g_mmin dX1_edge_2 mmLX1_51 (by decide) (Nat.le_of_ble_eq_true rfl) (nI_min (by omega) (by omega)) ?_
  refine g_iconst (v := nI 4) dX1_edge_5 (by decide) ?_
  refine g_imul dX1_edge_6 (by first | exact pk_mul _ _ | rfl) ?_
  refine gs_iload_n dX1_edge_7 rfl rfl ?_
  refine gs_iload_n dX1_edge_8 rfl rfl ?_
  refine g_mmax dX1_edge_9 mmLX1_57 (by decide) (Nat.le_of_ble_eq_true rfl) (nI_max (by omega) (by omega)) ?_
  refine g_iadd dX1_edge_12 (by first | exact nI_add _ _ | rfl) ?_
  refine g_ireturn dX1_edge_13 rfl ?_
  exact ⟨_, rfl, by rw [ed_mm], rfl⟩
theorem c_distance {b : Nat} {σ : Mm} {S : Sx} {Tf : Nat → Nat} (hb : mch b) (hR : RepC b σ S Tf) (hB : Bd S) {a c : Nat} (ha : a < S.1 0 0) (hc : c < S.1 0 0) : RI W0 mX1_distance [.ref 1, .int (nI a), .int (nI c)] σ (fun r τ => r = nI (S.1 5 (4 * a + c)) ∧ τ = σ) := by
  have b0 := B_nodes hB 0
  refine G.met (by decide) (Nat.le_of_ble_eq_true rfl) ?_
  show G _ _ _ 0 [some (.ref 1), some (.int (nI a)), some (.int (nI c))] [] σ
  refine gs_aload_n dX1_distance_0 rfl rfl ?_
  refine g_getR dX1_distance_1 fX1_18 bdW0.1 (by decide) rBd_sums ?_
  refine gs_iload_n dX1_distance_4 rfl rfl ?_
  refine g_iconst (v := nI 4) dX1_distance_5 (by decide) ?_
  refine g_imul dX1_distance_6 (by first | exact pk_mul _ _ | rfl) ?_
  refine gs_iload_n dX1_distance_7 rfl rfl ?_
  refine g_iadd dX1_distance_8 (by first | exact nI_add _ _ | rfl) ?_
  refine g_iald dX1_distance_9 bdW0.2.2.2.1 (by omega) ((C_far hR (i := a * 4 + c) (by omega) ⟨by omega, by omega⟩).trans (by rw [Nat.mul_comm a 4])) ?_
  refine g_ireturn dX1_distance_10 rfl ?_
  exact ⟨_, rfl, rfl, rfl⟩
theorem c_nextNode {b : Nat} {σ : Mm} {S : Sx} {Tf : Nat → Nat} (hb : mch b) (hR : RepC b σ S Tf) (hB : Bd S) {a c : Nat} (ha : a < S.1 0 0) (hc : c < S.1 0 0) : RI W0 mX1_nextNode [.ref 1, .int (nI a), .int (nI c)] σ (fun r τ => r = nI (S.1 6 (4 * a + c)) ∧ τ = σ) := by
  have b0 := B_nodes hB 0
  refine G.met (by decide) (Nat.le_of_ble_eq_true rfl) ?_
  show G _ _ _ 0 [some (.ref 1), some (.int (nI a)), some (.int (nI c))] [] σ
  refine gs_aload_n dX1_nextNode_0 rfl rfl ?_
  refine g_getR dX1_nextNode_1 fX1_21 bdW0.1 (by decide) rBd_hops ?_
  refine gs_iload_n dX1_nextNode_4 rfl rfl ?_
  refine g_iconst (v := nI 4) dX1_nextNode_5 (by decide) ?_
  refine g_imul dX1_nextNode_6 (by first | exact pk_mul _ _ | rfl) ?_
  refine gs_iload_n dX1_nextNode_7 rfl rfl ?_
  refine g_iadd dX1_nextNode_8 (by first | exact nI_add _ _ | rfl) ?_
  refine g_iald dX1_nextNode_9 bdW0.2.2.2.2 (by omega) ((C_hop hR (i := a * 4 + c) (by omega) ⟨by omega, by omega⟩).trans (by rw [Nat.mul_comm a 4])) ?_
  refine g_ireturn dX1_nextNode_10 rfl ?_
  exact ⟨_, rfl, rfl, rfl⟩
theorem c_reaches {b : Nat} {σ : Mm} {S : Sx} {Tf : Nat → Nat} (hb : mch b) (hR : RepC b σ S Tf) (hB : Bd S) {a c : Nat} (ha : a < S.1 0 0) (hc : c < S.1 0 0) : RI W0 mX1_reaches [.ref 1, .int (nI a), .int (nI c)] σ (fun r τ => r = bI (rcS S a c) ∧ τ = σ) := by
  have b0 := B_nodes hB 0
  have b1 := B_far hB (4 * a + c)
  refine G.met (by decide) (Nat.le_of_ble_eq_true rfl) ?_
  show G _ _ _ 0 [some (.ref 1), some (.int (nI a)), some (.int (nI c))] [] σ
  refine gs_aload_n dX1_reaches_0 rfl rfl ?_
  refine g_getR dX1_reaches_1 fX1_18 bdW0.1 (by decide) rBd_sums ?_
  refine gs_iload_n dX1_reaches_4 rfl rfl ?_
  refine g_iconst (v := nI 4) dX1_reaches_5 (by decide) ?_
  refine g_imul dX1_reaches_6 (by first | exact pk_mul _ _ | rfl) ?_
  refine gs_iload_n dX1_reaches_7 rfl rfl ?_
  refine g_iadd dX1_reaches_8 (by first | exact nI_add _ _ | rfl) ?_
  refine g_iald dX1_reaches_9 bdW0.2.2.2.1 (by omega) ((C_far hR (i := a * 4 + c) (by omega) ⟨by omega, by omega⟩).trans (by rw [Nat.mul_comm a 4])) ?_
  refine g_sipush (v := nI 1000) dX1_reaches_10 (by decide) ?_
  refine gn_icmp_ge (tgt := 20) dX1_reaches_13 (by decide) (by omega) (by omega) (fun c13 => ?_) (fun c13 => ?_)
  · refine g_iconst (v := nI 0) dX1_reaches_20 (by decide) ?_
    refine g_zreturn dX1_reaches_21 rfl (by first | exact bI_01 _ | decide) ?_
    exact ⟨_, rfl, by rw [rcS, decide_eq_false (by omega)]; rfl, rfl⟩
  · refine g_iconst (v := nI 1) dX1_reaches_16 (by decide) ?_
    refine g_goto (tgt := 21) dX1_reaches_17 (by decide) ?_
    refine g_zreturn dX1_reaches_21 rfl (by first | exact bI_01 _ | decide) ?_
    exact ⟨_, rfl, by rw [rcS, decide_eq_true (by omega)]; rfl, rfl⟩
theorem c_left {b : Nat} {σ : Mm} {S : Sx} {Tf : Nat → Nat} (hb : mch b) (hR : RepC b σ S Tf) (hB : Bd S) {t : Nat} (ht : t < S.1 9 0) (hnt : S.1 30 t ≤ S.1 10 t) : RI W0 mX10_left [.ref (b + 78 + t)] σ (fun r τ => r = nI (if S.1 32 t = 0 then S.1 10 t - S.1 30 t else 0) ∧ τ = σ) := by
  have bT := B_T hB 0
  have b1 := B_ended hB t
  have b2 := B_toGo hB t
  have b3 := B_told hB t
  have h10 : t < 10 := by omega
  refine G.met (by decide) (Nat.le_of_ble_eq_true rfl) ?_
  show G _ _ _ 0 [some (.ref (b + 78 + t))] [] σ
  refine gs_aload_n dX10_left_0 rfl rfl ?_
  refine g_getI dX10_left_1 fX10_32 (kWk hb h10) (by decide) (C_ended hR (by omega) (by omega)) ?_
  refine gn_if_eq (tgt := 11) dX10_left_4 (by decide) (by omega) (fun c4 => ?_) (fun c4 => ?_)
  · refine gs_aload_n dX10_left_11 rfl rfl ?_
    refine g_getR dX10_left_12 fX10_7 (kWk hb h10) (by decide) (rWk_script hb h10) ?_
    refine g_getI dX10_left_15 fX10_36 (kSc h10) (by decide) (C_told hR (by omega)) ?_
    refine gs_aload_n dX10_left_18 rfl rfl ?_
    refine g_getI dX10_left_19 fX10_17 (kWk hb h10) (by decide) (C_next hR (by omega) (by omega)) ?_
    refine g_isub dX10_left_22 (by first | exact pk_sub (by omega) | rfl) ?_
    refine g_ireturn dX10_left_23 rfl ?_
    exact ⟨_, rfl, by rw [if_pos c4], rfl⟩
  · refine g_iconst (v := nI 0) dX10_left_7 (by decide) ?_
    refine g_goto (tgt := 23) dX10_left_8 (by decide) ?_
    refine g_ireturn dX10_left_23 rfl ?_
    exact ⟨_, rfl, by rw [if_neg (by omega)], rfl⟩
theorem c_isReady {b : Nat} {σ : Mm} {S : Sx} {Tf : Nat → Nat} (hb : mch b) (hR : RepC b σ S Tf) (hB : Bd S) {t : Nat} (ht : t < S.1 9 0) (hnt : S.1 30 t ≤ S.1 10 t) : RI W0 mX10_isReady [.ref (b + 78 + t)] σ (fun r τ => r = bI (rdS S t) ∧ τ = σ) := by
  have bT := B_T hB 0
  have b1 := B_ended hB t
  have b2 := B_toGo hB t
  have b3 := B_told hB t
  have h10 : t < 10 := by omega
  have b5 : (if S.1 32 t = 0 then S.1 10 t - S.1 30 t else 0) ≤ 60 := by split <;> omega
  refine G.met (by decide) (Nat.le_of_ble_eq_true rfl) ?_
  show G _ _ _ 0 [some (.ref (b + 78 + t))] [] σ
  refine gs_aload_n dX10_isReady_0 rfl rfl ?_
  refine g_getI dX10_isReady_1 fX10_20 (kWk hb h10) (by decide) (C_toGo hR (by omega) (by omega)) ?_
  refine gn_if_ne (tgt := 18) dX10_isReady_4 (by decide) (by omega) (fun c4 => ?_) (fun c4 => ?_)
  · refine g_iconst (v := nI 0) dX10_isReady_18 (by decide) ?_
    refine g_zreturn dX10_isReady_19 rfl (by first | exact bI_01 _ | decide) ?_
    exact ⟨_, rfl, by rw [rdS, decide_eq_false (p := S.1 31 t = 0) (by omega), Bool.false_and, Bool.and_false]; rfl, rfl⟩
  · refine gs_aload_n dX10_isReady_7 rfl rfl ?_
    refine g_cVI0 dX10_isReady_8 vX10_41 (by decide) (kWk hb h10) (by decide) (Nat.le_of_ble_eq_true rfl) (c_left hb hR hB ht hnt) ?_
    rintro _ _ ⟨rfl, rfl⟩
    refine gn_if_le (tgt := 18) dX10_isReady_11 (by decide) (by omega) (fun c11 => ?_) (fun c11 => ?_)
    · refine g_iconst (v := nI 0) dX10_isReady_18 (by decide) ?_
      refine g_zreturn dX10_isReady_19 rfl (by first | exact bI_01 _ | decide) ?_
      have e : rdS S t = false := by
        rw [rdS]
        by_cases h0 : S.1 32 t = 0
        · rw [if_pos h0] at c11
          rw [decide_eq_false (p := S.1 30 t < S.1 10 t) (by omega), Bool.and_false, Bool.and_false]
        · rw [decide_eq_false h0, Bool.false_and]
      exact ⟨_, rfl, by rw [e]; rfl, rfl⟩
    · refine g_iconst (v := nI 1) dX10_isReady_14 (by decide) ?_
      refine g_goto (tgt := 19) dX10_isReady_15 (by decide) ?_
      refine g_zreturn dX10_isReady_19 rfl (by first | exact bI_01 _ | decide) ?_
      have e : rdS S t = true := by
        rw [rdS]
        by_cases h0 : S.1 32 t = 0
        · rw [if_pos h0] at c11
          rw [decide_eq_true h0, decide_eq_true c4, decide_eq_true (p := S.1 30 t < S.1 10 t) (by omega)]; rfl
        · rw [if_neg h0] at c11
          exact absurd c11 (by omega)
      exact ⟨_, rfl, by rw [e]; rfl, rfl⟩
theorem qAt {b : Nat} {σ : Mm} {S : Sx} {Tf : Nat → Nat} (hR : RepC b σ S Tf) {a i : Nat} (ha : a < 4) (hi : i < (S.2.2 a).length) : σ.1 (b + 2) (a * 10 + i) = nI ((S.2.2 a).getD i 0) := by
  have h := (hR.2.2.2.2 a ha).2.2 i hi
  rw [Nat.mul_comm a 10]; exact h
theorem qSz {b : Nat} {σ : Mm} {S : Sx} {Tf : Nat → Nat} (hR : RepC b σ S Tf) {a : Nat} (ha : a < 4) : σ.1 (b + 3) a = nI (S.2.2 a).length := (hR.2.2.2.2 a ha).2.1
theorem qLe {b : Nat} {σ : Mm} {S : Sx} {Tf : Nat → Nat} (hR : RepC b σ S Tf) {a : Nat} (ha : a < 4) : (S.2.2 a).length ≤ 10 := (hR.2.2.2.2 a ha).1
theorem c_at {b : Nat} {σ : Mm} {S : Sx} {Tf : Nat → Nat} (hb : mch b) (hR : RepC b σ S Tf) (hB : Bd S) {a i : Nat} (ha : a < 4) (hi : i < (S.2.2 a).length) : RI W0 mX5_at [.ref (b + 1), .int (nI a), .int (nI i)] σ (fun r τ => r = nI ((S.2.2 a).getD i 0) ∧ τ = σ) := by
  have b0 := qLe hR ha
  refine G.met (by decide) (Nat.le_of_ble_eq_true rfl) ?_
  show G _ _ _ 0 [some (.ref (b + 1)), some (.int (nI a)), some (.int (nI i))] [] σ
  refine gs_aload_n dX5_at_0 rfl rfl ?_
  refine g_getR dX5_at_1 fX5_9 (kMa_queues hb) (by decide) (rQu_order hb) ?_
  refine gs_iload_n dX5_at_4 rfl rfl ?_
  refine g_bipush (v := nI 10) dX5_at_5 (by decide) ?_
  refine g_imul dX5_at_7 (by first | exact pk_mul _ _ | rfl) ?_
  refine gs_iload_n dX5_at_8 rfl rfl ?_
  refine g_iadd dX5_at_9 (by first | exact nI_add _ _ | rfl) ?_
  refine g_iald dX5_at_10 (kQu_order hb) (by omega) (qAt hR ha hi) ?_
  refine g_ireturn dX5_at_11 rfl ?_
  exact ⟨_, rfl, rfl, rfl⟩
def poL (l : List Nat) (t : Nat) : Nat → Nat → Option Nat
  | 0, _ => none
  | k + 1, i => if l.getD i 0 = t then some i else poL l t k (i + 1)
def poS (l : List Nat) (t : Nat) : Option Nat := poL l t l.length 0
theorem l_placeOf {b : Nat} {σ : Mm} {S : Sx} {Tf : Nat → Nat} {K : Option Value → Mm → Prop} (hb : mch b) (hR : RepC b σ S Tf) (hB : Bd S) {a t : Nat} (ha : a < 4) (ht : t < 100) (hq : ∀ i, (S.2.2 a).getD i 0 < 100) (hK : K (some (.int (crI (poS (S.2.2 a) t)))) σ) : ∀ k i, i + k = (S.2.2 a).length → poL (S.2.2 a) t k i = poS (S.2.2 a) t → G W0 mX5_placeOf K 2 [some (.ref (b + 1)), some (.int (nI a)), some (.int (nI t)), some (.int (nI i))] [] σ := by
  intro k
  induction k with
  | zero =>
    intro i hi hk
    have b0 := qLe hR ha
    have b1 := hq i
    refine gs_iload_n dX5_placeOf_2 rfl rfl ?_
    refine gs_aload_n dX5_placeOf_3 rfl rfl ?_
    refine g_getR dX5_placeOf_4 fX5_15 (kMa_queues hb) (by decide) (rQu_size hb) ?_
    refine gs_iload_n dX5_placeOf_7 rfl rfl ?_
    refine g_iald dX5_placeOf_8 (kQu_size hb) (by omega) (qSz hR ha) ?_
    refine gt_icmp_ge (tgt := 30) dX5_placeOf_9 (by decide) (by omega) (by omega) (by omega) ?_
    refine g_iconst (v := -1) dX5_placeOf_30 (by decide) ?_
    refine g_ireturn dX5_placeOf_31 rfl ?_
    rw [← hk] at hK
    exact hK
  | succ k ih =>
    intro i hi hk
    have b0 := qLe hR ha
    have b1 := hq i
    refine gs_iload_n dX5_placeOf_2 rfl rfl ?_
    refine gs_aload_n dX5_placeOf_3 rfl rfl ?_
    refine g_getR dX5_placeOf_4 fX5_15 (kMa_queues hb) (by decide) (rQu_size hb) ?_
    refine gs_iload_n dX5_placeOf_7 rfl rfl ?_
    refine g_iald dX5_placeOf_8 (kQu_size hb) (by omega) (qSz hR ha) ?_
    refine gf_icmp_ge (tgt := 30) dX5_placeOf_9 (by decide) (by omega) (by omega) (by omega) ?_
    refine gs_aload_n dX5_placeOf_12 rfl rfl ?_
    refine gs_iload_n dX5_placeOf_13 rfl rfl ?_
    refine gs_iload_n dX5_placeOf_14 rfl rfl ?_
    refine g_cVI2 dX5_placeOf_15 vX5_24 (by decide) (kMa_queues hb) (by decide) (Nat.le_of_ble_eq_true rfl) (c_at hb hR hB ha (by omega)) ?_
    rintro _ σ ⟨rfl, e9⟩
    subst e9
    refine gs_iload_n dX5_placeOf_18 rfl rfl ?_
    refine gn_icmp_ne (tgt := 24) dX5_placeOf_19 (by decide) (by omega) (by omega) (fun c19 => ?_) (fun c19 => ?_)
    · refine gs_iinc (ls' := [_, _, _, _]) dX5_placeOf_24 rfl (nI_add _ 1) rfl rfl ?_
      refine g_goto (tgt := 2) dX5_placeOf_27 (by decide) ?_
      exact ih (i + 1) (by omega) (by rw [← hk]; exact (if_neg c19).symm)
    · refine gs_iload_n dX5_placeOf_22 rfl rfl ?_
      refine g_ireturn dX5_placeOf_23 rfl ?_
      rw [← hk, show poL (S.2.2 a) t (k + 1) i = some i from if_pos c19] at hK
      exact hK
theorem c_placeOf {b : Nat} {σ : Mm} {S : Sx} {Tf : Nat → Nat} (hb : mch b) (hR : RepC b σ S Tf) (hB : Bd S) {a t : Nat} (ha : a < 4) (ht : t < 100) (hq : ∀ i, (S.2.2 a).getD i 0 < 100) : RI W0 mX5_placeOf [.ref (b + 1), .int (nI a), .int (nI t)] σ (fun r τ => r = crI (poS (S.2.2 a) t) ∧ τ = σ) := by
  refine G.met (by decide) (Nat.le_of_ble_eq_true rfl) ?_
  show G _ _ _ 0 [some (.ref (b + 1)), some (.int (nI a)), some (.int (nI t)), none] [] σ
  refine g_iconst (v := nI 0) dX5_placeOf_0 (by decide) ?_
  refine gs_istore_n (ls' := [_, _, _, _]) dX5_placeOf_1 rfl rfl rfl ?_
  exact l_placeOf hb hR hB ha ht hq ⟨_, rfl, rfl, rfl⟩ _ 0 (Nat.zero_add _) rfl
theorem bt_c {c a : Nat} (hc : c ≤ 15) (ha : a < 4) : (nI c &&& (nI 1 <<< (nI a &&& 31)) = 0) ↔ bt c a = 0 := by
  have h : ∀ c, c < 16 → ∀ a, a < 4 → ((nI c &&& (nI 1 <<< (nI a &&& 31)) = 0) ↔ bt c a = 0) := by decide +kernel
  exact h c (by omega) a ha
theorem c_hasCopyOn {b : Nat} {σ : Mm} {S : Sx} {Tf : Nat → Nat} (hb : mch b) (hR : RepC b σ S Tf) (hB : Bd S) {p a : Nat} (hp : p < S.1 7 0) (ha : a < 4) : RI W0 mX4_hasCopyOn [.ref (b + 18 + 3 * p), .int (nI a)] σ (fun r τ => r = bI (decide (bt (S.1 25 p) a = 1)) ∧ τ = σ) := by
  have bP := B_P hB 0
  have h20 : p < 20 := by omega
  have b2 := B_copies hB p
  have b3 := bt_le (S.1 25 p) a
  refine G.met (by decide) (Nat.le_of_ble_eq_true rfl) ?_
  show G _ _ _ 0 [some (.ref (b + 18 + 3 * p)), some (.int (nI a))] [] σ
  refine gs_aload_n dX4_hasCopyOn_0 rfl rfl ?_
  refine g_getI dX4_hasCopyOn_1 fX4_31 (kPg hb h20) (by decide) (C_copies hR (by omega) (by omega)) ?_
  refine g_iconst (v := nI 1) dX4_hasCopyOn_4 (by decide) ?_
  refine gs_iload_n dX4_hasCopyOn_5 rfl rfl ?_
  refine g_ishl dX4_hasCopyOn_6 rfl ?_
  refine g_iand dX4_hasCopyOn_7 rfl ?_
  refine g_if_eq (tgt := 15) dX4_hasCopyOn_8 (by decide) (fun c8 => ?_) (fun c8 => ?_)
  · refine g_iconst (v := nI 0) dX4_hasCopyOn_15 (by decide) ?_
    refine g_zreturn dX4_hasCopyOn_16 rfl (by first | exact bI_01 _ | decide) ?_
    have e := (bt_c b2 ha).mp c8
    exact ⟨_, rfl, by rw [decide_eq_false (by omega)]; rfl, rfl⟩
  · refine g_iconst (v := nI 1) dX4_hasCopyOn_11 (by decide) ?_
    refine g_goto (tgt := 16) dX4_hasCopyOn_12 (by decide) ?_
    refine g_zreturn dX4_hasCopyOn_16 rfl (by first | exact bI_01 _ | decide) ?_
    have e : ¬ bt (S.1 25 p) a = 0 := fun z => c8 ((bt_c b2 ha).mpr z)
    exact ⟨_, rfl, by rw [decide_eq_true (by omega)]; rfl, rfl⟩
theorem lzC_s {v : Nat} (h : 0 < v) : lzC v = nI (v - 1) := if_neg (by omega)
theorem lzC_none {v : Nat} (hv : v ≤ 4) : lzC v = -1 ↔ v = 0 := by
  have h : ∀ v, v < 5 → (lzC v = -1 ↔ v = 0) := by decide +kernel
  exact h v (by omega)
theorem lzC_a {v a : Nat} (hv : v ≤ 4) (ha : a < 4) : lzC v = nI a ↔ v = a + 1 := by
  have h : ∀ v, v < 5 → ∀ a, a < 4 → (lzC v = nI a ↔ v = a + 1) := by decide +kernel
  exact h v (by omega) a ha
theorem c_whereFor {b : Nat} {σ : Mm} {S : Sx} {Tf : Nat → Nat} (hb : mch b) (hR : RepC b σ S Tf) (hB : Bd S) {p a c : Nat} (hp : p < S.1 7 0) (ha : a < 4) (hc : c < 4) (hn : 2 ≤ S.1 0 0) (hl : 0 < S.1 24 p) (hk1 : S.1 8 p ≠ 1 → S.1 25 p = 0) : RI W0 mX4_whereFor [.ref (b + 18 + 3 * p), .int (nI a), .int (nI c), .int (nI (S.1 0 0))] σ (fun r τ => r = nI (whS S p c a) ∧ τ = σ) := by
  have bP := B_P hB 0
  have h20 : p < 20 := by omega
  have b0 := B_nodes hB 0
  have b1 := B_kind hB p
  have b2 := B_copies hB p
  have b3 := B_lies hB p
  refine G.met (by decide) (Nat.le_of_ble_eq_true rfl) ?_
  show G _ _ _ 0 [some (.ref (b + 18 + 3 * p)), some (.int (nI a)), some (.int (nI c)), some (.int (nI (S.1 0 0)))] [] σ
  refine gs_aload_n dX4_whereFor_0 rfl rfl ?_
  refine g_getI dX4_whereFor_1 fX4_28 (kPg hb h20) (by decide) (C_kind hR (by omega) (by omega)) ?_
  refine g_iconst (v := nI 2) dX4_whereFor_4 (by decide) ?_
  refine gn_icmp_ne (tgt := 17) dX4_whereFor_5 (by decide) (by omega) (by omega) (fun c5 => ?_) (fun c5 => ?_)
  · refine gs_aload_n dX4_whereFor_17 rfl rfl ?_
    refine gs_iload_n dX4_whereFor_18 rfl rfl ?_
    refine g_cVI1 dX4_whereFor_19 vX4_47 (by decide) (kPg hb h20) (by decide) (Nat.le_of_ble_eq_true rfl) (c_hasCopyOn hb hR hB hp ha) ?_
    rintro _ _ ⟨rfl, rfl⟩
    refine gb_if_eq (tgt := 29) dX4_whereFor_22 (by decide) (fun c22 => ?_) (fun c22 => ?_)
    · refine gs_aload_n dX4_whereFor_29 rfl rfl ?_
      refine g_getI dX4_whereFor_30 fX4_18 (kPg hb h20) (by decide) ((C_lies hR (by omega) (by omega)).trans (lzC_s hl)) ?_
      refine g_ireturn dX4_whereFor_33 rfl ?_
      have e := of_decide_eq_false c22
      exact ⟨_, rfl, by rw [whS, if_neg c5, if_neg (fun z => e z.2)], rfl⟩
    · refine gs_iload_n dX4_whereFor_25 rfl rfl ?_
      refine g_goto (tgt := 33) dX4_whereFor_26 (by decide) ?_
      refine g_ireturn dX4_whereFor_33 rfl ?_
      have e := of_decide_eq_true c22
      have e1 : S.1 8 p = 1 := Decidable.byContradiction (fun z => by rw [hk1 z] at e; revert e; unfold bt; simp)
      exact ⟨_, rfl, by rw [whS, if_neg c5, if_pos ⟨e1, e⟩], rfl⟩
  · refine gs_iload_n dX4_whereFor_8 rfl rfl ?_
    refine gs_aload_n dX4_whereFor_9 rfl rfl ?_
    refine g_getI dX4_whereFor_10 fX4_18 (kPg hb h20) (by decide) ((C_lies hR (by omega) (by omega)).trans (lzC_s hl)) ?_
    refine g_iadd dX4_whereFor_13 (by first | exact nI_add _ _ | rfl) ?_
    refine gs_iload_n dX4_whereFor_14 rfl rfl ?_
    refine g_irem dX4_whereFor_15 (nI_ne0 (by omega) (by omega)) (pk_rem (by omega) (by omega) (by omega)) ?_
    refine g_ireturn dX4_whereFor_16 rfl ?_
    exact ⟨_, rfl, by rw [whS, if_pos c5], rfl⟩
