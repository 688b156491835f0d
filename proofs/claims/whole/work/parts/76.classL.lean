/-! The class: rows are filled; the queues. -/
def flI (σ : Mm) (a n : Nat) (v : Int32) : Mm := (fun b j => if b = a ∧ j < n then v else σ.1 b j, σ.2)
theorem flI_at (σ : Mm) (a n : Nat) (v : Int32) (b j : Nat) : (flI σ a n v).1 b j = if b = a ∧ j < n then v else σ.1 b j := rfl
theorem flI_0 (σ : Mm) (a : Nat) (v : Int32) : flI σ a 0 v = σ := by
  unfold flI
  have : (fun b j => if b = a ∧ j < 0 then v else σ.1 b j) = σ.1 := by
    funext b j
    rw [if_neg (by omega)]
  rw [this]
theorem flI_s (σ : Mm) (a n : Nat) (v : Int32) : wI (flI σ a n v) a n v = flI σ a (n + 1) v := by
  refine Prod.ext ?_ rfl
  funext b j
  rw [wI_at, flI_at, flI_at]
  by_cases h : b = a ∧ j = n
  · rw [if_pos h, if_pos ⟨h.1, by omega⟩]
  · rw [if_neg h]
    by_cases h2 : b = a ∧ j < n
    · rw [if_pos h2, if_pos ⟨h2.1, by omega⟩]
    · rw [if_neg h2, if_neg (fun z => (Nat.lt_or_ge j n).elim (fun q => h2 ⟨z.1, q⟩) (fun q => h ⟨z.1, by omega⟩))]
theorem l_fill {Ω : Nat × Nat} {σ : Mm} {K : Option Value → Mm → Prop} {a n : Nat} {v : Int32} (ha : kw Ω a = (20, n)) (hn : n < 2 ^ 31) (hK : K none (flI σ a n v)) : ∀ k i, i + k = n → G Ω mJ7_fill_53178 K 5 [some (.ref a), some (.int v), some (.int (nI i)), some (.int (nI n))] [] (flI σ a i v) := by
  intro k
  induction k with
  | zero =>
    intro i hi
    have e : i = n := by omega
    subst e
    refine gs_iload_n dJ7_fill_53178_5 rfl rfl ?_
    refine gs_iload_n dJ7_fill_53178_6 rfl rfl ?_
    refine gt_icmp_ge (tgt := 20) dJ7_fill_53178_7 (by decide) (by omega) (by omega) (by omega) ?_
    refine g_return dJ7_fill_53178_20 rfl ?_
    exact hK
  | succ k ih =>
    intro i hi
    refine gs_iload_n dJ7_fill_53178_5 rfl rfl ?_
    refine gs_iload_n dJ7_fill_53178_6 rfl rfl ?_
    refine gf_icmp_ge (tgt := 20) dJ7_fill_53178_7 (by decide) (by omega) (by omega) (by omega) ?_
    refine gs_aload_n dJ7_fill_53178_10 rfl rfl ?_
    refine gs_iload_n dJ7_fill_53178_11 rfl rfl ?_
    refine gs_iload_n dJ7_fill_53178_12 rfl rfl ?_
    refine g_iast dJ7_fill_53178_13 ha (by omega) ?_
    refine gs_iinc (ls' := [_, _, _, _]) dJ7_fill_53178_14 rfl (nI_add _ 1) rfl rfl ?_
    refine g_goto (tgt := 5) dJ7_fill_53178_17 (by decide) ?_
    rw [flI_s]
    exact ih (i + 1) (by omega)
theorem s_fill {Ω : Nat × Nat} {σ : Mm} {a n : Nat} {v : Int32} (ha : kw Ω a = (20, n)) (hn : n < 2 ^ 31) : RV Ω mJ7_fill_53178 [.ref a, .int v] σ (fun τ => τ = flI σ a n v) := by
  refine G.met (by decide) (Nat.le_of_ble_eq_true rfl) ?_
  show G _ _ _ 0 [some (.ref a), some (.int v), none, none] [] σ
  refine g_iconst (v := nI 0) dJ7_fill_53178_0 (by decide) ?_
  refine gs_istore_n (ls' := [_, _, _, _]) dJ7_fill_53178_1 rfl rfl rfl ?_
  refine gs_aload_n dJ7_fill_53178_2 rfl rfl ?_
  refine g_alenI dJ7_fill_53178_3 ha rfl ?_
  refine gs_istore_n (ls' := [_, _, _, _]) dJ7_fill_53178_4 rfl rfl rfl ?_
  have q := l_fill (σ := σ) (v := v) (K := fun o τ => o = none ∧ τ = flI σ a n v) ha hn ⟨rfl, rfl⟩ n 0 (by omega)
  rw [flI_0] at q
  exact q
theorem l_fillB {Ω : Nat × Nat} {σ : Mm} {K : Option Value → Mm → Prop} {a n : Nat} {v : Int32} (ha : kw Ω a = (23, n)) (hn : n < 2 ^ 31) (hv : v.toInt8.toInt32 = v) (hK : K none (flI σ a n v)) : ∀ k i, i + k = n → G Ω mJ7_fill_031fb K 5 [some (.ref a), some (.int v), some (.int (nI i)), some (.int (nI n))] [] (flI σ a i v) := by
  intro k
  induction k with
  | zero =>
    intro i hi
    have e : i = n := by omega
    subst e
    refine gs_iload_n dJ7_fill_031fb_5 rfl rfl ?_
    refine gs_iload_n dJ7_fill_031fb_6 rfl rfl ?_
    refine gt_icmp_ge (tgt := 20) dJ7_fill_031fb_7 (by decide) (by omega) (by omega) (by omega) ?_
    refine g_return dJ7_fill_031fb_20 rfl ?_
    exact hK
  | succ k ih =>
    intro i hi
    refine gs_iload_n dJ7_fill_031fb_5 rfl rfl ?_
    refine gs_iload_n dJ7_fill_031fb_6 rfl rfl ?_
    refine gf_icmp_ge (tgt := 20) dJ7_fill_031fb_7 (by decide) (by omega) (by omega) (by omega) ?_
    refine gs_aload_n dJ7_fill_031fb_10 rfl rfl ?_
    refine gs_iload_n dJ7_fill_031fb_11 rfl rfl ?_
    refine gs_iload_n dJ7_fill_031fb_12 rfl rfl ?_
    refine g_bast dJ7_fill_031fb_13 ha (by omega) hv ?_
    refine gs_iinc (ls' := [_, _, _, _]) dJ7_fill_031fb_14 rfl (nI_add _ 1) rfl rfl ?_
    refine g_goto (tgt := 5) dJ7_fill_031fb_17 (by decide) ?_
    rw [flI_s]
    exact ih (i + 1) (by omega)
theorem s_fillB {Ω : Nat × Nat} {σ : Mm} {a n : Nat} {v : Int32} (ha : kw Ω a = (23, n)) (hn : n < 2 ^ 31) (hv : v.toInt8.toInt32 = v) : RV Ω mJ7_fill_031fb [.ref a, .int v] σ (fun τ => τ = flI σ a n v) := by
  refine G.met (by decide) (Nat.le_of_ble_eq_true rfl) ?_
  show G _ _ _ 0 [some (.ref a), some (.int v), none, none] [] σ
  refine g_iconst (v := nI 0) dJ7_fill_031fb_0 (by decide) ?_
  refine gs_istore_n (ls' := [_, _, _, _]) dJ7_fill_031fb_1 rfl rfl rfl ?_
  refine gs_aload_n dJ7_fill_031fb_2 rfl rfl ?_
  refine g_alenB dJ7_fill_031fb_3 ha rfl ?_
  refine gs_istore_n (ls' := [_, _, _, _]) dJ7_fill_031fb_4 rfl rfl rfl ?_
  have q := l_fillB (σ := σ) (v := v) (K := fun o τ => o = none ∧ τ = flI σ a n v) ha hn hv ⟨rfl, rfl⟩ n 0 (by omega)
  rw [flI_0] at q
  exact q
/-- writes into the queues' rows -/
theorem RepC.q {b : Nat} {σ σ' : Mm} {S : Sx} {Tf : Nat → Nat} (h : RepC b σ S Tf) (hb : mch b) (hB : Bd S) (hfr : ∀ a, a ≠ b + 2 → a ≠ b + 3 → σ'.1 a = σ.1 a) {Q : Nat → List Nat} (hq : cQu b σ' (S.1, S.2.1, Q)) : RepC b σ' (S.1, S.2.1, Q) Tf := by
  obtain ⟨h1, h2, h3, h4, h5⟩ := h
  refine ⟨fun g i hd hm => ?_, fun g i hd hm => ?_, fun p k hp hk => ?_, fun a ha => ?_, hq⟩
  · have hi := inv_N hb hd
    have hg := szC_lt hd
    rw [hfr _ (fun e => by rw [e, inv_O hb] at hi; have := (Prod.mk.inj hi).1; omega) (fun e => by rw [e, inv_Z hb] at hi; have := (Prod.mk.inj hi).1; omega)]
    exact h1 g i hd hm
  · have hi := inv_V hb hd
    have hg := szV_lt hd
    rw [hfr _ (fun e => by rw [e, inv_O hb] at hi; have := (Prod.mk.inj hi).1; omega) (fun e => by rw [e, inv_Z hb] at hi; have := (Prod.mk.inj hi).1; omega)]
    exact h2 g i hd hm
  · rw [hfr _ (by omega) (by omega)]; exact h3 p k hp hk
  · rw [hfr _ (by omega) (by omega)]; exact h4 a ha
theorem frC.q {b : Nat} {σ σ' : Mm} (hfr : ∀ a, a ≠ b + 2 → a ≠ b + 3 → σ'.1 a = σ.1 a) (h2 : σ'.2 = σ.2) : frC b σ σ' := ⟨h2, fun a ha => hfr a (by omega) (by omega)⟩
theorem Cq.q {b : Nat} {σ0 σ σ' : Mm} {S : Sx} {Tf : Nat → Nat} {A : Nat → Int32} (h : Cq b σ0 S Tf A σ) (hb : mch b) (hB : Bd S) (hfr : ∀ a, a ≠ b + 2 → a ≠ b + 3 → σ'.1 a = σ.1 a) (h2 : σ'.2 = σ.2) {Q : Nat → List Nat} (hq : cQu b σ' (S.1, S.2.1, Q)) : Cq b σ0 (S.1, S.2.1, Q) Tf A σ' := ⟨h.1.q hb hB hfr hq, h.2.1.tr (frC.q hfr h2), by rw [hfr _ (by omega) (by omega)]; exact h.2.2⟩
theorem getD_app {l : List Nat} {t i : Nat} (h : i < (l ++ [t]).length) : (l ++ [t]).getD i 0 = if i = l.length then t else l.getD i 0 := by
  simp only [List.length_append, List.length_cons, List.length_nil] at h
  by_cases e : i = l.length
  · rw [if_pos e]; subst e; simp [List.getD]
  · rw [if_neg e]; simp [List.getD, List.getElem?_append_left (show i < l.length by omega)]
theorem c_append {b : Nat} {σ : Mm} {S : Sx} {Tf : Nat → Nat} (hb : mch b) (hR : RepC b σ S Tf) (hB : Bd S) {a t : Nat} (ha : a < 4) (hl : (S.2.2 a).length < 10) : RV W0 mX5_append [.ref (b + 1), .int (nI a), .int (nI t)] σ (fun τ => Cq b σ (setQ S a (S.2.2 a ++ [t])) Tf (σ.1 (b + 5)) τ) := by
  have hsz := (hR.2.2.2.2 a ha).2.1
  refine G.met (by decide) (Nat.le_of_ble_eq_true rfl) ?_
  show G _ _ _ 0 [some (.ref (b + 1)), some (.int (nI a)), some (.int (nI t))] [] σ
  refine gs_aload_n dX5_append_0 rfl rfl ?_
  refine g_getR dX5_append_1 fX5_9 (kMa_queues hb) (by decide) (rQu_order hb) ?_
  refine gs_iload_n dX5_append_4 rfl rfl ?_
  refine g_bipush (v := nI 10) dX5_append_5 (by decide) ?_
  refine g_imul dX5_append_7 (by first | exact pk_mul _ _ | rfl) ?_
  refine gs_aload_n dX5_append_8 rfl rfl ?_
  refine g_getR dX5_append_9 fX5_15 (kMa_queues hb) (by decide) (rQu_size hb) ?_
  refine gs_iload_n dX5_append_12 rfl rfl ?_
  refine g_iald dX5_append_13 (kQu_size hb) ha hsz ?_
  refine g_iadd dX5_append_14 (by first | exact nI_add _ _ | rfl) ?_
  refine gs_iload_n dX5_append_15 rfl rfl ?_
  refine g_iast dX5_append_16 (kQu_order hb) (by omega) ?_
  refine gs_aload_n dX5_append_17 rfl rfl ?_
  refine g_getR dX5_append_18 fX5_15 (kMa_queues hb) (by decide) (rQu_size hb) ?_
  refine gs_iload_n dX5_append_21 rfl rfl ?_
  refine g_dup2 dX5_append_22 rfl rfl ?_
  refine g_iald dX5_append_23 (kQu_size hb) ha (show _ = nI (S.2.2 a).length from by rw [wI_at, if_neg (by omega)]; exact hsz) ?_
  refine g_iconst (v := nI 1) dX5_append_24 (by decide) ?_
  refine g_iadd dX5_append_25 (by first | exact nI_add _ _ | rfl) ?_
  refine g_iast dX5_append_26 (kQu_size hb) ha ?_
  refine g_return dX5_append_27 rfl ?_
  refine ⟨rfl, (Cq.rf hR).q hb hB (fun x h1 h2 => ?_) (by rfl) ?_⟩
  · funext j
    rw [wI_at, if_neg (by omega), wI_at, if_neg (by omega)]
  · intro a' ha'
    obtain ⟨q1, q2, q3⟩ := hR.2.2.2.2 a' ha'
    show ((if a' = a then S.2.2 a ++ [t] else S.2.2 a').length ≤ 10) ∧ _
    by_cases e : a' = a
    · subst e
      rw [if_pos rfl]
      refine ⟨by simp only [List.length_append, List.length_cons, List.length_nil]; omega, ?_, fun i hi => ?_⟩
      · show _ = nI (if a' = a' then S.2.2 a' ++ [t] else S.2.2 a').length
        rw [if_pos rfl, wI_at, if_pos ⟨rfl, rfl⟩, List.length_append]; rfl
      · have hi : i < (if a' = a' then S.2.2 a' ++ [t] else S.2.2 a').length := hi
        rw [if_pos rfl] at hi
        show _ = nI ((if a' = a' then S.2.2 a' ++ [t] else S.2.2 a').getD i 0)
        rw [if_pos rfl, getD_app hi, wI_at, if_neg (by omega), wI_at]
        by_cases ei : i = (S.2.2 a').length
        · rw [if_pos ⟨rfl, by omega⟩, if_pos ei]
        · rw [if_neg (by omega), if_neg ei]
          exact q3 i (by simp only [List.length_append, List.length_cons, List.length_nil] at hi; omega)
    · rw [if_neg e]
      refine ⟨q1, ?_, fun i hi => ?_⟩
      · show _ = nI (if a' = a then S.2.2 a ++ [t] else S.2.2 a').length
        rw [if_neg e, wI_at, if_neg (by omega), wI_at, if_neg (by omega)]; exact q2
      · have hi : i < (if a' = a then S.2.2 a ++ [t] else S.2.2 a').length := hi
        rw [if_neg e] at hi
        show _ = nI ((if a' = a then S.2.2 a ++ [t] else S.2.2 a').getD i 0)
        rw [if_neg e, wI_at, if_neg (by omega), wI_at, if_neg (by omega)]; exact q3 i hi
