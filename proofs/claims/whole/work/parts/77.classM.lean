/-! The class: the queues' drop and exchange. -/
theorem poL_some {l : List Nat} {t : Nat} : ∀ k i g, poL l t k i = some g → i ≤ g ∧ g < i + k ∧ l.getD g 0 = t ∧ ∀ j, i ≤ j → j < g → l.getD j 0 ≠ t := by
  intro k
  induction k with
  | zero => intro i g h; cases h
  | succ k ih =>
    intro i g h
    rw [poL] at h
    by_cases e : l.getD i 0 = t
    · rw [if_pos e] at h
      cases h
      exact ⟨Nat.le_refl _, by omega, e, fun j h1 h2 => by omega⟩
    · rw [if_neg e] at h
      obtain ⟨h1, h2, h3, h4⟩ := ih (i + 1) g h
      refine ⟨by omega, by omega, h3, fun j q1 q2 => ?_⟩
      by_cases ej : j = i
      · rw [ej]; exact e
      · exact h4 j (by omega) q2
theorem poL_none {l : List Nat} {t : Nat} : ∀ k i, poL l t k i = none → ∀ j, i ≤ j → j < i + k → l.getD j 0 ≠ t := by
  intro k
  induction k with
  | zero => intro i h j q1 q2; omega
  | succ k ih =>
    intro i h j q1 q2
    rw [poL] at h
    by_cases e : l.getD i 0 = t
    · rw [if_pos e] at h; cases h
    · rw [if_neg e] at h
      by_cases ej : j = i
      · rw [ej]; exact e
      · exact ih (i + 1) h j (by omega) (by omega)
theorem poS_some {l : List Nat} {t g : Nat} (h : poS l t = some g) : g < l.length ∧ l.getD g 0 = t ∧ ∀ j, j < g → l.getD j 0 ≠ t := by
  obtain ⟨h1, h2, h3, h4⟩ := poL_some l.length 0 g h
  exact ⟨by omega, h3, fun j hj => h4 j (Nat.zero_le _) hj⟩
theorem poS_none {l : List Nat} {t : Nat} (h : poS l t = none) : t ∉ l := by
  intro hm
  obtain ⟨j, hj, e⟩ := List.getElem_of_mem hm
  refine poL_none l.length 0 h j (Nat.zero_le _) (by omega) ?_
  rw [← e]
  simp [List.getD, hj]
theorem er_spec {t : Nat} : ∀ (l : List Nat) (g : Nat), g < l.length → l.getD g 0 = t → (∀ j, j < g → l.getD j 0 ≠ t) → (l.erase t).length + 1 = l.length ∧ ∀ j, (l.erase t).getD j 0 = if j < g then l.getD j 0 else l.getD (j + 1) 0 := by
  intro l
  induction l with
  | nil => intro g h; exact absurd h (Nat.not_lt_zero _)
  | cons x l ih =>
    intro g h1 h2 h3
    cases g with
    | zero =>
      have e : x = t := h2
      subst e
      rw [List.erase_cons_head]
      refine ⟨rfl, fun j => ?_⟩
      rw [if_neg (Nat.not_lt_zero _)]
      rfl
    | succ g =>
      have e : x ≠ t := h3 0 (by omega)
      rw [List.erase_cons_tail (by simpa using e)]
      obtain ⟨q1, q2⟩ := ih g (by simp only [List.length_cons] at h1; omega) h2 (fun j hj => h3 (j + 1) (by omega))
      refine ⟨by simp only [List.length_cons]; omega, fun j => ?_⟩
      cases j with
      | zero => rw [if_pos (by omega)]; rfl
      | succ j =>
        show (l.erase t).getD j 0 = _
        rw [q2 j]
        by_cases hj : j < g
        · rw [if_pos hj, if_pos (by omega)]; rfl
        · rw [if_neg hj, if_neg (by omega)]; rfl
theorem cQu_one {b : Nat} {σ τ : Mm} {S : Sx} (h : cQu b σ S) {a : Nat} (ha : a < 4) {l : List Nat} (hl : l.length ≤ 10) (h1 : ∀ j, j ≠ a → τ.1 (b + 3) j = σ.1 (b + 3) j) (h2 : τ.1 (b + 3) a = nI l.length) (h3 : ∀ j, ¬ (a * 10 ≤ j ∧ j < a * 10 + 10) → τ.1 (b + 2) j = σ.1 (b + 2) j) (h4 : ∀ j, j < l.length → τ.1 (b + 2) (a * 10 + j) = nI (l.getD j 0)) : cQu b τ (setQ S a l) := by
  intro a' ha'
  obtain ⟨q1, q2, q3⟩ := h a' ha'
  have e2 : (setQ S a l).2.2 a' = if a' = a then l else S.2.2 a' := rfl
  rw [e2]
  by_cases e : a' = a
  · subst e
    rw [if_pos rfl]
    refine ⟨hl, h2, fun i hi => ?_⟩
    rw [Nat.mul_comm]
    exact h4 i hi
  · rw [if_neg e]
    refine ⟨q1, by rw [h1 a' e]; exact q2, fun i hi => ?_⟩
    rw [h3 _ (by omega)]
    exact q3 i hi
theorem c_at0 {b : Nat} (hb : mch b) {σ : Mm} {a i : Nat} (ha : a < 4) (hi : i < 10) : RI W0 mX5_at [.ref (b + 1), .int (nI a), .int (nI i)] σ (fun r τ => r = σ.1 (b + 2) (a * 10 + i) ∧ τ = σ) := by
  refine G.met (by decide) (Nat.le_of_ble_eq_true rfl) ?_
  show G _ _ _ 0 [some (.ref (b + 1)), some (.int (nI a)), some (.int (nI i))] [] σ
  refine gs_aload_n dX5_at_0 rfl rfl ?_
  refine g_getR dX5_at_1 fX5_9 (kMa_queues hb) (by decide) (rQu_order hb) ?_
  refine gs_iload_n dX5_at_4 rfl rfl ?_
  refine g_bipush (v := nI 10) dX5_at_5 (by decide) ?_
  refine g_imul dX5_at_7 (by first | exact pk_mul _ _ | rfl) ?_
  refine gs_iload_n dX5_at_8 rfl rfl ?_
  refine g_iadd dX5_at_9 (by first | exact nI_add _ _ | rfl) ?_
  refine g_iald dX5_at_10 (kQu_order hb) (by omega) rfl ?_
  refine g_ireturn dX5_at_11 rfl ?_
  exact ⟨_, rfl, rfl, rfl⟩
def dpI (b a : Nat) (σ0 : Mm) (l : List Nat) (g i : Nat) (σ : Mm) : Prop :=
  σ.2 = σ0.2 ∧ (∀ x, x ≠ b + 2 → x ≠ b + 3 → σ.1 x = σ0.1 x) ∧ (∀ j, j ≠ a → σ.1 (b + 3) j = σ0.1 (b + 3) j) ∧ σ.1 (b + 3) a = nI (l.length - 1) ∧ (∀ j, ¬ (a * 10 ≤ j ∧ j < a * 10 + 10) → σ.1 (b + 2) j = σ0.1 (b + 2) j) ∧ ∀ j, j < l.length → σ.1 (b + 2) (a * 10 + j) = nI (l.getD (if g ≤ j ∧ j < i then j + 1 else j) 0)
theorem dpI_s {b a : Nat} {σ0 : Mm} {l : List Nat} {g i : Nat} {σ : Mm} (h : dpI b a σ0 l g i σ) (hl : l.length ≤ 10) (hg : g ≤ i) (hi : i + 1 < l.length) : dpI b a σ0 l g (i + 1) (wI σ (b + 2) (a * 10 + i) (σ.1 (b + 2) (a * 10 + (i + 1)))) := by
  obtain ⟨h1, h2, h3, h4, h5, h6⟩ := h
  refine ⟨h1, fun x q1 q2 => ?_, fun j hj => ?_, ?_, fun j hj => ?_, fun j hj => ?_⟩
  · funext k; rw [wI_at, if_neg (by omega)]; rw [h2 x q1 q2]
  · rw [wI_at, if_neg (by omega)]; exact h3 j hj
  · rw [wI_at, if_neg (by omega)]; exact h4
  · rw [wI_at, if_neg (by omega)]; exact h5 j hj
  · rw [wI_at]
    by_cases e : j = i
    · subst e
      rw [if_pos ⟨rfl, rfl⟩, if_pos ⟨hg, by omega⟩, h6 (j + 1) hi, if_neg (by omega)]
    · rw [if_neg (by omega), h6 j hj]
      have e2 : (g ≤ j ∧ j < i) ↔ (g ≤ j ∧ j < i + 1) := by omega
      simp only [e2]
theorem l_drop {b : Nat} (hb : mch b) {σ0 : Mm} {K : Option Value → Mm → Prop} {a t g : Nat} {l : List Nat} (ha : a < 4) (hl : l.length ≤ 10) (hK : ∀ σ, dpI b a σ0 l g (l.length - 1) σ → K none σ) : ∀ k i σ, i + k = l.length - 1 → g ≤ i → dpI b a σ0 l g i σ → G W0 mX5_drop K 26 [some (.ref (b + 1)), some (.int (nI a)), some (.int (nI t)), some (.int (nI g)), some (.int (nI i))] [] σ := by
  intro k
  induction k with
  | zero =>
    intro i σ hi hg h
    have e : i = l.length - 1 := by omega
    refine g_iload dX5_drop_26 rfl ?_
    refine gs_aload_n dX5_drop_28 rfl rfl ?_
    refine g_getR dX5_drop_29 fX5_15 (kMa_queues hb) (by decide) (rQu_size hb) ?_
    refine gs_iload_n dX5_drop_32 rfl rfl ?_
    refine g_iald dX5_drop_33 (kQu_size hb) ha h.2.2.2.1 ?_
    refine gt_icmp_ge (tgt := 64) dX5_drop_34 (by decide) (by omega) (by omega) (by omega) ?_
    refine g_return dX5_drop_64 rfl ?_
    rw [e] at h
    exact hK σ h
  | succ k ih =>
    intro i σ hi hg h
    refine g_iload dX5_drop_26 rfl ?_
    refine gs_aload_n dX5_drop_28 rfl rfl ?_
    refine g_getR dX5_drop_29 fX5_15 (kMa_queues hb) (by decide) (rQu_size hb) ?_
    refine gs_iload_n dX5_drop_32 rfl rfl ?_
    refine g_iald dX5_drop_33 (kQu_size hb) ha h.2.2.2.1 ?_
    refine gf_icmp_ge (tgt := 64) dX5_drop_34 (by decide) (by omega) (by omega) (by omega) ?_
    refine gs_aload_n dX5_drop_37 rfl rfl ?_
    refine g_getR dX5_drop_38 fX5_9 (kMa_queues hb) (by decide) (rQu_order hb) ?_
    refine gs_iload_n dX5_drop_41 rfl rfl ?_
    refine g_bipush (v := nI 10) dX5_drop_42 (by decide) ?_
    refine g_imul dX5_drop_44 (by first | exact pk_mul _ _ | rfl) ?_
    refine g_iload dX5_drop_45 rfl ?_
    refine g_iadd dX5_drop_47 (by first | exact nI_add _ _ | rfl) ?_
    refine gs_aload_n dX5_drop_48 rfl rfl ?_
    refine gs_iload_n dX5_drop_49 rfl rfl ?_
    refine g_iload dX5_drop_50 rfl ?_
    refine g_iconst (v := nI 1) dX5_drop_52 (by decide) ?_
    refine g_iadd dX5_drop_53 (by first | exact nI_add _ _ | rfl) ?_
    refine g_cVI2 dX5_drop_54 vX5_24 (by decide) (kMa_queues hb) (by decide) (Nat.le_of_ble_eq_true rfl) (c_at0 hb ha (by omega)) ?_
    rintro _ σ ⟨rfl, e9⟩
    subst e9
    refine g_iast dX5_drop_57 (kQu_order hb) (by omega) ?_
    refine gs_iinc (ls' := [_, _, _, _, _]) dX5_drop_58 rfl (nI_add _ 1) rfl rfl ?_
    refine g_goto (tgt := 26) dX5_drop_61 (by decide) ?_
    exact ih (i + 1) _ (by omega) (by omega) (dpI_s h hl hg (by omega))
theorem nI_ne1 {g : Nat} (h : g < 100) : ¬ nI g = -1 := by
  have h0 : ∀ g, g < 100 → ¬ nI g = -1 := by decide
  exact h0 g h
theorem c_drop {b : Nat} {σ : Mm} {S : Sx} {Tf : Nat → Nat} (hb : mch b) (hR : RepC b σ S Tf) (hB : Bd S) {a t : Nat} (ha : a < 4) (ht : t < 100) (hq : ∀ i, (S.2.2 a).getD i 0 < 100) : RV W0 mX5_drop [.ref (b + 1), .int (nI a), .int (nI t)] σ (fun τ => Cq b σ (setQ S a ((S.2.2 a).erase t)) Tf (σ.1 (b + 5)) τ) := by
  obtain ⟨hl, hsz, hor⟩ := hR.2.2.2.2 a ha
  have hpo := c_placeOf hb hR hB ha ht hq
  cases hp : poS (S.2.2 a) t with
  | none =>
    rw [hp] at hpo
    have hpo : RI W0 mX5_placeOf [.ref (b + 1), .int (nI a), .int (nI t)] σ (fun r τ => r = -1 ∧ τ = σ) := hpo
    have e : setQ S a ((S.2.2 a).erase t) = S := by
      rw [List.erase_of_not_mem (poS_none hp)]
      refine Prod.ext rfl (Prod.ext rfl ?_)
      funext a'
      show (if a' = a then S.2.2 a else S.2.2 a') = S.2.2 a'
      split
      · next z => rw [z]
      · rfl
    refine G.met (by decide) (Nat.le_of_ble_eq_true rfl) ?_
    show G _ _ _ 0 [some (.ref (b + 1)), some (.int (nI a)), some (.int (nI t)), none, none] [] σ
    refine gs_aload_n dX5_drop_0 rfl rfl ?_
    refine gs_iload_n dX5_drop_1 rfl rfl ?_
    refine gs_iload_n dX5_drop_2 rfl rfl ?_
    refine g_cVI2 dX5_drop_3 vX5_28 (by decide) (kMa_queues hb) (by decide) (Nat.le_of_ble_eq_true rfl) hpo ?_
    rintro _ σ ⟨rfl, e9⟩
    subst e9
    refine gs_istore_n (ls' := [_, _, _, _, _]) dX5_drop_6 rfl rfl rfl ?_
    refine gs_iload_n dX5_drop_7 rfl rfl ?_
    refine g_iconst (v := -1) dX5_drop_8 (by decide) ?_
    refine rf_icmp_ne (tgt := 13) dX5_drop_9 (by decide) (by decide) ?_
    refine g_return dX5_drop_12 rfl ?_
    exact ⟨rfl, by rw [e]; exact Cq.rf hR⟩
  | some g =>
    rw [hp] at hpo
    have hpo : RI W0 mX5_placeOf [.ref (b + 1), .int (nI a), .int (nI t)] σ (fun r τ => r = nI g ∧ τ = σ) := hpo
    obtain ⟨g1, g2, g3⟩ := poS_some hp
    obtain ⟨e1, e2⟩ := er_spec (S.2.2 a) g g1 g2 g3
    refine G.met (by decide) (Nat.le_of_ble_eq_true rfl) ?_
    show G _ _ _ 0 [some (.ref (b + 1)), some (.int (nI a)), some (.int (nI t)), none, none] [] σ
    refine gs_aload_n dX5_drop_0 rfl rfl ?_
    refine gs_iload_n dX5_drop_1 rfl rfl ?_
    refine gs_iload_n dX5_drop_2 rfl rfl ?_
    refine g_cVI2 dX5_drop_3 vX5_28 (by decide) (kMa_queues hb) (by decide) (Nat.le_of_ble_eq_true rfl) hpo ?_
    rintro _ σ ⟨rfl, e9⟩
    subst e9
    refine gs_istore_n (ls' := [_, _, _, _, _]) dX5_drop_6 rfl rfl rfl ?_
    refine gs_iload_n dX5_drop_7 rfl rfl ?_
    refine g_iconst (v := -1) dX5_drop_8 (by decide) ?_
    refine rt_icmp_ne (tgt := 13) dX5_drop_9 (by decide) (nI_ne1 (by omega)) ?_
    refine gs_aload_n dX5_drop_13 rfl rfl ?_
    refine g_getR dX5_drop_14 fX5_15 (kMa_queues hb) (by decide) (rQu_size hb) ?_
    refine gs_iload_n dX5_drop_17 rfl rfl ?_
    refine g_dup2 dX5_drop_18 rfl rfl ?_
    refine g_iald dX5_drop_19 (kQu_size hb) ha hsz ?_
    refine g_iconst (v := nI 1) dX5_drop_20 (by decide) ?_
    refine g_isub dX5_drop_21 (pk_sub (show 1 ≤ (S.2.2 a).length by omega)) ?_
    refine g_iast dX5_drop_22 (kQu_size hb) ha ?_
    refine gs_iload_n dX5_drop_23 rfl rfl ?_
    refine gs_istore (ls' := [_, _, _, _, _]) dX5_drop_24 rfl rfl ?_
    have hfin : ∀ τ, dpI b a σ (S.2.2 a) g ((S.2.2 a).length - 1) τ → Cq b σ (setQ S a ((S.2.2 a).erase t)) Tf (σ.1 (b + 5)) τ := by
      intro τ h
      obtain ⟨h1, h2, h3, h4, h5, h6⟩ := h
      refine (Cq.rf hR).q hb hB h2 h1 (cQu_one hR.2.2.2.2 ha (by omega) h3 (by rw [h4]; congr 1; omega) h5 (fun j hj => ?_))
      rw [h6 j (by omega), e2 j]
      by_cases hj2 : j < g
      · rw [if_neg (by omega), if_pos hj2]
      · rw [if_pos (by omega), if_neg hj2]
    refine l_drop (σ0 := σ) (l := S.2.2 a) hb ha hl (fun τ h => ⟨rfl, hfin τ h⟩) ((S.2.2 a).length - 1 - g) g _ (by omega) (Nat.le_refl _) ?_
    · refine ⟨rfl, fun x q1 q2 => ?_, fun j hj => ?_, ?_, fun j hj => ?_, fun j hj => ?_⟩
      · funext k; rw [wI_at, if_neg (by omega)]
      · rw [wI_at, if_neg (by omega)]
      · rw [wI_at, if_pos ⟨rfl, rfl⟩]
      · rw [wI_at, if_neg (by omega)]
      · rw [wI_at, if_neg (by omega), if_neg (by omega), Nat.mul_comm]; exact hor j hj
