/-! Measuring: of the class, over any world that has a board; of the reference. -/
def fr45 (σ0 σ : Mm) : Prop := (∀ a, a ≠ 4 → a ≠ 5 → σ.1 a = σ0.1 a) ∧ σ.2 = σ0.2
theorem fr45.rf (σ : Mm) : fr45 σ σ := ⟨fun _ _ _ => rfl, rfl⟩
theorem fr45.w {σ0 σ : Mm} (h : fr45 σ0 σ) {a j : Nat} {v : Int32} (ha : a = 4 ∨ a = 5) : fr45 σ0 (wI σ a j v) := by
  refine ⟨fun x h4 h5 => ?_, h.2⟩
  have e : (wI σ a j v).1 x = σ.1 x := if_neg (by omega)
  rw [e]; exact h.1 x h4 h5
def Sm (n : Nat) (E : Dm) (σ : Mm) : Prop := ∀ x y, x < n → y < n → σ.1 4 (x * 4 + y) = nI (E x y)
theorem Sm.up {n : Nat} {E : Dm} {σ : Mm} (h : Sm n E σ) (hn : n ≤ 4) {a b v : Nat} (ha : a < n) (hb : b < n) : Sm n (u2 E a b v) (wI σ 4 (a * 4 + b) (nI v)) := by
  intro x y hx hy
  rw [wI_at]
  show _ = nI (if x = a ∧ y = b then v else E x y)
  by_cases e : x = a ∧ y = b
  · rw [if_pos e, if_pos ⟨rfl, by rw [e.1, e.2]⟩]
  · rw [if_neg e, if_neg (by omega)]; exact h x y hx hy
theorem u2_self (E : Dm) (a b : Nat) : u2 E a b (E a b) = E := by
  funext x y
  show (if x = a ∧ y = b then E a b else E x y) = _
  by_cases e : x = a ∧ y = b
  · rw [if_pos e, e.1, e.2]
  · rw [if_neg e]
theorem r_distance {Ω : Nat × Nat} (hΩ : bdW Ω) {σ : Mm} {a c v : Nat} (ha : a < 4) (hc : c < 4) (hv : σ.1 4 (a * 4 + c) = nI v) : RI Ω mX1_distance [.ref 1, .int (nI a), .int (nI c)] σ (fun r τ => r = nI v ∧ τ = σ) := by
  refine G.met (by decide) (Nat.le_of_ble_eq_true rfl) ?_
  show G _ _ _ 0 [some (.ref 1), some (.int (nI a)), some (.int (nI c))] [] σ
  refine gs_aload_n dX1_distance_0 rfl rfl ?_
  refine g_getR dX1_distance_1 fX1_18 hΩ.1 (by decide) rBd_sums ?_
  refine gs_iload_n dX1_distance_4 rfl rfl ?_
  refine g_iconst (v := nI 4) dX1_distance_5 (by decide) ?_
  refine g_imul dX1_distance_6 (by first | exact pk_mul _ _ | rfl) ?_
  refine gs_iload_n dX1_distance_7 rfl rfl ?_
  refine g_iadd dX1_distance_8 (by first | exact nI_add _ _ | rfl) ?_
  refine g_iald dX1_distance_9 hΩ.2.2.2.1 (by omega) hv ?_
  refine g_ireturn dX1_distance_10 rfl ?_
  exact ⟨_, rfl, rfl, rfl⟩
theorem r_reaches {Ω : Nat × Nat} (hΩ : bdW Ω) {σ : Mm} {a c v : Nat} (ha : a < 4) (hc : c < 4) (hv : σ.1 4 (a * 4 + c) = nI v) (hv1 : v ≤ 1000) : RI Ω mX1_reaches [.ref 1, .int (nI a), .int (nI c)] σ (fun r τ => r = bI (decide (v < 1000)) ∧ τ = σ) := by
  refine G.met (by decide) (Nat.le_of_ble_eq_true rfl) ?_
  show G _ _ _ 0 [some (.ref 1), some (.int (nI a)), some (.int (nI c))] [] σ
  refine gs_aload_n dX1_reaches_0 rfl rfl ?_
  refine g_getR dX1_reaches_1 fX1_18 hΩ.1 (by decide) rBd_sums ?_
  refine gs_iload_n dX1_reaches_4 rfl rfl ?_
  refine g_iconst (v := nI 4) dX1_reaches_5 (by decide) ?_
  refine g_imul dX1_reaches_6 (by first | exact pk_mul _ _ | rfl) ?_
  refine gs_iload_n dX1_reaches_7 rfl rfl ?_
  refine g_iadd dX1_reaches_8 (by first | exact nI_add _ _ | rfl) ?_
  refine g_iald dX1_reaches_9 hΩ.2.2.2.1 (by omega) hv ?_
  refine g_sipush (v := nI 1000) dX1_reaches_10 (by decide) ?_
  refine gn_icmp_ge (tgt := 20) dX1_reaches_13 (by decide) (by omega) (by omega) (fun c13 => ?_) (fun c13 => ?_)
  · refine g_iconst (v := nI 0) dX1_reaches_20 (by decide) ?_
    refine g_zreturn dX1_reaches_21 rfl (by first | exact bI_01 _ | decide) ?_
    exact ⟨_, rfl, by rw [decide_eq_false (by omega)]; rfl, rfl⟩
  · refine g_iconst (v := nI 1) dX1_reaches_16 (by decide) ?_
    refine g_goto (tgt := 21) dX1_reaches_17 (by decide) ?_
    refine g_zreturn dX1_reaches_21 rfl (by first | exact bI_01 _ | decide) ?_
    exact ⟨_, rfl, by rw [decide_eq_true (by omega)]; rfl, rfl⟩
def Prc (n : Nat) (P : Dm) (σ : Mm) : Prop := (∀ a b, a < n → b < n → a ≠ b → σ.1 2 (ed a b) = nI (P a b)) ∧ ∀ a b, P a b ≤ 9
theorem Prc.fr {n : Nat} {P : Dm} {σ0 σ : Mm} (h : Prc n P σ0) (hf : fr45 σ0 σ) : Prc n P σ := ⟨fun a b ha hb he => by rw [hf.1 2 (by decide) (by decide)]; exact h.1 a b ha hb he, h.2⟩
theorem r_direct {Ω : Nat × Nat} (hΩ : bdW Ω) {σ : Mm} {n : Nat} {P : Dm} (hn : n ≤ 4) (hP : Prc n P σ) {a c : Nat} (ha : a < n) (hc : c < n) : RI Ω mX1_direct [.ref 1, .int (nI a), .int (nI c)] σ (fun r τ => r = nI (dir P a c) ∧ τ = σ) := by
  have b1 := hP.2 a c
  refine G.met (by decide) (Nat.le_of_ble_eq_true rfl) ?_
  show G _ _ _ 0 [some (.ref 1), some (.int (nI a)), some (.int (nI c)), none] [] σ
  refine gs_iload_n dX1_direct_0 rfl rfl ?_
  refine gs_iload_n dX1_direct_1 rfl rfl ?_
  refine gn_icmp_ne (tgt := 7) dX1_direct_2 (by decide) (by omega) (by omega) (fun c2 => ?_) (fun c2 => ?_)
  · refine gs_aload_n dX1_direct_7 rfl rfl ?_
    refine g_getR dX1_direct_8 fX1_9 hΩ.1 (by decide) rBd_price ?_
    refine gs_aload_n dX1_direct_11 rfl rfl ?_
    refine gs_iload_n dX1_direct_12 rfl rfl ?_
    refine gs_iload_n dX1_direct_13 rfl rfl ?_
    refine g_cVI2 dX1_direct_14 vX1_60 (by decide) hΩ.1 (by decide) (Nat.le_of_ble_eq_true rfl) (s_edge (by omega) (by omega)) ?_
    rintro _ σ ⟨rfl, e9⟩
    subst e9
    refine g_iald dX1_direct_17 hΩ.2.1 (ed_lt (by omega) (by omega)) (hP.1 a c ha hc c2) ?_
    refine gs_istore_n (ls' := [_, _, _, _]) dX1_direct_18 rfl rfl rfl ?_
    refine gs_iload_n dX1_direct_19 rfl rfl ?_
    refine gn_if_ne (tgt := 29) dX1_direct_20 (by decide) (by omega) (fun c20 => ?_) (fun c20 => ?_)
    · refine gs_iload_n dX1_direct_29 rfl rfl ?_
      refine g_ireturn dX1_direct_30 rfl ?_
      exact ⟨_, rfl, by rw [dir, if_neg c2, if_neg (by omega)], rfl⟩
    · refine g_sipush (v := nI 1000) dX1_direct_23 (by decide) ?_
      refine g_goto (tgt := 30) dX1_direct_26 (by decide) ?_
      refine g_ireturn dX1_direct_30 rfl ?_
      exact ⟨_, rfl, by rw [dir, if_neg c2, if_pos c20], rfl⟩
  · refine g_iconst (v := nI 0) dX1_direct_5 (by decide) ?_
    refine g_ireturn dX1_direct_6 rfl ?_
    exact ⟨_, rfl, by rw [dir, if_pos c2], rfl⟩
theorem cl_shB {Ω : Nat × Nat} (hΩ : bdW Ω) {σ0 : Mm} {n m : Nat} {D : Dm} {c : Nat} {K : Option Value → Mm → Prop} (hn4 : n ≤ 4) (hm : m < n) (hN : σ0.1 1 0 = nI n) (hd : D m m = 0) (hF : Fi c D) {a : Nat} (ha : a < n) (hK : ∀ σ, fr45 σ0 σ → Sm n (fwA n m (a + 1) D) σ → G Ω mX1_shortenOver K 64 [some (.ref 1), some (.int (nI m)), some (.int (nI a)), none, none] [] σ) : ∀ k b σ, b + k = n → fr45 σ0 σ → Sm n (fwB m a b (fwA n m a D)) σ → G Ω mX1_shortenOver K 12 [some (.ref 1), some (.int (nI m)), some (.int (nI a)), some (.int (nI b)), none] [] σ := by
  intro k
  induction k with
  | zero =>
    intro b σ hb hf hSm
    have e : b = n := by omega
    refine gs_iload_n dX1_shortenOver_12 rfl rfl ?_
    refine gs_aload_n dX1_shortenOver_13 rfl rfl ?_
    refine g_getI dX1_shortenOver_14 fX1_24 hΩ.1 (by decide) (show σ.1 1 0 = nI n from (congrFun (hf.1 1 (by decide) (by decide)) 0).trans hN) ?_
    refine gt_icmp_ge (tgt := 64) dX1_shortenOver_17 (by decide) (by omega) (by omega) (by omega) ?_
    refine G.drop 3 (ls' := [_, _, _, none, none]) rfl ?_
    rw [e] at hSm
    exact hK σ hf hSm
  | succ k ih =>
    intro b σ hb hf hSm
    have hbn : b < n := by omega
    have hFe := hF.e (n := n) (a := a) (k := b) hd
    obtain ⟨E, hE⟩ : ∃ E, E = fwB m a b (fwA n m a D) := ⟨_, rfl⟩
    have hn1 : fwB m a (b + 1) (fwA n m a D) = u2 E a b (min (E a b) (E a m + E m b)) := by rw [hE]; rfl
    rw [← hE] at hSm hFe
    have q1 := (hFe a b).1
    have q2 := (hFe a m).1
    have q3 := (hFe m b).1
    refine gs_iload_n dX1_shortenOver_12 rfl rfl ?_
    refine gs_aload_n dX1_shortenOver_13 rfl rfl ?_
    refine g_getI dX1_shortenOver_14 fX1_24 hΩ.1 (by decide) (show σ.1 1 0 = nI n from (congrFun (hf.1 1 (by decide) (by decide)) 0).trans hN) ?_
    refine gf_icmp_ge (tgt := 64) dX1_shortenOver_17 (by decide) (by omega) (by omega) (by omega) ?_
    refine gs_aload_n dX1_shortenOver_20 rfl rfl ?_
    refine gs_iload_n dX1_shortenOver_21 rfl rfl ?_
    refine gs_iload_n dX1_shortenOver_22 rfl rfl ?_
    refine g_cVI2 dX1_shortenOver_23 vX1_73 (by decide) hΩ.1 (by decide) (Nat.le_of_ble_eq_true rfl) (r_distance hΩ (by omega) (by omega) (hSm a m ha hm)) ?_
    rintro _ σ ⟨rfl, e9⟩
    subst e9
    refine gs_aload_n dX1_shortenOver_26 rfl rfl ?_
    refine gs_iload_n dX1_shortenOver_27 rfl rfl ?_
    refine gs_iload_n dX1_shortenOver_28 rfl rfl ?_
    refine g_cVI2 dX1_shortenOver_29 vX1_73 (by decide) hΩ.1 (by decide) (Nat.le_of_ble_eq_true rfl) (r_distance hΩ (by omega) (by omega) (hSm m b hm hbn)) ?_
    rintro _ σ ⟨rfl, e9⟩
    subst e9
    refine g_iadd dX1_shortenOver_32 (by first | exact nI_add _ _ | rfl) ?_
    refine gs_istore (ls' := [_, _, _, _, _]) dX1_shortenOver_33 rfl rfl ?_
    refine g_iload dX1_shortenOver_35 rfl ?_
    refine gs_aload_n dX1_shortenOver_37 rfl rfl ?_
    refine gs_iload_n dX1_shortenOver_38 rfl rfl ?_
    refine gs_iload_n dX1_shortenOver_39 rfl rfl ?_
    refine g_cVI2 dX1_shortenOver_40 vX1_73 (by decide) hΩ.1 (by decide) (Nat.le_of_ble_eq_true rfl) (r_distance hΩ (by omega) (by omega) (hSm a b ha hbn)) ?_
    rintro _ σ ⟨rfl, e9⟩
    subst e9
    refine gn_icmp_ge (tgt := 58) dX1_shortenOver_43 (by decide) (by omega) (by omega) (fun c43 => ?_) (fun c43 => ?_)
    · refine gs_iinc (ls' := [_, _, _, _, _]) dX1_shortenOver_58 rfl (nI_add _ 1) rfl rfl ?_
      refine g_goto (tgt := 12) dX1_shortenOver_61 (by decide) ?_
      refine G.drop 4 (ls' := [_, _, _, _, none]) rfl ?_
      exact ih (b + 1) _ (by omega) hf (by rw [hn1, Nat.min_eq_left c43, u2_self]; exact hSm)
    · refine gs_aload_n dX1_shortenOver_46 rfl rfl ?_
      refine g_getR dX1_shortenOver_47 fX1_18 hΩ.1 (by decide) rBd_sums ?_
      refine gs_iload_n dX1_shortenOver_50 rfl rfl ?_
      refine g_iconst (v := nI 4) dX1_shortenOver_51 (by decide) ?_
      refine g_imul dX1_shortenOver_52 (by first | exact pk_mul _ _ | rfl) ?_
      refine gs_iload_n dX1_shortenOver_53 rfl rfl ?_
      refine g_iadd dX1_shortenOver_54 (by first | exact nI_add _ _ | rfl) ?_
      refine g_iload dX1_shortenOver_55 rfl ?_
      refine g_iast dX1_shortenOver_57 hΩ.2.2.2.1 (by omega) ?_
      refine gs_iinc (ls' := [_, _, _, _, _]) dX1_shortenOver_58 rfl (nI_add _ 1) rfl rfl ?_
      refine g_goto (tgt := 12) dX1_shortenOver_61 (by decide) ?_
      refine G.drop 4 (ls' := [_, _, _, _, none]) rfl ?_
      exact ih (b + 1) _ (by omega) (hf.w (Or.inl rfl)) (by rw [hn1, Nat.min_eq_right (by omega)]; exact hSm.up hn4 ha hbn)
theorem cl_shA {Ω : Nat × Nat} (hΩ : bdW Ω) {σ0 : Mm} {n m : Nat} {D : Dm} {c : Nat} {K : Option Value → Mm → Prop} (hn4 : n ≤ 4) (hm : m < n) (hN : σ0.1 1 0 = nI n) (hd : D m m = 0) (hF : Fi c D) (hK : ∀ σ, fr45 σ0 σ → Sm n (fwA n m n D) σ → K none σ) : ∀ k a σ, a + k = n → fr45 σ0 σ → Sm n (fwA n m a D) σ → G Ω mX1_shortenOver K 2 [some (.ref 1), some (.int (nI m)), some (.int (nI a)), none, none] [] σ := by
  intro k
  induction k with
  | zero =>
    intro a σ ha hf hSm
    have e : a = n := by omega
    refine gs_iload_n dX1_shortenOver_2 rfl rfl ?_
    refine gs_aload_n dX1_shortenOver_3 rfl rfl ?_
    refine g_getI dX1_shortenOver_4 fX1_24 hΩ.1 (by decide) (show σ.1 1 0 = nI n from (congrFun (hf.1 1 (by decide) (by decide)) 0).trans hN) ?_
    refine gt_icmp_ge (tgt := 70) dX1_shortenOver_7 (by decide) (by omega) (by omega) (by omega) ?_
    refine g_return dX1_shortenOver_70 rfl ?_
    rw [e] at hSm
    exact hK σ hf hSm
  | succ k ih =>
    intro a σ ha hf hSm
    have han : a < n := by omega
    refine gs_iload_n dX1_shortenOver_2 rfl rfl ?_
    refine gs_aload_n dX1_shortenOver_3 rfl rfl ?_
    refine g_getI dX1_shortenOver_4 fX1_24 hΩ.1 (by decide) (show σ.1 1 0 = nI n from (congrFun (hf.1 1 (by decide) (by decide)) 0).trans hN) ?_
    refine gf_icmp_ge (tgt := 70) dX1_shortenOver_7 (by decide) (by omega) (by omega) (by omega) ?_
    refine g_iconst (v := nI 0) dX1_shortenOver_10 (by decide) ?_
    refine gs_istore_n (ls' := [_, _, _, _, _]) dX1_shortenOver_11 rfl rfl rfl ?_
    refine cl_shB hΩ hn4 hm hN hd hF han (fun σ hf hSm => ?_) n 0 _ (by omega) hf hSm
    refine gs_iinc (ls' := [_, _, _, _, _]) dX1_shortenOver_64 rfl (nI_add _ 1) rfl rfl ?_
    refine g_goto (tgt := 2) dX1_shortenOver_67 (by decide) ?_
    exact ih (a + 1) _ (by omega) hf hSm
theorem r_shorten {Ω : Nat × Nat} (hΩ : bdW Ω) {σ : Mm} {n m : Nat} {D : Dm} {c : Nat} (hn4 : n ≤ 4) (hm : m < n) (hN : σ.1 1 0 = nI n) (hd : D m m = 0) (hF : Fi c D) (hSm : Sm n D σ) : RV Ω mX1_shortenOver [.ref 1, .int (nI m)] σ (fun τ => fr45 σ τ ∧ Sm n (fwA n m n D) τ) := by
  refine G.met (by decide) (Nat.le_of_ble_eq_true rfl) ?_
  show G _ _ _ 0 [some (.ref 1), some (.int (nI m)), none, none, none] [] σ
  refine g_iconst (v := nI 0) dX1_shortenOver_0 (by decide) ?_
  refine gs_istore_n (ls' := [_, _, _, _, _]) dX1_shortenOver_1 rfl rfl rfl ?_
  exact cl_shA hΩ hn4 hm hN hd hF (fun τ h1 h2 => ⟨rfl, h1, h2⟩) n 0 _ (by omega) (fr45.rf _) hSm
def lhL (P D : Dm) (a b : Nat) : Nat → Nat → Nat
  | 0, _ => b
  | k + 1, v => if v ≠ a ∧ dir P a v + D v b = D a b then v else lhL P D a b k (v + 1)
def lhF (P D : Dm) (n : Nat) : Dm := fun a b => if a ≠ b ∧ D a b < 1000 then lhL P D a b n 0 else b
theorem dir_le {P : Dm} (hP : ∀ a b, P a b ≤ 9) (a b : Nat) : dir P a b ≤ 1000 := by
  have := hP a b
  unfold dir
  split
  · omega
  · split <;> omega
theorem cl_least {Ω : Nat × Nat} (hΩ : bdW Ω) {σ : Mm} {n : Nat} {P D : Dm} (hn4 : n ≤ 4) (hN : σ.1 1 0 = nI n) (hP : Prc n P σ) (hSm : Sm n D σ) (hD : ∀ x y, D x y ≤ 1000) {a b : Nat} (ha : a < n) (hb : b < n) {K : Option Value → Mm → Prop} (hne : a ≠ b) (hr : D a b < 1000) {R : Nat} (hK : K (some (.int (nI R))) σ) : ∀ k v, v + k = n → lhL P D a b k v = R → G Ω mX1_leastHop K 2 [some (.ref 1), some (.int (nI a)), some (.int (nI b)), some (.int (nI v))] [] σ := by
  intro k
  induction k with
  | zero =>
    intro v hv hR0
    have e : b = R := hR0
    refine gs_iload_n dX1_leastHop_2 rfl rfl ?_
    refine gs_aload_n dX1_leastHop_3 rfl rfl ?_
    refine g_getI dX1_leastHop_4 fX1_24 hΩ.1 (by decide) hN ?_
    refine gt_icmp_ge (tgt := 59) dX1_leastHop_7 (by decide) (by omega) (by omega) (by omega) ?_
    refine gs_iload_n dX1_leastHop_59 rfl rfl ?_
    refine g_ireturn dX1_leastHop_60 rfl ?_
    rw [← e] at hK
    exact hK
  | succ k ih =>
    intro v hv hR0
    have hvn : v < n := by omega
    have q1 := dir_le hP.2 a v
    have q2 := hD v b
    have q3 := hD a b
    refine gs_iload_n dX1_leastHop_2 rfl rfl ?_
    refine gs_aload_n dX1_leastHop_3 rfl rfl ?_
    refine g_getI dX1_leastHop_4 fX1_24 hΩ.1 (by decide) hN ?_
    refine gf_icmp_ge (tgt := 59) dX1_leastHop_7 (by decide) (by omega) (by omega) (by omega) ?_
    refine gs_iload_n dX1_leastHop_10 rfl rfl ?_
    refine gs_iload_n dX1_leastHop_11 rfl rfl ?_
    refine gf_icmp_eq (tgt := 59) dX1_leastHop_12 (by decide) (by omega) (by omega) hne ?_
    refine gs_aload_n dX1_leastHop_15 rfl rfl ?_
    refine gs_iload_n dX1_leastHop_16 rfl rfl ?_
    refine gs_iload_n dX1_leastHop_17 rfl rfl ?_
    refine g_cVI2 dX1_leastHop_18 vX1_76 (by decide) hΩ.1 (by decide) (Nat.le_of_ble_eq_true rfl) (r_reaches hΩ (by omega) (by omega) (hSm a b ha hb) (hD a b)) ?_
    rintro _ σ ⟨rfl, e9⟩
    subst e9
    refine gb_if_eq (tgt := 59) dX1_leastHop_21 (by decide) (fun c21 => ?_) (fun c21 => ?_)
    · refine gs_iload_n dX1_leastHop_59 rfl rfl ?_
      refine g_ireturn dX1_leastHop_60 rfl ?_
      exact absurd hr (by simpa using c21)
    · refine gs_iload_n dX1_leastHop_24 rfl rfl ?_
      refine gs_iload_n dX1_leastHop_25 rfl rfl ?_
      refine gn_icmp_eq (tgt := 53) dX1_leastHop_26 (by decide) (by omega) (by omega) (fun c26 => ?_) (fun c26 => ?_)
      · refine gs_iinc (ls' := [_, _, _, _]) dX1_leastHop_53 rfl (nI_add _ 1) rfl rfl ?_
        refine g_goto (tgt := 2) dX1_leastHop_56 (by decide) ?_
        exact ih (v + 1) (by omega) (by rw [← hR0]; exact (if_neg (fun z => z.1 c26)).symm)
      · refine gs_aload_n dX1_leastHop_29 rfl rfl ?_
        refine gs_iload_n dX1_leastHop_30 rfl rfl ?_
        refine gs_iload_n dX1_leastHop_31 rfl rfl ?_
        refine g_cVI2 dX1_leastHop_32 vX1_63 (by decide) hΩ.1 (by decide) (Nat.le_of_ble_eq_true rfl) (r_direct hΩ hn4 hP ha hvn) ?_
        rintro _ σ ⟨rfl, e9⟩
        subst e9
        refine gs_aload_n dX1_leastHop_35 rfl rfl ?_
        refine gs_iload_n dX1_leastHop_36 rfl rfl ?_
        refine gs_iload_n dX1_leastHop_37 rfl rfl ?_
        refine g_cVI2 dX1_leastHop_38 vX1_73 (by decide) hΩ.1 (by decide) (Nat.le_of_ble_eq_true rfl) (r_distance hΩ (by omega) (by omega) (hSm v b hvn hb)) ?_
        rintro _ σ ⟨rfl, e9⟩
        subst e9
        refine g_iadd dX1_leastHop_41 (by first | exact nI_add _ _ | rfl) ?_
        refine gs_aload_n dX1_leastHop_42 rfl rfl ?_
        refine gs_iload_n dX1_leastHop_43 rfl rfl ?_
        refine gs_iload_n dX1_leastHop_44 rfl rfl ?_
        refine g_cVI2 dX1_leastHop_45 vX1_73 (by decide) hΩ.1 (by decide) (Nat.le_of_ble_eq_true rfl) (r_distance hΩ (by omega) (by omega) (hSm a b ha hb)) ?_
        rintro _ σ ⟨rfl, e9⟩
        subst e9
        refine gn_icmp_ne (tgt := 53) dX1_leastHop_48 (by decide) (by omega) (by omega) (fun c48 => ?_) (fun c48 => ?_)
        · refine gs_iinc (ls' := [_, _, _, _]) dX1_leastHop_53 rfl (nI_add _ 1) rfl rfl ?_
          refine g_goto (tgt := 2) dX1_leastHop_56 (by decide) ?_
          exact ih (v + 1) (by omega) (by rw [← hR0]; exact (if_neg (fun z => c48 z.2)).symm)
        · refine gs_iload_n dX1_leastHop_51 rfl rfl ?_
          refine g_ireturn dX1_leastHop_52 rfl ?_
          rw [show lhL P D a b (k + 1) v = v from if_pos ⟨c26, c48⟩] at hR0
          rw [← hR0] at hK
          exact hK
theorem r_leastHop {Ω : Nat × Nat} (hΩ : bdW Ω) {σ : Mm} {n : Nat} {P D : Dm} (hn4 : n ≤ 4) (hN : σ.1 1 0 = nI n) (hP : Prc n P σ) (hSm : Sm n D σ) (hD : ∀ x y, D x y ≤ 1000) {a b : Nat} (ha : a < n) (hb : b < n) : RI Ω mX1_leastHop [.ref 1, .int (nI a), .int (nI b)] σ (fun r τ => r = nI (lhF P D n a b) ∧ τ = σ) := by
  refine G.met (by decide) (Nat.le_of_ble_eq_true rfl) ?_
  show G _ _ _ 0 [some (.ref 1), some (.int (nI a)), some (.int (nI b)), none] [] σ
  by_cases h : a ≠ b ∧ D a b < 1000
  · refine g_iconst (v := nI 0) dX1_leastHop_0 (by decide) ?_
    refine gs_istore_n (ls' := [_, _, _, _]) dX1_leastHop_1 rfl rfl rfl ?_
    exact cl_least hΩ hn4 hN hP hSm hD ha hb h.1 h.2 ⟨_, rfl, by rw [lhF, if_pos h], rfl⟩ n 0 (by omega) rfl
  · have hvn : 0 < n := by omega
    have hD3 := hD a b
    refine g_iconst (v := nI 0) dX1_leastHop_0 (by decide) ?_
    refine gs_istore_n (ls' := [_, _, _, _]) dX1_leastHop_1 rfl rfl rfl ?_
    refine gs_iload_n dX1_leastHop_2 rfl rfl ?_
    refine gs_aload_n dX1_leastHop_3 rfl rfl ?_
    refine g_getI dX1_leastHop_4 fX1_24 hΩ.1 (by decide) hN ?_
    refine gf_icmp_ge (tgt := 59) dX1_leastHop_7 (by decide) (by omega) (by omega) (by omega) ?_
    refine gs_iload_n dX1_leastHop_10 rfl rfl ?_
    refine gs_iload_n dX1_leastHop_11 rfl rfl ?_
    refine gn_icmp_eq (tgt := 59) dX1_leastHop_12 (by decide) (by omega) (by omega) (fun c12 => ?_) (fun c12 => ?_)
    · refine gs_iload_n dX1_leastHop_59 rfl rfl ?_
      refine g_ireturn dX1_leastHop_60 rfl ?_
      exact ⟨_, rfl, by rw [lhF, if_neg h], rfl⟩
    · refine gs_aload_n dX1_leastHop_15 rfl rfl ?_
      refine gs_iload_n dX1_leastHop_16 rfl rfl ?_
      refine gs_iload_n dX1_leastHop_17 rfl rfl ?_
      refine g_cVI2 dX1_leastHop_18 vX1_76 (by decide) hΩ.1 (by decide) (Nat.le_of_ble_eq_true rfl) (r_reaches hΩ (by omega) (by omega) (hSm a b ha hb) (hD a b)) ?_
      rintro _ σ ⟨rfl, e9⟩
      subst e9
      refine gb_if_eq (tgt := 59) dX1_leastHop_21 (by decide) (fun c21 => ?_) (fun c21 => ?_)
      · refine gs_iload_n dX1_leastHop_59 rfl rfl ?_
        refine g_ireturn dX1_leastHop_60 rfl ?_
        exact ⟨_, rfl, by rw [lhF, if_neg h], rfl⟩
      · exact absurd ⟨c12, by simpa using c21⟩ h
def Smp (n a b : Nat) (E : Dm) (σ : Mm) : Prop := ∀ x y, x < n → y < n → (x < a ∨ (x = a ∧ y < b)) → σ.1 4 (x * 4 + y) = nI (E x y)
theorem Smp.up {n a b : Nat} {E : Dm} {σ : Mm} (h : Smp n a b E σ) (hn : n ≤ 4) (ha : a < n) (hb : b < n) : Smp n a (b + 1) E (wI σ 4 (a * 4 + b) (nI (E a b))) := by
  intro x y hx hy hxy
  rw [wI_at]
  by_cases e : x = a ∧ y = b
  · rw [if_pos ⟨rfl, by rw [e.1, e.2]⟩, e.1, e.2]
  · rw [if_neg (by omega)]; exact h x y hx hy (by omega)
def Hmp (n a b : Nat) (E : Dm) (σ : Mm) : Prop := ∀ x y, x < n → y < n → (x < a ∨ (x = a ∧ y < b)) → σ.1 5 (x * 4 + y) = nI (E x y)
theorem Hmp.up {n a b : Nat} {E : Dm} {σ : Mm} (h : Hmp n a b E σ) (hn : n ≤ 4) (ha : a < n) (hb : b < n) : Hmp n a (b + 1) E (wI σ 5 (a * 4 + b) (nI (E a b))) := by
  intro x y hx hy hxy
  rw [wI_at]
  by_cases e : x = a ∧ y = b
  · rw [if_pos ⟨rfl, by rw [e.1, e.2]⟩, e.1, e.2]
  · rw [if_neg (by omega)]; exact h x y hx hy (by omega)
theorem Sm.w5 {n : Nat} {E : Dm} {σ : Mm} (h : Sm n E σ) {j : Nat} {v : Int32} : Sm n E (wI σ 5 j v) := by
  intro x y hx hy
  rw [wI_at, if_neg (by omega)]; exact h x y hx hy
theorem cl_m1B {Ω : Nat × Nat} (hΩ : bdW Ω) {σ0 : Mm} {n : Nat} {P : Dm} {K : Option Value → Mm → Prop} (hn4 : n ≤ 4) (hN : σ0.1 1 0 = nI n) (hP0 : Prc n P σ0) {a : Nat} (ha : a < n) (hK : ∀ σ, fr45 σ0 σ → Smp n a n (dir P) σ → G Ω mX1_measure K 42 [some (.ref 1), some (.int (nI a)), none] [] σ) : ∀ k b σ, b + k = n → fr45 σ0 σ → Smp n a b (dir P) σ → G Ω mX1_measure K 12 [some (.ref 1), some (.int (nI a)), some (.int (nI b))] [] σ := by
  intro k
  induction k with
  | zero =>
    intro b σ hb hf hSm
    have e : b = n := by omega
    refine gs_iload_n dX1_measure_12 rfl rfl ?_
    refine gs_aload_n dX1_measure_13 rfl rfl ?_
    refine g_getI dX1_measure_14 fX1_24 hΩ.1 (by decide) (show σ.1 1 0 = nI n from (congrFun (hf.1 1 (by decide) (by decide)) 0).trans hN) ?_
    refine gt_icmp_ge (tgt := 42) dX1_measure_17 (by decide) (by omega) (by omega) (by omega) ?_
    refine G.drop 2 (ls' := [_, _, none]) rfl ?_
    rw [e] at hSm
    exact hK σ hf hSm
  | succ k ih =>
    intro b σ hb hf hSm
    have hbn : b < n := by omega
    have hP := hP0.fr hf
    refine gs_iload_n dX1_measure_12 rfl rfl ?_
    refine gs_aload_n dX1_measure_13 rfl rfl ?_
    refine g_getI dX1_measure_14 fX1_24 hΩ.1 (by decide) (show σ.1 1 0 = nI n from (congrFun (hf.1 1 (by decide) (by decide)) 0).trans hN) ?_
    refine gf_icmp_ge (tgt := 42) dX1_measure_17 (by decide) (by omega) (by omega) (by omega) ?_
    refine gs_aload_n dX1_measure_20 rfl rfl ?_
    refine g_getR dX1_measure_21 fX1_18 hΩ.1 (by decide) rBd_sums ?_
    refine gs_iload_n dX1_measure_24 rfl rfl ?_
    refine g_iconst (v := nI 4) dX1_measure_25 (by decide) ?_
    refine g_imul dX1_measure_26 (by first | exact pk_mul _ _ | rfl) ?_
    refine gs_iload_n dX1_measure_27 rfl rfl ?_
    refine g_iadd dX1_measure_28 (by first | exact nI_add _ _ | rfl) ?_
    refine gs_aload_n dX1_measure_29 rfl rfl ?_
    refine gs_iload_n dX1_measure_30 rfl rfl ?_
    refine gs_iload_n dX1_measure_31 rfl rfl ?_
    refine g_cVI2 dX1_measure_32 vX1_63 (by decide) hΩ.1 (by decide) (Nat.le_of_ble_eq_true rfl) (r_direct hΩ hn4 hP ha hbn) ?_
    rintro _ σ ⟨rfl, e9⟩
    subst e9
    refine g_iast dX1_measure_35 hΩ.2.2.2.1 (by omega) ?_
    refine gs_iinc (ls' := [_, _, _]) dX1_measure_36 rfl (nI_add _ 1) rfl rfl ?_
    refine g_goto (tgt := 12) dX1_measure_39 (by decide) ?_
    exact ih (b + 1) _ (by omega) (hf.w (Or.inl rfl)) (hSm.up hn4 ha hbn)
theorem cl_m1A {Ω : Nat × Nat} (hΩ : bdW Ω) {σ0 : Mm} {n : Nat} {P : Dm} {K : Option Value → Mm → Prop} (hn4 : n ≤ 4) (hN : σ0.1 1 0 = nI n) (hP0 : Prc n P σ0) (hK : ∀ σ, fr45 σ0 σ → Sm n (dir P) σ → G Ω mX1_measure K 48 [some (.ref 1), none, none] [] σ) : ∀ k a σ, a + k = n → fr45 σ0 σ → Smp n a 0 (dir P) σ → G Ω mX1_measure K 2 [some (.ref 1), some (.int (nI a)), none] [] σ := by
  intro k
  induction k with
  | zero =>
    intro a σ ha hf hSm
    refine gs_iload_n dX1_measure_2 rfl rfl ?_
    refine gs_aload_n dX1_measure_3 rfl rfl ?_
    refine g_getI dX1_measure_4 fX1_24 hΩ.1 (by decide) (show σ.1 1 0 = nI n from (congrFun (hf.1 1 (by decide) (by decide)) 0).trans hN) ?_
    refine gt_icmp_ge (tgt := 48) dX1_measure_7 (by decide) (by omega) (by omega) (by omega) ?_
    refine G.drop 1 (ls' := [_, none, _]) rfl ?_
    exact hK σ hf (fun x y hx hy => hSm x y hx hy (by omega))
  | succ k ih =>
    intro a σ ha hf hSm
    have han : a < n := by omega
    refine gs_iload_n dX1_measure_2 rfl rfl ?_
    refine gs_aload_n dX1_measure_3 rfl rfl ?_
    refine g_getI dX1_measure_4 fX1_24 hΩ.1 (by decide) (show σ.1 1 0 = nI n from (congrFun (hf.1 1 (by decide) (by decide)) 0).trans hN) ?_
    refine gf_icmp_ge (tgt := 48) dX1_measure_7 (by decide) (by omega) (by omega) (by omega) ?_
    refine g_iconst (v := nI 0) dX1_measure_10 (by decide) ?_
    refine gs_istore_n (ls' := [_, _, _]) dX1_measure_11 rfl rfl rfl ?_
    refine cl_m1B hΩ hn4 hN hP0 han (fun σ hf hSm => ?_) n 0 _ (by omega) hf hSm
    refine gs_iinc (ls' := [_, _, _]) dX1_measure_42 rfl (nI_add _ 1) rfl rfl ?_
    refine g_goto (tgt := 2) dX1_measure_45 (by decide) ?_
    exact ih (a + 1) _ (by omega) hf (fun x y hx hy hxy => hSm x y hx hy (by omega))
theorem fr45.tr {a b c : Mm} (h : fr45 a b) (k : fr45 b c) : fr45 a c := ⟨fun x h4 h5 => (k.1 x h4 h5).trans (h.1 x h4 h5), k.2.trans h.2⟩
theorem cl_m2 {Ω : Nat × Nat} (hΩ : bdW Ω) {σ0 : Mm} {n : Nat} {P : Dm} {K : Option Value → Mm → Prop} (hn4 : n ≤ 4) (hN : σ0.1 1 0 = nI n) (hP0 : Prc n P σ0) (hK : ∀ σ, fr45 σ0 σ → Sm n (dst P n) σ → G Ω mX1_measure K 69 [some (.ref 1), none, none] [] σ) : ∀ k m σ, m + k = n → fr45 σ0 σ → Sm n (fwM n m (dir P)) σ → G Ω mX1_measure K 50 [some (.ref 1), some (.int (nI m)), none] [] σ := by
  intro k
  induction k with
  | zero =>
    intro m σ hm hf hSm
    have e : m = n := by omega
    refine gs_iload_n dX1_measure_50 rfl rfl ?_
    refine gs_aload_n dX1_measure_51 rfl rfl ?_
    refine g_getI dX1_measure_52 fX1_24 hΩ.1 (by decide) (show σ.1 1 0 = nI n from (congrFun (hf.1 1 (by decide) (by decide)) 0).trans hN) ?_
    refine gt_icmp_ge (tgt := 69) dX1_measure_55 (by decide) (by omega) (by omega) (by omega) ?_
    refine G.drop 1 (ls' := [_, none, _]) rfl ?_
    rw [e] at hSm
    exact hK σ hf hSm
  | succ k ih =>
    intro m σ hm hf hSm
    have hmn : m < n := by omega
    have hW := FW_all (n := n) hP0.2 m (by omega)
    have hNs : σ.1 1 0 = nI n := (congrFun (hf.1 1 (by decide) (by decide)) 0).trans hN
    refine gs_iload_n dX1_measure_50 rfl rfl ?_
    refine gs_aload_n dX1_measure_51 rfl rfl ?_
    refine g_getI dX1_measure_52 fX1_24 hΩ.1 (by decide) (show σ.1 1 0 = nI n from (congrFun (hf.1 1 (by decide) (by decide)) 0).trans hN) ?_
    refine gf_icmp_ge (tgt := 69) dX1_measure_55 (by decide) (by omega) (by omega) (by omega) ?_
    refine gs_aload_n dX1_measure_58 rfl rfl ?_
    refine gs_iload_n dX1_measure_59 rfl rfl ?_
    refine g_cVV1 dX1_measure_60 vX1_66 (by decide) hΩ.1 (by decide) (Nat.le_of_ble_eq_true rfl) (r_shorten hΩ hn4 hmn hNs (hW.1 m) hW.2.1 hSm) ?_
    rintro σ ⟨hf9, hSm⟩
    have hf := hf.tr hf9
    refine gs_iinc (ls' := [_, _, _]) dX1_measure_63 rfl (nI_add _ 1) rfl rfl ?_
    refine g_goto (tgt := 50) dX1_measure_66 (by decide) ?_
    exact ih (m + 1) _ (by omega) hf hSm
theorem cl_m3B {Ω : Nat × Nat} (hΩ : bdW Ω) {σ0 : Mm} {n : Nat} {P D : Dm} {K : Option Value → Mm → Prop} (hn4 : n ≤ 4) (hN : σ0.1 1 0 = nI n) (hP0 : Prc n P σ0) (hD : ∀ x y, D x y ≤ 1000) {a : Nat} (ha : a < n) (hK : ∀ σ, fr45 σ0 σ → Sm n D σ → Hmp n a n (lhF P D n) σ → G Ω mX1_measure K 111 [some (.ref 1), some (.int (nI a)), none] [] σ) : ∀ k b σ, b + k = n → fr45 σ0 σ → Sm n D σ → Hmp n a b (lhF P D n) σ → G Ω mX1_measure K 81 [some (.ref 1), some (.int (nI a)), some (.int (nI b))] [] σ := by
  intro k
  induction k with
  | zero =>
    intro b σ hb hf hSm hHm
    have e : b = n := by omega
    refine gs_iload_n dX1_measure_81 rfl rfl ?_
    refine gs_aload_n dX1_measure_82 rfl rfl ?_
    refine g_getI dX1_measure_83 fX1_24 hΩ.1 (by decide) (show σ.1 1 0 = nI n from (congrFun (hf.1 1 (by decide) (by decide)) 0).trans hN) ?_
    refine gt_icmp_ge (tgt := 111) dX1_measure_86 (by decide) (by omega) (by omega) (by omega) ?_
    refine G.drop 2 (ls' := [_, _, none]) rfl ?_
    rw [e] at hHm
    exact hK σ hf hSm hHm
  | succ k ih =>
    intro b σ hb hf hSm hHm
    have hbn : b < n := by omega
    have hP := hP0.fr hf
    have hNs : σ.1 1 0 = nI n := (congrFun (hf.1 1 (by decide) (by decide)) 0).trans hN
    refine gs_iload_n dX1_measure_81 rfl rfl ?_
    refine gs_aload_n dX1_measure_82 rfl rfl ?_
    refine g_getI dX1_measure_83 fX1_24 hΩ.1 (by decide) hNs ?_
    refine gf_icmp_ge (tgt := 111) dX1_measure_86 (by decide) (by omega) (by omega) (by omega) ?_
    refine gs_aload_n dX1_measure_89 rfl rfl ?_
    refine g_getR dX1_measure_90 fX1_21 hΩ.1 (by decide) rBd_hops ?_
    refine gs_iload_n dX1_measure_93 rfl rfl ?_
    refine g_iconst (v := nI 4) dX1_measure_94 (by decide) ?_
    refine g_imul dX1_measure_95 (by first | exact pk_mul _ _ | rfl) ?_
    refine gs_iload_n dX1_measure_96 rfl rfl ?_
    refine g_iadd dX1_measure_97 (by first | exact nI_add _ _ | rfl) ?_
    refine gs_aload_n dX1_measure_98 rfl rfl ?_
    refine gs_iload_n dX1_measure_99 rfl rfl ?_
    refine gs_iload_n dX1_measure_100 rfl rfl ?_
    refine g_cVI2 dX1_measure_101 vX1_70 (by decide) hΩ.1 (by decide) (Nat.le_of_ble_eq_true rfl) (r_leastHop hΩ hn4 hNs hP hSm hD ha hbn) ?_
    rintro _ σ ⟨rfl, e9⟩
    subst e9
    refine g_iast dX1_measure_104 hΩ.2.2.2.2 (by omega) ?_
    refine gs_iinc (ls' := [_, _, _]) dX1_measure_105 rfl (nI_add _ 1) rfl rfl ?_
    refine g_goto (tgt := 81) dX1_measure_108 (by decide) ?_
    exact ih (b + 1) _ (by omega) (hf.w (Or.inr rfl)) hSm.w5 (hHm.up hn4 ha hbn)
theorem cl_m3A {Ω : Nat × Nat} (hΩ : bdW Ω) {σ0 : Mm} {n : Nat} {P D : Dm} {K : Option Value → Mm → Prop} (hn4 : n ≤ 4) (hN : σ0.1 1 0 = nI n) (hP0 : Prc n P σ0) (hD : ∀ x y, D x y ≤ 1000) (hK : ∀ σ, fr45 σ0 σ → Sm n D σ → Hmp n n 0 (lhF P D n) σ → K none σ) : ∀ k a σ, a + k = n → fr45 σ0 σ → Sm n D σ → Hmp n a 0 (lhF P D n) σ → G Ω mX1_measure K 71 [some (.ref 1), some (.int (nI a)), none] [] σ := by
  intro k
  induction k with
  | zero =>
    intro a σ ha hf hSm hHm
    have e : a = n := by omega
    refine gs_iload_n dX1_measure_71 rfl rfl ?_
    refine gs_aload_n dX1_measure_72 rfl rfl ?_
    refine g_getI dX1_measure_73 fX1_24 hΩ.1 (by decide) (show σ.1 1 0 = nI n from (congrFun (hf.1 1 (by decide) (by decide)) 0).trans hN) ?_
    refine gt_icmp_ge (tgt := 117) dX1_measure_76 (by decide) (by omega) (by omega) (by omega) ?_
    refine g_return dX1_measure_117 rfl ?_
    rw [e] at hHm
    exact hK σ hf hSm hHm
  | succ k ih =>
    intro a σ ha hf hSm hHm
    have han : a < n := by omega
    refine gs_iload_n dX1_measure_71 rfl rfl ?_
    refine gs_aload_n dX1_measure_72 rfl rfl ?_
    refine g_getI dX1_measure_73 fX1_24 hΩ.1 (by decide) (show σ.1 1 0 = nI n from (congrFun (hf.1 1 (by decide) (by decide)) 0).trans hN) ?_
    refine gf_icmp_ge (tgt := 117) dX1_measure_76 (by decide) (by omega) (by omega) (by omega) ?_
    refine g_iconst (v := nI 0) dX1_measure_79 (by decide) ?_
    refine gs_istore_n (ls' := [_, _, _]) dX1_measure_80 rfl rfl rfl ?_
    refine cl_m3B hΩ hn4 hN hP0 hD han (fun σ hf hSm hHm => ?_) n 0 _ (by omega) hf hSm hHm
    refine gs_iinc (ls' := [_, _, _]) dX1_measure_111 rfl (nI_add _ 1) rfl rfl ?_
    refine g_goto (tgt := 71) dX1_measure_114 (by decide) ?_
    exact ih (a + 1) _ (by omega) hf hSm (fun x y hx hy hxy => hHm x y hx hy (by omega))
theorem r_measure {Ω : Nat × Nat} (hΩ : bdW Ω) {σ : Mm} {n : Nat} {P : Dm} (hn4 : n ≤ 4) (hN : σ.1 1 0 = nI n) (hP0 : Prc n P σ) : RV Ω mX1_measure [.ref 1] σ (fun τ => fr45 σ τ ∧ Sm n (dst P n) τ ∧ Hmp n n 0 (lhF P (dst P n) n) τ) := by
  have hD : ∀ x y, dst P n x y ≤ 1000 := fun x y => (dst_fin hP0.2 hn4).1
  refine G.met (by decide) (Nat.le_of_ble_eq_true rfl) ?_
  show G _ _ _ 0 [some (.ref 1), none, none] [] σ
  refine g_iconst (v := nI 0) dX1_measure_0 (by decide) ?_
  refine gs_istore_n (ls' := [_, _, _]) dX1_measure_1 rfl rfl rfl ?_
  refine cl_m1A hΩ hn4 hN hP0 (fun σ1 hf hSm => ?_) n 0 _ (by omega) (fr45.rf _) (fun x y _ _ h => absurd h (by omega))
  refine g_iconst (v := nI 0) dX1_measure_48 (by decide) ?_
  refine gs_istore_n (ls' := [_, _, _]) dX1_measure_49 rfl rfl rfl ?_
  refine cl_m2 hΩ hn4 hN hP0 (fun σ1 hf hSm => ?_) n 0 _ (by omega) hf hSm
  refine g_iconst (v := nI 0) dX1_measure_69 (by decide) ?_
  refine gs_istore_n (ls' := [_, _, _]) dX1_measure_70 rfl rfl rfl ?_
  exact cl_m3A hΩ hn4 hN hP0 hD (fun τ h1 h2 h3 => ⟨rfl, h1, h2, h3⟩) n 0 _ (by omega) hf hSm (fun x y _ _ h => absurd h (by omega))
/-- the class's hops are the state's -/
theorem lh_bh {S : Sx} (hB : Bd S) {a b : Nat} (h : (ms5 S).1 5 (4 * a + b) < 1000) (hn : ∀ v, v < S.1 0 0 → (ms5 S).1 5 (4 * v + b) = dst (prS S) (S.1 0 0) v b) (ha : (ms5 S).1 5 (4 * a + b) = dst (prS S) (S.1 0 0) a b) : ∀ k v, v + k ≤ S.1 0 0 → lhL (prS S) (dst (prS S) (S.1 0 0)) a b k v = bhL (ms5 S) a b k v := by
  have h4 : S.1 0 0 ≤ 4 := B_nodes hB 0
  intro k
  induction k with
  | zero => intro v _; rfl
  | succ k ih =>
    intro v hv
    have e3 : (ms5 S).1 3 = S.1 3 := s5_ne (by decide)
    rw [lhL, bhL, ih (v + 1) (by omega), e3, hn v (by omega), ha]
    rw [ha] at h
    have f1 := @dst_fin (prS S) (S.1 0 0) v b (fun x y => B_price hB _) h4
    have b3 := B_price hB (4 * a + v)
    have hdv : v ≠ a → dir (prS S) a v = if S.1 3 (4 * a + v) = 0 then 1000 else S.1 3 (4 * a + v) := fun z => by
      unfold dir
      rw [if_neg (fun e => z e.symm)]; rfl
    by_cases c1 : v ≠ a ∧ dir (prS S) a v + dst (prS S) (S.1 0 0) v b = dst (prS S) (S.1 0 0) a b
    · have c2 := c1.2
      rw [hdv c1.1] at c2
      rw [if_pos c1]
      by_cases z : S.1 3 (4 * a + v) = 0
      · rw [if_pos z] at c2; omega
      · rw [if_neg z] at c2
        rw [if_pos ⟨c1.1, by omega, by rw [fz_id (by omega), fz_id h]; exact c2⟩]
    · rw [if_neg c1]
      rw [if_neg]
      rintro ⟨d1, d2, d3⟩
      refine c1 ⟨d1, ?_⟩
      rw [hdv d1, if_neg (by omega)]
      rw [fz_id h] at d3
      rcases Nat.lt_or_ge (dst (prS S) (S.1 0 0) v b) 1000 with z | z
      · rw [fz_id z] at d3; exact d3
      · rw [show fz (dst (prS S) (S.1 0 0) v b) = 1000000 from if_neg (by omega)] at d3; omega
theorem lhF_hp {S : Sx} (hB : Bd S) {a b : Nat} (ha : a < S.1 0 0) (hb : b < S.1 0 0) : lhF (prS S) (dst (prS S) (S.1 0 0)) (S.1 0 0) a b = hpF (ms5 S) a b := by
  have h4 : S.1 0 0 ≤ 4 := B_nodes hB 0
  have e5 : ∀ x y, x < S.1 0 0 → y < S.1 0 0 → (ms5 S).1 5 (4 * x + y) = dst (prS S) (S.1 0 0) x y := fun x y hx hy => by rw [ms5, s5_at (by omega) (by omega)]
  unfold lhF hpF
  rw [e5 a b ha hb]
  by_cases h : a ≠ b ∧ dst (prS S) (S.1 0 0) a b < 1000
  · rw [if_pos h, if_pos h, lh_bh hB (by rw [e5 a b ha hb]; exact h.2) (fun v hv => e5 v b hv hb) (e5 a b ha hb) (S.1 0 0) 0 (by omega)]
    show _ = bhL (ms5 S) a b ((ms5 S).1 0 0) 0
    rw [show (ms5 S).1 0 = S.1 0 from s5_ne (by decide)]
  · rw [if_neg h, if_neg h]
theorem fz_c (v : Nat) : (v < 1000 ∧ fz v = v) ∨ (1000 ≤ v ∧ fz v = 1000000) := by
  unfold fz
  rcases Nat.lt_or_ge v 1000 with h | h
  · exact Or.inl ⟨h, if_pos h⟩
  · exact Or.inr ⟨h, if_neg (by omega)⟩
theorem fz_T {x y z : Nat} (hx : x ≤ 1000) (hy : y < 1000 → y ≤ 144) (hz : z < 1000 → z ≤ 144) (h : fz x ≤ fz y + fz z) : x ≤ y + z := by
  rcases fz_c x with a | a <;> rcases fz_c y with b | b <;> rcases fz_c z with c | c <;> omega
theorem fz_F {x y z : Nat} (hx : x ≤ 1000) (hy : y < 1000 → y ≤ 144) (hz : z < 1000 → z ≤ 144) (h : fz y + fz z < fz x) : y + z ≤ x ∧ fz (y + z) = fz y + fz z := by
  rcases fz_c x with a | a <;> rcases fz_c y with b | b <;> rcases fz_c z with c | c <;> rcases fz_c (y + z) with d | d <;> omega
theorem P_far {w : Nat} {σ : Mm} {S : Sx} (h : RepM w σ S) {i v : Nat} (hi : i < 16) : RepM w (wI σ 261 i (fzM v)) (setN S 5 i v) := by
  have q := h.putN (g := 5) (i := i) (v := v) hi
  simpa [mA, mAL, mK, mKL, mML, encM] using q
def fr261 (σ0 σ : Mm) : Prop := (∀ a, a ≠ 261 → σ.1 a = σ0.1 a) ∧ σ.2 = σ0.2
theorem fr261.rf (σ : Mm) : fr261 σ σ := ⟨fun _ _ => rfl, rfl⟩
theorem fr261.w {σ0 σ : Mm} (h : fr261 σ0 σ) {j : Nat} {v : Int32} : fr261 σ0 (wI σ 261 j v) := by
  refine ⟨fun x hx => ?_, h.2⟩
  have e : (wI σ 261 j v).1 x = σ.1 x := if_neg hx
  rw [e]; exact h.1 x hx
def eK (S : Sx) (k : Nat) : Dm := fun x y => if 4 * x + y < k then dir (prS S) x y else S.1 5 (4 * x + y)
theorem eK_0 (S : Sx) : s5 S (eK S 0) = S := by
  refine Prod.ext ?_ rfl
  funext g i
  show (if g = 5 ∧ i < 16 then (if 4 * (i / 4) + i % 4 < 0 then _ else S.1 5 (4 * (i / 4) + i % 4)) else S.1 g i) = S.1 g i
  by_cases h : g = 5 ∧ i < 16
  · rw [if_pos h, if_neg (by omega), show 4 * (i / 4) + i % 4 = i from by omega, h.1]
  · rw [if_neg h]
theorem eK_s {S : Sx} {k : Nat} (hk : k < 16) : setN (s5 S (eK S k)) 5 k (dir (prS S) (k / 4) (k % 4)) = s5 S (eK S (k + 1)) := by
  refine Prod.ext ?_ rfl
  funext g i
  show (if g = 5 ∧ i = k then dir (prS S) (k / 4) (k % 4) else (if g = 5 ∧ i < 16 then (if 4 * (i / 4) + i % 4 < k then dir (prS S) (i / 4) (i % 4) else S.1 5 (4 * (i / 4) + i % 4)) else S.1 g i)) = (if g = 5 ∧ i < 16 then (if 4 * (i / 4) + i % 4 < k + 1 then dir (prS S) (i / 4) (i % 4) else S.1 5 (4 * (i / 4) + i % 4)) else S.1 g i)
  have ei : 4 * (i / 4) + i % 4 = i := by omega
  rw [ei]
  by_cases h : g = 5 ∧ i = k
  · rw [if_pos h, if_pos ⟨h.1, by omega⟩, if_pos (by omega), h.2]
  · rw [if_neg h]
    by_cases h2 : g = 5 ∧ i < 16
    · rw [if_pos h2, if_pos h2]
      by_cases h3 : i < k
      · rw [if_pos h3, if_pos (by omega)]
      · rw [if_neg h3, if_neg (fun z => h ⟨h2.1, by omega⟩)]
    · rw [if_neg h2, if_neg h2]
theorem eK_16 (S : Sx) : s5 S (eK S 16) = s5 S (dir (prS S)) := by
  refine Prod.ext ?_ rfl
  funext g i
  show (if g = 5 ∧ i < 16 then (if 4 * (i / 4) + i % 4 < 16 then dir (prS S) (i / 4) (i % 4) else S.1 5 (4 * (i / 4) + i % 4)) else S.1 g i) = (if g = 5 ∧ i < 16 then dir (prS S) (i / 4) (i % 4) else S.1 g i)
  by_cases h : g = 5 ∧ i < 16
  · rw [if_pos h, if_pos h, if_pos (by omega)]
  · rw [if_neg h, if_neg h]
theorem dv4 {k : Nat} (h : k < 16) : nI k / nI 4 = nI (k / 4) := by
  have : ∀ k, k < 16 → nI k / nI 4 = nI (k / 4) := by decide +kernel
  exact this k h
theorem rm4 {k : Nat} (h : k < 16) : nI k - nI k / nI 4 * nI 4 = nI (k % 4) := by
  have : ∀ k, k < 16 → nI k - nI k / nI 4 * nI 4 = nI (k % 4) := by decide +kernel
  exact this k h
theorem qn203 : Cond.constant RX12 203 (nI 1000000) ∈ tbG := qnX12_203
theorem l_ms1 {w : Nat} {σ0 : Mm} {S : Sx} {K : Option Value → Mm → Prop} (hB : Bd S) (hX : ∀ σ, RepM w σ (s5 S (dir (prS S))) → fr261 σ0 σ → G W0 mX12_measure K 53 [some (.ref 258), none, none, none, none] [] σ) : ∀ j k σ, k + j = 16 → RepM w σ (s5 S (eK S k)) → fr261 σ0 σ → G W0 mX12_measure K 2 [some (.ref 258), some (.int (nI k)), none, none, none] [] σ := by
  intro j
  induction j with
  | zero =>
    intro k σ hk hM hf
    have e : k = 16 := by omega
    refine gs_iload_n dX12_measure_2 rfl rfl ?_
    refine g_bipush (v := nI 16) dX12_measure_3 (by decide) ?_
    refine gt_icmp_ge (tgt := 53) dX12_measure_5 (by decide) (by omega) (by omega) (by omega) ?_
    refine G.drop 1 (ls' := [_, none, _, _, _]) rfl ?_
    rw [e, eK_16] at hM
    exact hX σ hM hf
  | succ j ih =>
    intro k σ hk hM hf
    have hk16 : k < 16 := by omega
    have e3 : (s5 S (eK S k)).1 3 = S.1 3 := s5_ne (by decide)
    have b3 := B_price hB k
    have ek : 4 * (k / 4) + k % 4 = k := by omega
    have hd : dir (prS S) (k / 4) (k % 4) = if k / 4 = k % 4 then 0 else if S.1 3 k = 0 then 1000 else S.1 3 k := by
      unfold dir prS
      rw [ek]
    refine gs_iload_n dX12_measure_2 rfl rfl ?_
    refine g_bipush (v := nI 16) dX12_measure_3 (by decide) ?_
    refine gf_icmp_ge (tgt := 53) dX12_measure_5 (by decide) (by omega) (by omega) (by omega) ?_
    refine gs_aload_n dX12_measure_8 rfl rfl ?_
    refine g_getR dX12_measure_9 fX12_16 kwM (by decide) rM_far ?_
    refine gs_iload_n dX12_measure_12 rfl rfl ?_
    refine gs_iload_n dX12_measure_13 rfl rfl ?_
    refine g_iconst (v := nI 4) dX12_measure_14 (by decide) ?_
    refine g_idiv dX12_measure_15 (by decide) (dv4 hk16) ?_
    refine gs_iload_n dX12_measure_16 rfl rfl ?_
    refine g_iconst (v := nI 4) dX12_measure_17 (by decide) ?_
    refine g_irem dX12_measure_18 (by decide) (rm4 hk16) ?_
    refine gn_icmp_ne (tgt := 26) dX12_measure_19 (by decide) (by omega) (by omega) (fun c19 => ?_) (fun c19 => ?_)
    · refine gs_aload_n dX12_measure_26 rfl rfl ?_
      refine g_getR dX12_measure_27 fX12_7 kwM (by decide) rM_price ?_
      refine gs_iload_n dX12_measure_30 rfl rfl ?_
      refine g_iald dX12_measure_31 kw_price (by omega) (show _ = nI (S.1 3 k) from by rw [← e3]; exact M_price hM hk16) ?_
      refine gn_if_le (tgt := 44) dX12_measure_32 (by decide) (by omega) (fun c32 => ?_) (fun c32 => ?_)
      · refine g_ldc dX12_measure_44 qnX12_203 ?_
        refine g_iast dX12_measure_46 kw_far (by omega) ?_
        refine gs_iinc (ls' := [_, _, _, _, _]) dX12_measure_47 rfl (nI_add _ 1) rfl rfl ?_
        refine g_goto (tgt := 2) dX12_measure_50 (by decide) ?_
        have q := P_far (v := dir (prS S) (k / 4) (k % 4)) hM hk16
        rw [eK_s hk16, hd, if_neg c19, if_pos c32] at q
        exact ih (k + 1) _ (by omega) q hf.w
      · refine gs_aload_n dX12_measure_35 rfl rfl ?_
        refine g_getR dX12_measure_36 fX12_7 kwM (by decide) rM_price ?_
        refine gs_iload_n dX12_measure_39 rfl rfl ?_
        refine g_iald dX12_measure_40 kw_price (by omega) (show _ = nI (S.1 3 k) from by rw [← e3]; exact M_price hM hk16) ?_
        refine g_goto (tgt := 46) dX12_measure_41 (by decide) ?_
        refine g_iast dX12_measure_46 kw_far (by omega) ?_
        refine gs_iinc (ls' := [_, _, _, _, _]) dX12_measure_47 rfl (nI_add _ 1) rfl rfl ?_
        refine g_goto (tgt := 2) dX12_measure_50 (by decide) ?_
        have q := P_far (v := dir (prS S) (k / 4) (k % 4)) hM hk16
        rw [eK_s hk16, hd, if_neg c19, if_neg (by omega), show fzM (S.1 3 k) = nI (S.1 3 k) from if_pos (by omega)] at q
        exact ih (k + 1) _ (by omega) q hf.w
    · refine g_iconst (v := nI 0) dX12_measure_22 (by decide) ?_
      refine g_goto (tgt := 46) dX12_measure_23 (by decide) ?_
      refine g_iast dX12_measure_46 kw_far (by omega) ?_
      refine gs_iinc (ls' := [_, _, _, _, _]) dX12_measure_47 rfl (nI_add _ 1) rfl rfl ?_
      refine g_goto (tgt := 2) dX12_measure_50 (by decide) ?_
      have q := P_far (v := dir (prS S) (k / 4) (k % 4)) hM hk16
      rw [eK_s hk16, hd, if_pos c19] at q
      exact ih (k + 1) _ (by omega) q hf.w
theorem l_ms4 {w : Nat} {σ0 : Mm} {S : Sx} {K : Option Value → Mm → Prop} (hB : Bd S) {n : Nat} (hn : n = S.1 0 0) (hN : ∀ {σ : Mm} {E : Dm}, RepM w σ (s5 S E) → σ.1 258 1 = nI n) {m a : Nat} (hm : m < n) (ha : a < n) (hX : ∀ σ, RepM w σ (s5 S (fwA n m (a + 1) (fwM n m (dir (prS S))))) → fr261 σ0 σ → G W0 mX12_measure K 152 [some (.ref 258), some (.int (nI m)), some (.int (nI a)), none, none] [] σ) : ∀ j b σ, b + j = n → RepM w σ (s5 S (fwB m a b (fwA n m a (fwM n m (dir (prS S)))))) → fr261 σ0 σ → G W0 mX12_measure K 75 [some (.ref 258), some (.int (nI m)), some (.int (nI a)), some (.int (nI b)), none] [] σ := by
  have h4 : n ≤ 4 := by rw [hn]; exact B_nodes hB 0
  intro j
  induction j with
  | zero =>
    intro b σ hb hM hf
    have e : b = n := by omega
    refine gs_iload_n dX12_measure_75 rfl rfl ?_
    refine gs_aload_n dX12_measure_76 rfl rfl ?_
    refine g_getI dX12_measure_77 fX12_182 kwM (by decide) (show _ = nI n from hN hM) ?_
    refine gt_icmp_ge (tgt := 152) dX12_measure_80 (by decide) (by omega) (by omega) (by omega) ?_
    refine G.drop 3 (ls' := [_, _, _, none, _]) rfl ?_
    rw [e] at hM
    exact hX σ hM hf
  | succ j ih =>
    intro b σ hb hM hf
    have hbn : b < n := by omega
    have hW := FW_all (P := prS S) (n := n) (fun x y => B_price hB _) m (by omega)
    have hFe := hW.2.1.e (n := n) (a := a) (k := b) (hW.1 m)
    have hc : 2 * (9 * 2 ^ m) ≤ 144 := by
      have h9 : ∀ m, m < 4 → 2 * (9 * 2 ^ m) ≤ 144 := by decide
      exact h9 m (by omega)
    obtain ⟨E, hE⟩ : ∃ E, E = fwB m a b (fwA n m a (fwM n m (dir (prS S)))) := ⟨_, rfl⟩
    have hn1 : fwB m a (b + 1) (fwA n m a (fwM n m (dir (prS S)))) = u2 E a b (min (E a b) (E a m + E m b)) := by rw [hE]; rfl
    rw [← hE] at hM hFe
    have q1 := hFe a b
    have q2 := hFe a m
    have q3 := hFe m b
    have z1 := fz_le q1.1
    have z2 := fz_le q2.1
    have z3 := fz_le q3.1
    refine gs_iload_n dX12_measure_75 rfl rfl ?_
    refine gs_aload_n dX12_measure_76 rfl rfl ?_
    refine g_getI dX12_measure_77 fX12_182 kwM (by decide) (show _ = nI n from hN hM) ?_
    refine gf_icmp_ge (tgt := 152) dX12_measure_80 (by decide) (by omega) (by omega) (by omega) ?_
    refine gs_aload_n dX12_measure_83 rfl rfl ?_
    refine g_getR dX12_measure_84 fX12_16 kwM (by decide) rM_far ?_
    refine g_iconst (v := nI 4) dX12_measure_87 (by decide) ?_
    refine gs_iload_n dX12_measure_88 rfl rfl ?_
    refine g_imul dX12_measure_89 (by first | exact pk_mul _ _ | rfl) ?_
    refine gs_iload_n dX12_measure_90 rfl rfl ?_
    refine g_iadd dX12_measure_91 (by first | exact nI_add _ _ | rfl) ?_
    refine g_iald dX12_measure_92 kw_far (by omega) ((M_far hM (i := 4 * a + m) (by omega)).trans (by rw [s5_at (by omega) (by omega), fzM_nI])) ?_
    refine gs_aload_n dX12_measure_93 rfl rfl ?_
    refine g_getR dX12_measure_94 fX12_16 kwM (by decide) rM_far ?_
    refine g_iconst (v := nI 4) dX12_measure_97 (by decide) ?_
    refine gs_iload_n dX12_measure_98 rfl rfl ?_
    refine g_imul dX12_measure_99 (by first | exact pk_mul _ _ | rfl) ?_
    refine gs_iload_n dX12_measure_100 rfl rfl ?_
    refine g_iadd dX12_measure_101 (by first | exact nI_add _ _ | rfl) ?_
    refine g_iald dX12_measure_102 kw_far (by omega) ((M_far hM (i := 4 * m + b) (by omega)).trans (by rw [s5_at (by omega) (by omega), fzM_nI])) ?_
    refine g_iadd dX12_measure_103 (by first | exact nI_add _ _ | rfl) ?_
    refine gs_istore (ls' := [_, _, _, _, _]) dX12_measure_104 rfl rfl ?_
    refine gs_aload_n dX12_measure_106 rfl rfl ?_
    refine g_getR dX12_measure_107 fX12_16 kwM (by decide) rM_far ?_
    refine g_iconst (v := nI 4) dX12_measure_110 (by decide) ?_
    refine gs_iload_n dX12_measure_111 rfl rfl ?_
    refine g_imul dX12_measure_112 (by first | exact pk_mul _ _ | rfl) ?_
    refine gs_iload_n dX12_measure_113 rfl rfl ?_
    refine g_iadd dX12_measure_114 (by first | exact nI_add _ _ | rfl) ?_
    refine g_iload dX12_measure_115 rfl ?_
    refine gs_aload_n dX12_measure_117 rfl rfl ?_
    refine g_getR dX12_measure_118 fX12_16 kwM (by decide) rM_far ?_
    refine g_iconst (v := nI 4) dX12_measure_121 (by decide) ?_
    refine gs_iload_n dX12_measure_122 rfl rfl ?_
    refine g_imul dX12_measure_123 (by first | exact pk_mul _ _ | rfl) ?_
    refine gs_iload_n dX12_measure_124 rfl rfl ?_
    refine g_iadd dX12_measure_125 (by first | exact nI_add _ _ | rfl) ?_
    refine g_iald dX12_measure_126 kw_far (by omega) ((M_far hM (i := 4 * a + b) (by omega)).trans (by rw [s5_at (by omega) (by omega), fzM_nI])) ?_
    refine gn_icmp_ge (tgt := 135) dX12_measure_127 (by decide) (by omega) (by omega) (fun c127 => ?_) (fun c127 => ?_)
    · refine gs_aload_n dX12_measure_135 rfl rfl ?_
      refine g_getR dX12_measure_136 fX12_16 kwM (by decide) rM_far ?_
      refine g_iconst (v := nI 4) dX12_measure_139 (by decide) ?_
      refine gs_iload_n dX12_measure_140 rfl rfl ?_
      refine g_imul dX12_measure_141 (by first | exact pk_mul _ _ | rfl) ?_
      refine gs_iload_n dX12_measure_142 rfl rfl ?_
      refine g_iadd dX12_measure_143 (by first | exact nI_add _ _ | rfl) ?_
      refine g_iald dX12_measure_144 kw_far (by omega) ((M_far hM (i := 4 * a + b) (by omega)).trans (by rw [s5_at (by omega) (by omega), fzM_nI])) ?_
      refine g_iast dX12_measure_145 kw_far (by omega) ?_
      refine gs_iinc (ls' := [_, _, _, _, _]) dX12_measure_146 rfl (nI_add _ 1) rfl rfl ?_
      refine g_goto (tgt := 75) dX12_measure_149 (by decide) ?_
      refine G.drop 4 (ls' := [_, _, _, _, none]) rfl ?_
      have t := fz_T q1.1 (fun z => Nat.le_trans (q2.2 z) hc) (fun z => Nat.le_trans (q3.2 z) hc) c127
      have q := P_far (i := 4 * a + b) (v := E a b) hM (by omega)
      rw [s5_set (by omega) (by omega), fzM_nI] at q
      exact ih (b + 1) _ (by omega) (by rw [hn1, Nat.min_eq_left t]; exact q) hf.w
    · refine g_iload dX12_measure_130 rfl ?_
      refine g_goto (tgt := 145) dX12_measure_132 (by decide) ?_
      refine g_iast dX12_measure_145 kw_far (by omega) ?_
      refine gs_iinc (ls' := [_, _, _, _, _]) dX12_measure_146 rfl (nI_add _ 1) rfl rfl ?_
      refine g_goto (tgt := 75) dX12_measure_149 (by decide) ?_
      refine G.drop 4 (ls' := [_, _, _, _, none]) rfl ?_
      obtain ⟨t1, t2⟩ := fz_F q1.1 (fun z => Nat.le_trans (q2.2 z) hc) (fun z => Nat.le_trans (q3.2 z) hc) c127
      have q := P_far (i := 4 * a + b) (v := E a m + E m b) hM (by omega)
      rw [s5_set (by omega) (by omega), fzM_nI, t2] at q
      exact ih (b + 1) _ (by omega) (by rw [hn1, Nat.min_eq_right t1]; exact q) hf.w
theorem l_ms3 {w : Nat} {σ0 : Mm} {S : Sx} {K : Option Value → Mm → Prop} (hB : Bd S) {n : Nat} (hn : n = S.1 0 0) (hN : ∀ {σ : Mm} {E : Dm}, RepM w σ (s5 S E) → σ.1 258 1 = nI n) {m : Nat} (hm : m < n) (hX : ∀ σ, RepM w σ (s5 S (fwA n m n (fwM n m (dir (prS S))))) → fr261 σ0 σ → G W0 mX12_measure K 158 [some (.ref 258), some (.int (nI m)), none, none, none] [] σ) : ∀ j a σ, a + j = n → RepM w σ (s5 S (fwA n m a (fwM n m (dir (prS S))))) → fr261 σ0 σ → G W0 mX12_measure K 65 [some (.ref 258), some (.int (nI m)), some (.int (nI a)), none, none] [] σ := by
  have h4 : n ≤ 4 := by rw [hn]; exact B_nodes hB 0
  intro j
  induction j with
  | zero =>
    intro a σ ha hM hf
    have e : a = n := by omega
    refine gs_iload_n dX12_measure_65 rfl rfl ?_
    refine gs_aload_n dX12_measure_66 rfl rfl ?_
    refine g_getI dX12_measure_67 fX12_182 kwM (by decide) (show _ = nI n from hN hM) ?_
    refine gt_icmp_ge (tgt := 158) dX12_measure_70 (by decide) (by omega) (by omega) (by omega) ?_
    refine G.drop 2 (ls' := [_, _, none, _, _]) rfl ?_
    rw [e] at hM
    exact hX σ hM hf
  | succ j ih =>
    intro a σ ha hM hf
    have han : a < n := by omega
    refine gs_iload_n dX12_measure_65 rfl rfl ?_
    refine gs_aload_n dX12_measure_66 rfl rfl ?_
    refine g_getI dX12_measure_67 fX12_182 kwM (by decide) (show _ = nI n from hN hM) ?_
    refine gf_icmp_ge (tgt := 158) dX12_measure_70 (by decide) (by omega) (by omega) (by omega) ?_
    refine g_iconst (v := nI 0) dX12_measure_73 (by decide) ?_
    refine gs_istore_n (ls' := [_, _, _, _, _]) dX12_measure_74 rfl rfl rfl ?_
    refine l_ms4 hB hn hN hm han (fun σ hM hf => ?_) n 0 _ (by omega) hM hf
    refine gs_iinc (ls' := [_, _, _, _, _]) dX12_measure_152 rfl (nI_add _ 1) rfl rfl ?_
    refine g_goto (tgt := 65) dX12_measure_155 (by decide) ?_
    exact ih (a + 1) _ (by omega) hM hf
theorem l_ms2 {w : Nat} {σ0 : Mm} {S : Sx} {K : Option Value → Mm → Prop} (hB : Bd S) {n : Nat} (hn : n = S.1 0 0) (hN : ∀ {σ : Mm} {E : Dm}, RepM w σ (s5 S E) → σ.1 258 1 = nI n) (hX : ∀ σ, RepM w σ (ms5 S) → fr261 σ0 σ → K none σ) : ∀ j m σ, m + j = n → RepM w σ (s5 S (fwM n m (dir (prS S)))) → fr261 σ0 σ → G W0 mX12_measure K 55 [some (.ref 258), some (.int (nI m)), none, none, none] [] σ := by
  have h4 : n ≤ 4 := by rw [hn]; exact B_nodes hB 0
  intro j
  induction j with
  | zero =>
    intro m σ hm hM hf
    have e : m = n := by omega
    refine gs_iload_n dX12_measure_55 rfl rfl ?_
    refine gs_aload_n dX12_measure_56 rfl rfl ?_
    refine g_getI dX12_measure_57 fX12_182 kwM (by decide) (show _ = nI n from hN hM) ?_
    refine gt_icmp_ge (tgt := 164) dX12_measure_60 (by decide) (by omega) (by omega) (by omega) ?_
    refine g_return dX12_measure_164 rfl ?_
    rw [e] at hM
    exact hX σ (by rw [ms5, ← hn]; exact hM) hf
  | succ j ih =>
    intro m σ hm hM hf
    have hmn : m < n := by omega
    refine gs_iload_n dX12_measure_55 rfl rfl ?_
    refine gs_aload_n dX12_measure_56 rfl rfl ?_
    refine g_getI dX12_measure_57 fX12_182 kwM (by decide) (show _ = nI n from hN hM) ?_
    refine gf_icmp_ge (tgt := 164) dX12_measure_60 (by decide) (by omega) (by omega) (by omega) ?_
    refine g_iconst (v := nI 0) dX12_measure_63 (by decide) ?_
    refine gs_istore_n (ls' := [_, _, _, _, _]) dX12_measure_64 rfl rfl rfl ?_
    refine l_ms3 hB hn hN hmn (fun σ hM hf => ?_) n 0 _ (by omega) hM hf
    refine gs_iinc (ls' := [_, _, _, _, _]) dX12_measure_158 rfl (nI_add _ 1) rfl rfl ?_
    refine g_goto (tgt := 55) dX12_measure_161 (by decide) ?_
    exact ih (m + 1) _ (by omega) hM hf
theorem RepM.hop {w : Nat} {σ : Mm} {S : Sx} {E : Dm} (h : RepM w σ S) : RepM w σ (s6 S E) := by
  refine ⟨fun g i hi => ?_, h.2.1, h.2.2⟩
  by_cases e : g = 6
  · subst e
    exact absurd hi (by simp [mS, mSL, nJL])
  · rw [s6_ne e]; exact h.1 g i hi
theorem s_measure {w : Nat} {σ : Mm} {S : Sx} (hM : RepM w σ S) (hB : Bd S) : RV W0 mX12_measure [.ref 258] σ (fun τ => RepM w τ (msS S) ∧ fr261 σ τ) := by
  refine G.met (by decide) (Nat.le_of_ble_eq_true rfl) ?_
  show G _ _ _ 0 [some (.ref 258), none, none, none, none] [] σ
  refine g_iconst (v := nI 0) dX12_measure_0 (by decide) ?_
  refine gs_istore_n (ls' := [_, _, _, _, _]) dX12_measure_1 rfl rfl rfl ?_
  have hN : ∀ {σ : Mm} {E : Dm}, RepM w σ (s5 S E) → σ.1 258 1 = nI (S.1 0 0) := fun {σ} {E} h => by
    have q := M_nodes h
    rw [s5_ne (by decide)] at q
    exact q
  refine l_ms1 (S := S) hB (fun σ1 hM hf => ?_) 16 0 _ (by omega) (by rw [eK_0]; exact hM) (fr261.rf _)
  refine g_iconst (v := nI 0) dX12_measure_53 (by decide) ?_
  refine gs_istore_n (ls' := [_, _, _, _, _]) dX12_measure_54 rfl rfl rfl ?_
  exact l_ms2 hB rfl hN (fun τ h1 h2 => ⟨rfl, h1.hop, h2⟩) (S.1 0 0) 0 _ (by omega) hM hf
