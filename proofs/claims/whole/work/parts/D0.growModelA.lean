/-! The reference's constructor. -/
def ivR (n p r b k : Nat) : Int32 :=
  if b = 258 then (if k = 1 then nI n else if k = 2 then nI p else if k = 3 then nI r else if k = 15 then nI 2 else if k = 16 then nI 6 else 0)
  else if b = 259 then (if k < 16 then (if k / 4 = k % 4 then nI 0 else nI 2) else 0)
  else if b = 260 then (if k < 16 then nI 2 else 0)
  else if b = 270 then (if k < 2 then nI 1 else 0)
  else if b = 271 then (if k < 2 then nI 1 else 0)
  else 0
theorem ivR_258 {n p r k : Nat} : ivR n p r 258 k = (if k = 1 then nI n else if k = 2 then nI p else if k = 3 then nI r else if k = 15 then nI 2 else if k = 16 then nI 6 else 0) := rfl
theorem ivR_259 {n p r k : Nat} : ivR n p r 259 k = (if k < 16 then (if k / 4 = k % 4 then nI 0 else nI 2) else 0) := rfl
theorem ivR_260 {n p r k : Nat} : ivR n p r 260 k = (if k < 16 then nI 2 else 0) := rfl
theorem ivR_270 {n p r k : Nat} : ivR n p r 270 k = (if k < 2 then nI 1 else 0) := rfl
theorem ivR_271 {n p r k : Nat} : ivR n p r 271 k = (if k < 2 then nI 1 else 0) := rfl
theorem ivR_o {n p r b k : Nat} (h1 : ¬ b = 258) (h2 : ¬ b = 259) (h3 : ¬ b = 260) (h4 : ¬ b = 270) (h5 : ¬ b = 271) : ivR n p r b k = 0 := by
  unfold ivR; rw [if_neg h1, if_neg h2, if_neg h3, if_neg h4, if_neg h5]
/-- before it measures -/
def S0p (n p r : Nat) : Sx := (fun g i => if g = 0 then n else if g = 1 then p else if g = 2 then r else if g = 3 then (if i / 4 = i % 4 then 0 else 2) else if g = 4 then 2 else if g = 14 then 2 else if g = 15 then 6 else if g = 22 then 1 else if g = 24 then 1 else if g = 39 then 300 else 0, fun g i => if g = 1 ∧ i = 0 then nI 1 else 0, fun _ => [])
def plI (σ : Mm) (i : Nat) : Mm := (fun b k => if b = 259 ∧ k < i then (if k / 4 = k % 4 then nI 0 else nI 2) else if b = 260 ∧ k < i then nI 2 else σ.1 b k, σ.2)
theorem plI_0 (σ : Mm) : plI σ 0 = σ := by
  refine Prod.ext (funext fun b => funext fun k => ?_) rfl
  show (if b = 259 ∧ k < 0 then _ else if b = 260 ∧ k < 0 then _ else _) = _
  rw [if_neg (by omega), if_neg (by omega)]
theorem plI_s {σ : Mm} {i : Nat} : wI (wI (plI σ i) 259 i (if i / 4 = i % 4 then nI 0 else nI 2)) 260 i (nI 2) = plI σ (i + 1) := by
  refine Prod.ext (funext fun b => funext fun k => ?_) rfl
  show _ = (if b = 259 ∧ k < i + 1 then (if k / 4 = k % 4 then nI 0 else nI 2) else if b = 260 ∧ k < i + 1 then nI 2 else σ.1 b k)
  by_cases h1 : b = 259
  · subst h1
    rw [wI_ne (by decide), wI_self]
    by_cases hk : k = i
    · subst hk; rw [if_pos rfl, if_pos (show 259 = 259 ∧ k < k + 1 by omega)]
    · rw [if_neg hk]
      show (if 259 = 259 ∧ k < i then _ else if 259 = 260 ∧ k < i then _ else _) = _
      by_cases h : k < i
      · rw [if_pos ⟨rfl, h⟩, if_pos (show 259 = 259 ∧ k < i + 1 by omega)]
      · rw [if_neg (show ¬ (259 = 259 ∧ k < i) by omega), if_neg (show ¬ (259 = 260 ∧ k < i) by omega), if_neg (show ¬ (259 = 259 ∧ k < i + 1) by omega), if_neg (show ¬ (259 = 260 ∧ k < i + 1) by omega)]
  · by_cases h2 : b = 260
    · subst h2
      rw [wI_self]
      by_cases hk : k = i
      · subst hk; rw [if_pos rfl, if_neg (by omega), if_pos (by omega)]
      · rw [if_neg hk, wI_ne (by decide)]
        show (if 260 = 259 ∧ k < i then (if k / 4 = k % 4 then nI 0 else nI 2) else if 260 = 260 ∧ k < i then nI 2 else σ.1 260 k) = _
        by_cases h : k < i
        · rw [if_neg (by omega), if_pos ⟨rfl, h⟩, if_neg (by omega), if_pos (by omega)]
        · rw [if_neg (by omega), if_neg (by omega), if_neg (by omega), if_neg (by omega)]
    · rw [wI_ne h2, wI_ne h1]
      show (if b = 259 ∧ k < i then (if k / 4 = k % 4 then nI 0 else nI 2) else if b = 260 ∧ k < i then nI 2 else σ.1 b k) = _
      rw [if_neg (by omega), if_neg (by omega), if_neg (by omega), if_neg (by omega)]
/-- what the reference's constructor leaves -/
def MoI (n p r : Nat) (σ τ : Mm) : Prop := τ.2 = σ.2 ∧ (∀ b, b < 258 ∨ 312 ≤ b → τ.1 b = σ.1 b) ∧ (∀ b k, 258 ≤ b → b < 312 → b ≠ 261 → τ.1 b k = ivR n p r b k) ∧ RepM 0 τ (msS (S0p n p r))
theorem S0p_bd {n p r : Nat} (hn : n ≤ 4) (hp : p ≤ 3) (hr : r ≤ 12) : Bd (S0p n p r) := by
  intro g i
  show (if g = 0 then n else if g = 1 then p else if g = 2 then r else if g = 3 then (if i / 4 = i % 4 then 0 else 2) else if g = 4 then 2 else if g = 14 then 2 else if g = 15 then 6 else if g = 22 then 1 else if g = 24 then 1 else if g = 39 then 300 else 0) ≤ bnd g
  split
  · next h => subst h; exact hn
  split
  · next h => subst h; exact hp
  split
  · next h => subst h; exact hr
  split
  · next h => subst h; show _ ≤ 9; split <;> omega
  split
  · next h => subst h; decide
  split
  · next h => subst h; decide
  split
  · next h => subst h; decide
  split
  · next h => subst h; decide
  split
  · next h => subst h; decide
  split
  · next h => subst h; decide
  · exact Nat.zero_le _
theorem ivR_tabM : ((List.range 40).all fun g => decide (g < 3) || (List.range (mS 0 g)).all fun i => decide (ivR 0 0 0 (mA g) (mK 0 g + i) = encM g ((S0p 0 0 0).1 g i)) && !(decide (mA g = 258) && (decide (mK 0 g + i = 1) || decide (mK 0 g + i = 2) || decide (mK 0 g + i = 3)))) = true := by decide +kernel
theorem ivR_tabV : ((List.range 20).all fun g => (List.range (vS 0 g)).all fun i => vLg g || (decide (ivR 0 0 0 (vA g) (vK 0 g + i) = (S0p 0 0 0).2.1 g i) && !decide (vA g = 258))) = true := by decide +kernel
theorem ivR_eq {n p r b k : Nat} (h : ¬ (b = 258 ∧ (k = 1 ∨ k = 2 ∨ k = 3))) : ivR n p r b k = ivR 0 0 0 b k := by
  unfold ivR
  by_cases h1 : b = 258
  · rw [if_pos h1, if_pos h1]
    have hk : ¬ k = 1 ∧ ¬ k = 2 ∧ ¬ k = 3 := by omega
    rw [if_neg hk.1, if_neg hk.2.1, if_neg hk.2.2, if_neg hk.1, if_neg hk.2.1, if_neg hk.2.2]
  · rw [if_neg h1, if_neg h1]
theorem mS0_lt {g i : Nat} (h : i < mS 0 g) : g < 40 := by
  rcases Nat.lt_or_ge g 40 with q | q
  · exact q
  · exfalso
    unfold mS at h
    rw [if_pos (Or.inl rfl), List.getD, List.getElem?_eq_none (by show 40 ≤ g; exact q)] at h
    exact absurd h (Nat.not_lt_zero _)
theorem vS0_lt {g i : Nat} (h : i < vS 0 g) : g < 20 := by
  rcases Nat.lt_or_ge g 20 with q | q
  · exact q
  · exfalso
    unfold vS at h
    rw [if_pos (Or.inl rfl), List.getD, List.getElem?_eq_none (by show 20 ≤ g; exact q)] at h
    exact absurd h (Nat.not_lt_zero _)
theorem RepM_0p {n p r : Nat} {σ : Mm} (h : ∀ b k, 258 ≤ b → b < 312 → σ.1 b k = ivR n p r b k) (h2 : ∀ b k, 258 ≤ b → b < 312 → σ.2 b k = 0) : RepM 0 σ (S0p n p r) := by
  refine ⟨fun g i hi => ?_, fun g i hi hl => ?_, fun g i hi hl => ?_⟩
  · have hg := mS0_lt hi
    have hm : 258 ≤ mA g ∧ mA g < 306 := mA_ge (by unfold mS at hi; rw [if_pos (Or.inl rfl)] at hi; exact hi)
    rw [h _ _ hm.1 (by omega)]
    by_cases h3 : g < 3
    · have hg3 : g = 0 ∨ g = 1 ∨ g = 2 := by omega
      rcases hg3 with rfl | rfl | rfl
      all_goals
        have : i = 0 := by have h9 : i < 1 := hi; omega
        subst this
        rfl
    · have q := List.all_eq_true.mp ivR_tabM g (List.mem_range.mpr hg)
      rw [show decide (g < 3) = false from decide_eq_false h3, Bool.false_or] at q
      have q2 := List.all_eq_true.mp q i (List.mem_range.mpr hi)
      rw [Bool.and_eq_true] at q2
      obtain ⟨q3, q4⟩ := q2
      have e : (S0p n p r).1 g i = (S0p 0 0 0).1 g i := by
        have hz : ¬ g = 0 ∧ ¬ g = 1 ∧ ¬ g = 2 := by omega
        unfold S0p
        simp only [hz.1, hz.2.1, hz.2.2, if_false]
      rw [e, ivR_eq (fun z => by
        obtain ⟨z1, z2⟩ := z
        rw [z1] at q4
        rcases z2 with z2 | z2 | z2 <;> rw [z2] at q4 <;> exact absurd q4 (by decide))]
      exact of_decide_eq_true q3
  · have hg := vS0_lt hi
    have hm : 258 ≤ vA g ∧ vA g < 306 := vA_ge (by unfold vS at hi; rw [if_pos (Or.inl rfl)] at hi; exact hi)
    rw [h _ _ hm.1 (by omega)]
    have q := List.all_eq_true.mp (List.all_eq_true.mp ivR_tabV g (List.mem_range.mpr hg)) i (List.mem_range.mpr hi)
    rw [hl, Bool.false_or, Bool.and_eq_true] at q
    rw [ivR_eq (fun z => by have q4 := q.2; rw [z.1] at q4; exact absurd q4 (by decide))]
    exact of_decide_eq_true q.1
  · have hm : 258 ≤ vA g ∧ vA g < 306 := vA_ge (by unfold vS at hi; rw [if_pos (Or.inl rfl)] at hi; exact hi)
    rw [h2 _ _ hm.1 (by omega)]
    have : g ≠ 1 := fun z => by subst z; exact absurd hl (by decide)
    show _ = if g = 1 ∧ i = 0 then nI 1 else (0 : Int32)
    rw [if_neg (fun z => this z.1)]
    decide
theorem c_pl {ν : Nat → Nat → Bool} {σ : Mm} {x y z : Int32} {R : Nat × Nat} {u us n0 : Nat} {K : Nw → Prop} (hν : ∀ b k, 258 ≤ b → b < 312 → ν b k = true) (hX : GN mX12_init ((R, (u, us)), n0, K) 532 [some (.ref 258), some (.int x), some (.int y), some (.int z), some (.int (nI 16))] [] (312, ν, plI σ 16)) :
    ∀ j i, i + j = 16 → GN mX12_init ((R, (u, us)), n0, K) 488 [some (.ref 258), some (.int x), some (.int y), some (.int z), some (.int (nI i))] [] (312, ν, plI σ i) := by
  have h0 : kd 258 = (12, 65) := by decide +kernel
  have h1 : kd 259 = (20, 16) := by decide +kernel
  have h2 : kd 260 = (20, 16) := by decide +kernel
  have r4 : rf 258 4 = 259 := by decide +kernel
  have r5 : rf 258 5 = 260 := by decide +kernel
  intro j
  induction j with
  | zero =>
    intro i hi
    have e : i = 16 := by omega
    subst e
    refine ng_iload dX12_init_488 rfl ?_
    refine ng_bipush (v := nI 16) dX12_init_490 (by decide) ?_
    refine ngt_icmp_ge (tgt := 532) dX12_init_492 (by decide) (by omega) (by omega) (by omega) ?_
    exact hX
  | succ j ih =>
    intro i hi
    have hi16 : i < 16 := by omega
    refine ng_iload dX12_init_488 rfl ?_
    refine ng_bipush (v := nI 16) dX12_init_490 (by decide) ?_
    refine ngf_icmp_ge (tgt := 532) dX12_init_492 (by decide) (by omega) (by omega) (by omega) ?_
    refine ngs_aload_n dX12_init_495 rfl rfl ?_
    refine ng_getR dX12_init_496 fX12_7 (kn_of (by omega) h0) (by decide) r4 (hν _ _ (by decide) (by decide)) ?_
    refine ng_iload dX12_init_499 rfl ?_
    refine ng_iload dX12_init_501 rfl ?_
    refine ng_iconst (v := nI 4) dX12_init_503 (by decide) ?_
    refine ng_idiv dX12_init_504 (by decide) (dv4 hi16) ?_
    refine ng_iload dX12_init_505 rfl ?_
    refine ng_iconst (v := nI 4) dX12_init_507 (by decide) ?_
    refine ng_irem dX12_init_508 (by decide) (rm4 hi16) ?_
    have tl : ∀ v, v = (if i / 4 = i % 4 then nI 0 else nI 2) → GN mX12_init ((R, (u, us)), n0, K) 517 [some (.ref 258), some (.int x), some (.int y), some (.int z), some (.int (nI i))] [.int v, .int (nI i), .ref 259] (312, ν, plI σ i) := fun v hv => by
      subst hv
      refine ng_iast dX12_init_517 (kn_of (by omega) h1) hi16 ?_
      refine ngs_aload_n dX12_init_518 rfl rfl ?_
      refine ng_getR dX12_init_519 fX12_13 (kn_of (by omega) h0) (by decide) r5 (hν _ _ (by decide) (by decide)) ?_
      refine ng_iload dX12_init_522 rfl ?_
      refine ng_iconst (v := nI 2) dX12_init_524 (by decide) ?_
      refine ng_iast dX12_init_525 (kn_of (by omega) h2) hi16 ?_
      refine ngs_iinc (ls' := [_, _, _, _, _]) dX12_init_526 rfl (nI_add _ 1) rfl rfl ?_
      refine ng_goto (tgt := 488) dX12_init_529 (by decide) ?_
      rw [plI_s]
      exact ih (i + 1) (by omega)
    refine ngn_icmp_ne (tgt := 516) dX12_init_509 (by decide) (by omega) (by omega) (fun c9 => ?_) (fun c9 => ?_)
    · refine ng_iconst (v := nI 2) dX12_init_516 (by decide) ?_
      exact tl _ (if_neg (by omega)).symm
    · refine ng_iconst (v := nI 0) dX12_init_512 (by decide) ?_
      refine ng_goto (tgt := 517) dX12_init_513 (by decide) ?_
      exact tl _ (if_pos (by omega)).symm
