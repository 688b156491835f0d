/-! The board's constructor. -/
def BdI (P : Dm) (n : Nat) (y z : Int32) (σ τ : Mm) : Prop := τ.2 = σ.2 ∧ (∀ b, ¬ (1 ≤ b ∧ b < 6) → τ.1 b = σ.1 b) ∧ τ.1 1 0 = nI n ∧ τ.1 1 1 = y ∧ τ.1 1 2 = z ∧ (∀ k, k < 16 → τ.1 2 k = nI 2 ∧ τ.1 3 k = nI 2) ∧ Sm n (dst P n) τ ∧ Hmp n n 0 (lhF P (dst P n) n) τ
theorem bdW6 : bdW (1, 6) := by unfold bdW; decide +kernel
theorem c_board {P : Dm} {n : Nat} {y z : Int32} {ν : Nat → Nat → Bool} {σ : Mm} (hn : n ≤ 4) (hP : ∀ a b, a < n → b < n → a ≠ b → P a b = 2) (hP9 : ∀ a b, P a b ≤ 9) (hF : Fr 1 ν σ) : MetN mX1_init [.ref 1, .int (nI n), .int y, .int z] (2, ν, σ) (4, 64) (fun w => ∃ τ : Mm, w = (6, ovV ν 1 5, τ) ∧ BdI P n y z σ τ) := by
  have h0 : kd 1 = (1, 7) := by decide +kernel
  have h1 : kd 2 = (20, 16) := by decide +kernel
  have h2 : kd 3 = (20, 16) := by decide +kernel
  have h3 : kd 4 = (20, 16) := by decide +kernel
  have h4 : kd 5 = (20, 16) := by decide +kernel
  have r3 : rf 1 3 = 2 := by decide +kernel
  have r4 : rf 1 4 = 3 := by decide +kernel
  have r5 : rf 1 5 = 4 := by decide +kernel
  have r6 : rf 1 6 = 5 := by decide +kernel
  refine GN.met (by decide) rfl (Nat.le_of_ble_eq_true rfl) ?_
  show GN _ _ 0 [some (.ref 1), some (.int (nI n)), some (.int y), some (.int z)] [] (2, ν, σ)
  refine GN.st (z' := (2, setL ν 1 [], σ)) (by rw [setL_nil]) ?_
  refine ngs_aload_n dX1_init_0 rfl rfl ?_
  refine ng_objI dX1_init_1 oX1 ⟨by decide, by decide⟩ ?_
  refine ngs_aload_n dX1_init_4 rfl rfl ?_
  refine ng_bipush (v := nI 16) dX1_init_5 (by decide) ?_
  refine ng_new20 dX1_init_7 h1 (by omega) (by omega) ⟨by first | decide | omega, by first | decide | omega⟩ ((hF.up (by omega)).sl (a := 1) (by omega)) ?_
  refine ng_putRL dX1_init_9 pqX1_9 (kn_of (by omega) h0) (by decide) (Or.inr ⟨_, rfl⟩) r3 ?_
  refine ngs_aload_n dX1_init_12 rfl rfl ?_
  refine ng_bipush (v := nI 16) dX1_init_13 (by decide) ?_
  refine ng_new20 dX1_init_15 h2 (by omega) (by omega) ⟨by first | decide | omega, by first | decide | omega⟩ ((hF.up (by omega)).sl (a := 1) (by omega)) ?_
  refine ng_putRL dX1_init_17 pqX1_15 (kn_of (by omega) h0) (by decide) (Or.inr ⟨_, rfl⟩) r4 ?_
  refine ngs_aload_n dX1_init_20 rfl rfl ?_
  refine ng_bipush (v := nI 16) dX1_init_21 (by decide) ?_
  refine ng_new20 dX1_init_23 h3 (by omega) (by omega) ⟨by first | decide | omega, by first | decide | omega⟩ ((hF.up (by omega)).sl (a := 1) (by omega)) ?_
  refine ng_putRL dX1_init_25 pqX1_18 (kn_of (by omega) h0) (by decide) (Or.inr ⟨_, rfl⟩) r5 ?_
  refine ngs_aload_n dX1_init_28 rfl rfl ?_
  refine ng_bipush (v := nI 16) dX1_init_29 (by decide) ?_
  refine ng_new20 dX1_init_31 h4 (by omega) (by omega) ⟨by first | decide | omega, by first | decide | omega⟩ ((hF.up (by omega)).sl (a := 1) (by omega)) ?_
  refine ng_putRL dX1_init_33 pqX1_21 (kn_of (by omega) h0) (by decide) (Or.inr ⟨_, rfl⟩) r6 ?_
  refine ngs_aload_n dX1_init_36 rfl rfl ?_
  refine ngs_iload_n dX1_init_37 rfl rfl ?_
  refine ng_putI dX1_init_38 pqX1_24 (kn_of (by omega) h0) (by decide) ?_
  refine ngs_aload_n dX1_init_41 rfl rfl ?_
  refine ngs_iload_n dX1_init_42 rfl rfl ?_
  refine ng_putI dX1_init_43 pqX1_28 (kn_of (by omega) h0) (by decide) ?_
  refine ngs_aload_n dX1_init_46 rfl rfl ?_
  refine ngs_iload_n dX1_init_47 rfl rfl ?_
  refine ng_putI dX1_init_48 pqX1_31 (kn_of (by omega) h0) (by decide) ?_
  have hV : setL ν 1 [6, 5, 4, 3] = ovV ν 1 5 := ovV_leaf (c := 5) hF (fun k hk => isR_sub (by decide) ((isP_obj h0 (by decide)).symm.trans hk)) (fun b k hb1 hb2 => by
    have hb : b = 2 ∨ b = 3 ∨ b = 4 ∨ b = 5 := by omega
    rcases hb with rfl | rfl | rfl | rfl
    · exact isP_row h1 (by decide)
    · exact isP_row h2 (by decide)
    · exact isP_row h3 (by decide)
    · exact isP_row h4 (by decide)) (by omega)
  refine GN.st (z' := (6, ovV ν 1 5, wI (wI (wI σ 1 0 (nI n)) 1 1 y) 1 2 z)) (nw_eq rfl hV.symm rfl) ?_
  have hν : ∀ b k, 1 ≤ b → b < 6 → ovV ν 1 5 b k = true := fun b k g1 g2 => by
    show (decide (1 ≤ b ∧ b < 1 + 5) || _) = true
    rw [decide_eq_true (⟨g1, by omega⟩ : 1 ≤ b ∧ b < 1 + 5)]; rfl
  generalize hs1 : wI (wI (wI σ 1 0 (nI n)) 1 1 y) 1 2 z = σ1
  have e0 : σ1.1 1 0 = nI n := by subst hs1; rw [wI_self, if_neg (by decide), wI_self, if_neg (by decide), wI_self, if_pos rfl]
  have e1 : σ1.1 1 1 = y := by subst hs1; rw [wI_self, if_neg (by decide), wI_self, if_pos rfl]
  have e2 : σ1.1 1 2 = z := by subst hs1; rw [wI_self, if_pos rfl]
  have e3 : ∀ b, b ≠ 1 → σ1.1 b = σ.1 b := fun b hb => by subst hs1; rw [wI_ne hb, wI_ne hb, wI_ne hb]
  have e4 : σ1.2 = σ.2 := by subst hs1; rfl
  refine ngs_aload_n dX1_init_51 rfl rfl ?_
  refine ng_getR dX1_init_52 fX1_9 (kn_of (by decide) h0) (by decide) r3 (hν 1 3 (by decide) (by decide)) ?_
  refine ng_iconst (v := nI 2) dX1_init_55 (by decide) ?_
  refine ng_cSV2 (lo := 1) dX1_init_56 vX1_34 (by decide) ⟨by decide, by decide⟩ (Nat.le_of_ble_eq_true rfl) hν (s_fill (Ω := (1, 6)) (a := 2) (n := 16) (by decide +kernel) (by decide)) ?_
  rintro _ rfl
  refine ⟨fun b hb => ⟨flI_ne (by omega), rfl⟩, ?_⟩
  refine ngs_aload_n dX1_init_59 rfl rfl ?_
  refine ng_getR dX1_init_60 fX1_15 (kn_of (by decide) h0) (by decide) r4 (hν 1 4 (by decide) (by decide)) ?_
  refine ng_iconst (v := nI 2) dX1_init_63 (by decide) ?_
  refine ng_cSV2 (lo := 1) dX1_init_64 vX1_34 (by decide) ⟨by decide, by decide⟩ (Nat.le_of_ble_eq_true rfl) hν (s_fill (Ω := (1, 6)) (a := 3) (n := 16) (by decide +kernel) (by decide)) ?_
  rintro _ rfl
  refine ⟨fun b hb => ⟨flI_ne (by omega), rfl⟩, ?_⟩
  generalize hs2 : flI (flI σ1 2 16 (nI 2)) 3 16 (nI 2) = σ2
  have f0 : σ2.1 1 = σ1.1 1 := by subst hs2; rw [flI_ne (by decide), flI_ne (by decide)]
  have f2 : ∀ k, k < 16 → σ2.1 2 k = nI 2 ∧ σ2.1 3 k = nI 2 := fun k hk => by
    subst hs2
    constructor
    · rw [flI_ne (by decide), flI_at, if_pos ⟨rfl, hk⟩]
    · rw [flI_at, if_pos ⟨rfl, hk⟩]
  have f3 : ∀ b, ¬ (1 ≤ b ∧ b < 6) → σ2.1 b = σ.1 b := fun b hb => by subst hs2; rw [flI_ne (by omega), flI_ne (by omega), e3 b (by omega)]
  have f4 : σ2.2 = σ.2 := by subst hs2; exact e4
  refine ngs_aload_n dX1_init_67 rfl rfl ?_
  refine ng_cVV0 (lo := 1) dX1_init_68 vX1_40 (by decide) ⟨by decide, by decide⟩ (kn_of (by decide) h0) (by decide) (Nat.le_of_ble_eq_true rfl) hν (r_measure (Ω := (1, 6)) (P := P) bdW6 hn (by rw [f0]; exact e0) ⟨fun a b ha hb hab => by rw [hP a b ha hb hab]; exact (f2 (ed a b) (by unfold ed; split <;> omega)).1, hP9⟩) ?_
  rintro τ ⟨hf, hSm, hHm⟩
  refine ⟨fun b hb => ⟨hf.1 b (by omega) (by omega), by rw [hf.2]⟩, ?_⟩
  refine ng_ret dX1_init_71 rfl ⟨by decide, by decide⟩ ?_
  refine ⟨τ, rfl, hf.2.trans f4, fun b hb => (hf.1 b (by omega) (by omega)).trans (f3 b hb), ?_, ?_, ?_, fun k hk => ?_, hSm, hHm⟩
  · rw [hf.1 1 (by decide) (by decide), f0]; exact e0
  · rw [hf.1 1 (by decide) (by decide), f0]; exact e1
  · rw [hf.1 1 (by decide) (by decide), f0]; exact e2
  · rw [hf.1 2 (by decide) (by decide), hf.1 3 (by decide) (by decide)]; exact f2 k hk
