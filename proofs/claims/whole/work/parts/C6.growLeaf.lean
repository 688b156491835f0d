/-! The small constructors. -/
theorem c_attempt {a : Nat} {ν : Nat → Nat → Bool} {σ : Mm} (h0 : kd a = (0, 10))  (hF : Fr a ν σ) : MetN mX0_init [.ref a] (a + 1, ν, σ) (0, 0) (fun z => z = (a + 1, ovV ν a 1, ovS σ a 1 (ivO a (fun _ => 0)))) := by
  refine GN.met (by decide) rfl (Nat.le_of_ble_eq_true rfl) ?_
  show GN _ _ 0 [some (.ref a)] [] (a + 1, ν, σ)
  refine GN.st (z' := (a + 1, setL ν a [], σ)) (by rw [setL_nil]) ?_
  refine ngs_aload_n dX0_init_0 rfl rfl ?_
  refine ng_objI dX0_init_1 oX0 ⟨by decide, by decide⟩ ?_
  refine ng_ret dX0_init_4 rfl ⟨by first | decide | omega, by first | decide | omega⟩ ?_
  refine nw_eq (by omega) (ovV_leaf (c := 1) hF (fun k hk => isR_sub (by decide) ((isP_obj h0 (by decide)).symm.trans hk)) (fun b k hb1 hb2 => ?_) (by omega)) (ovS_obj hF (by omega) rfl (fun b hb => ?_) (fun k => ?_))
  · omega
  · rfl
  · exact (hF a (Nat.le_refl _) k).2.1
theorem c_journal {a cap : Nat} {ν : Nat → Nat → Bool} {σ : Mm} (h0 : kd a = (2, 5)) (h1 : kd (a + 1) = (20, 4)) (h2 : kd (a + 2) = (20, 80)) (h3 : kd (a + 3) = (20, cap * 11)) (r3 : rf a 3 = a + 1) (r4 : rf a 4 = a + 2) (r1 : rf a 1 = a + 3) (hF : Fr a ν σ) : MetN mX2_init [.ref a, .int (nI cap)] (a + 1, ν, σ) (3, 84 + cap * 11) (fun z => z = (a + 4, ovV ν a 4, ovS σ a 4 (ivO a (fun k => if k = 0 then nI cap else 0)))) := by
  refine GN.met (by decide) rfl (Nat.le_of_ble_eq_true rfl) ?_
  show GN _ _ 0 [some (.ref a), some (.int (nI cap))] [] (a + 1, ν, σ)
  refine GN.st (z' := (a + 1, setL ν a [], σ)) (by rw [setL_nil]) ?_
  refine ngs_aload_n dX2_init_0 rfl rfl ?_
  refine ng_objI dX2_init_1 oX2 ⟨by decide, by decide⟩ ?_
  refine ngs_aload_n dX2_init_4 rfl rfl ?_
  refine ng_iconst (v := nI 4) dX2_init_5 (by decide) ?_
  refine ng_new20 dX2_init_6 h1 (by omega) (by omega) ⟨by first | decide | omega, by first | decide | omega⟩ ((hF.up (by omega)).sl (a := a) (by omega)) ?_
  refine ng_putRL dX2_init_8 pqX2_9 (kn_of (by omega) h0) (by decide) (Or.inr ⟨_, rfl⟩) r3 ?_
  refine ngs_aload_n dX2_init_11 rfl rfl ?_
  refine ng_bipush (v := nI 80) dX2_init_12 (by decide) ?_
  refine ng_new20 dX2_init_14 h2 (by omega) (by omega) ⟨by first | decide | omega, by first | decide | omega⟩ ((hF.up (by omega)).sl (a := a) (by omega)) ?_
  refine ng_putRL dX2_init_16 pqX2_15 (kn_of (by omega) h0) (by decide) (Or.inr ⟨_, rfl⟩) r4 ?_
  refine ngs_aload_n dX2_init_19 rfl rfl ?_
  refine ngs_iload_n dX2_init_20 rfl rfl ?_
  refine ng_putI dX2_init_21 pqX2_18 (kn_of (by omega) h0) (by decide) ?_
  refine ngs_aload_n dX2_init_24 rfl rfl ?_
  refine ngs_iload_n dX2_init_25 rfl rfl ?_
  refine ng_bipush (v := nI 11) dX2_init_26 (by decide) ?_
  refine ng_imul dX2_init_28 (pk_mul _ _) ?_
  refine ng_new20 dX2_init_29 h3 (by omega) (by omega) ⟨by first | decide | omega, by first | decide | omega⟩ (((hF.up (by omega)).sl (a := a) (by omega)).pi (by omega)) ?_
  refine ng_putRL dX2_init_31 pqX2_22 (kn_of (by omega) h0) (by decide) (Or.inr ⟨_, rfl⟩) r1 ?_
  refine ng_ret dX2_init_34 rfl ⟨by first | decide | omega, by first | decide | omega⟩ ?_
  refine nw_eq (by omega) (ovV_leaf (c := 4) hF (fun k hk => isR_sub (by decide) ((isP_obj h0 (by decide)).symm.trans hk)) (fun b k hb1 hb2 => ?_) (by omega)) (ovS_obj hF (by omega) rfl (fun b hb => ?_) (fun k => ?_))
  · have hb : b = a + 1 ∨ b = a + 2 ∨ b = a + 3 := by omega
    rcases hb with rfl | rfl | rfl
    · exact isP_row h1 (by decide)
    · exact isP_row h2 (by decide)
    · exact isP_row h3 (by decide)
  · simp only [wI, if_neg hb]
  · have hz := (hF a (Nat.le_refl _) k).2.1
    rw [wI_self, hz]
    try rfl
theorem c_page {a : Nat} {ν : Nat → Nat → Bool} {σ : Mm} (h0 : kd a = (4, 9)) (h1 : kd (a + 1) = (20, 4)) (h2 : kd (a + 2) = (20, 4)) (r0 : rf a 0 = a + 1) (r1 : rf a 1 = a + 2) (hF : Fr a ν σ) : MetN mX4_init [.ref a] (a + 1, ν, σ) (2, 8) (fun z => z = (a + 3, ovV ν a 3, ovS σ a 3 (ivO a (fun k => if k = 3 then -1 else 0)))) := by
  refine GN.met (by decide) rfl (Nat.le_of_ble_eq_true rfl) ?_
  show GN _ _ 0 [some (.ref a)] [] (a + 1, ν, σ)
  refine GN.st (z' := (a + 1, setL ν a [], σ)) (by rw [setL_nil]) ?_
  refine ngs_aload_n dX4_init_0 rfl rfl ?_
  refine ng_objI dX4_init_1 oX4 ⟨by decide, by decide⟩ ?_
  refine ngs_aload_n dX4_init_4 rfl rfl ?_
  refine ng_iconst (v := nI 4) dX4_init_5 (by decide) ?_
  refine ng_new20 dX4_init_6 h1 (by omega) (by omega) ⟨by first | decide | omega, by first | decide | omega⟩ ((hF.up (by omega)).sl (a := a) (by omega)) ?_
  refine ng_putRL dX4_init_8 pqX4_9 (kn_of (by omega) h0) (by decide) (Or.inr ⟨_, rfl⟩) r0 ?_
  refine ngs_aload_n dX4_init_11 rfl rfl ?_
  refine ng_iconst (v := nI 4) dX4_init_12 (by decide) ?_
  refine ng_new20 dX4_init_13 h2 (by omega) (by omega) ⟨by first | decide | omega, by first | decide | omega⟩ ((hF.up (by omega)).sl (a := a) (by omega)) ?_
  refine ng_putRL dX4_init_15 pqX4_15 (kn_of (by omega) h0) (by decide) (Or.inr ⟨_, rfl⟩) r1 ?_
  refine ngs_aload_n dX4_init_18 rfl rfl ?_
  refine ng_iconst (v := -1) dX4_init_19 (by decide) ?_
  refine ng_putI dX4_init_20 pqX4_18 (kn_of (by omega) h0) (by decide) ?_
  refine ng_ret dX4_init_23 rfl ⟨by first | decide | omega, by first | decide | omega⟩ ?_
  refine nw_eq (by omega) (ovV_leaf (c := 3) hF (fun k hk => isR_sub (by decide) ((isP_obj h0 (by decide)).symm.trans hk)) (fun b k hb1 hb2 => ?_) (by omega)) (ovS_obj hF (by omega) rfl (fun b hb => ?_) (fun k => ?_))
  · have hb : b = a + 1 ∨ b = a + 2 := by omega
    rcases hb with rfl | rfl
    · exact isP_row h1 (by decide)
    · exact isP_row h2 (by decide)
  · simp only [wI, if_neg hb]
  · have hz := (hF a (Nat.le_refl _) k).2.1
    rw [wI_self, hz]
    try rfl
theorem c_queues {a : Nat} {ν : Nat → Nat → Bool} {σ : Mm} (h0 : kd a = (5, 2)) (h1 : kd (a + 1) = (20, 40)) (h2 : kd (a + 2) = (20, 4)) (r0 : rf a 0 = a + 1) (r1 : rf a 1 = a + 2) (hF : Fr a ν σ) : MetN mX5_init [.ref a] (a + 1, ν, σ) (2, 44) (fun z => z = (a + 3, ovV ν a 3, ovS σ a 3 (ivO a (fun _ => 0)))) := by
  refine GN.met (by decide) rfl (Nat.le_of_ble_eq_true rfl) ?_
  show GN _ _ 0 [some (.ref a)] [] (a + 1, ν, σ)
  refine GN.st (z' := (a + 1, setL ν a [], σ)) (by rw [setL_nil]) ?_
  refine ngs_aload_n dX5_init_0 rfl rfl ?_
  refine ng_objI dX5_init_1 oX5 ⟨by decide, by decide⟩ ?_
  refine ngs_aload_n dX5_init_4 rfl rfl ?_
  refine ng_bipush (v := nI 40) dX5_init_5 (by decide) ?_
  refine ng_new20 dX5_init_7 h1 (by omega) (by omega) ⟨by first | decide | omega, by first | decide | omega⟩ ((hF.up (by omega)).sl (a := a) (by omega)) ?_
  refine ng_putRL dX5_init_9 pqX5_9 (kn_of (by omega) h0) (by decide) (Or.inr ⟨_, rfl⟩) r0 ?_
  refine ngs_aload_n dX5_init_12 rfl rfl ?_
  refine ng_iconst (v := nI 4) dX5_init_13 (by decide) ?_
  refine ng_new20 dX5_init_14 h2 (by omega) (by omega) ⟨by first | decide | omega, by first | decide | omega⟩ ((hF.up (by omega)).sl (a := a) (by omega)) ?_
  refine ng_putRL dX5_init_16 pqX5_15 (kn_of (by omega) h0) (by decide) (Or.inr ⟨_, rfl⟩) r1 ?_
  refine ng_ret dX5_init_19 rfl ⟨by first | decide | omega, by first | decide | omega⟩ ?_
  refine nw_eq (by omega) (ovV_leaf (c := 3) hF (fun k hk => isR_sub (by decide) ((isP_obj h0 (by decide)).symm.trans hk)) (fun b k hb1 hb2 => ?_) (by omega)) (ovS_obj hF (by omega) rfl (fun b hb => ?_) (fun k => ?_))
  · have hb : b = a + 1 ∨ b = a + 2 := by omega
    rcases hb with rfl | rfl
    · exact isP_row h1 (by decide)
    · exact isP_row h2 (by decide)
  · rfl
  · exact (hF a (Nat.le_refl _) k).2.1
theorem c_rules {a : Nat} {ν : Nat → Nat → Bool} {σ : Mm} (h0 : kd a = (6, 5))  (hF : Fr a ν σ) : MetN mX6_init [.ref a] (a + 1, ν, σ) (0, 0) (fun z => z = (a + 1, ovV ν a 1, ovS σ a 1 (ivO a (fun k => if k = 4 then nI 6 else if k = 3 then nI 2 else if k = 2 then nI 1 else 0)))) := by
  refine GN.met (by decide) rfl (Nat.le_of_ble_eq_true rfl) ?_
  show GN _ _ 0 [some (.ref a)] [] (a + 1, ν, σ)
  refine GN.st (z' := (a + 1, setL ν a [], σ)) (by rw [setL_nil]) ?_
  refine ngs_aload_n dX6_init_0 rfl rfl ?_
  refine ng_objI dX6_init_1 oX6 ⟨by decide, by decide⟩ ?_
  refine ngs_aload_n dX6_init_4 rfl rfl ?_
  refine ng_iconst (v := nI 0) dX6_init_5 (by decide) ?_
  refine ng_putI dX6_init_6 pqX6_9 (kn_of (by omega) h0) (by decide) ?_
  refine ngs_aload_n dX6_init_9 rfl rfl ?_
  refine ng_iconst (v := nI 0) dX6_init_10 (by decide) ?_
  refine ng_putI dX6_init_11 pqX6_15 (kn_of (by omega) h0) (by decide) ?_
  refine ngs_aload_n dX6_init_14 rfl rfl ?_
  refine ng_iconst (v := nI 1) dX6_init_15 (by decide) ?_
  refine ng_putI dX6_init_16 pqX6_18 (kn_of (by omega) h0) (by decide) ?_
  refine ngs_aload_n dX6_init_19 rfl rfl ?_
  refine ng_iconst (v := nI 2) dX6_init_20 (by decide) ?_
  refine ng_putI dX6_init_21 pqX6_21 (kn_of (by omega) h0) (by decide) ?_
  refine ngs_aload_n dX6_init_24 rfl rfl ?_
  refine ng_bipush (v := nI 6) dX6_init_25 (by decide) ?_
  refine ng_putI dX6_init_27 pqX6_24 (kn_of (by omega) h0) (by decide) ?_
  refine ng_ret dX6_init_30 rfl ⟨by first | decide | omega, by first | decide | omega⟩ ?_
  refine nw_eq (by omega) (ovV_leaf (c := 1) hF (fun k hk => isR_sub (by decide) ((isP_obj h0 (by decide)).symm.trans hk)) (fun b k hb1 hb2 => ?_) (by omega)) (ovS_obj hF (by omega) rfl (fun b hb => ?_) (fun k => ?_))
  · omega
  · simp only [wI, if_neg hb]
  · have hz := (hF a (Nat.le_refl _) k).2.1
    rw [wI_self, wI_self, wI_self, wI_self, wI_self, hz]
    show _ = if k = 4 then nI 6 else if k = 3 then nI 2 else if k = 2 then nI 1 else (0 : Int32)
    rw [show (if k = 1 then nI 0 else if k = 0 then nI 0 else (0 : Int32)) = 0 by split; rfl; split <;> rfl]
theorem c_script {a : Nat} {ν : Nat → Nat → Bool} {σ : Mm} (h0 : kd a = (7, 5)) (h1 : kd (a + 1) = (20, 60)) (h2 : kd (a + 2) = (20, 60)) (h3 : kd (a + 3) = (22, 60)) (h4 : kd (a + 4) = (20, 60)) (r0 : rf a 0 = a + 1) (r1 : rf a 1 = a + 2) (r2 : rf a 2 = a + 3) (r3 : rf a 3 = a + 4) (hF : Fr a ν σ) : MetN mX7_init [.ref a] (a + 1, ν, σ) (4, 240) (fun z => z = (a + 5, ovV ν a 5, ovS σ a 5 (ivO a (fun _ => 0)))) := by
  refine GN.met (by decide) rfl (Nat.le_of_ble_eq_true rfl) ?_
  show GN _ _ 0 [some (.ref a)] [] (a + 1, ν, σ)
  refine GN.st (z' := (a + 1, setL ν a [], σ)) (by rw [setL_nil]) ?_
  refine ngs_aload_n dX7_init_0 rfl rfl ?_
  refine ng_objI dX7_init_1 oX7 ⟨by decide, by decide⟩ ?_
  refine ngs_aload_n dX7_init_4 rfl rfl ?_
  refine ng_bipush (v := nI 60) dX7_init_5 (by decide) ?_
  refine ng_new20 dX7_init_7 h1 (by omega) (by omega) ⟨by first | decide | omega, by first | decide | omega⟩ ((hF.up (by omega)).sl (a := a) (by omega)) ?_
  refine ng_putRL dX7_init_9 pqX7_9 (kn_of (by omega) h0) (by decide) (Or.inr ⟨_, rfl⟩) r0 ?_
  refine ngs_aload_n dX7_init_12 rfl rfl ?_
  refine ng_bipush (v := nI 60) dX7_init_13 (by decide) ?_
  refine ng_new20 dX7_init_15 h2 (by omega) (by omega) ⟨by first | decide | omega, by first | decide | omega⟩ ((hF.up (by omega)).sl (a := a) (by omega)) ?_
  refine ng_putRL dX7_init_17 pqX7_15 (kn_of (by omega) h0) (by decide) (Or.inr ⟨_, rfl⟩) r1 ?_
  refine ngs_aload_n dX7_init_20 rfl rfl ?_
  refine ng_bipush (v := nI 60) dX7_init_21 (by decide) ?_
  refine ng_new22 dX7_init_23 h3 (by omega) (by omega) ⟨by first | decide | omega, by first | decide | omega⟩ ((hF.up (by omega)).sl (a := a) (by omega)) ?_
  refine ng_putRL dX7_init_25 pqX7_18 (kn_of (by omega) h0) (by decide) (Or.inr ⟨_, rfl⟩) r2 ?_
  refine ngs_aload_n dX7_init_28 rfl rfl ?_
  refine ng_bipush (v := nI 60) dX7_init_29 (by decide) ?_
  refine ng_new20 dX7_init_31 h4 (by omega) (by omega) ⟨by first | decide | omega, by first | decide | omega⟩ ((hF.up (by omega)).sl (a := a) (by omega)) ?_
  refine ng_putRL dX7_init_33 pqX7_22 (kn_of (by omega) h0) (by decide) (Or.inr ⟨_, rfl⟩) r3 ?_
  refine ng_ret dX7_init_36 rfl ⟨by first | decide | omega, by first | decide | omega⟩ ?_
  refine nw_eq (by omega) (ovV_leaf (c := 5) hF (fun k hk => isR_sub (by decide) ((isP_obj h0 (by decide)).symm.trans hk)) (fun b k hb1 hb2 => ?_) (by omega)) (ovS_obj hF (by omega) rfl (fun b hb => ?_) (fun k => ?_))
  · have hb : b = a + 1 ∨ b = a + 2 ∨ b = a + 3 ∨ b = a + 4 := by omega
    rcases hb with rfl | rfl | rfl | rfl
    · exact isP_row h1 (by decide)
    · exact isP_row h2 (by decide)
    · exact isP_row h3 (by decide)
    · exact isP_row h4 (by decide)
  · rfl
  · exact (hF a (Nat.le_refl _) k).2.1
theorem c_shelf {a : Nat} {ν : Nat → Nat → Bool} {σ : Mm} (h0 : kd a = (8, 8)) (h1 : kd (a + 1) = (23, 60)) (h2 : kd (a + 2) = (20, 60)) (r0 : rf a 0 = a + 1) (r1 : rf a 1 = a + 2) (hF : Fr a ν σ) : MetN mX8_init [.ref a] (a + 1, ν, σ) (2, 120) (fun z => z = (a + 3, ovV ν a 3, ovS σ a 3 (ivO a (fun _ => 0)))) := by
  refine GN.met (by decide) rfl (Nat.le_of_ble_eq_true rfl) ?_
  show GN _ _ 0 [some (.ref a)] [] (a + 1, ν, σ)
  refine GN.st (z' := (a + 1, setL ν a [], σ)) (by rw [setL_nil]) ?_
  refine ngs_aload_n dX8_init_0 rfl rfl ?_
  refine ng_objI dX8_init_1 oX8 ⟨by decide, by decide⟩ ?_
  refine ngs_aload_n dX8_init_4 rfl rfl ?_
  refine ng_bipush (v := nI 60) dX8_init_5 (by decide) ?_
  refine ng_new23 dX8_init_7 h1 (by omega) (by omega) ⟨by first | decide | omega, by first | decide | omega⟩ ((hF.up (by omega)).sl (a := a) (by omega)) ?_
  refine ng_putRL dX8_init_9 pqX8_9 (kn_of (by omega) h0) (by decide) (Or.inr ⟨_, rfl⟩) r0 ?_
  refine ngs_aload_n dX8_init_12 rfl rfl ?_
  refine ng_bipush (v := nI 60) dX8_init_13 (by decide) ?_
  refine ng_new20 dX8_init_15 h2 (by omega) (by omega) ⟨by first | decide | omega, by first | decide | omega⟩ ((hF.up (by omega)).sl (a := a) (by omega)) ?_
  refine ng_putRL dX8_init_17 pqX8_15 (kn_of (by omega) h0) (by decide) (Or.inr ⟨_, rfl⟩) r1 ?_
  refine ngs_aload_n dX8_init_20 rfl rfl ?_
  refine ng_iconst (v := nI 0) dX8_init_21 (by decide) ?_
  refine ng_putI dX8_init_22 pqX8_19 (kn_of (by omega) h0) (by decide) ?_
  refine ng_ret dX8_init_25 rfl ⟨by first | decide | omega, by first | decide | omega⟩ ?_
  refine nw_eq (by omega) (ovV_leaf (c := 3) hF (fun k hk => isR_sub (by decide) ((isP_obj h0 (by decide)).symm.trans hk)) (fun b k hb1 hb2 => ?_) (by omega)) (ovS_obj hF (by omega) rfl (fun b hb => ?_) (fun k => ?_))
  · have hb : b = a + 1 ∨ b = a + 2 := by omega
    rcases hb with rfl | rfl
    · exact isP_row h1 (by decide)
    · exact isP_row h2 (by decide)
  · simp only [wI, if_neg hb]
  · have hz := (hF a (Nat.le_refl _) k).2.1
    rw [wI_self, hz]
    split <;> rfl
theorem c_traffic {a : Nat} {ν : Nat → Nat → Bool} {σ : Mm} (h0 : kd a = (9, 4)) (h1 : kd (a + 1) = (20, 16)) (h2 : kd (a + 2) = (20, 16)) (h3 : kd (a + 3) = (20, 16)) (r1 : rf a 1 = a + 1) (r2 : rf a 2 = a + 2) (r3 : rf a 3 = a + 3) (r0 : rf a 0 = 1) (hF : Fr a ν σ) : MetN mX9_init [.ref a, .ref 1] (a + 1, ν, σ) (3, 48) (fun z => z = (a + 4, ovV ν a 4, ovS σ a 4 (ivO a (fun _ => 0)))) := by
  refine GN.met (by decide) rfl (Nat.le_of_ble_eq_true rfl) ?_
  show GN _ _ 0 [some (.ref a), some (.ref 1)] [] (a + 1, ν, σ)
  refine GN.st (z' := (a + 1, setL ν a [], σ)) (by rw [setL_nil]) ?_
  refine ngs_aload_n dX9_init_0 rfl rfl ?_
  refine ng_objI dX9_init_1 oX9 ⟨by decide, by decide⟩ ?_
  refine ngs_aload_n dX9_init_4 rfl rfl ?_
  refine ng_bipush (v := nI 16) dX9_init_5 (by decide) ?_
  refine ng_new20 dX9_init_7 h1 (by omega) (by omega) ⟨by first | decide | omega, by first | decide | omega⟩ ((hF.up (by omega)).sl (a := a) (by omega)) ?_
  refine ng_putRL dX9_init_9 pqX9_9 (kn_of (by omega) h0) (by decide) (Or.inr ⟨_, rfl⟩) r1 ?_
  refine ngs_aload_n dX9_init_12 rfl rfl ?_
  refine ng_bipush (v := nI 16) dX9_init_13 (by decide) ?_
  refine ng_new20 dX9_init_15 h2 (by omega) (by omega) ⟨by first | decide | omega, by first | decide | omega⟩ ((hF.up (by omega)).sl (a := a) (by omega)) ?_
  refine ng_putRL dX9_init_17 pqX9_15 (kn_of (by omega) h0) (by decide) (Or.inr ⟨_, rfl⟩) r2 ?_
  refine ngs_aload_n dX9_init_20 rfl rfl ?_
  refine ng_bipush (v := nI 16) dX9_init_21 (by decide) ?_
  refine ng_new20 dX9_init_23 h3 (by omega) (by omega) ⟨by first | decide | omega, by first | decide | omega⟩ ((hF.up (by omega)).sl (a := a) (by omega)) ?_
  refine ng_putRL dX9_init_25 pqX9_18 (kn_of (by omega) h0) (by decide) (Or.inr ⟨_, rfl⟩) r3 ?_
  refine ngs_aload_n dX9_init_28 rfl rfl ?_
  refine ngs_aload_n dX9_init_29 rfl rfl ?_
  refine ng_putRL dX9_init_30 pqX9_21 (kn_of (by omega) h0) (by decide) (Or.inl ⟨_, rfl⟩) r0 ?_
  refine ng_ret dX9_init_33 rfl ⟨by first | decide | omega, by first | decide | omega⟩ ?_
  refine nw_eq (by omega) (ovV_leaf (c := 4) hF (fun k hk => isR_sub (by decide) ((isP_obj h0 (by decide)).symm.trans hk)) (fun b k hb1 hb2 => ?_) (by omega)) (ovS_obj hF (by omega) rfl (fun b hb => ?_) (fun k => ?_))
  · have hb : b = a + 1 ∨ b = a + 2 ∨ b = a + 3 := by omega
    rcases hb with rfl | rfl | rfl
    · exact isP_row h1 (by decide)
    · exact isP_row h2 (by decide)
    · exact isP_row h3 (by decide)
  · rfl
  · exact (hF a (Nat.le_refl _) k).2.1
theorem c_worker {a sc : Nat} {ν : Nat → Nat → Bool} {σ : Mm} (h0 : kd a = (10, 8)) (r0 : rf a 0 = sc) (hF : Fr a ν σ) : MetN mX10_init [.ref a, .ref sc] (a + 1, ν, σ) (0, 0) (fun z => z = (a + 1, ovV ν a 1, ovS σ a 1 (ivO a (fun _ => 0)))) := by
  refine GN.met (by decide) rfl (Nat.le_of_ble_eq_true rfl) ?_
  show GN _ _ 0 [some (.ref a), some (.ref sc)] [] (a + 1, ν, σ)
  refine GN.st (z' := (a + 1, setL ν a [], σ)) (by rw [setL_nil]) ?_
  refine ngs_aload_n dX10_init_0 rfl rfl ?_
  refine ng_objI dX10_init_1 oX10 ⟨by decide, by decide⟩ ?_
  refine ngs_aload_n dX10_init_4 rfl rfl ?_
  refine ngs_aload_n dX10_init_5 rfl rfl ?_
  refine ng_putRL dX10_init_6 pqX10_7 (kn_of (by omega) h0) (by decide) (Or.inl ⟨_, rfl⟩) r0 ?_
  refine ng_ret dX10_init_9 rfl ⟨by first | decide | omega, by first | decide | omega⟩ ?_
  refine nw_eq (by omega) (ovV_leaf (c := 1) hF (fun k hk => isR_sub (by decide) ((isP_obj h0 (by decide)).symm.trans hk)) (fun b k hb1 hb2 => ?_) (by omega)) (ovS_obj hF (by omega) rfl (fun b hb => ?_) (fun k => ?_))
  · omega
  · rfl
  · exact (hF a (Nat.le_refl _) k).2.1
