/-! Calls that throw, of the class: cell, read, element; the shelf's throwFailure. -/
/-- M returns with K or throws with X, at a launch without traces -/
def MetX (Ω : Nat × Nat) (M : MI) (av : List Value) (σ : Mm) (K : Option Value → Mm → Prop) (X : String → Mm → Prop) : Prop :=
  ∀ (l : Launch), l.stackTraces = false → ∀ (B : Nat) (D : va_G) (cA : Nat → ClassId), vx_Met l (iy M) (wsM M) (rmX M (1, 6)) (va_Pc (av.map (cv B)) (fun U => va_P D vwCl (wld Ω B cA σ) U.heap ∧ KW D cA U ∧ TK B U)) (QK Ω B D cA K) (QX Ω B D cA X) 1 6 (fun q => B + Ω.1 ≤ q)
theorem GX.met {Ω : Nat × Nat} {M : MI} {av : List Value} {σ : Mm} {K : Option Value → Mm → Prop} {X : String → Mm → Prop} (hy : plainName (iy M).cls = true) (hlen : (lg_sl av).length ≤ il M) (h : GX Ω M (((1, 6), (0, 0)), EX, K, X) 0 (ls0 av (il M)) [] σ) : MetX Ω M av σ K X := by
  intro l hl B D cA
  refine vx_ofW (cc := ic M) (maxL := il M) (ret := ir M) hy rfl ?_
  intro p e s m args below meth c s₁ B0 hml ht hv
  obtain ⟨rfl, hP, ⟨hK, hNs⟩, hT⟩ := hv
  have hts := atoms_spec (ws := wsM M) B0.pre
  rw [lg_entry_eq]
  exact h B D cA p l e s m _ below meth c s.heap [] _ ⟨B0.exec, B0.bytes, hml, findClass_of_methodNamed B0.named, B0.returns, B0.notSynchronized, fun w hw => hts w (List.mem_cons_of_mem _ hw), hK, hNs⟩ ⟨hl, ht, hT⟩ hP va_S.rf (lvR_entry hlen)
theorem a_read {σ : Mm} {S : Sx} {H : Hx} (hJ : CI σ S H) (hPI : PI S) (x : Int32) : MetX W0 mX11_read [.ref 0, .int x] σ (fun v τ => v = some (.int (aRead S x)) ∧ inN x (S.1 9 0) = true ∧ τ = σ) (fun E τ => E = xIA ∧ inN x (S.1 9 0) = false ∧ τ = σ) := by
  have hJ0 := hJ
  obtain ⟨⟨Tf, hR, hTk⟩, hSh, hTr1, hTr2⟩ := hJ
  have hb : mch 57 := Or.inl rfl
  have hB : Bd S := hPI.1.1.1.1
  have b0 := B_nodes hB 0
  have bP := B_P hB 0
  have bT := B_T hB 0
  refine GX.met (by decide) (Nat.le_of_ble_eq_true rfl) ?_
  show GX _ _ _ 0 [some (.ref 0), some (.int x)] [] σ
  refine xgs_aload_n dX11_read_0 rfl rfl ?_
  refine xg_getR dX11_read_1 fX11_32 kFC (by decide) rFC_machine ?_
  refine xgs_iload_n dX11_read_4 rfl rfl ?_
  refine xg_cVI1 dX11_read_5 vX11_98 (by decide) ⟨Nat.zero_le _, Nat.zero_le _⟩ (kMa hb) (by decide) (Nat.le_of_ble_eq_true rfl) (c_hasWorker hb hR hB _) ?_
  rintro _ σ ⟨rfl, e9⟩
  subst e9
  refine xgb_if_ne (tgt := 21) dX11_read_8 (by decide) (fun c8 => ?_) (fun c8 => ?_)
  · obtain ⟨t, ht, rfl⟩ := inN_of c8 (by omega)
    refine xgs_aload_n dX11_read_21 rfl rfl ?_
    refine xg_getR dX11_read_22 fX11_32 kFC (by decide) rFC_machine ?_
    refine xg_getR dX11_read_25 fX11_101 (kMa hb) (by decide) (rMa_workers hb) ?_
    refine xgs_iload_n dX11_read_28 rfl rfl ?_
    refine xg_aald27 dX11_read_29 (kMa_workers hb) (by omega) (rWs hb (by omega)) ?_
    refine xg_getI dX11_read_30 fX11_232 (kWk hb (by omega)) (by decide) (CV_lastRead hR (by omega) (by omega)) ?_
    refine xg_ireturn dX11_read_33 rfl ⟨Nat.zero_le _, Nat.zero_le _⟩ ?_
    exact ⟨by rw [aRead, if_pos c8, nN_n (by omega)], c8, rfl⟩
  · exact xg_throw th_0 (text := "no such thread") (by decide) dX11_read_11 dX11_read_14 dX11_read_15 dX11_read_17 dX11_read_20 (by decide) ⟨rfl, c8, rfl⟩
theorem a_cell {σ : Mm} {S : Sx} {H : Hx} (hJ : CI σ S H) (hPI : PI S) (x y : Int32) : MetX W0 mX11_cell [.ref 0, .int x, .int y] σ (fun v τ => v = some (.int (aCell S x y)) ∧ okCl S x y = true ∧ τ = σ) (fun E τ => E = xIA ∧ okCl S x y = false ∧ τ = σ) := by
  have hJ0 := hJ
  obtain ⟨⟨Tf, hR, hTk⟩, hSh, hTr1, hTr2⟩ := hJ
  have hb : mch 57 := Or.inl rfl
  have hB : Bd S := hPI.1.1.1.1
  have b0 := B_nodes hB 0
  have bP := B_P hB 0
  have bT := B_T hB 0
  refine GX.met (by decide) (Nat.le_of_ble_eq_true rfl) ?_
  show GX _ _ _ 0 [some (.ref 0), some (.int x), some (.int y)] [] σ
  refine xgs_aload_n dX11_cell_0 rfl rfl ?_
  refine xg_getR dX11_cell_1 fX11_32 kFC (by decide) rFC_machine ?_
  refine xgs_iload_n dX11_cell_4 rfl rfl ?_
  refine xg_cVI1 dX11_cell_5 vX11_138 (by decide) ⟨Nat.zero_le _, Nat.zero_le _⟩ (kMa hb) (by decide) (Nat.le_of_ble_eq_true rfl) (c_hasPage hb hR hB _) ?_
  rintro _ σ ⟨rfl, e9⟩
  subst e9
  refine xgb_if_eq (tgt := 20) dX11_cell_8 (by decide) (fun c8 => ?_) (fun c8 => ?_)
  · exact xg_throw th_0 (text := "no such cell") (by decide) dX11_cell_20 dX11_cell_23 dX11_cell_24 dX11_cell_26 dX11_cell_29 (by decide) ⟨rfl, by rw [okCl, c8, Bool.false_and], rfl⟩
  · refine xgs_iload_n dX11_cell_11 rfl rfl ?_
    refine xg_iconst (v := nI 0) dX11_cell_12 (by decide) ?_
    refine xg_iconst (v := nI 3) dX11_cell_13 (by decide) ?_
    refine xg_cSI3 dX11_cell_14 vX11_50 (by decide) ⟨Nat.zero_le _, Nat.zero_le _⟩ (Nat.le_of_ble_eq_true rfl) (c_within (by decide) (by decide)) ?_
    rintro _ σ ⟨rfl, e9⟩
    subst e9
    refine xgb_if_ne (tgt := 30) dX11_cell_17 (by decide) (fun c17 => ?_) (fun c17 => ?_)
    · obtain ⟨p, hp, rfl⟩ := inN_of c8 (by omega)
      obtain ⟨c, hcl, hc, rfl⟩ := rg_of c17
      have h20 : p < 20 := by omega
      refine xgs_aload_n dX11_cell_30 rfl rfl ?_
      refine xg_getR dX11_cell_31 fX11_32 kFC (by decide) rFC_machine ?_
      refine xg_getR dX11_cell_34 fX11_141 (kMa hb) (by decide) (rMa_pages hb) ?_
      refine xgs_iload_n dX11_cell_37 rfl rfl ?_
      refine xg_aald24 dX11_cell_38 (kMa_pages hb) h20 (rPs hb h20) ?_
      refine xg_getR dX11_cell_39 fX11_213 (kPg hb h20) (by decide) (rPg_cells hb h20) ?_
      refine xgs_iload_n dX11_cell_42 rfl rfl ?_
      refine xg_iald dX11_cell_43 (kPg_cells hb h20) (by omega) (show _ = S.2.1 9 (4 * p + c) from by have q := CV_cell hR (i := 4 * p + c) (by omega) (by omega); rw [show (4 * p + c) / 4 = p from by omega, show (4 * p + c) % 4 = c from by omega] at q; exact q) ?_
      refine xg_ireturn dX11_cell_44 rfl ⟨Nat.zero_le _, Nat.zero_le _⟩ ?_
      exact ⟨by rw [aCell, if_pos (yb c8 c17), nN_n (by omega), nN_n (by omega)], yb c8 c17, rfl⟩
    · exact xg_throw th_0 (text := "no such cell") (by decide) dX11_cell_20 dX11_cell_23 dX11_cell_24 dX11_cell_26 dX11_cell_29 (by decide) ⟨rfl, by rw [okCl, c17, Bool.and_false], rfl⟩
theorem a_element {σ : Mm} {S : Sx} {H : Hx} (hJ : CI σ S H) (hPI : PI S) (x y : Int32) : MetX W0 mX11_element [.ref 0, .int x, .int y] σ (fun v τ => v = some (.long (aElem H x y)) ∧ okEl H x y = true ∧ τ = σ) (fun E τ => (E = xIA ∧ rg x 0 7 = false ∨ E = xIS ∧ rg x 0 7 = true ∧ okEl H x y = false) ∧ τ = σ) := by
  have hJ0 := hJ
  obtain ⟨⟨Tf, hR, hTk⟩, hSh, hTr1, hTr2⟩ := hJ
  have hb : mch 57 := Or.inl rfl
  have hB : Bd S := hPI.1.1.1.1
  have b0 := B_nodes hB 0
  have bP := B_P hB 0
  have bT := B_T hB 0
  refine GX.met (by decide) (Nat.le_of_ble_eq_true rfl) ?_
  show GX _ _ _ 0 [some (.ref 0), some (.int x), some (.int y), none] [] σ
  refine xgs_iload_n dX11_element_0 rfl rfl ?_
  refine xg_cSI1 dX11_element_1 vX11_306 (by decide) ⟨Nat.zero_le _, Nat.zero_le _⟩ (Nat.le_of_ble_eq_true rfl) (c_isShelf _) ?_
  rintro _ σ ⟨rfl, e9⟩
  subst e9
  refine xgb_if_ne (tgt := 18) dX11_element_4 (by decide) (fun c4 => ?_) (fun c4 => ?_)
  · obtain ⟨d, hd9l, hd9, rfl⟩ := rg_of c4
    have hd : d < 8 := by omega
    rcases (hSh d hd).2.1 with h | h | h | h
    · refine xgs_aload_n dX11_element_18 rfl rfl ?_
      refine xg_getR dX11_element_19 fX11_41 kFC (by decide) rFC_shelves ?_
      refine xgs_iload_n dX11_element_22 rfl rfl ?_
      refine xg_aald26 dX11_element_23 kShs hd (rSh hd) ?_
      refine xgs_astore_n (ls' := [_, _, _, _]) dX11_element_24 rfl rfl rfl ?_
      refine xgs_aload_n dX11_element_25 rfl rfl ?_
      refine xg_cVI0 dX11_element_26 vX11_329 (by decide) ⟨Nat.zero_le _, Nat.zero_le _⟩ (kSh hd) (by decide) (Nat.le_of_ble_eq_true rfl) (r_isRow hd ((hSh d hd).1.trans h)) ?_
      rintro _ σ ⟨rfl, e9⟩
      subst e9
      refine xgb_if_eq (tgt := 46) dX11_element_29 (by decide) (fun c29 => ?_) (fun c29 => ?_)
      · exact xg_throwW th_1 (text := "no such element") (by decide) dX11_element_46 dX11_element_49 dX11_element_50 dX11_element_53 dX11_element_56 (by decide) ⟨Or.inr ⟨rfl, c4, el_k hd (Or.inl h)⟩, rfl⟩
      · exact absurd c29 (by decide)
    · refine xgs_aload_n dX11_element_18 rfl rfl ?_
      refine xg_getR dX11_element_19 fX11_41 kFC (by decide) rFC_shelves ?_
      refine xgs_iload_n dX11_element_22 rfl rfl ?_
      refine xg_aald26 dX11_element_23 kShs hd (rSh hd) ?_
      refine xgs_astore_n (ls' := [_, _, _, _]) dX11_element_24 rfl rfl rfl ?_
      refine xgs_aload_n dX11_element_25 rfl rfl ?_
      refine xg_cVI0 dX11_element_26 vX11_329 (by decide) ⟨Nat.zero_le _, Nat.zero_le _⟩ (kSh hd) (by decide) (Nat.le_of_ble_eq_true rfl) (r_isRow hd ((hSh d hd).1.trans h)) ?_
      rintro _ σ ⟨rfl, e9⟩
      subst e9
      refine xgb_if_eq (tgt := 46) dX11_element_29 (by decide) (fun c29 => ?_) (fun c29 => ?_)
      · exact xg_throwW th_1 (text := "no such element") (by decide) dX11_element_46 dX11_element_49 dX11_element_50 dX11_element_53 dX11_element_56 (by decide) ⟨Or.inr ⟨rfl, c4, el_k hd (Or.inr h)⟩, rfl⟩
      · exact absurd c29 (by decide)
    · obtain ⟨n, f0, f1, f2, f3⟩ := (hSh d hd).2.2.1 h
      refine xgs_aload_n dX11_element_18 rfl rfl ?_
      refine xg_getR dX11_element_19 fX11_41 kFC (by decide) rFC_shelves ?_
      refine xgs_iload_n dX11_element_22 rfl rfl ?_
      refine xg_aald26 dX11_element_23 kShs hd (rSh hd) ?_
      refine xgs_astore_n (ls' := [_, _, _, _]) dX11_element_24 rfl rfl rfl ?_
      refine xgs_aload_n dX11_element_25 rfl rfl ?_
      refine xg_cVI0 dX11_element_26 vX11_329 (by decide) ⟨Nat.zero_le _, Nat.zero_le _⟩ (kSh hd) (by decide) (Nat.le_of_ble_eq_true rfl) (r_isRow hd ((hSh d hd).1.trans h)) ?_
      rintro _ σ ⟨rfl, e9⟩
      subst e9
      refine xgb_if_eq (tgt := 46) dX11_element_29 (by decide) (fun c29 => ?_) (fun c29 => ?_)
      · exact absurd c29 (by decide)
      · refine xgs_iload_n dX11_element_32 rfl rfl ?_
        refine xg_iconst (v := nI 0) dX11_element_33 (by decide) ?_
        refine xgs_aload_n dX11_element_34 rfl rfl ?_
        refine xg_getI dX11_element_35 fX11_333 (kSh hd) (by decide) f2 ?_
        refine xg_iconst (v := nI 1) dX11_element_38 (by decide) ?_
        refine xg_isub dX11_element_39 rfl ?_
        refine xg_cSI3 dX11_element_40 vX11_50 (by decide) ⟨Nat.zero_le _, Nat.zero_le _⟩ (Nat.le_of_ble_eq_true rfl) (c_withinN (by omega)) ?_
        rintro _ σ ⟨rfl, e9⟩
        subst e9
        refine xgb_if_ne (tgt := 57) dX11_element_43 (by decide) (fun c43 => ?_) (fun c43 => ?_)
        · obtain ⟨i, hi, rfl⟩ := inN_of c43 (by omega)
          refine xgs_aload_n dX11_element_57 rfl rfl ?_
          refine xg_getI dX11_element_58 fX11_309 (kSh hd) (by decide) ((hSh d hd).1.trans h) ?_
          refine xg_iconst (v := nI 3) dX11_element_61 (by decide) ?_
          refine xgf_icmp_ne (tgt := 75) dX11_element_62 (by decide) (by omega) (by omega) (by omega) ?_
          refine xgs_aload_n dX11_element_65 rfl rfl ?_
          refine xg_getR dX11_element_66 fX11_339 (kSh hd) (by decide) (rSh_bytes hd) ?_
          refine xgs_iload_n dX11_element_69 rfl rfl ?_
          refine xg_bald dX11_element_70 (kSh_bytes hd) (by omega) (f3 i hi).1 ?_
          refine xg_i2l dX11_element_71 rfl ?_
          refine xg_goto (tgt := 82) dX11_element_72 (by decide) ?_
          refine xg_lreturn dX11_element_82 rfl ⟨Nat.zero_le _, Nat.zero_le _⟩ ?_
          exact ⟨by rw [aElem, if_pos ((el_r (y := nI i) hd (Or.inl h) f0 f1).trans c43), nN_n (by omega), nN_n (by omega)], (el_r (y := nI i) hd (Or.inl h) f0 f1).trans c43, rfl⟩
        · exact xg_throwW th_1 (text := "no such element") (by decide) dX11_element_46 dX11_element_49 dX11_element_50 dX11_element_53 dX11_element_56 (by decide) ⟨Or.inr ⟨rfl, c4, (el_r (y := y) hd (Or.inl h) f0 f1).trans c43⟩, rfl⟩
    · obtain ⟨n, f0, f1, f2, f3⟩ := (hSh d hd).2.2.2.1 h
      refine xgs_aload_n dX11_element_18 rfl rfl ?_
      refine xg_getR dX11_element_19 fX11_41 kFC (by decide) rFC_shelves ?_
      refine xgs_iload_n dX11_element_22 rfl rfl ?_
      refine xg_aald26 dX11_element_23 kShs hd (rSh hd) ?_
      refine xgs_astore_n (ls' := [_, _, _, _]) dX11_element_24 rfl rfl rfl ?_
      refine xgs_aload_n dX11_element_25 rfl rfl ?_
      refine xg_cVI0 dX11_element_26 vX11_329 (by decide) ⟨Nat.zero_le _, Nat.zero_le _⟩ (kSh hd) (by decide) (Nat.le_of_ble_eq_true rfl) (r_isRow hd ((hSh d hd).1.trans h)) ?_
      rintro _ σ ⟨rfl, e9⟩
      subst e9
      refine xgb_if_eq (tgt := 46) dX11_element_29 (by decide) (fun c29 => ?_) (fun c29 => ?_)
      · exact absurd c29 (by decide)
      · refine xgs_iload_n dX11_element_32 rfl rfl ?_
        refine xg_iconst (v := nI 0) dX11_element_33 (by decide) ?_
        refine xgs_aload_n dX11_element_34 rfl rfl ?_
        refine xg_getI dX11_element_35 fX11_333 (kSh hd) (by decide) f2 ?_
        refine xg_iconst (v := nI 1) dX11_element_38 (by decide) ?_
        refine xg_isub dX11_element_39 rfl ?_
        refine xg_cSI3 dX11_element_40 vX11_50 (by decide) ⟨Nat.zero_le _, Nat.zero_le _⟩ (Nat.le_of_ble_eq_true rfl) (c_withinN (by omega)) ?_
        rintro _ σ ⟨rfl, e9⟩
        subst e9
        refine xgb_if_ne (tgt := 57) dX11_element_43 (by decide) (fun c43 => ?_) (fun c43 => ?_)
        · obtain ⟨i, hi, rfl⟩ := inN_of c43 (by omega)
          refine xgs_aload_n dX11_element_57 rfl rfl ?_
          refine xg_getI dX11_element_58 fX11_309 (kSh hd) (by decide) ((hSh d hd).1.trans h) ?_
          refine xg_iconst (v := nI 3) dX11_element_61 (by decide) ?_
          refine xgt_icmp_ne (tgt := 75) dX11_element_62 (by decide) (by omega) (by omega) (by omega) ?_
          refine xgs_aload_n dX11_element_75 rfl rfl ?_
          refine xg_getR dX11_element_76 fX11_343 (kSh hd) (by decide) (rSh_ints hd) ?_
          refine xgs_iload_n dX11_element_79 rfl rfl ?_
          refine xg_iald dX11_element_80 (kSh_ints hd) (by omega) (f3 i hi) ?_
          refine xg_i2l dX11_element_81 rfl ?_
          refine xg_lreturn dX11_element_82 rfl ⟨Nat.zero_le _, Nat.zero_le _⟩ ?_
          exact ⟨by rw [aElem, if_pos ((el_r (y := nI i) hd (Or.inr h) f0 f1).trans c43), nN_n (by omega), nN_n (by omega)], (el_r (y := nI i) hd (Or.inr h) f0 f1).trans c43, rfl⟩
        · exact xg_throwW th_1 (text := "no such element") (by decide) dX11_element_46 dX11_element_49 dX11_element_50 dX11_element_53 dX11_element_56 (by decide) ⟨Or.inr ⟨rfl, c4, (el_r (y := y) hd (Or.inr h) f0 f1).trans c43⟩, rfl⟩
  · exact xg_throwW th_0 (text := "no such shelf") (by decide) dX11_element_7 dX11_element_10 dX11_element_11 dX11_element_14 dX11_element_17 (by decide) ⟨Or.inl ⟨rfl, c4⟩, rfl⟩
theorem r_throwFailure {σ : Mm} {d kd : Nat} (hd : d < 8) (hk : kd ≤ 3) (hs : σ.1 (234 + 3 * d) 5 = nI kd) : MetX W0 mX8_throwFailure [.ref (234 + 3 * d)] σ (fun v τ => v = none ∧ kd = 0 ∧ τ = σ) (fun E τ => E = xIS ∧ 0 < kd ∧ τ = σ) := by
  refine GX.met (by decide) (Nat.le_of_ble_eq_true rfl) ?_
  show GX _ _ _ 0 [some (.ref (234 + 3 * d))] [] σ
  refine xgs_aload_n dX8_throwFailure_0 rfl rfl ?_
  refine xg_getI dX8_throwFailure_1 fX8_31 (kSh hd) (by decide) hs ?_
  refine xgn_if_eq (tgt := 17) dX8_throwFailure_4 (by decide) (by omega) (fun c4 => ?_) (fun c4 => ?_)
  · refine xg_return dX8_throwFailure_17 rfl ⟨Nat.zero_le _, Nat.zero_le _⟩ ?_
    exact ⟨rfl, c4, rfl⟩
  · exact xg_throw th_2 (text := "the failure of a page") (by decide) dX8_throwFailure_7 dX8_throwFailure_10 dX8_throwFailure_11 dX8_throwFailure_13 dX8_throwFailure_16 (by decide) ⟨rfl, c4, rfl⟩
