/-! The law's own helpers that catch: cell, read, element. -/
theorem kw_out : kw W0 312 = (21, 1) := by decide +kernel
theorem tl_0 : Cond.classLink RL 13 xIA ∈ tbG := tb_in (by decide +kernel) rfl
theorem tl_1 : Cond.classLink RL 23 xIS ∈ tbG := tb_in (by decide +kernel) rfl
theorem dL_cell__0 : decode cL_cell_ 0 = .ok (.aload_n 3, 1) := by decide +kernel
theorem dL_cell__1 : decode cL_cell_ 1 = .ok (.iconst 0, 1) := by decide +kernel
theorem dL_cell__2 : decode cL_cell_ 2 = .ok (.aload_n 0, 1) := by decide +kernel
theorem dL_cell__3 : decode cL_cell_ 3 = .ok (.iload_n 1, 1) := by decide +kernel
theorem dL_cell__4 : decode cL_cell_ 4 = .ok (.iload_n 2, 1) := by decide +kernel
theorem dL_cell__5 : decode cL_cell_ 5 = .ok (.invokevirtual 7, 3) := by decide +kernel
theorem dL_cell__8 : decode cL_cell_ 8 = .ok (.i2l, 1) := by decide +kernel
theorem dL_cell__9 : decode cL_cell_ 9 = .ok (.lastore, 1) := by decide +kernel
theorem dL_cell__10 : decode cL_cell_ 10 = .ok (.goto 7, 3) := by decide +kernel
theorem dL_cell__13 : decode cL_cell_ 13 = .ok (.astore 4, 2) := by decide +kernel
theorem dL_cell__15 : decode cL_cell_ 15 = .ok (.iconst 1, 1) := by decide +kernel
theorem dL_cell__16 : decode cL_cell_ 16 = .ok (.ireturn, 1) := by decide +kernel
theorem dL_cell__17 : decode cL_cell_ 17 = .ok (.iconst 0, 1) := by decide +kernel
theorem dL_cell__18 : decode cL_cell_ 18 = .ok (.ireturn, 1) := by decide +kernel
theorem dL_read_0 : decode cL_read 0 = .ok (.aload_n 2, 1) := by decide +kernel
theorem dL_read_1 : decode cL_read 1 = .ok (.iconst 0, 1) := by decide +kernel
theorem dL_read_2 : decode cL_read 2 = .ok (.aload_n 0, 1) := by decide +kernel
theorem dL_read_3 : decode cL_read 3 = .ok (.iload_n 1, 1) := by decide +kernel
theorem dL_read_4 : decode cL_read 4 = .ok (.invokevirtual 15, 3) := by decide +kernel
theorem dL_read_7 : decode cL_read 7 = .ok (.i2l, 1) := by decide +kernel
theorem dL_read_8 : decode cL_read 8 = .ok (.lastore, 1) := by decide +kernel
theorem dL_read_9 : decode cL_read 9 = .ok (.goto 6, 3) := by decide +kernel
theorem dL_read_12 : decode cL_read 12 = .ok (.astore_n 3, 1) := by decide +kernel
theorem dL_read_13 : decode cL_read 13 = .ok (.iconst 1, 1) := by decide +kernel
theorem dL_read_14 : decode cL_read 14 = .ok (.ireturn, 1) := by decide +kernel
theorem dL_read_15 : decode cL_read 15 = .ok (.iconst 0, 1) := by decide +kernel
theorem dL_read_16 : decode cL_read 16 = .ok (.ireturn, 1) := by decide +kernel
theorem dL_element_0 : decode cL_element 0 = .ok (.aload_n 3, 1) := by decide +kernel
theorem dL_element_1 : decode cL_element 1 = .ok (.iconst 0, 1) := by decide +kernel
theorem dL_element_2 : decode cL_element 2 = .ok (.aload_n 0, 1) := by decide +kernel
theorem dL_element_3 : decode cL_element 3 = .ok (.iload_n 1, 1) := by decide +kernel
theorem dL_element_4 : decode cL_element 4 = .ok (.iload_n 2, 1) := by decide +kernel
theorem dL_element_5 : decode cL_element 5 = .ok (.invokevirtual 19, 3) := by decide +kernel
theorem dL_element_8 : decode cL_element 8 = .ok (.lastore, 1) := by decide +kernel
theorem dL_element_9 : decode cL_element 9 = .ok (.goto 11, 3) := by decide +kernel
theorem dL_element_12 : decode cL_element 12 = .ok (.astore 4, 2) := by decide +kernel
theorem dL_element_14 : decode cL_element 14 = .ok (.iconst 1, 1) := by decide +kernel
theorem dL_element_15 : decode cL_element 15 = .ok (.ireturn, 1) := by decide +kernel
theorem dL_element_16 : decode cL_element 16 = .ok (.astore 4, 2) := by decide +kernel
theorem dL_element_18 : decode cL_element 18 = .ok (.iconst 2, 1) := by decide +kernel
theorem dL_element_19 : decode cL_element 19 = .ok (.ireturn, 1) := by decide +kernel
theorem dL_element_20 : decode cL_element 20 = .ok (.iconst 0, 1) := by decide +kernel
theorem dL_element_21 : decode cL_element 21 = .ok (.ireturn, 1) := by decide +kernel
theorem l_cell {σ : Mm} {S : Sx} {H : Hx} (hJ : CI σ S H) (hPI : PI S) (x y : Int32) : MetY W0 mL_cell_ [(0, 10, 13, 13)] [.ref 0, .int x, .int y, .ref 312] σ (fun v τ => v = some (.int (xCell S x y)) ∧ (okCl S x y = true → τ = wL σ 312 0 (aCell S x y).toInt64) ∧ (okCl S x y = false → τ = σ)) := by
  refine GX.metY (by decide) (Nat.le_of_ble_eq_true rfl) ?_
  show GX _ _ _ 0 [some (.ref 0), some (.int x), some (.int y), some (.ref 312), none] [] σ
  refine xgs_aload_n dL_cell__0 rfl rfl ?_
  refine xg_iconst (v := nI 0) dL_cell__1 (by decide) ?_
  refine xgs_aload_n dL_cell__2 rfl rfl ?_
  refine xgs_iload_n dL_cell__3 rfl rfl ?_
  refine xgs_iload_n dL_cell__4 rfl rfl ?_
  refine xg_callX (As := [.int x, .int y]) (rest := [.int (nI 0), .ref 312]) dL_cell__5 vL_7 (by decide) kFC (by decide) rfl (by decide) (fun B l s c args h => ⟨h.1, h.2.2⟩) ⟨Nat.le_refl _, Nat.le_refl _⟩ (a_cell hJ hPI x y) ?_ ?_
  · rintro v τ ⟨rfl, hok, rfl⟩
    show GX W0 mL_cell_ _ 8 _ [.int _, .int (nI 0), .ref 312] _
    refine xg_i2l dL_cell__8 rfl ?_
    refine xg_last dL_cell__9 kw_out (by decide) ?_
    refine xg_goto (tgt := 17) dL_cell__10 (by decide) ?_
    refine xg_iconst (v := nI 0) dL_cell__17 (by decide) ?_
    refine xg_ireturn dL_cell__18 rfl ⟨Nat.le_refl _, Nat.le_refl _⟩ ?_
    exact ⟨by rw [xCell, if_pos hok], fun _ => rfl, fun z => absurd hok (nbf z)⟩
  · rintro E τ ⟨rfl, hno, rfl⟩
    refine xg_catch (R9 := ((1, 6), (0 + 1, 0 + 6))) (hh := [(0, 10, 13, 13)]) [] ⟨0, 10, 13, 13⟩ [] rfl (fun z hz => nomatch hz) (by decide) (by decide) tl_0 (Or.inl rfl) dL_cell__13 rfl ?_
    show GX W0 mL_cell_ _ 15 [some (.ref 0), some (.int x), some (.int y), some (.ref 312), none] [] _
    refine xg_iconst (v := nI 1) dL_cell__15 (by decide) ?_
    refine xg_ireturn dL_cell__16 rfl ⟨Nat.le_refl _, Nat.le_refl _⟩ ?_
    exact ⟨by rw [xCell, if_neg (nbf hno)], fun z => absurd z (nbf hno), fun _ => rfl⟩
theorem l_read {σ : Mm} {S : Sx} {H : Hx} (hJ : CI σ S H) (hPI : PI S) (x : Int32) : MetY W0 mL_read [(0, 9, 12, 13)] [.ref 0, .int x, .ref 312] σ (fun v τ => v = some (.int (xRead S x)) ∧ (inN x (S.1 9 0) = true → τ = wL σ 312 0 (aRead S x).toInt64) ∧ (inN x (S.1 9 0) = false → τ = σ)) := by
  refine GX.metY (by decide) (Nat.le_of_ble_eq_true rfl) ?_
  show GX _ _ _ 0 [some (.ref 0), some (.int x), some (.ref 312), none] [] σ
  refine xgs_aload_n dL_read_0 rfl rfl ?_
  refine xg_iconst (v := nI 0) dL_read_1 (by decide) ?_
  refine xgs_aload_n dL_read_2 rfl rfl ?_
  refine xgs_iload_n dL_read_3 rfl rfl ?_
  refine xg_callX (As := [.int x]) (rest := [.int (nI 0), .ref 312]) dL_read_4 vL_15 (by decide) kFC (by decide) rfl (by decide) (fun B l s c args h => ⟨h.1, h.2.2⟩) ⟨Nat.le_refl _, Nat.le_refl _⟩ (a_read hJ hPI x) ?_ ?_
  · rintro v τ ⟨rfl, hok, rfl⟩
    show GX W0 mL_read _ 7 _ [.int _, .int (nI 0), .ref 312] _
    refine xg_i2l dL_read_7 rfl ?_
    refine xg_last dL_read_8 kw_out (by decide) ?_
    refine xg_goto (tgt := 15) dL_read_9 (by decide) ?_
    refine xg_iconst (v := nI 0) dL_read_15 (by decide) ?_
    refine xg_ireturn dL_read_16 rfl ⟨Nat.le_refl _, Nat.le_refl _⟩ ?_
    exact ⟨by rw [xRead, if_pos hok], fun _ => rfl, fun z => absurd hok (nbf z)⟩
  · rintro E τ ⟨rfl, hno, rfl⟩
    refine xg_catch_n (R9 := ((1, 6), (0 + 1, 0 + 6))) (hh := [(0, 9, 12, 13)]) [] ⟨0, 9, 12, 13⟩ [] rfl (fun z hz => nomatch hz) (by decide) (by decide) tl_0 (Or.inl rfl) dL_read_12 rfl ?_
    show GX W0 mL_read _ 13 [some (.ref 0), some (.int x), some (.ref 312), none] [] _
    refine xg_iconst (v := nI 1) dL_read_13 (by decide) ?_
    refine xg_ireturn dL_read_14 rfl ⟨Nat.le_refl _, Nat.le_refl _⟩ ?_
    exact ⟨by rw [xRead, if_neg (nbf hno)], fun z => absurd z (nbf hno), fun _ => rfl⟩
theorem okEl_r {H : Hx} {x y : Int32} (h : okEl H x y = true) : rg x 0 7 = true := (Bool.and_eq_true_iff.mp h).1
theorem okEl_n {H : Hx} {x y : Int32} (h : rg x 0 7 = false) : okEl H x y = false := by unfold okEl; rw [h, Bool.false_and]
theorem l_element {σ : Mm} {S : Sx} {H : Hx} (hJ : CI σ S H) (hPI : PI S) (x y : Int32) : MetY W0 mL_element [(0, 9, 12, 13), (0, 9, 16, 23)] [.ref 0, .int x, .int y, .ref 312] σ (fun v τ => v = some (.int (xElem H x y)) ∧ (okEl H x y = true → τ = wL σ 312 0 (aElem H x y)) ∧ (okEl H x y = false → τ = σ)) := by
  refine GX.metY (by decide) (Nat.le_of_ble_eq_true rfl) ?_
  show GX _ _ _ 0 [some (.ref 0), some (.int x), some (.int y), some (.ref 312), none] [] σ
  refine xgs_aload_n dL_element_0 rfl rfl ?_
  refine xg_iconst (v := nI 0) dL_element_1 (by decide) ?_
  refine xgs_aload_n dL_element_2 rfl rfl ?_
  refine xgs_iload_n dL_element_3 rfl rfl ?_
  refine xgs_iload_n dL_element_4 rfl rfl ?_
  refine xg_callX (As := [.int x, .int y]) (rest := [.int (nI 0), .ref 312]) dL_element_5 vL_19 (by decide) kFC (by decide) rfl (by decide) (fun B l s c args h => ⟨h.1, h.2.2⟩) ⟨Nat.le_refl _, Nat.le_refl _⟩ (a_element hJ hPI x y) ?_ ?_
  · rintro v τ ⟨rfl, hok, rfl⟩
    show GX W0 mL_element _ 8 _ [.long _, .int (nI 0), .ref 312] _
    refine xg_last dL_element_8 kw_out (by decide) ?_
    refine xg_goto (tgt := 20) dL_element_9 (by decide) ?_
    refine xg_iconst (v := nI 0) dL_element_20 (by decide) ?_
    refine xg_ireturn dL_element_21 rfl ⟨Nat.le_refl _, Nat.le_refl _⟩ ?_
    exact ⟨by rw [xElem, if_pos (okEl_r hok), if_pos hok], fun _ => rfl, fun z => absurd hok (nbf z)⟩
  · rintro E τ ⟨⟨rfl, hno⟩ | ⟨rfl, h7, hno⟩, rfl⟩
    · refine xg_catch (R9 := ((1, 6), (0 + 1, 0 + 6))) (hh := [(0, 9, 12, 13), (0, 9, 16, 23)]) [] ⟨0, 9, 12, 13⟩ [⟨0, 9, 16, 23⟩] rfl (fun z hz => nomatch hz) (by decide) (by decide) tl_0 (Or.inl rfl) dL_element_12 rfl ?_
      show GX W0 mL_element _ 14 [some (.ref 0), some (.int x), some (.int y), some (.ref 312), none] [] _
      refine xg_iconst (v := nI 1) dL_element_14 (by decide) ?_
      refine xg_ireturn dL_element_15 rfl ⟨Nat.le_refl _, Nat.le_refl _⟩ ?_
      exact ⟨by rw [xElem, if_neg (nbf hno)], fun z => absurd z (nbf (okEl_n hno)), fun _ => rfl⟩
    · refine xg_catch (R9 := ((1, 6), (0 + 1, 0 + 6))) (hh := [(0, 9, 12, 13), (0, 9, 16, 23)]) [⟨0, 9, 12, 13⟩] ⟨0, 9, 16, 23⟩ [] rfl (fun z hz => by rcases List.mem_singleton.mp hz with rfl; exact Or.inr ⟨by decide, tl_0, rfl⟩) (by decide) (by decide) tl_1 (Or.inr rfl) dL_element_16 rfl ?_
      show GX W0 mL_element _ 18 [some (.ref 0), some (.int x), some (.int y), some (.ref 312), none] [] _
      refine xg_iconst (v := nI 2) dL_element_18 (by decide) ?_
      refine xg_ireturn dL_element_19 rfl ⟨Nat.le_refl _, Nat.le_refl _⟩ ?_
      exact ⟨by rw [xElem, if_pos h7, if_neg (nbf hno)], fun z => absurd z (nbf hno), fun _ => rfl⟩
