/-! toss of the class. -/
theorem kX11_cell : lkC mX11_cell 2 := ⟨tbG_at 1115 (by decide +kernel) (by decide +kernel), tbG_at 61 (by decide +kernel) (by decide +kernel), by decide +kernel⟩
theorem kX11_read : lkC mX11_read 1 := ⟨tbG_at 1138 (by decide +kernel) (by decide +kernel), tbG_at 61 (by decide +kernel) (by decide +kernel), by decide +kernel⟩
theorem kX11_element : lkC mX11_element 2 := ⟨tbG_at 1147 (by decide +kernel) (by decide +kernel), tbG_at 61 (by decide +kernel) (by decide +kernel), by decide +kernel⟩
theorem kX8_throwFailure : lkC mX8_throwFailure 0 := ⟨tbG_at 1038 (by decide +kernel) (by decide +kernel), tbG_at 74 (by decide +kernel) (by decide +kernel), by decide +kernel⟩
theorem vX11_361 : lkV RX11 361 mX8_throwFailure 8 0 := ⟨kX8_throwFailure, tbG_at 1035 (by decide +kernel) (by decide +kernel), tbG_at 1036 (by decide +kernel) (by decide +kernel), tbG_at 1037 (by decide +kernel) (by decide +kernel), _, rfl, rfl⟩
theorem vL_7 : lkV RL 7 mX11_cell 11 2 := ⟨kX11_cell, tbG_at 1112 (by decide +kernel) (by decide +kernel), tbG_at 1113 (by decide +kernel) (by decide +kernel), tbG_at 1114 (by decide +kernel) (by decide +kernel), _, rfl, rfl⟩
theorem vL_15 : lkV RL 15 mX11_read 11 1 := ⟨kX11_read, tbG_at 1135 (by decide +kernel) (by decide +kernel), tbG_at 1136 (by decide +kernel) (by decide +kernel), tbG_at 1137 (by decide +kernel) (by decide +kernel), _, rfl, rfl⟩
theorem vL_19 : lkV RL 19 mX11_element 11 2 := ⟨kX11_element, tbG_at 1144 (by decide +kernel) (by decide +kernel), tbG_at 1145 (by decide +kernel) (by decide +kernel), tbG_at 1146 (by decide +kernel) (by decide +kernel), _, rfl, rfl⟩
theorem a_toss {σ : Mm} {S : Sx} {H : Hx} (hJ : CI σ S H) (hPI : PI S) (x : Int32) : MetY W0 mX11_toss [(19, 23, 26, 334)] [.ref 0, .int x] σ (fun v τ => v = some (.int (aToss H x)) ∧ τ = σ) := by
  have hJ0 := hJ
  obtain ⟨⟨Tf, hR, hTk⟩, hSh, hTr1, hTr2⟩ := hJ
  have hb : mch 57 := Or.inl rfl
  have hB : Bd S := hPI.1.1.1.1
  have b0 := B_nodes hB 0
  have bP := B_P hB 0
  have bT := B_T hB 0
  refine GX.metY (by decide) (Nat.le_of_ble_eq_true rfl) ?_
  show GX _ _ _ 0 [some (.ref 0), some (.int x), none, none, none] [] σ
  refine xgs_aload_n dX11_toss_0 rfl rfl ?_
  refine xgs_iload_n dX11_toss_1 rfl rfl ?_
  refine xg_cVI1 dX11_toss_2 vX11_355 (by decide) ⟨Nat.zero_le _, Nat.zero_le _⟩ kFC (by decide) (Nat.le_of_ble_eq_true rfl) (r_refusal hSh x) ?_
  rintro _ σ ⟨rfl, e9⟩
  subst e9
  refine xgs_istore_n (ls' := [_, _, _, _, _]) dX11_toss_5 rfl rfl rfl ?_
  refine xgs_iload_n dX11_toss_6 rfl rfl ?_
  refine xg_if_eq (tgt := 12) dX11_toss_7 (by decide) (fun c7 => ?_) (fun c7 => ?_)
  · obtain ⟨d, hd, rfl, hw⟩ := refR_0 c7
    obtain ⟨k, kd, cp, hm, k1, k2, k3, k4, f1, f2, f3, f4, f5, f6⟩ := (hSh d hd).2.2.2.2 hw
    refine xgs_aload_n dX11_toss_12 rfl rfl ?_
    refine xg_getR dX11_toss_13 fX11_41 kFC (by decide) rFC_shelves ?_
    refine xgs_iload_n dX11_toss_16 rfl rfl ?_
    refine xg_aald26 dX11_toss_17 kShs hd (rSh hd) ?_
    refine xgs_astore_n (ls' := [_, _, _, _, _]) dX11_toss_18 rfl rfl rfl ?_
    refine xgs_aload_n dX11_toss_19 rfl rfl ?_
    refine xg_callX (As := []) (rest := []) dX11_toss_20 vX11_361 (by decide) (kSh hd) (by decide) rfl (by decide) (fun B l s c args h => ⟨h.1, h.2.2⟩) ⟨Nat.le_refl _, Nat.le_refl _⟩ (r_throwFailure hd k2 f2) ?_ ?_
    · rintro v τ ⟨rfl, h0, rfl⟩
      show GX W0 mX11_toss _ 23 _ [] _
      refine xg_goto (tgt := 33) dX11_toss_23 (by decide) ?_
      refine xg_bipush (v := -15) dX11_toss_33 (by decide) ?_
      refine xg_ireturn dX11_toss_35 rfl ⟨Nat.le_refl _, Nat.le_refl _⟩ ?_
      exact ⟨by rw [aToss, if_pos (show refR H (nI d) = nI 0 from c7), nN_n (by omega), f6, if_pos h0], rfl⟩
    · rintro E τ ⟨rfl, h0, rfl⟩
      refine xg_catch (R9 := ((1, 6), (0 + 1, 0 + 6))) (hh := [(19, 23, 26, 334)]) [] ⟨19, 23, 26, 334⟩ [] rfl (fun z hz => nomatch hz) (by decide) (by decide) th_1.2.1 (Or.inr rfl) dX11_toss_26 rfl ?_
      show GX W0 mX11_toss _ 28 [some (.ref 0), some (.int (nI d)), some (.int _), some (.ref (234 + 3 * d)), none] [] _
      refine xgs_aload_n dX11_toss_28 rfl rfl ?_
      refine xg_getI dX11_toss_29 fX11_364 (kSh hd) (by decide) f1 ?_
      refine xg_ireturn dX11_toss_32 rfl ⟨Nat.le_refl _, Nat.le_refl _⟩ ?_
      exact ⟨by rw [aToss, if_pos (show refR H (nI d) = nI 0 from c7), nN_n (by omega), f6, if_neg (by omega)], rfl⟩
  · refine xgs_iload_n dX11_toss_10 rfl rfl ?_
    refine xg_ireturn dX11_toss_11 rfl ⟨Nat.zero_le _, Nat.zero_le _⟩ ?_
    exact ⟨by rw [aToss, if_neg (show ¬ refR H x = nI 0 from c7)], rfl⟩
