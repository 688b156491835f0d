/-! The law's three calls that catch. -/
theorem xo_cell {S : Sx} {x y : Int32} : (okCl S x y = true → xCell S x y = nI 0) ∧ (okCl S x y = false → ¬ xCell S x y = 0) := by
  constructor
  · intro h; unfold xCell; rw [if_pos h]
  · intro h; unfold xCell; rw [if_neg (by rw [h]; decide)]; decide
theorem lc_cell {L : Nat} {xs : Nat → Int32} {j i u us : Nat} {τ : Mm} {S : Sx} {H : Hx} (hL : L ≤ 3075) (hi : i + 6 ≤ L) (hj : j ≤ 1000) (hu : rmU j u us) (hC : CI τ S H) (hM : MI_ τ S H) (hP : PC j S) (hN : CTN L xs j i) : GL ((u, us), L, xs) 790 [some (.ref 999), some (.ref 0), some (.ref 258), some (.ref 312), some (.int (nI i)), none, none, none] [] (wW τ) := by
  refine lgs_aload_n dL_law_790 rfl rfl ?_
  refine lgs_aload_n dL_law_791 rfl rfl ?_
  refine lg_iload dL_law_792 rfl ?_
  refine lg_iconst (v := nI 1) dL_law_794 (by decide) ?_
  refine lg_iadd dL_law_795 (nI_add _ _) ?_
  refine lw_sld dL_law_796 (by omega) hL ?_
  refine lgs_aload_n dL_law_797 rfl rfl ?_
  refine lg_iload dL_law_798 rfl ?_
  refine lg_iconst (v := nI 2) dL_law_800 (by decide) ?_
  refine lg_iadd dL_law_801 (nI_add _ _) ?_
  refine lw_sld dL_law_802 (by omega) hL ?_
  refine lgs_aload_n dL_law_803 rfl rfl ?_
  refine lg_y2 dL_law_804 vLy_95 (by decide) (hu.capY hj) (Nat.le_of_ble_eq_true rfl) (l_cell hC hP.1 _ _) ?_
  rintro τ1 ⟨q1, q2⟩
  have hk : CI τ1 S H ∧ MI_ τ1 S H ∧ (okCl S (xs (i + 1)) (xs (i + 2)) = true → τ1.2 312 0 = (aCell S (xs (i + 1)) (xs (i + 2))).toInt64) := by
    cases hok : okCl S (xs (i + 1)) (xs (i + 2))
    · rw [q2 hok]; exact ⟨hC, hM, fun h => by cases h⟩
    · rw [q1 hok]; exact ⟨CI.fr hC hP.bd (frL_w τ _), hM.w _, fun _ => wL_312 τ _⟩
  obtain ⟨hC1, hM1, hO⟩ := hk
  refine lgs_istore (ls' := [_, _, _, _, _, _, _, _]) dL_law_807 rfl rfl ?_
  refine lgs_aload_n dL_law_809 rfl rfl ?_
  refine lgs_aload_n dL_law_810 rfl rfl ?_
  refine lg_iload dL_law_811 rfl ?_
  refine lg_iconst (v := nI 1) dL_law_813 (by decide) ?_
  refine lg_iadd dL_law_814 (nI_add _ _) ?_
  refine lw_sld dL_law_815 (by omega) hL ?_
  refine lgs_aload_n dL_law_816 rfl rfl ?_
  refine lg_iload dL_law_817 rfl ?_
  refine lg_iconst (v := nI 2) dL_law_819 (by decide) ?_
  refine lg_iadd dL_law_820 (nI_add _ _) ?_
  refine lw_sld dL_law_821 (by omega) hL ?_
  refine lg_cVI2 dL_law_822 vLw_98 (by decide) (hu.y.cap (Nat.succ_le_succ hj)) kwM (by decide) (by decide) (Nat.le_of_ble_eq_true rfl) (n_cell hM1 hP.1 _ _) ?_
  rintro _ τ2 ⟨rfl, ⟨hM2, hfL⟩, h258, h2⟩
  refine lgs_istore (ls' := [_, _, _, _, _, _, _, _]) dL_law_825 rfl rfl ?_
  refine lgs_aload_n dL_law_827 rfl rfl ?_
  refine lg_cVI0 dL_law_828 vLw_99 (by decide) (hu.y.cap (Nat.succ_le_succ hj)) kwM (by decide) (by decide) (Nat.le_of_ble_eq_true rfl) n_thrown ?_
  rintro _ τ3 ⟨rfl, h3⟩
  have h3 := h3.symm
  subst h3
  refine lg_iload dL_law_831 rfl ?_
  refine lrt_icmp_eq (tgt := 838) dL_law_833 (by decide) h258 ?_
  refine lg_iload dL_law_838 rfl ?_
  have fin : GL ((u + 1, us + 6), L, xs) 855 [some (.ref 999), some (.ref 0), some (.ref 258), some (.ref 312), some (.int (nI i)), some (.int (xCell S (xs (i + 1)) (xs (i + 2)))), some (.int (aCell S (xs (i + 1)) (xs (i + 2)))), none] [] (wW τ2) := by
    refine lg_goto (tgt := 1511) dL_law_855 (by decide) ?_
    refine GL.drop 5 (ls' := [_, _, _, _, _, none, _, _]) rfl ?_
    refine GL.drop 6 (ls' := [_, _, _, _, _, _, none, _]) rfl ?_
    have hP2 := PC_rf hP
    exact hN (u + 1) (us + 6) τ2 _ _ hu.y (CI.fr hC1 hP2.bd hfL) hM2 hP2
  cases hok : okCl S (xs (i + 1)) (xs (i + 2))
  · refine lrt_if_ne (tgt := 855) dL_law_840 (by decide) (xo_cell.2 hok) ?_
    exact fin
  · refine lrf_if_ne (tgt := 855) dL_law_840 (by decide) (xo_cell.1 hok) ?_
    refine lgs_aload_n dL_law_843 rfl rfl ?_
    refine lg_iconst (v := nI 0) dL_law_844 (by decide) ?_
    refine lg_lout dL_law_845 ((congrFun (congrFun h2 312) 0).trans (hO hok)) ?_
    refine lg_iload dL_law_846 rfl ?_
    refine lg_i2l dL_law_848 rfl ?_
    refine lg_lcmp dL_law_849 (cmp_self _) ?_
    refine lrt_if_eq (tgt := 855) dL_law_850 (by decide) rfl ?_
    exact fin
theorem xo_read {S : Sx} {x : Int32} : (inN x (S.1 9 0) = true → xRead S x = nI 0) ∧ (inN x (S.1 9 0) = false → ¬ xRead S x = 0) := by
  constructor
  · intro h; unfold xRead; rw [if_pos h]
  · intro h; unfold xRead; rw [if_neg (by rw [h]; decide)]; decide
theorem lc_read {L : Nat} {xs : Nat → Int32} {j i u us : Nat} {τ : Mm} {S : Sx} {H : Hx} (hL : L ≤ 3075) (hi : i + 6 ≤ L) (hj : j ≤ 1000) (hu : rmU j u us) (hC : CI τ S H) (hM : MI_ τ S H) (hP : PC j S) (hN : CTN L xs j i) : GL ((u, us), L, xs) 895 [some (.ref 999), some (.ref 0), some (.ref 258), some (.ref 312), some (.int (nI i)), none, none, none] [] (wW τ) := by
  refine lgs_aload_n dL_law_895 rfl rfl ?_
  refine lgs_aload_n dL_law_896 rfl rfl ?_
  refine lg_iload dL_law_897 rfl ?_
  refine lg_iconst (v := nI 1) dL_law_899 (by decide) ?_
  refine lg_iadd dL_law_900 (nI_add _ _) ?_
  refine lw_sld dL_law_901 (by omega) hL ?_
  refine lgs_aload_n dL_law_902 rfl rfl ?_
  refine lg_y1 dL_law_903 vLy_107 (by decide) (hu.capY hj) (Nat.le_of_ble_eq_true rfl) (l_read hC hP.1 _) ?_
  rintro τ1 ⟨q1, q2⟩
  have hk : CI τ1 S H ∧ MI_ τ1 S H ∧ (inN (xs (i + 1)) (S.1 9 0) = true → τ1.2 312 0 = (aRead S (xs (i + 1))).toInt64) := by
    cases hok : inN (xs (i + 1)) (S.1 9 0)
    · rw [q2 hok]; exact ⟨hC, hM, fun h => by cases h⟩
    · rw [q1 hok]; exact ⟨CI.fr hC hP.bd (frL_w τ _), hM.w _, fun _ => wL_312 τ _⟩
  obtain ⟨hC1, hM1, hO⟩ := hk
  refine lgs_istore (ls' := [_, _, _, _, _, _, _, _]) dL_law_906 rfl rfl ?_
  refine lgs_aload_n dL_law_908 rfl rfl ?_
  refine lgs_aload_n dL_law_909 rfl rfl ?_
  refine lg_iload dL_law_910 rfl ?_
  refine lg_iconst (v := nI 1) dL_law_912 (by decide) ?_
  refine lg_iadd dL_law_913 (nI_add _ _) ?_
  refine lw_sld dL_law_914 (by omega) hL ?_
  refine lg_cVI1 dL_law_915 vLw_110 (by decide) (hu.y.cap (Nat.succ_le_succ hj)) kwM (by decide) (by decide) (Nat.le_of_ble_eq_true rfl) (n_read hM1 hP.1 _) ?_
  rintro _ τ2 ⟨rfl, ⟨hM2, hfL⟩, h258, h2⟩
  refine lgs_istore (ls' := [_, _, _, _, _, _, _, _]) dL_law_918 rfl rfl ?_
  refine lgs_aload_n dL_law_920 rfl rfl ?_
  refine lg_cVI0 dL_law_921 vLw_99 (by decide) (hu.y.cap (Nat.succ_le_succ hj)) kwM (by decide) (by decide) (Nat.le_of_ble_eq_true rfl) n_thrown ?_
  rintro _ τ3 ⟨rfl, h3⟩
  have h3 := h3.symm
  subst h3
  refine lg_iload dL_law_924 rfl ?_
  refine lrt_icmp_eq (tgt := 931) dL_law_926 (by decide) h258 ?_
  refine lg_iload dL_law_931 rfl ?_
  have fin : GL ((u + 1, us + 6), L, xs) 948 [some (.ref 999), some (.ref 0), some (.ref 258), some (.ref 312), some (.int (nI i)), some (.int (xRead S (xs (i + 1)))), some (.int (aRead S (xs (i + 1)))), none] [] (wW τ2) := by
    refine lg_goto (tgt := 1511) dL_law_948 (by decide) ?_
    refine GL.drop 5 (ls' := [_, _, _, _, _, none, _, _]) rfl ?_
    refine GL.drop 6 (ls' := [_, _, _, _, _, _, none, _]) rfl ?_
    have hP2 := PC_rf hP
    exact hN (u + 1) (us + 6) τ2 _ _ hu.y (CI.fr hC1 hP2.bd hfL) hM2 hP2
  cases hok : inN (xs (i + 1)) (S.1 9 0)
  · refine lrt_if_ne (tgt := 948) dL_law_933 (by decide) (xo_read.2 hok) ?_
    exact fin
  · refine lrf_if_ne (tgt := 948) dL_law_933 (by decide) (xo_read.1 hok) ?_
    refine lgs_aload_n dL_law_936 rfl rfl ?_
    refine lg_iconst (v := nI 0) dL_law_937 (by decide) ?_
    refine lg_lout dL_law_938 ((congrFun (congrFun h2 312) 0).trans (hO hok)) ?_
    refine lg_iload dL_law_939 rfl ?_
    refine lg_i2l dL_law_941 rfl ?_
    refine lg_lcmp dL_law_942 (cmp_self _) ?_
    refine lrt_if_eq (tgt := 948) dL_law_943 (by decide) rfl ?_
    exact fin
theorem xo_element {H : Hx} {x y : Int32} : (okEl H x y = true → xElem H x y = nI 0) ∧ (okEl H x y = false → ¬ xElem H x y = 0) := by
  constructor
  · intro h
    have h1 : rg x 0 7 = true := (Bool.and_eq_true_iff.mp h).1
    unfold xElem; rw [if_pos h1, if_pos h]
  · intro h
    unfold xElem
    split
    · rw [if_neg (by rw [h]; decide)]; decide
    · decide
theorem lc_element {L : Nat} {xs : Nat → Int32} {j i u us : Nat} {τ : Mm} {S : Sx} {H : Hx} (hL : L ≤ 3075) (hi : i + 6 ≤ L) (hj : j ≤ 1000) (hu : rmU j u us) (hC : CI τ S H) (hM : MI_ τ S H) (hP : PC j S) (hN : CTN L xs j i) : GL ((u, us), L, xs) 1321 [some (.ref 999), some (.ref 0), some (.ref 258), some (.ref 312), some (.int (nI i)), none, none, none] [] (wW τ) := by
  refine lgs_aload_n dL_law_1321 rfl rfl ?_
  refine lgs_aload_n dL_law_1322 rfl rfl ?_
  refine lg_iload dL_law_1323 rfl ?_
  refine lg_iconst (v := nI 1) dL_law_1325 (by decide) ?_
  refine lg_iadd dL_law_1326 (nI_add _ _) ?_
  refine lw_sld dL_law_1327 (by omega) hL ?_
  refine lgs_aload_n dL_law_1328 rfl rfl ?_
  refine lg_iload dL_law_1329 rfl ?_
  refine lg_iconst (v := nI 2) dL_law_1331 (by decide) ?_
  refine lg_iadd dL_law_1332 (nI_add _ _) ?_
  refine lw_sld dL_law_1333 (by omega) hL ?_
  refine lgs_aload_n dL_law_1334 rfl rfl ?_
  refine lg_y2 dL_law_1335 vLy_151 (by decide) (hu.capY hj) (Nat.le_of_ble_eq_true rfl) (l_element hC hP.1 _ _) ?_
  rintro τ1 ⟨q1, q2⟩
  have hk : CI τ1 S H ∧ MI_ τ1 S H ∧ (okEl H (xs (i + 1)) (xs (i + 2)) = true → τ1.2 312 0 = aElem H (xs (i + 1)) (xs (i + 2))) := by
    cases hok : okEl H (xs (i + 1)) (xs (i + 2))
    · rw [q2 hok]; exact ⟨hC, hM, fun h => by cases h⟩
    · rw [q1 hok]; exact ⟨CI.fr hC hP.bd (frL_w τ _), hM.w _, fun _ => wL_312 τ _⟩
  obtain ⟨hC1, hM1, hO⟩ := hk
  refine lgs_istore (ls' := [_, _, _, _, _, _, _, _]) dL_law_1338 rfl rfl ?_
  refine lgs_aload_n dL_law_1340 rfl rfl ?_
  refine lgs_aload_n dL_law_1341 rfl rfl ?_
  refine lg_iload dL_law_1342 rfl ?_
  refine lg_iconst (v := nI 1) dL_law_1344 (by decide) ?_
  refine lg_iadd dL_law_1345 (nI_add _ _) ?_
  refine lw_sld dL_law_1346 (by omega) hL ?_
  refine lgs_aload_n dL_law_1347 rfl rfl ?_
  refine lg_iload dL_law_1348 rfl ?_
  refine lg_iconst (v := nI 2) dL_law_1350 (by decide) ?_
  refine lg_iadd dL_law_1351 (nI_add _ _) ?_
  refine lw_sld dL_law_1352 (by omega) hL ?_
  refine lg_cVL2 dL_law_1353 vLw_153 (by decide) (hu.y.cap (Nat.succ_le_succ hj)) kwM (by decide) (by decide) (Nat.le_of_ble_eq_true rfl) (n_element hM1 hP.1 _ _ hC.2.1.ok) ?_
  rintro _ τ2 ⟨rfl, ⟨hM2, hfL⟩, h258, h2⟩
  refine lgs_lstore (ls' := [_, _, _, _, _, _, _, _]) dL_law_1356 rfl rfl ?_
  refine lgs_aload_n dL_law_1358 rfl rfl ?_
  refine lg_cVI0 dL_law_1359 vLw_99 (by decide) (hu.y.cap (Nat.succ_le_succ hj)) kwM (by decide) (by decide) (Nat.le_of_ble_eq_true rfl) n_thrown ?_
  rintro _ τ3 ⟨rfl, h3⟩
  have h3 := h3.symm
  subst h3
  refine lg_iload dL_law_1362 rfl ?_
  refine lrt_icmp_eq (tgt := 1369) dL_law_1364 (by decide) h258 ?_
  refine lg_iload dL_law_1369 rfl ?_
  have fin : GL ((u + 1, us + 6), L, xs) 1385 [some (.ref 999), some (.ref 0), some (.ref 258), some (.ref 312), some (.int (nI i)), some (.int (xElem H (xs (i + 1)) (xs (i + 2)))), some (.long (aElem H (xs (i + 1)) (xs (i + 2)))), none] [] (wW τ2) := by
    refine lg_goto (tgt := 1511) dL_law_1385 (by decide) ?_
    refine GL.drop 5 (ls' := [_, _, _, _, _, none, _, _]) rfl ?_
    refine GL.drop 6 (ls' := [_, _, _, _, _, _, none, _]) rfl ?_
    have hP2 := PC_rf hP
    exact hN (u + 1) (us + 6) τ2 _ _ hu.y (CI.fr hC1 hP2.bd hfL) hM2 hP2
  cases hok : okEl H (xs (i + 1)) (xs (i + 2))
  · refine lrt_if_ne (tgt := 1385) dL_law_1371 (by decide) (xo_element.2 hok) ?_
    exact fin
  · refine lrf_if_ne (tgt := 1385) dL_law_1371 (by decide) (xo_element.1 hok) ?_
    refine lgs_aload_n dL_law_1374 rfl rfl ?_
    refine lg_iconst (v := nI 0) dL_law_1375 (by decide) ?_
    refine lg_lout dL_law_1376 ((congrFun (congrFun h2 312) 0).trans (hO hok)) ?_
    refine lg_lload dL_law_1377 rfl ?_
    refine lg_lcmp dL_law_1379 (cmp_self _) ?_
    refine lrt_if_eq (tgt := 1385) dL_law_1380 (by decide) rfl ?_
    exact fin
