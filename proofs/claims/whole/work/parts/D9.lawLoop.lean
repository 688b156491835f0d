/-! The law's loop, its start, its end. -/
theorem and31 (x : Int32) : ∃ c, c < 32 ∧ x &&& nI 31 = nI c := by
  refine ⟨(x.toBitVec &&& 31#32).toNat, ?_, ?_⟩
  · rw [BitVec.toNat_and]; exact Nat.lt_of_le_of_lt Nat.and_le_right (by decide)
  · apply Int32.toBitVec_inj.1
    rw [Int32.toBitVec_and]
    show x.toBitVec &&& 31#32 = BitVec.ofNat 32 _
    rw [BitVec.ofNat_toNat, BitVec.setWidth_eq]
theorem nI_int {n : Nat} (h : n < 2 ^ 31) : (nI n).toInt = (n : Int) := Int32.toInt_ofNat_small h
theorem cmpI {L i : Nat} (hL : L ≤ 3075) (hi : i ≤ 4000) : (nI L - nI 6 < nI i) ↔ L < i + 6 := by
  rw [Int32.lt_iff_toInt_lt, Jvm.Kit.i32_sub (by rw [nI_int (by omega), nI_int (by decide)]; omega) (by rw [nI_int (by omega), nI_int (by decide)]; omega), nI_int (by omega), nI_int (by decide), nI_int (by omega)]
  omega
theorem lg_end {u us L : Nat} {xs : Nat → Int32} {pc : Nat} {ls : List (Option Value)} {σ : Nat → (Nat → ClassId) → va_W} (d : decode (ic mL_law) pc = .ok (.ireturn, 1)) (hcap : u ≤ RL_law.1 ∧ us ≤ RL_law.2) : GL ((u, us), L, xs) pc ls [.int 1] σ := by
  intro B bb D cA p l e s m args below meth c H locs la C hE hP hS hl
  obtain ⟨hx, hb, hml, hown, hret, hlocks, hts, hK, hNs⟩ := C
  obtain ⟨e1, rfl, -⟩ := hE
  refine xW hcap.1 hcap.2 (va_forget (fun q hq => by have := hS.2.2 q hq; show s.heap.size ≤ q.base; rw [e1]; exact this) ?_)
  exact lw_ret hx hb hret hlocks d
theorem lw_loop {L : Nat} {xs : Nat → Int32} (hL : L ≤ 3075) : ∀ (k j u us : Nat) (τ : Mm) (S : Sx) (H : Hx), j + k = 513 → rmU j u us → CI τ S H → MI_ τ S H → PC j S → GL ((u, us), L, xs) 53 [some (.ref 999), some (.ref 0), some (.ref 258), some (.ref 312), some (.int (nI (3 + 6 * j))), none, none, none] [] (wW τ) := by
  intro k
  induction k with
  | zero =>
    intro j u us τ S H hk hu hC hM hP
    refine lg_iload dL_law_53 rfl ?_
    refine lgs_aload_n dL_law_55 rfl rfl ?_
    refine lg_slen dL_law_56 rfl ?_
    refine lg_bipush (v := nI 6) dL_law_57 (by decide) ?_
    refine lg_isub dL_law_59 rfl ?_
    refine lg_icmp_gt (tgt := 1517) dL_law_60 (by decide) (fun c60 => ?_) (fun c60 => ?_)
    · refine lg_iconst (v := 1) dL_law_1517 (by decide) ?_
      exact lg_end dL_law_1518 (hu.cap (by omega))
    · exact absurd ((cmpI hL (by omega)).mpr (by omega)) c60
  | succ k ih =>
    intro j u us τ S H hk hu hC hM hP
    refine lg_iload dL_law_53 rfl ?_
    refine lgs_aload_n dL_law_55 rfl rfl ?_
    refine lg_slen dL_law_56 rfl ?_
    refine lg_bipush (v := nI 6) dL_law_57 (by decide) ?_
    refine lg_isub dL_law_59 rfl ?_
    refine lg_icmp_gt (tgt := 1517) dL_law_60 (by decide) (fun c60 => ?_) (fun c60 => ?_)
    · refine lg_iconst (v := 1) dL_law_1517 (by decide) ?_
      exact lg_end dL_law_1518 (hu.cap (by omega))
    have hi : 3 + 6 * j + 6 ≤ L := Nat.not_lt.mp (fun q => c60 ((cmpI hL (by omega)).mpr q))
    have hj : j ≤ 1000 := by omega
    have hN : CTN L xs j (3 + 6 * j) := fun u us τ S H h1 h2 h3 h4 => by
      refine lgs_iinc (ls' := [_, _, _, _, _, _, _, _]) dL_law_1511 rfl (nI_add _ 6) rfl rfl ?_
      refine lg_goto (tgt := 53) dL_law_1514 (by decide) ?_
      exact ih (j + 1) u us τ S H (by omega) h1 h2 h3 h4
    refine lgs_aload_n dL_law_63 rfl rfl ?_
    refine lg_iload dL_law_64 rfl ?_
    refine lw_sld dL_law_66 (by omega) hL ?_
    refine lg_bipush (v := nI 31) dL_law_67 (by decide) ?_
    obtain ⟨c, hc, hcv⟩ := and31 (xs (3 + 6 * j))
    refine lg_iand dL_law_69 hcv ?_
    have h32 : c = 0 ∨ c = 1 ∨ c = 2 ∨ c = 3 ∨ c = 4 ∨ c = 5 ∨ c = 6 ∨ c = 7 ∨ c = 8 ∨ c = 9 ∨ c = 10 ∨ c = 11 ∨ c = 12 ∨ c = 13 ∨ c = 14 ∨ c = 15 ∨ c = 16 ∨ c = 17 ∨ c = 18 ∨ c = 19 ∨ c = 20 ∨ c = 21 ∨ c = 22 ∨ c = 23 ∨ c = 24 ∨ c = 25 ∨ c = 26 ∨ c = 27 ∨ c = 28 ∨ c = 29 ∨ c = 30 ∨ c = 31 := by omega
    rcases h32 with rfl | rfl | rfl | rfl | rfl | rfl | rfl | rfl | rfl | rfl | rfl | rfl | rfl | rfl | rfl | rfl | rfl | rfl | rfl | rfl | rfl | rfl | rfl | rfl | rfl | rfl | rfl | rfl | rfl | rfl | rfl | rfl
    · refine lg_tableIn (off := 138) (tgt := 208) dL_law_70 (by decide) (by decide) (by decide) (by decide) ?_
      exact lc_link hL hi hj hu hC hM hP hN
    · refine lg_tableIn (off := 199) (tgt := 269) dL_law_70 (by decide) (by decide) (by decide) (by decide) ?_
      exact lc_far hL hi hj hu hC hM hP hN
    · refine lg_tableIn (off := 236) (tgt := 306) dL_law_70 (by decide) (by decide) (by decide) (by decide) ?_
      exact lc_way hL hi hj hu hC hM hP hN
    · refine lg_tableIn (off := 285) (tgt := 355) dL_law_70 (by decide) (by decide) (by decide) (by decide) ?_
      exact lc_page hL hi hj hu hC hM hP hN
    · refine lg_tableIn (off := 310) (tgt := 380) dL_law_70 (by decide) (by decide) (by decide) (by decide) ?_
      exact lc_thread hL hi hj hu hC hM hP hN
    · refine lg_tableIn (off := 335) (tgt := 405) dL_law_70 (by decide) (by decide) (by decide) (by decide) ?_
      exact lc_access hL hi hj hu hC hM hP hN
    · refine lg_tableIn (off := 424) (tgt := 494) dL_law_70 (by decide) (by decide) (by decide) (by decide) ?_
      exact lc_rule hL hi hj hu hC hM hP hN
    · refine lg_tableIn (off := 473) (tgt := 543) dL_law_70 (by decide) (by decide) (by decide) (by decide) ?_
      exact lc_prices hL hi hj hu hC hM hP hN
    · refine lg_tableIn (off := 510) (tgt := 580) dL_law_70 (by decide) (by decide) (by decide) (by decide) ?_
      exact lc_place hL hi hj hu hC hM hP hN
    · refine lg_tableIn (off := 547) (tgt := 617) dL_law_70 (by decide) (by decide) (by decide) (by decide) ?_
      exact lc_settle hL hi hj hu hC hM hP hN
    · refine lg_tableIn (off := 584) (tgt := 654) dL_law_70 (by decide) (by decide) (by decide) (by decide) ?_
      exact lc_swap hL hi hj hu hC hM hP hN
    · refine lg_tableIn (off := 621) (tgt := 691) dL_law_70 (by decide) (by decide) (by decide) (by decide) ?_
      exact lc_run hL hi hj hu hC hM hP hN
    · refine lg_tableIn (off := 646) (tgt := 716) dL_law_70 (by decide) (by decide) (by decide) (by decide) ?_
      exact lc_look hL hi hj hu hC hM hP hN
    · refine lg_tableIn (off := 683) (tgt := 753) dL_law_70 (by decide) (by decide) (by decide) (by decide) ?_
      exact lc_fault hL hi hj hu hC hM hP hN
    · refine lg_tableIn (off := 720) (tgt := 790) dL_law_70 (by decide) (by decide) (by decide) (by decide) ?_
      exact lc_cell hL hi hj hu hC hM hP hN
    · refine lg_tableIn (off := 788) (tgt := 858) dL_law_70 (by decide) (by decide) (by decide) (by decide) ?_
      exact lc_about hL hi hj hu hC hM hP hN
    · refine lg_tableIn (off := 825) (tgt := 895) dL_law_70 (by decide) (by decide) (by decide) (by decide) ?_
      exact lc_read hL hi hj hu hC hM hP hN
    · refine lg_tableIn (off := 881) (tgt := 951) dL_law_70 (by decide) (by decide) (by decide) (by decide) ?_
      exact lc_node hL hi hj hu hC hM hP hN
    · refine lg_tableIn (off := 918) (tgt := 988) dL_law_70 (by decide) (by decide) (by decide) (by decide) ?_
      exact lc_linked hL hi hj hu hC hM hP hN
    · refine lg_tableIn (off := 967) (tgt := 1037) dL_law_70 (by decide) (by decide) (by decide) (by decide) ?_
      exact lc_log hL hi hj hu hC hM hP hN
    · refine lg_tableIn (off := 1004) (tgt := 1074) dL_law_70 (by decide) (by decide) (by decide) (by decide) ?_
      exact lc_best hL hi hj hu hC hM hP hN
    · refine lg_tableIn (off := 1029) (tgt := 1099) dL_law_70 (by decide) (by decide) (by decide) (by decide) ?_
      exact lc_gap hL hi hj hu hC hM hP hN
    · refine lg_tableIn (off := 1054) (tgt := 1124) dL_law_70 (by decide) (by decide) (by decide) (by decide) ?_
      exact lc_other hL hi hj hu hC hM hP hN
    · refine lg_tableIn (off := 1115) (tgt := 1185) dL_law_70 (by decide) (by decide) (by decide) (by decide) ?_
      exact lc_same hL hi hj hu hC hM hP hN
    · refine lg_tableIn (off := 1128) (tgt := 1198) dL_law_70 (by decide) (by decide) (by decide) (by decide) ?_
      exact lc_count hL hi hj hu hC hM hP hN
    · refine lg_tableIn (off := 1153) (tgt := 1223) dL_law_70 (by decide) (by decide) (by decide) (by decide) ?_
      exact lc_keep hL hi hj hu hC hM hP hN
    · refine lg_tableIn (off := 1202) (tgt := 1272) dL_law_70 (by decide) (by decide) (by decide) (by decide) ?_
      exact lc_make hL hi hj hu hC hM hP hN
    · refine lg_tableIn (off := 1251) (tgt := 1321) dL_law_70 (by decide) (by decide) (by decide) (by decide) ?_
      exact lc_element hL hi hj hu hC hM hP hN
    · refine lg_tableIn (off := 1318) (tgt := 1388) dL_law_70 (by decide) (by decide) (by decide) (by decide) ?_
      exact lc_copy hL hi hj hu hC hM hP hN
    · refine lg_tableIn (off := 1391) (tgt := 1461) dL_law_70 (by decide) (by decide) (by decide) (by decide) ?_
      exact lc_weight hL hi hj hu hC hM hP hN
    · refine lg_tableIn (off := 1416) (tgt := 1486) dL_law_70 (by decide) (by decide) (by decide) (by decide) ?_
      exact lc_toss hL hi hj hu hC hM hP hN
    · refine lg_tableOut (tgt := 1511) dL_law_70 (by decide) (by decide) ?_
      exact hN u us τ S H hu.s hC hM (PC_rf hP)
def nu0 : Nat → Nat → Bool := fun b k => !isP b k
def mu0 : Mm := (fun _ _ => 0, fun _ _ => 0)
theorem Fr_0 : Fr 0 nu0 mu0 := fun _ _ _ => ⟨rfl, rfl, rfl⟩
theorem kd_258 : kd 258 = (12, 65) := by decide +kernel
theorem kd_312 : kd 312 = (21, 1) := by decide +kernel
theorem fm_c (x : Int32) : ∃ c, c < 3 ∧ fmv x (nI 3) = nI c := by
  obtain ⟨c, h1, h2⟩ := fmv_nat (a := x) (m := nI 3) (by decide)
  rw [show (nI 3).toInt = 3 by decide] at h2
  exact ⟨c, by omega, h1⟩
theorem fm_9 (x : Int32) : ∃ c, c < 9 ∧ fmv x (nI 9) = nI c := by
  obtain ⟨c, h1, h2⟩ := fmv_nat (a := x) (m := nI 9) (by decide)
  rw [show (nI 9).toInt = 9 by decide] at h2
  exact ⟨c, by omega, h1⟩
theorem prS_2 {n p r : Nat} {a b : Nat} (ha : a < 4) (hb : b < 4) (h : a ≠ b) : prS (S0p n p r) a b = 2 := by
  show (if (4 * a + b) / 4 = (4 * a + b) % 4 then 0 else 2) = 2
  rw [if_neg (by omega)]
theorem prS_9 {n p r : Nat} (a b : Nat) : prS (S0p n p r) a b ≤ 9 := by
  show (if (4 * a + b) / 4 = (4 * a + b) % 4 then 0 else 2) ≤ 9
  split <;> omega
theorem lw_pre {L : Nat} {xs : Nat → Int32} (hL : L ≤ 3075) : GL ((0, 0), L, xs) 0 [some (.ref 999), none, none, none, none, none, none, none] [] (wZ (0, nu0, mu0)) := by
  obtain ⟨cn, hn, hx⟩ := fm_c (xv L xs 0)
  obtain ⟨cp, hp, hy⟩ := fm_c (xv L xs 1)
  obtain ⟨cr, hr, hz⟩ := fm_9 (xv L xs 2)
  refine lg_newO dL_law_0 nL_8 (by decide) kd_0 (by decide) rfl ⟨by decide, by decide⟩ Fr_0 ?_
  refine lg_dup dL_law_3 rfl ?_
  refine lgs_aload_n dL_law_4 rfl rfl ?_
  refine lg_iconst (v := nI 0) dL_law_5 (by decide) ?_
  refine lg_lcell (k := 0) dL_law_6 hL (by decide) rfl ⟨by decide, by decide⟩ (Nat.le_of_ble_eq_true rfl) ?_
  refine lgs_aload_n dL_law_9 rfl rfl ?_
  refine lg_iconst (v := nI 1) dL_law_10 (by decide) ?_
  refine lg_lcell (k := 1) dL_law_11 hL (by decide) rfl ⟨by decide, by decide⟩ (Nat.le_of_ble_eq_true rfl) ?_
  refine lgs_aload_n dL_law_14 rfl rfl ?_
  refine lg_iconst (v := nI 2) dL_law_15 (by decide) ?_
  refine lg_lcell (k := 2) dL_law_16 hL (by decide) rfl ⟨by decide, by decide⟩ (Nat.le_of_ble_eq_true rfl) ?_
  refine lg_i3 (n := 1) dL_law_19 ivL_30 (by decide) (by decide) (Nat.le_of_ble_eq_true rfl) rfl ⟨by decide, by decide⟩ (c_class (P := prS (S0p (2 + cn) (1 + cp) (4 + cr))) Fr_0 hx hy hz hn (fun a b ha hb h => prS_2 (by omega) (by omega) h) prS_9) ?_
  rintro _ ⟨τ, rfl, hCl⟩
  have hC0 := ini_C (by omega) (by omega) (by omega) hCl
  obtain ⟨q1, q2, -⟩ := hCl
  have hF1 : Fr 258 (ovV nu0 0 258) τ := fun b hb k => by
    refine ⟨?_, ?_, ?_⟩
    · show (decide (0 ≤ b ∧ b < 0 + 258) || nu0 b k) = _
      rw [decide_eq_false (show ¬ (0 ≤ b ∧ b < 0 + 258) by omega)]; rfl
    · rw [q2 b hb]; rfl
    · rw [q1]; rfl
  refine lgs_astore_n (ls' := [_, _, _, _, _, _, _, _]) dL_law_22 rfl rfl rfl ?_
  refine lg_newO (n := 258) dL_law_23 nL_33 (by decide) kd_258 (by decide) rfl ⟨by decide, by decide⟩ hF1 ?_
  refine lg_dup dL_law_26 rfl ?_
  refine lgs_aload_n dL_law_27 rfl rfl ?_
  refine lg_iconst (v := nI 0) dL_law_28 (by decide) ?_
  refine lg_lcell (k := 0) dL_law_29 hL (by decide) rfl ⟨by decide, by decide⟩ (Nat.le_of_ble_eq_true rfl) ?_
  refine lgs_aload_n dL_law_32 rfl rfl ?_
  refine lg_iconst (v := nI 1) dL_law_33 (by decide) ?_
  refine lg_lcell (k := 1) dL_law_34 hL (by decide) rfl ⟨by decide, by decide⟩ (Nat.le_of_ble_eq_true rfl) ?_
  refine lgs_aload_n dL_law_37 rfl rfl ?_
  refine lg_iconst (v := nI 2) dL_law_38 (by decide) ?_
  refine lg_lcell (k := 2) dL_law_39 hL (by decide) rfl ⟨by decide, by decide⟩ (Nat.le_of_ble_eq_true rfl) ?_
  refine lg_i3 (n := 258 + 1) dL_law_42 ivL_35 (by decide) (by decide) (Nat.le_of_ble_eq_true rfl) rfl ⟨by decide, by decide⟩ (c_model hF1 hx hy hz hn hp hr) ?_
  rintro _ ⟨τ', rfl, hMo⟩
  have hM0 := ini_M hMo
  obtain ⟨r1, r2, -⟩ := hMo
  have hF2 : Fr 312 (ovV (ovV nu0 0 258) 258 54) τ' := fun b hb k => by
    have h := hF1 b (by omega) k
    refine ⟨?_, ?_, ?_⟩
    · show (decide (258 ≤ b ∧ b < 258 + 54) || ovV nu0 0 258 b k) = _
      rw [decide_eq_false (show ¬ (258 ≤ b ∧ b < 258 + 54) by omega)]; exact h.1
    · rw [r2 b (Or.inr hb)]; exact h.2.1
    · rw [r1]; exact h.2.2
  refine lgs_astore_n (ls' := [_, _, _, _, _, _, _, _]) dL_law_45 rfl rfl rfl ?_
  refine lg_iconst (v := nI 1) dL_law_46 (by decide) ?_
  refine lg_new21 (n := 312) dL_law_47 kd_312 (by decide) rfl ⟨by decide, by decide⟩ hF2 ?_
  refine lgs_astore_n (ls' := [_, _, _, _, _, _, _, _]) dL_law_49 rfl rfl rfl ?_
  refine lg_iconst (v := nI 3) dL_law_50 (by decide) ?_
  refine lgs_istore (ls' := [_, _, _, _, _, _, _, _]) dL_law_51 rfl rfl ?_
  refine GL.cg (z' := wW τ') ?_ ?_
  · funext B cA
    refine (wN_full (n := 313) (fun a k ha => ?_)).symm
    show (decide (258 ≤ a ∧ a < 258 + 54) || (decide (0 ≤ a ∧ a < 0 + 258) || nu0 a k)) = true
    by_cases h1 : 258 ≤ a ∧ a < 258 + 54
    · rw [decide_eq_true h1]; rfl
    · by_cases h2 : 0 ≤ a ∧ a < 0 + 258
      · rw [decide_eq_true h2, Bool.true_or, Bool.or_true]
      · have h3 : a = 312 := by omega
        subst h3
        rw [show nu0 312 k = true by show (!isP 312 k) = true; rw [isP_row kd_312 (by decide)]; rfl, Bool.or_true, Bool.or_true]
  · have hP0 := ini_P (n := 2 + cn) (p := 1 + cp) (r := 4 + cr) (by omega) (by omega) (by omega) (by omega)
    exact lw_loop hL 513 0 _ _ τ' _ _ (by omega) ⟨by decide, by decide⟩ (CI.fr hC0 hP0.bd (fun a ha => r2 a (Or.inl ha))) hM0 hP0
