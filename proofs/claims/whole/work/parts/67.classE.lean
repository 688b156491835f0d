/-! The class: bitCount, Attempt.begin, copies. -/
theorem s_bitCount {Ω : Nat × Nat} {σ : Mm} {c : Nat} (hc : c < 16) : RI Ω mJ6_bitCount_0f7a4 [.int (nI c)] σ (fun r τ => r = nI (pc4 c) ∧ τ = σ) := by
  refine G.met (by decide) (Nat.le_of_ble_eq_true rfl) ?_
  show G _ _ _ 0 [some (.int (nI c))] [] σ
  refine gs_iload_n dJ6_bitCount_0f7a4_0 rfl rfl ?_
  refine gs_iload_n dJ6_bitCount_0f7a4_1 rfl rfl ?_
  refine g_iconst (v := nI 1) dJ6_bitCount_0f7a4_2 (by decide) ?_
  refine g_iushr dJ6_bitCount_0f7a4_3 rfl ?_
  refine g_ldc_w dJ6_bitCount_0f7a4_4 qnJ6_265 ?_
  refine g_iand dJ6_bitCount_0f7a4_7 rfl ?_
  refine g_isub dJ6_bitCount_0f7a4_8 rfl ?_
  refine gs_istore_n (ls' := [_]) dJ6_bitCount_0f7a4_9 rfl rfl rfl ?_
  refine gs_iload_n dJ6_bitCount_0f7a4_10 rfl rfl ?_
  refine g_ldc_w dJ6_bitCount_0f7a4_11 qnJ6_266 ?_
  refine g_iand dJ6_bitCount_0f7a4_14 rfl ?_
  refine gs_iload_n dJ6_bitCount_0f7a4_15 rfl rfl ?_
  refine g_iconst (v := nI 2) dJ6_bitCount_0f7a4_16 (by decide) ?_
  refine g_iushr dJ6_bitCount_0f7a4_17 rfl ?_
  refine g_ldc_w dJ6_bitCount_0f7a4_18 qnJ6_266 ?_
  refine g_iand dJ6_bitCount_0f7a4_21 rfl ?_
  refine g_iadd dJ6_bitCount_0f7a4_22 rfl ?_
  refine gs_istore_n (ls' := [_]) dJ6_bitCount_0f7a4_23 rfl rfl rfl ?_
  refine gs_iload_n dJ6_bitCount_0f7a4_24 rfl rfl ?_
  refine gs_iload_n dJ6_bitCount_0f7a4_25 rfl rfl ?_
  refine g_iconst (v := nI 4) dJ6_bitCount_0f7a4_26 (by decide) ?_
  refine g_iushr dJ6_bitCount_0f7a4_27 rfl ?_
  refine g_iadd dJ6_bitCount_0f7a4_28 rfl ?_
  refine g_ldc_w dJ6_bitCount_0f7a4_29 qnJ6_267 ?_
  refine g_iand dJ6_bitCount_0f7a4_32 rfl ?_
  refine gs_istore_n (ls' := [_]) dJ6_bitCount_0f7a4_33 rfl rfl rfl ?_
  refine gs_iload_n dJ6_bitCount_0f7a4_34 rfl rfl ?_
  refine gs_iload_n dJ6_bitCount_0f7a4_35 rfl rfl ?_
  refine g_bipush (v := nI 8) dJ6_bitCount_0f7a4_36 (by decide) ?_
  refine g_iushr dJ6_bitCount_0f7a4_38 rfl ?_
  refine g_iadd dJ6_bitCount_0f7a4_39 rfl ?_
  refine gs_istore_n (ls' := [_]) dJ6_bitCount_0f7a4_40 rfl rfl rfl ?_
  refine gs_iload_n dJ6_bitCount_0f7a4_41 rfl rfl ?_
  refine gs_iload_n dJ6_bitCount_0f7a4_42 rfl rfl ?_
  refine g_bipush (v := nI 16) dJ6_bitCount_0f7a4_43 (by decide) ?_
  refine g_iushr dJ6_bitCount_0f7a4_45 rfl ?_
  refine g_iadd dJ6_bitCount_0f7a4_46 rfl ?_
  refine gs_istore_n (ls' := [_]) dJ6_bitCount_0f7a4_47 rfl rfl rfl ?_
  refine gs_iload_n dJ6_bitCount_0f7a4_48 rfl rfl ?_
  refine g_bipush (v := nI 63) dJ6_bitCount_0f7a4_49 (by decide) ?_
  refine g_iand dJ6_bitCount_0f7a4_51 rfl ?_
  refine g_ireturn dJ6_bitCount_0f7a4_52 rfl ?_
  refine ⟨_, rfl, ?_, rfl⟩
  clear σ Ω
  revert hc
  revert c
  decide +kernel
/-- what the attempt holds at its beginning -/
def atB (S : Sx) (A : Nat → Int32) (t x : Nat) : Nat → Int32 := upd (upd (upd (upd (upd (upd (upd (upd (upd (upd A 0 (nI t)) 1 (nI (S.1 29 t))) 2 (nI (S.1 11 x))) 3 (nI (S.1 12 x))) 4 (nI (S.1 13 x))) 5 (S.2.1 0 x)) 6 (-1)) 7 (nI 0)) 8 (nI 0)) 9 (nI 0)
theorem sc_div {t k : Nat} (h : k < 60) : (60 * t + k) / 60 = t ∧ (60 * t + k) % 60 = k := by omega
theorem z01 {v : Nat} (h : v ≤ 1) : nI v = 0 ∨ nI v = 1 := by
  have : v = 0 ∨ v = 1 := by omega
  rcases this with rfl | rfl <;> decide
theorem c_begin {b : Nat} {σ : Mm} {S : Sx} {Tf : Nat → Nat} (hb : mch b) (hR : RepC b σ S Tf) (hB : Bd S) {t : Nat} (ht : t < S.1 9 0) (hnx : S.1 30 t < 60) : RV W0 mX0_begin [.ref (b + 5), .int (nI t), .ref (b + 78 + t)] σ (fun τ => Cq b σ S Tf (atB S (σ.1 (b + 5)) t (60 * t + S.1 30 t)) τ) := by
  have bT := B_T hB 0
  have h10 : t < 10 := by omega
  have bw := B_aWrites hB (60 * t + S.1 30 t)
  have hQ := Cq.rf hR
  refine G.met (by decide) (Nat.le_of_ble_eq_true rfl) ?_
  show G _ _ _ 0 [some (.ref (b + 5)), some (.int (nI t)), some (.ref (b + 78 + t)), none] [] σ
  refine gs_aload_n dX0_begin_0 rfl rfl ?_
  refine g_getR dX0_begin_1 fX0_9 (kWk hb h10) (by decide) (rWk_script hb h10) ?_
  refine gs_astore_n (ls' := [_, _, _, _]) dX0_begin_4 rfl rfl rfl ?_
  refine gs_aload_n dX0_begin_5 rfl rfl ?_
  refine gs_iload_n dX0_begin_6 rfl rfl ?_
  refine gc_putI dX0_begin_7 pX0_15 (kMa_attempt hb) (by decide) (Or.inl rfl) (hQ.putA hb hB) (fun σ hQ => ?_)
  have hR := hQ.1
  refine gs_aload_n dX0_begin_10 rfl rfl ?_
  refine gs_aload_n dX0_begin_11 rfl rfl ?_
  refine g_getI dX0_begin_12 fX0_21 (kWk hb h10) (by decide) (C_at hR h10 ht) ?_
  refine gc_putI dX0_begin_15 pX0_24 (kMa_attempt hb) (by decide) (Or.inl rfl) (hQ.putA hb hB) (fun σ hQ => ?_)
  have hR := hQ.1
  refine gs_aload_n dX0_begin_18 rfl rfl ?_
  refine gs_aload_n dX0_begin_19 rfl rfl ?_
  refine g_getR dX0_begin_20 fX0_25 (kSc h10) (by decide) (rSc_pages h10) ?_
  refine gs_aload_n dX0_begin_23 rfl rfl ?_
  refine g_getI dX0_begin_24 fX0_31 (kWk hb h10) (by decide) (C_next hR h10 ht) ?_
  refine g_iald dX0_begin_27 (kSc_pages h10) (by omega) (show _ = nI (S.1 11 (60 * t + S.1 30 t)) from by have q := C_aPage hR (i := 60 * t + S.1 30 t) (by omega); rw [(sc_div hnx).1, (sc_div hnx).2] at q; exact q) ?_
  refine gc_putI dX0_begin_28 pX0_34 (kMa_attempt hb) (by decide) (Or.inl rfl) (hQ.putA hb hB) (fun σ hQ => ?_)
  have hR := hQ.1
  refine gs_aload_n dX0_begin_31 rfl rfl ?_
  refine gs_aload_n dX0_begin_32 rfl rfl ?_
  refine g_getR dX0_begin_33 fX0_37 (kSc h10) (by decide) (rSc_cells h10) ?_
  refine gs_aload_n dX0_begin_36 rfl rfl ?_
  refine g_getI dX0_begin_37 fX0_31 (kWk hb h10) (by decide) (C_next hR h10 ht) ?_
  refine g_iald dX0_begin_40 (kSc_cells h10) (by omega) (show _ = nI (S.1 12 (60 * t + S.1 30 t)) from by have q := C_aCell hR (i := 60 * t + S.1 30 t) (by omega); rw [(sc_div hnx).1, (sc_div hnx).2] at q; exact q) ?_
  refine gc_putI dX0_begin_41 pX0_40 (kMa_attempt hb) (by decide) (Or.inl rfl) (hQ.putA hb hB) (fun σ hQ => ?_)
  have hR := hQ.1
  refine gs_aload_n dX0_begin_44 rfl rfl ?_
  refine gs_aload_n dX0_begin_45 rfl rfl ?_
  refine g_getR dX0_begin_46 fX0_43 (kSc h10) (by decide) (rSc_writes h10) ?_
  refine gs_aload_n dX0_begin_49 rfl rfl ?_
  refine g_getI dX0_begin_50 fX0_31 (kWk hb h10) (by decide) (C_next hR h10 ht) ?_
  refine g_zald dX0_begin_53 (kSc_writes h10) (by omega) (show _ = nI (S.1 13 (60 * t + S.1 30 t)) from by have q := C_aWrites hR (i := 60 * t + S.1 30 t) (by omega); rw [(sc_div hnx).1, (sc_div hnx).2] at q; exact q) ?_
  refine gc_putI dX0_begin_54 pX0_47 (kMa_attempt hb) (by decide) (Or.inr ⟨rfl, z01 bw⟩) (hQ.putA hb hB) (fun σ hQ => ?_)
  have hR := hQ.1
  refine gs_aload_n dX0_begin_57 rfl rfl ?_
  refine gs_aload_n dX0_begin_58 rfl rfl ?_
  refine g_getR dX0_begin_59 fX0_50 (kSc h10) (by decide) (rSc_values h10) ?_
  refine gs_aload_n dX0_begin_62 rfl rfl ?_
  refine g_getI dX0_begin_63 fX0_31 (kWk hb h10) (by decide) (C_next hR h10 ht) ?_
  refine g_iald dX0_begin_66 (kSc_values h10) (by omega) (show _ = S.2.1 0 (60 * t + S.1 30 t) from by have q := CV_aValue hR (i := 60 * t + S.1 30 t) (by omega); rw [(sc_div hnx).1, (sc_div hnx).2] at q; exact q) ?_
  refine gc_putI dX0_begin_67 pX0_53 (kMa_attempt hb) (by decide) (Or.inl rfl) (hQ.putA hb hB) (fun σ hQ => ?_)
  have hR := hQ.1
  refine gs_aload_n dX0_begin_70 rfl rfl ?_
  refine g_iconst (v := -1) dX0_begin_71 (by decide) ?_
  refine gc_putI dX0_begin_72 pX0_56 (kMa_attempt hb) (by decide) (Or.inl rfl) (hQ.putA hb hB) (fun σ hQ => ?_)
  have hR := hQ.1
  refine gs_aload_n dX0_begin_75 rfl rfl ?_
  refine g_iconst (v := nI 0) dX0_begin_76 (by decide) ?_
  refine gc_putI dX0_begin_77 pX0_59 (kMa_attempt hb) (by decide) (Or.inl rfl) (hQ.putA hb hB) (fun σ hQ => ?_)
  have hR := hQ.1
  refine gs_aload_n dX0_begin_80 rfl rfl ?_
  refine g_iconst (v := nI 0) dX0_begin_81 (by decide) ?_
  refine gc_putI dX0_begin_82 pX0_62 (kMa_attempt hb) (by decide) (Or.inr ⟨rfl, by first | exact bI_01 _ | decide⟩) (hQ.putA hb hB) (fun σ hQ => ?_)
  have hR := hQ.1
  refine gs_aload_n dX0_begin_85 rfl rfl ?_
  refine g_iconst (v := nI 0) dX0_begin_86 (by decide) ?_
  refine gc_putI dX0_begin_87 pX0_65 (kMa_attempt hb) (by decide) (Or.inr ⟨rfl, by first | exact bI_01 _ | decide⟩) (hQ.putA hb hB) (fun σ hQ => ?_)
  have hR := hQ.1
  refine g_return dX0_begin_90 rfl ?_
  exact ⟨rfl, hQ⟩
theorem stb_new {c a : Nat} (h : bt c a = 0) : stb c a = c + 2 ^ a := if_neg (by omega)
theorem c_bringCopy {b : Nat} {σ : Mm} {S : Sx} {Tf : Nat → Nat} (hb : mch b) (hR : RepC b σ S Tf) (hB : Bd S) (hT : Tk S Tf) {p a : Nat} {A : Nat → Int32} (hA : σ.1 (b + 5) = A) (h1 : A 1 = nI a) (hp : p < S.1 7 0) (ha : a < S.1 0 0) : RI W0 mX3_bringCopy [.ref b, .ref (b + 18 + 3 * p)] σ (fun r τ => r = nI (if S.1 8 p = 1 then cpC S p a false else 0) ∧ Cq b σ (if S.1 8 p = 1 then cpS S p a false else S) (if S.1 8 p = 1 ∧ cpC S p a false = 1 then upT Tf a (Tf a + 1) else Tf) A τ) := by
  have bP := B_P hB 0
  have h20 : p < 20 := by omega
  have b0 := B_nodes hB 0
  have b1 := B_kind hB p
  have b2 := B_copies hB p
  have b3 := B_lies hB p
  have hB1 : Bd (setN S 25 p (stb (S.1 25 p) a)) := Bd_setN hB (stb_le b2 (by omega))
  refine G.met (by decide) (Nat.le_of_ble_eq_true rfl) ?_
  show G _ _ _ 0 [some (.ref b), some (.ref (b + 18 + 3 * p)), none] [] σ
  refine gs_aload_n dX3_bringCopy_0 rfl rfl ?_
  refine g_getR dX3_bringCopy_1 fX3_28 (kMa hb) (by decide) (rMa_attempt hb) ?_
  refine g_getI dX3_bringCopy_4 fX3_220 (kMa_attempt hb) (by decide) (show _ = nI a from by rw [hA]; exact h1) ?_
  refine gs_istore_n (ls' := [_, _, _]) dX3_bringCopy_7 rfl rfl rfl ?_
  refine gs_aload_n dX3_bringCopy_8 rfl rfl ?_
  refine g_getI dX3_bringCopy_9 fX3_115 (kPg hb h20) (by decide) (C_kind hR (by omega) (by omega)) ?_
  refine g_iconst (v := nI 1) dX3_bringCopy_12 (by decide) ?_
  refine gn_icmp_ne (tgt := 40) dX3_bringCopy_13 (by decide) (by omega) (by omega) (fun c13 => ?_) (fun c13 => ?_)
  · refine g_iconst (v := nI 0) dX3_bringCopy_40 (by decide) ?_
    refine g_ireturn dX3_bringCopy_41 rfl ?_
    exact ⟨_, rfl, by rw [if_neg c13], by rw [if_neg c13, if_neg (fun z => c13 z.1), ← hA]; exact Cq.rf hR⟩
  · refine gs_aload_n dX3_bringCopy_16 rfl rfl ?_
    refine g_getI dX3_bringCopy_17 fX3_170 (kPg hb h20) (by decide) (C_lies hR (by omega) (by omega)) ?_
    refine gs_iload_n dX3_bringCopy_20 rfl rfl ?_
    refine g_icmp_eq (tgt := 40) dX3_bringCopy_21 (by decide) (fun c21 => ?_) (fun c21 => ?_)
    · refine g_iconst (v := nI 0) dX3_bringCopy_40 (by decide) ?_
      refine g_ireturn dX3_bringCopy_41 rfl ?_
      have z : S.1 24 p = a + 1 ∨ bt (S.1 25 p) a = 1 ∨ hrS S a = false := Or.inl ((lzC_a b3 (by omega)).mp c21)
      have e1 : cpC S p a false = 0 := by rw [cpC, if_neg (by decide), if_pos z]
      have e2 : cpS S p a false = S := by rw [cpS, if_neg (by decide), if_pos z]
      exact ⟨_, rfl, by rw [if_pos c13, e1], by rw [if_pos c13, if_neg (fun q => by rw [e1] at q; exact absurd q.2 (by decide)), e2, ← hA]; exact Cq.rf hR⟩
    · refine gs_aload_n dX3_bringCopy_24 rfl rfl ?_
      refine gs_iload_n dX3_bringCopy_25 rfl rfl ?_
      refine g_cVI1 dX3_bringCopy_26 vX3_335 (by decide) (kPg hb h20) (by decide) (Nat.le_of_ble_eq_true rfl) (c_hasCopyOn hb hR hB hp (by omega)) ?_
      rintro _ σ ⟨rfl, e9⟩
      subst e9
      refine gb_if_ne (tgt := 40) dX3_bringCopy_29 (by decide) (fun c29 => ?_) (fun c29 => ?_)
      · refine g_iconst (v := nI 0) dX3_bringCopy_40 (by decide) ?_
        refine g_ireturn dX3_bringCopy_41 rfl ?_
        have z : S.1 24 p = a + 1 ∨ bt (S.1 25 p) a = 1 ∨ hrS S a = false := Or.inr (Or.inl (of_decide_eq_true c29))
        have e1 : cpC S p a false = 0 := by rw [cpC, if_neg (by decide), if_pos z]
        have e2 : cpS S p a false = S := by rw [cpS, if_neg (by decide), if_pos z]
        exact ⟨_, rfl, by rw [if_pos c13, e1], by rw [if_pos c13, if_neg (fun q => by rw [e1] at q; exact absurd q.2 (by decide)), e2, ← hA]; exact Cq.rf hR⟩
      · refine gs_aload_n dX3_bringCopy_32 rfl rfl ?_
        refine gs_iload_n dX3_bringCopy_33 rfl rfl ?_
        refine g_cVI1 dX3_bringCopy_34 vX3_163 (by decide) (kMa hb) (by decide) (Nat.le_of_ble_eq_true rfl) (c_hasRoom hb hR hB hT ha) ?_
        rintro _ σ ⟨rfl, e9⟩
        subst e9
        refine gb_if_ne (tgt := 42) dX3_bringCopy_37 (by decide) (fun c37 => ?_) (fun c37 => ?_)
        · refine gs_aload_n dX3_bringCopy_42 rfl rfl ?_
          refine g_dup dX3_bringCopy_43 rfl ?_
          refine g_getI dX3_bringCopy_44 fX3_338 (kPg hb h20) (by decide) (C_copies hR (by omega) (by omega)) ?_
          refine g_iconst (v := nI 1) dX3_bringCopy_47 (by decide) ?_
          refine gs_iload_n dX3_bringCopy_48 rfl rfl ?_
          refine g_ishl dX3_bringCopy_49 rfl ?_
          refine g_ior dX3_bringCopy_50 (stb_eq b2 (by omega)) ?_
          refine gc_putI dX3_bringCopy_51 pX3_338 (kPg hb h20) (by decide) (Or.inl rfl) (D_copies (Cq.rf hR) hb hB h20) (fun σ hQ => ?_)
          have hR := hQ.1
          refine gs_aload_n dX3_bringCopy_54 rfl rfl ?_
          refine g_getR dX3_bringCopy_55 fX3_44 (kMa hb) (by decide) (rMa_taken hb) ?_
          refine gs_iload_n dX3_bringCopy_58 rfl rfl ?_
          refine g_dup2 dX3_bringCopy_59 rfl rfl ?_
          refine g_iald dX3_bringCopy_60 (kMa_taken hb) (by omega) (hR.2.2.2.1 a (by omega)) ?_
          refine g_iconst (v := nI 1) dX3_bringCopy_61 (by decide) ?_
          refine g_iadd dX3_bringCopy_62 (by first | exact nI_add _ _ | rfl) ?_
          refine gc_iast dX3_bringCopy_63 (kMa_taken hb) (by omega) (hQ.putT hb hB1) (fun σ hQ => ?_)
          have hR := hQ.1
          refine g_iconst (v := nI 1) dX3_bringCopy_64 (by decide) ?_
          refine g_ireturn dX3_bringCopy_65 rfl ?_
          have z : ¬ (S.1 24 p = a + 1 ∨ bt (S.1 25 p) a = 1 ∨ hrS S a = false) := fun q => q.elim (fun q => c21 ((lzC_a b3 (by omega)).mpr q)) (fun q => q.elim (of_decide_eq_false c29) (fun q => by rw [c37] at q; cases q))
          have e1 : cpC S p a false = 1 := by rw [cpC, if_neg (by decide), if_neg z]
          have e2 : cpS S p a false = setN S 25 p (stb (S.1 25 p) a) := by rw [cpS, if_neg (by decide), if_neg z]
          exact ⟨_, rfl, by rw [if_pos c13, e1], by rw [if_pos c13, if_pos ⟨c13, e1⟩, e2, ← hA]; exact hQ⟩
        · refine g_iconst (v := nI 0) dX3_bringCopy_40 (by decide) ?_
          refine g_ireturn dX3_bringCopy_41 rfl ?_
          have z : S.1 24 p = a + 1 ∨ bt (S.1 25 p) a = 1 ∨ hrS S a = false := Or.inr (Or.inr c37)
          have e1 : cpC S p a false = 0 := by rw [cpC, if_neg (by decide), if_pos z]
          have e2 : cpS S p a false = S := by rw [cpS, if_neg (by decide), if_pos z]
          exact ⟨_, rfl, by rw [if_pos c13, e1], by rw [if_pos c13, if_neg (fun q => by rw [e1] at q; exact absurd q.2 (by decide)), e2, ← hA]; exact Cq.rf hR⟩
/-- the copies that end when node a writes, the old place among them where a copy takes it over -/
def ecC (S : Sx) (p a : Nat) : Nat := if bt (S.1 25 p) a = 1 then clr (stb (S.1 25 p) (S.1 24 p - 1)) a else S.1 25 p
def ecT (S : Sx) (Tf : Nat → Nat) (c : Nat) (k : Nat) : Nat → Nat := fun x => if x < k then Tf x - bt c x else Tf x
theorem ecT_s (S : Sx) (Tf : Nat → Nat) (c k : Nat) : upT (ecT S Tf c k) k (Tf k - bt c k) = ecT S Tf c (k + 1) := by
  funext x
  unfold upT ecT
  by_cases h : x = k
  · subst h; rw [if_pos rfl, if_pos (by omega)]
  · rw [if_neg h]
    by_cases h2 : x < k
    · rw [if_pos h2, if_pos (by omega)]
    · rw [if_neg h2, if_neg (by omega)]
theorem ecT_z (S : Sx) (Tf : Nat → Nat) (c k : Nat) (h : bt c k = 0) : ecT S Tf c k = ecT S Tf c (k + 1) := by
  funext x
  unfold ecT
  by_cases e : x = k
  · subst e; rw [if_neg (by omega), if_pos (by omega), h, Nat.sub_zero]
  · by_cases h2 : x < k
    · rw [if_pos h2, if_pos (by omega)]
    · rw [if_neg h2, if_neg (by omega)]
theorem pc4_clr {c a : Nat} (hc : c ≤ 15) (ha : a < 4) : pc4 c = pc4 (clr c a) + bt c a := by
  have h : ∀ c, c < 16 → ∀ a, a < 4 → pc4 c = pc4 (clr c a) + bt c a := by decide +kernel
  exact h c (by omega) a ha
theorem setN_setN (S : Sx) (g i v v' : Nat) : setN (setN S g i v) g i v' = setN S g i v' := by
  unfold setN
  dsimp only
  congr 1
  funext x y
  split <;> rfl
theorem l_endCopies {b : Nat} {σ0 : Mm} {S : Sx} {Tf : Nat → Nat} {A : Nat → Int32} {K : Option Value → Mm → Prop} (hb : mch b) (hB : Bd S) {p m : Nat} (hp : p < S.1 7 0) (h20 : p < 20) (hpos : ∀ x, x < S.1 0 0 → bt (S.1 25 p) x ≤ Tf x) (hK : ∀ τ, Cq b σ0 (setN S 25 p 0) (ecT S Tf (S.1 25 p) (S.1 0 0)) A τ → K (some (.int (nI m))) τ) : ∀ k i σ, i + k = S.1 0 0 → Cq b σ0 S (ecT S Tf (S.1 25 p) i) A σ → G W0 mX3_endCopies K 70 [some (.ref b), some (.ref (b + 18 + 3 * p)), some (.int (nI m)), some (.int (nI i))] [] σ := by
  have b0 := B_nodes hB 0
  intro k
  induction k with
  | zero =>
    intro i σ hi hQ
    have hR := hQ.1
    have e : i = S.1 0 0 := by omega
    rw [e] at hQ
    refine gs_iload_n dX3_endCopies_70 rfl rfl ?_
    refine gs_aload_n dX3_endCopies_71 rfl rfl ?_
    refine g_getR dX3_endCopies_72 fX3_55 (kMa hb) (by decide) (rMa_board hb) ?_
    refine g_getI dX3_endCopies_75 fX3_167 bdW0.1 (by decide) (C_nodes hR) ?_
    refine gt_icmp_ge (tgt := 105) dX3_endCopies_78 (by decide) (by omega) (by omega) (by omega) ?_
    refine gs_aload_n dX3_endCopies_105 rfl rfl ?_
    refine g_iconst (v := nI 0) dX3_endCopies_106 (by decide) ?_
    refine gc_putI dX3_endCopies_107 pX3_338 (kPg hb h20) (by decide) (Or.inl rfl) (D_copies hQ hb hB h20) (fun σ hQ => ?_)
    have hR := hQ.1
    refine gs_iload_n dX3_endCopies_110 rfl rfl ?_
    refine g_ireturn dX3_endCopies_111 rfl ?_
    exact hK _ hQ
  | succ k ih =>
    intro i σ hi hQ
    have hR := hQ.1
    have b4 := hpos i (by omega)
    have b5 := bt_le (S.1 25 p) i
    refine gs_iload_n dX3_endCopies_70 rfl rfl ?_
    refine gs_aload_n dX3_endCopies_71 rfl rfl ?_
    refine g_getR dX3_endCopies_72 fX3_55 (kMa hb) (by decide) (rMa_board hb) ?_
    refine g_getI dX3_endCopies_75 fX3_167 bdW0.1 (by decide) (C_nodes hR) ?_
    refine gf_icmp_ge (tgt := 105) dX3_endCopies_78 (by decide) (by omega) (by omega) (by omega) ?_
    refine gs_aload_n dX3_endCopies_81 rfl rfl ?_
    refine gs_iload_n dX3_endCopies_82 rfl rfl ?_
    refine g_cVI1 dX3_endCopies_83 vX3_335 (by decide) (kPg hb h20) (by decide) (Nat.le_of_ble_eq_true rfl) (c_hasCopyOn hb hR hB hp (by omega)) ?_
    rintro _ σ ⟨rfl, e9⟩
    subst e9
    refine gb_if_eq (tgt := 99) dX3_endCopies_86 (by decide) (fun c86 => ?_) (fun c86 => ?_)
    · refine gs_iinc (ls' := [_, _, _, _]) dX3_endCopies_99 rfl (nI_add _ 1) rfl rfl ?_
      refine g_goto (tgt := 70) dX3_endCopies_102 (by decide) ?_
      have e0 : bt (S.1 25 p) i = 0 := by have := of_decide_eq_false c86; omega
      rw [ecT_z S Tf _ i e0] at hQ
      exact ih (i + 1) σ (by omega) hQ
    · refine gs_aload_n dX3_endCopies_89 rfl rfl ?_
      refine g_getR dX3_endCopies_90 fX3_44 (kMa hb) (by decide) (rMa_taken hb) ?_
      refine gs_iload_n dX3_endCopies_93 rfl rfl ?_
      refine g_dup2 dX3_endCopies_94 rfl rfl ?_
      refine g_iald dX3_endCopies_95 (kMa_taken hb) (by omega) (show _ = nI (Tf i) from (hR.2.2.2.1 i (by omega)).trans (by rw [ecT, if_neg (by omega)])) ?_
      refine g_iconst (v := nI 1) dX3_endCopies_96 (by decide) ?_
      refine g_isub dX3_endCopies_97 (show nI (Tf i) - nI 1 = nI (Tf i - bt (S.1 25 p) i) from by rw [of_decide_eq_true c86]; exact pk_sub (by have := of_decide_eq_true c86; omega)) ?_
      refine gc_iast dX3_endCopies_98 (kMa_taken hb) (by omega) (hQ.putT hb hB) (fun σ hQ => ?_)
      have hR := hQ.1
      refine gs_iinc (ls' := [_, _, _, _]) dX3_endCopies_99 rfl (nI_add _ 1) rfl rfl ?_
      refine g_goto (tgt := 70) dX3_endCopies_102 (by decide) ?_
      rw [ecT_s] at hQ
      exact ih (i + 1) σ (by omega) hQ
