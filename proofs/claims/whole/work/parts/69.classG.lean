/-! The class: the journal's note, enterInBills, perform. -/
theorem D_lgx {b : Nat} {σ0 σ : Mm} {S : Sx} {Tf : Nat → Nat} {At : Nat → Int32} (h : Cq b σ0 S Tf At σ) (hb : mch b) (hB : Bd S) {l k : Nat} (hl : l < 300) (hk : k < 10) {v : Int32} : Cq b σ0 (setV S 16 (10 * l + k) v) Tf At (wI σ (b + 17) (l * 11 + k) v) := by
  have q := DV_log h hb hB (i := 10 * l + k) (by omega) (v := v)
  rwa [show (10 * l + k) / 10 = l from by omega, show (10 * l + k) % 10 = k from by omega, Nat.mul_comm 11 l] at q
theorem D_lvx {b : Nat} {σ0 σ : Mm} {S : Sx} {Tf : Nat → Nat} {At : Nat → Int32} (h : Cq b σ0 S Tf At σ) (hb : mch b) (hB : Bd S) {l : Nat} (hl : l < 300) {v : Int32} : Cq b σ0 (setV S 17 l v) Tf At (wI σ (b + 17) (l * 11 + 10) v) := by
  have q := DV_logValue h hb hB hl (v := v)
  rwa [Nat.mul_comm 11 l] at q
/-- the log is open in the machine itself, not in its trial -/
def cCap (b : Nat) (S : Sx) : Prop := (b = 57 → S.1 39 0 = 300) ∧ (b = 145 → S.1 34 0 = S.1 39 0)
theorem c_note {b : Nat} {σ : Mm} {S : Sx} {Tf : Nat → Nat} (hb : mch b) (hR : RepC b σ S Tf) (hB : Bd S) (hcap : cCap b S) {t a x place cost : Nat} {df dm : Bool} {A : Nat → Int32} (hA : σ.1 (b + 5) = A) (h0 : A 0 = nI t) (h1 : A 1 = nI a) (h2 : A 2 = nI (S.1 11 x)) (h3 : A 3 = nI (S.1 12 x)) (h4 : A 4 = nI (S.1 13 x)) (h5 : A 5 = S.2.1 0 x) (h6 : A 6 = nI place) (h7 : A 7 = nI cost) (h8 : A 8 = bI df) (h9 : A 9 = bI dm) : RV W0 mX2_note [.ref (b + 14), .int (S.2.1 1 0), .ref (b + 5)] σ (fun τ => Cq b σ (ntS S t a x place cost df dm) Tf A τ) := by
  have b0 := B_logged hB 0
  have bc := B_cap hB 0
  have b1 := B_aWrites hB x
  have hQ : Cq b σ S Tf A σ := ⟨hR, frC.rf b σ, hA⟩
  refine G.met (by decide) (Nat.le_of_ble_eq_true rfl) ?_
  show G _ _ _ 0 [some (.ref (b + 14)), some (.int (S.2.1 1 0)), some (.ref (b + 5)), none] [] σ
  refine gs_aload_n dX2_note_0 rfl rfl ?_
  refine g_getI dX2_note_1 fX2_25 (kMa_journal hb) (by decide) (show _ = nI (S.1 34 0) from by have q := C_logged hR; exact q) ?_
  refine gs_aload_n dX2_note_4 rfl rfl ?_
  refine g_getI dX2_note_5 fX2_18 (kMa_journal hb) (by decide) (C_cap hR) ?_
  refine gn_icmp_ne (tgt := 12) dX2_note_8 (by decide) (by omega) (by omega) (fun c8 => ?_) (fun c8 => ?_)
  · have hb57 : b = 57 := by
      rcases hb with e | e
      · exact e
      · exact absurd (hcap.2 e) c8
    subst hb57
    have hl : S.1 34 0 < 300 := by
      have := hcap.1 rfl
      omega
    refine gs_aload_n dX2_note_12 rfl rfl ?_
    refine g_getI dX2_note_13 fX2_25 (kMa_journal hb) (by decide) (show _ = nI (S.1 34 0) from by have q := C_logged hR; exact q) ?_
    refine g_bipush (v := nI 11) dX2_note_16 (by decide) ?_
    refine g_imul dX2_note_18 (by first | exact pk_mul _ _ | rfl) ?_
    refine gs_istore_n (ls' := [_, _, _, _]) dX2_note_19 rfl rfl rfl ?_
    refine gs_aload_n dX2_note_20 rfl rfl ?_
    refine g_getR dX2_note_21 fX2_22 (kMa_journal hb) (by decide) (rJo_entries hb) ?_
    refine gs_iload_n dX2_note_24 rfl rfl ?_
    refine g_iconst (v := nI 0) dX2_note_25 (by decide) ?_
    refine g_iadd dX2_note_26 (nI_add _ 0) ?_
    refine gs_iload_n dX2_note_27 rfl rfl ?_
    refine gc_iast dX2_note_28 kJo_entries (by omega) (D_lgx hQ hb hB hl (by omega)) (fun σ hQ => ?_)
    have hR := hQ.1
    refine gs_aload_n dX2_note_29 rfl rfl ?_
    refine g_getR dX2_note_30 fX2_22 (kMa_journal hb) (by decide) (rJo_entries hb) ?_
    refine gs_iload_n dX2_note_33 rfl rfl ?_
    refine g_iconst (v := nI 1) dX2_note_34 (by decide) ?_
    refine g_iadd dX2_note_35 (by first | exact nI_add _ _ | rfl) ?_
    refine gs_aload_n dX2_note_36 rfl rfl ?_
    refine g_getI dX2_note_37 fX2_28 (kMa_attempt hb) (by decide) (show _ = nI t from by rw [hQ.2.2]; exact h0) ?_
    refine gc_iast dX2_note_40 kJo_entries (by omega) (D_lgx hQ hb hB hl (by omega)) (fun σ hQ => ?_)
    have hR := hQ.1
    refine gs_aload_n dX2_note_41 rfl rfl ?_
    refine g_getR dX2_note_42 fX2_22 (kMa_journal hb) (by decide) (rJo_entries hb) ?_
    refine gs_iload_n dX2_note_45 rfl rfl ?_
    refine g_iconst (v := nI 2) dX2_note_46 (by decide) ?_
    refine g_iadd dX2_note_47 (by first | exact nI_add _ _ | rfl) ?_
    refine gs_aload_n dX2_note_48 rfl rfl ?_
    refine g_getI dX2_note_49 fX2_33 (kMa_attempt hb) (by decide) (show _ = nI a from by rw [hQ.2.2]; exact h1) ?_
    refine gc_iast dX2_note_52 kJo_entries (by omega) (D_lgx hQ hb hB hl (by omega)) (fun σ hQ => ?_)
    have hR := hQ.1
    refine gs_aload_n dX2_note_53 rfl rfl ?_
    refine g_getR dX2_note_54 fX2_22 (kMa_journal hb) (by decide) (rJo_entries hb) ?_
    refine gs_iload_n dX2_note_57 rfl rfl ?_
    refine g_iconst (v := nI 3) dX2_note_58 (by decide) ?_
    refine g_iadd dX2_note_59 (by first | exact nI_add _ _ | rfl) ?_
    refine gs_aload_n dX2_note_60 rfl rfl ?_
    refine g_getI dX2_note_61 fX2_36 (kMa_attempt hb) (by decide) (show _ = nI (S.1 11 x) from by rw [hQ.2.2]; exact h2) ?_
    refine gc_iast dX2_note_64 kJo_entries (by omega) (D_lgx hQ hb hB hl (by omega)) (fun σ hQ => ?_)
    have hR := hQ.1
    refine gs_aload_n dX2_note_65 rfl rfl ?_
    refine g_getR dX2_note_66 fX2_22 (kMa_journal hb) (by decide) (rJo_entries hb) ?_
    refine gs_iload_n dX2_note_69 rfl rfl ?_
    refine g_iconst (v := nI 4) dX2_note_70 (by decide) ?_
    refine g_iadd dX2_note_71 (by first | exact nI_add _ _ | rfl) ?_
    refine gs_aload_n dX2_note_72 rfl rfl ?_
    refine g_getI dX2_note_73 fX2_39 (kMa_attempt hb) (by decide) (show _ = nI (S.1 12 x) from by rw [hQ.2.2]; exact h3) ?_
    refine gc_iast dX2_note_76 kJo_entries (by omega) (D_lgx hQ hb hB hl (by omega)) (fun σ hQ => ?_)
    have hR := hQ.1
    refine gs_aload_n dX2_note_77 rfl rfl ?_
    refine g_getR dX2_note_78 fX2_22 (kMa_journal hb) (by decide) (rJo_entries hb) ?_
    refine gs_iload_n dX2_note_81 rfl rfl ?_
    refine g_iconst (v := nI 5) dX2_note_82 (by decide) ?_
    refine g_iadd dX2_note_83 (by first | exact nI_add _ _ | rfl) ?_
    refine gs_aload_n dX2_note_84 rfl rfl ?_
    refine g_getI dX2_note_85 fX2_42 (kMa_attempt hb) (by decide) (show _ = nI (S.1 13 x) from by rw [hQ.2.2]; exact h4) ?_
    refine gn_if_eq (tgt := 95) dX2_note_88 (by decide) (by omega) (fun c88 => ?_) (fun c88 => ?_)
    · refine g_iconst (v := nI 0) dX2_note_95 (by decide) ?_
      refine gc_iast dX2_note_96 kJo_entries (by omega) (D_lgx hQ hb hB hl (by omega)) (fun σ hQ => ?_)
      have hR := hQ.1
      refine gs_aload_n dX2_note_97 rfl rfl ?_
      refine g_getR dX2_note_98 fX2_22 (kMa_journal hb) (by decide) (rJo_entries hb) ?_
      refine gs_iload_n dX2_note_101 rfl rfl ?_
      refine g_bipush (v := nI 6) dX2_note_102 (by decide) ?_
      refine g_iadd dX2_note_104 (by first | exact nI_add _ _ | rfl) ?_
      refine gs_aload_n dX2_note_105 rfl rfl ?_
      refine g_getI dX2_note_106 fX2_46 (kMa_attempt hb) (by decide) (show _ = nI place from by rw [hQ.2.2]; exact h6) ?_
      refine gc_iast dX2_note_109 kJo_entries (by omega) (D_lgx hQ hb hB hl (by omega)) (fun σ hQ => ?_)
      have hR := hQ.1
      refine gs_aload_n dX2_note_110 rfl rfl ?_
      refine g_getR dX2_note_111 fX2_22 (kMa_journal hb) (by decide) (rJo_entries hb) ?_
      refine gs_iload_n dX2_note_114 rfl rfl ?_
      refine g_bipush (v := nI 7) dX2_note_115 (by decide) ?_
      refine g_iadd dX2_note_117 (by first | exact nI_add _ _ | rfl) ?_
      refine gs_aload_n dX2_note_118 rfl rfl ?_
      refine g_getI dX2_note_119 fX2_49 (kMa_attempt hb) (by decide) (show _ = nI cost from by rw [hQ.2.2]; exact h7) ?_
      refine gc_iast dX2_note_122 kJo_entries (by omega) (D_lgx hQ hb hB hl (by omega)) (fun σ hQ => ?_)
      have hR := hQ.1
      refine gs_aload_n dX2_note_123 rfl rfl ?_
      refine g_getR dX2_note_124 fX2_22 (kMa_journal hb) (by decide) (rJo_entries hb) ?_
      refine gs_iload_n dX2_note_127 rfl rfl ?_
      refine g_bipush (v := nI 8) dX2_note_128 (by decide) ?_
      refine g_iadd dX2_note_130 (by first | exact nI_add _ _ | rfl) ?_
      refine gs_aload_n dX2_note_131 rfl rfl ?_
      refine g_getI dX2_note_132 fX2_52 (kMa_attempt hb) (by decide) (show _ = bI df from by rw [hQ.2.2]; exact h8) ?_
      refine gb_if_eq (tgt := 142) dX2_note_135 (by decide) (fun c135 => ?_) (fun c135 => ?_)
      · refine g_iconst (v := nI 0) dX2_note_142 (by decide) ?_
        refine gc_iast dX2_note_143 kJo_entries (by omega) (D_lgx hQ hb hB hl (by omega)) (fun σ hQ => ?_)
        have hR := hQ.1
        refine gs_aload_n dX2_note_144 rfl rfl ?_
        refine g_getR dX2_note_145 fX2_22 (kMa_journal hb) (by decide) (rJo_entries hb) ?_
        refine gs_iload_n dX2_note_148 rfl rfl ?_
        refine g_bipush (v := nI 9) dX2_note_149 (by decide) ?_
        refine g_iadd dX2_note_151 (by first | exact nI_add _ _ | rfl) ?_
        refine gs_aload_n dX2_note_152 rfl rfl ?_
        refine g_getI dX2_note_153 fX2_55 (kMa_attempt hb) (by decide) (show _ = bI dm from by rw [hQ.2.2]; exact h9) ?_
        refine gb_if_eq (tgt := 163) dX2_note_156 (by decide) (fun c156 => ?_) (fun c156 => ?_)
        · refine g_iconst (v := nI 0) dX2_note_163 (by decide) ?_
          refine gc_iast dX2_note_164 kJo_entries (by omega) (D_lgx hQ hb hB hl (by omega)) (fun σ hQ => ?_)
          have hR := hQ.1
          refine gs_aload_n dX2_note_165 rfl rfl ?_
          refine g_getR dX2_note_166 fX2_22 (kMa_journal hb) (by decide) (rJo_entries hb) ?_
          refine gs_iload_n dX2_note_169 rfl rfl ?_
          refine g_bipush (v := nI 10) dX2_note_170 (by decide) ?_
          refine g_iadd dX2_note_172 (by first | exact nI_add _ _ | rfl) ?_
          refine gs_aload_n dX2_note_173 rfl rfl ?_
          refine g_getI dX2_note_174 fX2_58 (kMa_attempt hb) (by decide) (show _ = S.2.1 0 x from by rw [hQ.2.2]; exact h5) ?_
          refine gc_iast dX2_note_177 kJo_entries (by omega) (D_lvx hQ hb hB hl) (fun σ hQ => ?_)
          have hR := hQ.1
          refine gs_aload_n dX2_note_178 rfl rfl ?_
          refine g_dup dX2_note_179 rfl ?_
          refine g_getI dX2_note_180 fX2_25 (kMa_journal hb) (by decide) (show _ = nI (S.1 34 0) from by have q := C_logged hR; exact q) ?_
          refine g_iconst (v := nI 1) dX2_note_183 (by decide) ?_
          refine g_iadd dX2_note_184 (by first | exact nI_add _ _ | rfl) ?_
          refine gc_putI dX2_note_185 pX2_25 (kMa_journal hb) (by decide) (Or.inl rfl) (D_logged hQ hb hB) (fun σ hQ => ?_)
          have hR := hQ.1
          refine g_return dX2_note_188 rfl ?_
          have e5 : nI (S.1 13 x) = nI 0 := by rw [show S.1 13 x = 0 from by omega]
          have e8 : bI df = nI 0 := by rw [c135]; rfl
          have e9 : bI dm = nI 0 := by rw [c156]; rfl
          exact ⟨rfl, by rw [ntS, if_neg c8, e5, e8, e9]; exact hQ⟩
        · refine g_iconst (v := nI 1) dX2_note_159 (by decide) ?_
          refine g_goto (tgt := 164) dX2_note_160 (by decide) ?_
          refine gc_iast dX2_note_164 kJo_entries (by omega) (D_lgx hQ hb hB hl (by omega)) (fun σ hQ => ?_)
          have hR := hQ.1
          refine gs_aload_n dX2_note_165 rfl rfl ?_
          refine g_getR dX2_note_166 fX2_22 (kMa_journal hb) (by decide) (rJo_entries hb) ?_
          refine gs_iload_n dX2_note_169 rfl rfl ?_
          refine g_bipush (v := nI 10) dX2_note_170 (by decide) ?_
          refine g_iadd dX2_note_172 (by first | exact nI_add _ _ | rfl) ?_
          refine gs_aload_n dX2_note_173 rfl rfl ?_
          refine g_getI dX2_note_174 fX2_58 (kMa_attempt hb) (by decide) (show _ = S.2.1 0 x from by rw [hQ.2.2]; exact h5) ?_
          refine gc_iast dX2_note_177 kJo_entries (by omega) (D_lvx hQ hb hB hl) (fun σ hQ => ?_)
          have hR := hQ.1
          refine gs_aload_n dX2_note_178 rfl rfl ?_
          refine g_dup dX2_note_179 rfl ?_
          refine g_getI dX2_note_180 fX2_25 (kMa_journal hb) (by decide) (show _ = nI (S.1 34 0) from by have q := C_logged hR; exact q) ?_
          refine g_iconst (v := nI 1) dX2_note_183 (by decide) ?_
          refine g_iadd dX2_note_184 (by first | exact nI_add _ _ | rfl) ?_
          refine gc_putI dX2_note_185 pX2_25 (kMa_journal hb) (by decide) (Or.inl rfl) (D_logged hQ hb hB) (fun σ hQ => ?_)
          have hR := hQ.1
          refine g_return dX2_note_188 rfl ?_
          have e5 : nI (S.1 13 x) = nI 0 := by rw [show S.1 13 x = 0 from by omega]
          have e8 : bI df = nI 0 := by rw [c135]; rfl
          have e9 : bI dm = nI 1 := by rw [c156]; rfl
          exact ⟨rfl, by rw [ntS, if_neg c8, e5, e8, e9]; exact hQ⟩
      · refine g_iconst (v := nI 1) dX2_note_138 (by decide) ?_
        refine g_goto (tgt := 143) dX2_note_139 (by decide) ?_
        refine gc_iast dX2_note_143 kJo_entries (by omega) (D_lgx hQ hb hB hl (by omega)) (fun σ hQ => ?_)
        have hR := hQ.1
        refine gs_aload_n dX2_note_144 rfl rfl ?_
        refine g_getR dX2_note_145 fX2_22 (kMa_journal hb) (by decide) (rJo_entries hb) ?_
        refine gs_iload_n dX2_note_148 rfl rfl ?_
        refine g_bipush (v := nI 9) dX2_note_149 (by decide) ?_
        refine g_iadd dX2_note_151 (by first | exact nI_add _ _ | rfl) ?_
        refine gs_aload_n dX2_note_152 rfl rfl ?_
        refine g_getI dX2_note_153 fX2_55 (kMa_attempt hb) (by decide) (show _ = bI dm from by rw [hQ.2.2]; exact h9) ?_
        refine gb_if_eq (tgt := 163) dX2_note_156 (by decide) (fun c156 => ?_) (fun c156 => ?_)
        · refine g_iconst (v := nI 0) dX2_note_163 (by decide) ?_
          refine gc_iast dX2_note_164 kJo_entries (by omega) (D_lgx hQ hb hB hl (by omega)) (fun σ hQ => ?_)
          have hR := hQ.1
          refine gs_aload_n dX2_note_165 rfl rfl ?_
          refine g_getR dX2_note_166 fX2_22 (kMa_journal hb) (by decide) (rJo_entries hb) ?_
          refine gs_iload_n dX2_note_169 rfl rfl ?_
          refine g_bipush (v := nI 10) dX2_note_170 (by decide) ?_
          refine g_iadd dX2_note_172 (by first | exact nI_add _ _ | rfl) ?_
          refine gs_aload_n dX2_note_173 rfl rfl ?_
          refine g_getI dX2_note_174 fX2_58 (kMa_attempt hb) (by decide) (show _ = S.2.1 0 x from by rw [hQ.2.2]; exact h5) ?_
          refine gc_iast dX2_note_177 kJo_entries (by omega) (D_lvx hQ hb hB hl) (fun σ hQ => ?_)
          have hR := hQ.1
          refine gs_aload_n dX2_note_178 rfl rfl ?_
          refine g_dup dX2_note_179 rfl ?_
          refine g_getI dX2_note_180 fX2_25 (kMa_journal hb) (by decide) (show _ = nI (S.1 34 0) from by have q := C_logged hR; exact q) ?_
          refine g_iconst (v := nI 1) dX2_note_183 (by decide) ?_
          refine g_iadd dX2_note_184 (by first | exact nI_add _ _ | rfl) ?_
          refine gc_putI dX2_note_185 pX2_25 (kMa_journal hb) (by decide) (Or.inl rfl) (D_logged hQ hb hB) (fun σ hQ => ?_)
          have hR := hQ.1
          refine g_return dX2_note_188 rfl ?_
          have e5 : nI (S.1 13 x) = nI 0 := by rw [show S.1 13 x = 0 from by omega]
          have e8 : bI df = nI 1 := by rw [c135]; rfl
          have e9 : bI dm = nI 0 := by rw [c156]; rfl
          exact ⟨rfl, by rw [ntS, if_neg c8, e5, e8, e9]; exact hQ⟩
        · refine g_iconst (v := nI 1) dX2_note_159 (by decide) ?_
          refine g_goto (tgt := 164) dX2_note_160 (by decide) ?_
          refine gc_iast dX2_note_164 kJo_entries (by omega) (D_lgx hQ hb hB hl (by omega)) (fun σ hQ => ?_)
          have hR := hQ.1
          refine gs_aload_n dX2_note_165 rfl rfl ?_
          refine g_getR dX2_note_166 fX2_22 (kMa_journal hb) (by decide) (rJo_entries hb) ?_
          refine gs_iload_n dX2_note_169 rfl rfl ?_
          refine g_bipush (v := nI 10) dX2_note_170 (by decide) ?_
          refine g_iadd dX2_note_172 (by first | exact nI_add _ _ | rfl) ?_
          refine gs_aload_n dX2_note_173 rfl rfl ?_
          refine g_getI dX2_note_174 fX2_58 (kMa_attempt hb) (by decide) (show _ = S.2.1 0 x from by rw [hQ.2.2]; exact h5) ?_
          refine gc_iast dX2_note_177 kJo_entries (by omega) (D_lvx hQ hb hB hl) (fun σ hQ => ?_)
          have hR := hQ.1
          refine gs_aload_n dX2_note_178 rfl rfl ?_
          refine g_dup dX2_note_179 rfl ?_
          refine g_getI dX2_note_180 fX2_25 (kMa_journal hb) (by decide) (show _ = nI (S.1 34 0) from by have q := C_logged hR; exact q) ?_
          refine g_iconst (v := nI 1) dX2_note_183 (by decide) ?_
          refine g_iadd dX2_note_184 (by first | exact nI_add _ _ | rfl) ?_
          refine gc_putI dX2_note_185 pX2_25 (kMa_journal hb) (by decide) (Or.inl rfl) (D_logged hQ hb hB) (fun σ hQ => ?_)
          have hR := hQ.1
          refine g_return dX2_note_188 rfl ?_
          have e5 : nI (S.1 13 x) = nI 0 := by rw [show S.1 13 x = 0 from by omega]
          have e8 : bI df = nI 1 := by rw [c135]; rfl
          have e9 : bI dm = nI 1 := by rw [c156]; rfl
          exact ⟨rfl, by rw [ntS, if_neg c8, e5, e8, e9]; exact hQ⟩
    · refine g_iconst (v := nI 1) dX2_note_91 (by decide) ?_
      refine g_goto (tgt := 96) dX2_note_92 (by decide) ?_
      refine gc_iast dX2_note_96 kJo_entries (by omega) (D_lgx hQ hb hB hl (by omega)) (fun σ hQ => ?_)
      have hR := hQ.1
      refine gs_aload_n dX2_note_97 rfl rfl ?_
      refine g_getR dX2_note_98 fX2_22 (kMa_journal hb) (by decide) (rJo_entries hb) ?_
      refine gs_iload_n dX2_note_101 rfl rfl ?_
      refine g_bipush (v := nI 6) dX2_note_102 (by decide) ?_
      refine g_iadd dX2_note_104 (by first | exact nI_add _ _ | rfl) ?_
      refine gs_aload_n dX2_note_105 rfl rfl ?_
      refine g_getI dX2_note_106 fX2_46 (kMa_attempt hb) (by decide) (show _ = nI place from by rw [hQ.2.2]; exact h6) ?_
      refine gc_iast dX2_note_109 kJo_entries (by omega) (D_lgx hQ hb hB hl (by omega)) (fun σ hQ => ?_)
      have hR := hQ.1
      refine gs_aload_n dX2_note_110 rfl rfl ?_
      refine g_getR dX2_note_111 fX2_22 (kMa_journal hb) (by decide) (rJo_entries hb) ?_
      refine gs_iload_n dX2_note_114 rfl rfl ?_
      refine g_bipush (v := nI 7) dX2_note_115 (by decide) ?_
      refine g_iadd dX2_note_117 (by first | exact nI_add _ _ | rfl) ?_
      refine gs_aload_n dX2_note_118 rfl rfl ?_
      refine g_getI dX2_note_119 fX2_49 (kMa_attempt hb) (by decide) (show _ = nI cost from by rw [hQ.2.2]; exact h7) ?_
      refine gc_iast dX2_note_122 kJo_entries (by omega) (D_lgx hQ hb hB hl (by omega)) (fun σ hQ => ?_)
      have hR := hQ.1
      refine gs_aload_n dX2_note_123 rfl rfl ?_
      refine g_getR dX2_note_124 fX2_22 (kMa_journal hb) (by decide) (rJo_entries hb) ?_
      refine gs_iload_n dX2_note_127 rfl rfl ?_
      refine g_bipush (v := nI 8) dX2_note_128 (by decide) ?_
      refine g_iadd dX2_note_130 (by first | exact nI_add _ _ | rfl) ?_
      refine gs_aload_n dX2_note_131 rfl rfl ?_
      refine g_getI dX2_note_132 fX2_52 (kMa_attempt hb) (by decide) (show _ = bI df from by rw [hQ.2.2]; exact h8) ?_
      refine gb_if_eq (tgt := 142) dX2_note_135 (by decide) (fun c135 => ?_) (fun c135 => ?_)
      · refine g_iconst (v := nI 0) dX2_note_142 (by decide) ?_
        refine gc_iast dX2_note_143 kJo_entries (by omega) (D_lgx hQ hb hB hl (by omega)) (fun σ hQ => ?_)
        have hR := hQ.1
        refine gs_aload_n dX2_note_144 rfl rfl ?_
        refine g_getR dX2_note_145 fX2_22 (kMa_journal hb) (by decide) (rJo_entries hb) ?_
        refine gs_iload_n dX2_note_148 rfl rfl ?_
        refine g_bipush (v := nI 9) dX2_note_149 (by decide) ?_
        refine g_iadd dX2_note_151 (by first | exact nI_add _ _ | rfl) ?_
        refine gs_aload_n dX2_note_152 rfl rfl ?_
        refine g_getI dX2_note_153 fX2_55 (kMa_attempt hb) (by decide) (show _ = bI dm from by rw [hQ.2.2]; exact h9) ?_
        refine gb_if_eq (tgt := 163) dX2_note_156 (by decide) (fun c156 => ?_) (fun c156 => ?_)
        · refine g_iconst (v := nI 0) dX2_note_163 (by decide) ?_
          refine gc_iast dX2_note_164 kJo_entries (by omega) (D_lgx hQ hb hB hl (by omega)) (fun σ hQ => ?_)
          have hR := hQ.1
          refine gs_aload_n dX2_note_165 rfl rfl ?_
          refine g_getR dX2_note_166 fX2_22 (kMa_journal hb) (by decide) (rJo_entries hb) ?_
          refine gs_iload_n dX2_note_169 rfl rfl ?_
          refine g_bipush (v := nI 10) dX2_note_170 (by decide) ?_
          refine g_iadd dX2_note_172 (by first | exact nI_add _ _ | rfl) ?_
          refine gs_aload_n dX2_note_173 rfl rfl ?_
          refine g_getI dX2_note_174 fX2_58 (kMa_attempt hb) (by decide) (show _ = S.2.1 0 x from by rw [hQ.2.2]; exact h5) ?_
          refine gc_iast dX2_note_177 kJo_entries (by omega) (D_lvx hQ hb hB hl) (fun σ hQ => ?_)
          have hR := hQ.1
          refine gs_aload_n dX2_note_178 rfl rfl ?_
          refine g_dup dX2_note_179 rfl ?_
          refine g_getI dX2_note_180 fX2_25 (kMa_journal hb) (by decide) (show _ = nI (S.1 34 0) from by have q := C_logged hR; exact q) ?_
          refine g_iconst (v := nI 1) dX2_note_183 (by decide) ?_
          refine g_iadd dX2_note_184 (by first | exact nI_add _ _ | rfl) ?_
          refine gc_putI dX2_note_185 pX2_25 (kMa_journal hb) (by decide) (Or.inl rfl) (D_logged hQ hb hB) (fun σ hQ => ?_)
          have hR := hQ.1
          refine g_return dX2_note_188 rfl ?_
          have e5 : nI (S.1 13 x) = nI 1 := by rw [show S.1 13 x = 1 from by omega]
          have e8 : bI df = nI 0 := by rw [c135]; rfl
          have e9 : bI dm = nI 0 := by rw [c156]; rfl
          exact ⟨rfl, by rw [ntS, if_neg c8, e5, e8, e9]; exact hQ⟩
        · refine g_iconst (v := nI 1) dX2_note_159 (by decide) ?_
          refine g_goto (tgt := 164) dX2_note_160 (by decide) ?_
          refine gc_iast dX2_note_164 kJo_entries (by omega) (D_lgx hQ hb hB hl (by omega)) (fun σ hQ => ?_)
          have hR := hQ.1
          refine gs_aload_n dX2_note_165 rfl rfl ?_
          refine g_getR dX2_note_166 fX2_22 (kMa_journal hb) (by decide) (rJo_entries hb) ?_
          refine gs_iload_n dX2_note_169 rfl rfl ?_
          refine g_bipush (v := nI 10) dX2_note_170 (by decide) ?_
          refine g_iadd dX2_note_172 (by first | exact nI_add _ _ | rfl) ?_
          refine gs_aload_n dX2_note_173 rfl rfl ?_
          refine g_getI dX2_note_174 fX2_58 (kMa_attempt hb) (by decide) (show _ = S.2.1 0 x from by rw [hQ.2.2]; exact h5) ?_
          refine gc_iast dX2_note_177 kJo_entries (by omega) (D_lvx hQ hb hB hl) (fun σ hQ => ?_)
          have hR := hQ.1
          refine gs_aload_n dX2_note_178 rfl rfl ?_
          refine g_dup dX2_note_179 rfl ?_
          refine g_getI dX2_note_180 fX2_25 (kMa_journal hb) (by decide) (show _ = nI (S.1 34 0) from by have q := C_logged hR; exact q) ?_
          refine g_iconst (v := nI 1) dX2_note_183 (by decide) ?_
          refine g_iadd dX2_note_184 (by first | exact nI_add _ _ | rfl) ?_
          refine gc_putI dX2_note_185 pX2_25 (kMa_journal hb) (by decide) (Or.inl rfl) (D_logged hQ hb hB) (fun σ hQ => ?_)
          have hR := hQ.1
          refine g_return dX2_note_188 rfl ?_
          have e5 : nI (S.1 13 x) = nI 1 := by rw [show S.1 13 x = 1 from by omega]
          have e8 : bI df = nI 0 := by rw [c135]; rfl
          have e9 : bI dm = nI 1 := by rw [c156]; rfl
          exact ⟨rfl, by rw [ntS, if_neg c8, e5, e8, e9]; exact hQ⟩
      · refine g_iconst (v := nI 1) dX2_note_138 (by decide) ?_
        refine g_goto (tgt := 143) dX2_note_139 (by decide) ?_
        refine gc_iast dX2_note_143 kJo_entries (by omega) (D_lgx hQ hb hB hl (by omega)) (fun σ hQ => ?_)
        have hR := hQ.1
        refine gs_aload_n dX2_note_144 rfl rfl ?_
        refine g_getR dX2_note_145 fX2_22 (kMa_journal hb) (by decide) (rJo_entries hb) ?_
        refine gs_iload_n dX2_note_148 rfl rfl ?_
        refine g_bipush (v := nI 9) dX2_note_149 (by decide) ?_
        refine g_iadd dX2_note_151 (by first | exact nI_add _ _ | rfl) ?_
        refine gs_aload_n dX2_note_152 rfl rfl ?_
        refine g_getI dX2_note_153 fX2_55 (kMa_attempt hb) (by decide) (show _ = bI dm from by rw [hQ.2.2]; exact h9) ?_
        refine gb_if_eq (tgt := 163) dX2_note_156 (by decide) (fun c156 => ?_) (fun c156 => ?_)
        · refine g_iconst (v := nI 0) dX2_note_163 (by decide) ?_
          refine gc_iast dX2_note_164 kJo_entries (by omega) (D_lgx hQ hb hB hl (by omega)) (fun σ hQ => ?_)
          have hR := hQ.1
          refine gs_aload_n dX2_note_165 rfl rfl ?_
          refine g_getR dX2_note_166 fX2_22 (kMa_journal hb) (by decide) (rJo_entries hb) ?_
          refine gs_iload_n dX2_note_169 rfl rfl ?_
          refine g_bipush (v := nI 10) dX2_note_170 (by decide) ?_
          refine g_iadd dX2_note_172 (by first | exact nI_add _ _ | rfl) ?_
          refine gs_aload_n dX2_note_173 rfl rfl ?_
          refine g_getI dX2_note_174 fX2_58 (kMa_attempt hb) (by decide) (show _ = S.2.1 0 x from by rw [hQ.2.2]; exact h5) ?_
          refine gc_iast dX2_note_177 kJo_entries (by omega) (D_lvx hQ hb hB hl) (fun σ hQ => ?_)
          have hR := hQ.1
          refine gs_aload_n dX2_note_178 rfl rfl ?_
          refine g_dup dX2_note_179 rfl ?_
          refine g_getI dX2_note_180 fX2_25 (kMa_journal hb) (by decide) (show _ = nI (S.1 34 0) from by have q := C_logged hR; exact q) ?_
          refine g_iconst (v := nI 1) dX2_note_183 (by decide) ?_
          refine g_iadd dX2_note_184 (by first | exact nI_add _ _ | rfl) ?_
          refine gc_putI dX2_note_185 pX2_25 (kMa_journal hb) (by decide) (Or.inl rfl) (D_logged hQ hb hB) (fun σ hQ => ?_)
          have hR := hQ.1
          refine g_return dX2_note_188 rfl ?_
          have e5 : nI (S.1 13 x) = nI 1 := by rw [show S.1 13 x = 1 from by omega]
          have e8 : bI df = nI 1 := by rw [c135]; rfl
          have e9 : bI dm = nI 0 := by rw [c156]; rfl
          exact ⟨rfl, by rw [ntS, if_neg c8, e5, e8, e9]; exact hQ⟩
        · refine g_iconst (v := nI 1) dX2_note_159 (by decide) ?_
          refine g_goto (tgt := 164) dX2_note_160 (by decide) ?_
          refine gc_iast dX2_note_164 kJo_entries (by omega) (D_lgx hQ hb hB hl (by omega)) (fun σ hQ => ?_)
          have hR := hQ.1
          refine gs_aload_n dX2_note_165 rfl rfl ?_
          refine g_getR dX2_note_166 fX2_22 (kMa_journal hb) (by decide) (rJo_entries hb) ?_
          refine gs_iload_n dX2_note_169 rfl rfl ?_
          refine g_bipush (v := nI 10) dX2_note_170 (by decide) ?_
          refine g_iadd dX2_note_172 (by first | exact nI_add _ _ | rfl) ?_
          refine gs_aload_n dX2_note_173 rfl rfl ?_
          refine g_getI dX2_note_174 fX2_58 (kMa_attempt hb) (by decide) (show _ = S.2.1 0 x from by rw [hQ.2.2]; exact h5) ?_
          refine gc_iast dX2_note_177 kJo_entries (by omega) (D_lvx hQ hb hB hl) (fun σ hQ => ?_)
          have hR := hQ.1
          refine gs_aload_n dX2_note_178 rfl rfl ?_
          refine g_dup dX2_note_179 rfl ?_
          refine g_getI dX2_note_180 fX2_25 (kMa_journal hb) (by decide) (show _ = nI (S.1 34 0) from by have q := C_logged hR; exact q) ?_
          refine g_iconst (v := nI 1) dX2_note_183 (by decide) ?_
          refine g_iadd dX2_note_184 (by first | exact nI_add _ _ | rfl) ?_
          refine gc_putI dX2_note_185 pX2_25 (kMa_journal hb) (by decide) (Or.inl rfl) (D_logged hQ hb hB) (fun σ hQ => ?_)
          have hR := hQ.1
          refine g_return dX2_note_188 rfl ?_
          have e5 : nI (S.1 13 x) = nI 1 := by rw [show S.1 13 x = 1 from by omega]
          have e8 : bI df = nI 1 := by rw [c135]; rfl
          have e9 : bI dm = nI 1 := by rw [c156]; rfl
          exact ⟨rfl, by rw [ntS, if_neg c8, e5, e8, e9]; exact hQ⟩
  · refine g_return dX2_note_11 rfl ?_
    exact ⟨rfl, by rw [ntS, if_pos c8]; exact hQ⟩
def eiS (S : Sx) (t p a cost : Nat) : Sx := setV (setV (setV (setV (setV S 11 t (S.2.1 11 t + nI cost)) 8 p (S.2.1 8 p + nI cost)) 13 a (S.2.1 13 a + nI cost)) 3 0 (S.2.1 3 0 + nI cost)) 2 0 (S.2.1 2 0 + nI 1)
theorem c_enterInBills {b : Nat} {σ : Mm} {S : Sx} {Tf : Nat → Nat} (hb : mch b) (hR : RepC b σ S Tf) (hB : Bd S) (hcap : cCap b S) {p : Nat} {t a x place cost : Nat} {df dm : Bool} {A : Nat → Int32} (hA : σ.1 (b + 5) = A) (h0 : A 0 = nI t) (h1 : A 1 = nI a) (h2 : A 2 = nI (S.1 11 x)) (h3 : A 3 = nI (S.1 12 x)) (h4 : A 4 = nI (S.1 13 x)) (h5 : A 5 = S.2.1 0 x) (h6 : A 6 = nI place) (h7 : A 7 = nI cost) (h8 : A 8 = bI df) (h9 : A 9 = bI dm) (ht : t < S.1 9 0) (hp : p < S.1 7 0) (ha : a < S.1 0 0) : RV W0 mX3_enterInBills [.ref b, .ref (b + 18 + 3 * p), .ref (b + 78 + t)] σ (fun τ => Cq b σ (ntS (eiS S t p a cost) t a x place cost df dm) Tf A τ) := by
  have bP := B_P hB 0
  have h20 : p < 20 := by omega
  have b0 := B_nodes hB 0
  have bT := B_T hB 0
  have h10 : t < 10 := by omega
  have hQ : Cq b σ S Tf A σ := ⟨hR, frC.rf b σ, hA⟩
  refine G.met (by decide) (Nat.le_of_ble_eq_true rfl) ?_
  show G _ _ _ 0 [some (.ref b), some (.ref (b + 18 + 3 * p)), some (.ref (b + 78 + t))] [] σ
  refine gs_aload_n dX3_enterInBills_0 rfl rfl ?_
  refine g_dup dX3_enterInBills_1 rfl ?_
  refine g_getI dX3_enterInBills_2 fX3_346 (kWk hb h10) (by decide) (show _ = S.2.1 11 t from by have q := CV_threadBill hR h10 ht; exact q) ?_
  refine gs_aload_n dX3_enterInBills_5 rfl rfl ?_
  refine g_getR dX3_enterInBills_6 fX3_28 (kMa hb) (by decide) (rMa_attempt hb) ?_
  refine g_getI dX3_enterInBills_9 fX3_240 (kMa_attempt hb) (by decide) (show _ = nI cost from by rw [hQ.2.2]; exact h7) ?_
  refine g_iadd dX3_enterInBills_12 rfl ?_
  refine gc_putI dX3_enterInBills_13 pX3_346 (kWk hb h10) (by decide) (Or.inl rfl) (DV_threadBill hQ hb hB h10) (fun σ hQ => ?_)
  have hR := hQ.1
  refine gs_aload_n dX3_enterInBills_16 rfl rfl ?_
  refine g_dup dX3_enterInBills_17 rfl ?_
  refine g_getI dX3_enterInBills_18 fX3_349 (kPg hb h20) (by decide) (show _ = S.2.1 8 p from by have q := CV_pageBill hR h20 hp; exact q) ?_
  refine gs_aload_n dX3_enterInBills_21 rfl rfl ?_
  refine g_getR dX3_enterInBills_22 fX3_28 (kMa hb) (by decide) (rMa_attempt hb) ?_
  refine g_getI dX3_enterInBills_25 fX3_240 (kMa_attempt hb) (by decide) (show _ = nI cost from by rw [hQ.2.2]; exact h7) ?_
  refine g_iadd dX3_enterInBills_28 rfl ?_
  refine gc_putI dX3_enterInBills_29 pX3_349 (kPg hb h20) (by decide) (Or.inl rfl) (DV_pageBill hQ hb hB h20) (fun σ hQ => ?_)
  have hR := hQ.1
  refine gs_aload_n dX3_enterInBills_32 rfl rfl ?_
  refine g_getR dX3_enterInBills_33 fX3_48 (kMa hb) (by decide) (rMa_nodeBills hb) ?_
  refine gs_aload_n dX3_enterInBills_36 rfl rfl ?_
  refine g_getR dX3_enterInBills_37 fX3_28 (kMa hb) (by decide) (rMa_attempt hb) ?_
  refine g_getI dX3_enterInBills_40 fX3_220 (kMa_attempt hb) (by decide) (show _ = nI a from by rw [hQ.2.2]; exact h1) ?_
  refine g_dup2 dX3_enterInBills_43 rfl rfl ?_
  refine g_iald dX3_enterInBills_44 (kMa_nodeBills hb) (by omega) (show _ = S.2.1 13 a from by have q := CV_nodeBill hR (i := a) (by omega); exact q) ?_
  refine gs_aload_n dX3_enterInBills_45 rfl rfl ?_
  refine g_getR dX3_enterInBills_46 fX3_28 (kMa hb) (by decide) (rMa_attempt hb) ?_
  refine g_getI dX3_enterInBills_49 fX3_240 (kMa_attempt hb) (by decide) (show _ = nI cost from by rw [hQ.2.2]; exact h7) ?_
  refine g_iadd dX3_enterInBills_52 rfl ?_
  refine gc_iast dX3_enterInBills_53 (kMa_nodeBills hb) (by omega) (DV_nodeBill hQ hb hB (by omega)) (fun σ hQ => ?_)
  have hR := hQ.1
  refine gs_aload_n dX3_enterInBills_54 rfl rfl ?_
  refine g_dup dX3_enterInBills_55 rfl ?_
  refine g_getI dX3_enterInBills_56 fX3_103 (kMa hb) (by decide) (show _ = S.2.1 3 0 from by have q := CV_cost hR; exact q) ?_
  refine gs_aload_n dX3_enterInBills_59 rfl rfl ?_
  refine g_getR dX3_enterInBills_60 fX3_28 (kMa hb) (by decide) (rMa_attempt hb) ?_
  refine g_getI dX3_enterInBills_63 fX3_240 (kMa_attempt hb) (by decide) (show _ = nI cost from by rw [hQ.2.2]; exact h7) ?_
  refine g_iadd dX3_enterInBills_66 rfl ?_
  refine gc_putI dX3_enterInBills_67 pX3_103 (kMa hb) (by decide) (Or.inl rfl) (DV_cost hQ hb hB) (fun σ hQ => ?_)
  have hR := hQ.1
  refine gs_aload_n dX3_enterInBills_70 rfl rfl ?_
  refine g_dup dX3_enterInBills_71 rfl ?_
  refine g_getI dX3_enterInBills_72 fX3_100 (kMa hb) (by decide) (show _ = S.2.1 2 0 from by have q := CV_went hR; exact q) ?_
  refine g_iconst (v := nI 1) dX3_enterInBills_75 (by decide) ?_
  refine g_iadd dX3_enterInBills_76 rfl ?_
  refine gc_putI dX3_enterInBills_77 pX3_100 (kMa hb) (by decide) (Or.inl rfl) (DV_went hQ hb hB) (fun σ hQ => ?_)
  have hR := hQ.1
  refine gs_aload_n dX3_enterInBills_80 rfl rfl ?_
  refine g_getR dX3_enterInBills_81 fX3_73 (kMa hb) (by decide) (rMa_journal hb) ?_
  refine gs_aload_n dX3_enterInBills_84 rfl rfl ?_
  refine g_getI dX3_enterInBills_85 fX3_51 (kMa hb) (by decide) (show _ = S.2.1 1 0 from by have q := CV_tick hR; exact q) ?_
  refine gs_aload_n dX3_enterInBills_88 rfl rfl ?_
  refine g_getR dX3_enterInBills_89 fX3_28 (kMa hb) (by decide) (rMa_attempt hb) ?_
  refine g_cVV2 dX3_enterInBills_92 vX3_350 (by decide) (kMa_journal hb) (by decide) (Nat.le_of_ble_eq_true rfl) (c_note (S := eiS S t p a cost) (x := x) (place := place) (cost := cost) hb hQ.1 hB hcap hQ.2.2 h0 h1 h2 h3 h4 h5 h6 h7 h8 h9) ?_
  rintro σ hQ9
  refine g_return dX3_enterInBills_95 rfl ?_
  exact ⟨rfl, hQ.tr hQ9⟩
