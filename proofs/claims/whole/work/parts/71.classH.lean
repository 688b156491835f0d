/-! The class: perform. -/
theorem D_cellx {b : Nat} {σ0 σ : Mm} {S : Sx} {Tf : Nat → Nat} {At : Nat → Int32} (h : Cq b σ0 S Tf At σ) (hb : mch b) (hB : Bd S) {p c : Nat} (hp : p < 20) (hc : c < 4) {v : Int32} : Cq b σ0 (setV S 9 (4 * p + c) v) Tf At (wI σ (b + 19 + 3 * p) c v) := by
  have q := DV_cell h hb hB (i := 4 * p + c) (by omega) (v := v)
  rwa [show (4 * p + c) / 4 = p from by omega, show (4 * p + c) % 4 = c from by omega] at q
theorem C_cellx {b : Nat} {σ : Mm} {S : Sx} {Tf : Nat → Nat} (h : RepC b σ S Tf) {p c : Nat} (hp : p < 20) (hd : p < S.1 7 0) (hc : c < 4) : σ.1 (b + 19 + 3 * p) c = S.2.1 9 (4 * p + c) := by
  have q := CV_cell h (i := 4 * p + c) (by omega) (by omega)
  rwa [show (4 * p + c) / 4 = p from by omega, show (4 * p + c) % 4 = c from by omega] at q
theorem e_perf82 {b : Nat} {σ0 σ : Mm} {S : Sx} {Tf : Nat → Nat} {K : Option Value → Mm → Prop} (hb : mch b) {t a x place cost : Nat} {df dm : Bool} {A : Nat → Int32} (h0 : A 0 = nI t) (h1 : A 1 = nI a) (h2 : A 2 = nI (S.1 11 x)) (h3 : A 3 = nI (S.1 12 x)) (h4 : A 4 = nI (S.1 13 x)) (h5 : A 5 = S.2.1 0 x) (h6 : A 6 = nI place) (h7 : A 7 = nI cost) (h8 : A 8 = bI df) (h9 : A 9 = bI dm) (hQ : Cq b σ0 S Tf A σ) (hB : Bd S) (hcap : cCap b S) {p : Nat} (ht : t < S.1 9 0) (hp : p < S.1 7 0) (ha : a < S.1 0 0) (hnx : S.1 30 t < 60) (hco : cost ≤ 5000) (hK : ∀ τ, Cq b σ0 (ntS (blS S t p a cost) t a x place cost df dm) Tf A τ → K none τ) : G W0 mX3_perform K 82 [some (.ref b), some (.ref (b + 18 + 3 * p)), some (.ref (b + 78 + t))] [] σ := by
  have bP := B_P hB 0
  have h20 : p < 20 := by omega
  have bT := B_T hB 0
  have h10 : t < 10 := by omega
  have hB1 : Bd (setN S 30 t (S.1 30 t + 1)) := Bd_setN hB (show _ ≤ 60 by omega)
  have hB2 : Bd (setN (setN S 30 t (S.1 30 t + 1)) 31 t cost) := Bd_setN hB1 hco
  have hR := hQ.1
  refine gs_aload_n dX3_perform_82 rfl rfl ?_
  refine g_dup dX3_perform_83 rfl ?_
  refine g_getI dX3_perform_84 fX3_306 (kWk hb h10) (by decide) (C_next hR h10 ht) ?_
  refine g_iconst (v := nI 1) dX3_perform_87 (by decide) ?_
  refine g_iadd dX3_perform_88 (by first | exact nI_add _ _ | rfl) ?_
  refine gc_putI dX3_perform_89 pX3_306 (kWk hb h10) (by decide) (Or.inl rfl) (D_next hQ hb hB h10) (fun σ hQ => ?_)
  have hR := hQ.1
  refine gs_aload_n dX3_perform_92 rfl rfl ?_
  refine gs_aload_n dX3_perform_93 rfl rfl ?_
  refine g_getR dX3_perform_94 fX3_28 (kMa hb) (by decide) (rMa_attempt hb) ?_
  refine g_getI dX3_perform_97 fX3_240 (kMa_attempt hb) (by decide) (show _ = nI cost from by rw [hQ.2.2]; exact h7) ?_
  refine gc_putI dX3_perform_100 pX3_153 (kWk hb h10) (by decide) (Or.inl rfl) (D_toGo hQ hb hB1 h10) (fun σ hQ => ?_)
  have hR := hQ.1
  refine gs_aload_n dX3_perform_103 rfl rfl ?_
  refine gs_aload_n dX3_perform_104 rfl rfl ?_
  refine gs_aload_n dX3_perform_105 rfl rfl ?_
  refine g_cVV2 dX3_perform_106 vX3_309 (by decide) (kMa hb) (by decide) (Nat.le_of_ble_eq_true rfl) (c_enterInBills (S := setN (setN S 30 t (S.1 30 t + 1)) 31 t cost) (x := x) (place := place) (cost := cost) hb hQ.1 hB2 hcap hQ.2.2 h0 h1 h2 h3 h4 h5 h6 h7 h8 h9 ht hp ha) ?_
  rintro σ hQ9
  refine g_return dX3_perform_109 rfl ?_
  refine hK _ ?_
  rw [blS_ei, ntS_18]
  exact (hQ.tr hQ9).v18
theorem Tk_bring1 {S : Sx} {Tf : Nat → Nat} {p a : Nat} (hB : Bd S) (hT : Tk S Tf) (hp : p < S.1 7 0) (ha : a < S.1 0 0) (hl : 0 < S.1 24 p) : Tk (if S.1 8 p = 1 then cpS S p a false else S) (if S.1 8 p = 1 ∧ cpC S p a false = 1 then upT Tf a (Tf a + 1) else Tf) := by
  by_cases h8 : S.1 8 p = 1
  · rw [if_pos h8]
    by_cases z : S.1 24 p = a + 1 ∨ bt (S.1 25 p) a = 1 ∨ hrS S a = false
    · have e1 : cpC S p a false = 0 := by rw [cpC, if_neg (by decide), if_pos z]
      have e2 : cpS S p a false = S := by rw [cpS, if_neg (by decide), if_pos z]
      rw [e1, e2, if_neg (fun q => absurd q.2 (by decide))]
      exact hT
    · have e1 : cpC S p a false = 1 := by rw [cpC, if_neg (by decide), if_neg z]
      have e2 : cpS S p a false = setN S 25 p (stb (S.1 25 p) a) := by rw [cpS, if_neg (by decide), if_neg z]
      rw [e1, e2, if_pos ⟨h8, rfl⟩]
      exact Tk_bring hB hT hp ha hl (fun q => z (Or.inr (Or.inl q)))
  · rw [if_neg h8, if_neg (fun q => h8 q.1)]
    exact hT
theorem c_perform {b : Nat} {σ : Mm} {S : Sx} {Tf : Nat → Nat} (hb : mch b) (hR : RepC b σ S Tf) (hB : Bd S) (hT : Tk S Tf) (hcap : cCap b S) {t a x place cost : Nat} {df dm : Bool} {A : Nat → Int32} (h0 : A 0 = nI t) (h1 : A 1 = nI a) (h2 : A 2 = nI (S.1 11 x)) (h3 : A 3 = nI (S.1 12 x)) (h4 : A 4 = nI (S.1 13 x)) (h5 : A 5 = S.2.1 0 x) (h6 : A 6 = nI place) (h7 : A 7 = nI cost) (h8 : A 8 = bI df) (h9 : A 9 = bI dm) (hA : σ.1 (b + 5) = A) {p c : Nat} (hc : S.1 12 x = c) (hc4 : c < 4) (ht : t < S.1 9 0) (hp : p < S.1 7 0) (ha : a < S.1 0 0) (hnx : S.1 30 t < 60) (hco : cost ≤ 4000) (hl : 0 < S.1 24 p) (hk1 : S.1 8 p ≠ 1 → S.1 25 p = 0) (hh0 : S.1 8 p = 1 → bt (S.1 25 p) (S.1 24 p - 1) = 0) : RV W0 mX3_perform [.ref b, .ref (b + 18 + 3 * p), .ref (b + 78 + t)] σ (fun τ => ∃ Tf' A', Cq b σ (enS (acS S t p c x) t a x p place cost df dm) Tf' A' τ ∧ Tk (enS (acS S t p c x) t a x p place cost df dm) Tf') := by
  have bP := B_P hB 0
  have h20 : p < 20 := by omega
  have bT := B_T hB 0
  have b0 := B_nodes hB 0
  have b13 := B_aWrites hB x
  have h10 : t < 10 := by omega
  have hQ : Cq b σ S Tf A σ := ⟨hR, frC.rf b σ, hA⟩
  have hT1 : ∀ g i v, Tk (setV S g i v) Tf := fun g i v => Tk_of hT rfl rfl rfl rfl rfl
  refine G.met (by decide) (Nat.le_of_ble_eq_true rfl) ?_
  show G _ _ _ 0 [some (.ref b), some (.ref (b + 18 + 3 * p)), some (.ref (b + 78 + t))] [] σ
  refine gs_aload_n dX3_perform_0 rfl rfl ?_
  refine g_getR dX3_perform_1 fX3_28 (kMa hb) (by decide) (rMa_attempt hb) ?_
  refine g_getI dX3_perform_4 fX3_287 (kMa_attempt hb) (by decide) (show _ = nI (S.1 13 x) from by rw [hQ.2.2]; exact h4) ?_
  refine gn_if_eq (tgt := 49) dX3_perform_7 (by decide) (by omega) (fun c7 => ?_) (fun c7 => ?_)
  · refine gs_aload_n dX3_perform_49 rfl rfl ?_
    refine gs_aload_n dX3_perform_50 rfl rfl ?_
    refine g_getR dX3_perform_51 fX3_290 (kPg hb h20) (by decide) (rPg_cells hb h20) ?_
    refine gs_aload_n dX3_perform_54 rfl rfl ?_
    refine g_getR dX3_perform_55 fX3_28 (kMa hb) (by decide) (rMa_attempt hb) ?_
    refine g_getI dX3_perform_58 fX3_252 (kMa_attempt hb) (by decide) (show _ = nI c from by rw [hQ.2.2, h3, hc]) ?_
    refine g_iald dX3_perform_61 (kPg_cells hb h20) (by omega) (C_cellx hR h20 hp hc4) ?_
    refine gc_putI dX3_perform_62 pX3_300 (kWk hb h10) (by decide) (Or.inl rfl) (DV_lastRead hQ hb hB h10) (fun σ hQ => ?_)
    have hR := hQ.1
    refine gs_aload_n dX3_perform_65 rfl rfl ?_
    refine g_getR dX3_perform_66 fX3_28 (kMa hb) (by decide) (rMa_attempt hb) ?_
    refine g_dup dX3_perform_69 rfl ?_
    refine g_getI dX3_perform_70 fX3_240 (kMa_attempt hb) (by decide) (show _ = nI cost from by rw [hQ.2.2]; exact h7) ?_
    refine gs_aload_n dX3_perform_73 rfl rfl ?_
    refine gs_aload_n dX3_perform_74 rfl rfl ?_
    refine g_cVI1 dX3_perform_75 vX3_303 (by decide) (kMa hb) (by decide) (Nat.le_of_ble_eq_true rfl) (c_bringCopy (S := setV S 12 t (S.2.1 9 (4 * p + c))) hb hR hB (hT1 _ _ _) hQ.2.2 h1 hp ha) ?_
    rintro _ σ ⟨rfl, hQ9⟩
    have hQ := hQ.tr hQ9
    have hR := hQ.1
    have hBx : Bd (if S.1 8 p = 1 then cpS (setV S 12 t (S.2.1 9 (4 * p + c))) p a false else (setV S 12 t (S.2.1 9 (4 * p + c)))) := by
      split
      · exact Bd_cpS (S := setV S 12 t (S.2.1 9 (4 * p + c))) hB (by omega)
      · exact hB
    refine g_iadd dX3_perform_78 (by first | exact nI_add _ _ | rfl) ?_
    refine gc_putI dX3_perform_79 pX3_240 (kMa_attempt hb) (by decide) (Or.inl rfl) (hQ.putA hb hBx) (fun σ hQ => ?_)
    have hR := hQ.1
    have ew : decide (S.1 13 x = 1) = false := by exact decide_eq_false (by omega)
    have eA : acS S t p c x = (setV S 12 t (S.2.1 9 (4 * p + c))) := by rw [acS, if_pos c7]
    have eS : (if S.1 8 p = 1 then cpS (setV S 12 t (S.2.1 9 (4 * p + c))) p a false else (setV S 12 t (S.2.1 9 (4 * p + c)))) = cqS (setV S 12 t (S.2.1 9 (4 * p + c))) p a x := by rw [← ew]; rfl
    have eC : (if S.1 8 p = 1 then cpC (setV S 12 t (S.2.1 9 (4 * p + c))) p a false else 0) = cqC (setV S 12 t (S.2.1 9 (4 * p + c))) p a x := by rw [← ew]; rfl
    have hT2 : Tk (if S.1 8 p = 1 then cpS (setV S 12 t (S.2.1 9 (4 * p + c))) p a false else (setV S 12 t (S.2.1 9 (4 * p + c)))) (if S.1 8 p = 1 ∧ cpC (setV S 12 t (S.2.1 9 (4 * p + c))) p a false = 1 then upT Tf a (Tf a + 1) else Tf) := Tk_bring1 (S := setV S 12 t (S.2.1 9 (4 * p + c))) (a := a) hB (hT1 _ _ _) hp ha hl
    rw [eS] at hT2
    change Cq _ _ (if S.1 8 p = 1 then cpS (setV S 12 t (S.2.1 9 (4 * p + c))) p a false else (setV S 12 t (S.2.1 9 (4 * p + c)))) (if S.1 8 p = 1 ∧ cpC (setV S 12 t (S.2.1 9 (4 * p + c))) p a false = 1 then upT Tf a (Tf a + 1) else Tf) (upd A 7 (nI (cost + (if S.1 8 p = 1 then cpC (setV S 12 t (S.2.1 9 (4 * p + c))) p a false else 0)))) σ at hQ
    rw [eS, eC] at hQ
    have hle : cqC (setV S 12 t (S.2.1 9 (4 * p + c))) p a x ≤ 5 := by
      unfold cqC
      split
      · exact cpC_le
      · exact Nat.zero_le _
    have en : ∀ g, g ≠ 24 → g ≠ 25 → (cqS (setV S 12 t (S.2.1 9 (4 * p + c))) p a x).1 g = S.1 g := fun g y1 y2 => cqS_ne y1 y2
    have e22 : (cqS (setV S 12 t (S.2.1 9 (4 * p + c))) p a x).2 = ((setV S 12 t (S.2.1 9 (4 * p + c))) : Sx).2 := by
      unfold cqS
      split
      · exact cpS_2
      · rfl
    have hB2 : Bd (cqS (setV S 12 t (S.2.1 9 (4 * p + c))) p a x) := by
      unfold cqS
      split
      · exact Bd_cpS (S := (setV S 12 t (S.2.1 9 (4 * p + c)))) hB (by omega)
      · exact hB
    have hcap2 : cCap b (cqS (setV S 12 t (S.2.1 9 (4 * p + c))) p a x) := ⟨fun e => by rw [en 39 (by decide) (by decide)]; exact hcap.1 e, fun e => by rw [en 39 (by decide) (by decide), en 34 (by decide) (by decide)]; exact hcap.2 e⟩
    refine e_perf82 (df := df) (dm := dm) (x := x) (place := place) hb (by rw [upd_n _ _ (by decide)]; exact h0) (by rw [upd_n _ _ (by decide)]; exact h1) (by rw [upd_n _ _ (by decide), en 11 (by decide) (by decide)]; exact h2) (by rw [upd_n _ _ (by decide), en 12 (by decide) (by decide)]; exact h3) (by rw [upd_n _ _ (by decide), en 13 (by decide) (by decide)]; exact h4) (by rw [upd_n _ _ (by decide), e22]; exact h5) (by rw [upd_n _ _ (by decide)]; exact h6) (upd_e _ _ _) (by rw [upd_n _ _ (by decide)]; exact h8) (by rw [upd_n _ _ (by decide)]; exact h9) hQ hB2 hcap2 (by rw [en 9 (by decide) (by decide)]; exact ht) (by rw [en 7 (by decide) (by decide)]; exact hp) (by rw [en 0 (by decide) (by decide)]; exact ha) (by rw [en 30 (by decide) (by decide)]; exact hnx) (by omega) (fun τ hτ => ⟨rfl, _, _, by rw [eA]; exact hτ, ?_⟩)
    rw [eA]
    exact Tk_of hT2 (by rw [enS, ntS_ne (by decide), blS_ne (by decide) (by decide)]) (by rw [enS, ntS_ne (by decide), blS_ne (by decide) (by decide)]) (by rw [enS, ntS_ne (by decide), blS_ne (by decide) (by decide)]) (by rw [enS, ntS_ne (by decide), blS_ne (by decide) (by decide)]) (by rw [enS, ntS_ne (by decide), blS_ne (by decide) (by decide)])
  · refine gs_aload_n dX3_perform_10 rfl rfl ?_
    refine g_getR dX3_perform_11 fX3_290 (kPg hb h20) (by decide) (rPg_cells hb h20) ?_
    refine gs_aload_n dX3_perform_14 rfl rfl ?_
    refine g_getR dX3_perform_15 fX3_28 (kMa hb) (by decide) (rMa_attempt hb) ?_
    refine g_getI dX3_perform_18 fX3_252 (kMa_attempt hb) (by decide) (show _ = nI c from by rw [hQ.2.2, h3, hc]) ?_
    refine gs_aload_n dX3_perform_21 rfl rfl ?_
    refine g_getR dX3_perform_22 fX3_28 (kMa hb) (by decide) (rMa_attempt hb) ?_
    refine g_getI dX3_perform_25 fX3_293 (kMa_attempt hb) (by decide) (show _ = S.2.1 0 x from by rw [hQ.2.2]; exact h5) ?_
    refine gc_iast dX3_perform_28 (kPg_cells hb h20) (by omega) (D_cellx hQ hb hB h20 hc4) (fun σ hQ => ?_)
    have hR := hQ.1
    refine gs_aload_n dX3_perform_29 rfl rfl ?_
    refine g_getR dX3_perform_30 fX3_28 (kMa hb) (by decide) (rMa_attempt hb) ?_
    refine g_dup dX3_perform_33 rfl ?_
    refine g_getI dX3_perform_34 fX3_240 (kMa_attempt hb) (by decide) (show _ = nI cost from by rw [hQ.2.2]; exact h7) ?_
    refine gs_aload_n dX3_perform_37 rfl rfl ?_
    refine gs_aload_n dX3_perform_38 rfl rfl ?_
    refine g_cVI1 dX3_perform_39 vX3_296 (by decide) (kMa hb) (by decide) (Nat.le_of_ble_eq_true rfl) (c_endCopies (S := setV S 9 (4 * p + c) (S.2.1 0 x)) hb hR hB (hT1 _ _ _) hQ.2.2 h1 hp ha hl hk1) ?_
    rintro _ σ ⟨rfl, hQ9⟩
    have hQ := hQ.tr hQ9
    have hR := hQ.1
    have hBx : Bd (if S.1 8 p = 1 then cpS (setV S 9 (4 * p + c) (S.2.1 0 x)) p a true else (setV S 9 (4 * p + c) (S.2.1 0 x))) := by
      split
      · exact Bd_cpS (S := setV S 9 (4 * p + c) (S.2.1 0 x)) hB (by omega)
      · exact hB
    refine g_iadd dX3_perform_42 (by first | exact nI_add _ _ | rfl) ?_
    refine gc_putI dX3_perform_43 pX3_240 (kMa_attempt hb) (by decide) (Or.inl rfl) (hQ.putA hb hBx) (fun σ hQ => ?_)
    have hR := hQ.1
    refine g_goto (tgt := 82) dX3_perform_46 (by decide) ?_
    have ew : decide (S.1 13 x = 1) = true := by exact decide_eq_true (by omega)
    have eA : acS S t p c x = (setV S 9 (4 * p + c) (S.2.1 0 x)) := by rw [acS, if_neg (show ¬ S.1 13 x = 0 by omega)]
    have eS : (if S.1 8 p = 1 then cpS (setV S 9 (4 * p + c) (S.2.1 0 x)) p a true else (setV S 9 (4 * p + c) (S.2.1 0 x))) = cqS (setV S 9 (4 * p + c) (S.2.1 0 x)) p a x := by rw [← ew]; rfl
    have eC : (if S.1 8 p = 1 then cpC (setV S 9 (4 * p + c) (S.2.1 0 x)) p a true else 0) = cqC (setV S 9 (4 * p + c) (S.2.1 0 x)) p a x := by rw [← ew]; rfl
    have hT2 : Tk (if S.1 8 p = 1 then cpS (setV S 9 (4 * p + c) (S.2.1 0 x)) p a true else (setV S 9 (4 * p + c) (S.2.1 0 x))) (ecT (setV S 9 (4 * p + c) (S.2.1 0 x)) Tf (ecC (setV S 9 (4 * p + c) (S.2.1 0 x)) p a) (S.1 0 0)) := Tk_end (S := setV S 9 (4 * p + c) (S.2.1 0 x)) (a := a) hB (hT1 _ _ _) hp ha hl hk1 hh0
    rw [eS] at hT2
    change Cq _ _ (if S.1 8 p = 1 then cpS (setV S 9 (4 * p + c) (S.2.1 0 x)) p a true else (setV S 9 (4 * p + c) (S.2.1 0 x))) (ecT (setV S 9 (4 * p + c) (S.2.1 0 x)) Tf (ecC (setV S 9 (4 * p + c) (S.2.1 0 x)) p a) (S.1 0 0)) (upd A 7 (nI (cost + (if S.1 8 p = 1 then cpC (setV S 9 (4 * p + c) (S.2.1 0 x)) p a true else 0)))) σ at hQ
    rw [eS, eC] at hQ
    have hle : cqC (setV S 9 (4 * p + c) (S.2.1 0 x)) p a x ≤ 5 := by
      unfold cqC
      split
      · exact cpC_le
      · exact Nat.zero_le _
    have en : ∀ g, g ≠ 24 → g ≠ 25 → (cqS (setV S 9 (4 * p + c) (S.2.1 0 x)) p a x).1 g = S.1 g := fun g y1 y2 => cqS_ne y1 y2
    have e22 : (cqS (setV S 9 (4 * p + c) (S.2.1 0 x)) p a x).2 = ((setV S 9 (4 * p + c) (S.2.1 0 x)) : Sx).2 := by
      unfold cqS
      split
      · exact cpS_2
      · rfl
    have hB2 : Bd (cqS (setV S 9 (4 * p + c) (S.2.1 0 x)) p a x) := by
      unfold cqS
      split
      · exact Bd_cpS (S := (setV S 9 (4 * p + c) (S.2.1 0 x))) hB (by omega)
      · exact hB
    have hcap2 : cCap b (cqS (setV S 9 (4 * p + c) (S.2.1 0 x)) p a x) := ⟨fun e => by rw [en 39 (by decide) (by decide)]; exact hcap.1 e, fun e => by rw [en 39 (by decide) (by decide), en 34 (by decide) (by decide)]; exact hcap.2 e⟩
    refine e_perf82 (df := df) (dm := dm) (x := x) (place := place) hb (by rw [upd_n _ _ (by decide)]; exact h0) (by rw [upd_n _ _ (by decide)]; exact h1) (by rw [upd_n _ _ (by decide), en 11 (by decide) (by decide)]; exact h2) (by rw [upd_n _ _ (by decide), en 12 (by decide) (by decide)]; exact h3) (by rw [upd_n _ _ (by decide), en 13 (by decide) (by decide)]; exact h4) (by rw [upd_n _ _ (by decide), e22]; exact h5) (by rw [upd_n _ _ (by decide)]; exact h6) (upd_e _ _ _) (by rw [upd_n _ _ (by decide)]; exact h8) (by rw [upd_n _ _ (by decide)]; exact h9) hQ hB2 hcap2 (by rw [en 9 (by decide) (by decide)]; exact ht) (by rw [en 7 (by decide) (by decide)]; exact hp) (by rw [en 0 (by decide) (by decide)]; exact ha) (by rw [en 30 (by decide) (by decide)]; exact hnx) (by omega) (fun τ hτ => ⟨rfl, _, _, by rw [eA]; exact hτ, ?_⟩)
    rw [eA]
    exact Tk_of hT2 (by rw [enS, ntS_ne (by decide), blS_ne (by decide) (by decide)]) (by rw [enS, ntS_ne (by decide), blS_ne (by decide) (by decide)]) (by rw [enS, ntS_ne (by decide), blS_ne (by decide) (by decide)]) (by rw [enS, ntS_ne (by decide), blS_ne (by decide) (by decide)]) (by rw [enS, ntS_ne (by decide), blS_ne (by decide) (by decide)])
