/-! The class: freeProcessors, serve. -/
theorem RepC.ghost {b : Nat} {σ : Mm} {S : Sx} {Tf : Nat → Nat} (h : RepC b σ S Tf) {g i v : Nat} (hz : szC g = 0) (hg : ctl g = false) : RepC b σ (setN S g i v) Tf := by
  have e : ∀ k, ctl k = true → (setN S g i v).1 k = S.1 k := fun k hk => setN_ne (ctl_ne hg hk)
  obtain ⟨h1, h2, h3, h4, h5⟩ := h
  refine ⟨fun g' i' hd hm => ?_, fun g' i' hd hm => ?_, fun p k hp hk => ?_, h4, h5⟩
  · have hm := (dmC_eq (S := S) (by rw [e 0 rfl]) (by rw [e 7 rfl]) (by rw [e 9 rfl]) g' i').mp hm
    rw [setN_at, if_neg (fun z => by rw [z.1, hz] at hd; exact absurd hd (Nat.not_lt_zero _))]
    exact h1 g' i' hd hm
  · exact h2 g' i' hd ((dmV_eq (S := S) (by rw [e 7 rfl]) (by rw [e 9 rfl]) (by rw [e 39 rfl]) g' i').mp hm)
  · rw [e 27 rfl] at hk ⊢
    rw [e 28 rfl]
    rw [e 7 rfl] at hp
    exact h3 p k hp hk
theorem Cq.ghost {b : Nat} {σ0 σ : Mm} {S : Sx} {Tf : Nat → Nat} {A : Nat → Int32} (h : Cq b σ0 S Tf A σ) {g i v : Nat} (hz : szC g = 0) (hg : ctl g = false) : Cq b σ0 (setN S g i v) Tf A σ := ⟨h.1.ghost hz hg, h.2⟩
theorem sz38 : szC 38 = 0 := by decide
theorem sz35 : szC 35 = 0 := by decide
theorem sz36 : szC 36 = 0 := by decide
theorem nI_dec {v : Nat} (h : v < 4) (h0 : 0 < v) : nI v + Int32.ofInt (-1) = nI (v - 1) := by
  have h1 : ∀ v, v < 4 → 0 < v → nI v + Int32.ofInt (-1) = nI (v - 1) := by decide
  exact h1 v h h0
theorem uwS_mono {S : Sx} {a n : Nat} : ∀ k, uwS S a n ≤ uwS S a (n + k) := by
  intro k
  induction k with
  | zero => exact Nat.le_refl _
  | succ k ih => rw [show n + (k + 1) = (n + k) + 1 from rfl, uwS]; omega
theorem cl_free {b : Nat} {σ : Mm} {S : Sx} {Tf : Nat → Nat} {K : Option Value → Mm → Prop} (hb : mch b) (hR : RepC b σ S Tf) (hB : Bd S) {a : Nat} (ha : a < 4) (hU : uwS S a (S.1 9 0) ≤ S.1 1 0) (hK : K (some (.int (nI (S.1 1 0 - uwS S a (S.1 9 0))))) σ) : ∀ k t, t + k = S.1 9 0 → G W0 mX3_freeProcessors K 10 [some (.ref b), some (.int (nI a)), some (.int (nI (S.1 1 0 - uwS S a t))), some (.int (nI t))] [] σ := by
  have bT := B_T hB 0
  have b1 := B_proc hB 0
  intro k
  induction k with
  | zero =>
    intro t ht
    have b29 := B_at hB t
    have b31 := B_toGo hB t
    refine gs_iload_n dX3_freeProcessors_10 rfl rfl ?_
    refine gs_aload_n dX3_freeProcessors_11 rfl rfl ?_
    refine g_getI dX3_freeProcessors_12 fX3_94 (kMa hb) (by decide) (C_T hR) ?_
    refine gt_icmp_ge (tgt := 52) dX3_freeProcessors_15 (by decide) (by omega) (by omega) (by omega) ?_
    refine gs_iload_n dX3_freeProcessors_52 rfl rfl ?_
    refine g_ireturn dX3_freeProcessors_53 rfl ?_
    have e : t = S.1 9 0 := by omega
    rw [e]
    exact hK
  | succ k ih =>
    intro t ht
    have hm := uwS_mono (S := S) (a := a) (n := t + 1) k
    rw [show t + 1 + k = S.1 9 0 by omega, uwS] at hm
    have b29 := B_at hB t
    have b31 := B_toGo hB t
    refine gs_iload_n dX3_freeProcessors_10 rfl rfl ?_
    refine gs_aload_n dX3_freeProcessors_11 rfl rfl ?_
    refine g_getI dX3_freeProcessors_12 fX3_94 (kMa hb) (by decide) (C_T hR) ?_
    refine gf_icmp_ge (tgt := 52) dX3_freeProcessors_15 (by decide) (by omega) (by omega) (by omega) ?_
    refine gs_aload_n dX3_freeProcessors_18 rfl rfl ?_
    refine g_getR dX3_freeProcessors_19 fX3_40 (kMa hb) (by decide) (rMa_workers hb) ?_
    refine gs_iload_n dX3_freeProcessors_22 rfl rfl ?_
    refine g_aald27 dX3_freeProcessors_23 (kMa_workers hb) (show t < 10 by omega) (rWs hb (show t < 10 by omega)) ?_
    refine g_getI dX3_freeProcessors_24 fX3_122 (kWk hb (show t < 10 by omega)) (by decide) (C_at hR (by omega) (by omega)) ?_
    refine gs_iload_n dX3_freeProcessors_27 rfl rfl ?_
    refine gn_icmp_ne (tgt := 46) dX3_freeProcessors_28 (by decide) (by omega) (by omega) (fun c28 => ?_) (fun c28 => ?_)
    · refine gs_iinc (ls' := [_, _, _, _]) dX3_freeProcessors_46 rfl (nI_add _ 1) rfl rfl ?_
      refine g_goto (tgt := 10) dX3_freeProcessors_49 (by decide) ?_
      have q := ih (t + 1) (by omega)
      have e : uwS S a (t + 1) = uwS S a t + 0 := by rw [uwS, if_neg (fun z => c28 z.1)]
      rw [e] at q
      exact q
    · refine gs_aload_n dX3_freeProcessors_31 rfl rfl ?_
      refine g_getR dX3_freeProcessors_32 fX3_40 (kMa hb) (by decide) (rMa_workers hb) ?_
      refine gs_iload_n dX3_freeProcessors_35 rfl rfl ?_
      refine g_aald27 dX3_freeProcessors_36 (kMa_workers hb) (show t < 10 by omega) (rWs hb (show t < 10 by omega)) ?_
      refine g_getI dX3_freeProcessors_37 fX3_153 (kWk hb (show t < 10 by omega)) (by decide) (C_toGo hR (by omega) (by omega)) ?_
      refine gn_if_le (tgt := 46) dX3_freeProcessors_40 (by decide) (by omega) (fun c40 => ?_) (fun c40 => ?_)
      · refine gs_iinc (ls' := [_, _, _, _]) dX3_freeProcessors_46 rfl (nI_add _ 1) rfl rfl ?_
        refine g_goto (tgt := 10) dX3_freeProcessors_49 (by decide) ?_
        have q := ih (t + 1) (by omega)
        have e : uwS S a (t + 1) = uwS S a t + 0 := by rw [uwS, if_neg (fun z => by omega)]
        rw [e] at q
        exact q
      · refine gs_iinc (ls' := [_, _, _, _]) dX3_freeProcessors_43 rfl (nI_dec (by omega) (by rw [if_pos ⟨c28, c40⟩] at hm; omega)) rfl rfl ?_
        refine gs_iinc (ls' := [_, _, _, _]) dX3_freeProcessors_46 rfl (nI_add _ 1) rfl rfl ?_
        refine g_goto (tgt := 10) dX3_freeProcessors_49 (by decide) ?_
        have q := ih (t + 1) (by omega)
        have e : uwS S a (t + 1) = uwS S a t + 1 := by rw [uwS, if_pos ⟨c28, c40⟩]
        rw [e, ← Nat.sub_sub] at q
        exact q
theorem c_free {b : Nat} {σ : Mm} {S : Sx} {Tf : Nat → Nat} (hb : mch b) (hR : RepC b σ S Tf) (hB : Bd S) {a : Nat} (ha : a < 4) (hU : uwS S a (S.1 9 0) ≤ S.1 1 0) : RI W0 mX3_freeProcessors [.ref b, .int (nI a)] σ (fun r τ => r = nI (S.1 1 0 - uwS S a (S.1 9 0)) ∧ τ = σ) := by
  refine G.met (by decide) (Nat.le_of_ble_eq_true rfl) ?_
  show G _ _ _ 0 [some (.ref b), some (.int (nI a)), none, none] [] σ
  refine gs_aload_n dX3_freeProcessors_0 rfl rfl ?_
  refine g_getR dX3_freeProcessors_1 fX3_55 (kMa hb) (by decide) (rMa_board hb) ?_
  refine g_getI dX3_freeProcessors_4 fX3_148 bdW0.1 (by decide) (C_proc hR) ?_
  refine gs_istore_n (ls' := [_, _, _, _]) dX3_freeProcessors_7 rfl rfl rfl ?_
  refine g_iconst (v := nI 0) dX3_freeProcessors_8 (by decide) ?_
  refine gs_istore_n (ls' := [_, _, _, _]) dX3_freeProcessors_9 rfl rfl rfl ?_
  exact cl_free hb hR hB ha hU ⟨_, rfl, rfl, rfl⟩ (S.1 9 0) 0 (by omega)
theorem ulS_q {b : Nat} : ∀ k S h, (ulS b k S h).2.2 = S.2.2 := by
  intro k
  induction k with
  | zero => intro S h; rfl
  | succ k ih =>
    intro S h
    rw [ulS]
    split
    · rfl
    · rw [ih]; rfl
theorem goS_q {S : Sx} {t a x p c wh : Nat} : (goS S t a x p c wh).2.2 = S.2.2 := by
  have e1 : ∀ S : Sx, (fdS S p a).2.2 = S.2.2 := fun S => by
    have e2 : (ft2 S p a).2.2 = S.2.2 := by
      have e2 : (kfS (ft1 S p) p a).2 = (ft1 S p).2 := by unfold kfS; split <;> rfl
      rw [ft2, e2]; rfl
    unfold fdS
    split
    · rfl
    · unfold ftS
      split
      · exact e2
      · exact e2
  have e3 : ∀ S : Sx, (acS S t p c x).2.2 = S.2.2 := fun S => by unfold acS; split <;> rfl
  have e4 : ∀ S : Sx, (cqS S p a x).2.2 = S.2.2 := fun S => by
    unfold cqS
    split
    · rw [cpS_2]
    · rfl
  have e5 : ∀ (S : Sx) by0 df dm, (ntS S t a x wh by0 df dm).2.2 = S.2.2 := fun S by0 df dm => by unfold ntS; split <;> rfl
  unfold goS enS
  rw [e5]
  show (cqS _ p a x).2.2 = _
  rw [e4, e3, e1, ulS_q]
theorem rdyS_q {S : Sx} {t a x p c : Nat} : (rdyS S t a x p c).2.2 = S.2.2 := by
  unfold rdyS
  split
  · rfl
  · split
    · rfl
    · exact goS_q
theorem tryS_q {S : Sx} {t : Nat} : (tryS S t).2.2 = S.2.2 := by
  unfold tryS tryA
  split
  · rfl
  · split
    · split
      · rfl
      · rw [rdyS_q]; rfl
    · exact rdyS_q
theorem getD_mem {l : List Nat} {i : Nat} (h : i < l.length) : l.getD i 0 ∈ l := by
  rw [show l.getD i 0 = l[i] from by simp [List.getD, h]]
  exact List.getElem_mem h
theorem drop_c {l : List Nat} {i : Nat} (h : i < l.length) : l.drop i = l.getD i 0 :: l.drop (i + 1) := by
  rw [List.drop_eq_getElem_cons h]
  congr 1
  simp [List.getD, h]
theorem cl_serve {b : Nat} {σ0 : Mm} {K : Option Value → Mm → Prop} (hb : mch b) {a : Nat} (ha : a < 4) : ∀ k i f S Tf At σ, i + k = (S.2.2 a).length → Cq b σ0 S Tf At σ → Tk S Tf → Tc b S k → (∀ u, u ∈ S.2.2 a → u < S.1 9 0) → f < 4 → (∀ τ Tf' At', Cq b σ0 (scS ((S.2.2 a).drop i) f S) Tf' At' τ → Tk (scS ((S.2.2 a).drop i) f S) Tf' → K none τ) → G W0 mX3_serve K 8 [some (.ref b), some (.int (nI a)), some (.int (nI f)), some (.int (nI i)), none] [] σ := by
  intro k
  induction k with
  | zero =>
    intro i f S Tf At σ hi hQ hT hTc hq hf hK
    have hB := hTc.1.1.1
    have hR := hQ.1
    have hl := (hR.2.2.2.2 a ha).1
    refine gs_iload_n dX3_serve_8 rfl rfl ?_
    refine gs_aload_n dX3_serve_9 rfl rfl ?_
    refine g_getR dX3_serve_10 fX3_12 (kMa hb) (by decide) (rMa_queues hb) ?_
    refine g_getR dX3_serve_13 fX3_191 (kMa_queues hb) (by decide) (rQu_size hb) ?_
    refine gs_iload_n dX3_serve_16 rfl rfl ?_
    refine g_iald dX3_serve_17 (kQu_size hb) ha (hR.2.2.2.2 a ha).2.1 ?_
    refine gt_icmp_ge (tgt := 67) dX3_serve_18 (by decide) (by omega) (by omega) (by omega) ?_
    refine g_return dX3_serve_67 rfl ?_
    have e : scS ((S.2.2 a).drop i) f S = S := by rw [List.drop_eq_nil_of_le (by omega)]; rfl
    exact hK σ Tf At (by rw [e]; exact hQ) (by rw [e]; exact hT)
  | succ k ih =>
    intro i f S Tf At σ hik hQ hT hTc hq hf hK
    have hB := hTc.1.1.1
    have hR := hQ.1
    have hl := (hR.2.2.2.2 a ha).1
    have bT := B_T hB 0
    have hi : i < (S.2.2 a).length := by omega
    refine gs_iload_n dX3_serve_8 rfl rfl ?_
    refine gs_aload_n dX3_serve_9 rfl rfl ?_
    refine g_getR dX3_serve_10 fX3_12 (kMa hb) (by decide) (rMa_queues hb) ?_
    refine g_getR dX3_serve_13 fX3_191 (kMa_queues hb) (by decide) (rQu_size hb) ?_
    refine gs_iload_n dX3_serve_16 rfl rfl ?_
    refine g_iald dX3_serve_17 (kQu_size hb) ha (hR.2.2.2.2 a ha).2.1 ?_
    refine gf_icmp_ge (tgt := 67) dX3_serve_18 (by decide) (by omega) (by omega) (by omega) ?_
    refine gs_iload_n dX3_serve_21 rfl rfl ?_
    refine gn_if_le (tgt := 67) dX3_serve_22 (by decide) (by omega) (fun c22 => ?_) (fun c22 => ?_)
    · refine g_return dX3_serve_67 rfl ?_
      have e : scS ((S.2.2 a).drop i) f S = S := by rw [drop_c hi, scS, if_pos c22]
      exact hK σ Tf At (by rw [e]; exact hQ) (by rw [e]; exact hT)
    · refine gs_aload_n dX3_serve_25 rfl rfl ?_
      refine g_getR dX3_serve_26 fX3_12 (kMa hb) (by decide) (rMa_queues hb) ?_
      refine gs_iload_n dX3_serve_29 rfl rfl ?_
      refine gs_iload_n dX3_serve_30 rfl rfl ?_
      refine g_cVI2 dX3_serve_31 vX3_194 (by decide) (kMa_queues hb) (by decide) (Nat.le_of_ble_eq_true rfl) (c_at hb hR hB ha hi) ?_
      rintro _ σ ⟨rfl, e9⟩
      subst e9
      obtain ⟨t, et⟩ : ∃ t, t = (S.2.2 a).getD i 0 := ⟨_, rfl⟩
      rw [← et]
      have htT : t < S.1 9 0 := hq t (by rw [et]; exact getD_mem hi)
      have h10 : t < 10 := by omega
      refine gs_istore (ls' := [_, _, _, _, _]) dX3_serve_34 rfl rfl ?_
      refine gs_aload_n dX3_serve_36 rfl rfl ?_
      refine g_getR dX3_serve_37 fX3_40 (kMa hb) (by decide) (rMa_workers hb) ?_
      refine g_iload dX3_serve_40 rfl ?_
      refine g_aald27 dX3_serve_42 (kMa_workers hb) h10 (rWs hb h10) ?_
      refine g_cVI0 dX3_serve_43 vX3_198 (by decide) (kWk hb h10) (by decide) (Nat.le_of_ble_eq_true rfl) (c_isReady hb hR hB htT (hTc.1.2.2.2.2 t)) ?_
      rintro _ σ ⟨rfl, e9⟩
      subst e9
      refine gb_if_eq (tgt := 61) dX3_serve_46 (by decide) (fun c46 => ?_) (fun c46 => ?_)
      · refine gs_iinc (ls' := [_, _, _, _, _]) dX3_serve_61 rfl (nI_add _ 1) rfl rfl ?_
        refine g_goto (tgt := 8) dX3_serve_64 (by decide) ?_
        refine G.drop 4 (ls' := [_, _, _, _, none]) rfl ?_
        have e : scS ((S.2.2 a).drop i) f S = scS ((S.2.2 a).drop (i + 1)) f S := by rw [drop_c hi, scS, if_neg (by omega), ← et, if_neg (by rw [c46]; decide)]
        rw [e] at hK
        exact ih (i + 1) f S Tf At σ (by omega) hQ hT (hTc.mono (by omega)) hq hf hK
      · refine gs_aload_n dX3_serve_49 rfl rfl ?_
        refine g_iload dX3_serve_50 rfl ?_
        refine g_cVI1 dX3_serve_52 vX3_201 (by decide) (kMa hb) (by decide) (Nat.le_of_ble_eq_true rfl) (c_goes (S := setN S 38 t 1) hb (hR.ghost sz38 rfl) (Bd_setN hB (Nat.le_refl _)) (Tk_of hT rfl rfl rfl rfl rfl) (Ic_38 hTc.1 (Nat.le_refl _)) hTc.2.1 htT c46 (fun i => by have := hTc.2.2.1 i; show S.1 33 i ≤ 900; omega) (by have := hTc.2.2.2; show S.1 23 0 < _; omega)) ?_
        rintro _ σ ⟨Tf9, A9, rfl, hQ9, hT9⟩
        have hQ := hQ.tr hQ9
        have hR := hQ.1
        refine gb_if_eq (tgt := 61) dX3_serve_55 (by decide) (fun c55 => ?_) (fun c55 => ?_)
        · refine gs_iinc (ls' := [_, _, _, _, _]) dX3_serve_61 rfl (nI_add _ 1) rfl rfl ?_
          refine g_goto (tgt := 8) dX3_serve_64 (by decide) ?_
          refine G.drop 4 (ls' := [_, _, _, _, none]) rfl ?_
          have e : scS ((S.2.2 a).drop i) f S = scS ((S.2.2 a).drop (i + 1)) f (tryS (setN S 38 t 1) t) := by rw [drop_c hi, scS, if_neg (by omega), ← et, if_pos c46, if_neg (of_decide_eq_false c55)]
          have eq : (tryS (setN S 38 t 1) t).2.2 = S.2.2 := tryS_q
          have e9 : (tryS (setN S 38 t 1) t).1 9 = S.1 9 := by rw [tryS_ne rfl, setN_ne (by decide)]
          rw [e] at hK
          refine ih (i + 1) f (tryS (setN S 38 t 1) t) Tf9 A9 σ (by rw [eq]; omega) hQ hT9 (hTc.step hb (rdS_spec c46).2.2) (by rw [eq, e9]; exact hq) (by omega) (by rw [eq]; exact hK)
        · refine gs_iinc (ls' := [_, _, _, _, _]) dX3_serve_58 rfl (nI_dec (by omega) (by omega)) rfl rfl ?_
          refine gs_iinc (ls' := [_, _, _, _, _]) dX3_serve_61 rfl (nI_add _ 1) rfl rfl ?_
          refine g_goto (tgt := 8) dX3_serve_64 (by decide) ?_
          refine G.drop 4 (ls' := [_, _, _, _, none]) rfl ?_
          have e : scS ((S.2.2 a).drop i) f S = scS ((S.2.2 a).drop (i + 1)) (f - 1) (tryS (setN S 38 t 1) t) := by rw [drop_c hi, scS, if_neg (by omega), ← et, if_pos c46, if_pos (of_decide_eq_true c55)]
          have eq : (tryS (setN S 38 t 1) t).2.2 = S.2.2 := tryS_q
          have e9 : (tryS (setN S 38 t 1) t).1 9 = S.1 9 := by rw [tryS_ne rfl, setN_ne (by decide)]
          rw [e] at hK
          refine ih (i + 1) (f - 1) (tryS (setN S 38 t 1) t) Tf9 A9 σ (by rw [eq]; omega) hQ hT9 (hTc.step hb (rdS_spec c46).2.2) (by rw [eq, e9]; exact hq) (by omega) (by rw [eq]; exact hK)
theorem c_serve {b : Nat} {σ : Mm} {S : Sx} {Tf : Nat → Nat} (hb : mch b) (hR : RepC b σ S Tf) (hB : Bd S) (hT : Tk S Tf) {a : Nat} (ha : a < 4) (hTc : Tc b S 10) (hq : ∀ u, u ∈ S.2.2 a → u < S.1 9 0) (hU : uwS S a (S.1 9 0) ≤ S.1 1 0) : RV W0 mX3_serve [.ref b, .int (nI a)] σ (fun τ => ∃ Tf' A', Cq b σ (scS (S.2.2 a) (S.1 1 0 - uwS S a (S.1 9 0)) S) Tf' A' τ ∧ Tk (scS (S.2.2 a) (S.1 1 0 - uwS S a (S.1 9 0)) S) Tf') := by
  have hl := (hR.2.2.2.2 a ha).1
  have b1 := B_proc hB 0
  refine G.met (by decide) (Nat.le_of_ble_eq_true rfl) ?_
  show G _ _ _ 0 [some (.ref b), some (.int (nI a)), none, none, none] [] σ
  refine gs_aload_n dX3_serve_0 rfl rfl ?_
  refine gs_iload_n dX3_serve_1 rfl rfl ?_
  refine g_cVI1 dX3_serve_2 vX3_188 (by decide) (kMa hb) (by decide) (Nat.le_of_ble_eq_true rfl) (c_free hb hR hB ha hU) ?_
  rintro _ σ ⟨rfl, e9⟩
  subst e9
  refine gs_istore_n (ls' := [_, _, _, _, _]) dX3_serve_5 rfl rfl rfl ?_
  refine g_iconst (v := nI 0) dX3_serve_6 (by decide) ?_
  refine gs_istore_n (ls' := [_, _, _, _, _]) dX3_serve_7 rfl rfl rfl ?_
  exact cl_serve hb ha (S.2.2 a).length 0 _ S Tf _ σ (by omega) (Cq.rf hR) hT (hTc.mono (by omega)) hq (by omega) (fun τ Tf' A' q1 q2 => ⟨rfl, Tf', A', q1, q2⟩)
