/-! The class: exchange, finishAccesses, hidePages, openTick. -/
theorem getD_set {l : List Nat} {p v j : Nat} (hp : p < l.length) : (l.set p v).getD j 0 = if j = p then v else l.getD j 0 := by
  by_cases e : j = p
  · subst e; rw [if_pos rfl]; simp [List.getD, hp]
  · rw [if_neg e]; simp [List.getD, List.getElem?_set_ne (Ne.symm e)]
theorem Cq.setO {b : Nat} {σ0 σ : Mm} {S : Sx} {Tf : Nat → Nat} {A : Nat → Int32} (hQ : Cq b σ0 S Tf A σ) (hb : mch b) (hB : Bd S) {a p v : Nat} (ha : a < 4) (hp : p < (S.2.2 a).length) : Cq b σ0 (setQ S a ((S.2.2 a).set p v)) Tf A (wI σ (b + 2) (a * 10 + p) (nI v)) := by
  obtain ⟨q1, q2, q3⟩ := hQ.1.2.2.2.2 a ha
  refine hQ.q hb hB (fun x z1 z2 => ?_) (by rfl) (cQu_one hQ.1.2.2.2.2 ha (by rw [List.length_set]; exact q1) (fun j hj => ?_) ?_ (fun j hj => ?_) (fun j hj => ?_))
  · funext k; rw [wI_at, if_neg (by omega)]
  · rw [wI_at, if_neg (by omega)]
  · rw [wI_at, if_neg (by omega), List.length_set]; exact q2
  · rw [wI_at, if_neg (by omega)]
  · rw [List.length_set] at hj
    rw [wI_at, getD_set hp]
    by_cases e : j = p
    · subst e; rw [if_pos ⟨rfl, rfl⟩, if_pos rfl]
    · rw [if_neg (by omega), if_neg e, Nat.mul_comm]; exact q3 j hj
/-- two threads change their places in the queues -/
def xqS (S : Sx) (na pa nb pb u v : Nat) : Sx := setQ (setQ S na ((S.2.2 na).set pa v)) nb (((setQ S na ((S.2.2 na).set pa v)).2.2 nb).set pb u)
theorem setQ_len {S : Sx} {a p v c : Nat} : ((setQ S a ((S.2.2 a).set p v)).2.2 c).length = (S.2.2 c).length := by
  show (if c = a then (S.2.2 a).set p v else S.2.2 c).length = _
  split
  · next e => rw [List.length_set, e]
  · rfl
theorem c_exchange {b : Nat} {σ : Mm} {S : Sx} {Tf : Nat → Nat} (hb : mch b) (hR : RepC b σ S Tf) (hB : Bd S) {na nb u v pa pb : Nat} (ha : na < 4) (hb4 : nb < 4) (hu : u < 100) (hv : v < 100) (hqa : ∀ i, (S.2.2 na).getD i 0 < 100) (hqb : ∀ i, (S.2.2 nb).getD i 0 < 100) (hpa : poS (S.2.2 na) u = some pa) (hpb : poS (S.2.2 nb) v = some pb) : RV W0 mX5_exchange [.ref (b + 1), .int (nI na), .int (nI u), .int (nI nb), .int (nI v)] σ (fun τ => Cq b σ (xqS S na pa nb pb u v) Tf (σ.1 (b + 5)) τ) := by
  have hla := (hR.2.2.2.2 na ha).1
  have hlb := (hR.2.2.2.2 nb hb4).1
  have g1 := (poS_some hpa).1
  have g2 := (poS_some hpb).1
  have hpo1 := c_placeOf hb hR hB ha hu hqa
  rw [hpa] at hpo1
  have hpo1 : RI W0 mX5_placeOf [.ref (b + 1), .int (nI na), .int (nI u)] σ (fun r τ => r = nI pa ∧ τ = σ) := hpo1
  have hpo2 := c_placeOf hb hR hB hb4 hv hqb
  rw [hpb] at hpo2
  have hpo2 : RI W0 mX5_placeOf [.ref (b + 1), .int (nI nb), .int (nI v)] σ (fun r τ => r = nI pb ∧ τ = σ) := hpo2
  refine G.met (by decide) (Nat.le_of_ble_eq_true rfl) ?_
  show G _ _ _ 0 [some (.ref (b + 1)), some (.int (nI na)), some (.int (nI u)), some (.int (nI nb)), some (.int (nI v)), none, none] [] σ
  refine gs_aload_n dX5_exchange_0 rfl rfl ?_
  refine gs_iload_n dX5_exchange_1 rfl rfl ?_
  refine gs_iload_n dX5_exchange_2 rfl rfl ?_
  refine g_cVI2 dX5_exchange_3 vX5_28 (by decide) (kMa_queues hb) (by decide) (Nat.le_of_ble_eq_true rfl) hpo1 ?_
  rintro _ σ ⟨rfl, e9⟩
  subst e9
  refine gs_istore (ls' := [_, _, _, _, _, _, _]) dX5_exchange_6 rfl rfl ?_
  refine gs_aload_n dX5_exchange_8 rfl rfl ?_
  refine gs_iload_n dX5_exchange_9 rfl rfl ?_
  refine g_iload dX5_exchange_10 rfl ?_
  refine g_cVI2 dX5_exchange_12 vX5_28 (by decide) (kMa_queues hb) (by decide) (Nat.le_of_ble_eq_true rfl) hpo2 ?_
  rintro _ σ ⟨rfl, e9⟩
  subst e9
  refine gs_istore (ls' := [_, _, _, _, _, _, _]) dX5_exchange_15 rfl rfl ?_
  refine g_iload dX5_exchange_17 rfl ?_
  refine g_iconst (v := -1) dX5_exchange_19 (by decide) ?_
  refine rf_icmp_eq (tgt := 29) dX5_exchange_20 (by decide) (nI_ne1 (by omega)) ?_
  refine g_iload dX5_exchange_23 rfl ?_
  refine g_iconst (v := -1) dX5_exchange_25 (by decide) ?_
  refine rt_icmp_ne (tgt := 30) dX5_exchange_26 (by decide) (nI_ne1 (by omega)) ?_
  refine gs_aload_n dX5_exchange_30 rfl rfl ?_
  refine g_getR dX5_exchange_31 fX5_9 (kMa_queues hb) (by decide) (rQu_order hb) ?_
  refine gs_iload_n dX5_exchange_34 rfl rfl ?_
  refine g_bipush (v := nI 10) dX5_exchange_35 (by decide) ?_
  refine g_imul dX5_exchange_37 (by first | exact pk_mul _ _ | rfl) ?_
  refine g_iload dX5_exchange_38 rfl ?_
  refine g_iadd dX5_exchange_40 (by first | exact nI_add _ _ | rfl) ?_
  refine g_iload dX5_exchange_41 rfl ?_
  refine gc_iast dX5_exchange_43 (kQu_order hb) (by omega) ((Cq.rf hR).setO hb hB ha g1) (fun σ hQ => ?_)
  have hR := hQ.1
  refine gs_aload_n dX5_exchange_44 rfl rfl ?_
  refine g_getR dX5_exchange_45 fX5_9 (kMa_queues hb) (by decide) (rQu_order hb) ?_
  refine gs_iload_n dX5_exchange_48 rfl rfl ?_
  refine g_bipush (v := nI 10) dX5_exchange_49 (by decide) ?_
  refine g_imul dX5_exchange_51 (by first | exact pk_mul _ _ | rfl) ?_
  refine g_iload dX5_exchange_52 rfl ?_
  refine g_iadd dX5_exchange_54 (by first | exact nI_add _ _ | rfl) ?_
  refine gs_iload_n dX5_exchange_55 rfl rfl ?_
  refine gc_iast dX5_exchange_56 (kQu_order hb) (by omega) (hQ.setO hb hB hb4 (by rw [setQ_len]; exact g2)) (fun σ hQ => ?_)
  have hR := hQ.1
  refine g_return dX5_exchange_57 rfl ?_
  exact ⟨rfl, hQ⟩
theorem hd1 {S : Sx} (hB : Bd S) {p : Nat} (hz : S.1 24 p = 0) : hdL S (p + 1) = hdL S p := by
  have b26 := B_hidden hB p
  have e26 := hdL_26 (S := S) p p (Nat.le_refl _)
  rw [hdL]
  have e : (if S.1 26 p = 1 ∨ 0 < S.1 24 p then 1 else 0) = (hdL S p).1 26 p := by
    rw [e26]
    by_cases h1 : S.1 26 p = 1
    · rw [if_pos (Or.inl h1), h1]
    · rw [if_neg (by omega)]; omega
  rw [e, setN_self]
theorem cl_hide {b : Nat} {σ0 : Mm} {S : Sx} {Tf : Nat → Nat} {A : Nat → Int32} {K : Option Value → Mm → Prop} (hb : mch b) (hB : Bd S) (hK : ∀ τ, Cq b σ0 (hdL S (S.1 7 0)) Tf A τ → K none τ) : ∀ k p σ, p + k = S.1 7 0 → Cq b σ0 (hdL S p) Tf A σ → G W0 mX3_hidePages K 2 [some (.ref b), some (.int (nI p))] [] σ := by
  have bP := B_P hB 0
  intro k
  induction k with
  | zero =>
    intro p σ hp hQ
    have hR := hQ.1
    have hBp := hdL_Bd hB p
    have e7 : (hdL S p).1 7 0 = S.1 7 0 := by rw [hdL_ne (by decide)]
    have e : p = S.1 7 0 := by omega
    refine gs_iload_n dX3_hidePages_2 rfl rfl ?_
    refine gs_aload_n dX3_hidePages_3 rfl rfl ?_
    refine g_getI dX3_hidePages_4 fX3_91 (kMa hb) (by decide) (show _ = nI (S.1 7 0) from by rw [← e7]; exact C_P hR) ?_
    refine gt_icmp_ge (tgt := 39) dX3_hidePages_7 (by decide) (by omega) (by omega) (by omega) ?_
    refine g_return dX3_hidePages_39 rfl ?_
    rw [e] at hQ
    exact hK σ hQ
  | succ k ih =>
    intro p σ hp hQ
    have hR := hQ.1
    have hBp := hdL_Bd hB p
    have e7 : (hdL S p).1 7 0 = S.1 7 0 := by rw [hdL_ne (by decide)]
    have e24 : (hdL S p).1 24 p = S.1 24 p := by rw [hdL_ne (by decide)]
    have b24 := B_lies hB p
    have h20 : p < 20 := by omega
    refine gs_iload_n dX3_hidePages_2 rfl rfl ?_
    refine gs_aload_n dX3_hidePages_3 rfl rfl ?_
    refine g_getI dX3_hidePages_4 fX3_91 (kMa hb) (by decide) (show _ = nI (S.1 7 0) from by rw [← e7]; exact C_P hR) ?_
    refine gf_icmp_ge (tgt := 39) dX3_hidePages_7 (by decide) (by omega) (by omega) (by omega) ?_
    refine gs_aload_n dX3_hidePages_10 rfl rfl ?_
    refine g_getR dX3_hidePages_11 fX3_34 (kMa hb) (by decide) (rMa_pages hb) ?_
    refine gs_iload_n dX3_hidePages_14 rfl rfl ?_
    refine g_aald24 dX3_hidePages_15 (kMa_pages hb) h20 (rPs hb h20) ?_
    refine g_getI dX3_hidePages_16 fX3_170 (kPg hb h20) (by decide) (show _ = lzC (S.1 24 p) from by rw [← e24]; exact C_lies hR h20 (by omega)) ?_
    refine g_iconst (v := -1) dX3_hidePages_19 (by decide) ?_
    refine g_icmp_eq (tgt := 33) dX3_hidePages_20 (by decide) (fun c20 => ?_) (fun c20 => ?_)
    · refine gs_iinc (ls' := [_, _]) dX3_hidePages_33 rfl (nI_add _ 1) rfl rfl ?_
      refine g_goto (tgt := 2) dX3_hidePages_36 (by decide) ?_
      rw [← hd1 hB (lzC_z b24 c20)] at hQ
      exact ih (p + 1) σ (by omega) hQ
    · refine gs_aload_n dX3_hidePages_23 rfl rfl ?_
      refine g_getR dX3_hidePages_24 fX3_34 (kMa hb) (by decide) (rMa_pages hb) ?_
      refine gs_iload_n dX3_hidePages_27 rfl rfl ?_
      refine g_aald24 dX3_hidePages_28 (kMa_pages hb) h20 (rPs hb h20) ?_
      refine g_iconst (v := nI 1) dX3_hidePages_29 (by decide) ?_
      refine gc_putI dX3_hidePages_30 pX3_207 (kPg hb h20) (by decide) (Or.inr ⟨rfl, by first | exact bI_01 _ | decide⟩) (D_hidden hQ hb hBp h20 (v := 1)) (fun σ hQ => ?_)
      have hR := hQ.1
      refine gs_iinc (ls' := [_, _]) dX3_hidePages_33 rfl (nI_add _ 1) rfl rfl ?_
      refine g_goto (tgt := 2) dX3_hidePages_36 (by decide) ?_
      have hz : 0 < S.1 24 p := by
        rcases Nat.eq_zero_or_pos (S.1 24 p) with e | e
        · exact absurd (by rw [e]; rfl) c20
        · exact e
      have e : setN (hdL S p) 26 p 1 = hdL S (p + 1) := by rw [hdL, if_pos (Or.inr hz)]
      rw [e] at hQ
      exact ih (p + 1) σ (by omega) hQ
theorem c_hide {b : Nat} {σ : Mm} {S : Sx} {Tf : Nat → Nat} (hb : mch b) (hR : RepC b σ S Tf) (hB : Bd S) : RV W0 mX3_hidePages [.ref b] σ (fun τ => Cq b σ (hdL S (S.1 7 0)) Tf (σ.1 (b + 5)) τ) := by
  refine G.met (by decide) (Nat.le_of_ble_eq_true rfl) ?_
  show G _ _ _ 0 [some (.ref b), none] [] σ
  refine g_iconst (v := nI 0) dX3_hidePages_0 (by decide) ?_
  refine gs_istore_n (ls' := [_, _]) dX3_hidePages_1 rfl rfl rfl ?_
  exact cl_hide hb hB (fun τ q => ⟨rfl, q⟩) (S.1 7 0) 0 σ (by omega) (Cq.rf hR)
theorem Cq_ln {b : Nat} {σ0 σ : Mm} {S : Sx} {Tf : Nat → Nat} {A : Nat → Int32} (hQ : Cq b σ0 S Tf A σ) (hb : mch b) (hB : Bd S) : ∀ n, n ≤ 16 → Cq b σ0 (lnL S n) Tf A (flI σ (b + 13) n (nI 0)) := by
  intro n
  induction n with
  | zero => intro _; rw [flI_0]; exact hQ
  | succ n ih =>
    intro hn
    rw [← flI_s, lnL]
    exact D_linkNow (ih (by omega)) hb (lnL_Bd hB n) (by omega)
theorem Cq_tr {b : Nat} {σ0 σ : Mm} {S : Sx} {Tf : Nat → Nat} {A : Nat → Int32} (hQ : Cq b σ0 S Tf A σ) : ∀ n, Cq b σ0 (trL S n) Tf A σ := by
  intro n
  induction n with
  | zero => exact hQ
  | succ n ih => rw [trL]; exact ih.ghost sz38 rfl
theorem c_openTick {b : Nat} {σ : Mm} {S : Sx} {Tf : Nat → Nat} (hb : mch b) (hR : RepC b σ S Tf) (hB : Bd S) : RV W0 mX9_openTick [.ref (b + 10)] σ (fun τ => Cq b σ (lnL S 16) Tf (σ.1 (b + 5)) τ) := by
  refine G.met (by decide) (Nat.le_of_ble_eq_true rfl) ?_
  show G _ _ _ 0 [some (.ref (b + 10))] [] σ
  refine gs_aload_n dX9_openTick_0 rfl rfl ?_
  refine g_getR dX9_openTick_1 fX9_18 (kMa_traffic hb) (by decide) (rTr_inTick hb) ?_
  refine g_iconst (v := nI 0) dX9_openTick_4 (by decide) ?_
  refine g_cSV2 dX9_openTick_5 vX9_25 (by decide) (Nat.le_of_ble_eq_true rfl) (s_fill (kTr_inTick hb) (by decide)) ?_
  rintro _ rfl
  refine g_return dX9_openTick_8 rfl ?_
  exact ⟨rfl, Cq_ln (Cq.rf hR) hb hB 16 (Nat.le_refl _)⟩
/-- the queues: who is on a node, by stamps -/
def Qi (S : Sx) : Prop := (∀ a, a < 4 → (∀ u, u ∈ S.2.2 a ↔ (u < S.1 9 0 ∧ S.1 29 u = a)) ∧ (S.2.2 a).Pairwise (fun u v => S.1 35 u < S.1 35 v)) ∧ ∀ u, u < S.1 9 0 → S.1 35 u < S.1 36 0
theorem Qi_nodup {S : Sx} (h : Qi S) {a : Nat} (ha : a < 4) : (S.2.2 a).Nodup := by
  refine List.Pairwise.imp ?_ (h.1 a ha).2
  intro u v q e
  rw [e] at q
  exact Nat.lt_irrefl _ q
theorem Qi_of {S S' : Sx} (h : Qi S) (h9 : S'.1 9 = S.1 9) (h29 : S'.1 29 = S.1 29) (h35 : S'.1 35 = S.1 35) (h36 : S'.1 36 = S.1 36) (hq : S'.2.2 = S.2.2) : Qi S' := by
  unfold Qi
  rw [h9, h29, h35, h36, hq]
  exact h
theorem Qi_rq {S : Sx} (h : Qi S) {t : Nat} (ht : t < S.1 9 0) (hat : ∀ u, S.1 29 u < 4) : Qi (rqS (setN (setN S 35 t (S.1 36 0)) 36 0 (S.1 36 0 + 1)) t) := by
  have e9 : (rqS (setN (setN S 35 t (S.1 36 0)) 36 0 (S.1 36 0 + 1)) t).1 9 = S.1 9 := by show (setN (setN S 35 t (S.1 36 0)) 36 0 (S.1 36 0 + 1)).1 9 = _; rw [setN_ne (by decide), setN_ne (by decide)]
  have e29 : (rqS (setN (setN S 35 t (S.1 36 0)) 36 0 (S.1 36 0 + 1)) t).1 29 = S.1 29 := by show (setN (setN S 35 t (S.1 36 0)) 36 0 (S.1 36 0 + 1)).1 29 = _; rw [setN_ne (by decide), setN_ne (by decide)]
  have e36 : (rqS (setN (setN S 35 t (S.1 36 0)) 36 0 (S.1 36 0 + 1)) t).1 36 0 = S.1 36 0 + 1 := by show (setN (setN S 35 t (S.1 36 0)) 36 0 (S.1 36 0 + 1)).1 36 0 = _; rw [setN_at, if_pos ⟨rfl, rfl⟩]
  have e35 : ∀ u, (rqS (setN (setN S 35 t (S.1 36 0)) 36 0 (S.1 36 0 + 1)) t).1 35 u = if u = t then S.1 36 0 else S.1 35 u := fun u => by
    show (setN (setN S 35 t (S.1 36 0)) 36 0 (S.1 36 0 + 1)).1 35 u = _
    rw [setN_ne (by decide), setN_at]
    by_cases e : u = t
    · rw [if_pos ⟨rfl, e⟩, if_pos e]
    · rw [if_neg (fun z => e z.2), if_neg e]
  have eq : ∀ a, (rqS (setN (setN S 35 t (S.1 36 0)) 36 0 (S.1 36 0 + 1)) t).2.2 a = if a = S.1 29 t then (S.2.2 (S.1 29 t)).erase t ++ [t] else S.2.2 a := fun a => rfl
  refine ⟨fun a ha => ?_, fun u hu => ?_⟩
  · obtain ⟨m1, m2⟩ := h.1 a ha
    rw [eq, e9, e29]
    by_cases e : a = S.1 29 t
    · rw [if_pos e]
      have hn := Qi_nodup h ha
      rw [e] at m1 m2 hn
      refine ⟨fun u => ?_, ?_⟩
      · rw [List.mem_append, List.mem_singleton, e]
        constructor
        · rintro (q | q)
          · exact (m1 u).mp (List.mem_of_mem_erase q)
          · rw [q]; exact ⟨ht, rfl⟩
        · intro q
          by_cases eu : u = t
          · exact Or.inr eu
          · exact Or.inl ((List.mem_erase_of_ne eu).mpr ((m1 u).mpr q))
      · refine List.pairwise_append.mpr ⟨?_, List.pairwise_singleton _ _, fun u hu v hv => ?_⟩
        · refine List.Pairwise.imp_of_mem ?_ (m2.sublist List.erase_sublist)
          intro u v hu hv q
          rw [e35, e35, if_neg (fun z => by rw [z] at hu; exact hn.not_mem_erase hu), if_neg (fun z => by rw [z] at hv; exact hn.not_mem_erase hv)]
          exact q
        · rw [List.mem_singleton] at hv
          rw [e35, e35, hv, if_neg (fun z => by rw [z] at hu; exact hn.not_mem_erase hu), if_pos rfl]
          exact h.2 u ((m1 u).mp (List.mem_of_mem_erase hu)).1
    · rw [if_neg e]
      refine ⟨m1, List.Pairwise.imp_of_mem ?_ m2⟩
      intro u v hu hv q
      rw [e35, e35, if_neg (fun z => e (by rw [← z]; exact ((m1 u).mp hu).2.symm)), if_neg (fun z => e (by rw [← z]; exact ((m1 v).mp hv).2.symm))]
      exact q
  · rw [e9] at hu
    rw [e35, e36]
    split
    · omega
    · have := h.2 u hu; omega
theorem fn1_1 {S : Sx} {t : Nat} (h1 : S.1 31 t = 1) : fn1 S t = rqS (setN (setN (setN S 31 t 0) 35 t (S.1 36 0)) 36 0 (S.1 36 0 + 1)) t := by
  rw [fn1, if_neg (by omega), if_pos h1]
theorem Qi_fn1 {S : Sx} (h : Qi S) {t : Nat} (ht : t < S.1 9 0) (hat : ∀ u, S.1 29 u < 4) : Qi (fn1 S t) := by
  by_cases h0 : S.1 31 t = 0
  · rw [fn1, if_pos h0]; exact h
  · by_cases h1 : S.1 31 t = 1
    · rw [fn1_1 h1]
      exact Qi_rq (S := setN S 31 t 0) (Qi_of h (setN_ne (by decide)) (setN_ne (by decide)) (setN_ne (by decide)) (setN_ne (by decide)) rfl) ht hat
    · rw [fn1, if_neg h0, if_neg h1]
      exact Qi_of h (setN_ne (by decide)) (setN_ne (by decide)) (setN_ne (by decide)) (setN_ne (by decide)) rfl
theorem Qi_fnL {S : Sx} (h : Qi S) (hat : ∀ u, S.1 29 u < 4) : ∀ t, t ≤ S.1 9 0 → Qi (fnL S t) := by
  intro t
  induction t with
  | zero => intro _; exact h
  | succ t ih =>
    intro ht
    rw [fnL]
    exact Qi_fn1 (ih (by omega)) (by rw [fnL_ne (by decide) (by decide) (by decide)]; omega) (fun u => by rw [fnL_ne (by decide) (by decide) (by decide)]; exact hat u)
theorem Qi_lt {S : Sx} (h : Qi S) (hB : Bd S) {a : Nat} (ha : a < 4) (i : Nat) : (S.2.2 a).getD i 0 < 100 := by
  have bT := B_T hB 0
  by_cases hi : i < (S.2.2 a).length
  · have := ((h.1 a ha).1 _).mp (getD_mem hi)
    omega
  · rw [List.getD, List.getElem?_eq_none (by omega)]; decide
theorem setQ_setQ (S : Sx) (a : Nat) (l m : List Nat) : setQ (setQ S a l) a m = setQ S a m := by
  refine Prod.ext rfl (Prod.ext rfl ?_)
  funext x
  show (if x = a then m else (if x = a then l else S.2.2 x)) = if x = a then m else S.2.2 x
  split <;> rfl
theorem setQ_at (S : Sx) (a : Nat) (l : List Nat) : (setQ S a l).2.2 a = l := if_pos rfl
theorem fnL_31 {S : Sx} {t : Nat} : ∀ k, k ≤ t → (fnL S k).1 31 t = S.1 31 t := by
  intro k
  induction k with
  | zero => intro _; rfl
  | succ k ih =>
    intro hk
    rw [fnL, ← ih (by omega)]
    unfold fn1
    split
    · rfl
    · split
      · show (setN (setN (setN (fnL S k) 31 k 0) 35 k ((fnL S k).1 36 0)) 36 0 ((fnL S k).1 36 0 + 1)).1 31 t = _
        rw [setN_ne (by decide), setN_ne (by decide), setN_at, if_neg (by omega)]
      · rw [setN_at, if_neg (by omega)]
theorem cl_fin {b : Nat} {σ0 : Mm} {S : Sx} {Tf : Nat → Nat} {A : Nat → Int32} {K : Option Value → Mm → Prop} (hb : mch b) (hB : Bd S) (hs : S.1 36 0 + 10 ≤ 1073741824) (hQi : Qi S) (hat : ∀ u, S.1 29 u < 4) (hK : ∀ τ, Cq b σ0 (fnL S (S.1 9 0)) Tf A τ → K none τ) : ∀ k t σ, t + k = S.1 9 0 → Cq b σ0 (fnL S t) Tf A σ → G W0 mX3_finishAccesses K 2 [some (.ref b), some (.int (nI t)), none] [] σ := by
  have bT := B_T hB 0
  intro k
  induction k with
  | zero =>
    intro t σ ht hQ
    have hR := hQ.1
    have e9 : (fnL S t).1 9 0 = S.1 9 0 := by rw [fnL_ne (by decide) (by decide) (by decide)]
    have e : t = S.1 9 0 := by omega
    refine gs_iload_n dX3_finishAccesses_2 rfl rfl ?_
    refine gs_aload_n dX3_finishAccesses_3 rfl rfl ?_
    refine g_getI dX3_finishAccesses_4 fX3_94 (kMa hb) (by decide) (show _ = nI (S.1 9 0) from by rw [← e9]; exact C_T hR) ?_
    refine gt_icmp_ge (tgt := 71) dX3_finishAccesses_7 (by decide) (by omega) (by omega) (by omega) ?_
    refine g_return dX3_finishAccesses_71 rfl ?_
    rw [e] at hQ
    exact hK σ hQ
  | succ k ih =>
    intro t σ ht hQ
    have hR := hQ.1
    have e9 : (fnL S t).1 9 0 = S.1 9 0 := by rw [fnL_ne (by decide) (by decide) (by decide)]
    have htT : t < (fnL S t).1 9 0 := by omega
    have h10 : t < 10 := by omega
    have hBt := (fnL_Bd hB hs t (by omega)).1
    have hQt := Qi_fnL hQi hat t (by omega)
    have b31 := B_toGo hBt t
    obtain ⟨a, ea⟩ : ∃ a, a = (fnL S t).1 29 t := ⟨_, rfl⟩
    have ha : a < 4 := by rw [ea, fnL_ne (by decide) (by decide) (by decide)]; exact hat t
    have hB1 : Bd (setN (fnL S t) 31 t ((fnL S t).1 31 t - 1)) := Bd_setN hBt (show _ ≤ 5000 by omega)
    have hlen : (((fnL S t).2.2 a).erase t).length < 10 := by
      have hm : t ∈ (fnL S t).2.2 a := ((hQt.1 a ha).1 t).mpr ⟨htT, ea.symm⟩
      have z1 := List.length_erase_of_mem hm
      have z2 := List.length_pos_of_mem hm
      have z3 := (hR.2.2.2.2 a ha).1
      omega
    refine gs_iload_n dX3_finishAccesses_2 rfl rfl ?_
    refine gs_aload_n dX3_finishAccesses_3 rfl rfl ?_
    refine g_getI dX3_finishAccesses_4 fX3_94 (kMa hb) (by decide) (show _ = nI (S.1 9 0) from by rw [← e9]; exact C_T hR) ?_
    refine gf_icmp_ge (tgt := 71) dX3_finishAccesses_7 (by decide) (by omega) (by omega) (by omega) ?_
    refine gs_aload_n dX3_finishAccesses_10 rfl rfl ?_
    refine g_getR dX3_finishAccesses_11 fX3_40 (kMa hb) (by decide) (rMa_workers hb) ?_
    refine gs_iload_n dX3_finishAccesses_14 rfl rfl ?_
    refine g_aald27 dX3_finishAccesses_15 (kMa_workers hb) h10 (rWs hb h10) ?_
    refine gs_astore_n (ls' := [_, _, _]) dX3_finishAccesses_16 rfl rfl rfl ?_
    refine gs_aload_n dX3_finishAccesses_17 rfl rfl ?_
    refine g_getI dX3_finishAccesses_18 fX3_153 (kWk hb h10) (by decide) (C_toGo hR h10 htT) ?_
    refine gn_if_le (tgt := 65) dX3_finishAccesses_21 (by decide) (by omega) (fun c21 => ?_) (fun c21 => ?_)
    · refine gs_iinc (ls' := [_, _, _]) dX3_finishAccesses_65 rfl (nI_add _ 1) rfl rfl ?_
      refine g_goto (tgt := 2) dX3_finishAccesses_68 (by decide) ?_
      refine G.drop 2 (ls' := [_, _, none]) rfl ?_
      have e : fnL S (t + 1) = fnL S t := by rw [fnL, fn1, if_pos c21]
      rw [← e] at hQ
      exact ih (t + 1) σ (by omega) hQ
    · refine gs_aload_n dX3_finishAccesses_24 rfl rfl ?_
      refine g_dup dX3_finishAccesses_25 rfl ?_
      refine g_getI dX3_finishAccesses_26 fX3_153 (kWk hb h10) (by decide) (C_toGo hR h10 htT) ?_
      refine g_iconst (v := nI 1) dX3_finishAccesses_29 (by decide) ?_
      refine g_isub dX3_finishAccesses_30 (pk_sub (show 1 ≤ (fnL S t).1 31 t by omega)) ?_
      refine gc_putI dX3_finishAccesses_31 pX3_153 (kWk hb h10) (by decide) (Or.inl rfl) (D_toGo hQ hb hBt h10) (fun σ hQ => ?_)
      have hR := hQ.1
      refine gs_aload_n dX3_finishAccesses_34 rfl rfl ?_
      refine g_getI dX3_finishAccesses_35 fX3_153 (kWk hb h10) (by decide) (show _ = nI ((fnL S t).1 31 t - 1) from by have q := C_toGo hR h10 htT; rw [setN_at, if_pos ⟨rfl, rfl⟩] at q; exact q) ?_
      refine gn_if_ne (tgt := 65) dX3_finishAccesses_38 (by decide) (by omega) (fun c38 => ?_) (fun c38 => ?_)
      · refine gs_iinc (ls' := [_, _, _]) dX3_finishAccesses_65 rfl (nI_add _ 1) rfl rfl ?_
        refine g_goto (tgt := 2) dX3_finishAccesses_68 (by decide) ?_
        refine G.drop 2 (ls' := [_, _, none]) rfl ?_
        have e : fnL S (t + 1) = setN (fnL S t) 31 t ((fnL S t).1 31 t - 1) := by rw [fnL, fn1, if_neg (by omega), if_neg (by omega)]
        rw [← e] at hQ
        exact ih (t + 1) σ (by omega) hQ
      · refine gs_aload_n dX3_finishAccesses_41 rfl rfl ?_
        refine g_getR dX3_finishAccesses_42 fX3_12 (kMa hb) (by decide) (rMa_queues hb) ?_
        refine gs_aload_n dX3_finishAccesses_45 rfl rfl ?_
        refine g_getI dX3_finishAccesses_46 fX3_122 (kWk hb h10) (by decide) (show _ = nI a from by have q := C_at hR h10 htT; rw [ea]; exact q) ?_
        refine gs_iload_n dX3_finishAccesses_49 rfl rfl ?_
        refine g_cVV2 dX3_finishAccesses_50 vX3_204 (by decide) (kMa_queues hb) (by decide) (Nat.le_of_ble_eq_true rfl) (c_drop (S := setN (fnL S t) 31 t ((fnL S t).1 31 t - 1)) hb hR hB1 ha (by omega) (fun i => Qi_lt hQt hBt ha i)) ?_
        rintro σ hQ9
        rw [hQ.2.2] at hQ9
        have hQ := hQ.tr hQ9
        have hR := hQ.1
        refine gs_aload_n dX3_finishAccesses_53 rfl rfl ?_
        refine g_getR dX3_finishAccesses_54 fX3_12 (kMa hb) (by decide) (rMa_queues hb) ?_
        refine gs_aload_n dX3_finishAccesses_57 rfl rfl ?_
        refine g_getI dX3_finishAccesses_58 fX3_122 (kWk hb h10) (by decide) (show _ = nI a from by have q := C_at hR h10 htT; rw [ea]; exact q) ?_
        refine gs_iload_n dX3_finishAccesses_61 rfl rfl ?_
        refine g_cVV2 dX3_finishAccesses_62 vX3_145 (by decide) (kMa_queues hb) (by decide) (Nat.le_of_ble_eq_true rfl) (c_append (S := setQ (setN (fnL S t) 31 t ((fnL S t).1 31 t - 1)) a (((fnL S t).2.2 a).erase t)) hb hR hB1 ha (by rw [setQ_at]; exact hlen)) ?_
        rintro σ hQ9
        rw [hQ.2.2] at hQ9
        have hQ := hQ.tr hQ9
        have hR := hQ.1
        refine gs_iinc (ls' := [_, _, _]) dX3_finishAccesses_65 rfl (nI_add _ 1) rfl rfl ?_
        refine g_goto (tgt := 2) dX3_finishAccesses_68 (by decide) ?_
        refine G.drop 2 (ls' := [_, _, none]) rfl ?_
        have h1 : (fnL S t).1 31 t = 1 := by omega
        have e : fnL S (t + 1) = setN (setN (setQ (setN (fnL S t) 31 t ((fnL S t).1 31 t - 1)) a (((fnL S t).2.2 a).erase t ++ [t])) 35 t ((fnL S t).1 36 0)) 36 0 ((fnL S t).1 36 0 + 1) := by
          rw [fnL, fn1_1 h1, h1, ea]
          rfl
        rw [setQ_at, setQ_setQ] at hQ
        have hQ := (hQ.ghost (g := 35) (i := t) (v := (fnL S t).1 36 0) sz35 rfl).ghost (g := 36) (i := 0) (v := (fnL S t).1 36 0 + 1) sz36 rfl
        rw [← e] at hQ
        exact ih (t + 1) σ (by omega) hQ
theorem c_finish {b : Nat} {σ : Mm} {S : Sx} {Tf : Nat → Nat} (hb : mch b) (hR : RepC b σ S Tf) (hB : Bd S) (hs : S.1 36 0 + 10 ≤ 1073741824) (hQi : Qi S) (hat : ∀ u, S.1 29 u < 4) : RV W0 mX3_finishAccesses [.ref b] σ (fun τ => Cq b σ (fnL S (S.1 9 0)) Tf (σ.1 (b + 5)) τ) := by
  refine G.met (by decide) (Nat.le_of_ble_eq_true rfl) ?_
  show G _ _ _ 0 [some (.ref b), none, none] [] σ
  refine g_iconst (v := nI 0) dX3_finishAccesses_0 (by decide) ?_
  refine gs_istore_n (ls' := [_, _, _]) dX3_finishAccesses_1 rfl rfl rfl ?_
  exact cl_fin hb hB hs hQi hat (fun τ q => ⟨rfl, q⟩) (S.1 9 0) 0 σ (by omega) (Cq.rf hR)
