/-! other: the trial's beginning in the class. -/
def ob0 (S : Sx) (r : Nat → Nat) : Sx := (fun g i => if g ≤ 6 ∨ (10 ≤ g ∧ g ≤ 13) then S.1 g i else if 14 ≤ g ∧ g ≤ 22 then r g else 0, fun g i => if g = 0 then S.2.1 0 i else if g = 1 then nI 1 else nI 0, fun _ => [])
def bg0 (σ : Mm) : Mm := wI (wI (wI (wI (wI (wI (wI (wI (wI (flI (flI (flI (flI (flI (flI σ (145 + 11) 16 (nI 0)) (145 + 12) 16 (nI 0)) (145 + 13) 16 (nI 0)) (145 + 3) 4 (nI 0)) (145 + 8) 4 (nI 0)) (145 + 9) 4 (nI 0)) 145 10 (nI 0)) 145 11 (nI 0)) 145 12 (nI 0)) 145 13 (nI 1)) 145 14 (nI 0)) 145 15 (nI 0)) 145 16 (nI 0)) 145 17 (nI 0)) 145 18 (nI 0)
theorem flI_o (σ : Mm) (a n : Nat) (v : Int32) {x : Nat} (h : x ≠ a) : (flI σ a n v).1 x = σ.1 x := by
  funext j
  exact if_neg (fun z => h z.1)
theorem bg0_o {σ : Mm} {a : Nat} (h : a < 145 ∨ 159 ≤ a ∨ a = 149) : (bg0 σ).1 a = σ.1 a := by
  unfold bg0
  rw [wI_o _ _ _ _ (by omega), wI_o _ _ _ _ (by omega), wI_o _ _ _ _ (by omega), wI_o _ _ _ _ (by omega), wI_o _ _ _ _ (by omega), wI_o _ _ _ _ (by omega), wI_o _ _ _ _ (by omega), wI_o _ _ _ _ (by omega), wI_o _ _ _ _ (by omega), flI_o _ _ _ _ (by omega), flI_o _ _ _ _ (by omega), flI_o _ _ _ _ (by omega), flI_o _ _ _ _ (by omega), flI_o _ _ _ _ (by omega), flI_o _ _ _ _ (by omega)]
theorem Bd_ob0 {S : Sx} (hB : Bd S) {r : Nat → Nat} (hr : ∀ g, r g ≤ bnd g) : Bd (ob0 S r) := by
  intro g i
  show (if g ≤ 6 ∨ (10 ≤ g ∧ g ≤ 13) then S.1 g i else if 14 ≤ g ∧ g ≤ 22 then r g else 0) ≤ bnd g
  split
  · exact hB g i
  · split
    · exact hr g
    · exact Nat.zero_le _
theorem bg0_rep {σ : Mm} {S : Sx} {Tf : Nat → Nat} (hR : RepC 57 σ S Tf) (hB : Bd S) (hTr : Tr σ) : ∃ r, (∀ g, r g ≤ bnd g) ∧ RepC 145 (bg0 σ) (ob0 S r) (fun _ => 0) := by
  obtain ⟨t1, t2, r, r0, r1, r2, r3, r4, r5⟩ := hTr
  refine ⟨r, r0, fun g i hi hd => ?_, fun g i hi hd => ?_, fun p k hp hk => ?_, fun a ha => ?_, fun a ha => ?_⟩
  · have hg := szC_lt hi
    by_cases hs : g ≤ 6 ∨ (10 ≤ g ∧ g ≤ 13)
    · have e : (ob0 S r).1 g i = S.1 g i := if_pos hs
      have ec : cl 145 g i = cl 57 g i := by
        rcases (show g = 0 ∨ g = 1 ∨ g = 2 ∨ g = 3 ∨ g = 4 ∨ g = 5 ∨ g = 6 ∨ g = 10 ∨ g = 11 ∨ g = 12 ∨ g = 13 from by omega) with rfl | rfl | rfl | rfl | rfl | rfl | rfl | rfl | rfl | rfl | rfl <;> rfl
      have hd' : dmC S g i := by
        rcases (show g = 0 ∨ g = 1 ∨ g = 2 ∨ g = 3 ∨ g = 4 ∨ g = 5 ∨ g = 6 ∨ g = 10 ∨ g = 11 ∨ g = 12 ∨ g = 13 from by omega) with rfl | rfl | rfl | rfl | rfl | rfl | rfl | rfl | rfl | rfl | rfl <;> exact hd
      have q := of_decide_eq_true (List.all_eq_true.mp (List.all_eq_true.mp clN_145 g (List.mem_range.mpr hg)) i (List.mem_range.mpr hi))
      rw [e, ec, bg0_o (Or.inl q)]
      exact hR.1 g i hi hd'
    · rcases (show g = 7 ∨ g = 8 ∨ g = 9 ∨ g = 14 ∨ g = 15 ∨ (16 ≤ g ∧ g ≤ 19) ∨ g = 20 ∨ g = 21 ∨ g = 22 ∨ g = 23 ∨ g = 24 ∨ g = 25 ∨ g = 26 ∨ g = 27 ∨ g = 28 ∨ g = 29 ∨ g = 30 ∨ g = 31 ∨ g = 32 ∨ g = 33 ∨ g = 34 ∨ (35 ≤ g ∧ g ≤ 38) ∨ g = 39 from by omega) with rfl | rfl | rfl | rfl | rfl | hh | rfl | rfl | rfl | rfl | rfl | rfl | rfl | rfl | rfl | rfl | rfl | rfl | rfl | rfl | rfl | hh | rfl
      · show (bg0 σ).1 145 10 = nI 0; simp [bg0, wI_at]
      · exact absurd (show i < 0 from hd) (by omega)
      · show (bg0 σ).1 145 11 = nI 0; simp [bg0, wI_at]
      · show (bg0 σ).1 149 3 = nI (r 14); rw [bg0_o (by omega)]; exact r4
      · show (bg0 σ).1 149 4 = nI (r 15); rw [bg0_o (by omega)]; exact r5
      · rcases (show g = 16 ∨ g = 17 ∨ g = 18 ∨ g = 19 from by omega) with rfl | rfl | rfl | rfl <;> exact absurd (show i < 0 from hi) (by omega)
      · show (bg0 σ).1 149 0 = nI (r 20); rw [bg0_o (by omega)]; exact r1
      · show (bg0 σ).1 149 1 = nI (r 21); rw [bg0_o (by omega)]; exact r2
      · show (bg0 σ).1 149 2 = nI (r 22); rw [bg0_o (by omega)]; exact r3
      · show (bg0 σ).1 145 12 = nI 0; simp [bg0, wI_at]
      · exact absurd (show i < 0 from hd) (by omega)
      · exact absurd (show i < 0 from hd) (by omega)
      · exact absurd (show i < 0 from hd) (by omega)
      · exact absurd (show i < 0 from hd) (by omega)
      · exact absurd (show i < 0 from hi) (by omega)
      · exact absurd (show i < 0 from hd) (by omega)
      · exact absurd (show i < 0 from hd) (by omega)
      · exact absurd (show i < 0 from hd) (by omega)
      · exact absurd (show i < 0 from hd) (by omega)
      · have hi16 : i < 16 := hi
        show (bg0 σ).1 158 i = nI 0
        simp [bg0, wI_at, flI_at, hi16]
      · show (bg0 σ).1 159 2 = nI 0; rw [bg0_o (by omega)]; exact t2
      · rcases (show g = 35 ∨ g = 36 ∨ g = 37 ∨ g = 38 from by omega) with rfl | rfl | rfl | rfl <;> exact absurd (show i < 0 from hi) (by omega)
      · show (bg0 σ).1 159 0 = nI 0; rw [bg0_o (by omega)]; exact t1
  · have hg := szV_lt hi
    rcases (show g = 0 ∨ g = 1 ∨ g = 2 ∨ g = 3 ∨ g = 4 ∨ g = 5 ∨ g = 6 ∨ g = 7 ∨ g = 8 ∨ g = 9 ∨ g = 10 ∨ g = 11 ∨ g = 12 ∨ g = 13 ∨ g = 14 ∨ g = 15 ∨ g = 16 ∨ g = 17 ∨ g = 18 ∨ g = 19 from by omega) with rfl | rfl | rfl | rfl | rfl | rfl | rfl | rfl | rfl | rfl | rfl | rfl | rfl | rfl | rfl | rfl | rfl | rfl | rfl | rfl
    · have q := of_decide_eq_true (List.all_eq_true.mp (List.all_eq_true.mp clV_145 0 (by decide)) i (List.mem_range.mpr hi))
      rw [show clV 145 0 i = clV 57 0 i from rfl, bg0_o (Or.inl q)]
      exact hR.2.1 0 i hi trivial
    · show (bg0 σ).1 145 13 = nI 1; simp [bg0, wI_at]
    · show (bg0 σ).1 145 14 = nI 0; simp [bg0, wI_at]
    · show (bg0 σ).1 145 15 = nI 0; simp [bg0, wI_at]
    · show (bg0 σ).1 145 16 = nI 0; simp [bg0, wI_at]
    · show (bg0 σ).1 145 17 = nI 0; simp [bg0, wI_at]
    · show (bg0 σ).1 145 18 = nI 0; simp [bg0, wI_at]
    · exact absurd (show i < 0 from hd) (by omega)
    · exact absurd (show i < 0 from hd) (by omega)
    · exact absurd (show i < 4 * 0 from hd) (by omega)
    · exact absurd (show i < 0 from hd) (by omega)
    · exact absurd (show i < 0 from hd) (by omega)
    · exact absurd (show i < 0 from hd) (by omega)
    · have h4 : i < 4 := hi
      show (bg0 σ).1 154 i = nI 0
      simp [bg0, wI_at, flI_at, h4]
    · have h4 : i < 16 := hi
      show (bg0 σ).1 156 i = nI 0
      simp [bg0, wI_at, flI_at, h4]
    · have h4 : i < 16 := hi
      show (bg0 σ).1 157 i = nI 0
      simp [bg0, wI_at, flI_at, h4]
    · exact absurd (show i < 10 * 0 from hd) (by omega)
    · exact absurd (show i < 0 from hd) (by omega)
    · exact absurd (show i < 0 from hi) (by omega)
    · exact absurd (show i < 0 from hi) (by omega)
  · exact absurd (show p < 0 from hp) (by omega)
  · show (bg0 σ).1 153 a = nI 0
    simp [bg0, wI_at, flI_at, ha]
  · refine ⟨Nat.zero_le _, ?_, fun i hi => absurd (show i < 0 from hi) (by omega)⟩
    show (bg0 σ).1 148 a = nI 0
    simp [bg0, wI_at, flI_at, ha]
-- pages and threads of the trial
def obP (S : Sx) (r : Nat → Nat) (k : Nat) : Sx := (fun g i => if g = 7 ∧ i = 0 then k else if g = 8 ∧ i < k then S.1 8 i else (ob0 S r).1 g i, (ob0 S r).2)
theorem obP_0 (S : Sx) (r : Nat → Nat) : obP S r 0 = ob0 S r := by
  refine Prod.ext ?_ rfl
  funext g i
  show (if g = 7 ∧ i = 0 then 0 else if g = 8 ∧ i < 0 then S.1 8 i else (ob0 S r).1 g i) = (ob0 S r).1 g i
  by_cases h : g = 7 ∧ i = 0
  · rw [if_pos h, h.1, h.2]; rfl
  · rw [if_neg h, if_neg (by omega)]
theorem obP_z {S : Sx} {r : Nat → Nat} {k g i : Nat} (h : 23 ≤ g) : (obP S r k).1 g i = 0 := by
  show (if g = 7 ∧ i = 0 then k else if g = 8 ∧ i < k then S.1 8 i else (if g ≤ 6 ∨ (10 ≤ g ∧ g ≤ 13) then S.1 g i else if 14 ≤ g ∧ g ≤ 22 then r g else 0)) = 0
  rw [if_neg (by omega), if_neg (by omega), if_neg (by omega), if_neg (by omega)]
theorem obP_7 {S : Sx} {r : Nat → Nat} {k : Nat} : (obP S r k).1 7 0 = k := rfl
theorem obP_Zp {S : Sx} {r : Nat → Nat} {k : Nat} : Zp (obP S r k) := fun p _ => ⟨obP_z (by decide), obP_z (by decide), obP_z (by decide), rfl, rfl, fun c _ => rfl⟩
theorem obP_s {S : Sx} {r : Nat → Nat} {k : Nat} : pgS (obP S r k) (S.1 8 k) = obP S r (k + 1) := by
  rw [pgS_eq obP_Zp, pg1, obP_7, setN_of (g := 24) (v := 0) (by rw [setN_ne (by decide)]; exact obP_z (by decide))]
  refine Prod.ext ?_ rfl
  funext g i
  show (if g = 7 ∧ i = 0 then k + 1 else if g = 8 ∧ i = k then S.1 8 k else (if g = 7 ∧ i = 0 then k else if g = 8 ∧ i < k then S.1 8 i else (ob0 S r).1 g i)) = (if g = 7 ∧ i = 0 then k + 1 else if g = 8 ∧ i < k + 1 then S.1 8 i else (ob0 S r).1 g i)
  by_cases h : g = 7 ∧ i = 0
  · rw [if_pos h, if_pos h]
  · rw [if_neg h, if_neg h, if_neg h]
    by_cases h2 : g = 8 ∧ i = k
    · rw [if_pos h2, if_pos ⟨h2.1, by omega⟩, h2.2]
    · rw [if_neg h2]
      by_cases h3 : g = 8 ∧ i < k
      · rw [if_pos h3, if_pos ⟨h3.1, by omega⟩]
      · rw [if_neg h3, if_neg (fun z => by omega)]
theorem Bd_obP {S : Sx} (hB : Bd S) {r : Nat → Nat} (hr : ∀ g, r g ≤ bnd g) {k : Nat} (hk : k ≤ 20) : Bd (obP S r k) := by
  intro g i
  show (if g = 7 ∧ i = 0 then k else if g = 8 ∧ i < k then S.1 8 i else (ob0 S r).1 g i) ≤ bnd g
  split
  · next h => rw [h.1]; exact hk
  · split
    · next h => rw [h.1]; exact hB 8 i
    · exact Bd_ob0 hB hr g i
def onq (S : Sx) (t a : Nat) : List Nat := (List.range t).filter (onN S a)
def obW (S : Sx) (r : Nat → Nat) (t : Nat) : Sx := (fun g i => if g = 9 ∧ i = 0 then t else if g = 29 ∧ i < t then S.1 29 i else (obP S r (S.1 7 0)).1 g i, (obP S r (S.1 7 0)).2.1, onq S t)
theorem obW_0 (S : Sx) (r : Nat → Nat) : obW S r 0 = obP S r (S.1 7 0) := by
  refine Prod.ext ?_ rfl
  funext g i
  show (if g = 9 ∧ i = 0 then 0 else if g = 29 ∧ i < 0 then S.1 29 i else (obP S r (S.1 7 0)).1 g i) = _
  by_cases h : g = 9 ∧ i = 0
  · rw [if_pos h, h.1, h.2]; rfl
  · rw [if_neg h, if_neg (by omega)]
theorem obW_9 {S : Sx} {r : Nat → Nat} {t : Nat} : (obW S r t).1 9 0 = t := rfl
theorem obW_Zt {S : Sx} {r : Nat → Nat} {t : Nat} : ∀ u, (obW S r t).1 30 u = 0 ∧ (obW S r t).1 31 u = 0 ∧ (obW S r t).1 32 u = 0 ∧ (obW S r t).2.1 10 u = nI 0 ∧ (obW S r t).2.1 11 u = nI 0 ∧ (obW S r t).2.1 12 u = nI 0 := by
  intro u
  have e : ∀ g, 30 ≤ g → (obW S r t).1 g u = 0 := fun g hg => by
    show (if g = 9 ∧ u = 0 then t else if g = 29 ∧ u < t then S.1 29 u else (obP S r (S.1 7 0)).1 g u) = 0
    rw [if_neg (by omega), if_neg (by omega)]; exact obP_z (by omega)
  exact ⟨e 30 (by decide), e 31 (by decide), e 32 (by decide), rfl, rfl, rfl⟩
theorem obW_s {S : Sx} {r : Nat → Nat} {t : Nat} : wkS (obW S r t) (S.1 29 t) = obW S r (t + 1) := by
  obtain ⟨z1, z2, z3, z4, z5, z6⟩ := obW_Zt (S := S) (r := r) (t := t) t
  have e : bwS (obW S r t) t (S.1 29 t) = setN (obW S r t) 29 t (S.1 29 t) := by
    unfold bwS
    rw [setN_of (g := 30) (v := 0) (by rw [setN_ne (by decide)]; exact z1), setN_of (g := 31) (v := 0) (by rw [setN_ne (by decide)]; exact z2), setV_of (g := 10) (by rw [setN_2]; exact z4), setV_of (g := 11) (by rw [setN_2]; exact z5), setV_of (g := 12) (by rw [setN_2]; exact z6), setN_of (g := 32) (v := 0) (by rw [setN_ne (by decide)]; exact z3)]
  unfold wkS
  rw [obW_9, e]
  refine Prod.ext ?_ (Prod.ext rfl ?_)
  · funext g i
    show (if g = 9 ∧ i = 0 then t + 1 else if g = 29 ∧ i = t then S.1 29 t else (if g = 9 ∧ i = 0 then t else if g = 29 ∧ i < t then S.1 29 i else (obP S r (S.1 7 0)).1 g i)) = (if g = 9 ∧ i = 0 then t + 1 else if g = 29 ∧ i < t + 1 then S.1 29 i else (obP S r (S.1 7 0)).1 g i)
    by_cases h : g = 9 ∧ i = 0
    · rw [if_pos h, if_pos h]
    · rw [if_neg h, if_neg h, if_neg h]
      by_cases h2 : g = 29 ∧ i = t
      · rw [if_pos h2, if_pos ⟨h2.1, by omega⟩, h2.2]
      · rw [if_neg h2]
        by_cases h3 : g = 29 ∧ i < t
        · rw [if_pos h3, if_pos ⟨h3.1, by omega⟩]
        · rw [if_neg h3, if_neg (fun z => by omega)]
  · funext a
    show (if a = S.1 29 t then onq S t (S.1 29 t) ++ [t] else onq S t a) = onq S (t + 1) a
    unfold onq
    rw [List.range_succ, List.filter_append]
    by_cases h : a = S.1 29 t
    · rw [if_pos h, h]
      congr 1
      simp [onN]
    · rw [if_neg h]
      have : List.filter (onN S a) [t] = [] := by simp [onN]; exact fun z => h z.symm
      rw [this, List.append_nil]
theorem Bd_obW {S : Sx} (hB : Bd S) {r : Nat → Nat} (hr : ∀ g, r g ≤ bnd g) {t : Nat} (ht : t ≤ 10) : Bd (obW S r t) := by
  intro g i
  show (if g = 9 ∧ i = 0 then t else if g = 29 ∧ i < t then S.1 29 i else (obP S r (S.1 7 0)).1 g i) ≤ bnd g
  split
  · next h => rw [h.1]; exact ht
  · split
    · next h => rw [h.1]; exact hB 29 i
    · exact Bd_obP hB hr (B_P hB 0) g i
theorem onq_len (S : Sx) (t a : Nat) : (onq S t a).length ≤ t := by
  unfold onq
  rw [cnt_f]; exact cnt_le _ _
theorem r_trB {σ : Mm} {b : Nat} (hb1 : mch b) : RV W0 mX9_begin [.ref (b + 10)] σ (fun τ => τ = flI (flI (flI σ (b + 11) 16 (nI 0)) (b + 12) 16 (nI 0)) (b + 13) 16 (nI 0)) := by
  refine G.met (by decide) (Nat.le_of_ble_eq_true rfl) ?_
  show G _ _ _ 0 [some (.ref (b + 10))] [] σ
  refine gs_aload_n dX9_begin_0 rfl rfl ?_
  refine g_getR dX9_begin_1 fX9_9 (kMa_traffic hb1) (by decide) (rTr_carried hb1) ?_
  refine g_iconst (v := nI 0) dX9_begin_4 (by decide) ?_
  refine g_cSV2 dX9_begin_5 vX9_25 (by decide) (Nat.le_of_ble_eq_true rfl) (s_fill (kTr_carried hb1) (by decide)) ?_
  rintro _ rfl
  refine gs_aload_n dX9_begin_8 rfl rfl ?_
  refine g_getR dX9_begin_9 fX9_15 (kMa_traffic hb1) (by decide) (rTr_waits hb1) ?_
  refine g_iconst (v := nI 0) dX9_begin_12 (by decide) ?_
  refine g_cSV2 dX9_begin_13 vX9_25 (by decide) (Nat.le_of_ble_eq_true rfl) (s_fill (kTr_waits hb1) (by decide)) ?_
  rintro _ rfl
  refine gs_aload_n dX9_begin_16 rfl rfl ?_
  refine g_getR dX9_begin_17 fX9_18 (kMa_traffic hb1) (by decide) (rTr_inTick hb1) ?_
  refine g_iconst (v := nI 0) dX9_begin_20 (by decide) ?_
  refine g_cSV2 dX9_begin_21 vX9_25 (by decide) (Nat.le_of_ble_eq_true rfl) (s_fill (kTr_inTick hb1) (by decide)) ?_
  rintro _ rfl
  refine g_return dX9_begin_24 rfl ?_
  exact ⟨rfl, rfl⟩
theorem r_quB {σ : Mm} {b : Nat} (hb1 : mch b) : RV W0 mX5_begin [.ref (b + 1)] σ (fun τ => τ = flI σ (b + 3) 4 (nI 0)) := by
  refine G.met (by decide) (Nat.le_of_ble_eq_true rfl) ?_
  show G _ _ _ 0 [some (.ref (b + 1))] [] σ
  refine gs_aload_n dX5_begin_0 rfl rfl ?_
  refine g_getR dX5_begin_1 fX5_15 (kMa_queues hb1) (by decide) (rQu_size hb1) ?_
  refine g_iconst (v := nI 0) dX5_begin_4 (by decide) ?_
  refine g_cSV2 dX5_begin_5 vX5_18 (by decide) (Nat.le_of_ble_eq_true rfl) (s_fill (kQu_size hb1) (by decide)) ?_
  rintro _ rfl
  refine g_return dX5_begin_8 rfl ?_
  exact ⟨rfl, rfl⟩
theorem cl_bgP {σ0 : Mm} {S : Sx} {Tf : Nat → Nat} {r : Nat → Nat} {K : Option Value → Mm → Prop} (hR0 : RepC 57 σ0 S Tf) (hB : Bd S) (hr : ∀ g, r g ≤ bnd g) (hX : ∀ τ A, Cq 145 σ0 (obP S r (S.1 7 0)) (fun _ => 0) A τ → G W0 mX3_beginLike K 105 [some (.ref 145), some (.ref 57), none] [] τ) : ∀ j k σ A, k + j = S.1 7 0 → Cq 145 σ0 (obP S r k) (fun _ => 0) A σ → G W0 mX3_beginLike K 77 [some (.ref 145), some (.ref 57), some (.int (nI k))] [] σ := by
  have hb : mch 57 := Or.inl rfl
  have hb1 : mch 145 := Or.inr rfl
  have bP := B_P hB 0
  intro j
  induction j with
  | zero =>
    intro k σ A hk hQ
    have e : k = S.1 7 0 := by omega
    have hR := hR0.fr1 hB (fun a ha => hQ.2.1.2 a (by omega))
    refine gs_iload_n dX3_beginLike_77 rfl rfl ?_
    refine gs_aload_n dX3_beginLike_78 rfl rfl ?_
    refine g_getI dX3_beginLike_79 fX3_91 (kMa hb) (by decide) (C_P hR) ?_
    refine gt_icmp_ge (tgt := 105) dX3_beginLike_82 (by decide) (by omega) (by omega) (by omega) ?_
    refine G.drop 2 (ls' := [_, _, none]) rfl ?_
    rw [e] at hQ
    exact hX σ A hQ
  | succ j ih =>
    intro k σ A hk hQ
    have hR := hR0.fr1 hB (fun a ha => hQ.2.1.2 a (by omega))
    have h20 : k < 20 := by omega
    have b8 := B_kind hB k
    have hBk := Bd_obP hB hr (k := k) (by omega)
    have e7 : (obP S r k).1 7 0 = k := obP_7
    refine gs_iload_n dX3_beginLike_77 rfl rfl ?_
    refine gs_aload_n dX3_beginLike_78 rfl rfl ?_
    refine g_getI dX3_beginLike_79 fX3_91 (kMa hb) (by decide) (C_P hR) ?_
    refine gf_icmp_ge (tgt := 105) dX3_beginLike_82 (by decide) (by omega) (by omega) (by omega) ?_
    refine gs_aload_n dX3_beginLike_85 rfl rfl ?_
    refine gs_aload_n dX3_beginLike_86 rfl rfl ?_
    refine g_getR dX3_beginLike_87 fX3_34 (kMa hb) (by decide) (rMa_pages hb) ?_
    refine gs_iload_n dX3_beginLike_90 rfl rfl ?_
    refine g_aald24 dX3_beginLike_91 (kMa_pages hb) h20 (rPs hb h20) ?_
    refine g_getI dX3_beginLike_92 fX3_115 (kPg hb h20) (by decide) (C_kind hR h20 (by omega)) ?_
    refine g_cVI1 dX3_beginLike_95 vX3_118 (by decide) (kMa hb1) (by decide) (Nat.le_of_ble_eq_true rfl) (c_addPage hb1 hQ.1 hBk (k := S.1 8 k) b8 (by omega)) ?_
    rintro _ σ ⟨rfl, hQ9⟩
    rw [obP_s] at hQ9
    have hQ := hQ.tr hQ9
    refine g_pop dX3_beginLike_98 rfl ?_
    refine gs_iinc (ls' := [_, _, _]) dX3_beginLike_99 rfl (nI_add _ 1) rfl rfl ?_
    refine g_goto (tgt := 77) dX3_beginLike_102 (by decide) ?_
    exact ih (k + 1) σ _ (by omega) hQ
theorem cl_bgW {σ0 : Mm} {S : Sx} {Tf : Nat → Nat} {r : Nat → Nat} {K : Option Value → Mm → Prop} (hR0 : RepC 57 σ0 S Tf) (hB : Bd S) (hr : ∀ g, r g ≤ bnd g) (hX : ∀ τ A, Cq 145 σ0 (obW S r (S.1 9 0)) (fun _ => 0) A τ → G W0 mX3_beginLike K 135 [some (.ref 145), some (.ref 57), none] [] τ) : ∀ j k σ A, k + j = S.1 9 0 → Cq 145 σ0 (obW S r k) (fun _ => 0) A σ → G W0 mX3_beginLike K 107 [some (.ref 145), some (.ref 57), some (.int (nI k))] [] σ := by
  have hb : mch 57 := Or.inl rfl
  have hb1 : mch 145 := Or.inr rfl
  have bT := B_T hB 0
  intro j
  induction j with
  | zero =>
    intro k σ A hk hQ
    have e : k = S.1 9 0 := by omega
    have hR := hR0.fr1 hB (fun a ha => hQ.2.1.2 a (by omega))
    refine gs_iload_n dX3_beginLike_107 rfl rfl ?_
    refine gs_aload_n dX3_beginLike_108 rfl rfl ?_
    refine g_getI dX3_beginLike_109 fX3_94 (kMa hb) (by decide) (C_T hR) ?_
    refine gt_icmp_ge (tgt := 135) dX3_beginLike_112 (by decide) (by omega) (by omega) (by omega) ?_
    refine G.drop 2 (ls' := [_, _, none]) rfl ?_
    rw [e] at hQ
    exact hX σ A hQ
  | succ j ih =>
    intro k σ A hk hQ
    have hR := hR0.fr1 hB (fun a ha => hQ.2.1.2 a (by omega))
    have h10 : k < 10 := by omega
    have b29 := B_at hB k
    have hBk := Bd_obW hB hr (t := k) (by omega)
    have e9 : (obW S r k).1 9 0 = k := obW_9
    have hl := onq_len S k (S.1 29 k)
    refine gs_iload_n dX3_beginLike_107 rfl rfl ?_
    refine gs_aload_n dX3_beginLike_108 rfl rfl ?_
    refine g_getI dX3_beginLike_109 fX3_94 (kMa hb) (by decide) (C_T hR) ?_
    refine gf_icmp_ge (tgt := 135) dX3_beginLike_112 (by decide) (by omega) (by omega) (by omega) ?_
    refine gs_aload_n dX3_beginLike_115 rfl rfl ?_
    refine gs_aload_n dX3_beginLike_116 rfl rfl ?_
    refine g_getR dX3_beginLike_117 fX3_40 (kMa hb) (by decide) (rMa_workers hb) ?_
    refine gs_iload_n dX3_beginLike_120 rfl rfl ?_
    refine g_aald27 dX3_beginLike_121 (kMa_workers hb) h10 (rWs hb h10) ?_
    refine g_getI dX3_beginLike_122 fX3_122 (kWk hb h10) (by decide) (C_at hR h10 (by omega)) ?_
    refine g_cVI1 dX3_beginLike_125 vX3_125 (by decide) (kMa hb1) (by decide) (Nat.le_of_ble_eq_true rfl) (c_addWorker hb1 hQ.1 hBk (a := S.1 29 k) (by omega) (by omega) (show (onq S k (S.1 29 k)).length < 10 by omega)) ?_
    rintro _ σ ⟨rfl, hQ9⟩
    rw [obW_s] at hQ9
    have hQ := hQ.tr hQ9
    refine g_pop dX3_beginLike_128 rfl ?_
    refine gs_iinc (ls' := [_, _, _]) dX3_beginLike_129 rfl (nI_add _ 1) rfl rfl ?_
    refine g_goto (tgt := 107) dX3_beginLike_132 (by decide) ?_
    exact ih (k + 1) σ _ (by omega) hQ
theorem r_beginLike {σ : Mm} {S : Sx} {Tf : Nat → Nat} (hR : RepC 57 σ S Tf) (hB : Bd S) (hTr : Tr σ) : RV W0 mX3_beginLike [.ref 145, .ref 57] σ (fun τ => ∃ r A, (∀ g, r g ≤ bnd g) ∧ Cq 145 (bg0 σ) (pr1 (obW S r (S.1 9 0)) (S.1 14 0) (S.1 15 0)) (fun _ => 0) A τ) := by
  have hb : mch 57 := Or.inl rfl
  have hb1 : mch 145 := Or.inr rfl
  obtain ⟨r, hr, hR1⟩ := bg0_rep hR hB hTr
  have hR0 : RepC 57 (bg0 σ) S Tf := hR.fr1 hB (fun a ha => bg0_o (Or.inl ha))
  refine G.met (by decide) (Nat.le_of_ble_eq_true rfl) ?_
  show G _ _ _ 0 [some (.ref 145), some (.ref 57), none] [] σ
  refine gs_aload_n dX3_beginLike_0 rfl rfl ?_
  refine g_getR dX3_beginLike_1 fX3_64 (kMa hb1) (by decide) (rMa_traffic hb1) ?_
  refine g_cVV0 dX3_beginLike_4 vX3_81 (by decide) (kMa_traffic hb1) (by decide) (Nat.le_of_ble_eq_true rfl) (r_trB hb1) ?_
  rintro _ rfl
  refine gs_aload_n dX3_beginLike_7 rfl rfl ?_
  refine g_getR dX3_beginLike_8 fX3_12 (kMa hb1) (by decide) (rMa_queues hb1) ?_
  refine g_cVV0 dX3_beginLike_11 vX3_84 (by decide) (kMa_queues hb1) (by decide) (Nat.le_of_ble_eq_true rfl) (r_quB hb1) ?_
  rintro _ rfl
  refine gs_aload_n dX3_beginLike_14 rfl rfl ?_
  refine g_getR dX3_beginLike_15 fX3_44 (kMa hb1) (by decide) (rMa_taken hb1) ?_
  refine g_iconst (v := nI 0) dX3_beginLike_18 (by decide) ?_
  refine g_cSV2 dX3_beginLike_19 vX3_85 (by decide) (Nat.le_of_ble_eq_true rfl) (s_fill (kMa_taken hb1) (by decide)) ?_
  rintro _ rfl
  refine gs_aload_n dX3_beginLike_22 rfl rfl ?_
  refine g_getR dX3_beginLike_23 fX3_48 (kMa hb1) (by decide) (rMa_nodeBills hb1) ?_
  refine g_iconst (v := nI 0) dX3_beginLike_26 (by decide) ?_
  refine g_cSV2 dX3_beginLike_27 vX3_85 (by decide) (Nat.le_of_ble_eq_true rfl) (s_fill (kMa_nodeBills hb1) (by decide)) ?_
  rintro _ rfl
  refine gs_aload_n dX3_beginLike_30 rfl rfl ?_
  refine g_iconst (v := nI 0) dX3_beginLike_31 (by decide) ?_
  refine g_putI dX3_beginLike_32 pX3_91 (kMa hb1) (by decide) (Or.inl rfl) ?_
  refine gs_aload_n dX3_beginLike_35 rfl rfl ?_
  refine g_iconst (v := nI 0) dX3_beginLike_36 (by decide) ?_
  refine g_putI dX3_beginLike_37 pX3_94 (kMa hb1) (by decide) (Or.inl rfl) ?_
  refine gs_aload_n dX3_beginLike_40 rfl rfl ?_
  refine g_iconst (v := nI 0) dX3_beginLike_41 (by decide) ?_
  refine g_putI dX3_beginLike_42 pX3_97 (kMa hb1) (by decide) (Or.inl rfl) ?_
  refine gs_aload_n dX3_beginLike_45 rfl rfl ?_
  refine g_iconst (v := nI 1) dX3_beginLike_46 (by decide) ?_
  refine g_putI dX3_beginLike_47 pX3_51 (kMa hb1) (by decide) (Or.inl rfl) ?_
  refine gs_aload_n dX3_beginLike_50 rfl rfl ?_
  refine g_iconst (v := nI 0) dX3_beginLike_51 (by decide) ?_
  refine g_putI dX3_beginLike_52 pX3_100 (kMa hb1) (by decide) (Or.inl rfl) ?_
  refine gs_aload_n dX3_beginLike_55 rfl rfl ?_
  refine g_iconst (v := nI 0) dX3_beginLike_56 (by decide) ?_
  refine g_putI dX3_beginLike_57 pX3_103 (kMa hb1) (by decide) (Or.inl rfl) ?_
  refine gs_aload_n dX3_beginLike_60 rfl rfl ?_
  refine g_iconst (v := nI 0) dX3_beginLike_61 (by decide) ?_
  refine g_putI dX3_beginLike_62 pX3_106 (kMa hb1) (by decide) (Or.inl rfl) ?_
  refine gs_aload_n dX3_beginLike_65 rfl rfl ?_
  refine g_iconst (v := nI 0) dX3_beginLike_66 (by decide) ?_
  refine g_putI dX3_beginLike_67 pX3_109 (kMa hb1) (by decide) (Or.inl rfl) ?_
  refine gs_aload_n dX3_beginLike_70 rfl rfl ?_
  refine g_iconst (v := nI 0) dX3_beginLike_71 (by decide) ?_
  refine g_putI dX3_beginLike_72 pX3_112 (kMa hb1) (by decide) (Or.inl rfl) ?_
  refine g_iconst (v := nI 0) dX3_beginLike_75 (by decide) ?_
  refine gs_istore_n (ls' := [_, _, _]) dX3_beginLike_76 rfl rfl rfl ?_
  refine cl_bgP (σ0 := bg0 σ) hR0 hB hr (fun τ A hQ => ?_) (S.1 7 0) 0 (bg0 σ) ((bg0 σ).1 (145 + 5)) (by omega) (by rw [obP_0]; exact Cq.rf hR1)
  refine g_iconst (v := nI 0) dX3_beginLike_105 (by decide) ?_
  refine gs_istore_n (ls' := [_, _, _]) dX3_beginLike_106 rfl rfl rfl ?_
  refine cl_bgW (σ0 := bg0 σ) hR0 hB hr (fun τ A hQ => ?_) (S.1 9 0) 0 τ A (by omega) (by rw [obW_0]; exact hQ)
  have hR := hR0.fr1 hB (fun a ha => hQ.2.1.2 a (by omega))
  refine gs_aload_n dX3_beginLike_135 rfl rfl ?_
  refine g_getR dX3_beginLike_136 fX3_21 (kMa hb1) (by decide) (rMa_rules hb1) ?_
  refine gs_aload_n dX3_beginLike_139 rfl rfl ?_
  refine g_getR dX3_beginLike_140 fX3_21 (kMa hb) (by decide) (rMa_rules hb) ?_
  refine g_getI dX3_beginLike_143 fX3_128 (kMa_rules hb) (by decide) (C_faultPrice hR) ?_
  refine gs_aload_n dX3_beginLike_146 rfl rfl ?_
  refine g_getR dX3_beginLike_147 fX3_21 (kMa hb) (by decide) (rMa_rules hb) ?_
  refine g_getI dX3_beginLike_150 fX3_131 (kMa_rules hb) (by decide) (C_movePrice hR) ?_
  refine g_cVV2 dX3_beginLike_153 vX3_134 (by decide) (kMa_rules hb1) (by decide) (Nat.le_of_ble_eq_true rfl) (c_setPrices hb1 hQ.1 (Bd_obW hB hr (B_T hB 0)) (f := S.1 14 0) (m := S.1 15 0) (B_faultPrice hB 0)) ?_
  rintro σ9 hQ9
  have hQ := hQ.tr hQ9
  refine g_return dX3_beginLike_156 rfl ?_
  exact ⟨rfl, r, _, hr, hQ⟩
