/-! Writes into the reference's memory. -/
def ckNN (g g' : Nat) : Bool := (mSL.getD g 0 == 0) || ((mSL.getD g' 0 == 0) || ((g == g') || ((!(mAL.getD g 0 == mAL.getD g' 0)) || ((mSL.getD g 0 == 1) && ((mSL.getD g' 0 == 1) && ((mML.getD g 0 == 0) && ((mML.getD g' 0 == 0) && !(mKL.getD g 0 == mKL.getD g' 0))))))))
theorem ckNN_all : ((List.range 40).all fun g => (List.range 40).all fun g' => ckNN g g') = true := by decide +kernel
theorem tab_nn0 (g : Nat) (h1 : g < 40) (g' : Nat) (h2 : g' < 40) (h3 : 0 < mSL.getD g 0) (h4 : 0 < mSL.getD g' 0) : g = g' ∨ (mAL.getD g 0 ≠ mAL.getD g' 0 ∨ (mSL.getD g 0 = 1 ∧ mSL.getD g' 0 = 1 ∧ mML.getD g 0 = 0 ∧ mML.getD g' 0 = 0 ∧ mKL.getD g 0 ≠ mKL.getD g' 0)) := by
  have h := List.all_eq_true.mp (List.all_eq_true.mp ckNN_all g (List.mem_range.mpr h1)) g' (List.mem_range.mpr h2)
  simp only [ckNN, Bool.or_eq_true, Bool.and_eq_true, beq_iff_eq, Bool.not_eq_true', beq_eq_false_iff_ne] at h
  rcases h with h | h | h | h | h
  · omega
  · omega
  · exact Or.inl h
  · exact Or.inr (Or.inl h)
  · exact Or.inr (Or.inr h)
theorem tab_nn (g : Nat) (h1 : g < 40) (g' : Nat) (h2 : g' < 40) (hn : g ≠ g') (h3 : 0 < mSL.getD g 0) (h4 : 0 < mSL.getD g' 0) : mAL.getD g 0 ≠ mAL.getD g' 0 ∨ (mSL.getD g 0 = 1 ∧ mSL.getD g' 0 = 1 ∧ mML.getD g 0 = 0 ∧ mML.getD g' 0 = 0 ∧ mKL.getD g 0 ≠ mKL.getD g' 0) := (tab_nn0 g h1 g' h2 h3 h4).resolve_left hn
theorem tab_nv : ∀ g, g < 40 → ∀ g', g' < 20 → 0 < mSL.getD g 0 → 0 < vSL.getD g' 0 → mAL.getD g 0 ≠ vAL.getD g' 0 := by decide +kernel
theorem tab_vv0 : ∀ g, g < 20 → ∀ g', g' < 20 → 0 < vSL.getD g 0 → 0 < vSL.getD g' 0 → g = g' ∨ vAL.getD g 0 ≠ vAL.getD g' 0 := by decide +kernel
theorem tab_vv (g : Nat) (h1 : g < 20) (g' : Nat) (h2 : g' < 20) (hn : g ≠ g') (h3 : 0 < vSL.getD g 0) (h4 : 0 < vSL.getD g' 0) : vAL.getD g 0 ≠ vAL.getD g' 0 := (tab_vv0 g h1 g' h2 h3 h4).resolve_left hn
theorem tab_mu : ∀ g, g < 40 → mML.getD g 0 = 0 ∨ mSL.getD g 0 ≤ mML.getD g 0 := by decide +kernel
theorem tab_vu : ∀ g, g < 20 → vML.getD g 0 = 0 ∨ vSL.getD g 0 ≤ vML.getD g 0 := by decide +kernel
theorem getD_lt {α : Type} {l : List α} {g : Nat} {d : α} (h : l.getD g d ≠ d) : g < l.length := by
  rcases Nat.lt_or_ge g l.length with q | q
  · exact q
  · rw [List.getD, List.getElem?_eq_none q] at h
    exact absurd rfl h
theorem mS_lt {w g i : Nat} (h : i < mS w g) : i < mSL.getD g 0 ∧ g < 40 := by
  unfold mS at h
  split at h
  · exact ⟨h, getD_lt (l := mSL) (d := 0) (by omega)⟩
  · omega
theorem vS_lt {w g i : Nat} (h : i < vS w g) : i < vSL.getD g 0 ∧ g < 20 := by
  unfold vS at h
  split at h
  · exact ⟨h, getD_lt (l := vSL) (d := 0) (by omega)⟩
  · omega
theorem wI_at (σ : Mm) (a j : Nat) (v : Int32) (b k : Nat) : (wI σ a j v).1 b k = if b = a ∧ k = j then v else σ.1 b k := by
  unfold wI
  by_cases hb : b = a
  · subst hb
    by_cases hk : k = j
    · simp [upd, hk]
    · simp [upd, hk]
  · simp [hb]
theorem wI_2 (σ : Mm) (a j : Nat) (v : Int32) : (wI σ a j v).2 = σ.2 := rfl
theorem wL_1 (σ : Mm) (a j : Nat) (v : Int64) : (wL σ a j v).1 = σ.1 := rfl
theorem wL_at (σ : Mm) (a j : Nat) (v : Int64) (b k : Nat) : (wL σ a j v).2 b k = if b = a ∧ k = j then v else σ.2 b k := by
  unfold wL
  by_cases hb : b = a
  · subst hb
    by_cases hk : k = j
    · simp [vp_updL, hk]
    · simp [vp_updL, hk]
  · simp [hb]
theorem loc_nn {w w' g g' i i' : Nat} (hi : i < mSL.getD g 0) (hi' : i' < mSL.getD g' 0) (ha : mA g' = mA g) (hk : mK w' g' + i' = mK w g + i) : g' = g := by
  by_cases hg : g = g'
  · exact hg.symm
  · have h1 : g < 40 := getD_lt (l := mSL) (d := 0) (by omega)
    have h2 : g' < 40 := getD_lt (l := mSL) (d := 0) (by omega)
    rcases tab_nn g h1 g' h2 hg (by omega) (by omega) with q | ⟨q1, q2, q3, q4, q5⟩
    · exact absurd ha.symm q
    · unfold mK at hk
      rw [q3, q4] at hk
      omega
theorem RepM.putN {w : Nat} {σ : Mm} {S : Sx} (h : RepM w σ S) {g i v : Nat} (hi : i < mSL.getD g 0) : RepM w (wI σ (mA g) (mK w g + i) (encM g v)) (setN S g i v) := by
  have hg : g < 40 := getD_lt (l := mSL) (d := 0) (by omega)
  refine ⟨fun g' i' hd => ?_, fun g' i' hd hl => ?_, fun g' i' hd hl => ?_⟩
  · obtain ⟨hd1, hd2⟩ := mS_lt hd
    rw [wI_at]
    split
    · next hq =>
      have e := loc_nn hi hd1 hq.1 hq.2
      subst e
      have e2 : i' = i := by omega
      subst e2
      simp [setN]
    · next hq =>
      have : ¬ (g' = g ∧ i' = i) := fun q => hq (by rw [q.1, q.2]; exact ⟨rfl, rfl⟩)
      simp only [setN, this, if_false]
      exact h.1 g' i' hd
  · obtain ⟨hd1, hd2⟩ := vS_lt hd
    rw [wI_at, if_neg (fun q => tab_nv g hg g' hd2 (by omega) (by omega) q.1.symm)]
    exact h.2.1 g' i' hd hl
  · rw [wI_2]; exact h.2.2 g' i' hd hl
theorem RepM.putV {w : Nat} {σ : Mm} {S : Sx} (h : RepM w σ S) {g i : Nat} {v : Int32} (hi : i < vSL.getD g 0) (hl0 : vLg g = false) : RepM w (wI σ (vA g) (vK w g + i) v) (setV S g i v) := by
  have hg : g < 20 := getD_lt (l := vSL) (d := 0) (by omega)
  refine ⟨fun g' i' hd => ?_, fun g' i' hd hl => ?_, fun g' i' hd hl => ?_⟩
  · obtain ⟨hd1, hd2⟩ := mS_lt hd
    rw [wI_at, if_neg (fun q => tab_nv g' hd2 g hg (by omega) (by omega) q.1)]
    exact h.1 g' i' hd
  · obtain ⟨hd1, hd2⟩ := vS_lt hd
    rw [wI_at]
    split
    · next hq =>
      have e : g' = g := by
        by_cases e : g = g'
        · exact e.symm
        · exact absurd hq.1.symm (tab_vv g hg g' hd2 e (by omega) (by omega))
      subst e
      have e2 : i' = i := by omega
      subst e2
      simp [setV]
    · next hq =>
      have : ¬ (g' = g ∧ i' = i) := fun q => hq (by rw [q.1, q.2]; exact ⟨rfl, rfl⟩)
      simp only [setV, this, if_false]
      exact h.2.1 g' i' hd hl
  · have : ¬ (g' = g ∧ i' = i) := fun q => by rw [q.1, hl0] at hl; cases hl
    rw [wI_2]
    simp only [setV, this, if_false]
    exact h.2.2 g' i' hd hl
theorem RepM.putL {w : Nat} {σ : Mm} {S : Sx} (h : RepM w σ S) {g i : Nat} {v : Int64} (hi : i < vSL.getD g 0) (hl0 : vLg g = true) : RepM w (wL σ (vA g) (vK w g + i) v) (setV S g i v.toInt32) := by
  have hg : g < 20 := getD_lt (l := vSL) (d := 0) (by omega)
  refine ⟨fun g' i' hd => ?_, fun g' i' hd hl => ?_, fun g' i' hd hl => ?_⟩
  · rw [wL_1]; exact h.1 g' i' hd
  · have : ¬ (g' = g ∧ i' = i) := fun q => by rw [q.1, hl0] at hl; cases hl
    rw [wL_1]
    simp only [setV, this, if_false]
    exact h.2.1 g' i' hd hl
  · obtain ⟨hd1, hd2⟩ := vS_lt hd
    rw [wL_at]
    split
    · next hq =>
      have e : g' = g := by
        by_cases e : g = g'
        · exact e.symm
        · exact absurd hq.1.symm (tab_vv g hg g' hd2 e (by omega) (by omega))
      subst e
      have e2 : i' = i := by omega
      subst e2
      simp [setV]
    · next hq =>
      have : ¬ (g' = g ∧ i' = i) := fun q => hq (by rw [q.1, q.2]; exact ⟨rfl, rfl⟩)
      simp only [setV, this, if_false]
      exact h.2.2 g' i' hd hl
/-- a place that shows nothing of S -/
def offM (a j : Nat) : Bool := (List.range 40).all (fun g => decide (mSL.getD g 0 = 0) || (decide (mAL.getD g 0 ≠ a) || (decide (mML.getD g 0 = 0 ∧ mSL.getD g 0 = 1 ∧ mKL.getD g 0 ≠ j)))) && (List.range 20).all (fun g => decide (vSL.getD g 0 = 0) || decide (vAL.getD g 0 ≠ a))
theorem RepM.off {w : Nat} {σ : Mm} {S : Sx} (h : RepM w σ S) {a j : Nat} {v : Int32} (ho : offM a j = true) : RepM w (wI σ a j v) S := by
  unfold offM at ho
  rw [Bool.and_eq_true, List.all_eq_true, List.all_eq_true] at ho
  refine ⟨fun g' i' hd => ?_, fun g' i' hd hl => ?_, fun g' i' hd hl => ?_⟩
  · obtain ⟨hd1, hd2⟩ := mS_lt hd
    have q := ho.1 g' (List.mem_range.mpr hd2)
    rw [wI_at, if_neg ?_]
    · exact h.1 g' i' hd
    · rintro ⟨e1, e2⟩
      simp only [Bool.or_eq_true, decide_eq_true_eq] at q
      rcases q with q | q | ⟨q1, q2, q3⟩
      · omega
      · exact q e1
      · unfold mK at e2
        rw [q1] at e2
        omega
  · obtain ⟨hd1, hd2⟩ := vS_lt hd
    have q := ho.2 g' (List.mem_range.mpr hd2)
    rw [wI_at, if_neg ?_]
    · exact h.2.1 g' i' hd hl
    · rintro ⟨e1, e2⟩
      simp only [Bool.or_eq_true, decide_eq_true_eq] at q
      rcases q with q | q
      · omega
      · exact q e1
  · rw [wI_2]; exact h.2.2 g' i' hd hl
theorem RepM.offL {w : Nat} {σ : Mm} {S : Sx} (h : RepM w σ S) {a j : Nat} {v : Int64} (ho : offM a j = true) : RepM w (wL σ a j v) S := by
  unfold offM at ho
  rw [Bool.and_eq_true, List.all_eq_true, List.all_eq_true] at ho
  refine ⟨fun g' i' hd => ?_, fun g' i' hd hl => ?_, fun g' i' hd hl => ?_⟩
  · rw [wL_1]; exact h.1 g' i' hd
  · rw [wL_1]; exact h.2.1 g' i' hd hl
  · obtain ⟨hd1, hd2⟩ := vS_lt hd
    have q := ho.2 g' (List.mem_range.mpr hd2)
    rw [wL_at, if_neg ?_]
    · exact h.2.2 g' i' hd hl
    · rintro ⟨e1, e2⟩
      simp only [Bool.or_eq_true, decide_eq_true_eq] at q
      rcases q with q | q
      · omega
      · exact q e1
/-- a write of the other world -/
theorem RepM.other1 {w w1 : Nat} {σ : Mm} {S : Sx} (h : RepM w σ S) (hw : w ≠ w1) {g i : Nat} {v : Int32} (hi : i < mSL.getD g 0) (hm : mML.getD g 0 ≠ 0) : RepM w (wI σ (mA g) (mK w1 g + i) v) S := by
  have hg : g < 40 := getD_lt (l := mSL) (d := 0) (by omega)
  refine ⟨fun g' i' hd => ?_, fun g' i' hd hl => ?_, fun g' i' hd hl => ?_⟩
  · obtain ⟨hd1, hd2⟩ := mS_lt hd
    rw [wI_at, if_neg ?_]
    · exact h.1 g' i' hd
    · rintro ⟨e1, e2⟩
      have e := loc_nn hi hd1 e1 e2
      subst e
      have hu := tab_mu g' hd2
      unfold mK at e2
      generalize mML.getD g' 0 = u at *
      generalize mSL.getD g' 0 = z at *
      rcases Nat.lt_or_gt_of_ne hw with q | q
      · have := Nat.mul_le_mul_left u (Nat.succ_le_of_lt q)
        rw [Nat.mul_succ] at this
        omega
      · have := Nat.mul_le_mul_left u (Nat.succ_le_of_lt q)
        rw [Nat.mul_succ] at this
        omega
  · obtain ⟨hd1, hd2⟩ := vS_lt hd
    rw [wI_at, if_neg (fun q => tab_nv g hg g' hd2 (by omega) (by omega) q.1.symm)]
    exact h.2.1 g' i' hd hl
  · rw [wI_2]; exact h.2.2 g' i' hd hl
