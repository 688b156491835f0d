/-! Writes of a tick into the reference's memory: what they keep. -/
def frM (σ τ : Mm) : Prop := (∀ a, a < 258 → τ.1 a = σ.1 a ∧ τ.2 a = σ.2 a) ∧ τ.1 258 = σ.1 258 ∧ ∀ a, 306 ≤ a → τ.1 a = σ.1 a ∧ τ.2 a = σ.2 a
theorem frM.rf (σ : Mm) : frM σ σ := ⟨fun _ _ => ⟨rfl, rfl⟩, rfl, fun _ _ => ⟨rfl, rfl⟩⟩
theorem frM.tr {a b c : Mm} (h : frM a b) (k : frM b c) : frM a c := ⟨fun q hq => ⟨(k.1 q hq).1.trans (h.1 q hq).1, (k.1 q hq).2.trans (h.1 q hq).2⟩, k.2.1.trans h.2.1, fun q hq => ⟨(k.2.2 q hq).1.trans (h.2.2 q hq).1, (k.2.2 q hq).2.trans (h.2.2 q hq).2⟩⟩
theorem frM.wI {σ0 σ : Mm} {a j : Nat} {v : Int32} (h : frM σ0 σ) (h1 : 258 < a) (h2 : a < 306) : frM σ0 (wI σ a j v) := by
  refine h.tr ⟨fun q hq => ⟨?_, rfl⟩, ?_, fun q hq => ⟨?_, rfl⟩⟩
  · funext k; rw [wI_at, if_neg (by omega)]
  · funext k; rw [wI_at, if_neg (by omega)]
  · funext k; rw [wI_at, if_neg (by omega)]
theorem frM.wL {σ0 σ : Mm} {a j : Nat} {v : Int64} (h : frM σ0 σ) (h1 : 258 ≤ a) (h2 : a < 306) : frM σ0 (wL σ a j v) := by
  refine h.tr ⟨fun q hq => ⟨rfl, ?_⟩, rfl, fun q hq => ⟨rfl, ?_⟩⟩
  · funext k; rw [wL_at, if_neg (by omega)]
  · funext k; rw [wL_at, if_neg (by omega)]
def Mq (w : Nat) (σ0 : Mm) (S : Sx) (τ : Mm) : Prop := RepM w τ S ∧ hC w τ ∧ frM σ0 τ ∧ ∀ S', RepM (1 - w) σ0 S' → RepM (1 - w) τ S'
theorem Mq.rf {w : Nat} {σ : Mm} {S : Sx} (h : RepM w σ S) (hc : hC w σ) : Mq w σ S σ := ⟨h, hc, frM.rf σ, fun _ h => h⟩
theorem Mq.tr {w : Nat} {σ0 σ τ : Mm} {S S' : Sx} (h : Mq w σ0 S σ) (k : Mq w σ S' τ) : Mq w σ0 S' τ := ⟨k.1, k.2.1, h.2.2.1.tr k.2.2.1, fun X hX => k.2.2.2 X (h.2.2.2 X hX)⟩
theorem loc_vv {w w1 g i i' : Nat} (hw : w ≠ w1) (hg : g < 20) (hi : i < vSL.getD g 0) (hi' : i' < vSL.getD g 0) (hm : vML.getD g 0 ≠ 0) : vK w g + i' ≠ vK w1 g + i := by
  intro e2
  have hu := tab_vu g hg
  unfold vK at e2
  generalize vML.getD g 0 = u at *
  generalize vSL.getD g 0 = z at *
  rcases Nat.lt_or_gt_of_ne hw with q | q
  · have := Nat.mul_le_mul_left u (Nat.succ_le_of_lt q)
    rw [Nat.mul_succ] at this
    omega
  · have := Nat.mul_le_mul_left u (Nat.succ_le_of_lt q)
    rw [Nat.mul_succ] at this
    omega
theorem RepM.other2 {w w1 : Nat} {σ : Mm} {S : Sx} (h : RepM w σ S) (hw : w ≠ w1) {g i : Nat} {v : Int32} (hi : i < vSL.getD g 0) (hm : vML.getD g 0 ≠ 0) : RepM w (wI σ (vA g) (vK w1 g + i) v) S := by
  have hg : g < 20 := getD_lt (l := vSL) (d := 0) (by omega)
  refine ⟨fun g' i' hd => ?_, fun g' i' hd hl => ?_, fun g' i' hd hl => ?_⟩
  · obtain ⟨hd1, hd2⟩ := mS_lt hd
    rw [wI_at, if_neg (fun q => tab_nv g' hd2 g hg (by omega) (by omega) q.1)]
    exact h.1 g' i' hd
  · obtain ⟨hd1, hd2⟩ := vS_lt hd
    rw [wI_at, if_neg ?_]
    · exact h.2.1 g' i' hd hl
    · rintro ⟨e1, e2⟩
      by_cases e : g = g'
      · subst e; exact loc_vv hw hg hi hd1 hm e2
      · exact tab_vv g hg g' hd2 e (by omega) (by omega) e1.symm
  · rw [wI_2]; exact h.2.2 g' i' hd hl
theorem RepM.other3 {w w1 : Nat} {σ : Mm} {S : Sx} (h : RepM w σ S) (hw : w ≠ w1) {g i : Nat} {v : Int64} (hi : i < vSL.getD g 0) (hm : vML.getD g 0 ≠ 0) : RepM w (wL σ (vA g) (vK w1 g + i) v) S := by
  have hg : g < 20 := getD_lt (l := vSL) (d := 0) (by omega)
  refine ⟨fun g' i' hd => ?_, fun g' i' hd hl => ?_, fun g' i' hd hl => ?_⟩
  · rw [wL_1]; exact h.1 g' i' hd
  · rw [wL_1]; exact h.2.1 g' i' hd hl
  · obtain ⟨hd1, hd2⟩ := vS_lt hd
    rw [wL_at, if_neg ?_]
    · exact h.2.2 g' i' hd hl
    · rintro ⟨e1, e2⟩
      by_cases e : g = g'
      · subst e; exact loc_vv hw hg hi hd1 hm e2
      · exact tab_vv g hg g' hd2 e (by omega) (by omega) e1.symm
theorem tab_mA : ∀ g, g < 40 → mML.getD g 0 = 0 ∨ (259 ≤ mAL.getD g 0 ∧ mAL.getD g 0 < 305) := by decide +kernel
theorem tab_vA : ∀ g, g < 20 → vSL.getD g 0 = 0 ∨ (259 ≤ vAL.getD g 0 ∧ vAL.getD g 0 < 305) := by decide +kernel
theorem hC.of {w : Nat} {σ τ : Mm} (h : hC w σ) (e : τ.1 258 = σ.1 258) : hC w τ := ⟨h.1, (congrFun e 17).trans h.2⟩
theorem Mq.putN {w : Nat} {σ0 σ : Mm} {S : Sx} (h : Mq w σ0 S σ) {g i v : Nat} (hi : i < mSL.getD g 0) (hm : mML.getD g 0 ≠ 0) : Mq w σ0 (setN S g i v) (wI σ (mA g) (mK w g + i) (encM g v)) := by
  have hg : g < 40 := getD_lt (l := mSL) (d := 0) (by omega)
  have ha := (tab_mA g hg).resolve_left hm
  have hf : frM σ (wI σ (mA g) (mK w g + i) (encM g v)) := (frM.rf σ).wI (by show 258 < mAL.getD g 0; omega) (by show mAL.getD g 0 < 306; omega)
  have hw := h.2.1.1
  exact ⟨h.1.putN hi, h.2.1.of hf.2.1, h.2.2.1.tr hf, fun X hX => (h.2.2.2 X hX).other1 (by omega) hi hm⟩
theorem Mq.putV {w : Nat} {σ0 σ : Mm} {S : Sx} (h : Mq w σ0 S σ) {g i : Nat} {v : Int32} (hi : i < vSL.getD g 0) (hl0 : vLg g = false) (hm : vML.getD g 0 ≠ 0) : Mq w σ0 (setV S g i v) (wI σ (vA g) (vK w g + i) v) := by
  have hg : g < 20 := getD_lt (l := vSL) (d := 0) (by omega)
  have ha := (tab_vA g hg).resolve_left (by omega)
  have hf : frM σ (wI σ (vA g) (vK w g + i) v) := (frM.rf σ).wI (by show 258 < vAL.getD g 0; omega) (by show vAL.getD g 0 < 306; omega)
  have hw := h.2.1.1
  exact ⟨h.1.putV hi hl0, h.2.1.of hf.2.1, h.2.2.1.tr hf, fun X hX => (h.2.2.2 X hX).other2 (by omega) hi hm⟩
theorem Mq.putL {w : Nat} {σ0 σ : Mm} {S : Sx} (h : Mq w σ0 S σ) {g i : Nat} {v : Int64} (hi : i < vSL.getD g 0) (hl0 : vLg g = true) (hm : vML.getD g 0 ≠ 0) : Mq w σ0 (setV S g i v.toInt32) (wL σ (vA g) (vK w g + i) v) := by
  have hg : g < 20 := getD_lt (l := vSL) (d := 0) (by omega)
  have ha := (tab_vA g hg).resolve_left (by omega)
  have hf : frM σ (wL σ (vA g) (vK w g + i) v) := (frM.rf σ).wL (by show 258 ≤ vAL.getD g 0; omega) (by show vAL.getD g 0 < 306; omega)
  have hw := h.2.1.1
  exact ⟨h.1.putL hi hl0, h.2.1.of hf.2.1, h.2.2.1.tr hf, fun X hX => (h.2.2.2 X hX).other3 (by omega) hi hm⟩
/-- the weaker frame: fields of the object but the world's number may change -/
def frW (σ τ : Mm) : Prop := (∀ a, a < 258 → τ.1 a = σ.1 a ∧ τ.2 a = σ.2 a) ∧ τ.1 258 17 = σ.1 258 17 ∧ ∀ a, 306 ≤ a → τ.1 a = σ.1 a ∧ τ.2 a = σ.2 a
theorem frM.weak {σ τ : Mm} (h : frM σ τ) : frW σ τ := ⟨h.1, congrFun h.2.1 17, h.2.2⟩
theorem frW.tr {a b c : Mm} (h : frW a b) (k : frW b c) : frW a c := ⟨fun q hq => ⟨(k.1 q hq).1.trans (h.1 q hq).1, (k.1 q hq).2.trans (h.1 q hq).2⟩, k.2.1.trans h.2.1, fun q hq => ⟨(k.2.2 q hq).1.trans (h.2.2 q hq).1, (k.2.2 q hq).2.trans (h.2.2 q hq).2⟩⟩
def Mw (w : Nat) (σ0 : Mm) (S : Sx) (τ : Mm) : Prop := RepM w τ S ∧ hC w τ ∧ frW σ0 τ ∧ ∀ S', RepM (1 - w) σ0 S' → RepM (1 - w) τ S'
theorem Mq.weak {w : Nat} {σ0 τ : Mm} {S : Sx} (h : Mq w σ0 S τ) : Mw w σ0 S τ := ⟨h.1, h.2.1, h.2.2.1.weak, h.2.2.2⟩
theorem Mw.tr {w : Nat} {σ0 σ τ : Mm} {S S' : Sx} (h : Mw w σ0 S σ) (k : Mw w σ S' τ) : Mw w σ0 S' τ := ⟨k.1, k.2.1, h.2.2.1.tr k.2.2.1, fun X hX => k.2.2.2 X (h.2.2.2 X hX)⟩
theorem Mw.off {w : Nat} {σ0 σ : Mm} {S : Sx} (h : Mw w σ0 S σ) {j : Nat} {v : Int32} (ho : offM 258 j = true) (h3 : j ≠ 17) : Mw w σ0 S (wI σ 258 j v) := by
  have hf : frW σ (wI σ 258 j v) := by
    refine ⟨fun q hq => ⟨?_, rfl⟩, ?_, fun q hq => ⟨?_, rfl⟩⟩
    · funext k; rw [wI_at, if_neg (by omega)]
    · rw [wI_at, if_neg (fun e => h3 e.2.symm)]
    · funext k; rw [wI_at, if_neg (by omega)]
  exact ⟨h.1.off ho, ⟨h.2.1.1, hf.2.1.trans h.2.1.2⟩, h.2.2.1.tr hf, fun X hX => (h.2.2.2 X hX).off ho⟩
section
variable {Ω : Nat × Nat} {M : MI} {K : Option Value → Mm → Prop} {pc : Nat} {ls : List (Option Value)} {st : List Value} {σ : Mm} {R : Mm → Prop}
theorem gq_iast {a n j : Nat} {x : Int32} (d : decode (ic M) pc = .ok (.iastore, 1)) (ha : kw Ω a = (20, n)) (hj : j < n) {w : Nat} {σ0 : Mm} {S' : Sx} (hR : Mq w σ0 S' (wI σ a j x)) (k : ∀ τ, Mq w σ0 S' τ → G Ω M K (pc + 1) ls st τ) : G Ω M K pc ls (.int x :: .int (nI j) :: .ref a :: st) σ := g_iast d ha hj (k _ hR)
theorem gq_zast {a n j : Nat} {x : Int32} (d : decode (ic M) pc = .ok (.bastore, 1)) (ha : kw Ω a = (22, n)) (hj : j < n) (hx1 : x = 0 ∨ x = 1) {w : Nat} {σ0 : Mm} {S' : Sx} (hR : Mq w σ0 S' (wI σ a j x)) (k : ∀ τ, Mq w σ0 S' τ → G Ω M K (pc + 1) ls st τ) : G Ω M K pc ls (.int x :: .int (nI j) :: .ref a :: st) σ := g_zast d ha hj hx1 (k _ hR)
theorem gq_last {a n j : Nat} {x : Int64} (d : decode (ic M) pc = .ok (.lastore, 1)) (ha : kw Ω a = (21, n)) (hj : j < n) {w : Nat} {σ0 : Mm} {S' : Sx} (hR : Mq w σ0 S' (wL σ a j x)) (k : ∀ τ, Mq w σ0 S' τ → G Ω M K (pc + 1) ls st τ) : G Ω M K pc ls (.long x :: .int (nI j) :: .ref a :: st) σ := g_last d ha hj (k _ hR)
theorem gq_putI {idx a ci n k0 : Nat} {x : Int32} {ty : FieldType} (d : decode (ic M) pc = .ok (.putfield idx, 3)) (f : FP (iy M).cls idx ci k0 ty) (ha : kw Ω a = (ci, n)) (hq : ci < 20 ∧ k0 < n ∧ isR ci k0 = false) (hty : ty = .int ∨ (ty = .boolean ∧ (x = 0 ∨ x = 1))) {w : Nat} {σ0 : Mm} {S' : Sx} (hR : Mq w σ0 S' (wI σ a k0 x)) (k : ∀ τ, Mq w σ0 S' τ → G Ω M K (pc + 3) ls st τ) : G Ω M K pc ls (.int x :: .ref a :: st) σ := g_putI d f ha hq hty (k _ hR)
end
theorem Q_placing {w : Nat} {σ0 σ : Mm} {S : Sx} (h : Mq w σ0 S σ) {v : Nat} : Mq w σ0 (setN S 20 0 v) (wI σ 268 w (nI v)) := by
  have q := h.putN (g := 20) (i := 0) (v := v) (by simp [mSL]) (by simp [mML])
  simpa [mA, mAL, mK, mKL, mML, encM] using q
theorem Q_every {w : Nat} {σ0 σ : Mm} {S : Sx} (h : Mq w σ0 S σ) {v : Nat} : Mq w σ0 (setN S 21 0 v) (wI σ 269 w (nI v)) := by
  have q := h.putN (g := 21) (i := 0) (v := v) (by simp [mSL]) (by simp [mML])
  simpa [mA, mAL, mK, mKL, mML, encM] using q
theorem Q_gain {w : Nat} {σ0 σ : Mm} {S : Sx} (h : Mq w σ0 S σ) {v : Nat} : Mq w σ0 (setN S 22 0 v) (wI σ 270 w (nI v)) := by
  have q := h.putN (g := 22) (i := 0) (v := v) (by simp [mSL]) (by simp [mML])
  simpa [mA, mAL, mK, mKL, mML, encM] using q
theorem Q_turns {w : Nat} {σ0 σ : Mm} {S : Sx} (h : Mq w σ0 S σ) {v : Nat} : Mq w σ0 (setN S 23 0 v) (wI σ 272 w (nI v)) := by
  have q := h.putN (g := 23) (i := 0) (v := v) (by simp [mSL]) (by simp [mML])
  simpa [mA, mAL, mK, mKL, mML, encM] using q
theorem Q_lies {w : Nat} {σ0 σ : Mm} {S : Sx} (h : Mq w σ0 S σ) {i : Nat} (hi : i < 20) {v : Nat} : Mq w σ0 (setN S 24 i v) (wI σ 279 (20 * w + i) (lzM v)) := by
  have q := h.putN (g := 24) (i := i) (v := v) (by simp [mSL]; exact hi) (by simp [mML])
  simpa [mA, mAL, mK, mKL, mML, encM] using q
theorem Q_copies {w : Nat} {σ0 σ : Mm} {S : Sx} (h : Mq w σ0 S σ) {i : Nat} (hi : i < 20) {v : Nat} : Mq w σ0 (setN S 25 i v) (wI σ 280 (20 * w + i) (nI v)) := by
  have q := h.putN (g := 25) (i := i) (v := v) (by simp [mSL]; exact hi) (by simp [mML])
  simpa [mA, mAL, mK, mKL, mML, encM] using q
theorem Q_hidden {w : Nat} {σ0 σ : Mm} {S : Sx} (h : Mq w σ0 S σ) {i : Nat} (hi : i < 20) {v : Nat} : Mq w σ0 (setN S 26 i v) (wI σ 281 (20 * w + i) (nI v)) := by
  have q := h.putN (g := 26) (i := i) (v := v) (by simp [mSL]; exact hi) (by simp [mML])
  simpa [mA, mAL, mK, mKL, mML, encM] using q
theorem Q_faultMany {w : Nat} {σ0 σ : Mm} {S : Sx} (h : Mq w σ0 S σ) {i : Nat} (hi : i < 20) {v : Nat} : Mq w σ0 (setN S 27 i v) (wI σ 282 (20 * w + i) (nI v)) := by
  have q := h.putN (g := 27) (i := i) (v := v) (by simp [mSL]; exact hi) (by simp [mML])
  simpa [mA, mAL, mK, mKL, mML, encM] using q
theorem Q_faultNode {w : Nat} {σ0 σ : Mm} {S : Sx} (h : Mq w σ0 S σ) {i : Nat} (hi : i < 80) {v : Nat} : Mq w σ0 (setN S 28 i v) (wI σ 283 (80 * w + i) (nI v)) := by
  have q := h.putN (g := 28) (i := i) (v := v) (by simp [mSL]; exact hi) (by simp [mML])
  simpa [mA, mAL, mK, mKL, mML, encM] using q
theorem Q_at {w : Nat} {σ0 σ : Mm} {S : Sx} (h : Mq w σ0 S σ) {i : Nat} (hi : i < 10) {v : Nat} : Mq w σ0 (setN S 29 i v) (wI σ 287 (10 * w + i) (nI v)) := by
  have q := h.putN (g := 29) (i := i) (v := v) (by simp [mSL]; exact hi) (by simp [mML])
  simpa [mA, mAL, mK, mKL, mML, encM] using q
theorem Q_next {w : Nat} {σ0 σ : Mm} {S : Sx} (h : Mq w σ0 S σ) {i : Nat} (hi : i < 10) {v : Nat} : Mq w σ0 (setN S 30 i v) (wI σ 289 (10 * w + i) (nI v)) := by
  have q := h.putN (g := 30) (i := i) (v := v) (by simp [mSL]; exact hi) (by simp [mML])
  simpa [mA, mAL, mK, mKL, mML, encM] using q
theorem Q_toGo {w : Nat} {σ0 σ : Mm} {S : Sx} (h : Mq w σ0 S σ) {i : Nat} (hi : i < 10) {v : Nat} : Mq w σ0 (setN S 31 i v) (wI σ 290 (10 * w + i) (nI v)) := by
  have q := h.putN (g := 31) (i := i) (v := v) (by simp [mSL]; exact hi) (by simp [mML])
  simpa [mA, mAL, mK, mKL, mML, encM] using q
theorem Q_ended {w : Nat} {σ0 σ : Mm} {S : Sx} (h : Mq w σ0 S σ) {i : Nat} (hi : i < 10) {v : Nat} : Mq w σ0 (setN S 32 i v) (wI σ 292 (10 * w + i) (nI v)) := by
  have q := h.putN (g := 32) (i := i) (v := v) (by simp [mSL]; exact hi) (by simp [mML])
  simpa [mA, mAL, mK, mKL, mML, encM] using q
theorem Q_linkNow {w : Nat} {σ0 σ : Mm} {S : Sx} (h : Mq w σ0 S σ) {i : Nat} (hi : i < 16) {v : Nat} : Mq w σ0 (setN S 33 i v) (wI σ 298 (16 * w + i) (nI v)) := by
  have q := h.putN (g := 33) (i := i) (v := v) (by simp [mSL]; exact hi) (by simp [mML])
  simpa [mA, mAL, mK, mKL, mML, encM] using q
theorem Q_stamp {w : Nat} {σ0 σ : Mm} {S : Sx} (h : Mq w σ0 S σ) {i : Nat} (hi : i < 10) {v : Nat} : Mq w σ0 (setN S 35 i v) (wI σ 288 (10 * w + i) (nI v)) := by
  have q := h.putN (g := 35) (i := i) (v := v) (by simp [mSL]; exact hi) (by simp [mML])
  simpa [mA, mAL, mK, mKL, mML, encM] using q
theorem Q_stamps {w : Nat} {σ0 σ : Mm} {S : Sx} (h : Mq w σ0 S σ) {v : Nat} : Mq w σ0 (setN S 36 0 v) (wI σ 278 w (nI v)) := by
  have q := h.putN (g := 36) (i := 0) (v := v) (by simp [mSL]) (by simp [mML])
  simpa [mA, mAL, mK, mKL, mML, encM] using q
theorem Q_tried {w : Nat} {σ0 σ : Mm} {S : Sx} (h : Mq w σ0 S σ) {i : Nat} (hi : i < 10) {v : Nat} : Mq w σ0 (setN S 38 i v) (wI σ 296 (10 * w + i) (nI v)) := by
  have q := h.putN (g := 38) (i := i) (v := v) (by simp [mSL]; exact hi) (by simp [mML])
  simpa [mA, mAL, mK, mKL, mML, encM] using q
theorem QV_tick {w : Nat} {σ0 σ : Mm} {S : Sx} (h : Mq w σ0 S σ) {v : Int32} : Mq w σ0 (setV S 1 0 v) (wI σ 271 w v) := by
  have q := h.putV (g := 1) (i := 0) (v := v) (by simp [vSL]) rfl (by simp [vML])
  simpa [vA, vAL, vK, vML] using q
theorem QV_went {w : Nat} {σ0 σ : Mm} {S : Sx} (h : Mq w σ0 S σ) {v : Int32} : Mq w σ0 (setV S 2 0 v) (wI σ 273 w v) := by
  have q := h.putV (g := 2) (i := 0) (v := v) (by simp [vSL]) rfl (by simp [vML])
  simpa [vA, vAL, vK, vML] using q
theorem QV_cost {w : Nat} {σ0 σ : Mm} {S : Sx} (h : Mq w σ0 S σ) {v : Int64} : Mq w σ0 (setV S 3 0 v.toInt32) (wL σ 274 w v) := by
  have q := h.putL (g := 3) (i := 0) (v := v) (by simp [vSL]) rfl (by simp [vML])
  simpa [vA, vAL, vK, vML] using q
theorem QV_faults {w : Nat} {σ0 σ : Mm} {S : Sx} (h : Mq w σ0 S σ) {v : Int32} : Mq w σ0 (setV S 4 0 v) (wI σ 275 w v) := by
  have q := h.putV (g := 4) (i := 0) (v := v) (by simp [vSL]) rfl (by simp [vML])
  simpa [vA, vAL, vK, vML] using q
theorem QV_moves {w : Nat} {σ0 σ : Mm} {S : Sx} (h : Mq w σ0 S σ) {v : Int32} : Mq w σ0 (setV S 5 0 v) (wI σ 276 w v) := by
  have q := h.putV (g := 5) (i := 0) (v := v) (by simp [vSL]) rfl (by simp [vML])
  simpa [vA, vAL, vK, vML] using q
theorem QV_failed {w : Nat} {σ0 σ : Mm} {S : Sx} (h : Mq w σ0 S σ) {v : Int32} : Mq w σ0 (setV S 6 0 v) (wI σ 277 w v) := by
  have q := h.putV (g := 6) (i := 0) (v := v) (by simp [vSL]) rfl (by simp [vML])
  simpa [vA, vAL, vK, vML] using q
theorem QV_moved {w : Nat} {σ0 σ : Mm} {S : Sx} (h : Mq w σ0 S σ) {i : Nat} (hi : i < 20) {v : Int32} : Mq w σ0 (setV S 7 i v) (wI σ 284 (20 * w + i) v) := by
  have q := h.putV (g := 7) (i := i) (v := v) (by simp [vSL]; exact hi) rfl (by simp [vML])
  simpa [vA, vAL, vK, vML] using q
theorem QV_pageBill {w : Nat} {σ0 σ : Mm} {S : Sx} (h : Mq w σ0 S σ) {i : Nat} (hi : i < 20) {v : Int64} : Mq w σ0 (setV S 8 i v.toInt32) (wL σ 285 (20 * w + i) v) := by
  have q := h.putL (g := 8) (i := i) (v := v) (by simp [vSL]; exact hi) rfl (by simp [vML])
  simpa [vA, vAL, vK, vML] using q
theorem QV_cell {w : Nat} {σ0 σ : Mm} {S : Sx} (h : Mq w σ0 S σ) {i : Nat} (hi : i < 80) {v : Int32} : Mq w σ0 (setV S 9 i v) (wI σ 286 (80 * w + i) v) := by
  have q := h.putV (g := 9) (i := i) (v := v) (by simp [vSL]; exact hi) rfl (by simp [vML])
  simpa [vA, vAL, vK, vML] using q
theorem QV_waits {w : Nat} {σ0 σ : Mm} {S : Sx} (h : Mq w σ0 S σ) {i : Nat} (hi : i < 10) {v : Int32} : Mq w σ0 (setV S 10 i v) (wI σ 291 (10 * w + i) v) := by
  have q := h.putV (g := 10) (i := i) (v := v) (by simp [vSL]; exact hi) rfl (by simp [vML])
  simpa [vA, vAL, vK, vML] using q
theorem QV_threadBill {w : Nat} {σ0 σ : Mm} {S : Sx} (h : Mq w σ0 S σ) {i : Nat} (hi : i < 10) {v : Int64} : Mq w σ0 (setV S 11 i v.toInt32) (wL σ 294 (10 * w + i) v) := by
  have q := h.putL (g := 11) (i := i) (v := v) (by simp [vSL]; exact hi) rfl (by simp [vML])
  simpa [vA, vAL, vK, vML] using q
theorem QV_lastRead {w : Nat} {σ0 σ : Mm} {S : Sx} (h : Mq w σ0 S σ) {i : Nat} (hi : i < 10) {v : Int32} : Mq w σ0 (setV S 12 i v) (wI σ 295 (10 * w + i) v) := by
  have q := h.putV (g := 12) (i := i) (v := v) (by simp [vSL]; exact hi) rfl (by simp [vML])
  simpa [vA, vAL, vK, vML] using q
theorem QV_nodeBill {w : Nat} {σ0 σ : Mm} {S : Sx} (h : Mq w σ0 S σ) {i : Nat} (hi : i < 4) {v : Int64} : Mq w σ0 (setV S 13 i v.toInt32) (wL σ 297 (4 * w + i) v) := by
  have q := h.putL (g := 13) (i := i) (v := v) (by simp [vSL]; exact hi) rfl (by simp [vML])
  simpa [vA, vAL, vK, vML] using q
theorem QV_linkWent {w : Nat} {σ0 σ : Mm} {S : Sx} (h : Mq w σ0 S σ) {i : Nat} (hi : i < 16) {v : Int32} : Mq w σ0 (setV S 14 i v) (wI σ 299 (16 * w + i) v) := by
  have q := h.putV (g := 14) (i := i) (v := v) (by simp [vSL]; exact hi) rfl (by simp [vML])
  simpa [vA, vAL, vK, vML] using q
theorem QV_linkWaits {w : Nat} {σ0 σ : Mm} {S : Sx} (h : Mq w σ0 S σ) {i : Nat} (hi : i < 16) {v : Int32} : Mq w σ0 (setV S 15 i v) (wI σ 300 (16 * w + i) v) := by
  have q := h.putV (g := 15) (i := i) (v := v) (by simp [vSL]; exact hi) rfl (by simp [vML])
  simpa [vA, vAL, vK, vML] using q
theorem QV_threadWent {w : Nat} {σ0 σ : Mm} {S : Sx} (h : Mq w σ0 S σ) {i : Nat} (hi : i < 10) {v : Int32} : Mq w σ0 (setV S 18 i v) (wI σ 293 (10 * w + i) v) := by
  have q := h.putV (g := 18) (i := i) (v := v) (by simp [vSL]; exact hi) rfl (by simp [vML])
  simpa [vA, vAL, vK, vML] using q
