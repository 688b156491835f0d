/-! Rows over the heap: fields, arrays, calls. -/
def FL (own : String) (idx ci k : Nat) : Prop := ∃ (C : String) (T : u_T) (N : Nat), vwCl[ci]? = some (C, T, N) ∧ k < N ∧ (∀ w ∈ u_ws C T N, w ∈ tbG) ∧ Cond.fieldLink own idx (T k).1 (T k).2.1 (T k).2.2.1 ∈ tbG
def FP (own : String) (idx ci k : Nat) (ty : FieldType) : Prop := ∃ (C : String) (T : u_T) (N : Nat) (ty0 : Nat → FieldType), vwCl[ci]? = some (C, T, N) ∧ k < N ∧ (∀ w ∈ u_ws C T N, w ∈ tbG) ∧ Cond.fieldLink own idx (T k).1 (T k).2.1 (T k).2.2.1 ∈ tbG ∧ (∀ k, k < N → parseFieldDescriptor (T k).2.2.1 = some (ty0 k)) ∧ (∀ a, a < N → ∀ b, b < N → a ≠ b → (T a).2.1 ≠ (T b).2.1) ∧ (T k).2.2.2 = false ∧ parseFieldDescriptor (T k).2.2.1 = some ty
section
variable {Ω : Nat × Nat} {M : MI} {K : Option Value → Mm → Prop} {pc : Nat} {ls : List (Option Value)} {st : List Value} {σ : Mm}
theorem fval_at {B a ci n k : Nat} (hk : k < n) : ((List.range n).map (fval B σ a ci))[k]? = some (fval B σ a ci k) := by
  rw [List.getElem?_map, List.getElem?_range hk]; rfl
theorem g_getI {idx a ci n k : Nat} {v : Int32} (d : decode (ic M) pc = .ok (.getfield idx, 3)) (f : FL (iy M).cls idx ci k) (ha : kw Ω a = (ci, n)) (hq : ci < 20 ∧ k < n ∧ isR ci k = false) (hv : σ.1 a k = v) (k0 : G Ω M K (pc + 3) ls (.int v :: st) σ) : G Ω M K pc ls (.ref a :: st) σ := by
  subst hv
  intro B D cA p l e s m args below meth c H locs la C hP hS hl
  obtain ⟨hx, hb, hml, hown, hret, hlocks, hts, hK, hNs⟩ := C
  obtain ⟨C, T, N, hc, hN, hin, hlk⟩ := f
  obtain ⟨h1, h2, h3⟩ := kw_in ha (by show ci ≠ 99; omega)
  refine va_get (fs := (List.range n).map (fval B σ a ci)) hx hb hts hin hown hK hP (a - Ω.1) (by rw [wld_at h1 h2, ent_obj h3 hq.1]) hc k hN (hts _ hlk) (fun _ h9 => h9) (v := .int (σ.1 a k)) (by rw [fval_at hq.2.1]; unfold fval; rw [hq.2.2]; rfl) d ?_
  exact k0 B D cA p l e s m args below meth c H locs la ⟨hx, hb, hml, hown, hret, hlocks, hts, hK, hNs⟩ hP hS hl
theorem g_getR {idx a ci n k r : Nat} (d : decode (ic M) pc = .ok (.getfield idx, 3)) (f : FL (iy M).cls idx ci k) (ha : kw Ω a = (ci, n)) (hq : ci < 20 ∧ k < n ∧ isR ci k = true) (hv : rf a k = r) (k0 : G Ω M K (pc + 3) ls (.ref r :: st) σ) : G Ω M K pc ls (.ref a :: st) σ := by
  subst hv
  intro B D cA p l e s m args below meth c H locs la C hP hS hl
  obtain ⟨hx, hb, hml, hown, hret, hlocks, hts, hK, hNs⟩ := C
  obtain ⟨C, T, N, hc, hN, hin, hlk⟩ := f
  obtain ⟨h1, h2, h3⟩ := kw_in ha (by show ci ≠ 99; omega)
  refine va_get (fs := (List.range n).map (fval B σ a ci)) hx hb hts hin hown hK hP (a - Ω.1) (by rw [wld_at h1 h2, ent_obj h3 hq.1]) hc k hN (hts _ hlk) (fun _ h9 => h9) (v := .ref (B + rf a k)) (by rw [fval_at hq.2.1]; unfold fval; rw [hq.2.2]; rfl) d ?_
  exact k0 B D cA p l e s m args below meth c H locs la ⟨hx, hb, hml, hown, hret, hlocks, hts, hK, hNs⟩ hP hS hl
theorem fval_set {B a ci n k : Nat} {x : Int32} (hr : isR ci k = false) : ((List.range n).map (fval B σ a ci)).set k (.int x) = (List.range n).map (fval B (wI σ a k x) a ci) := by
  apply List.ext_getElem?
  intro i
  rw [List.getElem?_set, List.length_map, List.length_range]
  by_cases hi : k = i
  · subst hi
    rw [if_pos rfl]
    by_cases hk : k < n
    · rw [if_pos hk, fval_at hk]
      unfold fval wI
      rw [hr]
      simp [upd]
    · rw [if_neg hk, List.getElem?_eq_none (by simpa using hk)]
  · rw [if_neg hi]
    by_cases hk : i < n
    · rw [fval_at hk, fval_at hk]
      have hi2 : ¬ i = k := fun h => hi h.symm
      unfold fval wI
      simp [upd, hi2]
    · rw [List.getElem?_eq_none (by simpa using hk), List.getElem?_eq_none (by simpa using hk)]
theorem g_putI {idx a ci n k : Nat} {x : Int32} {ty : FieldType} (d : decode (ic M) pc = .ok (.putfield idx, 3)) (f : FP (iy M).cls idx ci k ty) (ha : kw Ω a = (ci, n)) (hq : ci < 20 ∧ k < n ∧ isR ci k = false) (hty : ty = .int ∨ (ty = .boolean ∧ (x = 0 ∨ x = 1))) (k0 : G Ω M K (pc + 3) ls st (wI σ a k x)) : G Ω M K pc ls (.int x :: .ref a :: st) σ := by
  intro B D cA p l e s m args below meth c H locs la C hP hS hl
  obtain ⟨hx, hb, hml, hown, hret, hlocks, hts, hK, hNs⟩ := C
  obtain ⟨C, T, N, ty0, hc, hN, hin, hlk, hty0, hnm, hfin, hpd⟩ := f
  obtain ⟨h1, h2, h3⟩ := kw_in ha (by show ci ≠ 99; omega)
  have hnar : narrow ty (.int x) = .int x := by rcases hty with rfl | ⟨rfl, rfl | rfl⟩ <;> first | rfl | decide
  have hfit : fits ty (.int x) = true := by rcases hty with rfl | ⟨rfl, rfl | rfl⟩ <;> first | rfl | decide
  refine va_put (fs := (List.range n).map (fval B σ a ci)) hx hb hts hin ty0 hty0 hnm hown hK hP wld_D hS (a - Ω.1) (by rw [wld_at h1 h2, ent_obj h3 hq.1]) hc k hN (hts _ hlk) (fun _ h9 => h9) hfin hpd (v := .int x) hnar hfit (by simpa using hq.2.1) d (fun H1 locs1 hP1 hD1 hS1 => ?_)
  rw [wld_set (σ' := wI σ a k x) h1 h2 (by rw [ent_obj h3 hq.1, ← fval_set hq.2.2]) (fun b hb2 => ent_wI hb2)] at hP1
  exact k0 B D cA p l e s m args below meth c H1 locs1 la ⟨hx, hb, hml, hown, hret, hlocks, hts, hK, hNs⟩ hP1 hS1 hl
theorem ix_in {a c n j : Nat} (ha : kd a = (c, n)) (hj : j < n) : vp_in (nI j) n ∧ (nI j).toNatClampNeg = j := by
  have h := kd_small a
  rw [ha] at h
  exact ⟨vp_in_nI hj (by show n < 2 ^ 31; have : n ≤ 3300 := h; omega), nI_clamp (by have : n ≤ 3300 := h; omega)⟩
theorem g_iald {a n j : Nat} {v : Int32} (d : decode (ic M) pc = .ok (.iaload, 1)) (ha : kw Ω a = (20, n)) (hj : j < n) (hv : σ.1 a j = v) (k : G Ω M K (pc + 1) ls (.int v :: st) σ) : G Ω M K pc ls (.int (nI j) :: .ref a :: st) σ := by
  subst hv
  intro B D cA p l e s m args below meth c H locs la C hP hS hl
  obtain ⟨hx, hb, hml, hown, hret, hlocks, hts, hK, hNs⟩ := C
  obtain ⟨h1, h2, h3⟩ := kw_in ha (by simp)
  obtain ⟨e1, e2⟩ := ix_in h3 hj
  refine va_iald hx hb hK hP (a - Ω.1) 0 (by rw [wld_at h1 h2, ent_int h3 (by decide)]) rfl e1 d ?_
  rw [e2]
  exact (k B D cA p l e s m args below meth c H locs la ⟨hx, hb, hml, hown, hret, hlocks, hts, hK, hNs⟩ hP hS hl)
theorem g_zald {a n j : Nat} {v : Int32} (d : decode (ic M) pc = .ok (.baload, 1)) (ha : kw Ω a = (22, n)) (hj : j < n) (hv : σ.1 a j = v) (k : G Ω M K (pc + 1) ls (.int v :: st) σ) : G Ω M K pc ls (.int (nI j) :: .ref a :: st) σ := by
  subst hv
  intro B D cA p l e s m args below meth c H locs la C hP hS hl
  obtain ⟨hx, hb, hml, hown, hret, hlocks, hts, hK, hNs⟩ := C
  obtain ⟨h1, h2, h3⟩ := kw_in ha (by simp)
  obtain ⟨e1, e2⟩ := ix_in h3 hj
  refine va_zald hx hb hK hP (a - Ω.1) 2 (by rw [wld_at h1 h2, ent_int h3 (by decide)]) rfl e1 d ?_
  rw [e2]
  exact (k B D cA p l e s m args below meth c H locs la ⟨hx, hb, hml, hown, hret, hlocks, hts, hK, hNs⟩ hP hS hl)
theorem g_bald {a n j : Nat} {v : Int32} (d : decode (ic M) pc = .ok (.baload, 1)) (ha : kw Ω a = (23, n)) (hj : j < n) (hv : σ.1 a j = v) (k : G Ω M K (pc + 1) ls (.int v :: st) σ) : G Ω M K pc ls (.int (nI j) :: .ref a :: st) σ := by
  subst hv
  intro B D cA p l e s m args below meth c H locs la C hP hS hl
  obtain ⟨hx, hb, hml, hown, hret, hlocks, hts, hK, hNs⟩ := C
  obtain ⟨h1, h2, h3⟩ := kw_in ha (by simp)
  obtain ⟨e1, e2⟩ := ix_in h3 hj
  refine va_bald hx hb hK hP (a - Ω.1) 3 (by rw [wld_at h1 h2, ent_int h3 (by decide)]) rfl e1 d ?_
  rw [e2]
  exact (k B D cA p l e s m args below meth c H locs la ⟨hx, hb, hml, hown, hret, hlocks, hts, hK, hNs⟩ hP hS hl)
theorem g_lald {a n j : Nat} {v : Int64} (d : decode (ic M) pc = .ok (.laload, 1)) (ha : kw Ω a = (21, n)) (hj : j < n) (hv : σ.2 a j = v) (k : G Ω M K (pc + 1) ls (.long v :: st) σ) : G Ω M K pc ls (.int (nI j) :: .ref a :: st) σ := by
  subst hv
  intro B D cA p l e s m args below meth c H locs la C hP hS hl
  obtain ⟨hx, hb, hml, hown, hret, hlocks, hts, hK, hNs⟩ := C
  obtain ⟨h1, h2, h3⟩ := kw_in ha (by simp)
  obtain ⟨e1, e2⟩ := ix_in h3 hj
  refine va_lald hx hb hK hP (a - Ω.1) 1 (by rw [wld_at h1 h2, ent_long h3]) rfl e1 d ?_
  rw [e2]
  exact (k B D cA p l e s m args below meth c H locs la ⟨hx, hb, hml, hown, hret, hlocks, hts, hK, hNs⟩ hP hS hl)
theorem g_aald24 {a n j r : Nat} (d : decode (ic M) pc = .ok (.aaload, 1)) (ha : kw Ω a = (24, n)) (hj : j < n) (hv : rf a j = r) (k : G Ω M K (pc + 1) ls (.ref r :: st) σ) : G Ω M K pc ls (.int (nI j) :: .ref a :: st) σ := by
  subst hv
  intro B D cA p l e s m args below meth c H locs la C hP hS hl
  obtain ⟨hx, hb, hml, hown, hret, hlocks, hts, hK, hNs⟩ := C
  obtain ⟨h1, h2, h3⟩ := kw_in ha (by simp)
  obtain ⟨e1, e2⟩ := ix_in h3 hj
  refine va_aldq (C := "FarCells$Page") hx hb hK hP (a - Ω.1) 4 (by rw [wld_at h1 h2, ent_ref h3 (by decide)]) rfl e1 d ?_
  rw [e2]
  exact (k B D cA p l e s m args below meth c H locs la ⟨hx, hb, hml, hown, hret, hlocks, hts, hK, hNs⟩ hP hS hl)
theorem g_aald25 {a n j r : Nat} (d : decode (ic M) pc = .ok (.aaload, 1)) (ha : kw Ω a = (25, n)) (hj : j < n) (hv : rf a j = r) (k : G Ω M K (pc + 1) ls (.ref r :: st) σ) : G Ω M K pc ls (.int (nI j) :: .ref a :: st) σ := by
  subst hv
  intro B D cA p l e s m args below meth c H locs la C hP hS hl
  obtain ⟨hx, hb, hml, hown, hret, hlocks, hts, hK, hNs⟩ := C
  obtain ⟨h1, h2, h3⟩ := kw_in ha (by simp)
  obtain ⟨e1, e2⟩ := ix_in h3 hj
  refine va_aldq (C := "FarCells$Script") hx hb hK hP (a - Ω.1) 5 (by rw [wld_at h1 h2, ent_ref h3 (by decide)]) rfl e1 d ?_
  rw [e2]
  exact (k B D cA p l e s m args below meth c H locs la ⟨hx, hb, hml, hown, hret, hlocks, hts, hK, hNs⟩ hP hS hl)
theorem g_aald26 {a n j r : Nat} (d : decode (ic M) pc = .ok (.aaload, 1)) (ha : kw Ω a = (26, n)) (hj : j < n) (hv : rf a j = r) (k : G Ω M K (pc + 1) ls (.ref r :: st) σ) : G Ω M K pc ls (.int (nI j) :: .ref a :: st) σ := by
  subst hv
  intro B D cA p l e s m args below meth c H locs la C hP hS hl
  obtain ⟨hx, hb, hml, hown, hret, hlocks, hts, hK, hNs⟩ := C
  obtain ⟨h1, h2, h3⟩ := kw_in ha (by simp)
  obtain ⟨e1, e2⟩ := ix_in h3 hj
  refine va_aldq (C := "FarCells$Shelf") hx hb hK hP (a - Ω.1) 6 (by rw [wld_at h1 h2, ent_ref h3 (by decide)]) rfl e1 d ?_
  rw [e2]
  exact (k B D cA p l e s m args below meth c H locs la ⟨hx, hb, hml, hown, hret, hlocks, hts, hK, hNs⟩ hP hS hl)
theorem g_aald27 {a n j r : Nat} (d : decode (ic M) pc = .ok (.aaload, 1)) (ha : kw Ω a = (27, n)) (hj : j < n) (hv : rf a j = r) (k : G Ω M K (pc + 1) ls (.ref r :: st) σ) : G Ω M K pc ls (.int (nI j) :: .ref a :: st) σ := by
  subst hv
  intro B D cA p l e s m args below meth c H locs la C hP hS hl
  obtain ⟨hx, hb, hml, hown, hret, hlocks, hts, hK, hNs⟩ := C
  obtain ⟨h1, h2, h3⟩ := kw_in ha (by simp)
  obtain ⟨e1, e2⟩ := ix_in h3 hj
  refine va_aldq (C := "FarCells$Worker") hx hb hK hP (a - Ω.1) 7 (by rw [wld_at h1 h2, ent_ref h3 (by decide)]) rfl e1 d ?_
  rw [e2]
  exact (k B D cA p l e s m args below meth c H locs la ⟨hx, hb, hml, hown, hret, hlocks, hts, hK, hNs⟩ hP hS hl)
theorem g_iast {a n j : Nat} {x : Int32} (d : decode (ic M) pc = .ok (.iastore, 1)) (ha : kw Ω a = (20, n)) (hj : j < n) (k : G Ω M K (pc + 1) ls st (wI σ a j x)) : G Ω M K pc ls (.int x :: .int (nI j) :: .ref a :: st) σ := by
  intro B D cA p l e s m args below meth c H locs la C hP hS hl
  obtain ⟨hx, hb, hml, hown, hret, hlocks, hts, hK, hNs⟩ := C
  obtain ⟨h1, h2, h3⟩ := kw_in ha (by simp)
  obtain ⟨e1, e2⟩ := ix_in h3 hj
  refine va_iast hx hb hK hP wld_D hS (a - Ω.1) 0 (by rw [wld_at h1 h2, ent_int h3 (by decide)]) rfl e1 d (fun H1 locs1 hP1 hD1 hS1 => ?_)
  rw [e2, wld_set (σ' := wI σ a j x) h1 h2 (by rw [ent_int h3 (by decide)]; simp only [wI, if_true]) (fun b hb2 => ent_wI hb2)] at hP1
  exact k B D cA p l e s m args below meth c H1 locs1 la ⟨hx, hb, hml, hown, hret, hlocks, hts, hK, hNs⟩ hP1 hS1 hl
theorem g_zast {a n j : Nat} {x : Int32} (d : decode (ic M) pc = .ok (.bastore, 1)) (ha : kw Ω a = (22, n)) (hj : j < n) (hx1 : x = 0 ∨ x = 1) (k : G Ω M K (pc + 1) ls st (wI σ a j x)) : G Ω M K pc ls (.int x :: .int (nI j) :: .ref a :: st) σ := by
  intro B D cA p l e s m args below meth c H locs la C hP hS hl
  obtain ⟨hx, hb, hml, hown, hret, hlocks, hts, hK, hNs⟩ := C
  obtain ⟨h1, h2, h3⟩ := kw_in ha (by simp)
  obtain ⟨e1, e2⟩ := ix_in h3 hj
  refine va_zast hx hb hK hP wld_D hS (a - Ω.1) 2 (by rw [wld_at h1 h2, ent_int h3 (by decide)]) rfl e1 d (fun H1 locs1 hP1 hD1 hS1 => ?_)
  rw [e2, show vp_nar .boolean x = x by rcases hx1 with rfl | rfl <;> decide, wld_set (σ' := wI σ a j x) h1 h2 (by rw [ent_int h3 (by decide)]; simp only [wI, if_true]) (fun b hb2 => ent_wI hb2)] at hP1
  exact k B D cA p l e s m args below meth c H1 locs1 la ⟨hx, hb, hml, hown, hret, hlocks, hts, hK, hNs⟩ hP1 hS1 hl
theorem g_bast {a n j : Nat} {x : Int32} (d : decode (ic M) pc = .ok (.bastore, 1)) (ha : kw Ω a = (23, n)) (hj : j < n) (hx1 : vp_nar .byte x = x) (k : G Ω M K (pc + 1) ls st (wI σ a j x)) : G Ω M K pc ls (.int x :: .int (nI j) :: .ref a :: st) σ := by
  intro B D cA p l e s m args below meth c H locs la C hP hS hl
  obtain ⟨hx, hb, hml, hown, hret, hlocks, hts, hK, hNs⟩ := C
  obtain ⟨h1, h2, h3⟩ := kw_in ha (by simp)
  obtain ⟨e1, e2⟩ := ix_in h3 hj
  refine va_bast hx hb hK hP wld_D hS (a - Ω.1) 3 (by rw [wld_at h1 h2, ent_int h3 (by decide)]) rfl e1 d (fun H1 locs1 hP1 hD1 hS1 => ?_)
  rw [e2, hx1, wld_set (σ' := wI σ a j x) h1 h2 (by rw [ent_int h3 (by decide)]; simp only [wI, if_true]) (fun b hb2 => ent_wI hb2)] at hP1
  exact k B D cA p l e s m args below meth c H1 locs1 la ⟨hx, hb, hml, hown, hret, hlocks, hts, hK, hNs⟩ hP1 hS1 hl
theorem g_last {a n j : Nat} {x : Int64} (d : decode (ic M) pc = .ok (.lastore, 1)) (ha : kw Ω a = (21, n)) (hj : j < n) (k : G Ω M K (pc + 1) ls st (wL σ a j x)) : G Ω M K pc ls (.long x :: .int (nI j) :: .ref a :: st) σ := by
  intro B D cA p l e s m args below meth c H locs la C hP hS hl
  obtain ⟨hx, hb, hml, hown, hret, hlocks, hts, hK, hNs⟩ := C
  obtain ⟨h1, h2, h3⟩ := kw_in ha (by simp)
  obtain ⟨e1, e2⟩ := ix_in h3 hj
  refine va_last hx hb hK hP wld_D hS (a - Ω.1) 1 (by rw [wld_at h1 h2, ent_long h3]) rfl e1 d (fun H1 locs1 hP1 hD1 hS1 => ?_)
  rw [e2, wld_set (σ' := wL σ a j x) h1 h2 (by rw [ent_long h3]; simp only [wL, if_true]) (fun b hb2 => ent_wL hb2)] at hP1
  exact k B D cA p l e s m args below meth c H1 locs1 la ⟨hx, hb, hml, hown, hret, hlocks, hts, hK, hNs⟩ hP1 hS1 hl
theorem g_alenI {a n : Nat} {v : Int32} (d : decode (ic M) pc = .ok (.arraylength, 1)) (ha : kw Ω a = (20, n)) (hv : nI n = v) (k : G Ω M K (pc + 1) ls (.int v :: st) σ) : G Ω M K pc ls (.ref a :: st) σ := by
  intro B D cA p l e s m args below meth c H locs la C hP hS hl
  obtain ⟨hx, hb, hml, hown, hret, hlocks, hts, hK, hNs⟩ := C
  obtain ⟨h1, h2, h3⟩ := kw_in ha (by simp)
  exact va_alen (x := (n, .inl (σ.1 a))) (ty := .int) hx hb hK hP (a - Ω.1) 0 (by rw [wld_at h1 h2, ent_int h3 (by decide)]) rfl hv d (k B D cA p l e s m args below meth c H locs la ⟨hx, hb, hml, hown, hret, hlocks, hts, hK, hNs⟩ hP hS hl)
theorem g_alenB {a n : Nat} {v : Int32} (d : decode (ic M) pc = .ok (.arraylength, 1)) (ha : kw Ω a = (23, n)) (hv : nI n = v) (k : G Ω M K (pc + 1) ls (.int v :: st) σ) : G Ω M K pc ls (.ref a :: st) σ := by
  intro B D cA p l e s m args below meth c H locs la C hP hS hl
  obtain ⟨hx, hb, hml, hown, hret, hlocks, hts, hK, hNs⟩ := C
  obtain ⟨h1, h2, h3⟩ := kw_in ha (by simp)
  exact va_alen (x := (n, .inl (σ.1 a))) (ty := .byte) hx hb hK hP (a - Ω.1) 3 (by rw [wld_at h1 h2, ent_int h3 (by decide)]) rfl hv d (k B D cA p l e s m args below meth c H locs la ⟨hx, hb, hml, hown, hret, hlocks, hts, hK, hNs⟩ hP hS hl)
end
