/-! Rows of GN over the heap. -/
def kn (n a : Nat) : Nat × Nat := if a < n then kd a else (99, 0)
theorem kn_in {n a : Nat} {q : Nat × Nat} (h : kn n a = q) (hq : q.1 ≠ 99) : a < n ∧ kd a = q := by
  unfold kn at h
  split at h
  · next hh => exact ⟨hh, h⟩
  · exact absurd (by rw [← h]) hq
theorem kn_of {n a : Nat} {q : Nat × Nat} (h : a < n) (h2 : kd a = q) : kn n a = q := by unfold kn; rw [if_pos h]; exact h2
theorem entN_obj {B : Nat} {cA : Nat → ClassId} {z : Nw} {a ci n : Nat} (h : kd a = (ci, n)) (hc : ci < 20) : entN B cA z a = .inr (ci, (List.range n).map (fvN B z a ci)) := by
  unfold entN; rw [h]; exact if_pos hc
theorem entN_long {B : Nat} {cA : Nat → ClassId} {z : Nw} {a n : Nat} (h : kd a = (21, n)) : entN B cA z a = .inl (cA 21, n, .inr (.inl (z.2.2.2 a))) := by
  unfold entN; rw [h]; rfl
theorem entN_int {B : Nat} {cA : Nat → ClassId} {z : Nw} {a c n : Nat} (h : kd a = (c, n)) (hc : c = 20 ∨ c = 22 ∨ c = 23) : entN B cA z a = .inl (cA c, n, .inl (z.2.2.1 a)) := by
  unfold entN; rw [h]
  rcases hc with rfl | rfl | rfl <;> rfl
theorem entN_ref {B : Nat} {cA : Nat → ClassId} {z : Nw} {a c n : Nat} (h : kd a = (c, n)) (hc : 24 ≤ c) : entN B cA z a = .inl (cA c, n, .inr (.inr (.inr (.inr (fun i => if z.2.1 a i = true then some (B + rf a i) else none))))) := by
  unfold entN; rw [h]
  have h1 : ¬ c < 20 := by omega
  have h2 : ¬ c = 21 := by omega
  have h3 : ¬ c < 24 := by omega
  simp only [h1, h2, h3, if_false]
def sV (ν : Nat → Nat → Bool) (a k : Nat) : Nat → Nat → Bool := fun b j => if b = a ∧ j = k then true else ν b j
theorem entN_cg {B : Nat} {cA : Nat → ClassId} {z z' : Nw} {b : Nat} (h1 : ∀ k, z'.2.1 b k = z.2.1 b k) (h2 : z'.2.2.1 b = z.2.2.1 b) (h3 : z'.2.2.2 b = z.2.2.2 b) : entN B cA z' b = entN B cA z b := by
  have hf : fvN B z' b (kd b).1 = fvN B z b (kd b).1 := by
    funext k; unfold fvN; rw [h1, h2]
  unfold entN
  rw [hf, h2, h3]
  simp only [h1]
theorem entN_wI {B : Nat} {cA : Nat → ClassId} {n : Nat} {ν : Nat → Nat → Bool} {σ : Mm} {a j b : Nat} {v : Int32} (h : b ≠ a) : entN B cA (n, ν, wI σ a j v) b = entN B cA (n, ν, σ) b := entN_cg (fun _ => rfl) (if_neg h) rfl
theorem entN_sV {B : Nat} {cA : Nat → ClassId} {n : Nat} {ν : Nat → Nat → Bool} {σ : Mm} {a j b : Nat} (h : b ≠ a) : entN B cA (n, sV ν a j, σ) b = entN B cA (n, ν, σ) b := entN_cg (fun k => if_neg (fun q => h q.1)) rfl rfl
/-- a place for a reference -/
def isP (a k : Nat) : Bool := if (kd a).1 < 20 then isR (kd a).1 k else decide (24 ≤ (kd a).1) && decide (k < (kd a).2)
/-- from n on nothing is there yet -/
def Fr (n : Nat) (ν : Nat → Nat → Bool) (σ : Mm) : Prop := ∀ b, n ≤ b → ∀ k, ν b k = !isP b k ∧ σ.1 b k = 0 ∧ σ.2 b k = 0
theorem Fr.up {n m : Nat} {ν : Nat → Nat → Bool} {σ : Mm} (h : Fr n ν σ) (hm : n ≤ m) : Fr m ν σ := fun b hb k => h b (Nat.le_trans hm hb) k
theorem Fr.pi {n a j : Nat} {v : Int32} {ν : Nat → Nat → Bool} {σ : Mm} (h : Fr n ν σ) (ha : a < n) : Fr n ν (wI σ a j v) := fun b hb k => by
  have hne : b ≠ a := by omega
  have h1 : (wI σ a j v).1 b = σ.1 b := if_neg hne
  have h2 := h b hb k
  exact ⟨h2.1, by rw [h1]; exact h2.2.1, h2.2.2⟩
theorem Fr.pv {n a j : Nat} {ν : Nat → Nat → Bool} {σ : Mm} (h : Fr n ν σ) (ha : a < n) : Fr n (sV ν a j) σ := fun b hb k => by
  have hne : b ≠ a := by omega
  have h2 := h b hb k
  exact ⟨(if_neg (fun q => hne q.1)).trans h2.1, h2.2⟩
section
variable {p : Program} {l : Launch} {e : Env} {R : Room} {s : State} {m : MethodId} {args : Array Value} {below : List Frame} {meth : Method} {c : Code} {H : Heap} {locs : List Loc} {cells slots : Nat} {Q : State → Prop} {g : JFrame}
theorem sizedN {B n0 n : Nat} {D : va_G} {cA : Nat → ClassId} {ν : Nat → Nat → Bool} {σ : Mm} (hP : va_P D vwCl (wN B cA (n, ν, σ)) H) (hE : s.heap.size = B + n0) (hu : n0 + cells = n) (hn : 0 < n) (k : H.size = B + n → W p l e R s m args below meth c H locs cells slots Q g) : W p l e R s m args below meth c H locs cells slots Q g := by
  intro T hT X
  refine k ?_ T hT X
  have h1 : T.heap.size ≤ s.heap.size + cells := X.same.2.2.1
  rw [hT] at h1
  have h2 := (hP (n - 1) _ (wN_at (z := (n, ν, σ)) (show n - 1 < n by omega))).lt
  have h3 : B + (n - 1) < H.size := h2
  omega
end
/-- a field that a constructor puts -/
def FQ (own : String) (idx ci k : Nat) (ty : FieldType) : Prop := ∃ (C : String) (T : u_T) (N : Nat) (ty0 : Nat → FieldType), vwCl[ci]? = some (C, T, N) ∧ k < N ∧ (∀ w ∈ u_ws C T N, w ∈ tbG) ∧ Cond.fieldLink own idx (T k).1 (T k).2.1 (T k).2.2.1 ∈ tbG ∧ (∀ k, k < N → parseFieldDescriptor (T k).2.2.1 = some (ty0 k)) ∧ (∀ a, a < N → ∀ b, b < N → a ≠ b → (T a).2.1 ≠ (T b).2.1) ∧ ((T k).2.2.2 = false ∨ ((T k).2.2.2 = true ∧ (T k).1 = own)) ∧ parseFieldDescriptor (T k).2.2.1 = some ty
/-- a class that is made -/
def NL (own : String) (idx ci N : Nat) : Prop := ∃ (C : String) (T : u_T) (ty0 : Nat → FieldType), vwCl[ci]? = some (C, T, N) ∧ (∀ w ∈ u_ws C T N, w ∈ tbG) ∧ (∀ k, k < N → parseFieldDescriptor (T k).2.2.1 = some (ty0 k)) ∧ Cond.classLink own idx C ∈ tbG ∧ Cond.instantiable C N ∈ tbG ∧ Cond.initialized C ∈ tbG ∧ ∀ j, j < N → defaultValue (ty0 j) = if isR ci j = true then .null else .int 0
theorem fvN_at {B a ci n k : Nat} {z : Nw} (hk : k < n) : ((List.range n).map (fvN B z a ci))[k]? = some (fvN B z a ci k) := by
  rw [List.getElem?_map, List.getElem?_range hk]; rfl
theorem fvN_set {B a ci n k : Nat} {z z' : Nw} {v : Value} (h1 : fvN B z' a ci k = v) (h2 : ∀ j, j ≠ k → fvN B z' a ci j = fvN B z a ci j) : ((List.range n).map (fvN B z a ci)).set k v = (List.range n).map (fvN B z' a ci) := by
  apply List.ext_getElem?
  intro i
  rw [List.getElem?_set, List.length_map, List.length_range]
  by_cases hi : k = i
  · subst hi
    rw [if_pos rfl]
    by_cases hk : k < n
    · rw [if_pos hk, fvN_at hk, h1]
    · rw [if_neg hk, List.getElem?_eq_none (by simpa using hk)]
  · rw [if_neg hi]
    by_cases hk : i < n
    · rw [fvN_at hk, fvN_at hk, h2 i (fun h => hi h.symm)]
    · rw [List.getElem?_eq_none (by simpa using hk), List.getElem?_eq_none (by simpa using hk)]
theorem arrV_ext {cI : ClassId} {N : Nat} {f g : Nat → Value} (h : ∀ j, j < N → f j = g j) : arrV cI N f = arrV cI N g := by
  unfold arrV
  congr 1
  apply Array.ext
  · simp
  · intro i h1 h2
    simp only [Array.getElem_ofFn]
    exact h i (by simpa using h1)
section
variable {M : MI} {R : Nat × Nat} {u us n0 : Nat} {K : Nw → Prop} {pc : Nat} {ls : List (Option Value)} {st : List Value} {n : Nat} {ν : Nat → Nat → Bool} {σ : Mm}
theorem ng_getI {J : JN} {idx a ci nf k : Nat} {v : Int32} (d : decode (ic M) pc = .ok (.getfield idx, 3)) (f : FL (iy M).cls idx ci k) (ha : kn n a = (ci, nf)) (hq : ci < 20 ∧ k < nf ∧ isR ci k = false) (hv : σ.1 a k = v) (k0 : GN M J (pc + 3) ls (.int v :: st) (n, ν, σ)) : GN M J pc ls (.ref a :: st) (n, ν, σ) := by
  subst hv
  intro B D cA p l e s m args below meth c H locs la C hE hP hS hl
  obtain ⟨hx, hb, hml, hown, hret, hlocks, hts, hK, hNs⟩ := C
  obtain ⟨C, T, N, hc, hN, hin, hlk⟩ := f
  obtain ⟨h2, h3⟩ := kn_in ha (by show ci ≠ 99; omega)
  refine va_get (fs := (List.range nf).map (fvN B (n, ν, σ) a ci)) hx hb hts hin hown hK hP a (by rw [wN_at (z := (n, ν, σ)) h2, entN_obj h3 hq.1]) hc k hN (hts _ hlk) (fun _ h9 => h9) (v := .int (σ.1 a k)) (by rw [fvN_at hq.2.1]; unfold fvN; rw [hq.2.2]; rfl) d ?_
  exact k0 B D cA p l e s m args below meth c H locs la ⟨hx, hb, hml, hown, hret, hlocks, hts, hK, hNs⟩ hE hP hS hl
theorem ng_getR {J : JN} {idx a ci nf k r : Nat} (d : decode (ic M) pc = .ok (.getfield idx, 3)) (f : FL (iy M).cls idx ci k) (ha : kn n a = (ci, nf)) (hq : ci < 20 ∧ k < nf ∧ isR ci k = true) (hv : rf a k = r) (hν : ν a k = true) (k0 : GN M J (pc + 3) ls (.ref r :: st) (n, ν, σ)) : GN M J pc ls (.ref a :: st) (n, ν, σ) := by
  subst hv
  intro B D cA p l e s m args below meth c H locs la C hE hP hS hl
  obtain ⟨hx, hb, hml, hown, hret, hlocks, hts, hK, hNs⟩ := C
  obtain ⟨C, T, N, hc, hN, hin, hlk⟩ := f
  obtain ⟨h2, h3⟩ := kn_in ha (by show ci ≠ 99; omega)
  refine va_get (fs := (List.range nf).map (fvN B (n, ν, σ) a ci)) hx hb hts hin hown hK hP a (by rw [wN_at (z := (n, ν, σ)) h2, entN_obj h3 hq.1]) hc k hN (hts _ hlk) (fun _ h9 => h9) (v := .ref (B + rf a k)) (by rw [fvN_at hq.2.1]; unfold fvN; rw [hq.2.2, if_pos rfl, if_pos (show (n, ν, σ).2.1 a k = true from hν)]) d ?_
  exact k0 B D cA p l e s m args below meth c H locs la ⟨hx, hb, hml, hown, hret, hlocks, hts, hK, hNs⟩ hE hP hS hl
/-- a put, by what stands there then -/
theorem ng_putC {J : JN} {idx a ci nf k : Nat} {ty : FieldType} {v : Value} {ν' : Nat → Nat → Bool} {σ' : Mm} (d : decode (ic M) pc = .ok (.putfield idx, 3)) (f : FQ (iy M).cls idx ci k ty) (ha : kn n a = (ci, nf)) (hq : ci < 20 ∧ k < nf) (hnar : ∀ B, narrow ty (cv B v) = cv B v) (hfit : ∀ B, fits ty (cv B v) = true)
    (h1 : ∀ B, fvN B (n, ν', σ') a ci k = cv B v) (h2 : ∀ B j, j ≠ k → fvN B (n, ν', σ') a ci j = fvN B (n, ν, σ) a ci j) (ho : ∀ B cA b, b ≠ a → entN B cA (n, ν', σ') b = entN B cA (n, ν, σ) b) (k0 : GN M J (pc + 3) ls st (n, ν', σ')) : GN M J pc ls (v :: .ref a :: st) (n, ν, σ) := by
  intro B D cA p l e s m args below meth c H locs la C hE hP hS hl
  obtain ⟨hx, hb, hml, hown, hret, hlocks, hts, hK, hNs⟩ := C
  obtain ⟨C, T, N, ty0, hc, hN, hin, hlk, hty0, hnm, hfin, hpd⟩ := f
  obtain ⟨g2, g3⟩ := kn_in ha (by show ci ≠ 99; omega)
  rcases hfin with hfin | ⟨hfin, hdecl⟩
  · refine va_put (fs := (List.range nf).map (fvN B (n, ν, σ) a ci)) hx hb hts hin ty0 hty0 hnm hown hK hP wN_D hS a (by rw [wN_at (z := (n, ν, σ)) g2, entN_obj g3 hq.1]) hc k hN (hts _ hlk) (fun _ h9 => h9) hfin hpd (v := cv B v) (hnar B) (hfit B) (by simpa using hq.2) d (fun H1 locs1 hP1 hD1 hS1 => ?_)
    rw [wN_set (z := (n, ν, σ)) (z' := (n, ν', σ')) g2 rfl (by rw [entN_obj g3 hq.1, ← fvN_set (h1 B) (h2 B)]) (fun b hb2 => ho B cA b hb2)] at hP1
    exact k0 B D cA p l e s m args below meth c H1 locs1 la ⟨hx, hb, hml, hown, hret, hlocks, hts, hK, hNs⟩ hE hP1 hS1 hl
  · refine va_putF (fs := (List.range nf).map (fvN B (n, ν, σ) a ci)) hx hb hts hin ty0 hty0 hnm hown hK hP wN_D hS a (by rw [wN_at (z := (n, ν, σ)) g2, entN_obj g3 hq.1]) hc k hN (hts _ hlk) (fun _ h9 => h9) hfin hE.2.1 hdecl hpd (v := cv B v) (hnar B) (hfit B) (by simpa using hq.2) d (fun H1 locs1 hP1 hD1 hS1 => ?_)
    rw [wN_set (z := (n, ν, σ)) (z' := (n, ν', σ')) g2 rfl (by rw [entN_obj g3 hq.1, ← fvN_set (h1 B) (h2 B)]) (fun b hb2 => ho B cA b hb2)] at hP1
    exact k0 B D cA p l e s m args below meth c H1 locs1 la ⟨hx, hb, hml, hown, hret, hlocks, hts, hK, hNs⟩ hE hP1 hS1 hl
theorem ng_putI {J : JN} {idx a ci nf k : Nat} {x : Int32} (d : decode (ic M) pc = .ok (.putfield idx, 3)) (f : FQ (iy M).cls idx ci k .int) (ha : kn n a = (ci, nf)) (hq : ci < 20 ∧ k < nf ∧ isR ci k = false) (k0 : GN M J (pc + 3) ls st (n, ν, wI σ a k x)) : GN M J pc ls (.int x :: .ref a :: st) (n, ν, σ) := by
  refine ng_putC (ν' := ν) (σ' := wI σ a k x) d f ha ⟨hq.1, hq.2.1⟩ (fun _ => rfl) (fun _ => rfl) (fun B => ?_) (fun B j hj => ?_) (fun B cA b hb => entN_wI hb) k0
  · unfold fvN wI; rw [hq.2.2]; simp [upd, cv]
  · unfold fvN wI; simp [upd, hj]
theorem ng_putR {J : JN} {idx a ci nf k r : Nat} {ty : FieldType} (d : decode (ic M) pc = .ok (.putfield idx, 3)) (f : FQ (iy M).cls idx ci k ty) (ha : kn n a = (ci, nf)) (hq : ci < 20 ∧ k < nf ∧ isR ci k = true) (hty : (∃ C, ty = .object C) ∨ ∃ t, ty = .array t) (hr : rf a k = r) (k0 : GN M J (pc + 3) ls st (n, sV ν a k, σ)) : GN M J pc ls (.ref r :: .ref a :: st) (n, ν, σ) := by
  subst hr
  refine ng_putC (ν' := sV ν a k) (σ' := σ) d f ha ⟨hq.1, hq.2.1⟩ (fun _ => ?_) (fun _ => ?_) (fun B => ?_) (fun B j hj => ?_) (fun B cA b hb => entN_sV hb) k0
  · rcases hty with ⟨C, rfl⟩ | ⟨t, rfl⟩ <;> rfl
  · rcases hty with ⟨C, rfl⟩ | ⟨t, rfl⟩ <;> rfl
  · unfold fvN sV; rw [hq.2.2]; simp [cv]
  · unfold fvN sV; simp [hj]
theorem ng_iast {J : JN} {a len j : Nat} {x : Int32} (d : decode (ic M) pc = .ok (.iastore, 1)) (ha : kn n a = (20, len)) (hj : j < len) (k : GN M J (pc + 1) ls st (n, ν, wI σ a j x)) : GN M J pc ls (.int x :: .int (nI j) :: .ref a :: st) (n, ν, σ) := by
  intro B D cA p l e s m args below meth c H locs la C hE hP hS hl
  obtain ⟨hx, hb, hml, hown, hret, hlocks, hts, hK, hNs⟩ := C
  obtain ⟨h2, h3⟩ := kn_in ha (by simp)
  obtain ⟨e1, e2⟩ := ix_in h3 hj
  refine va_iast hx hb hK hP wN_D hS a 0 (by rw [wN_at (z := (n, ν, σ)) h2, entN_int h3 (by decide)]) rfl e1 d (fun H1 locs1 hP1 hD1 hS1 => ?_)
  rw [e2, wN_set (z := (n, ν, σ)) (z' := (n, ν, wI σ a j x)) h2 rfl (by rw [entN_int h3 (by decide)]; simp only [wI, if_true]) (fun b hb2 => entN_wI hb2)] at hP1
  exact k B D cA p l e s m args below meth c H1 locs1 la ⟨hx, hb, hml, hown, hret, hlocks, hts, hK, hNs⟩ hE hP1 hS1 hl
theorem ng_aald25 {J : JN} {a len j r : Nat} (d : decode (ic M) pc = .ok (.aaload, 1)) (ha : kn n a = (25, len)) (hj : j < len) (hv : rf a j = r) (hν : ν a j = true) (k : GN M J (pc + 1) ls (.ref r :: st) (n, ν, σ)) : GN M J pc ls (.int (nI j) :: .ref a :: st) (n, ν, σ) := by
  subst hv
  intro B D cA p l e s m args below meth c H locs la C hE hP hS hl
  obtain ⟨hx, hb, hml, hown, hret, hlocks, hts, hK, hNs⟩ := C
  obtain ⟨h2, h3⟩ := kn_in ha (by simp)
  obtain ⟨e1, e2⟩ := ix_in h3 hj
  refine va_aldq (C := "FarCells$Script") hx hb hK hP a 5 (by rw [wN_at (z := (n, ν, σ)) h2, entN_ref h3 (by decide)]) rfl e1 d ?_
  rw [e2]
  simp only [hν, if_true]
  exact (k B D cA p l e s m args below meth c H locs la ⟨hx, hb, hml, hown, hret, hlocks, hts, hK, hNs⟩ hE hP hS hl)
theorem ng_aast24 {J : JN} {a len j r nf : Nat} (d : decode (ic M) pc = .ok (.aastore, 1)) (ha : kn n a = (24, len)) (hj : j < len) (hv : rf a j = r) (hr : kn n r = (4, nf)) (k : GN M J (pc + 1) ls st (n, sV ν a j, σ)) : GN M J pc ls (.ref r :: .int (nI j) :: .ref a :: st) (n, ν, σ) := by
  subst hv
  intro B D cA p l e s m args below meth c H locs la C hE hP hS hl
  obtain ⟨hx, hb, hml, hown, hret, hlocks, hts, hK, hNs⟩ := C
  obtain ⟨h2, h3⟩ := kn_in ha (by simp)
  obtain ⟨g2, g3⟩ := kn_in hr (by simp)
  obtain ⟨e1, e2⟩ := ix_in h3 hj
  refine va_astq (r := (RX4, TX4, 9)) hx hb hK hP wN_D hS a 4 (rf a j) 4 (by rw [wN_at (z := (n, ν, σ)) h2, entN_ref h3 (by decide)]) rfl (by rw [wN_at (z := (n, ν, σ)) g2, entN_obj g3 (by decide)]) rfl e1 d (fun H1 locs1 hP1 hD1 hS1 => ?_)
  rw [e2, wN_set (z := (n, ν, σ)) (z' := (n, sV ν a j, σ)) h2 rfl (by
    rw [entN_ref h3 (by decide)]
    have hf : va_up (fun i => if (n, ν, σ).2.1 a i = true then some (B + rf a i) else none) j (some (B + rf a j)) = fun i => if (n, sV ν a j, σ).2.1 a i = true then some (B + rf a i) else none := by
      funext i
      unfold va_up sV
      by_cases hi : i = j
      · subst hi; simp
      · simp [hi]
    rw [hf]) (fun b hb2 => entN_sV hb2)] at hP1
  exact k B D cA p l e s m args below meth c H1 locs1 la ⟨hx, hb, hml, hown, hret, hlocks, hts, hK, hNs⟩ hE hP1 hS1 hl
theorem ng_aast25 {J : JN} {a len j r nf : Nat} (d : decode (ic M) pc = .ok (.aastore, 1)) (ha : kn n a = (25, len)) (hj : j < len) (hv : rf a j = r) (hr : kn n r = (7, nf)) (k : GN M J (pc + 1) ls st (n, sV ν a j, σ)) : GN M J pc ls (.ref r :: .int (nI j) :: .ref a :: st) (n, ν, σ) := by
  subst hv
  intro B D cA p l e s m args below meth c H locs la C hE hP hS hl
  obtain ⟨hx, hb, hml, hown, hret, hlocks, hts, hK, hNs⟩ := C
  obtain ⟨h2, h3⟩ := kn_in ha (by simp)
  obtain ⟨g2, g3⟩ := kn_in hr (by simp)
  obtain ⟨e1, e2⟩ := ix_in h3 hj
  refine va_astq (r := (RX7, TX7, 5)) hx hb hK hP wN_D hS a 5 (rf a j) 7 (by rw [wN_at (z := (n, ν, σ)) h2, entN_ref h3 (by decide)]) rfl (by rw [wN_at (z := (n, ν, σ)) g2, entN_obj g3 (by decide)]) rfl e1 d (fun H1 locs1 hP1 hD1 hS1 => ?_)
  rw [e2, wN_set (z := (n, ν, σ)) (z' := (n, sV ν a j, σ)) h2 rfl (by
    rw [entN_ref h3 (by decide)]
    have hf : va_up (fun i => if (n, ν, σ).2.1 a i = true then some (B + rf a i) else none) j (some (B + rf a j)) = fun i => if (n, sV ν a j, σ).2.1 a i = true then some (B + rf a i) else none := by
      funext i
      unfold va_up sV
      by_cases hi : i = j
      · subst hi; simp
      · simp [hi]
    rw [hf]) (fun b hb2 => entN_sV hb2)] at hP1
  exact k B D cA p l e s m args below meth c H1 locs1 la ⟨hx, hb, hml, hown, hret, hlocks, hts, hK, hNs⟩ hE hP1 hS1 hl
theorem ng_aast26 {J : JN} {a len j r nf : Nat} (d : decode (ic M) pc = .ok (.aastore, 1)) (ha : kn n a = (26, len)) (hj : j < len) (hv : rf a j = r) (hr : kn n r = (8, nf)) (k : GN M J (pc + 1) ls st (n, sV ν a j, σ)) : GN M J pc ls (.ref r :: .int (nI j) :: .ref a :: st) (n, ν, σ) := by
  subst hv
  intro B D cA p l e s m args below meth c H locs la C hE hP hS hl
  obtain ⟨hx, hb, hml, hown, hret, hlocks, hts, hK, hNs⟩ := C
  obtain ⟨h2, h3⟩ := kn_in ha (by simp)
  obtain ⟨g2, g3⟩ := kn_in hr (by simp)
  obtain ⟨e1, e2⟩ := ix_in h3 hj
  refine va_astq (r := (RX8, TX8, 8)) hx hb hK hP wN_D hS a 6 (rf a j) 8 (by rw [wN_at (z := (n, ν, σ)) h2, entN_ref h3 (by decide)]) rfl (by rw [wN_at (z := (n, ν, σ)) g2, entN_obj g3 (by decide)]) rfl e1 d (fun H1 locs1 hP1 hD1 hS1 => ?_)
  rw [e2, wN_set (z := (n, ν, σ)) (z' := (n, sV ν a j, σ)) h2 rfl (by
    rw [entN_ref h3 (by decide)]
    have hf : va_up (fun i => if (n, ν, σ).2.1 a i = true then some (B + rf a i) else none) j (some (B + rf a j)) = fun i => if (n, sV ν a j, σ).2.1 a i = true then some (B + rf a i) else none := by
      funext i
      unfold va_up sV
      by_cases hi : i = j
      · subst hi; simp
      · simp [hi]
    rw [hf]) (fun b hb2 => entN_sV hb2)] at hP1
  exact k B D cA p l e s m args below meth c H1 locs1 la ⟨hx, hb, hml, hown, hret, hlocks, hts, hK, hNs⟩ hE hP1 hS1 hl
theorem ng_aast27 {J : JN} {a len j r nf : Nat} (d : decode (ic M) pc = .ok (.aastore, 1)) (ha : kn n a = (27, len)) (hj : j < len) (hv : rf a j = r) (hr : kn n r = (10, nf)) (k : GN M J (pc + 1) ls st (n, sV ν a j, σ)) : GN M J pc ls (.ref r :: .int (nI j) :: .ref a :: st) (n, ν, σ) := by
  subst hv
  intro B D cA p l e s m args below meth c H locs la C hE hP hS hl
  obtain ⟨hx, hb, hml, hown, hret, hlocks, hts, hK, hNs⟩ := C
  obtain ⟨h2, h3⟩ := kn_in ha (by simp)
  obtain ⟨g2, g3⟩ := kn_in hr (by simp)
  obtain ⟨e1, e2⟩ := ix_in h3 hj
  refine va_astq (r := (RX10, TX10, 8)) hx hb hK hP wN_D hS a 7 (rf a j) 10 (by rw [wN_at (z := (n, ν, σ)) h2, entN_ref h3 (by decide)]) rfl (by rw [wN_at (z := (n, ν, σ)) g2, entN_obj g3 (by decide)]) rfl e1 d (fun H1 locs1 hP1 hD1 hS1 => ?_)
  rw [e2, wN_set (z := (n, ν, σ)) (z' := (n, sV ν a j, σ)) h2 rfl (by
    rw [entN_ref h3 (by decide)]
    have hf : va_up (fun i => if (n, ν, σ).2.1 a i = true then some (B + rf a i) else none) j (some (B + rf a j)) = fun i => if (n, sV ν a j, σ).2.1 a i = true then some (B + rf a i) else none := by
      funext i
      unfold va_up sV
      by_cases hi : i = j
      · subst hi; simp
      · simp [hi]
    rw [hf]) (fun b hb2 => entN_sV hb2)] at hP1
  exact k B D cA p l e s m args below meth c H1 locs1 la ⟨hx, hb, hml, hown, hret, hlocks, hts, hK, hNs⟩ hE hP1 hS1 hl
theorem wN_new {B : Nat} {D : va_G} {cA : Nat → ClassId} {H H1 : Heap} (hP : va_P D vwCl (wN B cA (n, ν, σ)) H) (ho : ∀ q, q < B + n → H1[q]? = H[q]?) (hn : va_at D vwCl (B + n, entN B cA (n + 1, ν, σ) n) H1) : va_P D vwCl (wN B cA (n + 1, ν, σ)) H1 := by
  intro k q hk
  have hlen : k < n + 1 := by
    have := (List.getElem?_eq_some_iff.mp hk).1
    simpa only [wN, List.length_map, List.length_range] using this
  rw [wN_at (z := (n + 1, ν, σ)) hlen] at hk
  cases hk
  by_cases h : k = n
  · subst h; exact hn
  · have hk2 : k < n := by omega
    have h1 := (hP.kept (H1 := H1) (fun k2 x hx => by
      have hl2 : k2 < n := by
        have := (List.getElem?_eq_some_iff.mp hx).1
        simpa only [wN, List.length_map, List.length_range] using this
      rw [wN_at (z := (n, ν, σ)) hl2] at hx
      cases hx
      exact ho _ (by show B + k2 < B + n; omega))) k _ (wN_at (z := (n, ν, σ)) hk2)
    exact h1
theorem ng_new20 {len : Nat} (d : decode (ic M) pc = .ok (.newarray .int, 2)) (hk : kd n = (20, len)) (hu : n0 + u = n) (h0 : 0 < n) (hcap : u + 1 ≤ R.1 ∧ us + len ≤ R.2) (hF : Fr n ν σ) (k : GN M ((R, (u + 1, us + len)), n0, K) (pc + 2) ls (.ref n :: st) (n + 1, ν, σ)) : GN M ((R, (u, us)), n0, K) pc ls (.int (nI len) :: st) (n, ν, σ) := by
  intro B D cA p l e s m args below meth c H locs la C hE hP hS hl
  obtain ⟨hx, hb, hml, hown, hret, hlocks, hts, hK, hNs⟩ := C
  refine sizedN hP hE.1 hu h0 (fun hz => ?_)
  have h33 : len ≤ 3300 := by have := kd_small n; rw [hk] at this; exact this
  refine va_newaK (rest := st.map (cv B)) hx hb (atype := .int) (hts _ (tbG_at 169 (by decide +kernel) (by decide +kernel))) rfl d rfl (nI_nneg (by omega)) (nI_clamp (by omega)) (Nat.le_trans (Nat.mul_le_mul h33 (show componentBytes (newarray.typeOf .int) ≤ 8 by decide)) (by decide)) hcap.1 hcap.2 hz (fun H1 cA1 e1 z1 o1 hAr hNm => ?_)
  have hcA : cA1 = cA 20 := Option.some.inj (hNm.symm.trans (hK.2 0 _ rfl).2)
  subst hcA
  refine k B D cA p l e s m args below meth c H1 locs la ⟨hx, hb, hml, hown, hret, hlocks, hts, hK, hNs⟩ hE (wN_new hP (fun q hq => o1 q hq) ?_) ⟨Nat.le_trans hS.1 (by omega), fun x h1 h2 => (o1 x (by have := hS.1; omega)).trans (hS.2.1 x h1 h2), hS.2.2⟩ hl
  rw [entN_int hk (by decide)]
  refine e1.trans (congrArg some ?_)
  show arrV (cA 20) len _ = arrV (cA 20) len (fun j => .int ((n + 1, ν, σ).2.2.1 n j))
  refine arrV_ext (fun j _ => ?_)
  show defaultValue (newarray.typeOf .int) = _
  rw [show (n + 1, ν, σ).2.2.1 n j = 0 from (hF n (Nat.le_refl _) j).2.1]
  rfl
theorem ng_new22 {len : Nat} (d : decode (ic M) pc = .ok (.newarray .boolean, 2)) (hk : kd n = (22, len)) (hu : n0 + u = n) (h0 : 0 < n) (hcap : u + 1 ≤ R.1 ∧ us + len ≤ R.2) (hF : Fr n ν σ) (k : GN M ((R, (u + 1, us + len)), n0, K) (pc + 2) ls (.ref n :: st) (n + 1, ν, σ)) : GN M ((R, (u, us)), n0, K) pc ls (.int (nI len) :: st) (n, ν, σ) := by
  intro B D cA p l e s m args below meth c H locs la C hE hP hS hl
  obtain ⟨hx, hb, hml, hown, hret, hlocks, hts, hK, hNs⟩ := C
  refine sizedN hP hE.1 hu h0 (fun hz => ?_)
  have h33 : len ≤ 3300 := by have := kd_small n; rw [hk] at this; exact this
  refine va_newaK (rest := st.map (cv B)) hx hb (atype := .boolean) (hts _ (tbG_at 199 (by decide +kernel) (by decide +kernel))) rfl d rfl (nI_nneg (by omega)) (nI_clamp (by omega)) (Nat.le_trans (Nat.mul_le_mul h33 (show componentBytes (newarray.typeOf .boolean) ≤ 8 by decide)) (by decide)) hcap.1 hcap.2 hz (fun H1 cA1 e1 z1 o1 hAr hNm => ?_)
  have hcA : cA1 = cA 22 := Option.some.inj (hNm.symm.trans (hK.2 2 _ rfl).2)
  subst hcA
  refine k B D cA p l e s m args below meth c H1 locs la ⟨hx, hb, hml, hown, hret, hlocks, hts, hK, hNs⟩ hE (wN_new hP (fun q hq => o1 q hq) ?_) ⟨Nat.le_trans hS.1 (by omega), fun x h1 h2 => (o1 x (by have := hS.1; omega)).trans (hS.2.1 x h1 h2), hS.2.2⟩ hl
  rw [entN_int hk (by decide)]
  refine e1.trans (congrArg some ?_)
  show arrV (cA 22) len _ = arrV (cA 22) len (fun j => .int ((n + 1, ν, σ).2.2.1 n j))
  refine arrV_ext (fun j _ => ?_)
  show defaultValue (newarray.typeOf .boolean) = _
  rw [show (n + 1, ν, σ).2.2.1 n j = 0 from (hF n (Nat.le_refl _) j).2.1]
  rfl
theorem ng_new23 {len : Nat} (d : decode (ic M) pc = .ok (.newarray .byte, 2)) (hk : kd n = (23, len)) (hu : n0 + u = n) (h0 : 0 < n) (hcap : u + 1 ≤ R.1 ∧ us + len ≤ R.2) (hF : Fr n ν σ) (k : GN M ((R, (u + 1, us + len)), n0, K) (pc + 2) ls (.ref n :: st) (n + 1, ν, σ)) : GN M ((R, (u, us)), n0, K) pc ls (.int (nI len) :: st) (n, ν, σ) := by
  intro B D cA p l e s m args below meth c H locs la C hE hP hS hl
  obtain ⟨hx, hb, hml, hown, hret, hlocks, hts, hK, hNs⟩ := C
  refine sizedN hP hE.1 hu h0 (fun hz => ?_)
  have h33 : len ≤ 3300 := by have := kd_small n; rw [hk] at this; exact this
  refine va_newaK (rest := st.map (cv B)) hx hb (atype := .byte) (hts _ (tbG_at 567 (by decide +kernel) (by decide +kernel))) rfl d rfl (nI_nneg (by omega)) (nI_clamp (by omega)) (Nat.le_trans (Nat.mul_le_mul h33 (show componentBytes (newarray.typeOf .byte) ≤ 8 by decide)) (by decide)) hcap.1 hcap.2 hz (fun H1 cA1 e1 z1 o1 hAr hNm => ?_)
  have hcA : cA1 = cA 23 := Option.some.inj (hNm.symm.trans (hK.2 3 _ rfl).2)
  subst hcA
  refine k B D cA p l e s m args below meth c H1 locs la ⟨hx, hb, hml, hown, hret, hlocks, hts, hK, hNs⟩ hE (wN_new hP (fun q hq => o1 q hq) ?_) ⟨Nat.le_trans hS.1 (by omega), fun x h1 h2 => (o1 x (by have := hS.1; omega)).trans (hS.2.1 x h1 h2), hS.2.2⟩ hl
  rw [entN_int hk (by decide)]
  refine e1.trans (congrArg some ?_)
  show arrV (cA 23) len _ = arrV (cA 23) len (fun j => .int ((n + 1, ν, σ).2.2.1 n j))
  refine arrV_ext (fun j _ => ?_)
  show defaultValue (newarray.typeOf .byte) = _
  rw [show (n + 1, ν, σ).2.2.1 n j = 0 from (hF n (Nat.le_refl _) j).2.1]
  rfl
theorem ng_new21 {len : Nat} (d : decode (ic M) pc = .ok (.newarray .long, 2)) (hk : kd n = (21, len)) (hu : n0 + u = n) (h0 : 0 < n) (hcap : u + 1 ≤ R.1 ∧ us + len ≤ R.2) (hF : Fr n ν σ) (k : GN M ((R, (u + 1, us + len)), n0, K) (pc + 2) ls (.ref n :: st) (n + 1, ν, σ)) : GN M ((R, (u, us)), n0, K) pc ls (.int (nI len) :: st) (n, ν, σ) := by
  intro B D cA p l e s m args below meth c H locs la C hE hP hS hl
  obtain ⟨hx, hb, hml, hown, hret, hlocks, hts, hK, hNs⟩ := C
  refine sizedN hP hE.1 hu h0 (fun hz => ?_)
  have h33 : len ≤ 3300 := by have := kd_small n; rw [hk] at this; exact this
  refine va_newaK (rest := st.map (cv B)) hx hb (atype := .long) (hts _ (tbG_at 1361 (by decide +kernel) (by decide +kernel))) rfl d rfl (nI_nneg (by omega)) (nI_clamp (by omega)) (Nat.le_trans (Nat.mul_le_mul h33 (show componentBytes (newarray.typeOf .long) ≤ 8 by decide)) (by decide)) hcap.1 hcap.2 hz (fun H1 cA1 e1 z1 o1 hAr hNm => ?_)
  have hcA : cA1 = cA 21 := Option.some.inj (hNm.symm.trans (hK.2 1 _ rfl).2)
  subst hcA
  refine k B D cA p l e s m args below meth c H1 locs la ⟨hx, hb, hml, hown, hret, hlocks, hts, hK, hNs⟩ hE (wN_new hP (fun q hq => o1 q hq) ?_) ⟨Nat.le_trans hS.1 (by omega), fun x h1 h2 => (o1 x (by have := hS.1; omega)).trans (hS.2.1 x h1 h2), hS.2.2⟩ hl
  rw [entN_long hk]
  refine e1.trans (congrArg some ?_)
  show arrV (cA 21) len _ = arrV (cA 21) len (fun j => .long ((n + 1, ν, σ).2.2.2 n j))
  refine arrV_ext (fun j _ => ?_)
  show defaultValue (newarray.typeOf .long) = _
  rw [show (n + 1, ν, σ).2.2.2 n j = 0 from (hF n (Nat.le_refl _) j).2.2]
  rfl
theorem ng_anew24 {idx len : Nat} (d : decode (ic M) pc = .ok (.anewarray idx, 3)) (hlk : Cond.classLink (iy M).cls idx "FarCells$Page" ∈ tbG) (hk : kd n = (24, len)) (hu : n0 + u = n) (h0 : 0 < n) (hcap : u + 1 ≤ R.1 ∧ us + len ≤ R.2) (hF : Fr n ν σ) (k : GN M ((R, (u + 1, us + len)), n0, K) (pc + 3) ls (.ref n :: st) (n + 1, ν, σ)) : GN M ((R, (u, us)), n0, K) pc ls (.int (nI len) :: st) (n, ν, σ) := by
  intro B D cA p l e s m args below meth c H locs la C hE hP hS hl
  obtain ⟨hx, hb, hml, hown, hret, hlocks, hts, hK, hNs⟩ := C
  refine sizedN hP hE.1 hu h0 (fun hz => ?_)
  have h33 : len ≤ 3300 := by have := kd_small n; rw [hk] at this; exact this
  have hcl : (nI len).toNatClampNeg = len := nI_clamp (by omega)
  refine W.anew (rest := st.map (cv B)) hx hb hown (hts _ hlk) (va_AO.use (hE.2.2 _ (by decide))) rfl d rfl (nI_nneg (by omega)) (by rw [hcl]; omega) hcap.1 (by rw [hcl]; exact hcap.2) (fun cA1 kA comp f1 f2 f3 f4 => ?_)
  obtain ⟨kA2, comp2, -, -, -, hNm⟩ := (hK.2 4 _ rfl).2
  have hcA : cA1 = cA 24 := Option.some.inj (f1.symm.trans hNm)
  subst hcA
  rw [hcl, hz]
  generalize hH1 : H.push ({ cls := cA 24, slots := Array.replicate len .null, vm := .none } : Cell) = H1
  have z1 : H1.size = B + n + 1 := by rw [← hH1, Array.size_push, hz]
  have e1 : H1[B + n]? = some (arrV (cA 24) len (fun _ => .null)) := by rw [← hH1, ← hz, Array.getElem?_push_size, ← arrV_new]
  have o1 : ∀ q : Nat, q < B + n → H1[q]? = H[q]? := fun q hq => by rw [← hH1, Array.getElem?_push, if_neg (by omega)]
  refine k B D cA p l e s m args below meth c H1 locs la ⟨hx, hb, hml, hown, hret, hlocks, hts, hK, hNs⟩ hE (wN_new hP (fun q hq => o1 q hq) ?_) ⟨Nat.le_trans hS.1 (by omega), fun x h1 h2 => (o1 x (by have := hS.1; omega)).trans (hS.2.1 x h1 h2), hS.2.2⟩ hl
  rw [entN_ref hk (by decide)]
  show H1[B + n]? = some (vp_cell _ _)
  rw [e1, vp_cell_q]
  refine congrArg some (arrV_ext (fun j hj => ?_))
  have h1 := (hF n (Nat.le_refl _) j).1
  rw [show isP n j = true by unfold isP; rw [hk]; simp [hj]] at h1
  show Value.null = va_rf (if ν n j = true then _ else _)
  rw [h1]
  rfl
theorem ng_anew25 {idx len : Nat} (d : decode (ic M) pc = .ok (.anewarray idx, 3)) (hlk : Cond.classLink (iy M).cls idx "FarCells$Script" ∈ tbG) (hk : kd n = (25, len)) (hu : n0 + u = n) (h0 : 0 < n) (hcap : u + 1 ≤ R.1 ∧ us + len ≤ R.2) (hF : Fr n ν σ) (k : GN M ((R, (u + 1, us + len)), n0, K) (pc + 3) ls (.ref n :: st) (n + 1, ν, σ)) : GN M ((R, (u, us)), n0, K) pc ls (.int (nI len) :: st) (n, ν, σ) := by
  intro B D cA p l e s m args below meth c H locs la C hE hP hS hl
  obtain ⟨hx, hb, hml, hown, hret, hlocks, hts, hK, hNs⟩ := C
  refine sizedN hP hE.1 hu h0 (fun hz => ?_)
  have h33 : len ≤ 3300 := by have := kd_small n; rw [hk] at this; exact this
  have hcl : (nI len).toNatClampNeg = len := nI_clamp (by omega)
  refine W.anew (rest := st.map (cv B)) hx hb hown (hts _ hlk) (va_AO.use (hE.2.2 _ (by decide))) rfl d rfl (nI_nneg (by omega)) (by rw [hcl]; omega) hcap.1 (by rw [hcl]; exact hcap.2) (fun cA1 kA comp f1 f2 f3 f4 => ?_)
  obtain ⟨kA2, comp2, -, -, -, hNm⟩ := (hK.2 5 _ rfl).2
  have hcA : cA1 = cA 25 := Option.some.inj (f1.symm.trans hNm)
  subst hcA
  rw [hcl, hz]
  generalize hH1 : H.push ({ cls := cA 25, slots := Array.replicate len .null, vm := .none } : Cell) = H1
  have z1 : H1.size = B + n + 1 := by rw [← hH1, Array.size_push, hz]
  have e1 : H1[B + n]? = some (arrV (cA 25) len (fun _ => .null)) := by rw [← hH1, ← hz, Array.getElem?_push_size, ← arrV_new]
  have o1 : ∀ q : Nat, q < B + n → H1[q]? = H[q]? := fun q hq => by rw [← hH1, Array.getElem?_push, if_neg (by omega)]
  refine k B D cA p l e s m args below meth c H1 locs la ⟨hx, hb, hml, hown, hret, hlocks, hts, hK, hNs⟩ hE (wN_new hP (fun q hq => o1 q hq) ?_) ⟨Nat.le_trans hS.1 (by omega), fun x h1 h2 => (o1 x (by have := hS.1; omega)).trans (hS.2.1 x h1 h2), hS.2.2⟩ hl
  rw [entN_ref hk (by decide)]
  show H1[B + n]? = some (vp_cell _ _)
  rw [e1, vp_cell_q]
  refine congrArg some (arrV_ext (fun j hj => ?_))
  have h1 := (hF n (Nat.le_refl _) j).1
  rw [show isP n j = true by unfold isP; rw [hk]; simp [hj]] at h1
  show Value.null = va_rf (if ν n j = true then _ else _)
  rw [h1]
  rfl
theorem ng_anew26 {idx len : Nat} (d : decode (ic M) pc = .ok (.anewarray idx, 3)) (hlk : Cond.classLink (iy M).cls idx "FarCells$Shelf" ∈ tbG) (hk : kd n = (26, len)) (hu : n0 + u = n) (h0 : 0 < n) (hcap : u + 1 ≤ R.1 ∧ us + len ≤ R.2) (hF : Fr n ν σ) (k : GN M ((R, (u + 1, us + len)), n0, K) (pc + 3) ls (.ref n :: st) (n + 1, ν, σ)) : GN M ((R, (u, us)), n0, K) pc ls (.int (nI len) :: st) (n, ν, σ) := by
  intro B D cA p l e s m args below meth c H locs la C hE hP hS hl
  obtain ⟨hx, hb, hml, hown, hret, hlocks, hts, hK, hNs⟩ := C
  refine sizedN hP hE.1 hu h0 (fun hz => ?_)
  have h33 : len ≤ 3300 := by have := kd_small n; rw [hk] at this; exact this
  have hcl : (nI len).toNatClampNeg = len := nI_clamp (by omega)
  refine W.anew (rest := st.map (cv B)) hx hb hown (hts _ hlk) (va_AO.use (hE.2.2 _ (by decide))) rfl d rfl (nI_nneg (by omega)) (by rw [hcl]; omega) hcap.1 (by rw [hcl]; exact hcap.2) (fun cA1 kA comp f1 f2 f3 f4 => ?_)
  obtain ⟨kA2, comp2, -, -, -, hNm⟩ := (hK.2 6 _ rfl).2
  have hcA : cA1 = cA 26 := Option.some.inj (f1.symm.trans hNm)
  subst hcA
  rw [hcl, hz]
  generalize hH1 : H.push ({ cls := cA 26, slots := Array.replicate len .null, vm := .none } : Cell) = H1
  have z1 : H1.size = B + n + 1 := by rw [← hH1, Array.size_push, hz]
  have e1 : H1[B + n]? = some (arrV (cA 26) len (fun _ => .null)) := by rw [← hH1, ← hz, Array.getElem?_push_size, ← arrV_new]
  have o1 : ∀ q : Nat, q < B + n → H1[q]? = H[q]? := fun q hq => by rw [← hH1, Array.getElem?_push, if_neg (by omega)]
  refine k B D cA p l e s m args below meth c H1 locs la ⟨hx, hb, hml, hown, hret, hlocks, hts, hK, hNs⟩ hE (wN_new hP (fun q hq => o1 q hq) ?_) ⟨Nat.le_trans hS.1 (by omega), fun x h1 h2 => (o1 x (by have := hS.1; omega)).trans (hS.2.1 x h1 h2), hS.2.2⟩ hl
  rw [entN_ref hk (by decide)]
  show H1[B + n]? = some (vp_cell _ _)
  rw [e1, vp_cell_q]
  refine congrArg some (arrV_ext (fun j hj => ?_))
  have h1 := (hF n (Nat.le_refl _) j).1
  rw [show isP n j = true by unfold isP; rw [hk]; simp [hj]] at h1
  show Value.null = va_rf (if ν n j = true then _ else _)
  rw [h1]
  rfl
theorem ng_anew27 {idx len : Nat} (d : decode (ic M) pc = .ok (.anewarray idx, 3)) (hlk : Cond.classLink (iy M).cls idx "FarCells$Worker" ∈ tbG) (hk : kd n = (27, len)) (hu : n0 + u = n) (h0 : 0 < n) (hcap : u + 1 ≤ R.1 ∧ us + len ≤ R.2) (hF : Fr n ν σ) (k : GN M ((R, (u + 1, us + len)), n0, K) (pc + 3) ls (.ref n :: st) (n + 1, ν, σ)) : GN M ((R, (u, us)), n0, K) pc ls (.int (nI len) :: st) (n, ν, σ) := by
  intro B D cA p l e s m args below meth c H locs la C hE hP hS hl
  obtain ⟨hx, hb, hml, hown, hret, hlocks, hts, hK, hNs⟩ := C
  refine sizedN hP hE.1 hu h0 (fun hz => ?_)
  have h33 : len ≤ 3300 := by have := kd_small n; rw [hk] at this; exact this
  have hcl : (nI len).toNatClampNeg = len := nI_clamp (by omega)
  refine W.anew (rest := st.map (cv B)) hx hb hown (hts _ hlk) (va_AO.use (hE.2.2 _ (by decide))) rfl d rfl (nI_nneg (by omega)) (by rw [hcl]; omega) hcap.1 (by rw [hcl]; exact hcap.2) (fun cA1 kA comp f1 f2 f3 f4 => ?_)
  obtain ⟨kA2, comp2, -, -, -, hNm⟩ := (hK.2 7 _ rfl).2
  have hcA : cA1 = cA 27 := Option.some.inj (f1.symm.trans hNm)
  subst hcA
  rw [hcl, hz]
  generalize hH1 : H.push ({ cls := cA 27, slots := Array.replicate len .null, vm := .none } : Cell) = H1
  have z1 : H1.size = B + n + 1 := by rw [← hH1, Array.size_push, hz]
  have e1 : H1[B + n]? = some (arrV (cA 27) len (fun _ => .null)) := by rw [← hH1, ← hz, Array.getElem?_push_size, ← arrV_new]
  have o1 : ∀ q : Nat, q < B + n → H1[q]? = H[q]? := fun q hq => by rw [← hH1, Array.getElem?_push, if_neg (by omega)]
  refine k B D cA p l e s m args below meth c H1 locs la ⟨hx, hb, hml, hown, hret, hlocks, hts, hK, hNs⟩ hE (wN_new hP (fun q hq => o1 q hq) ?_) ⟨Nat.le_trans hS.1 (by omega), fun x h1 h2 => (o1 x (by have := hS.1; omega)).trans (hS.2.1 x h1 h2), hS.2.2⟩ hl
  rw [entN_ref hk (by decide)]
  show H1[B + n]? = some (vp_cell _ _)
  rw [e1, vp_cell_q]
  refine congrArg some (arrV_ext (fun j hj => ?_))
  have h1 := (hF n (Nat.le_refl _) j).1
  rw [show isP n j = true by unfold isP; rw [hk]; simp [hj]] at h1
  show Value.null = va_rf (if ν n j = true then _ else _)
  rw [h1]
  rfl
theorem ng_newO {idx ci N : Nat} (d : decode (ic M) pc = .ok (.new idx, 3)) (lk : NL (iy M).cls idx ci N) (hci : ci < 20) (hk : kd n = (ci, N)) (hu : n0 + u = n) (h0 : 0 < n) (hcap : u + 1 ≤ R.1 ∧ us + N ≤ R.2) (hF : Fr n ν σ) (k : GN M ((R, (u + 1, us + N)), n0, K) (pc + 3) ls (.ref n :: st) (n + 1, ν, σ)) : GN M ((R, (u, us)), n0, K) pc ls st (n, ν, σ) := by
  intro B D cA p l e s m args below meth c H locs la C hE hP hS hl
  obtain ⟨hx, hb, hml, hown, hret, hlocks, hts, hK, hNs⟩ := C
  obtain ⟨C, T, ty0, hc, hin, hty, l1, l2, l3, hdf⟩ := lk
  refine sizedN hP hE.1 hu h0 (fun hz => ?_)
  have hKn := hK.1 ci _ hc
  refine W.newcK hx hb hown (hts _ l1) (hts _ l2) (hts _ l3) rfl d hcap.1 hcap.2 hKn.2.1 hz (fun H1 kC hkC e1 z1 o1 => ?_)
  refine k B D cA p l e s m args below meth c H1 locs la ⟨hx, hb, hml, hown, hret, hlocks, hts, hK, hNs⟩ hE (wN_new hP (fun q hq => o1 q hq) ?_) ⟨Nat.le_trans hS.1 (by omega), fun x h1 h2 => (o1 x (by have := hS.1; omega)).trans (hS.2.1 x h1 h2), hS.2.2⟩ hl
  rw [entN_obj hk hci]
  refine ⟨_, hc, (u_born ty0 hts hin hKn hkC e1 hty).to (fun j hj => ?_)⟩
  have hj' : j < N := hj
  have h1 := hF n (Nat.le_refl _) j
  have h2 : isP n j = isR ci j := by unfold isP; rw [hk]; exact if_pos hci
  show defaultValue (ty0 j) = vp_V _ j
  rw [hdf j hj']
  unfold vp_V
  rw [List.getD, fvN_at hj']
  unfold fvN
  show _ = if isR ci j = true then (if ν n j = true then _ else _) else Value.int (σ.1 n j)
  rw [h1.1, h1.2.1, h2]
  cases isR ci j <;> rfl
theorem ng_objI {J : JN} {idx a : Nat} (d : decode (ic M) pc = .ok (.invokespecial idx, 3)) (hlk : Cond.methodLink (iy M).cls idx Lib.objectInit ∈ tbG) (hr : 1 ≤ ifr M ∧ (st.map fun v => v.category).sum + 12 ≤ ilw M) (k : GN M J (pc + 3) ls st (n, ν, σ)) : GN M J pc ls (.ref a :: st) (n, ν, σ) := by
  intro B D cA p l e s m args below meth c H locs la C hE hP hS hl
  have C0 := C
  obtain ⟨hx, hb, hml, hown, hret, hlocks, hts, hK, hNs⟩ := C
  exact W.objInit (a := B + a) (rest := st.map (cv B)) hx hb hown (hts _ hlk) (hts _ (tbG_at 89 (by decide +kernel) (by decide +kernel))) (hts _ (tbG_at 90 (by decide +kernel) (by decide +kernel))) rfl (hl.1.trans hml.symm) rfl d hr.1 (by rw [sum_cat]; have := hr.2; show 2 * 0 + _ + 12 ≤ ilw M; omega) (k B D cA p l e s m args below meth c H locs la C0 hE hP hS hl)
end
