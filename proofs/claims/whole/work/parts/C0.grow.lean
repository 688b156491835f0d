/-! The judgement GN: in a constructor; the world grows, and references may be unset. -/
abbrev Nw : Type := Nat × (Nat → Nat → Bool) × Mm
def fvN (B : Nat) (z : Nw) (a ci k : Nat) : Value := if isR ci k = true then (if z.2.1 a k = true then .ref (B + rf a k) else .null) else .int (z.2.2.1 a k)
def entN (B : Nat) (cA : Nat → ClassId) (z : Nw) (a : Nat) : va_E :=
  if (kd a).1 < 20 then .inr ((kd a).1, (List.range (kd a).2).map (fvN B z a (kd a).1))
  else if (kd a).1 = 21 then .inl (cA 21, (kd a).2, .inr (.inl (z.2.2.2 a)))
  else if (kd a).1 < 24 then .inl (cA (kd a).1, (kd a).2, .inl (z.2.2.1 a))
  else .inl (cA (kd a).1, (kd a).2, .inr (.inr (.inr (.inr (fun i => if z.2.1 a i = true then some (B + rf a i) else none)))))
def wN (B : Nat) (cA : Nat → ClassId) (z : Nw) : va_W := (List.range z.1).map (fun i => (B + i, entN B cA z i))
theorem wN_at {B : Nat} {cA : Nat → ClassId} {z : Nw} {a : Nat} (h : a < z.1) : (wN B cA z)[a]? = some (B + a, entN B cA z a) := by
  simp only [wN, List.getElem?_map, List.getElem?_range h, Option.map_some]
theorem wN_set {B : Nat} {cA : Nat → ClassId} {z z' : Nw} {a : Nat} {e : va_E} (h : a < z.1) (hn : z'.1 = z.1) (he : e = entN B cA z' a) (ho : ∀ b, b ≠ a → entN B cA z' b = entN B cA z b) : (wN B cA z).set a (B + a, e) = wN B cA z' := by
  subst he
  apply List.ext_getElem?
  intro i
  rw [List.getElem?_set]
  by_cases hi : a = i
  · subst hi
    have h3 : a < (wN B cA z).length := by simp only [wN, List.length_map, List.length_range]; exact h
    rw [if_pos rfl, if_pos h3, wN_at (by rw [hn]; exact h)]
  · rw [if_neg hi]
    by_cases hl : i < z.1
    · rw [wN_at hl, wN_at (by rw [hn]; exact hl), ho i (fun q => hi q.symm)]
    · have h1 : (wN B cA z)[i]? = none := List.getElem?_eq_none (by simp only [wN, List.length_map, List.length_range]; omega)
      have h2 : (wN B cA z')[i]? = none := List.getElem?_eq_none (by simp only [wN, List.length_map, List.length_range]; omega)
      rw [h1, h2]
theorem wN_D {B : Nat} {cA : Nat → ClassId} {z : Nw} : va_D (fun q => B ≤ q) (wN B cA z) := by
  have key : ∀ (i : Nat) (p : Nat × va_E), (wN B cA z)[i]? = some p → p.1 = B + i := fun i p hi => by
    have hl : i < z.1 := by
      have := (List.getElem?_eq_some_iff.mp hi).1
      simpa only [wN, List.length_map, List.length_range] using this
    rw [wN_at hl] at hi
    cases hi; rfl
  refine ⟨fun i j p q hi hj he => ?_, fun k q hk => ?_⟩
  · rw [key i p hi, key j q hj] at he; omega
  · rw [key k q hk]; exact Nat.le_add_right _ _
theorem wN_snoc {B : Nat} {cA : Nat → ClassId} {n : Nat} {ν : Nat → Nat → Bool} {σ : Mm} : wN B cA (n + 1, ν, σ) = wN B cA (n, ν, σ) ++ [(B + n, entN B cA (n + 1, ν, σ) n)] := by
  simp only [wN, List.range_succ, List.map_append, List.map_cons, List.map_nil]
  rfl
theorem wN_full {B : Nat} {cA : Nat → ClassId} {n : Nat} {ν : Nat → Nat → Bool} {σ : Mm} (h : ∀ a k, a < n → ν a k = true) : wN B cA (n, ν, σ) = wld (0, n) B cA σ := by
  unfold wN wld
  show (List.range n).map _ = (List.range (n - 0)).map _
  rw [Nat.sub_zero]
  refine List.map_congr_left (fun i hi => ?_)
  have hi' := List.mem_range.mp hi
  show (B + i, entN B cA (n, ν, σ) i) = (B + (0 + i), ent B cA σ (0 + i))
  rw [Nat.zero_add]
  have hf : fvN B (n, ν, σ) i (kd i).1 = fval B σ i (kd i).1 := by
    funext k
    unfold fvN fval
    rw [show (n, ν, σ).2.1 i k = true from h i k hi', if_pos rfl]
  have hr : (fun j => if (n, ν, σ).2.1 i j = true then some (B + rf i j) else none) = fun j => some (B + rf i j) := by
    funext j
    rw [show (n, ν, σ).2.1 i j = true from h i j hi', if_pos rfl]
  unfold entN ent
  rw [hf, hr]
def QN (B : Nat) (D : va_G) (cA : Nat → ClassId) (K : Nw → Prop) : Array Value → State → Outcome → State → Prop := fun _ st oc t =>
  (∃ z : Nw, oc = .returned none ∧ K z ∧ va_P D vwCl (wN B cA z) t.heap) ∧ va_F (fun q => B ≤ q) st t
/-- what a constructor needs beside: the classes of its arrays of references -/
def aoL : List String := ["FarCells$Script", "FarCells$Page", "FarCells$Worker", "FarCells$Shelf"]
def AOK (U : State) : Prop := ∀ C ∈ aoL, va_AO C U
def EN (B n0 : Nat) (s : State) (meth : Method) : Prop := s.heap.size = B + n0 ∧ meth.name = "<init>" ∧ AOK s
/-- room, used, the cells at the start, how it returns -/
abbrev JN : Type := ((Nat × Nat) × (Nat × Nat)) × Nat × (Nw → Prop)
def GN (M : MI) (J : JN) (pc : Nat) (ls : List (Option Value)) (st : List Value) (σ : Nw) : Prop :=
  ∀ (B : Nat) (D : va_G) (cA : Nat → ClassId) (p : Program) (l : Launch) (e : Env) (s : State) (m : MethodId) (args : Array Value) (below : List Frame) (meth : Method) (c : Code) (H : Heap) (locs : List Loc) (la : Array Slot),
    Cx M D cA p s m args meth c → EN B J.2.1 s meth → va_P D vwCl (wN B cA σ) H → va_S (fun q => B ≤ q) s.heap H locs → lvR B la (il M) ls →
    W p l e (rmX M J.1.1) s m args below meth c H locs J.1.2.1 J.1.2.2 (MQ below (QN B D cA J.2.2) args s J.1.1.1 J.1.1.2 (fun q => B ≤ q)) (F0 m pc la (st.map (cv B)))
section
variable {M : MI} {J : JN} {pc : Nat} {ls ls' : List (Option Value)} {st : List Value} {σ : Nw}
theorem ng_return (d : decode (ic M) pc = .ok (.return_, 1)) (hr : ir M = none) (h1 : J.1.2.1 ≤ J.1.1.1 ∧ J.1.2.2 ≤ J.1.1.2) (k : J.2.2 σ) : GN M J pc ls [] σ := by
  intro B D cA p l e s m args below meth c H locs la C hE hP hS hl
  obtain ⟨hx, hb, hml, hown, hret, hlocks, hts, hK, hNs⟩ := C
  exact xW h1.1 h1.2 (W.vret hx hb (hret.trans hr) (fun t ht hW => ⟨⟨σ, rfl, k, by rw [ht]; exact hP⟩, hS.F ht⟩) hS.2.2 d hlocks)
theorem ng_iconst {n : Int} {v : Int32} (d : decode (ic M) pc = .ok (.iconst n, 1)) (hv : Int32.ofInt n = v) (k : GN M J (pc + 1) ls (.int v :: st) σ) : GN M J pc ls (st) σ := by
  intro B D cA p l e s m args below meth c H locs la C hE hP hS hl
  obtain ⟨hx, hb, hml, hown, hret, hlocks, hts, hK, hNs⟩ := C
  exact lv_iconst hx hb d hv (k B D cA p l e s m args below meth c H locs la ⟨hx, hb, hml, hown, hret, hlocks, hts, hK, hNs⟩ hE hP hS hl)
theorem ng_bipush {n : Int} {v : Int32} (d : decode (ic M) pc = .ok (.bipush n, 2)) (hv : (Int8.ofInt n).toInt32 = v) (k : GN M J (pc + 2) ls (.int v :: st) σ) : GN M J pc ls (st) σ := by
  intro B D cA p l e s m args below meth c H locs la C hE hP hS hl
  obtain ⟨hx, hb, hml, hown, hret, hlocks, hts, hK, hNs⟩ := C
  exact lv_bipush hx hb d hv (k B D cA p l e s m args below meth c H locs la ⟨hx, hb, hml, hown, hret, hlocks, hts, hK, hNs⟩ hE hP hS hl)
theorem ng_sipush {n : Int} {v : Int32} (d : decode (ic M) pc = .ok (.sipush n, 3)) (hv : (Int16.ofInt n).toInt32 = v) (k : GN M J (pc + 3) ls (.int v :: st) σ) : GN M J pc ls (st) σ := by
  intro B D cA p l e s m args below meth c H locs la C hE hP hS hl
  obtain ⟨hx, hb, hml, hown, hret, hlocks, hts, hK, hNs⟩ := C
  exact lv_sipush hx hb d hv (k B D cA p l e s m args below meth c H locs la ⟨hx, hb, hml, hown, hret, hlocks, hts, hK, hNs⟩ hE hP hS hl)
theorem ng_lconst {n : Fin 2} {v : Int64} (d : decode (ic M) pc = .ok (.lconst n, 1)) (hv : Int64.ofNat (n : Nat) = v) (k : GN M J (pc + 1) ls (.long v :: st) σ) : GN M J pc ls (st) σ := by
  intro B D cA p l e s m args below meth c H locs la C hE hP hS hl
  obtain ⟨hx, hb, hml, hown, hret, hlocks, hts, hK, hNs⟩ := C
  exact lv_lconst hx hb d hv (k B D cA p l e s m args below meth c H locs la ⟨hx, hb, hml, hown, hret, hlocks, hts, hK, hNs⟩ hE hP hS hl)
theorem ng_iload_n {q : Fin 4} {x : Int32} (d : decode (ic M) pc = .ok (.iload_n q, 1)) (hl0 : ls[(q : Nat)]? = some (some (.int x))) (k : GN M J (pc + 1) ls (.int x :: st) σ) : GN M J pc ls (st) σ := by
  intro B D cA p l e s m args below meth c H locs la C hE hP hS hl
  obtain ⟨hx, hb, hml, hown, hret, hlocks, hts, hK, hNs⟩ := C
  exact lv_iload_n hx hb d rfl (hl.at' hl0) (k B D cA p l e s m args below meth c H locs la ⟨hx, hb, hml, hown, hret, hlocks, hts, hK, hNs⟩ hE hP hS hl)
theorem ng_iload {i : Nat} {x : Int32} (d : decode (ic M) pc = .ok (.iload i, 2)) (hl0 : ls[i]? = some (some (.int x))) (k : GN M J (pc + 2) ls (.int x :: st) σ) : GN M J pc ls (st) σ := by
  intro B D cA p l e s m args below meth c H locs la C hE hP hS hl
  obtain ⟨hx, hb, hml, hown, hret, hlocks, hts, hK, hNs⟩ := C
  exact lv_iload hx hb d (hl.at' hl0) (k B D cA p l e s m args below meth c H locs la ⟨hx, hb, hml, hown, hret, hlocks, hts, hK, hNs⟩ hE hP hS hl)
theorem ng_lload_n {q : Fin 4} {x : Int64} (d : decode (ic M) pc = .ok (.lload_n q, 1)) (hl0 : ls[(q : Nat)]? = some (some (.long x))) (k : GN M J (pc + 1) ls (.long x :: st) σ) : GN M J pc ls (st) σ := by
  intro B D cA p l e s m args below meth c H locs la C hE hP hS hl
  obtain ⟨hx, hb, hml, hown, hret, hlocks, hts, hK, hNs⟩ := C
  exact lv_lload_n hx hb d rfl (hl.at' hl0) (k B D cA p l e s m args below meth c H locs la ⟨hx, hb, hml, hown, hret, hlocks, hts, hK, hNs⟩ hE hP hS hl)
theorem ng_lload {i : Nat} {x : Int64} (d : decode (ic M) pc = .ok (.lload i, 2)) (hl0 : ls[i]? = some (some (.long x))) (k : GN M J (pc + 2) ls (.long x :: st) σ) : GN M J pc ls (st) σ := by
  intro B D cA p l e s m args below meth c H locs la C hE hP hS hl
  obtain ⟨hx, hb, hml, hown, hret, hlocks, hts, hK, hNs⟩ := C
  exact lv_lload hx hb d (hl.at' hl0) (k B D cA p l e s m args below meth c H locs la ⟨hx, hb, hml, hown, hret, hlocks, hts, hK, hNs⟩ hE hP hS hl)
theorem ng_aload_n {q : Fin 4} {x : Nat} (d : decode (ic M) pc = .ok (.aload_n q, 1)) (hl0 : ls[(q : Nat)]? = some (some (.ref x))) (k : GN M J (pc + 1) ls (.ref x :: st) σ) : GN M J pc ls (st) σ := by
  intro B D cA p l e s m args below meth c H locs la C hE hP hS hl
  obtain ⟨hx, hb, hml, hown, hret, hlocks, hts, hK, hNs⟩ := C
  exact lv_aload_n hx hb d rfl (hl.at' hl0) (k B D cA p l e s m args below meth c H locs la ⟨hx, hb, hml, hown, hret, hlocks, hts, hK, hNs⟩ hE hP hS hl)
theorem ng_aload {i : Nat} {x : Nat} (d : decode (ic M) pc = .ok (.aload i, 2)) (hl0 : ls[i]? = some (some (.ref x))) (k : GN M J (pc + 2) ls (.ref x :: st) σ) : GN M J pc ls (st) σ := by
  intro B D cA p l e s m args below meth c H locs la C hE hP hS hl
  obtain ⟨hx, hb, hml, hown, hret, hlocks, hts, hK, hNs⟩ := C
  exact lv_aload hx hb d (hl.at' hl0) (k B D cA p l e s m args below meth c H locs la ⟨hx, hb, hml, hown, hret, hlocks, hts, hK, hNs⟩ hE hP hS hl)
theorem ng_istore_n {q : Fin 4} {x : Int32} (d : decode (ic M) pc = .ok (.istore_n q, 1)) (hn : (q : Nat) < il M) (hc : nl2 ls (q : Nat) = true) (hle : (q : Nat) < ls.length) (k : GN M J (pc + 1) (ls.set (q : Nat) (some (.int x))) st σ) : GN M J pc ls (.int x :: st) σ := by
  intro B D cA p l e s m args below meth c H locs la C hE hP hS hl
  obtain ⟨hx, hb, hml, hown, hret, hlocks, hts, hK, hNs⟩ := C
  exact lv_istore_n hx hb d rfl (lvA_has hl) hn rfl (fun la2 hl2 => k B D cA p l e s m args below meth c H locs la2 ⟨hx, hb, hml, hown, hret, hlocks, hts, hK, hNs⟩ hE hP hS (lvR_st1 (x := .int x) hc hle hl2))
theorem ng_istore {i : Nat} {x : Int32} (d : decode (ic M) pc = .ok (.istore i, 2)) (hn : i < il M) (hc : nl2 ls i = true) (hle : i < ls.length) (k : GN M J (pc + 2) (ls.set i (some (.int x))) st σ) : GN M J pc ls (.int x :: st) σ := by
  intro B D cA p l e s m args below meth c H locs la C hE hP hS hl
  obtain ⟨hx, hb, hml, hown, hret, hlocks, hts, hK, hNs⟩ := C
  exact lv_istore hx hb d (lvA_has hl) hn rfl (fun la2 hl2 => k B D cA p l e s m args below meth c H locs la2 ⟨hx, hb, hml, hown, hret, hlocks, hts, hK, hNs⟩ hE hP hS (lvR_st1 (x := .int x) hc hle hl2))
theorem ng_astore_n {q : Fin 4} {x : Nat} (d : decode (ic M) pc = .ok (.astore_n q, 1)) (hn : (q : Nat) < il M) (hc : nl2 ls (q : Nat) = true) (hle : (q : Nat) < ls.length) (k : GN M J (pc + 1) (ls.set (q : Nat) (some (.ref x))) st σ) : GN M J pc ls (.ref x :: st) σ := by
  intro B D cA p l e s m args below meth c H locs la C hE hP hS hl
  obtain ⟨hx, hb, hml, hown, hret, hlocks, hts, hK, hNs⟩ := C
  exact lv_astore_n hx hb d rfl (lvA_has hl) hn rfl (fun la2 hl2 => k B D cA p l e s m args below meth c H locs la2 ⟨hx, hb, hml, hown, hret, hlocks, hts, hK, hNs⟩ hE hP hS (lvR_st1 (x := .ref x) hc hle hl2))
theorem ng_astore {i : Nat} {x : Nat} (d : decode (ic M) pc = .ok (.astore i, 2)) (hn : i < il M) (hc : nl2 ls i = true) (hle : i < ls.length) (k : GN M J (pc + 2) (ls.set i (some (.ref x))) st σ) : GN M J pc ls (.ref x :: st) σ := by
  intro B D cA p l e s m args below meth c H locs la C hE hP hS hl
  obtain ⟨hx, hb, hml, hown, hret, hlocks, hts, hK, hNs⟩ := C
  exact lv_astore hx hb d (lvA_has hl) hn rfl (fun la2 hl2 => k B D cA p l e s m args below meth c H locs la2 ⟨hx, hb, hml, hown, hret, hlocks, hts, hK, hNs⟩ hE hP hS (lvR_st1 (x := .ref x) hc hle hl2))
theorem ng_lstore_n {q : Fin 4} {x : Int64} (d : decode (ic M) pc = .ok (.lstore_n q, 1)) (hn : (q : Nat) + 1 < il M) (hc : nl2 ls (q : Nat) = true) (hle : (q : Nat) < ls.length) (k : GN M J (pc + 1) ((ls.set (q : Nat) (some (.long x))).set ((q : Nat) + 1) none) st σ) : GN M J pc ls (.long x :: st) σ := by
  intro B D cA p l e s m args below meth c H locs la C hE hP hS hl
  obtain ⟨hx, hb, hml, hown, hret, hlocks, hts, hK, hNs⟩ := C
  exact lv_lstore_n hx hb d rfl (lvA_has hl) hn rfl (fun la2 hl2 => k B D cA p l e s m args below meth c H locs la2 ⟨hx, hb, hml, hown, hret, hlocks, hts, hK, hNs⟩ hE hP hS (lvR_st2 (x := .long x) hc hle hl2))
theorem ng_lstore {i : Nat} {x : Int64} (d : decode (ic M) pc = .ok (.lstore i, 2)) (hn : i + 1 < il M) (hc : nl2 ls i = true) (hle : i < ls.length) (k : GN M J (pc + 2) ((ls.set i (some (.long x))).set (i + 1) none) st σ) : GN M J pc ls (.long x :: st) σ := by
  intro B D cA p l e s m args below meth c H locs la C hE hP hS hl
  obtain ⟨hx, hb, hml, hown, hret, hlocks, hts, hK, hNs⟩ := C
  exact lv_lstore hx hb d (lvA_has hl) hn rfl (fun la2 hl2 => k B D cA p l e s m args below meth c H locs la2 ⟨hx, hb, hml, hown, hret, hlocks, hts, hK, hNs⟩ hE hP hS (lvR_st2 (x := .long x) hc hle hl2))
theorem ng_iinc {i : Nat} {n : Int} {x v : Int32} (d : decode (ic M) pc = .ok (.iinc i n, 3)) (hl0 : ls[i]? = some (some (.int x))) (hv : x + Int32.ofInt n = v) (hn : i < il M) (hc : nl2 ls i = true) (k : GN M J (pc + 3) (ls.set i (some (.int v))) st σ) : GN M J pc ls st σ := by
  intro B D cA p l e s m args below meth c H locs la C hE hP hS hl
  obtain ⟨hx, hb, hml, hown, hret, hlocks, hts, hK, hNs⟩ := C
  obtain ⟨j, hj⟩ := List.getElem?_of_mem (lvA_mem (B := B) hl0)
  exact lv_iinc hx hb d (lvA_has hl) hj hv hn rfl (fun la2 hl2 => k B D cA p l e s m args below meth c H locs la2 ⟨hx, hb, hml, hown, hret, hlocks, hts, hK, hNs⟩ hE hP hS (lvR_st1 (x := .int v) hc (List.getElem?_eq_some_iff.mp hl0).1 hl2))
theorem ng_iadd {x y v : Int32} (d : decode (ic M) pc = .ok (.iadd, 1)) (hv : x + y = v) (k : GN M J (pc + 1) ls (.int v :: st) σ) : GN M J pc ls (.int y :: .int x :: st) σ := by
  subst hv
  intro B D cA p l e s m args below meth c H locs la C hE hP hS hl
  obtain ⟨hx, hb, hml, hown, hret, hlocks, hts, hK, hNs⟩ := C
  exact lv_iadd hx hb d (k B D cA p l e s m args below meth c H locs la ⟨hx, hb, hml, hown, hret, hlocks, hts, hK, hNs⟩ hE hP hS hl)
theorem ng_isub {x y v : Int32} (d : decode (ic M) pc = .ok (.isub, 1)) (hv : x - y = v) (k : GN M J (pc + 1) ls (.int v :: st) σ) : GN M J pc ls (.int y :: .int x :: st) σ := by
  subst hv
  intro B D cA p l e s m args below meth c H locs la C hE hP hS hl
  obtain ⟨hx, hb, hml, hown, hret, hlocks, hts, hK, hNs⟩ := C
  exact lv_isub hx hb d (k B D cA p l e s m args below meth c H locs la ⟨hx, hb, hml, hown, hret, hlocks, hts, hK, hNs⟩ hE hP hS hl)
theorem ng_imul {x y v : Int32} (d : decode (ic M) pc = .ok (.imul, 1)) (hv : x * y = v) (k : GN M J (pc + 1) ls (.int v :: st) σ) : GN M J pc ls (.int y :: .int x :: st) σ := by
  subst hv
  intro B D cA p l e s m args below meth c H locs la C hE hP hS hl
  obtain ⟨hx, hb, hml, hown, hret, hlocks, hts, hK, hNs⟩ := C
  exact lv_imul hx hb d (k B D cA p l e s m args below meth c H locs la ⟨hx, hb, hml, hown, hret, hlocks, hts, hK, hNs⟩ hE hP hS hl)
theorem ng_iand {x y v : Int32} (d : decode (ic M) pc = .ok (.iand, 1)) (hv : x &&& y = v) (k : GN M J (pc + 1) ls (.int v :: st) σ) : GN M J pc ls (.int y :: .int x :: st) σ := by
  subst hv
  intro B D cA p l e s m args below meth c H locs la C hE hP hS hl
  obtain ⟨hx, hb, hml, hown, hret, hlocks, hts, hK, hNs⟩ := C
  exact lv_iand hx hb d (k B D cA p l e s m args below meth c H locs la ⟨hx, hb, hml, hown, hret, hlocks, hts, hK, hNs⟩ hE hP hS hl)
theorem ng_ior {x y v : Int32} (d : decode (ic M) pc = .ok (.ior, 1)) (hv : x ||| y = v) (k : GN M J (pc + 1) ls (.int v :: st) σ) : GN M J pc ls (.int y :: .int x :: st) σ := by
  subst hv
  intro B D cA p l e s m args below meth c H locs la C hE hP hS hl
  obtain ⟨hx, hb, hml, hown, hret, hlocks, hts, hK, hNs⟩ := C
  exact lv_ior hx hb d (k B D cA p l e s m args below meth c H locs la ⟨hx, hb, hml, hown, hret, hlocks, hts, hK, hNs⟩ hE hP hS hl)
theorem ng_ixor {x y v : Int32} (d : decode (ic M) pc = .ok (.ixor, 1)) (hv : x ^^^ y = v) (k : GN M J (pc + 1) ls (.int v :: st) σ) : GN M J pc ls (.int y :: .int x :: st) σ := by
  subst hv
  intro B D cA p l e s m args below meth c H locs la C hE hP hS hl
  obtain ⟨hx, hb, hml, hown, hret, hlocks, hts, hK, hNs⟩ := C
  exact lv_ixor hx hb d (k B D cA p l e s m args below meth c H locs la ⟨hx, hb, hml, hown, hret, hlocks, hts, hK, hNs⟩ hE hP hS hl)
theorem ng_ishl {x y v : Int32} (d : decode (ic M) pc = .ok (.ishl, 1)) (hv : x <<< (y &&& 31) = v) (k : GN M J (pc + 1) ls (.int v :: st) σ) : GN M J pc ls (.int y :: .int x :: st) σ := by
  subst hv
  intro B D cA p l e s m args below meth c H locs la C hE hP hS hl
  obtain ⟨hx, hb, hml, hown, hret, hlocks, hts, hK, hNs⟩ := C
  exact lv_ishl hx hb d (k B D cA p l e s m args below meth c H locs la ⟨hx, hb, hml, hown, hret, hlocks, hts, hK, hNs⟩ hE hP hS hl)
theorem ng_ishr {x y v : Int32} (d : decode (ic M) pc = .ok (.ishr, 1)) (hv : x >>> (y &&& 31) = v) (k : GN M J (pc + 1) ls (.int v :: st) σ) : GN M J pc ls (.int y :: .int x :: st) σ := by
  subst hv
  intro B D cA p l e s m args below meth c H locs la C hE hP hS hl
  obtain ⟨hx, hb, hml, hown, hret, hlocks, hts, hK, hNs⟩ := C
  exact lv_ishr hx hb d (k B D cA p l e s m args below meth c H locs la ⟨hx, hb, hml, hown, hret, hlocks, hts, hK, hNs⟩ hE hP hS hl)
theorem ng_idiv {x y v : Int32} (d : decode (ic M) pc = .ok (.idiv, 1)) (hy : ¬ y = 0) (hv : x / y = v) (k : GN M J (pc + 1) ls (.int v :: st) σ) : GN M J pc ls (.int y :: .int x :: st) σ := by
  subst hv
  intro B D cA p l e s m args below meth c H locs la C hE hP hS hl
  obtain ⟨hx, hb, hml, hown, hret, hlocks, hts, hK, hNs⟩ := C
  exact lv_idiv hx hb d hy (k B D cA p l e s m args below meth c H locs la ⟨hx, hb, hml, hown, hret, hlocks, hts, hK, hNs⟩ hE hP hS hl)
theorem ng_irem {x y v : Int32} (d : decode (ic M) pc = .ok (.irem, 1)) (hy : ¬ y = 0) (hv : x - x / y * y = v) (k : GN M J (pc + 1) ls (.int v :: st) σ) : GN M J pc ls (.int y :: .int x :: st) σ := by
  subst hv
  intro B D cA p l e s m args below meth c H locs la C hE hP hS hl
  obtain ⟨hx, hb, hml, hown, hret, hlocks, hts, hK, hNs⟩ := C
  exact lv_irem hx hb d hy (k B D cA p l e s m args below meth c H locs la ⟨hx, hb, hml, hown, hret, hlocks, hts, hK, hNs⟩ hE hP hS hl)
theorem ng_iushr {x y v : Int32} (d : decode (ic M) pc = .ok (.iushr, 1)) (hv : (x.toUInt32 >>> (y.toUInt32 &&& Int32.toUInt32 31)).toInt32 = v) (k : GN M J (pc + 1) ls (.int v :: st) σ) : GN M J pc ls (.int y :: .int x :: st) σ := by
  intro B D cA p l e s m args below meth c H locs la C hE hP hS hl
  obtain ⟨hx, hb, hml, hown, hret, hlocks, hts, hK, hNs⟩ := C
  exact lv_iushr hx hb d hv (k B D cA p l e s m args below meth c H locs la ⟨hx, hb, hml, hown, hret, hlocks, hts, hK, hNs⟩ hE hP hS hl)
theorem ng_ladd {x y v : Int64} (d : decode (ic M) pc = .ok (.ladd, 1)) (hv : x + y = v) (k : GN M J (pc + 1) ls (.long v :: st) σ) : GN M J pc ls (.long y :: .long x :: st) σ := by
  subst hv
  intro B D cA p l e s m args below meth c H locs la C hE hP hS hl
  obtain ⟨hx, hb, hml, hown, hret, hlocks, hts, hK, hNs⟩ := C
  exact lv_ladd hx hb d (k B D cA p l e s m args below meth c H locs la ⟨hx, hb, hml, hown, hret, hlocks, hts, hK, hNs⟩ hE hP hS hl)
theorem ng_lmul {x y v : Int64} (d : decode (ic M) pc = .ok (.lmul, 1)) (hv : x * y = v) (k : GN M J (pc + 1) ls (.long v :: st) σ) : GN M J pc ls (.long y :: .long x :: st) σ := by
  subst hv
  intro B D cA p l e s m args below meth c H locs la C hE hP hS hl
  obtain ⟨hx, hb, hml, hown, hret, hlocks, hts, hK, hNs⟩ := C
  exact lv_lmul hx hb d (k B D cA p l e s m args below meth c H locs la ⟨hx, hb, hml, hown, hret, hlocks, hts, hK, hNs⟩ hE hP hS hl)
theorem ng_lcmp {x y : Int64} {v : Int32} (d : decode (ic M) pc = .ok (.lcmp, 1)) (hv : lg_cmp x y = v) (k : GN M J (pc + 1) ls (.int v :: st) σ) : GN M J pc ls (.long y :: .long x :: st) σ := by
  subst hv
  intro B D cA p l e s m args below meth c H locs la C hE hP hS hl
  obtain ⟨hx, hb, hml, hown, hret, hlocks, hts, hK, hNs⟩ := C
  exact W.lcmp hx hb d (k B D cA p l e s m args below meth c H locs la ⟨hx, hb, hml, hown, hret, hlocks, hts, hK, hNs⟩ hE hP hS hl)
theorem ng_i2l {x : Int32} {v : Int64} (d : decode (ic M) pc = .ok (.i2l, 1)) (hv : x.toInt64 = v) (k : GN M J (pc + 1) ls (.long v :: st) σ) : GN M J pc ls (.int x :: st) σ := by
  intro B D cA p l e s m args below meth c H locs la C hE hP hS hl
  obtain ⟨hx, hb, hml, hown, hret, hlocks, hts, hK, hNs⟩ := C
  exact lv_i2l hx hb d hv (k B D cA p l e s m args below meth c H locs la ⟨hx, hb, hml, hown, hret, hlocks, hts, hK, hNs⟩ hE hP hS hl)
theorem ng_l2i {x : Int64} {v : Int32} (d : decode (ic M) pc = .ok (.l2i, 1)) (hv : x.toInt32 = v) (k : GN M J (pc + 1) ls (.int v :: st) σ) : GN M J pc ls (.long x :: st) σ := by
  intro B D cA p l e s m args below meth c H locs la C hE hP hS hl
  obtain ⟨hx, hb, hml, hown, hret, hlocks, hts, hK, hNs⟩ := C
  exact lv_l2i hx hb d hv (k B D cA p l e s m args below meth c H locs la ⟨hx, hb, hml, hown, hret, hlocks, hts, hK, hNs⟩ hE hP hS hl)
theorem ng_i2b {x : Int32} {v : Int32} (d : decode (ic M) pc = .ok (.i2b, 1)) (hv : x.toInt8.toInt32 = v) (k : GN M J (pc + 1) ls (.int v :: st) σ) : GN M J pc ls (.int x :: st) σ := by
  intro B D cA p l e s m args below meth c H locs la C hE hP hS hl
  obtain ⟨hx, hb, hml, hown, hret, hlocks, hts, hK, hNs⟩ := C
  exact lv_i2b hx hb d hv (k B D cA p l e s m args below meth c H locs la ⟨hx, hb, hml, hown, hret, hlocks, hts, hK, hNs⟩ hE hP hS hl)
theorem ng_dup {x : Value} (d : decode (ic M) pc = .ok (.dup, 1)) (hx1 : x.category = 1) (k : GN M J (pc + 1) ls (x :: x :: st) σ) : GN M J pc ls (x :: st) σ := by
  intro B D cA p l e s m args below meth c H locs la C hE hP hS hl
  obtain ⟨hx, hb, hml, hown, hret, hlocks, hts, hK, hNs⟩ := C
  exact lv_dup hx hb d (by rw [cv_cat]; exact hx1) (k B D cA p l e s m args below meth c H locs la ⟨hx, hb, hml, hown, hret, hlocks, hts, hK, hNs⟩ hE hP hS hl)
theorem ng_pop {x : Value} (d : decode (ic M) pc = .ok (.pop, 1)) (hx1 : x.category = 1) (k : GN M J (pc + 1) ls st σ) : GN M J pc ls (x :: st) σ := by
  intro B D cA p l e s m args below meth c H locs la C hE hP hS hl
  obtain ⟨hx, hb, hml, hown, hret, hlocks, hts, hK, hNs⟩ := C
  exact lv_pop hx hb d (by rw [cv_cat]; exact hx1) (k B D cA p l e s m args below meth c H locs la ⟨hx, hb, hml, hown, hret, hlocks, hts, hK, hNs⟩ hE hP hS hl)
theorem ng_dup2 {x y : Value} (d : decode (ic M) pc = .ok (.dup2, 1)) (hx1 : x.category = 1) (hy1 : y.category = 1) (k : GN M J (pc + 1) ls (x :: y :: x :: y :: st) σ) : GN M J pc ls (x :: y :: st) σ := by
  intro B D cA p l e s m args below meth c H locs la C hE hP hS hl
  obtain ⟨hx, hb, hml, hown, hret, hlocks, hts, hK, hNs⟩ := C
  exact lv_dup2_11 hx hb d (by rw [cv_cat]; exact hx1) (by rw [cv_cat]; exact hy1) (k B D cA p l e s m args below meth c H locs la ⟨hx, hb, hml, hown, hret, hlocks, hts, hK, hNs⟩ hE hP hS hl)
theorem ng_if_eq {x : Int32} {off : Int} {tgt : Nat} (d : decode (ic M) pc = .ok (.ifCond .eq off, 3)) (ht : (pc : Int) + off = (tgt : Int)) (kt : x = 0 → GN M J tgt ls st σ) (kf : ¬ (x = 0) → GN M J (pc + 3) ls st σ) : GN M J pc ls (.int x :: st) σ := by
  intro B D cA p l e s m args below meth c H locs la C hE hP hS hl
  obtain ⟨hx, hb, hml, hown, hret, hlocks, hts, hK, hNs⟩ := C
  exact lv_if_eq hx hb d ht (fun h => kt h B D cA p l e s m args below meth c H locs la ⟨hx, hb, hml, hown, hret, hlocks, hts, hK, hNs⟩ hE hP hS hl) (fun h => kf h B D cA p l e s m args below meth c H locs la ⟨hx, hb, hml, hown, hret, hlocks, hts, hK, hNs⟩ hE hP hS hl)
theorem ng_icmp_eq {x y : Int32} {off : Int} {tgt : Nat} (d : decode (ic M) pc = .ok (.if_icmp .eq off, 3)) (ht : (pc : Int) + off = (tgt : Int)) (kt : x = y → GN M J tgt ls st σ) (kf : ¬ (x = y) → GN M J (pc + 3) ls st σ) : GN M J pc ls (.int y :: .int x :: st) σ := by
  intro B D cA p l e s m args below meth c H locs la C hE hP hS hl
  obtain ⟨hx, hb, hml, hown, hret, hlocks, hts, hK, hNs⟩ := C
  exact lv_icmp_eq hx hb d ht (fun h => kt h B D cA p l e s m args below meth c H locs la ⟨hx, hb, hml, hown, hret, hlocks, hts, hK, hNs⟩ hE hP hS hl) (fun h => kf h B D cA p l e s m args below meth c H locs la ⟨hx, hb, hml, hown, hret, hlocks, hts, hK, hNs⟩ hE hP hS hl)
theorem ng_if_ne {x : Int32} {off : Int} {tgt : Nat} (d : decode (ic M) pc = .ok (.ifCond .ne off, 3)) (ht : (pc : Int) + off = (tgt : Int)) (kt : ¬ x = 0 → GN M J tgt ls st σ) (kf : x = 0 → GN M J (pc + 3) ls st σ) : GN M J pc ls (.int x :: st) σ := by
  intro B D cA p l e s m args below meth c H locs la C hE hP hS hl
  obtain ⟨hx, hb, hml, hown, hret, hlocks, hts, hK, hNs⟩ := C
  exact lv_if_ne hx hb d ht (fun h => kt h B D cA p l e s m args below meth c H locs la ⟨hx, hb, hml, hown, hret, hlocks, hts, hK, hNs⟩ hE hP hS hl) (fun h => kf h B D cA p l e s m args below meth c H locs la ⟨hx, hb, hml, hown, hret, hlocks, hts, hK, hNs⟩ hE hP hS hl)
theorem ng_icmp_ne {x y : Int32} {off : Int} {tgt : Nat} (d : decode (ic M) pc = .ok (.if_icmp .ne off, 3)) (ht : (pc : Int) + off = (tgt : Int)) (kt : ¬ x = y → GN M J tgt ls st σ) (kf : x = y → GN M J (pc + 3) ls st σ) : GN M J pc ls (.int y :: .int x :: st) σ := by
  intro B D cA p l e s m args below meth c H locs la C hE hP hS hl
  obtain ⟨hx, hb, hml, hown, hret, hlocks, hts, hK, hNs⟩ := C
  exact lv_icmp_ne hx hb d ht (fun h => kt h B D cA p l e s m args below meth c H locs la ⟨hx, hb, hml, hown, hret, hlocks, hts, hK, hNs⟩ hE hP hS hl) (fun h => kf h B D cA p l e s m args below meth c H locs la ⟨hx, hb, hml, hown, hret, hlocks, hts, hK, hNs⟩ hE hP hS hl)
theorem ng_if_lt {x : Int32} {off : Int} {tgt : Nat} (d : decode (ic M) pc = .ok (.ifCond .lt off, 3)) (ht : (pc : Int) + off = (tgt : Int)) (kt : x < 0 → GN M J tgt ls st σ) (kf : ¬ (x < 0) → GN M J (pc + 3) ls st σ) : GN M J pc ls (.int x :: st) σ := by
  intro B D cA p l e s m args below meth c H locs la C hE hP hS hl
  obtain ⟨hx, hb, hml, hown, hret, hlocks, hts, hK, hNs⟩ := C
  exact lv_if_lt hx hb d ht (fun h => kt h B D cA p l e s m args below meth c H locs la ⟨hx, hb, hml, hown, hret, hlocks, hts, hK, hNs⟩ hE hP hS hl) (fun h => kf h B D cA p l e s m args below meth c H locs la ⟨hx, hb, hml, hown, hret, hlocks, hts, hK, hNs⟩ hE hP hS hl)
theorem ng_icmp_lt {x y : Int32} {off : Int} {tgt : Nat} (d : decode (ic M) pc = .ok (.if_icmp .lt off, 3)) (ht : (pc : Int) + off = (tgt : Int)) (kt : x < y → GN M J tgt ls st σ) (kf : ¬ (x < y) → GN M J (pc + 3) ls st σ) : GN M J pc ls (.int y :: .int x :: st) σ := by
  intro B D cA p l e s m args below meth c H locs la C hE hP hS hl
  obtain ⟨hx, hb, hml, hown, hret, hlocks, hts, hK, hNs⟩ := C
  exact lv_icmp_lt hx hb d ht (fun h => kt h B D cA p l e s m args below meth c H locs la ⟨hx, hb, hml, hown, hret, hlocks, hts, hK, hNs⟩ hE hP hS hl) (fun h => kf h B D cA p l e s m args below meth c H locs la ⟨hx, hb, hml, hown, hret, hlocks, hts, hK, hNs⟩ hE hP hS hl)
theorem ng_if_ge {x : Int32} {off : Int} {tgt : Nat} (d : decode (ic M) pc = .ok (.ifCond .ge off, 3)) (ht : (pc : Int) + off = (tgt : Int)) (kt : 0 ≤ x → GN M J tgt ls st σ) (kf : ¬ (0 ≤ x) → GN M J (pc + 3) ls st σ) : GN M J pc ls (.int x :: st) σ := by
  intro B D cA p l e s m args below meth c H locs la C hE hP hS hl
  obtain ⟨hx, hb, hml, hown, hret, hlocks, hts, hK, hNs⟩ := C
  exact lv_if_ge hx hb d ht (fun h => kt h B D cA p l e s m args below meth c H locs la ⟨hx, hb, hml, hown, hret, hlocks, hts, hK, hNs⟩ hE hP hS hl) (fun h => kf h B D cA p l e s m args below meth c H locs la ⟨hx, hb, hml, hown, hret, hlocks, hts, hK, hNs⟩ hE hP hS hl)
theorem ng_icmp_ge {x y : Int32} {off : Int} {tgt : Nat} (d : decode (ic M) pc = .ok (.if_icmp .ge off, 3)) (ht : (pc : Int) + off = (tgt : Int)) (kt : y ≤ x → GN M J tgt ls st σ) (kf : ¬ (y ≤ x) → GN M J (pc + 3) ls st σ) : GN M J pc ls (.int y :: .int x :: st) σ := by
  intro B D cA p l e s m args below meth c H locs la C hE hP hS hl
  obtain ⟨hx, hb, hml, hown, hret, hlocks, hts, hK, hNs⟩ := C
  exact lv_icmp_ge hx hb d ht (fun h => kt h B D cA p l e s m args below meth c H locs la ⟨hx, hb, hml, hown, hret, hlocks, hts, hK, hNs⟩ hE hP hS hl) (fun h => kf h B D cA p l e s m args below meth c H locs la ⟨hx, hb, hml, hown, hret, hlocks, hts, hK, hNs⟩ hE hP hS hl)
theorem ng_if_gt {x : Int32} {off : Int} {tgt : Nat} (d : decode (ic M) pc = .ok (.ifCond .gt off, 3)) (ht : (pc : Int) + off = (tgt : Int)) (kt : 0 < x → GN M J tgt ls st σ) (kf : ¬ (0 < x) → GN M J (pc + 3) ls st σ) : GN M J pc ls (.int x :: st) σ := by
  intro B D cA p l e s m args below meth c H locs la C hE hP hS hl
  obtain ⟨hx, hb, hml, hown, hret, hlocks, hts, hK, hNs⟩ := C
  exact lv_if_gt hx hb d ht (fun h => kt h B D cA p l e s m args below meth c H locs la ⟨hx, hb, hml, hown, hret, hlocks, hts, hK, hNs⟩ hE hP hS hl) (fun h => kf h B D cA p l e s m args below meth c H locs la ⟨hx, hb, hml, hown, hret, hlocks, hts, hK, hNs⟩ hE hP hS hl)
theorem ng_icmp_gt {x y : Int32} {off : Int} {tgt : Nat} (d : decode (ic M) pc = .ok (.if_icmp .gt off, 3)) (ht : (pc : Int) + off = (tgt : Int)) (kt : y < x → GN M J tgt ls st σ) (kf : ¬ (y < x) → GN M J (pc + 3) ls st σ) : GN M J pc ls (.int y :: .int x :: st) σ := by
  intro B D cA p l e s m args below meth c H locs la C hE hP hS hl
  obtain ⟨hx, hb, hml, hown, hret, hlocks, hts, hK, hNs⟩ := C
  exact lv_icmp_gt hx hb d ht (fun h => kt h B D cA p l e s m args below meth c H locs la ⟨hx, hb, hml, hown, hret, hlocks, hts, hK, hNs⟩ hE hP hS hl) (fun h => kf h B D cA p l e s m args below meth c H locs la ⟨hx, hb, hml, hown, hret, hlocks, hts, hK, hNs⟩ hE hP hS hl)
theorem ng_if_le {x : Int32} {off : Int} {tgt : Nat} (d : decode (ic M) pc = .ok (.ifCond .le off, 3)) (ht : (pc : Int) + off = (tgt : Int)) (kt : x ≤ 0 → GN M J tgt ls st σ) (kf : ¬ (x ≤ 0) → GN M J (pc + 3) ls st σ) : GN M J pc ls (.int x :: st) σ := by
  intro B D cA p l e s m args below meth c H locs la C hE hP hS hl
  obtain ⟨hx, hb, hml, hown, hret, hlocks, hts, hK, hNs⟩ := C
  exact lv_if_le hx hb d ht (fun h => kt h B D cA p l e s m args below meth c H locs la ⟨hx, hb, hml, hown, hret, hlocks, hts, hK, hNs⟩ hE hP hS hl) (fun h => kf h B D cA p l e s m args below meth c H locs la ⟨hx, hb, hml, hown, hret, hlocks, hts, hK, hNs⟩ hE hP hS hl)
theorem ng_icmp_le {x y : Int32} {off : Int} {tgt : Nat} (d : decode (ic M) pc = .ok (.if_icmp .le off, 3)) (ht : (pc : Int) + off = (tgt : Int)) (kt : x ≤ y → GN M J tgt ls st σ) (kf : ¬ (x ≤ y) → GN M J (pc + 3) ls st σ) : GN M J pc ls (.int y :: .int x :: st) σ := by
  intro B D cA p l e s m args below meth c H locs la C hE hP hS hl
  obtain ⟨hx, hb, hml, hown, hret, hlocks, hts, hK, hNs⟩ := C
  exact lv_icmp_le hx hb d ht (fun h => kt h B D cA p l e s m args below meth c H locs la ⟨hx, hb, hml, hown, hret, hlocks, hts, hK, hNs⟩ hE hP hS hl) (fun h => kf h B D cA p l e s m args below meth c H locs la ⟨hx, hb, hml, hown, hret, hlocks, hts, hK, hNs⟩ hE hP hS hl)
theorem ng_goto {off : Int} {tgt : Nat} (d : decode (ic M) pc = .ok (.goto off, 3)) (ht : (pc : Int) + off = (tgt : Int)) (k : GN M J tgt ls st σ) : GN M J pc ls st σ := by
  intro B D cA p l e s m args below meth c H locs la C hE hP hS hl
  obtain ⟨hx, hb, hml, hown, hret, hlocks, hts, hK, hNs⟩ := C
  exact lv_goto hx hb d ht (k B D cA p l e s m args below meth c H locs la ⟨hx, hb, hml, hown, hret, hlocks, hts, hK, hNs⟩ hE hP hS hl)
theorem ng_tableOut {dflt lo hi : Int} {offs : Array Int} {len : Nat} {x : Int32} {tgt : Nat} (d : decode (ic M) pc = .ok (.tableswitch dflt lo hi offs, len)) (h : x.toInt < lo ∨ hi < x.toInt) (ht : (pc : Int) + dflt = (tgt : Int)) (k : GN M J tgt ls st σ) : GN M J pc ls (.int x :: st) σ := by
  intro B D cA p l e s m args below meth c H locs la C hE hP hS hl
  obtain ⟨hx, hb, hml, hown, hret, hlocks, hts, hK, hNs⟩ := C
  exact lv_tableOut hx hb d h ht (k B D cA p l e s m args below meth c H locs la ⟨hx, hb, hml, hown, hret, hlocks, hts, hK, hNs⟩ hE hP hS hl)
theorem ng_tableIn {dflt lo hi : Int} {offs : Array Int} {len : Nat} {x : Int32} {off : Int} {tgt : Nat} (d : decode (ic M) pc = .ok (.tableswitch dflt lo hi offs, len)) (h1 : ¬ x.toInt < lo) (h2 : ¬ hi < x.toInt) (ho : offs[(x.toInt - lo).toNat]? = some off) (ht : (pc : Int) + off = (tgt : Int)) (k : GN M J tgt ls st σ) : GN M J pc ls (.int x :: st) σ := by
  intro B D cA p l e s m args below meth c H locs la C hE hP hS hl
  obtain ⟨hx, hb, hml, hown, hret, hlocks, hts, hK, hNs⟩ := C
  exact lv_tableIn hx hb d h1 h2 ho ht (k B D cA p l e s m args below meth c H locs la ⟨hx, hb, hml, hown, hret, hlocks, hts, hK, hNs⟩ hE hP hS hl)
theorem ng_lookup {dflt : Int} {ps : Array (Int × Int)} {len : Nat} {x : Int32} {off : Int} {tgt : Nat} (d : decode (ic M) pc = .ok (.lookupswitch dflt ps, len)) (hp : (ps.toList.zip (ps.toList.drop 1)).all (fun (a, next) => a.1 < next.1) = true) (ho : Op.lookupswitch.offset ps.toList dflt x.toInt = off) (ht : (pc : Int) + off = (tgt : Int)) (k : GN M J tgt ls st σ) : GN M J pc ls (.int x :: st) σ := by
  intro B D cA p l e s m args below meth c H locs la C hE hP hS hl
  obtain ⟨hx, hb, hml, hown, hret, hlocks, hts, hK, hNs⟩ := C
  exact lv_lookup hx hb d hp ho ht (k B D cA p l e s m args below meth c H locs la ⟨hx, hb, hml, hown, hret, hlocks, hts, hK, hNs⟩ hE hP hS hl)
theorem ng_ldc {index : Nat} {v : Int32} (d : decode (ic M) pc = .ok (.ldc index, 2)) (hc : Cond.constant (iy M).cls index v ∈ tbG) (k : GN M J (pc + 2) ls (.int v :: st) σ) : GN M J pc ls st σ := by
  intro B D cA p l e s m args below meth c H locs la C hE hP hS hl
  obtain ⟨hx, hb, hml, hown, hret, hlocks, hts, hK, hNs⟩ := C
  exact lv_ldc hx hb hown (hts _ hc) d (k B D cA p l e s m args below meth c H locs la ⟨hx, hb, hml, hown, hret, hlocks, hts, hK, hNs⟩ hE hP hS hl)
theorem ng_ldc_w {index : Nat} {v : Int32} (d : decode (ic M) pc = .ok (.ldc_w index, 3)) (hc : Cond.constant (iy M).cls index v ∈ tbG) (k : GN M J (pc + 3) ls (.int v :: st) σ) : GN M J pc ls st σ := by
  intro B D cA p l e s m args below meth c H locs la C hE hP hS hl
  obtain ⟨hx, hb, hml, hown, hret, hlocks, hts, hK, hNs⟩ := C
  exact lv_ldcw hx hb hown (hts _ hc) d (k B D cA p l e s m args below meth c H locs la ⟨hx, hb, hml, hown, hret, hlocks, hts, hK, hNs⟩ hE hP hS hl)
theorem ng_ldc2 {index : Nat} {v : Int64} (d : decode (ic M) pc = .ok (.ldc2_w index, 3)) (hc : Cond.constantLong (iy M).cls index v ∈ tbG) (k : GN M J (pc + 3) ls (.long v :: st) σ) : GN M J pc ls st σ := by
  intro B D cA p l e s m args below meth c H locs la C hE hP hS hl
  obtain ⟨hx, hb, hml, hown, hret, hlocks, hts, hK, hNs⟩ := C
  exact lv_ldc2 hx hb hown (hts _ hc) d (k B D cA p l e s m args below meth c H locs la ⟨hx, hb, hml, hown, hret, hlocks, hts, hK, hNs⟩ hE hP hS hl)
theorem ngs_istore_n {q : Fin 4} {i : Nat} {x : Int32} (d : decode (ic M) pc = .ok (.istore_n q, 1)) (hi : (q : Nat) = i) (hok : okS M ls i = true) (hs : ls.set i (some (.int x)) = ls') (k : GN M J (pc + 1) ls' st σ) : GN M J pc ls (.int x :: st) σ := by
  subst hi; subst hs
  obtain ⟨h1, h2, h3⟩ := okS_1 hok
  exact ng_istore_n d h1 h2 h3 k
theorem ngs_istore {i : Nat} {x : Int32} (d : decode (ic M) pc = .ok (.istore i, 2)) (hok : okS M ls i = true) (hs : ls.set i (some (.int x)) = ls') (k : GN M J (pc + 2) ls' st σ) : GN M J pc ls (.int x :: st) σ := by
  subst hs
  obtain ⟨h1, h2, h3⟩ := okS_1 hok
  exact ng_istore d h1 h2 h3 k
theorem ngs_astore_n {q : Fin 4} {i : Nat} {x : Nat} (d : decode (ic M) pc = .ok (.astore_n q, 1)) (hi : (q : Nat) = i) (hok : okS M ls i = true) (hs : ls.set i (some (.ref x)) = ls') (k : GN M J (pc + 1) ls' st σ) : GN M J pc ls (.ref x :: st) σ := by
  subst hi; subst hs
  obtain ⟨h1, h2, h3⟩ := okS_1 hok
  exact ng_astore_n d h1 h2 h3 k
theorem ngs_astore {i : Nat} {x : Nat} (d : decode (ic M) pc = .ok (.astore i, 2)) (hok : okS M ls i = true) (hs : ls.set i (some (.ref x)) = ls') (k : GN M J (pc + 2) ls' st σ) : GN M J pc ls (.ref x :: st) σ := by
  subst hs
  obtain ⟨h1, h2, h3⟩ := okS_1 hok
  exact ng_astore d h1 h2 h3 k
theorem ngs_lstore_n {q : Fin 4} {i : Nat} {x : Int64} (d : decode (ic M) pc = .ok (.lstore_n q, 1)) (hi : (q : Nat) = i) (hok : okS2 M ls i = true) (hs : (ls.set i (some (.long x))).set (i + 1) none = ls') (k : GN M J (pc + 1) ls' st σ) : GN M J pc ls (.long x :: st) σ := by
  subst hi; subst hs
  obtain ⟨h1, h2, h3⟩ := okS_2 hok
  exact ng_lstore_n d h1 h2 h3 k
theorem ngs_lstore {i : Nat} {x : Int64} (d : decode (ic M) pc = .ok (.lstore i, 2)) (hok : okS2 M ls i = true) (hs : (ls.set i (some (.long x))).set (i + 1) none = ls') (k : GN M J (pc + 2) ls' st σ) : GN M J pc ls (.long x :: st) σ := by
  subst hs
  obtain ⟨h1, h2, h3⟩ := okS_2 hok
  exact ng_lstore d h1 h2 h3 k
theorem ngs_iinc {i : Nat} {n : Int} {x v : Int32} (d : decode (ic M) pc = .ok (.iinc i n, 3)) (hl0 : ls[i]? = some (some (.int x))) (hv : x + Int32.ofInt n = v) (hok : okS M ls i = true) (hs : ls.set i (some (.int v)) = ls') (k : GN M J (pc + 3) ls' st σ) : GN M J pc ls st σ := by
  subst hs
  obtain ⟨h1, h2, h3⟩ := okS_1 hok
  exact ng_iinc d hl0 hv h1 h2 k
theorem ngs_iload_n {q : Fin 4} {i : Nat} {x : Int32} (d : decode (ic M) pc = .ok (.iload_n q, 1)) (hi : (q : Nat) = i) (hl0 : ls[i]? = some (some (.int x))) (k : GN M J (pc + 1) ls (.int x :: st) σ) : GN M J pc ls st σ := by
  subst hi
  exact ng_iload_n d hl0 k
theorem ngs_lload_n {q : Fin 4} {i : Nat} {x : Int64} (d : decode (ic M) pc = .ok (.lload_n q, 1)) (hi : (q : Nat) = i) (hl0 : ls[i]? = some (some (.long x))) (k : GN M J (pc + 1) ls (.long x :: st) σ) : GN M J pc ls st σ := by
  subst hi
  exact ng_lload_n d hl0 k
theorem ngs_aload_n {q : Fin 4} {i : Nat} {x : Nat} (d : decode (ic M) pc = .ok (.aload_n q, 1)) (hi : (q : Nat) = i) (hl0 : ls[i]? = some (some (.ref x))) (k : GN M J (pc + 1) ls (.ref x :: st) σ) : GN M J pc ls st σ := by
  subst hi
  exact ng_aload_n d hl0 k
theorem ngn_icmp_eq {a b : Nat} {off : Int} {tgt : Nat} (d : decode (ic M) pc = .ok (.if_icmp .eq off, 3)) (ht : (pc : Int) + off = (tgt : Int)) (ha : a < 2 ^ 31) (hb : b < 2 ^ 31) (kt : a = b → GN M J tgt ls st σ) (kf : ¬ a = b → GN M J (pc + 3) ls st σ) : GN M J pc ls (.int (nI b) :: .int (nI a) :: st) σ := ng_icmp_eq d ht (fun h => kt ((nI_eq ha hb).mp h)) (fun h => kf (fun q => h ((nI_eq ha hb).mpr q)))
theorem ngt_icmp_eq {a b : Nat} {off : Int} {tgt : Nat} (d : decode (ic M) pc = .ok (.if_icmp .eq off, 3)) (ht : (pc : Int) + off = (tgt : Int)) (ha : a < 2 ^ 31) (hb : b < 2 ^ 31) (hc : a = b) (kt : GN M J tgt ls st σ) : GN M J pc ls (.int (nI b) :: .int (nI a) :: st) σ := ngn_icmp_eq d ht ha hb (fun _ => kt) (fun h => absurd h (by omega))
theorem ngf_icmp_eq {a b : Nat} {off : Int} {tgt : Nat} (d : decode (ic M) pc = .ok (.if_icmp .eq off, 3)) (ht : (pc : Int) + off = (tgt : Int)) (ha : a < 2 ^ 31) (hb : b < 2 ^ 31) (hc : ¬ a = b) (kf : GN M J (pc + 3) ls st σ) : GN M J pc ls (.int (nI b) :: .int (nI a) :: st) σ := ngn_icmp_eq d ht ha hb (fun h => absurd h (by omega)) (fun _ => kf)
theorem ngn_icmp_ne {a b : Nat} {off : Int} {tgt : Nat} (d : decode (ic M) pc = .ok (.if_icmp .ne off, 3)) (ht : (pc : Int) + off = (tgt : Int)) (ha : a < 2 ^ 31) (hb : b < 2 ^ 31) (kt : ¬ a = b → GN M J tgt ls st σ) (kf : a = b → GN M J (pc + 3) ls st σ) : GN M J pc ls (.int (nI b) :: .int (nI a) :: st) σ := ng_icmp_ne d ht (fun h => kt (fun q => h ((nI_eq ha hb).mpr q))) (fun h => kf ((nI_eq ha hb).mp h))
theorem ngt_icmp_ne {a b : Nat} {off : Int} {tgt : Nat} (d : decode (ic M) pc = .ok (.if_icmp .ne off, 3)) (ht : (pc : Int) + off = (tgt : Int)) (ha : a < 2 ^ 31) (hb : b < 2 ^ 31) (hc : ¬ a = b) (kt : GN M J tgt ls st σ) : GN M J pc ls (.int (nI b) :: .int (nI a) :: st) σ := ngn_icmp_ne d ht ha hb (fun _ => kt) (fun h => absurd h (by omega))
theorem ngf_icmp_ne {a b : Nat} {off : Int} {tgt : Nat} (d : decode (ic M) pc = .ok (.if_icmp .ne off, 3)) (ht : (pc : Int) + off = (tgt : Int)) (ha : a < 2 ^ 31) (hb : b < 2 ^ 31) (hc : a = b) (kf : GN M J (pc + 3) ls st σ) : GN M J pc ls (.int (nI b) :: .int (nI a) :: st) σ := ngn_icmp_ne d ht ha hb (fun h => absurd h (by omega)) (fun _ => kf)
theorem ngn_icmp_lt {a b : Nat} {off : Int} {tgt : Nat} (d : decode (ic M) pc = .ok (.if_icmp .lt off, 3)) (ht : (pc : Int) + off = (tgt : Int)) (ha : a < 2 ^ 31) (hb : b < 2 ^ 31) (kt : a < b → GN M J tgt ls st σ) (kf : b ≤ a → GN M J (pc + 3) ls st σ) : GN M J pc ls (.int (nI b) :: .int (nI a) :: st) σ := ng_icmp_lt d ht (fun h => kt ((nI_ltI ha hb).mp h)) (fun h => kf (Nat.not_lt.mp (fun q => h ((nI_ltI ha hb).mpr q))))
theorem ngt_icmp_lt {a b : Nat} {off : Int} {tgt : Nat} (d : decode (ic M) pc = .ok (.if_icmp .lt off, 3)) (ht : (pc : Int) + off = (tgt : Int)) (ha : a < 2 ^ 31) (hb : b < 2 ^ 31) (hc : a < b) (kt : GN M J tgt ls st σ) : GN M J pc ls (.int (nI b) :: .int (nI a) :: st) σ := ngn_icmp_lt d ht ha hb (fun _ => kt) (fun h => absurd h (by omega))
theorem ngf_icmp_lt {a b : Nat} {off : Int} {tgt : Nat} (d : decode (ic M) pc = .ok (.if_icmp .lt off, 3)) (ht : (pc : Int) + off = (tgt : Int)) (ha : a < 2 ^ 31) (hb : b < 2 ^ 31) (hc : b ≤ a) (kf : GN M J (pc + 3) ls st σ) : GN M J pc ls (.int (nI b) :: .int (nI a) :: st) σ := ngn_icmp_lt d ht ha hb (fun h => absurd h (by omega)) (fun _ => kf)
theorem ngn_icmp_ge {a b : Nat} {off : Int} {tgt : Nat} (d : decode (ic M) pc = .ok (.if_icmp .ge off, 3)) (ht : (pc : Int) + off = (tgt : Int)) (ha : a < 2 ^ 31) (hb : b < 2 ^ 31) (kt : b ≤ a → GN M J tgt ls st σ) (kf : a < b → GN M J (pc + 3) ls st σ) : GN M J pc ls (.int (nI b) :: .int (nI a) :: st) σ := ng_icmp_ge d ht (fun h => kt ((nI_leI hb ha).mp h)) (fun h => kf (Nat.not_le.mp (fun q => h ((nI_leI hb ha).mpr q))))
theorem ngt_icmp_ge {a b : Nat} {off : Int} {tgt : Nat} (d : decode (ic M) pc = .ok (.if_icmp .ge off, 3)) (ht : (pc : Int) + off = (tgt : Int)) (ha : a < 2 ^ 31) (hb : b < 2 ^ 31) (hc : b ≤ a) (kt : GN M J tgt ls st σ) : GN M J pc ls (.int (nI b) :: .int (nI a) :: st) σ := ngn_icmp_ge d ht ha hb (fun _ => kt) (fun h => absurd h (by omega))
theorem ngf_icmp_ge {a b : Nat} {off : Int} {tgt : Nat} (d : decode (ic M) pc = .ok (.if_icmp .ge off, 3)) (ht : (pc : Int) + off = (tgt : Int)) (ha : a < 2 ^ 31) (hb : b < 2 ^ 31) (hc : a < b) (kf : GN M J (pc + 3) ls st σ) : GN M J pc ls (.int (nI b) :: .int (nI a) :: st) σ := ngn_icmp_ge d ht ha hb (fun h => absurd h (by omega)) (fun _ => kf)
theorem ngn_icmp_gt {a b : Nat} {off : Int} {tgt : Nat} (d : decode (ic M) pc = .ok (.if_icmp .gt off, 3)) (ht : (pc : Int) + off = (tgt : Int)) (ha : a < 2 ^ 31) (hb : b < 2 ^ 31) (kt : b < a → GN M J tgt ls st σ) (kf : a ≤ b → GN M J (pc + 3) ls st σ) : GN M J pc ls (.int (nI b) :: .int (nI a) :: st) σ := ng_icmp_gt d ht (fun h => kt ((nI_ltI hb ha).mp h)) (fun h => kf (Nat.not_lt.mp (fun q => h ((nI_ltI hb ha).mpr q))))
theorem ngt_icmp_gt {a b : Nat} {off : Int} {tgt : Nat} (d : decode (ic M) pc = .ok (.if_icmp .gt off, 3)) (ht : (pc : Int) + off = (tgt : Int)) (ha : a < 2 ^ 31) (hb : b < 2 ^ 31) (hc : b < a) (kt : GN M J tgt ls st σ) : GN M J pc ls (.int (nI b) :: .int (nI a) :: st) σ := ngn_icmp_gt d ht ha hb (fun _ => kt) (fun h => absurd h (by omega))
theorem ngf_icmp_gt {a b : Nat} {off : Int} {tgt : Nat} (d : decode (ic M) pc = .ok (.if_icmp .gt off, 3)) (ht : (pc : Int) + off = (tgt : Int)) (ha : a < 2 ^ 31) (hb : b < 2 ^ 31) (hc : a ≤ b) (kf : GN M J (pc + 3) ls st σ) : GN M J pc ls (.int (nI b) :: .int (nI a) :: st) σ := ngn_icmp_gt d ht ha hb (fun h => absurd h (by omega)) (fun _ => kf)
theorem ngn_icmp_le {a b : Nat} {off : Int} {tgt : Nat} (d : decode (ic M) pc = .ok (.if_icmp .le off, 3)) (ht : (pc : Int) + off = (tgt : Int)) (ha : a < 2 ^ 31) (hb : b < 2 ^ 31) (kt : a ≤ b → GN M J tgt ls st σ) (kf : b < a → GN M J (pc + 3) ls st σ) : GN M J pc ls (.int (nI b) :: .int (nI a) :: st) σ := ng_icmp_le d ht (fun h => kt ((nI_leI ha hb).mp h)) (fun h => kf (Nat.not_le.mp (fun q => h ((nI_leI ha hb).mpr q))))
theorem ngt_icmp_le {a b : Nat} {off : Int} {tgt : Nat} (d : decode (ic M) pc = .ok (.if_icmp .le off, 3)) (ht : (pc : Int) + off = (tgt : Int)) (ha : a < 2 ^ 31) (hb : b < 2 ^ 31) (hc : a ≤ b) (kt : GN M J tgt ls st σ) : GN M J pc ls (.int (nI b) :: .int (nI a) :: st) σ := ngn_icmp_le d ht ha hb (fun _ => kt) (fun h => absurd h (by omega))
theorem ngf_icmp_le {a b : Nat} {off : Int} {tgt : Nat} (d : decode (ic M) pc = .ok (.if_icmp .le off, 3)) (ht : (pc : Int) + off = (tgt : Int)) (ha : a < 2 ^ 31) (hb : b < 2 ^ 31) (hc : b < a) (kf : GN M J (pc + 3) ls st σ) : GN M J pc ls (.int (nI b) :: .int (nI a) :: st) σ := ngn_icmp_le d ht ha hb (fun h => absurd h (by omega)) (fun _ => kf)
theorem nrt_if_eq {x : Int32} {off : Int} {tgt : Nat} (d : decode (ic M) pc = .ok (.ifCond .eq off, 3)) (ht : (pc : Int) + off = (tgt : Int)) (hc : x = 0) (kt : GN M J tgt ls st σ) : GN M J pc ls (.int x :: st) σ := ng_if_eq d ht (fun _ => kt) (fun h => absurd hc h)
theorem nrf_if_eq {x : Int32} {off : Int} {tgt : Nat} (d : decode (ic M) pc = .ok (.ifCond .eq off, 3)) (ht : (pc : Int) + off = (tgt : Int)) (hc : ¬ (x = 0)) (kf : GN M J (pc + 3) ls st σ) : GN M J pc ls (.int x :: st) σ := ng_if_eq d ht (fun h => absurd h hc) (fun _ => kf)
theorem nrt_icmp_eq {x y : Int32} {off : Int} {tgt : Nat} (d : decode (ic M) pc = .ok (.if_icmp .eq off, 3)) (ht : (pc : Int) + off = (tgt : Int)) (hc : x = y) (kt : GN M J tgt ls st σ) : GN M J pc ls (.int y :: .int x :: st) σ := ng_icmp_eq d ht (fun _ => kt) (fun h => absurd hc h)
theorem nrf_icmp_eq {x y : Int32} {off : Int} {tgt : Nat} (d : decode (ic M) pc = .ok (.if_icmp .eq off, 3)) (ht : (pc : Int) + off = (tgt : Int)) (hc : ¬ (x = y)) (kf : GN M J (pc + 3) ls st σ) : GN M J pc ls (.int y :: .int x :: st) σ := ng_icmp_eq d ht (fun h => absurd h hc) (fun _ => kf)
theorem nrt_if_ne {x : Int32} {off : Int} {tgt : Nat} (d : decode (ic M) pc = .ok (.ifCond .ne off, 3)) (ht : (pc : Int) + off = (tgt : Int)) (hc : ¬ x = 0) (kt : GN M J tgt ls st σ) : GN M J pc ls (.int x :: st) σ := ng_if_ne d ht (fun _ => kt) (fun h => absurd h hc)
theorem nrf_if_ne {x : Int32} {off : Int} {tgt : Nat} (d : decode (ic M) pc = .ok (.ifCond .ne off, 3)) (ht : (pc : Int) + off = (tgt : Int)) (hc : x = 0) (kf : GN M J (pc + 3) ls st σ) : GN M J pc ls (.int x :: st) σ := ng_if_ne d ht (fun h => absurd hc h) (fun _ => kf)
theorem nrt_icmp_ne {x y : Int32} {off : Int} {tgt : Nat} (d : decode (ic M) pc = .ok (.if_icmp .ne off, 3)) (ht : (pc : Int) + off = (tgt : Int)) (hc : ¬ x = y) (kt : GN M J tgt ls st σ) : GN M J pc ls (.int y :: .int x :: st) σ := ng_icmp_ne d ht (fun _ => kt) (fun h => absurd h hc)
theorem nrf_icmp_ne {x y : Int32} {off : Int} {tgt : Nat} (d : decode (ic M) pc = .ok (.if_icmp .ne off, 3)) (ht : (pc : Int) + off = (tgt : Int)) (hc : x = y) (kf : GN M J (pc + 3) ls st σ) : GN M J pc ls (.int y :: .int x :: st) σ := ng_icmp_ne d ht (fun h => absurd hc h) (fun _ => kf)
theorem nrt_if_lt {x : Int32} {off : Int} {tgt : Nat} (d : decode (ic M) pc = .ok (.ifCond .lt off, 3)) (ht : (pc : Int) + off = (tgt : Int)) (hc : x < 0) (kt : GN M J tgt ls st σ) : GN M J pc ls (.int x :: st) σ := ng_if_lt d ht (fun _ => kt) (fun h => absurd hc h)
theorem nrf_if_lt {x : Int32} {off : Int} {tgt : Nat} (d : decode (ic M) pc = .ok (.ifCond .lt off, 3)) (ht : (pc : Int) + off = (tgt : Int)) (hc : ¬ (x < 0)) (kf : GN M J (pc + 3) ls st σ) : GN M J pc ls (.int x :: st) σ := ng_if_lt d ht (fun h => absurd h hc) (fun _ => kf)
theorem nrt_icmp_lt {x y : Int32} {off : Int} {tgt : Nat} (d : decode (ic M) pc = .ok (.if_icmp .lt off, 3)) (ht : (pc : Int) + off = (tgt : Int)) (hc : x < y) (kt : GN M J tgt ls st σ) : GN M J pc ls (.int y :: .int x :: st) σ := ng_icmp_lt d ht (fun _ => kt) (fun h => absurd hc h)
theorem nrf_icmp_lt {x y : Int32} {off : Int} {tgt : Nat} (d : decode (ic M) pc = .ok (.if_icmp .lt off, 3)) (ht : (pc : Int) + off = (tgt : Int)) (hc : ¬ (x < y)) (kf : GN M J (pc + 3) ls st σ) : GN M J pc ls (.int y :: .int x :: st) σ := ng_icmp_lt d ht (fun h => absurd h hc) (fun _ => kf)
theorem nrt_if_ge {x : Int32} {off : Int} {tgt : Nat} (d : decode (ic M) pc = .ok (.ifCond .ge off, 3)) (ht : (pc : Int) + off = (tgt : Int)) (hc : 0 ≤ x) (kt : GN M J tgt ls st σ) : GN M J pc ls (.int x :: st) σ := ng_if_ge d ht (fun _ => kt) (fun h => absurd hc h)
theorem nrf_if_ge {x : Int32} {off : Int} {tgt : Nat} (d : decode (ic M) pc = .ok (.ifCond .ge off, 3)) (ht : (pc : Int) + off = (tgt : Int)) (hc : ¬ (0 ≤ x)) (kf : GN M J (pc + 3) ls st σ) : GN M J pc ls (.int x :: st) σ := ng_if_ge d ht (fun h => absurd h hc) (fun _ => kf)
theorem nrt_icmp_ge {x y : Int32} {off : Int} {tgt : Nat} (d : decode (ic M) pc = .ok (.if_icmp .ge off, 3)) (ht : (pc : Int) + off = (tgt : Int)) (hc : y ≤ x) (kt : GN M J tgt ls st σ) : GN M J pc ls (.int y :: .int x :: st) σ := ng_icmp_ge d ht (fun _ => kt) (fun h => absurd hc h)
theorem nrf_icmp_ge {x y : Int32} {off : Int} {tgt : Nat} (d : decode (ic M) pc = .ok (.if_icmp .ge off, 3)) (ht : (pc : Int) + off = (tgt : Int)) (hc : ¬ (y ≤ x)) (kf : GN M J (pc + 3) ls st σ) : GN M J pc ls (.int y :: .int x :: st) σ := ng_icmp_ge d ht (fun h => absurd h hc) (fun _ => kf)
theorem nrt_if_gt {x : Int32} {off : Int} {tgt : Nat} (d : decode (ic M) pc = .ok (.ifCond .gt off, 3)) (ht : (pc : Int) + off = (tgt : Int)) (hc : 0 < x) (kt : GN M J tgt ls st σ) : GN M J pc ls (.int x :: st) σ := ng_if_gt d ht (fun _ => kt) (fun h => absurd hc h)
theorem nrf_if_gt {x : Int32} {off : Int} {tgt : Nat} (d : decode (ic M) pc = .ok (.ifCond .gt off, 3)) (ht : (pc : Int) + off = (tgt : Int)) (hc : ¬ (0 < x)) (kf : GN M J (pc + 3) ls st σ) : GN M J pc ls (.int x :: st) σ := ng_if_gt d ht (fun h => absurd h hc) (fun _ => kf)
theorem nrt_icmp_gt {x y : Int32} {off : Int} {tgt : Nat} (d : decode (ic M) pc = .ok (.if_icmp .gt off, 3)) (ht : (pc : Int) + off = (tgt : Int)) (hc : y < x) (kt : GN M J tgt ls st σ) : GN M J pc ls (.int y :: .int x :: st) σ := ng_icmp_gt d ht (fun _ => kt) (fun h => absurd hc h)
theorem nrf_icmp_gt {x y : Int32} {off : Int} {tgt : Nat} (d : decode (ic M) pc = .ok (.if_icmp .gt off, 3)) (ht : (pc : Int) + off = (tgt : Int)) (hc : ¬ (y < x)) (kf : GN M J (pc + 3) ls st σ) : GN M J pc ls (.int y :: .int x :: st) σ := ng_icmp_gt d ht (fun h => absurd h hc) (fun _ => kf)
theorem nrt_if_le {x : Int32} {off : Int} {tgt : Nat} (d : decode (ic M) pc = .ok (.ifCond .le off, 3)) (ht : (pc : Int) + off = (tgt : Int)) (hc : x ≤ 0) (kt : GN M J tgt ls st σ) : GN M J pc ls (.int x :: st) σ := ng_if_le d ht (fun _ => kt) (fun h => absurd hc h)
theorem nrf_if_le {x : Int32} {off : Int} {tgt : Nat} (d : decode (ic M) pc = .ok (.ifCond .le off, 3)) (ht : (pc : Int) + off = (tgt : Int)) (hc : ¬ (x ≤ 0)) (kf : GN M J (pc + 3) ls st σ) : GN M J pc ls (.int x :: st) σ := ng_if_le d ht (fun h => absurd h hc) (fun _ => kf)
theorem nrt_icmp_le {x y : Int32} {off : Int} {tgt : Nat} (d : decode (ic M) pc = .ok (.if_icmp .le off, 3)) (ht : (pc : Int) + off = (tgt : Int)) (hc : x ≤ y) (kt : GN M J tgt ls st σ) : GN M J pc ls (.int y :: .int x :: st) σ := ng_icmp_le d ht (fun _ => kt) (fun h => absurd hc h)
theorem nrf_icmp_le {x y : Int32} {off : Int} {tgt : Nat} (d : decode (ic M) pc = .ok (.if_icmp .le off, 3)) (ht : (pc : Int) + off = (tgt : Int)) (hc : ¬ (x ≤ y)) (kf : GN M J (pc + 3) ls st σ) : GN M J pc ls (.int y :: .int x :: st) σ := ng_icmp_le d ht (fun h => absurd h hc) (fun _ => kf)
theorem ngn_if_eq {a : Nat} {off : Int} {tgt : Nat} (d : decode (ic M) pc = .ok (.ifCond .eq off, 3)) (ht : (pc : Int) + off = (tgt : Int)) (ha : a < 2 ^ 31) (kt : a = 0 → GN M J tgt ls st σ) (kf : 0 < a → GN M J (pc + 3) ls st σ) : GN M J pc ls (.int (nI a) :: st) σ := ng_if_eq d ht (fun h => kt ((nI_eq ha (by decide)).mp h)) (fun h => kf (Nat.pos_of_ne_zero (fun q => h (by rw [q]; rfl))))
theorem ngt_if_eq {a : Nat} {off : Int} {tgt : Nat} (d : decode (ic M) pc = .ok (.ifCond .eq off, 3)) (ht : (pc : Int) + off = (tgt : Int)) (ha : a < 2 ^ 31) (hc : a = 0) (kt : GN M J tgt ls st σ) : GN M J pc ls (.int (nI a) :: st) σ := ngn_if_eq d ht ha (fun _ => kt) (fun h => absurd h (by omega))
theorem ngf_if_eq {a : Nat} {off : Int} {tgt : Nat} (d : decode (ic M) pc = .ok (.ifCond .eq off, 3)) (ht : (pc : Int) + off = (tgt : Int)) (ha : a < 2 ^ 31) (hc : 0 < a) (kf : GN M J (pc + 3) ls st σ) : GN M J pc ls (.int (nI a) :: st) σ := ngn_if_eq d ht ha (fun h => absurd h (by omega)) (fun _ => kf)
theorem ngn_if_ne {a : Nat} {off : Int} {tgt : Nat} (d : decode (ic M) pc = .ok (.ifCond .ne off, 3)) (ht : (pc : Int) + off = (tgt : Int)) (ha : a < 2 ^ 31) (kt : 0 < a → GN M J tgt ls st σ) (kf : a = 0 → GN M J (pc + 3) ls st σ) : GN M J pc ls (.int (nI a) :: st) σ := ng_if_ne d ht (fun h => kt (Nat.pos_of_ne_zero (fun q => h (by rw [q]; rfl)))) (fun h => kf ((nI_eq ha (by decide)).mp h))
theorem ngt_if_ne {a : Nat} {off : Int} {tgt : Nat} (d : decode (ic M) pc = .ok (.ifCond .ne off, 3)) (ht : (pc : Int) + off = (tgt : Int)) (ha : a < 2 ^ 31) (hc : 0 < a) (kt : GN M J tgt ls st σ) : GN M J pc ls (.int (nI a) :: st) σ := ngn_if_ne d ht ha (fun _ => kt) (fun h => absurd h (by omega))
theorem ngf_if_ne {a : Nat} {off : Int} {tgt : Nat} (d : decode (ic M) pc = .ok (.ifCond .ne off, 3)) (ht : (pc : Int) + off = (tgt : Int)) (ha : a < 2 ^ 31) (hc : a = 0) (kf : GN M J (pc + 3) ls st σ) : GN M J pc ls (.int (nI a) :: st) σ := ngn_if_ne d ht ha (fun h => absurd h (by omega)) (fun _ => kf)
theorem ngn_if_gt {a : Nat} {off : Int} {tgt : Nat} (d : decode (ic M) pc = .ok (.ifCond .gt off, 3)) (ht : (pc : Int) + off = (tgt : Int)) (ha : a < 2 ^ 31) (kt : 0 < a → GN M J tgt ls st σ) (kf : a = 0 → GN M J (pc + 3) ls st σ) : GN M J pc ls (.int (nI a) :: st) σ := ng_if_gt d ht (fun h => kt ((nI_ltI (by decide) ha).mp h)) (fun h => kf (Nat.eq_zero_of_not_pos (fun q => h ((nI_ltI (a := 0) (by decide) ha).mpr q))))
theorem ngt_if_gt {a : Nat} {off : Int} {tgt : Nat} (d : decode (ic M) pc = .ok (.ifCond .gt off, 3)) (ht : (pc : Int) + off = (tgt : Int)) (ha : a < 2 ^ 31) (hc : 0 < a) (kt : GN M J tgt ls st σ) : GN M J pc ls (.int (nI a) :: st) σ := ngn_if_gt d ht ha (fun _ => kt) (fun h => absurd h (by omega))
theorem ngf_if_gt {a : Nat} {off : Int} {tgt : Nat} (d : decode (ic M) pc = .ok (.ifCond .gt off, 3)) (ht : (pc : Int) + off = (tgt : Int)) (ha : a < 2 ^ 31) (hc : a = 0) (kf : GN M J (pc + 3) ls st σ) : GN M J pc ls (.int (nI a) :: st) σ := ngn_if_gt d ht ha (fun h => absurd h (by omega)) (fun _ => kf)
theorem ngn_if_le {a : Nat} {off : Int} {tgt : Nat} (d : decode (ic M) pc = .ok (.ifCond .le off, 3)) (ht : (pc : Int) + off = (tgt : Int)) (ha : a < 2 ^ 31) (kt : a = 0 → GN M J tgt ls st σ) (kf : 0 < a → GN M J (pc + 3) ls st σ) : GN M J pc ls (.int (nI a) :: st) σ := ng_if_le d ht (fun h => kt (Nat.le_zero.mp ((nI_leI ha (by decide)).mp h))) (fun h => kf (Nat.pos_of_ne_zero (fun q => h (by rw [q]; decide))))
theorem ngt_if_le {a : Nat} {off : Int} {tgt : Nat} (d : decode (ic M) pc = .ok (.ifCond .le off, 3)) (ht : (pc : Int) + off = (tgt : Int)) (ha : a < 2 ^ 31) (hc : a = 0) (kt : GN M J tgt ls st σ) : GN M J pc ls (.int (nI a) :: st) σ := ngn_if_le d ht ha (fun _ => kt) (fun h => absurd h (by omega))
theorem ngf_if_le {a : Nat} {off : Int} {tgt : Nat} (d : decode (ic M) pc = .ok (.ifCond .le off, 3)) (ht : (pc : Int) + off = (tgt : Int)) (ha : a < 2 ^ 31) (hc : 0 < a) (kf : GN M J (pc + 3) ls st σ) : GN M J pc ls (.int (nI a) :: st) σ := ngn_if_le d ht ha (fun h => absurd h (by omega)) (fun _ => kf)
theorem ngt_if_ge {a : Nat} {off : Int} {tgt : Nat} (d : decode (ic M) pc = .ok (.ifCond .ge off, 3)) (ht : (pc : Int) + off = (tgt : Int)) (ha : a < 2 ^ 31) (kt : GN M J tgt ls st σ) : GN M J pc ls (.int (nI a) :: st) σ := ng_if_ge d ht (fun _ => kt) (fun h => absurd (nI_pos' ha) h)
theorem ngf_if_lt {a : Nat} {off : Int} {tgt : Nat} (d : decode (ic M) pc = .ok (.ifCond .lt off, 3)) (ht : (pc : Int) + off = (tgt : Int)) (ha : a < 2 ^ 31) (kf : GN M J (pc + 3) ls st σ) : GN M J pc ls (.int (nI a) :: st) σ := ng_if_lt d ht (fun h => absurd h (nI_pos ha)) (fun _ => kf)
theorem ngb_if_eq {b : Bool} {off : Int} {tgt : Nat} (d : decode (ic M) pc = .ok (.ifCond .eq off, 3)) (ht : (pc : Int) + off = (tgt : Int)) (kt : b = false → GN M J tgt ls st σ) (kf : b = true → GN M J (pc + 3) ls st σ) : GN M J pc ls (.int (bI b) :: st) σ := ng_if_eq d ht (fun h => kt (by cases b <;> first | rfl | exact absurd h (by decide))) (fun h => kf (by cases b <;> first | rfl | exact absurd rfl h))
theorem ngb_if_ne {b : Bool} {off : Int} {tgt : Nat} (d : decode (ic M) pc = .ok (.ifCond .ne off, 3)) (ht : (pc : Int) + off = (tgt : Int)) (kt : b = true → GN M J tgt ls st σ) (kf : b = false → GN M J (pc + 3) ls st σ) : GN M J pc ls (.int (bI b) :: st) σ := ng_if_ne d ht (fun h => kt (by cases b <;> first | rfl | exact absurd rfl h)) (fun h => kf (by cases b <;> first | rfl | exact absurd h (by decide)))
end
