/-! The judgement GL: in the law. The script, which was there before, is the reference 999. -/
def adL (B bb a : Nat) : Nat := if a = 999 then bb else B + a
def cvL (B bb : Nat) : Value → Value
  | .ref a => .ref (adL B bb a)
  | v => v
theorem cvL_cat (B bb : Nat) (v : Value) : (cvL B bb v).category = v.category := by
  cases v <;> rfl
def lvL (B bb : Nat) (la : Array Slot) (n : Nat) (ls : List (Option Value)) : Prop := la.size = n ∧ lv_wf la ∧ ∀ (i : Nat) (v : Value), ls[i]? = some (some v) → la[i]? = some (.val (cvL B bb v))
def mL_law : MI := (yL_law, cL_law, 8, ret, 10, 368)
def RL_law : Nat × Nat := (601024, 7293000)
/-- what else the law knows: the script, and what its calls need -/
def EL (L : Nat) (xs : Nat → Int32) (B bb : Nat) (l : Launch) (s : State) (args : Array Value) : Prop := s.heap.size = B ∧ args = #[.ref bb] ∧ va_X bb L xs s s.heap ∧ bb < B ∧ l.stackTraces = false ∧ TK B s ∧ AOK s
abbrev JL : Type := (Nat × Nat) × Nat × (Nat → Int32)
def GL (J : JL) (pc : Nat) (ls : List (Option Value)) (st : List Value) (σ : Nat → (Nat → ClassId) → va_W) : Prop :=
  ∀ (B bb : Nat) (D : va_G) (cA : Nat → ClassId) (p : Program) (l : Launch) (e : Env) (s : State) (m : MethodId) (args : Array Value) (below : List Frame) (meth : Method) (c : Code) (H : Heap) (locs : List Loc) (la : Array Slot),
    Cx mL_law D cA p s m args meth c → EL J.2.1 J.2.2 B bb l s args → va_P D vwCl (σ B cA) H → va_S (fun q => B ≤ q) s.heap H locs → lvL B bb la 8 ls →
    W p l e (rmX mL_law RL_law) s m args below meth c H locs J.1.1 J.1.2 (lw_Z below args s) (F0 m pc la (st.map (cvL B bb)))
section
variable {J : JL} {pc : Nat} {ls ls' : List (Option Value)} {st : List Value} {σ : Nat → (Nat → ClassId) → va_W}
theorem lvL.at' {B bb : Nat} {la : Array Slot} {n : Nat} (h : lvL B bb la n ls) {i : Nat} {v : Value} (hi : ls[i]? = some (some v)) : la[i]? = some (.val (cvL B bb v)) := h.2.2 i v hi
def lvAl (B bb : Nat) (ls : List (Option Value)) : List (Nat × Value) := (List.range ls.length).filterMap (fun i => match ls[i]? with
  | some (some v) => some (i, cvL B bb v)
  | _ => none)
theorem lvAl_mem {B bb : Nat} {i : Nat} {v : Value} (h : ls[i]? = some (some v)) : (i, cvL B bb v) ∈ lvAl B bb ls := by
  refine List.mem_filterMap.mpr ⟨i, List.mem_range.mpr (List.getElem?_eq_some_iff.mp h).1, ?_⟩
  rw [h]
theorem lvAl_has {B bb : Nat} {la : Array Slot} {n : Nat} (h : lvL B bb la n ls) : lv_has la n (lvAl B bb ls) := by
  refine ⟨h.1, h.2.1, fun q hq => ?_⟩
  obtain ⟨i, -, hi⟩ := List.mem_filterMap.mp hq
  split at hi
  · next v hv => cases hi; exact h.2.2 i v hv
  · cases hi
theorem lvL_st1 {B bb : Nat} {la : Array Slot} {n i : Nat} {x : Value} (h : nl2 ls i = true) (hl : i < ls.length) (hs : lv_has la n ((i, cvL B bb x) :: (lvAl B bb ls).filter (fun q => !(q.1 == i) && !(q.1 + 1 == i && q.2.category == 2)))) : lvL B bb la n (ls.set i (some x)) := by
  refine ⟨hs.1, hs.2.1, fun j v hj => ?_⟩
  rw [List.getElem?_set] at hj
  split at hj
  · next hij =>
    subst hij
    (try rw [if_pos hl] at hj)
    cases hj
    exact hs.2.2 _ List.mem_cons_self
  · next hij =>
    refine hs.2.2 (j, cvL B bb v) (List.mem_cons_of_mem _ (List.mem_filter.mpr ⟨lvAl_mem hj, ?_⟩))
    have h1 : (j == i) = false := by simpa using fun q => hij q.symm
    rw [h1]
    by_cases h2 : j + 1 = i
    · subst h2
      have h3 := nl2_spec h hj
      simp [cvL_cat, h3]
    · have h4 : (j + 1 == i) = false := by simpa using h2
      rw [h4]; rfl
theorem lvL_st2 {B bb : Nat} {la : Array Slot} {n i : Nat} {x : Value} (h : nl2 ls i = true) (hl : i < ls.length) (hs : lv_has la n ((i, cvL B bb x) :: (lvAl B bb ls).filter (fun q => !(q.1 == i) && (!(q.1 == i + 1) && !(q.1 + 1 == i && q.2.category == 2))))) : lvL B bb la n ((ls.set i (some x)).set (i + 1) none) := by
  refine ⟨hs.1, hs.2.1, fun j v hj => ?_⟩
  rw [List.getElem?_set] at hj
  split at hj
  · split at hj <;> cases hj
  · next hij1 =>
    rw [List.getElem?_set] at hj
    split at hj
    · next hij =>
      subst hij
      (try rw [if_pos hl] at hj)
      cases hj
      exact hs.2.2 _ List.mem_cons_self
    · next hij =>
      refine hs.2.2 (j, cvL B bb v) (List.mem_cons_of_mem _ (List.mem_filter.mpr ⟨lvAl_mem hj, ?_⟩))
      have h1 : (j == i) = false := by simpa using fun q => hij q.symm
      have h5 : (j == i + 1) = false := by simpa using fun q => hij1 q.symm
      rw [h1, h5]
      by_cases h2 : j + 1 = i
      · subst h2
        have h3 := nl2_spec h hj
        simp [cvL_cat, h3]
      · have h4 : (j + 1 == i) = false := by simpa using h2
        rw [h4]; rfl
theorem lg_iconst {n : Int} {v : Int32} (d : decode (ic mL_law) pc = .ok (.iconst n, 1)) (hv : Int32.ofInt n = v) (k : GL J (pc + 1) ls (.int v :: st) σ) : GL J pc ls (st) σ := by
  intro B bb D cA p l e s m args below meth c H locs la C hE hP hS hl
  obtain ⟨hx, hb, hml, hown, hret, hlocks, hts, hK, hNs⟩ := C
  exact lv_iconst hx hb d hv (k B bb D cA p l e s m args below meth c H locs la ⟨hx, hb, hml, hown, hret, hlocks, hts, hK, hNs⟩ hE hP hS hl)
theorem lg_bipush {n : Int} {v : Int32} (d : decode (ic mL_law) pc = .ok (.bipush n, 2)) (hv : (Int8.ofInt n).toInt32 = v) (k : GL J (pc + 2) ls (.int v :: st) σ) : GL J pc ls (st) σ := by
  intro B bb D cA p l e s m args below meth c H locs la C hE hP hS hl
  obtain ⟨hx, hb, hml, hown, hret, hlocks, hts, hK, hNs⟩ := C
  exact lv_bipush hx hb d hv (k B bb D cA p l e s m args below meth c H locs la ⟨hx, hb, hml, hown, hret, hlocks, hts, hK, hNs⟩ hE hP hS hl)
theorem lg_sipush {n : Int} {v : Int32} (d : decode (ic mL_law) pc = .ok (.sipush n, 3)) (hv : (Int16.ofInt n).toInt32 = v) (k : GL J (pc + 3) ls (.int v :: st) σ) : GL J pc ls (st) σ := by
  intro B bb D cA p l e s m args below meth c H locs la C hE hP hS hl
  obtain ⟨hx, hb, hml, hown, hret, hlocks, hts, hK, hNs⟩ := C
  exact lv_sipush hx hb d hv (k B bb D cA p l e s m args below meth c H locs la ⟨hx, hb, hml, hown, hret, hlocks, hts, hK, hNs⟩ hE hP hS hl)
theorem lg_lconst {n : Fin 2} {v : Int64} (d : decode (ic mL_law) pc = .ok (.lconst n, 1)) (hv : Int64.ofNat (n : Nat) = v) (k : GL J (pc + 1) ls (.long v :: st) σ) : GL J pc ls (st) σ := by
  intro B bb D cA p l e s m args below meth c H locs la C hE hP hS hl
  obtain ⟨hx, hb, hml, hown, hret, hlocks, hts, hK, hNs⟩ := C
  exact lv_lconst hx hb d hv (k B bb D cA p l e s m args below meth c H locs la ⟨hx, hb, hml, hown, hret, hlocks, hts, hK, hNs⟩ hE hP hS hl)
theorem lg_iload_n {q : Fin 4} {x : Int32} (d : decode (ic mL_law) pc = .ok (.iload_n q, 1)) (hl0 : ls[(q : Nat)]? = some (some (.int x))) (k : GL J (pc + 1) ls (.int x :: st) σ) : GL J pc ls (st) σ := by
  intro B bb D cA p l e s m args below meth c H locs la C hE hP hS hl
  obtain ⟨hx, hb, hml, hown, hret, hlocks, hts, hK, hNs⟩ := C
  exact lv_iload_n hx hb d rfl (hl.at' hl0) (k B bb D cA p l e s m args below meth c H locs la ⟨hx, hb, hml, hown, hret, hlocks, hts, hK, hNs⟩ hE hP hS hl)
theorem lg_iload {i : Nat} {x : Int32} (d : decode (ic mL_law) pc = .ok (.iload i, 2)) (hl0 : ls[i]? = some (some (.int x))) (k : GL J (pc + 2) ls (.int x :: st) σ) : GL J pc ls (st) σ := by
  intro B bb D cA p l e s m args below meth c H locs la C hE hP hS hl
  obtain ⟨hx, hb, hml, hown, hret, hlocks, hts, hK, hNs⟩ := C
  exact lv_iload hx hb d (hl.at' hl0) (k B bb D cA p l e s m args below meth c H locs la ⟨hx, hb, hml, hown, hret, hlocks, hts, hK, hNs⟩ hE hP hS hl)
theorem lg_lload_n {q : Fin 4} {x : Int64} (d : decode (ic mL_law) pc = .ok (.lload_n q, 1)) (hl0 : ls[(q : Nat)]? = some (some (.long x))) (k : GL J (pc + 1) ls (.long x :: st) σ) : GL J pc ls (st) σ := by
  intro B bb D cA p l e s m args below meth c H locs la C hE hP hS hl
  obtain ⟨hx, hb, hml, hown, hret, hlocks, hts, hK, hNs⟩ := C
  exact lv_lload_n hx hb d rfl (hl.at' hl0) (k B bb D cA p l e s m args below meth c H locs la ⟨hx, hb, hml, hown, hret, hlocks, hts, hK, hNs⟩ hE hP hS hl)
theorem lg_lload {i : Nat} {x : Int64} (d : decode (ic mL_law) pc = .ok (.lload i, 2)) (hl0 : ls[i]? = some (some (.long x))) (k : GL J (pc + 2) ls (.long x :: st) σ) : GL J pc ls (st) σ := by
  intro B bb D cA p l e s m args below meth c H locs la C hE hP hS hl
  obtain ⟨hx, hb, hml, hown, hret, hlocks, hts, hK, hNs⟩ := C
  exact lv_lload hx hb d (hl.at' hl0) (k B bb D cA p l e s m args below meth c H locs la ⟨hx, hb, hml, hown, hret, hlocks, hts, hK, hNs⟩ hE hP hS hl)
theorem lg_aload_n {q : Fin 4} {x : Nat} (d : decode (ic mL_law) pc = .ok (.aload_n q, 1)) (hl0 : ls[(q : Nat)]? = some (some (.ref x))) (k : GL J (pc + 1) ls (.ref x :: st) σ) : GL J pc ls (st) σ := by
  intro B bb D cA p l e s m args below meth c H locs la C hE hP hS hl
  obtain ⟨hx, hb, hml, hown, hret, hlocks, hts, hK, hNs⟩ := C
  exact lv_aload_n hx hb d rfl (hl.at' hl0) (k B bb D cA p l e s m args below meth c H locs la ⟨hx, hb, hml, hown, hret, hlocks, hts, hK, hNs⟩ hE hP hS hl)
theorem lg_aload {i : Nat} {x : Nat} (d : decode (ic mL_law) pc = .ok (.aload i, 2)) (hl0 : ls[i]? = some (some (.ref x))) (k : GL J (pc + 2) ls (.ref x :: st) σ) : GL J pc ls (st) σ := by
  intro B bb D cA p l e s m args below meth c H locs la C hE hP hS hl
  obtain ⟨hx, hb, hml, hown, hret, hlocks, hts, hK, hNs⟩ := C
  exact lv_aload hx hb d (hl.at' hl0) (k B bb D cA p l e s m args below meth c H locs la ⟨hx, hb, hml, hown, hret, hlocks, hts, hK, hNs⟩ hE hP hS hl)
theorem lg_istore_n {q : Fin 4} {x : Int32} (d : decode (ic mL_law) pc = .ok (.istore_n q, 1)) (hn : (q : Nat) < il mL_law) (hc : nl2 ls (q : Nat) = true) (hle : (q : Nat) < ls.length) (k : GL J (pc + 1) (ls.set (q : Nat) (some (.int x))) st σ) : GL J pc ls (.int x :: st) σ := by
  intro B bb D cA p l e s m args below meth c H locs la C hE hP hS hl
  obtain ⟨hx, hb, hml, hown, hret, hlocks, hts, hK, hNs⟩ := C
  exact lv_istore_n hx hb d rfl (lvAl_has hl) hn rfl (fun la2 hl2 => k B bb D cA p l e s m args below meth c H locs la2 ⟨hx, hb, hml, hown, hret, hlocks, hts, hK, hNs⟩ hE hP hS (lvL_st1 (x := .int x) hc hle hl2))
theorem lg_istore {i : Nat} {x : Int32} (d : decode (ic mL_law) pc = .ok (.istore i, 2)) (hn : i < il mL_law) (hc : nl2 ls i = true) (hle : i < ls.length) (k : GL J (pc + 2) (ls.set i (some (.int x))) st σ) : GL J pc ls (.int x :: st) σ := by
  intro B bb D cA p l e s m args below meth c H locs la C hE hP hS hl
  obtain ⟨hx, hb, hml, hown, hret, hlocks, hts, hK, hNs⟩ := C
  exact lv_istore hx hb d (lvAl_has hl) hn rfl (fun la2 hl2 => k B bb D cA p l e s m args below meth c H locs la2 ⟨hx, hb, hml, hown, hret, hlocks, hts, hK, hNs⟩ hE hP hS (lvL_st1 (x := .int x) hc hle hl2))
theorem lg_astore_n {q : Fin 4} {x : Nat} (d : decode (ic mL_law) pc = .ok (.astore_n q, 1)) (hn : (q : Nat) < il mL_law) (hc : nl2 ls (q : Nat) = true) (hle : (q : Nat) < ls.length) (k : GL J (pc + 1) (ls.set (q : Nat) (some (.ref x))) st σ) : GL J pc ls (.ref x :: st) σ := by
  intro B bb D cA p l e s m args below meth c H locs la C hE hP hS hl
  obtain ⟨hx, hb, hml, hown, hret, hlocks, hts, hK, hNs⟩ := C
  exact lv_astore_n hx hb d rfl (lvAl_has hl) hn rfl (fun la2 hl2 => k B bb D cA p l e s m args below meth c H locs la2 ⟨hx, hb, hml, hown, hret, hlocks, hts, hK, hNs⟩ hE hP hS (lvL_st1 (x := .ref x) hc hle hl2))
theorem lg_astore {i : Nat} {x : Nat} (d : decode (ic mL_law) pc = .ok (.astore i, 2)) (hn : i < il mL_law) (hc : nl2 ls i = true) (hle : i < ls.length) (k : GL J (pc + 2) (ls.set i (some (.ref x))) st σ) : GL J pc ls (.ref x :: st) σ := by
  intro B bb D cA p l e s m args below meth c H locs la C hE hP hS hl
  obtain ⟨hx, hb, hml, hown, hret, hlocks, hts, hK, hNs⟩ := C
  exact lv_astore hx hb d (lvAl_has hl) hn rfl (fun la2 hl2 => k B bb D cA p l e s m args below meth c H locs la2 ⟨hx, hb, hml, hown, hret, hlocks, hts, hK, hNs⟩ hE hP hS (lvL_st1 (x := .ref x) hc hle hl2))
theorem lg_lstore_n {q : Fin 4} {x : Int64} (d : decode (ic mL_law) pc = .ok (.lstore_n q, 1)) (hn : (q : Nat) + 1 < il mL_law) (hc : nl2 ls (q : Nat) = true) (hle : (q : Nat) < ls.length) (k : GL J (pc + 1) ((ls.set (q : Nat) (some (.long x))).set ((q : Nat) + 1) none) st σ) : GL J pc ls (.long x :: st) σ := by
  intro B bb D cA p l e s m args below meth c H locs la C hE hP hS hl
  obtain ⟨hx, hb, hml, hown, hret, hlocks, hts, hK, hNs⟩ := C
  exact lv_lstore_n hx hb d rfl (lvAl_has hl) hn rfl (fun la2 hl2 => k B bb D cA p l e s m args below meth c H locs la2 ⟨hx, hb, hml, hown, hret, hlocks, hts, hK, hNs⟩ hE hP hS (lvL_st2 (x := .long x) hc hle hl2))
theorem lg_lstore {i : Nat} {x : Int64} (d : decode (ic mL_law) pc = .ok (.lstore i, 2)) (hn : i + 1 < il mL_law) (hc : nl2 ls i = true) (hle : i < ls.length) (k : GL J (pc + 2) ((ls.set i (some (.long x))).set (i + 1) none) st σ) : GL J pc ls (.long x :: st) σ := by
  intro B bb D cA p l e s m args below meth c H locs la C hE hP hS hl
  obtain ⟨hx, hb, hml, hown, hret, hlocks, hts, hK, hNs⟩ := C
  exact lv_lstore hx hb d (lvAl_has hl) hn rfl (fun la2 hl2 => k B bb D cA p l e s m args below meth c H locs la2 ⟨hx, hb, hml, hown, hret, hlocks, hts, hK, hNs⟩ hE hP hS (lvL_st2 (x := .long x) hc hle hl2))
theorem lg_iinc {i : Nat} {n : Int} {x v : Int32} (d : decode (ic mL_law) pc = .ok (.iinc i n, 3)) (hl0 : ls[i]? = some (some (.int x))) (hv : x + Int32.ofInt n = v) (hn : i < il mL_law) (hc : nl2 ls i = true) (k : GL J (pc + 3) (ls.set i (some (.int v))) st σ) : GL J pc ls st σ := by
  intro B bb D cA p l e s m args below meth c H locs la C hE hP hS hl
  obtain ⟨hx, hb, hml, hown, hret, hlocks, hts, hK, hNs⟩ := C
  obtain ⟨j, hj⟩ := List.getElem?_of_mem (lvAl_mem (B := B) hl0)
  exact lv_iinc hx hb d (lvAl_has hl) hj hv hn rfl (fun la2 hl2 => k B bb D cA p l e s m args below meth c H locs la2 ⟨hx, hb, hml, hown, hret, hlocks, hts, hK, hNs⟩ hE hP hS (lvL_st1 (x := .int v) hc (List.getElem?_eq_some_iff.mp hl0).1 hl2))
theorem lg_iadd {x y v : Int32} (d : decode (ic mL_law) pc = .ok (.iadd, 1)) (hv : x + y = v) (k : GL J (pc + 1) ls (.int v :: st) σ) : GL J pc ls (.int y :: .int x :: st) σ := by
  subst hv
  intro B bb D cA p l e s m args below meth c H locs la C hE hP hS hl
  obtain ⟨hx, hb, hml, hown, hret, hlocks, hts, hK, hNs⟩ := C
  exact lv_iadd hx hb d (k B bb D cA p l e s m args below meth c H locs la ⟨hx, hb, hml, hown, hret, hlocks, hts, hK, hNs⟩ hE hP hS hl)
theorem lg_isub {x y v : Int32} (d : decode (ic mL_law) pc = .ok (.isub, 1)) (hv : x - y = v) (k : GL J (pc + 1) ls (.int v :: st) σ) : GL J pc ls (.int y :: .int x :: st) σ := by
  subst hv
  intro B bb D cA p l e s m args below meth c H locs la C hE hP hS hl
  obtain ⟨hx, hb, hml, hown, hret, hlocks, hts, hK, hNs⟩ := C
  exact lv_isub hx hb d (k B bb D cA p l e s m args below meth c H locs la ⟨hx, hb, hml, hown, hret, hlocks, hts, hK, hNs⟩ hE hP hS hl)
theorem lg_imul {x y v : Int32} (d : decode (ic mL_law) pc = .ok (.imul, 1)) (hv : x * y = v) (k : GL J (pc + 1) ls (.int v :: st) σ) : GL J pc ls (.int y :: .int x :: st) σ := by
  subst hv
  intro B bb D cA p l e s m args below meth c H locs la C hE hP hS hl
  obtain ⟨hx, hb, hml, hown, hret, hlocks, hts, hK, hNs⟩ := C
  exact lv_imul hx hb d (k B bb D cA p l e s m args below meth c H locs la ⟨hx, hb, hml, hown, hret, hlocks, hts, hK, hNs⟩ hE hP hS hl)
theorem lg_iand {x y v : Int32} (d : decode (ic mL_law) pc = .ok (.iand, 1)) (hv : x &&& y = v) (k : GL J (pc + 1) ls (.int v :: st) σ) : GL J pc ls (.int y :: .int x :: st) σ := by
  subst hv
  intro B bb D cA p l e s m args below meth c H locs la C hE hP hS hl
  obtain ⟨hx, hb, hml, hown, hret, hlocks, hts, hK, hNs⟩ := C
  exact lv_iand hx hb d (k B bb D cA p l e s m args below meth c H locs la ⟨hx, hb, hml, hown, hret, hlocks, hts, hK, hNs⟩ hE hP hS hl)
theorem lg_ior {x y v : Int32} (d : decode (ic mL_law) pc = .ok (.ior, 1)) (hv : x ||| y = v) (k : GL J (pc + 1) ls (.int v :: st) σ) : GL J pc ls (.int y :: .int x :: st) σ := by
  subst hv
  intro B bb D cA p l e s m args below meth c H locs la C hE hP hS hl
  obtain ⟨hx, hb, hml, hown, hret, hlocks, hts, hK, hNs⟩ := C
  exact lv_ior hx hb d (k B bb D cA p l e s m args below meth c H locs la ⟨hx, hb, hml, hown, hret, hlocks, hts, hK, hNs⟩ hE hP hS hl)
theorem lg_ixor {x y v : Int32} (d : decode (ic mL_law) pc = .ok (.ixor, 1)) (hv : x ^^^ y = v) (k : GL J (pc + 1) ls (.int v :: st) σ) : GL J pc ls (.int y :: .int x :: st) σ := by
  subst hv
  intro B bb D cA p l e s m args below meth c H locs la C hE hP hS hl
  obtain ⟨hx, hb, hml, hown, hret, hlocks, hts, hK, hNs⟩ := C
  exact lv_ixor hx hb d (k B bb D cA p l e s m args below meth c H locs la ⟨hx, hb, hml, hown, hret, hlocks, hts, hK, hNs⟩ hE hP hS hl)
theorem lg_ishl {x y v : Int32} (d : decode (ic mL_law) pc = .ok (.ishl, 1)) (hv : x <<< (y &&& 31) = v) (k : GL J (pc + 1) ls (.int v :: st) σ) : GL J pc ls (.int y :: .int x :: st) σ := by
  subst hv
  intro B bb D cA p l e s m args below meth c H locs la C hE hP hS hl
  obtain ⟨hx, hb, hml, hown, hret, hlocks, hts, hK, hNs⟩ := C
  exact lv_ishl hx hb d (k B bb D cA p l e s m args below meth c H locs la ⟨hx, hb, hml, hown, hret, hlocks, hts, hK, hNs⟩ hE hP hS hl)
theorem lg_ishr {x y v : Int32} (d : decode (ic mL_law) pc = .ok (.ishr, 1)) (hv : x >>> (y &&& 31) = v) (k : GL J (pc + 1) ls (.int v :: st) σ) : GL J pc ls (.int y :: .int x :: st) σ := by
  subst hv
  intro B bb D cA p l e s m args below meth c H locs la C hE hP hS hl
  obtain ⟨hx, hb, hml, hown, hret, hlocks, hts, hK, hNs⟩ := C
  exact lv_ishr hx hb d (k B bb D cA p l e s m args below meth c H locs la ⟨hx, hb, hml, hown, hret, hlocks, hts, hK, hNs⟩ hE hP hS hl)
theorem lg_idiv {x y v : Int32} (d : decode (ic mL_law) pc = .ok (.idiv, 1)) (hy : ¬ y = 0) (hv : x / y = v) (k : GL J (pc + 1) ls (.int v :: st) σ) : GL J pc ls (.int y :: .int x :: st) σ := by
  subst hv
  intro B bb D cA p l e s m args below meth c H locs la C hE hP hS hl
  obtain ⟨hx, hb, hml, hown, hret, hlocks, hts, hK, hNs⟩ := C
  exact lv_idiv hx hb d hy (k B bb D cA p l e s m args below meth c H locs la ⟨hx, hb, hml, hown, hret, hlocks, hts, hK, hNs⟩ hE hP hS hl)
theorem lg_irem {x y v : Int32} (d : decode (ic mL_law) pc = .ok (.irem, 1)) (hy : ¬ y = 0) (hv : x - x / y * y = v) (k : GL J (pc + 1) ls (.int v :: st) σ) : GL J pc ls (.int y :: .int x :: st) σ := by
  subst hv
  intro B bb D cA p l e s m args below meth c H locs la C hE hP hS hl
  obtain ⟨hx, hb, hml, hown, hret, hlocks, hts, hK, hNs⟩ := C
  exact lv_irem hx hb d hy (k B bb D cA p l e s m args below meth c H locs la ⟨hx, hb, hml, hown, hret, hlocks, hts, hK, hNs⟩ hE hP hS hl)
theorem lg_iushr {x y v : Int32} (d : decode (ic mL_law) pc = .ok (.iushr, 1)) (hv : (x.toUInt32 >>> (y.toUInt32 &&& Int32.toUInt32 31)).toInt32 = v) (k : GL J (pc + 1) ls (.int v :: st) σ) : GL J pc ls (.int y :: .int x :: st) σ := by
  intro B bb D cA p l e s m args below meth c H locs la C hE hP hS hl
  obtain ⟨hx, hb, hml, hown, hret, hlocks, hts, hK, hNs⟩ := C
  exact lv_iushr hx hb d hv (k B bb D cA p l e s m args below meth c H locs la ⟨hx, hb, hml, hown, hret, hlocks, hts, hK, hNs⟩ hE hP hS hl)
theorem lg_ladd {x y v : Int64} (d : decode (ic mL_law) pc = .ok (.ladd, 1)) (hv : x + y = v) (k : GL J (pc + 1) ls (.long v :: st) σ) : GL J pc ls (.long y :: .long x :: st) σ := by
  subst hv
  intro B bb D cA p l e s m args below meth c H locs la C hE hP hS hl
  obtain ⟨hx, hb, hml, hown, hret, hlocks, hts, hK, hNs⟩ := C
  exact lv_ladd hx hb d (k B bb D cA p l e s m args below meth c H locs la ⟨hx, hb, hml, hown, hret, hlocks, hts, hK, hNs⟩ hE hP hS hl)
theorem lg_lmul {x y v : Int64} (d : decode (ic mL_law) pc = .ok (.lmul, 1)) (hv : x * y = v) (k : GL J (pc + 1) ls (.long v :: st) σ) : GL J pc ls (.long y :: .long x :: st) σ := by
  subst hv
  intro B bb D cA p l e s m args below meth c H locs la C hE hP hS hl
  obtain ⟨hx, hb, hml, hown, hret, hlocks, hts, hK, hNs⟩ := C
  exact lv_lmul hx hb d (k B bb D cA p l e s m args below meth c H locs la ⟨hx, hb, hml, hown, hret, hlocks, hts, hK, hNs⟩ hE hP hS hl)
theorem lg_lcmp {x y : Int64} {v : Int32} (d : decode (ic mL_law) pc = .ok (.lcmp, 1)) (hv : lg_cmp x y = v) (k : GL J (pc + 1) ls (.int v :: st) σ) : GL J pc ls (.long y :: .long x :: st) σ := by
  subst hv
  intro B bb D cA p l e s m args below meth c H locs la C hE hP hS hl
  obtain ⟨hx, hb, hml, hown, hret, hlocks, hts, hK, hNs⟩ := C
  exact W.lcmp hx hb d (k B bb D cA p l e s m args below meth c H locs la ⟨hx, hb, hml, hown, hret, hlocks, hts, hK, hNs⟩ hE hP hS hl)
theorem lg_i2l {x : Int32} {v : Int64} (d : decode (ic mL_law) pc = .ok (.i2l, 1)) (hv : x.toInt64 = v) (k : GL J (pc + 1) ls (.long v :: st) σ) : GL J pc ls (.int x :: st) σ := by
  intro B bb D cA p l e s m args below meth c H locs la C hE hP hS hl
  obtain ⟨hx, hb, hml, hown, hret, hlocks, hts, hK, hNs⟩ := C
  exact lv_i2l hx hb d hv (k B bb D cA p l e s m args below meth c H locs la ⟨hx, hb, hml, hown, hret, hlocks, hts, hK, hNs⟩ hE hP hS hl)
theorem lg_l2i {x : Int64} {v : Int32} (d : decode (ic mL_law) pc = .ok (.l2i, 1)) (hv : x.toInt32 = v) (k : GL J (pc + 1) ls (.int v :: st) σ) : GL J pc ls (.long x :: st) σ := by
  intro B bb D cA p l e s m args below meth c H locs la C hE hP hS hl
  obtain ⟨hx, hb, hml, hown, hret, hlocks, hts, hK, hNs⟩ := C
  exact lv_l2i hx hb d hv (k B bb D cA p l e s m args below meth c H locs la ⟨hx, hb, hml, hown, hret, hlocks, hts, hK, hNs⟩ hE hP hS hl)
theorem lg_i2b {x : Int32} {v : Int32} (d : decode (ic mL_law) pc = .ok (.i2b, 1)) (hv : x.toInt8.toInt32 = v) (k : GL J (pc + 1) ls (.int v :: st) σ) : GL J pc ls (.int x :: st) σ := by
  intro B bb D cA p l e s m args below meth c H locs la C hE hP hS hl
  obtain ⟨hx, hb, hml, hown, hret, hlocks, hts, hK, hNs⟩ := C
  exact lv_i2b hx hb d hv (k B bb D cA p l e s m args below meth c H locs la ⟨hx, hb, hml, hown, hret, hlocks, hts, hK, hNs⟩ hE hP hS hl)
theorem lg_dup {x : Value} (d : decode (ic mL_law) pc = .ok (.dup, 1)) (hx1 : x.category = 1) (k : GL J (pc + 1) ls (x :: x :: st) σ) : GL J pc ls (x :: st) σ := by
  intro B bb D cA p l e s m args below meth c H locs la C hE hP hS hl
  obtain ⟨hx, hb, hml, hown, hret, hlocks, hts, hK, hNs⟩ := C
  exact lv_dup hx hb d (by rw [cvL_cat]; exact hx1) (k B bb D cA p l e s m args below meth c H locs la ⟨hx, hb, hml, hown, hret, hlocks, hts, hK, hNs⟩ hE hP hS hl)
theorem lg_pop {x : Value} (d : decode (ic mL_law) pc = .ok (.pop, 1)) (hx1 : x.category = 1) (k : GL J (pc + 1) ls st σ) : GL J pc ls (x :: st) σ := by
  intro B bb D cA p l e s m args below meth c H locs la C hE hP hS hl
  obtain ⟨hx, hb, hml, hown, hret, hlocks, hts, hK, hNs⟩ := C
  exact lv_pop hx hb d (by rw [cvL_cat]; exact hx1) (k B bb D cA p l e s m args below meth c H locs la ⟨hx, hb, hml, hown, hret, hlocks, hts, hK, hNs⟩ hE hP hS hl)
theorem lg_dup2 {x y : Value} (d : decode (ic mL_law) pc = .ok (.dup2, 1)) (hx1 : x.category = 1) (hy1 : y.category = 1) (k : GL J (pc + 1) ls (x :: y :: x :: y :: st) σ) : GL J pc ls (x :: y :: st) σ := by
  intro B bb D cA p l e s m args below meth c H locs la C hE hP hS hl
  obtain ⟨hx, hb, hml, hown, hret, hlocks, hts, hK, hNs⟩ := C
  exact lv_dup2_11 hx hb d (by rw [cvL_cat]; exact hx1) (by rw [cvL_cat]; exact hy1) (k B bb D cA p l e s m args below meth c H locs la ⟨hx, hb, hml, hown, hret, hlocks, hts, hK, hNs⟩ hE hP hS hl)
theorem lg_if_eq {x : Int32} {off : Int} {tgt : Nat} (d : decode (ic mL_law) pc = .ok (.ifCond .eq off, 3)) (ht : (pc : Int) + off = (tgt : Int)) (kt : x = 0 → GL J tgt ls st σ) (kf : ¬ (x = 0) → GL J (pc + 3) ls st σ) : GL J pc ls (.int x :: st) σ := by
  intro B bb D cA p l e s m args below meth c H locs la C hE hP hS hl
  obtain ⟨hx, hb, hml, hown, hret, hlocks, hts, hK, hNs⟩ := C
  exact lv_if_eq hx hb d ht (fun h => kt h B bb D cA p l e s m args below meth c H locs la ⟨hx, hb, hml, hown, hret, hlocks, hts, hK, hNs⟩ hE hP hS hl) (fun h => kf h B bb D cA p l e s m args below meth c H locs la ⟨hx, hb, hml, hown, hret, hlocks, hts, hK, hNs⟩ hE hP hS hl)
theorem lg_icmp_eq {x y : Int32} {off : Int} {tgt : Nat} (d : decode (ic mL_law) pc = .ok (.if_icmp .eq off, 3)) (ht : (pc : Int) + off = (tgt : Int)) (kt : x = y → GL J tgt ls st σ) (kf : ¬ (x = y) → GL J (pc + 3) ls st σ) : GL J pc ls (.int y :: .int x :: st) σ := by
  intro B bb D cA p l e s m args below meth c H locs la C hE hP hS hl
  obtain ⟨hx, hb, hml, hown, hret, hlocks, hts, hK, hNs⟩ := C
  exact lv_icmp_eq hx hb d ht (fun h => kt h B bb D cA p l e s m args below meth c H locs la ⟨hx, hb, hml, hown, hret, hlocks, hts, hK, hNs⟩ hE hP hS hl) (fun h => kf h B bb D cA p l e s m args below meth c H locs la ⟨hx, hb, hml, hown, hret, hlocks, hts, hK, hNs⟩ hE hP hS hl)
theorem lg_if_ne {x : Int32} {off : Int} {tgt : Nat} (d : decode (ic mL_law) pc = .ok (.ifCond .ne off, 3)) (ht : (pc : Int) + off = (tgt : Int)) (kt : ¬ x = 0 → GL J tgt ls st σ) (kf : x = 0 → GL J (pc + 3) ls st σ) : GL J pc ls (.int x :: st) σ := by
  intro B bb D cA p l e s m args below meth c H locs la C hE hP hS hl
  obtain ⟨hx, hb, hml, hown, hret, hlocks, hts, hK, hNs⟩ := C
  exact lv_if_ne hx hb d ht (fun h => kt h B bb D cA p l e s m args below meth c H locs la ⟨hx, hb, hml, hown, hret, hlocks, hts, hK, hNs⟩ hE hP hS hl) (fun h => kf h B bb D cA p l e s m args below meth c H locs la ⟨hx, hb, hml, hown, hret, hlocks, hts, hK, hNs⟩ hE hP hS hl)
theorem lg_icmp_ne {x y : Int32} {off : Int} {tgt : Nat} (d : decode (ic mL_law) pc = .ok (.if_icmp .ne off, 3)) (ht : (pc : Int) + off = (tgt : Int)) (kt : ¬ x = y → GL J tgt ls st σ) (kf : x = y → GL J (pc + 3) ls st σ) : GL J pc ls (.int y :: .int x :: st) σ := by
  intro B bb D cA p l e s m args below meth c H locs la C hE hP hS hl
  obtain ⟨hx, hb, hml, hown, hret, hlocks, hts, hK, hNs⟩ := C
  exact lv_icmp_ne hx hb d ht (fun h => kt h B bb D cA p l e s m args below meth c H locs la ⟨hx, hb, hml, hown, hret, hlocks, hts, hK, hNs⟩ hE hP hS hl) (fun h => kf h B bb D cA p l e s m args below meth c H locs la ⟨hx, hb, hml, hown, hret, hlocks, hts, hK, hNs⟩ hE hP hS hl)
theorem lg_if_lt {x : Int32} {off : Int} {tgt : Nat} (d : decode (ic mL_law) pc = .ok (.ifCond .lt off, 3)) (ht : (pc : Int) + off = (tgt : Int)) (kt : x < 0 → GL J tgt ls st σ) (kf : ¬ (x < 0) → GL J (pc + 3) ls st σ) : GL J pc ls (.int x :: st) σ := by
  intro B bb D cA p l e s m args below meth c H locs la C hE hP hS hl
  obtain ⟨hx, hb, hml, hown, hret, hlocks, hts, hK, hNs⟩ := C
  exact lv_if_lt hx hb d ht (fun h => kt h B bb D cA p l e s m args below meth c H locs la ⟨hx, hb, hml, hown, hret, hlocks, hts, hK, hNs⟩ hE hP hS hl) (fun h => kf h B bb D cA p l e s m args below meth c H locs la ⟨hx, hb, hml, hown, hret, hlocks, hts, hK, hNs⟩ hE hP hS hl)
theorem lg_icmp_lt {x y : Int32} {off : Int} {tgt : Nat} (d : decode (ic mL_law) pc = .ok (.if_icmp .lt off, 3)) (ht : (pc : Int) + off = (tgt : Int)) (kt : x < y → GL J tgt ls st σ) (kf : ¬ (x < y) → GL J (pc + 3) ls st σ) : GL J pc ls (.int y :: .int x :: st) σ := by
  intro B bb D cA p l e s m args below meth c H locs la C hE hP hS hl
  obtain ⟨hx, hb, hml, hown, hret, hlocks, hts, hK, hNs⟩ := C
  exact lv_icmp_lt hx hb d ht (fun h => kt h B bb D cA p l e s m args below meth c H locs la ⟨hx, hb, hml, hown, hret, hlocks, hts, hK, hNs⟩ hE hP hS hl) (fun h => kf h B bb D cA p l e s m args below meth c H locs la ⟨hx, hb, hml, hown, hret, hlocks, hts, hK, hNs⟩ hE hP hS hl)
theorem lg_if_ge {x : Int32} {off : Int} {tgt : Nat} (d : decode (ic mL_law) pc = .ok (.ifCond .ge off, 3)) (ht : (pc : Int) + off = (tgt : Int)) (kt : 0 ≤ x → GL J tgt ls st σ) (kf : ¬ (0 ≤ x) → GL J (pc + 3) ls st σ) : GL J pc ls (.int x :: st) σ := by
  intro B bb D cA p l e s m args below meth c H locs la C hE hP hS hl
  obtain ⟨hx, hb, hml, hown, hret, hlocks, hts, hK, hNs⟩ := C
  exact lv_if_ge hx hb d ht (fun h => kt h B bb D cA p l e s m args below meth c H locs la ⟨hx, hb, hml, hown, hret, hlocks, hts, hK, hNs⟩ hE hP hS hl) (fun h => kf h B bb D cA p l e s m args below meth c H locs la ⟨hx, hb, hml, hown, hret, hlocks, hts, hK, hNs⟩ hE hP hS hl)
theorem lg_icmp_ge {x y : Int32} {off : Int} {tgt : Nat} (d : decode (ic mL_law) pc = .ok (.if_icmp .ge off, 3)) (ht : (pc : Int) + off = (tgt : Int)) (kt : y ≤ x → GL J tgt ls st σ) (kf : ¬ (y ≤ x) → GL J (pc + 3) ls st σ) : GL J pc ls (.int y :: .int x :: st) σ := by
  intro B bb D cA p l e s m args below meth c H locs la C hE hP hS hl
  obtain ⟨hx, hb, hml, hown, hret, hlocks, hts, hK, hNs⟩ := C
  exact lv_icmp_ge hx hb d ht (fun h => kt h B bb D cA p l e s m args below meth c H locs la ⟨hx, hb, hml, hown, hret, hlocks, hts, hK, hNs⟩ hE hP hS hl) (fun h => kf h B bb D cA p l e s m args below meth c H locs la ⟨hx, hb, hml, hown, hret, hlocks, hts, hK, hNs⟩ hE hP hS hl)
theorem lg_if_gt {x : Int32} {off : Int} {tgt : Nat} (d : decode (ic mL_law) pc = .ok (.ifCond .gt off, 3)) (ht : (pc : Int) + off = (tgt : Int)) (kt : 0 < x → GL J tgt ls st σ) (kf : ¬ (0 < x) → GL J (pc + 3) ls st σ) : GL J pc ls (.int x :: st) σ := by
  intro B bb D cA p l e s m args below meth c H locs la C hE hP hS hl
  obtain ⟨hx, hb, hml, hown, hret, hlocks, hts, hK, hNs⟩ := C
  exact lv_if_gt hx hb d ht (fun h => kt h B bb D cA p l e s m args below meth c H locs la ⟨hx, hb, hml, hown, hret, hlocks, hts, hK, hNs⟩ hE hP hS hl) (fun h => kf h B bb D cA p l e s m args below meth c H locs la ⟨hx, hb, hml, hown, hret, hlocks, hts, hK, hNs⟩ hE hP hS hl)
theorem lg_icmp_gt {x y : Int32} {off : Int} {tgt : Nat} (d : decode (ic mL_law) pc = .ok (.if_icmp .gt off, 3)) (ht : (pc : Int) + off = (tgt : Int)) (kt : y < x → GL J tgt ls st σ) (kf : ¬ (y < x) → GL J (pc + 3) ls st σ) : GL J pc ls (.int y :: .int x :: st) σ := by
  intro B bb D cA p l e s m args below meth c H locs la C hE hP hS hl
  obtain ⟨hx, hb, hml, hown, hret, hlocks, hts, hK, hNs⟩ := C
  exact lv_icmp_gt hx hb d ht (fun h => kt h B bb D cA p l e s m args below meth c H locs la ⟨hx, hb, hml, hown, hret, hlocks, hts, hK, hNs⟩ hE hP hS hl) (fun h => kf h B bb D cA p l e s m args below meth c H locs la ⟨hx, hb, hml, hown, hret, hlocks, hts, hK, hNs⟩ hE hP hS hl)
theorem lg_if_le {x : Int32} {off : Int} {tgt : Nat} (d : decode (ic mL_law) pc = .ok (.ifCond .le off, 3)) (ht : (pc : Int) + off = (tgt : Int)) (kt : x ≤ 0 → GL J tgt ls st σ) (kf : ¬ (x ≤ 0) → GL J (pc + 3) ls st σ) : GL J pc ls (.int x :: st) σ := by
  intro B bb D cA p l e s m args below meth c H locs la C hE hP hS hl
  obtain ⟨hx, hb, hml, hown, hret, hlocks, hts, hK, hNs⟩ := C
  exact lv_if_le hx hb d ht (fun h => kt h B bb D cA p l e s m args below meth c H locs la ⟨hx, hb, hml, hown, hret, hlocks, hts, hK, hNs⟩ hE hP hS hl) (fun h => kf h B bb D cA p l e s m args below meth c H locs la ⟨hx, hb, hml, hown, hret, hlocks, hts, hK, hNs⟩ hE hP hS hl)
theorem lg_icmp_le {x y : Int32} {off : Int} {tgt : Nat} (d : decode (ic mL_law) pc = .ok (.if_icmp .le off, 3)) (ht : (pc : Int) + off = (tgt : Int)) (kt : x ≤ y → GL J tgt ls st σ) (kf : ¬ (x ≤ y) → GL J (pc + 3) ls st σ) : GL J pc ls (.int y :: .int x :: st) σ := by
  intro B bb D cA p l e s m args below meth c H locs la C hE hP hS hl
  obtain ⟨hx, hb, hml, hown, hret, hlocks, hts, hK, hNs⟩ := C
  exact lv_icmp_le hx hb d ht (fun h => kt h B bb D cA p l e s m args below meth c H locs la ⟨hx, hb, hml, hown, hret, hlocks, hts, hK, hNs⟩ hE hP hS hl) (fun h => kf h B bb D cA p l e s m args below meth c H locs la ⟨hx, hb, hml, hown, hret, hlocks, hts, hK, hNs⟩ hE hP hS hl)
theorem lg_goto {off : Int} {tgt : Nat} (d : decode (ic mL_law) pc = .ok (.goto off, 3)) (ht : (pc : Int) + off = (tgt : Int)) (k : GL J tgt ls st σ) : GL J pc ls st σ := by
  intro B bb D cA p l e s m args below meth c H locs la C hE hP hS hl
  obtain ⟨hx, hb, hml, hown, hret, hlocks, hts, hK, hNs⟩ := C
  exact lv_goto hx hb d ht (k B bb D cA p l e s m args below meth c H locs la ⟨hx, hb, hml, hown, hret, hlocks, hts, hK, hNs⟩ hE hP hS hl)
theorem lg_tableOut {dflt lo hi : Int} {offs : Array Int} {len : Nat} {x : Int32} {tgt : Nat} (d : decode (ic mL_law) pc = .ok (.tableswitch dflt lo hi offs, len)) (h : x.toInt < lo ∨ hi < x.toInt) (ht : (pc : Int) + dflt = (tgt : Int)) (k : GL J tgt ls st σ) : GL J pc ls (.int x :: st) σ := by
  intro B bb D cA p l e s m args below meth c H locs la C hE hP hS hl
  obtain ⟨hx, hb, hml, hown, hret, hlocks, hts, hK, hNs⟩ := C
  exact lv_tableOut hx hb d h ht (k B bb D cA p l e s m args below meth c H locs la ⟨hx, hb, hml, hown, hret, hlocks, hts, hK, hNs⟩ hE hP hS hl)
theorem lg_tableIn {dflt lo hi : Int} {offs : Array Int} {len : Nat} {x : Int32} {off : Int} {tgt : Nat} (d : decode (ic mL_law) pc = .ok (.tableswitch dflt lo hi offs, len)) (h1 : ¬ x.toInt < lo) (h2 : ¬ hi < x.toInt) (ho : offs[(x.toInt - lo).toNat]? = some off) (ht : (pc : Int) + off = (tgt : Int)) (k : GL J tgt ls st σ) : GL J pc ls (.int x :: st) σ := by
  intro B bb D cA p l e s m args below meth c H locs la C hE hP hS hl
  obtain ⟨hx, hb, hml, hown, hret, hlocks, hts, hK, hNs⟩ := C
  exact lv_tableIn hx hb d h1 h2 ho ht (k B bb D cA p l e s m args below meth c H locs la ⟨hx, hb, hml, hown, hret, hlocks, hts, hK, hNs⟩ hE hP hS hl)
theorem lg_lookup {dflt : Int} {ps : Array (Int × Int)} {len : Nat} {x : Int32} {off : Int} {tgt : Nat} (d : decode (ic mL_law) pc = .ok (.lookupswitch dflt ps, len)) (hp : (ps.toList.zip (ps.toList.drop 1)).all (fun (a, next) => a.1 < next.1) = true) (ho : Op.lookupswitch.offset ps.toList dflt x.toInt = off) (ht : (pc : Int) + off = (tgt : Int)) (k : GL J tgt ls st σ) : GL J pc ls (.int x :: st) σ := by
  intro B bb D cA p l e s m args below meth c H locs la C hE hP hS hl
  obtain ⟨hx, hb, hml, hown, hret, hlocks, hts, hK, hNs⟩ := C
  exact lv_lookup hx hb d hp ho ht (k B bb D cA p l e s m args below meth c H locs la ⟨hx, hb, hml, hown, hret, hlocks, hts, hK, hNs⟩ hE hP hS hl)
theorem lg_ldc {index : Nat} {v : Int32} (d : decode (ic mL_law) pc = .ok (.ldc index, 2)) (hc : Cond.constant (iy mL_law).cls index v ∈ tbG) (k : GL J (pc + 2) ls (.int v :: st) σ) : GL J pc ls st σ := by
  intro B bb D cA p l e s m args below meth c H locs la C hE hP hS hl
  obtain ⟨hx, hb, hml, hown, hret, hlocks, hts, hK, hNs⟩ := C
  exact lv_ldc hx hb hown (hts _ hc) d (k B bb D cA p l e s m args below meth c H locs la ⟨hx, hb, hml, hown, hret, hlocks, hts, hK, hNs⟩ hE hP hS hl)
theorem lg_ldc_w {index : Nat} {v : Int32} (d : decode (ic mL_law) pc = .ok (.ldc_w index, 3)) (hc : Cond.constant (iy mL_law).cls index v ∈ tbG) (k : GL J (pc + 3) ls (.int v :: st) σ) : GL J pc ls st σ := by
  intro B bb D cA p l e s m args below meth c H locs la C hE hP hS hl
  obtain ⟨hx, hb, hml, hown, hret, hlocks, hts, hK, hNs⟩ := C
  exact lv_ldcw hx hb hown (hts _ hc) d (k B bb D cA p l e s m args below meth c H locs la ⟨hx, hb, hml, hown, hret, hlocks, hts, hK, hNs⟩ hE hP hS hl)
theorem lg_ldc2 {index : Nat} {v : Int64} (d : decode (ic mL_law) pc = .ok (.ldc2_w index, 3)) (hc : Cond.constantLong (iy mL_law).cls index v ∈ tbG) (k : GL J (pc + 3) ls (.long v :: st) σ) : GL J pc ls st σ := by
  intro B bb D cA p l e s m args below meth c H locs la C hE hP hS hl
  obtain ⟨hx, hb, hml, hown, hret, hlocks, hts, hK, hNs⟩ := C
  exact lv_ldc2 hx hb hown (hts _ hc) d (k B bb D cA p l e s m args below meth c H locs la ⟨hx, hb, hml, hown, hret, hlocks, hts, hK, hNs⟩ hE hP hS hl)
theorem lgs_istore_n {q : Fin 4} {i : Nat} {x : Int32} (d : decode (ic mL_law) pc = .ok (.istore_n q, 1)) (hi : (q : Nat) = i) (hok : okS mL_law ls i = true) (hs : ls.set i (some (.int x)) = ls') (k : GL J (pc + 1) ls' st σ) : GL J pc ls (.int x :: st) σ := by
  subst hi; subst hs
  obtain ⟨h1, h2, h3⟩ := okS_1 hok
  exact lg_istore_n d h1 h2 h3 k
theorem lgs_istore {i : Nat} {x : Int32} (d : decode (ic mL_law) pc = .ok (.istore i, 2)) (hok : okS mL_law ls i = true) (hs : ls.set i (some (.int x)) = ls') (k : GL J (pc + 2) ls' st σ) : GL J pc ls (.int x :: st) σ := by
  subst hs
  obtain ⟨h1, h2, h3⟩ := okS_1 hok
  exact lg_istore d h1 h2 h3 k
theorem lgs_astore_n {q : Fin 4} {i : Nat} {x : Nat} (d : decode (ic mL_law) pc = .ok (.astore_n q, 1)) (hi : (q : Nat) = i) (hok : okS mL_law ls i = true) (hs : ls.set i (some (.ref x)) = ls') (k : GL J (pc + 1) ls' st σ) : GL J pc ls (.ref x :: st) σ := by
  subst hi; subst hs
  obtain ⟨h1, h2, h3⟩ := okS_1 hok
  exact lg_astore_n d h1 h2 h3 k
theorem lgs_astore {i : Nat} {x : Nat} (d : decode (ic mL_law) pc = .ok (.astore i, 2)) (hok : okS mL_law ls i = true) (hs : ls.set i (some (.ref x)) = ls') (k : GL J (pc + 2) ls' st σ) : GL J pc ls (.ref x :: st) σ := by
  subst hs
  obtain ⟨h1, h2, h3⟩ := okS_1 hok
  exact lg_astore d h1 h2 h3 k
theorem lgs_lstore_n {q : Fin 4} {i : Nat} {x : Int64} (d : decode (ic mL_law) pc = .ok (.lstore_n q, 1)) (hi : (q : Nat) = i) (hok : okS2 mL_law ls i = true) (hs : (ls.set i (some (.long x))).set (i + 1) none = ls') (k : GL J (pc + 1) ls' st σ) : GL J pc ls (.long x :: st) σ := by
  subst hi; subst hs
  obtain ⟨h1, h2, h3⟩ := okS_2 hok
  exact lg_lstore_n d h1 h2 h3 k
theorem lgs_lstore {i : Nat} {x : Int64} (d : decode (ic mL_law) pc = .ok (.lstore i, 2)) (hok : okS2 mL_law ls i = true) (hs : (ls.set i (some (.long x))).set (i + 1) none = ls') (k : GL J (pc + 2) ls' st σ) : GL J pc ls (.long x :: st) σ := by
  subst hs
  obtain ⟨h1, h2, h3⟩ := okS_2 hok
  exact lg_lstore d h1 h2 h3 k
theorem lgs_iinc {i : Nat} {n : Int} {x v : Int32} (d : decode (ic mL_law) pc = .ok (.iinc i n, 3)) (hl0 : ls[i]? = some (some (.int x))) (hv : x + Int32.ofInt n = v) (hok : okS mL_law ls i = true) (hs : ls.set i (some (.int v)) = ls') (k : GL J (pc + 3) ls' st σ) : GL J pc ls st σ := by
  subst hs
  obtain ⟨h1, h2, h3⟩ := okS_1 hok
  exact lg_iinc d hl0 hv h1 h2 k
theorem lgs_iload_n {q : Fin 4} {i : Nat} {x : Int32} (d : decode (ic mL_law) pc = .ok (.iload_n q, 1)) (hi : (q : Nat) = i) (hl0 : ls[i]? = some (some (.int x))) (k : GL J (pc + 1) ls (.int x :: st) σ) : GL J pc ls st σ := by
  subst hi
  exact lg_iload_n d hl0 k
theorem lgs_lload_n {q : Fin 4} {i : Nat} {x : Int64} (d : decode (ic mL_law) pc = .ok (.lload_n q, 1)) (hi : (q : Nat) = i) (hl0 : ls[i]? = some (some (.long x))) (k : GL J (pc + 1) ls (.long x :: st) σ) : GL J pc ls st σ := by
  subst hi
  exact lg_lload_n d hl0 k
theorem lgs_aload_n {q : Fin 4} {i : Nat} {x : Nat} (d : decode (ic mL_law) pc = .ok (.aload_n q, 1)) (hi : (q : Nat) = i) (hl0 : ls[i]? = some (some (.ref x))) (k : GL J (pc + 1) ls (.ref x :: st) σ) : GL J pc ls st σ := by
  subst hi
  exact lg_aload_n d hl0 k
theorem lgn_icmp_eq {a b : Nat} {off : Int} {tgt : Nat} (d : decode (ic mL_law) pc = .ok (.if_icmp .eq off, 3)) (ht : (pc : Int) + off = (tgt : Int)) (ha : a < 2 ^ 31) (hb : b < 2 ^ 31) (kt : a = b → GL J tgt ls st σ) (kf : ¬ a = b → GL J (pc + 3) ls st σ) : GL J pc ls (.int (nI b) :: .int (nI a) :: st) σ := lg_icmp_eq d ht (fun h => kt ((nI_eq ha hb).mp h)) (fun h => kf (fun q => h ((nI_eq ha hb).mpr q)))
theorem lgt_icmp_eq {a b : Nat} {off : Int} {tgt : Nat} (d : decode (ic mL_law) pc = .ok (.if_icmp .eq off, 3)) (ht : (pc : Int) + off = (tgt : Int)) (ha : a < 2 ^ 31) (hb : b < 2 ^ 31) (hc : a = b) (kt : GL J tgt ls st σ) : GL J pc ls (.int (nI b) :: .int (nI a) :: st) σ := lgn_icmp_eq d ht ha hb (fun _ => kt) (fun h => absurd h (by omega))
theorem lgf_icmp_eq {a b : Nat} {off : Int} {tgt : Nat} (d : decode (ic mL_law) pc = .ok (.if_icmp .eq off, 3)) (ht : (pc : Int) + off = (tgt : Int)) (ha : a < 2 ^ 31) (hb : b < 2 ^ 31) (hc : ¬ a = b) (kf : GL J (pc + 3) ls st σ) : GL J pc ls (.int (nI b) :: .int (nI a) :: st) σ := lgn_icmp_eq d ht ha hb (fun h => absurd h (by omega)) (fun _ => kf)
theorem lgn_icmp_ne {a b : Nat} {off : Int} {tgt : Nat} (d : decode (ic mL_law) pc = .ok (.if_icmp .ne off, 3)) (ht : (pc : Int) + off = (tgt : Int)) (ha : a < 2 ^ 31) (hb : b < 2 ^ 31) (kt : ¬ a = b → GL J tgt ls st σ) (kf : a = b → GL J (pc + 3) ls st σ) : GL J pc ls (.int (nI b) :: .int (nI a) :: st) σ := lg_icmp_ne d ht (fun h => kt (fun q => h ((nI_eq ha hb).mpr q))) (fun h => kf ((nI_eq ha hb).mp h))
theorem lgt_icmp_ne {a b : Nat} {off : Int} {tgt : Nat} (d : decode (ic mL_law) pc = .ok (.if_icmp .ne off, 3)) (ht : (pc : Int) + off = (tgt : Int)) (ha : a < 2 ^ 31) (hb : b < 2 ^ 31) (hc : ¬ a = b) (kt : GL J tgt ls st σ) : GL J pc ls (.int (nI b) :: .int (nI a) :: st) σ := lgn_icmp_ne d ht ha hb (fun _ => kt) (fun h => absurd h (by omega))
theorem lgf_icmp_ne {a b : Nat} {off : Int} {tgt : Nat} (d : decode (ic mL_law) pc = .ok (.if_icmp .ne off, 3)) (ht : (pc : Int) + off = (tgt : Int)) (ha : a < 2 ^ 31) (hb : b < 2 ^ 31) (hc : a = b) (kf : GL J (pc + 3) ls st σ) : GL J pc ls (.int (nI b) :: .int (nI a) :: st) σ := lgn_icmp_ne d ht ha hb (fun h => absurd h (by omega)) (fun _ => kf)
theorem lgn_icmp_lt {a b : Nat} {off : Int} {tgt : Nat} (d : decode (ic mL_law) pc = .ok (.if_icmp .lt off, 3)) (ht : (pc : Int) + off = (tgt : Int)) (ha : a < 2 ^ 31) (hb : b < 2 ^ 31) (kt : a < b → GL J tgt ls st σ) (kf : b ≤ a → GL J (pc + 3) ls st σ) : GL J pc ls (.int (nI b) :: .int (nI a) :: st) σ := lg_icmp_lt d ht (fun h => kt ((nI_ltI ha hb).mp h)) (fun h => kf (Nat.not_lt.mp (fun q => h ((nI_ltI ha hb).mpr q))))
theorem lgt_icmp_lt {a b : Nat} {off : Int} {tgt : Nat} (d : decode (ic mL_law) pc = .ok (.if_icmp .lt off, 3)) (ht : (pc : Int) + off = (tgt : Int)) (ha : a < 2 ^ 31) (hb : b < 2 ^ 31) (hc : a < b) (kt : GL J tgt ls st σ) : GL J pc ls (.int (nI b) :: .int (nI a) :: st) σ := lgn_icmp_lt d ht ha hb (fun _ => kt) (fun h => absurd h (by omega))
theorem lgf_icmp_lt {a b : Nat} {off : Int} {tgt : Nat} (d : decode (ic mL_law) pc = .ok (.if_icmp .lt off, 3)) (ht : (pc : Int) + off = (tgt : Int)) (ha : a < 2 ^ 31) (hb : b < 2 ^ 31) (hc : b ≤ a) (kf : GL J (pc + 3) ls st σ) : GL J pc ls (.int (nI b) :: .int (nI a) :: st) σ := lgn_icmp_lt d ht ha hb (fun h => absurd h (by omega)) (fun _ => kf)
theorem lgn_icmp_ge {a b : Nat} {off : Int} {tgt : Nat} (d : decode (ic mL_law) pc = .ok (.if_icmp .ge off, 3)) (ht : (pc : Int) + off = (tgt : Int)) (ha : a < 2 ^ 31) (hb : b < 2 ^ 31) (kt : b ≤ a → GL J tgt ls st σ) (kf : a < b → GL J (pc + 3) ls st σ) : GL J pc ls (.int (nI b) :: .int (nI a) :: st) σ := lg_icmp_ge d ht (fun h => kt ((nI_leI hb ha).mp h)) (fun h => kf (Nat.not_le.mp (fun q => h ((nI_leI hb ha).mpr q))))
theorem lgt_icmp_ge {a b : Nat} {off : Int} {tgt : Nat} (d : decode (ic mL_law) pc = .ok (.if_icmp .ge off, 3)) (ht : (pc : Int) + off = (tgt : Int)) (ha : a < 2 ^ 31) (hb : b < 2 ^ 31) (hc : b ≤ a) (kt : GL J tgt ls st σ) : GL J pc ls (.int (nI b) :: .int (nI a) :: st) σ := lgn_icmp_ge d ht ha hb (fun _ => kt) (fun h => absurd h (by omega))
theorem lgf_icmp_ge {a b : Nat} {off : Int} {tgt : Nat} (d : decode (ic mL_law) pc = .ok (.if_icmp .ge off, 3)) (ht : (pc : Int) + off = (tgt : Int)) (ha : a < 2 ^ 31) (hb : b < 2 ^ 31) (hc : a < b) (kf : GL J (pc + 3) ls st σ) : GL J pc ls (.int (nI b) :: .int (nI a) :: st) σ := lgn_icmp_ge d ht ha hb (fun h => absurd h (by omega)) (fun _ => kf)
theorem lgn_icmp_gt {a b : Nat} {off : Int} {tgt : Nat} (d : decode (ic mL_law) pc = .ok (.if_icmp .gt off, 3)) (ht : (pc : Int) + off = (tgt : Int)) (ha : a < 2 ^ 31) (hb : b < 2 ^ 31) (kt : b < a → GL J tgt ls st σ) (kf : a ≤ b → GL J (pc + 3) ls st σ) : GL J pc ls (.int (nI b) :: .int (nI a) :: st) σ := lg_icmp_gt d ht (fun h => kt ((nI_ltI hb ha).mp h)) (fun h => kf (Nat.not_lt.mp (fun q => h ((nI_ltI hb ha).mpr q))))
theorem lgt_icmp_gt {a b : Nat} {off : Int} {tgt : Nat} (d : decode (ic mL_law) pc = .ok (.if_icmp .gt off, 3)) (ht : (pc : Int) + off = (tgt : Int)) (ha : a < 2 ^ 31) (hb : b < 2 ^ 31) (hc : b < a) (kt : GL J tgt ls st σ) : GL J pc ls (.int (nI b) :: .int (nI a) :: st) σ := lgn_icmp_gt d ht ha hb (fun _ => kt) (fun h => absurd h (by omega))
theorem lgf_icmp_gt {a b : Nat} {off : Int} {tgt : Nat} (d : decode (ic mL_law) pc = .ok (.if_icmp .gt off, 3)) (ht : (pc : Int) + off = (tgt : Int)) (ha : a < 2 ^ 31) (hb : b < 2 ^ 31) (hc : a ≤ b) (kf : GL J (pc + 3) ls st σ) : GL J pc ls (.int (nI b) :: .int (nI a) :: st) σ := lgn_icmp_gt d ht ha hb (fun h => absurd h (by omega)) (fun _ => kf)
theorem lgn_icmp_le {a b : Nat} {off : Int} {tgt : Nat} (d : decode (ic mL_law) pc = .ok (.if_icmp .le off, 3)) (ht : (pc : Int) + off = (tgt : Int)) (ha : a < 2 ^ 31) (hb : b < 2 ^ 31) (kt : a ≤ b → GL J tgt ls st σ) (kf : b < a → GL J (pc + 3) ls st σ) : GL J pc ls (.int (nI b) :: .int (nI a) :: st) σ := lg_icmp_le d ht (fun h => kt ((nI_leI ha hb).mp h)) (fun h => kf (Nat.not_le.mp (fun q => h ((nI_leI ha hb).mpr q))))
theorem lgt_icmp_le {a b : Nat} {off : Int} {tgt : Nat} (d : decode (ic mL_law) pc = .ok (.if_icmp .le off, 3)) (ht : (pc : Int) + off = (tgt : Int)) (ha : a < 2 ^ 31) (hb : b < 2 ^ 31) (hc : a ≤ b) (kt : GL J tgt ls st σ) : GL J pc ls (.int (nI b) :: .int (nI a) :: st) σ := lgn_icmp_le d ht ha hb (fun _ => kt) (fun h => absurd h (by omega))
theorem lgf_icmp_le {a b : Nat} {off : Int} {tgt : Nat} (d : decode (ic mL_law) pc = .ok (.if_icmp .le off, 3)) (ht : (pc : Int) + off = (tgt : Int)) (ha : a < 2 ^ 31) (hb : b < 2 ^ 31) (hc : b < a) (kf : GL J (pc + 3) ls st σ) : GL J pc ls (.int (nI b) :: .int (nI a) :: st) σ := lgn_icmp_le d ht ha hb (fun h => absurd h (by omega)) (fun _ => kf)
theorem lrt_if_eq {x : Int32} {off : Int} {tgt : Nat} (d : decode (ic mL_law) pc = .ok (.ifCond .eq off, 3)) (ht : (pc : Int) + off = (tgt : Int)) (hc : x = 0) (kt : GL J tgt ls st σ) : GL J pc ls (.int x :: st) σ := lg_if_eq d ht (fun _ => kt) (fun h => absurd hc h)
theorem lrf_if_eq {x : Int32} {off : Int} {tgt : Nat} (d : decode (ic mL_law) pc = .ok (.ifCond .eq off, 3)) (ht : (pc : Int) + off = (tgt : Int)) (hc : ¬ (x = 0)) (kf : GL J (pc + 3) ls st σ) : GL J pc ls (.int x :: st) σ := lg_if_eq d ht (fun h => absurd h hc) (fun _ => kf)
theorem lrt_icmp_eq {x y : Int32} {off : Int} {tgt : Nat} (d : decode (ic mL_law) pc = .ok (.if_icmp .eq off, 3)) (ht : (pc : Int) + off = (tgt : Int)) (hc : x = y) (kt : GL J tgt ls st σ) : GL J pc ls (.int y :: .int x :: st) σ := lg_icmp_eq d ht (fun _ => kt) (fun h => absurd hc h)
theorem lrf_icmp_eq {x y : Int32} {off : Int} {tgt : Nat} (d : decode (ic mL_law) pc = .ok (.if_icmp .eq off, 3)) (ht : (pc : Int) + off = (tgt : Int)) (hc : ¬ (x = y)) (kf : GL J (pc + 3) ls st σ) : GL J pc ls (.int y :: .int x :: st) σ := lg_icmp_eq d ht (fun h => absurd h hc) (fun _ => kf)
theorem lrt_if_ne {x : Int32} {off : Int} {tgt : Nat} (d : decode (ic mL_law) pc = .ok (.ifCond .ne off, 3)) (ht : (pc : Int) + off = (tgt : Int)) (hc : ¬ x = 0) (kt : GL J tgt ls st σ) : GL J pc ls (.int x :: st) σ := lg_if_ne d ht (fun _ => kt) (fun h => absurd h hc)
theorem lrf_if_ne {x : Int32} {off : Int} {tgt : Nat} (d : decode (ic mL_law) pc = .ok (.ifCond .ne off, 3)) (ht : (pc : Int) + off = (tgt : Int)) (hc : x = 0) (kf : GL J (pc + 3) ls st σ) : GL J pc ls (.int x :: st) σ := lg_if_ne d ht (fun h => absurd hc h) (fun _ => kf)
theorem lrt_icmp_ne {x y : Int32} {off : Int} {tgt : Nat} (d : decode (ic mL_law) pc = .ok (.if_icmp .ne off, 3)) (ht : (pc : Int) + off = (tgt : Int)) (hc : ¬ x = y) (kt : GL J tgt ls st σ) : GL J pc ls (.int y :: .int x :: st) σ := lg_icmp_ne d ht (fun _ => kt) (fun h => absurd h hc)
theorem lrf_icmp_ne {x y : Int32} {off : Int} {tgt : Nat} (d : decode (ic mL_law) pc = .ok (.if_icmp .ne off, 3)) (ht : (pc : Int) + off = (tgt : Int)) (hc : x = y) (kf : GL J (pc + 3) ls st σ) : GL J pc ls (.int y :: .int x :: st) σ := lg_icmp_ne d ht (fun h => absurd hc h) (fun _ => kf)
theorem lrt_if_lt {x : Int32} {off : Int} {tgt : Nat} (d : decode (ic mL_law) pc = .ok (.ifCond .lt off, 3)) (ht : (pc : Int) + off = (tgt : Int)) (hc : x < 0) (kt : GL J tgt ls st σ) : GL J pc ls (.int x :: st) σ := lg_if_lt d ht (fun _ => kt) (fun h => absurd hc h)
theorem lrf_if_lt {x : Int32} {off : Int} {tgt : Nat} (d : decode (ic mL_law) pc = .ok (.ifCond .lt off, 3)) (ht : (pc : Int) + off = (tgt : Int)) (hc : ¬ (x < 0)) (kf : GL J (pc + 3) ls st σ) : GL J pc ls (.int x :: st) σ := lg_if_lt d ht (fun h => absurd h hc) (fun _ => kf)
theorem lrt_icmp_lt {x y : Int32} {off : Int} {tgt : Nat} (d : decode (ic mL_law) pc = .ok (.if_icmp .lt off, 3)) (ht : (pc : Int) + off = (tgt : Int)) (hc : x < y) (kt : GL J tgt ls st σ) : GL J pc ls (.int y :: .int x :: st) σ := lg_icmp_lt d ht (fun _ => kt) (fun h => absurd hc h)
theorem lrf_icmp_lt {x y : Int32} {off : Int} {tgt : Nat} (d : decode (ic mL_law) pc = .ok (.if_icmp .lt off, 3)) (ht : (pc : Int) + off = (tgt : Int)) (hc : ¬ (x < y)) (kf : GL J (pc + 3) ls st σ) : GL J pc ls (.int y :: .int x :: st) σ := lg_icmp_lt d ht (fun h => absurd h hc) (fun _ => kf)
theorem lrt_if_ge {x : Int32} {off : Int} {tgt : Nat} (d : decode (ic mL_law) pc = .ok (.ifCond .ge off, 3)) (ht : (pc : Int) + off = (tgt : Int)) (hc : 0 ≤ x) (kt : GL J tgt ls st σ) : GL J pc ls (.int x :: st) σ := lg_if_ge d ht (fun _ => kt) (fun h => absurd hc h)
theorem lrf_if_ge {x : Int32} {off : Int} {tgt : Nat} (d : decode (ic mL_law) pc = .ok (.ifCond .ge off, 3)) (ht : (pc : Int) + off = (tgt : Int)) (hc : ¬ (0 ≤ x)) (kf : GL J (pc + 3) ls st σ) : GL J pc ls (.int x :: st) σ := lg_if_ge d ht (fun h => absurd h hc) (fun _ => kf)
theorem lrt_icmp_ge {x y : Int32} {off : Int} {tgt : Nat} (d : decode (ic mL_law) pc = .ok (.if_icmp .ge off, 3)) (ht : (pc : Int) + off = (tgt : Int)) (hc : y ≤ x) (kt : GL J tgt ls st σ) : GL J pc ls (.int y :: .int x :: st) σ := lg_icmp_ge d ht (fun _ => kt) (fun h => absurd hc h)
theorem lrf_icmp_ge {x y : Int32} {off : Int} {tgt : Nat} (d : decode (ic mL_law) pc = .ok (.if_icmp .ge off, 3)) (ht : (pc : Int) + off = (tgt : Int)) (hc : ¬ (y ≤ x)) (kf : GL J (pc + 3) ls st σ) : GL J pc ls (.int y :: .int x :: st) σ := lg_icmp_ge d ht (fun h => absurd h hc) (fun _ => kf)
theorem lrt_if_gt {x : Int32} {off : Int} {tgt : Nat} (d : decode (ic mL_law) pc = .ok (.ifCond .gt off, 3)) (ht : (pc : Int) + off = (tgt : Int)) (hc : 0 < x) (kt : GL J tgt ls st σ) : GL J pc ls (.int x :: st) σ := lg_if_gt d ht (fun _ => kt) (fun h => absurd hc h)
theorem lrf_if_gt {x : Int32} {off : Int} {tgt : Nat} (d : decode (ic mL_law) pc = .ok (.ifCond .gt off, 3)) (ht : (pc : Int) + off = (tgt : Int)) (hc : ¬ (0 < x)) (kf : GL J (pc + 3) ls st σ) : GL J pc ls (.int x :: st) σ := lg_if_gt d ht (fun h => absurd h hc) (fun _ => kf)
theorem lrt_icmp_gt {x y : Int32} {off : Int} {tgt : Nat} (d : decode (ic mL_law) pc = .ok (.if_icmp .gt off, 3)) (ht : (pc : Int) + off = (tgt : Int)) (hc : y < x) (kt : GL J tgt ls st σ) : GL J pc ls (.int y :: .int x :: st) σ := lg_icmp_gt d ht (fun _ => kt) (fun h => absurd hc h)
theorem lrf_icmp_gt {x y : Int32} {off : Int} {tgt : Nat} (d : decode (ic mL_law) pc = .ok (.if_icmp .gt off, 3)) (ht : (pc : Int) + off = (tgt : Int)) (hc : ¬ (y < x)) (kf : GL J (pc + 3) ls st σ) : GL J pc ls (.int y :: .int x :: st) σ := lg_icmp_gt d ht (fun h => absurd h hc) (fun _ => kf)
theorem lrt_if_le {x : Int32} {off : Int} {tgt : Nat} (d : decode (ic mL_law) pc = .ok (.ifCond .le off, 3)) (ht : (pc : Int) + off = (tgt : Int)) (hc : x ≤ 0) (kt : GL J tgt ls st σ) : GL J pc ls (.int x :: st) σ := lg_if_le d ht (fun _ => kt) (fun h => absurd hc h)
theorem lrf_if_le {x : Int32} {off : Int} {tgt : Nat} (d : decode (ic mL_law) pc = .ok (.ifCond .le off, 3)) (ht : (pc : Int) + off = (tgt : Int)) (hc : ¬ (x ≤ 0)) (kf : GL J (pc + 3) ls st σ) : GL J pc ls (.int x :: st) σ := lg_if_le d ht (fun h => absurd h hc) (fun _ => kf)
theorem lrt_icmp_le {x y : Int32} {off : Int} {tgt : Nat} (d : decode (ic mL_law) pc = .ok (.if_icmp .le off, 3)) (ht : (pc : Int) + off = (tgt : Int)) (hc : x ≤ y) (kt : GL J tgt ls st σ) : GL J pc ls (.int y :: .int x :: st) σ := lg_icmp_le d ht (fun _ => kt) (fun h => absurd hc h)
theorem lrf_icmp_le {x y : Int32} {off : Int} {tgt : Nat} (d : decode (ic mL_law) pc = .ok (.if_icmp .le off, 3)) (ht : (pc : Int) + off = (tgt : Int)) (hc : ¬ (x ≤ y)) (kf : GL J (pc + 3) ls st σ) : GL J pc ls (.int y :: .int x :: st) σ := lg_icmp_le d ht (fun h => absurd h hc) (fun _ => kf)
theorem lgn_if_eq {a : Nat} {off : Int} {tgt : Nat} (d : decode (ic mL_law) pc = .ok (.ifCond .eq off, 3)) (ht : (pc : Int) + off = (tgt : Int)) (ha : a < 2 ^ 31) (kt : a = 0 → GL J tgt ls st σ) (kf : 0 < a → GL J (pc + 3) ls st σ) : GL J pc ls (.int (nI a) :: st) σ := lg_if_eq d ht (fun h => kt ((nI_eq ha (by decide)).mp h)) (fun h => kf (Nat.pos_of_ne_zero (fun q => h (by rw [q]; rfl))))
theorem lgt_if_eq {a : Nat} {off : Int} {tgt : Nat} (d : decode (ic mL_law) pc = .ok (.ifCond .eq off, 3)) (ht : (pc : Int) + off = (tgt : Int)) (ha : a < 2 ^ 31) (hc : a = 0) (kt : GL J tgt ls st σ) : GL J pc ls (.int (nI a) :: st) σ := lgn_if_eq d ht ha (fun _ => kt) (fun h => absurd h (by omega))
theorem lgf_if_eq {a : Nat} {off : Int} {tgt : Nat} (d : decode (ic mL_law) pc = .ok (.ifCond .eq off, 3)) (ht : (pc : Int) + off = (tgt : Int)) (ha : a < 2 ^ 31) (hc : 0 < a) (kf : GL J (pc + 3) ls st σ) : GL J pc ls (.int (nI a) :: st) σ := lgn_if_eq d ht ha (fun h => absurd h (by omega)) (fun _ => kf)
theorem lgn_if_ne {a : Nat} {off : Int} {tgt : Nat} (d : decode (ic mL_law) pc = .ok (.ifCond .ne off, 3)) (ht : (pc : Int) + off = (tgt : Int)) (ha : a < 2 ^ 31) (kt : 0 < a → GL J tgt ls st σ) (kf : a = 0 → GL J (pc + 3) ls st σ) : GL J pc ls (.int (nI a) :: st) σ := lg_if_ne d ht (fun h => kt (Nat.pos_of_ne_zero (fun q => h (by rw [q]; rfl)))) (fun h => kf ((nI_eq ha (by decide)).mp h))
theorem lgt_if_ne {a : Nat} {off : Int} {tgt : Nat} (d : decode (ic mL_law) pc = .ok (.ifCond .ne off, 3)) (ht : (pc : Int) + off = (tgt : Int)) (ha : a < 2 ^ 31) (hc : 0 < a) (kt : GL J tgt ls st σ) : GL J pc ls (.int (nI a) :: st) σ := lgn_if_ne d ht ha (fun _ => kt) (fun h => absurd h (by omega))
theorem lgf_if_ne {a : Nat} {off : Int} {tgt : Nat} (d : decode (ic mL_law) pc = .ok (.ifCond .ne off, 3)) (ht : (pc : Int) + off = (tgt : Int)) (ha : a < 2 ^ 31) (hc : a = 0) (kf : GL J (pc + 3) ls st σ) : GL J pc ls (.int (nI a) :: st) σ := lgn_if_ne d ht ha (fun h => absurd h (by omega)) (fun _ => kf)
theorem lgn_if_gt {a : Nat} {off : Int} {tgt : Nat} (d : decode (ic mL_law) pc = .ok (.ifCond .gt off, 3)) (ht : (pc : Int) + off = (tgt : Int)) (ha : a < 2 ^ 31) (kt : 0 < a → GL J tgt ls st σ) (kf : a = 0 → GL J (pc + 3) ls st σ) : GL J pc ls (.int (nI a) :: st) σ := lg_if_gt d ht (fun h => kt ((nI_ltI (by decide) ha).mp h)) (fun h => kf (Nat.eq_zero_of_not_pos (fun q => h ((nI_ltI (a := 0) (by decide) ha).mpr q))))
theorem lgt_if_gt {a : Nat} {off : Int} {tgt : Nat} (d : decode (ic mL_law) pc = .ok (.ifCond .gt off, 3)) (ht : (pc : Int) + off = (tgt : Int)) (ha : a < 2 ^ 31) (hc : 0 < a) (kt : GL J tgt ls st σ) : GL J pc ls (.int (nI a) :: st) σ := lgn_if_gt d ht ha (fun _ => kt) (fun h => absurd h (by omega))
theorem lgf_if_gt {a : Nat} {off : Int} {tgt : Nat} (d : decode (ic mL_law) pc = .ok (.ifCond .gt off, 3)) (ht : (pc : Int) + off = (tgt : Int)) (ha : a < 2 ^ 31) (hc : a = 0) (kf : GL J (pc + 3) ls st σ) : GL J pc ls (.int (nI a) :: st) σ := lgn_if_gt d ht ha (fun h => absurd h (by omega)) (fun _ => kf)
theorem lgn_if_le {a : Nat} {off : Int} {tgt : Nat} (d : decode (ic mL_law) pc = .ok (.ifCond .le off, 3)) (ht : (pc : Int) + off = (tgt : Int)) (ha : a < 2 ^ 31) (kt : a = 0 → GL J tgt ls st σ) (kf : 0 < a → GL J (pc + 3) ls st σ) : GL J pc ls (.int (nI a) :: st) σ := lg_if_le d ht (fun h => kt (Nat.le_zero.mp ((nI_leI ha (by decide)).mp h))) (fun h => kf (Nat.pos_of_ne_zero (fun q => h (by rw [q]; decide))))
theorem lgt_if_le {a : Nat} {off : Int} {tgt : Nat} (d : decode (ic mL_law) pc = .ok (.ifCond .le off, 3)) (ht : (pc : Int) + off = (tgt : Int)) (ha : a < 2 ^ 31) (hc : a = 0) (kt : GL J tgt ls st σ) : GL J pc ls (.int (nI a) :: st) σ := lgn_if_le d ht ha (fun _ => kt) (fun h => absurd h (by omega))
theorem lgf_if_le {a : Nat} {off : Int} {tgt : Nat} (d : decode (ic mL_law) pc = .ok (.ifCond .le off, 3)) (ht : (pc : Int) + off = (tgt : Int)) (ha : a < 2 ^ 31) (hc : 0 < a) (kf : GL J (pc + 3) ls st σ) : GL J pc ls (.int (nI a) :: st) σ := lgn_if_le d ht ha (fun h => absurd h (by omega)) (fun _ => kf)
theorem lgt_if_ge {a : Nat} {off : Int} {tgt : Nat} (d : decode (ic mL_law) pc = .ok (.ifCond .ge off, 3)) (ht : (pc : Int) + off = (tgt : Int)) (ha : a < 2 ^ 31) (kt : GL J tgt ls st σ) : GL J pc ls (.int (nI a) :: st) σ := lg_if_ge d ht (fun _ => kt) (fun h => absurd (nI_pos' ha) h)
theorem lgf_if_lt {a : Nat} {off : Int} {tgt : Nat} (d : decode (ic mL_law) pc = .ok (.ifCond .lt off, 3)) (ht : (pc : Int) + off = (tgt : Int)) (ha : a < 2 ^ 31) (kf : GL J (pc + 3) ls st σ) : GL J pc ls (.int (nI a) :: st) σ := lg_if_lt d ht (fun h => absurd h (nI_pos ha)) (fun _ => kf)
theorem lgb_if_eq {b : Bool} {off : Int} {tgt : Nat} (d : decode (ic mL_law) pc = .ok (.ifCond .eq off, 3)) (ht : (pc : Int) + off = (tgt : Int)) (kt : b = false → GL J tgt ls st σ) (kf : b = true → GL J (pc + 3) ls st σ) : GL J pc ls (.int (bI b) :: st) σ := lg_if_eq d ht (fun h => kt (by cases b <;> first | rfl | exact absurd h (by decide))) (fun h => kf (by cases b <;> first | rfl | exact absurd rfl h))
theorem lgb_if_ne {b : Bool} {off : Int} {tgt : Nat} (d : decode (ic mL_law) pc = .ok (.ifCond .ne off, 3)) (ht : (pc : Int) + off = (tgt : Int)) (kt : b = true → GL J tgt ls st σ) (kf : b = false → GL J (pc + 3) ls st σ) : GL J pc ls (.int (bI b) :: st) σ := lg_if_ne d ht (fun h => kt (by cases b <;> first | rfl | exact absurd rfl h)) (fun h => kf (by cases b <;> first | rfl | exact absurd h (by decide)))
end
