def nestL : List (String × Nat × MethodName × String) := [("FarCells", 26, ({ cls := "FarCells$Script", name := "<init>", desc := "()V" } : Jvm.MethodName), "FarCells"), ("FarCells$Machine", 11, ({ cls := "FarCells$Queues", name := "<init>", desc := "()V" } : Jvm.MethodName), "FarCells"), ("FarCells$Machine", 20, ({ cls := "FarCells$Rules", name := "<init>", desc := "()V" } : Jvm.MethodName), "FarCells"), ("FarCells$Machine", 27, ({ cls := "FarCells$Attempt", name := "<init>", desc := "()V" } : Jvm.MethodName), "FarCells"), ("FarCells$Machine", 77, ({ cls := "FarCells$Page", name := "<init>", desc := "()V" } : Jvm.MethodName), "FarCells"), ("FarCells", 45, ({ cls := "FarCells$Shelf", name := "<init>", desc := "()V" } : Jvm.MethodName), "FarCells"), ("FarCells$Board", 43, ({ cls := "FarCells", name := "within", desc := "(III)Z" } : Jvm.MethodName), "FarCells"), ("FarCells$Machine", 138, ({ cls := "FarCells", name := "within", desc := "(III)Z" } : Jvm.MethodName), "FarCells")]
/-! The judgement G: at pc, with locals ls, operand stack st and memory σ, the method comes to its end with K. -/
def lvR (B : Nat) (la : Array Slot) (n : Nat) (ls : List (Option Value)) : Prop := la.size = n ∧ lv_wf la ∧ ∀ (i : Nat) (v : Value), ls[i]? = some (some v) → la[i]? = some (.val (cv B v))
def NsK (U : State) : Prop := ∀ q ∈ nestL, va_Nw (.methodLinkNest q.1 q.2.1 q.2.2.1 q.2.2.2) U
theorem NsK.moved {s U : State} (hW : s.WarmedH U.vm) (h : NsK s) : NsK U := fun q hq => va_Nw.warmM hW (h q hq)
def KW (D : va_G) (cA : Nat → ClassId) (U : State) : Prop := va_K D vwCl (tysL cA) U ∧ NsK U
def Cx (M : MI) (D : va_G) (cA : Nat → ClassId) (p : Program) (s : State) (m : MethodId) (args : Array Value) (meth : Method) (c : Code) : Prop :=
  p.tables.exec = Jvm.exec ∧ c.code = ic M ∧ c.maxLocals = il M ∧ s.vm.findClass (iy M).cls = some m.cls ∧ meth.sig.returnType = ir M ∧ meth.locks = false ∧ (∀ w ∈ tbG, w.before args s = true) ∧ va_K D vwCl (tysL cA) s ∧ NsK s
def QK (Ω : Nat × Nat) (B : Nat) (D : va_G) (cA : Nat → ClassId) (K : Option Value → Mm → Prop) : Array Value → State → Outcome → State → Prop := fun _ st oc t =>
  (∃ (v : Option Value) (σ' : Mm), oc = .returned (v.map (cv B)) ∧ K v σ' ∧ va_P D vwCl (wld Ω B cA σ') t.heap) ∧ va_F (fun q => B + Ω.1 ≤ q) st t
def G (Ω : Nat × Nat) (M : MI) (K : Option Value → Mm → Prop) (pc : Nat) (ls : List (Option Value)) (st : List Value) (σ : Mm) : Prop :=
  ∀ (B : Nat) (D : va_G) (cA : Nat → ClassId) (p : Program) (l : Launch) (e : Env) (s : State) (m : MethodId) (args : Array Value) (below : List Frame) (meth : Method) (c : Code) (H : Heap) (locs : List Loc) (la : Array Slot),
    Cx M D cA p s m args meth c → va_P D vwCl (wld Ω B cA σ) H → va_S (fun q => B + Ω.1 ≤ q) s.heap H locs → lvR B la (il M) ls →
    W p l e (rmM M) s m args below meth c H locs 0 0 (MQ below (QK Ω B D cA K) args s 0 0 (fun q => B + Ω.1 ≤ q)) (F0 m pc la (st.map (cv B)))
def MetM (Ω : Nat × Nat) (M : MI) (av : List Value) (σ : Mm) (K : Option Value → Mm → Prop) : Prop :=
  ∀ (l : Launch) (B : Nat) (D : va_G) (cA : Nat → ClassId), Met l (iy M) (wsM M) (rmM M) (va_Pc (av.map (cv B)) (fun U => va_P D vwCl (wld Ω B cA σ) U.heap ∧ KW D cA U)) (QK Ω B D cA K) 0 0 (fun q => B + Ω.1 ≤ q)
theorem cv_cat (B : Nat) (v : Value) : (cv B v).category = v.category := by cases v <;> rfl
def so : Slot → Option Value
  | .val v => some v
  | _ => none
def cs (B : Nat) : Slot → Slot
  | .val v => .val (cv B v)
  | x => x
theorem sl_cv (B : Nat) (av : List Value) : lg_sl (av.map (cv B)) = (lg_sl av).map (cs B) := by
  induction av with
  | nil => rfl
  | cons v t ih =>
    unfold lg_sl at ih ⊢
    rw [List.map_cons, List.flatMap_cons, List.flatMap_cons, List.map_append, ih, cv_cat]
    split <;> rfl
def ls0 (av : List Value) (n : Nat) : List (Option Value) := (lg_sl av).map so ++ List.replicate (n - (lg_sl av).length) none
theorem lvR_entry {B : Nat} {av : List Value} {n : Nat} (h : (lg_sl av).length ≤ n) : lvR B ((lg_sl (av.map (cv B)) ++ List.replicate (n - (lg_sl (av.map (cv B))).length) Slot.unset).toArray) n (ls0 av n) := by
  have hlen : (lg_sl (av.map (cv B))).length = (lg_sl av).length := by rw [sl_cv, List.length_map]
  have h1 := lv_entry (av.map (cv B)) (n := n) (by rw [hlen]; exact h)
  refine ⟨h1.1, h1.2.1, fun i v hi => ?_⟩
  rw [hlen, sl_cv]
  unfold ls0 at hi
  rw [List.getElem?_append, List.length_map] at hi
  rw [List.getElem?_toArray, List.getElem?_append, List.length_map]
  split
  · next hlt =>
    rw [if_pos hlt, List.getElem?_map] at hi
    rw [List.getElem?_map]
    cases hq : (lg_sl av)[i]? with
    | none => rw [hq] at hi; cases hi
    | some x =>
      rw [hq] at hi
      cases x with
      | val u => cases hi; rfl
      | unset => cases hi
      | second => cases hi
  · next hlt =>
    rw [if_neg hlt, List.getElem?_replicate] at hi
    split at hi <;> cases hi
theorem G.met {Ω : Nat × Nat} {M : MI} {av : List Value} {σ : Mm} {K : Option Value → Mm → Prop} (hy : plainName (iy M).cls = true) (hlen : (lg_sl av).length ≤ il M) (h : G Ω M K 0 (ls0 av (il M)) [] σ) : MetM Ω M av σ K := by
  intro l B D cA
  refine Met.ofW (cc := ic M) (maxL := il M) (ret := ir M) hy rfl ?_
  intro p e s m args below meth c s₁ B0 hml hv
  obtain ⟨rfl, hP, hK, hNs⟩ := hv
  have hts := atoms_spec (ws := wsM M) B0.pre
  rw [lg_entry_eq]
  exact h B D cA p l e s m _ below meth c s.heap [] _ ⟨B0.exec, B0.bytes, hml, findClass_of_methodNamed B0.named, B0.returns, B0.notSynchronized, fun w hw => hts w (List.mem_cons_of_mem _ hw), hK, hNs⟩ hP va_S.rf (lvR_entry hlen)
-- ends
section
variable {Ω : Nat × Nat} {M : MI} {K : Option Value → Mm → Prop} {pc : Nat} {ls : List (Option Value)} {st : List Value} {σ : Mm}
theorem g_ireturn {v : Int32} (d : decode (ic M) pc = .ok (.ireturn, 1)) (hr : ir M = some .int) (k : K (some (.int v)) σ) : G Ω M K pc ls [.int v] σ := by
  intro B D cA p l e s m args below meth c H locs la C hP hS hl
  obtain ⟨hx, hb, hml, hown, hret, hlocks, hts, hK, hNs⟩ := C
  exact W.iret hx hb (hret.trans hr) (fun t ht hW => ⟨⟨some (.int v), σ, rfl, k, by rw [ht]; exact hP⟩, hS.F ht⟩) hS.2.2 d hlocks
theorem g_zreturn {v : Int32} (d : decode (ic M) pc = .ok (.ireturn, 1)) (hr : ir M = some .boolean) (hn : v = 0 ∨ v = 1) (k : K (some (.int v)) σ) : G Ω M K pc ls [.int v] σ := by
  intro B D cA p l e s m args below meth c H locs la C hP hS hl
  obtain ⟨hx, hb, hml, hown, hret, hlocks, hts, hK, hNs⟩ := C
  exact W.zret hx hb (hret.trans hr) (by rcases hn with rfl | rfl <;> decide) (fun t ht hW => ⟨⟨some (.int v), σ, rfl, k, by rw [ht]; exact hP⟩, hS.F ht⟩) hS.2.2 d hlocks
theorem g_lreturn {v : Int64} (d : decode (ic M) pc = .ok (.lreturn, 1)) (hr : ir M = some .long) (k : K (some (.long v)) σ) : G Ω M K pc ls [.long v] σ := by
  intro B D cA p l e s m args below meth c H locs la C hP hS hl
  obtain ⟨hx, hb, hml, hown, hret, hlocks, hts, hK, hNs⟩ := C
  exact W.lret hx hb (hret.trans hr) (fun t ht hW => ⟨⟨some (.long v), σ, rfl, k, by rw [ht]; exact hP⟩, hS.F ht⟩) hS.2.2 d hlocks
theorem g_return (d : decode (ic M) pc = .ok (.return_, 1)) (hr : ir M = none) (k : K none σ) : G Ω M K pc ls [] σ := by
  intro B D cA p l e s m args below meth c H locs la C hP hS hl
  obtain ⟨hx, hb, hml, hown, hret, hlocks, hts, hK, hNs⟩ := C
  exact W.vret hx hb (hret.trans hr) (fun t ht hW => ⟨⟨none, σ, rfl, k, by rw [ht]; exact hP⟩, hS.F ht⟩) hS.2.2 d hlocks
-- loads
theorem lvR.at' {B : Nat} {la : Array Slot} {n : Nat} (h : lvR B la n ls) {i : Nat} {v : Value} (hi : ls[i]? = some (some v)) : la[i]? = some (.val (cv B v)) := h.2.2 i v hi
theorem g_iconst {n : Int} {v : Int32} (d : decode (ic M) pc = .ok (.iconst n, 1)) (hv : Int32.ofInt n = v) (k : G Ω M K (pc + 1) ls (.int v :: st) σ) : G Ω M K pc ls (st) σ := by
  intro B D cA p l e s m args below meth c H locs la C hP hS hl
  obtain ⟨hx, hb, hml, hown, hret, hlocks, hts, hK, hNs⟩ := C
  exact lv_iconst hx hb d hv (k B D cA p l e s m args below meth c H locs la ⟨hx, hb, hml, hown, hret, hlocks, hts, hK, hNs⟩ hP hS hl)
theorem g_bipush {n : Int} {v : Int32} (d : decode (ic M) pc = .ok (.bipush n, 2)) (hv : (Int8.ofInt n).toInt32 = v) (k : G Ω M K (pc + 2) ls (.int v :: st) σ) : G Ω M K pc ls (st) σ := by
  intro B D cA p l e s m args below meth c H locs la C hP hS hl
  obtain ⟨hx, hb, hml, hown, hret, hlocks, hts, hK, hNs⟩ := C
  exact lv_bipush hx hb d hv (k B D cA p l e s m args below meth c H locs la ⟨hx, hb, hml, hown, hret, hlocks, hts, hK, hNs⟩ hP hS hl)
theorem g_sipush {n : Int} {v : Int32} (d : decode (ic M) pc = .ok (.sipush n, 3)) (hv : (Int16.ofInt n).toInt32 = v) (k : G Ω M K (pc + 3) ls (.int v :: st) σ) : G Ω M K pc ls (st) σ := by
  intro B D cA p l e s m args below meth c H locs la C hP hS hl
  obtain ⟨hx, hb, hml, hown, hret, hlocks, hts, hK, hNs⟩ := C
  exact lv_sipush hx hb d hv (k B D cA p l e s m args below meth c H locs la ⟨hx, hb, hml, hown, hret, hlocks, hts, hK, hNs⟩ hP hS hl)
theorem g_lconst {n : Fin 2} {v : Int64} (d : decode (ic M) pc = .ok (.lconst n, 1)) (hv : Int64.ofNat (n : Nat) = v) (k : G Ω M K (pc + 1) ls (.long v :: st) σ) : G Ω M K pc ls (st) σ := by
  intro B D cA p l e s m args below meth c H locs la C hP hS hl
  obtain ⟨hx, hb, hml, hown, hret, hlocks, hts, hK, hNs⟩ := C
  exact lv_lconst hx hb d hv (k B D cA p l e s m args below meth c H locs la ⟨hx, hb, hml, hown, hret, hlocks, hts, hK, hNs⟩ hP hS hl)
theorem g_iload_n {q : Fin 4} {x : Int32} (d : decode (ic M) pc = .ok (.iload_n q, 1)) (hl0 : ls[(q : Nat)]? = some (some (.int x))) (k : G Ω M K (pc + 1) ls (.int x :: st) σ) : G Ω M K pc ls (st) σ := by
  intro B D cA p l e s m args below meth c H locs la C hP hS hl
  obtain ⟨hx, hb, hml, hown, hret, hlocks, hts, hK, hNs⟩ := C
  exact lv_iload_n hx hb d rfl (hl.at' hl0) (k B D cA p l e s m args below meth c H locs la ⟨hx, hb, hml, hown, hret, hlocks, hts, hK, hNs⟩ hP hS hl)
theorem g_iload {i : Nat} {x : Int32} (d : decode (ic M) pc = .ok (.iload i, 2)) (hl0 : ls[i]? = some (some (.int x))) (k : G Ω M K (pc + 2) ls (.int x :: st) σ) : G Ω M K pc ls (st) σ := by
  intro B D cA p l e s m args below meth c H locs la C hP hS hl
  obtain ⟨hx, hb, hml, hown, hret, hlocks, hts, hK, hNs⟩ := C
  exact lv_iload hx hb d (hl.at' hl0) (k B D cA p l e s m args below meth c H locs la ⟨hx, hb, hml, hown, hret, hlocks, hts, hK, hNs⟩ hP hS hl)
theorem g_lload_n {q : Fin 4} {x : Int64} (d : decode (ic M) pc = .ok (.lload_n q, 1)) (hl0 : ls[(q : Nat)]? = some (some (.long x))) (k : G Ω M K (pc + 1) ls (.long x :: st) σ) : G Ω M K pc ls (st) σ := by
  intro B D cA p l e s m args below meth c H locs la C hP hS hl
  obtain ⟨hx, hb, hml, hown, hret, hlocks, hts, hK, hNs⟩ := C
  exact lv_lload_n hx hb d rfl (hl.at' hl0) (k B D cA p l e s m args below meth c H locs la ⟨hx, hb, hml, hown, hret, hlocks, hts, hK, hNs⟩ hP hS hl)
theorem g_lload {i : Nat} {x : Int64} (d : decode (ic M) pc = .ok (.lload i, 2)) (hl0 : ls[i]? = some (some (.long x))) (k : G Ω M K (pc + 2) ls (.long x :: st) σ) : G Ω M K pc ls (st) σ := by
  intro B D cA p l e s m args below meth c H locs la C hP hS hl
  obtain ⟨hx, hb, hml, hown, hret, hlocks, hts, hK, hNs⟩ := C
  exact lv_lload hx hb d (hl.at' hl0) (k B D cA p l e s m args below meth c H locs la ⟨hx, hb, hml, hown, hret, hlocks, hts, hK, hNs⟩ hP hS hl)
theorem g_aload_n {q : Fin 4} {x : Nat} (d : decode (ic M) pc = .ok (.aload_n q, 1)) (hl0 : ls[(q : Nat)]? = some (some (.ref x))) (k : G Ω M K (pc + 1) ls (.ref x :: st) σ) : G Ω M K pc ls (st) σ := by
  intro B D cA p l e s m args below meth c H locs la C hP hS hl
  obtain ⟨hx, hb, hml, hown, hret, hlocks, hts, hK, hNs⟩ := C
  exact lv_aload_n hx hb d rfl (hl.at' hl0) (k B D cA p l e s m args below meth c H locs la ⟨hx, hb, hml, hown, hret, hlocks, hts, hK, hNs⟩ hP hS hl)
theorem g_aload {i : Nat} {x : Nat} (d : decode (ic M) pc = .ok (.aload i, 2)) (hl0 : ls[i]? = some (some (.ref x))) (k : G Ω M K (pc + 2) ls (.ref x :: st) σ) : G Ω M K pc ls (st) σ := by
  intro B D cA p l e s m args below meth c H locs la C hP hS hl
  obtain ⟨hx, hb, hml, hown, hret, hlocks, hts, hK, hNs⟩ := C
  exact lv_aload hx hb d (hl.at' hl0) (k B D cA p l e s m args below meth c H locs la ⟨hx, hb, hml, hown, hret, hlocks, hts, hK, hNs⟩ hP hS hl)
def lvA (B : Nat) (ls : List (Option Value)) : List (Nat × Value) := (List.range ls.length).filterMap (fun i => match ls[i]? with
  | some (some v) => some (i, cv B v)
  | _ => none)
theorem lvA_mem {B : Nat} {i : Nat} {v : Value} (h : ls[i]? = some (some v)) : (i, cv B v) ∈ lvA B ls := by
  refine List.mem_filterMap.mpr ⟨i, List.mem_range.mpr (List.getElem?_eq_some_iff.mp h).1, ?_⟩
  rw [h]
theorem lvA_has {B : Nat} {la : Array Slot} {n : Nat} (h : lvR B la n ls) : lv_has la n (lvA B ls) := by
  refine ⟨h.1, h.2.1, fun q hq => ?_⟩
  obtain ⟨i, -, hi⟩ := List.mem_filterMap.mp hq
  split at hi
  · next v hv => cases hi; exact h.2.2 i v hv
  · cases hi
/-- nothing of category 2 ends at place i -/
def nl2 (ls : List (Option Value)) (i : Nat) : Bool := match i with
  | 0 => true
  | j + 1 => match ls[j]? with
    | some (some (.long _)) => false
    | some (some (.double _)) => false
    | _ => true
theorem nl2_spec {j : Nat} {v : Value} (h : nl2 ls (j + 1) = true) (hv : ls[j]? = some (some v)) : v.category ≠ 2 := by
  intro hc
  simp only [nl2] at h
  rw [hv] at h
  cases v <;> simp [Value.category] at hc <;> cases h
theorem lvR_st1 {B : Nat} {la : Array Slot} {n i : Nat} {x : Value} (h : nl2 ls i = true) (hl : i < ls.length) (hs : lv_has la n ((i, cv B x) :: (lvA B ls).filter (fun q => !(q.1 == i) && !(q.1 + 1 == i && q.2.category == 2)))) : lvR B la n (ls.set i (some x)) := by
  refine ⟨hs.1, hs.2.1, fun j v hj => ?_⟩
  rw [List.getElem?_set] at hj
  split at hj
  · next hij =>
    subst hij
    (try rw [if_pos hl] at hj)
    cases hj
    exact hs.2.2 _ List.mem_cons_self
  · next hij =>
    refine hs.2.2 (j, cv B v) (List.mem_cons_of_mem _ (List.mem_filter.mpr ⟨lvA_mem hj, ?_⟩))
    have h1 : (j == i) = false := by simpa using fun q => hij q.symm
    rw [h1]
    by_cases h2 : j + 1 = i
    · subst h2
      have h3 := nl2_spec h hj
      simp [cv_cat, h3]
    · have h4 : (j + 1 == i) = false := by simpa using h2
      rw [h4]; rfl
theorem lvR_st2 {B : Nat} {la : Array Slot} {n i : Nat} {x : Value} (h : nl2 ls i = true) (hl : i < ls.length) (hs : lv_has la n ((i, cv B x) :: (lvA B ls).filter (fun q => !(q.1 == i) && (!(q.1 == i + 1) && !(q.1 + 1 == i && q.2.category == 2))))) : lvR B la n ((ls.set i (some x)).set (i + 1) none) := by
  refine ⟨hs.1, hs.2.1, fun j v hj => ?_⟩
  rw [List.getElem?_set] at hj
  split at hj
  · split at hj <;> cases hj
  · next hij1 =>
    rw [List.getElem?_set] at hj
    split at hj
    · next hij =>
      subst hij
      (try rw [if_pos hl] at hj)
      cases hj
      exact hs.2.2 _ List.mem_cons_self
    · next hij =>
      refine hs.2.2 (j, cv B v) (List.mem_cons_of_mem _ (List.mem_filter.mpr ⟨lvA_mem hj, ?_⟩))
      have h1 : (j == i) = false := by simpa using fun q => hij q.symm
      have h5 : (j == i + 1) = false := by simpa using fun q => hij1 q.symm
      rw [h1, h5]
      by_cases h2 : j + 1 = i
      · subst h2
        have h3 := nl2_spec h hj
        simp [cv_cat, h3]
      · have h4 : (j + 1 == i) = false := by simpa using h2
        rw [h4]; rfl
theorem g_istore_n {q : Fin 4} {x : Int32} (d : decode (ic M) pc = .ok (.istore_n q, 1)) (hn : (q : Nat) < il M) (hc : nl2 ls (q : Nat) = true) (hle : (q : Nat) < ls.length) (k : G Ω M K (pc + 1) (ls.set (q : Nat) (some (.int x))) st σ) : G Ω M K pc ls (.int x :: st) σ := by
  intro B D cA p l e s m args below meth c H locs la C hP hS hl
  obtain ⟨hx, hb, hml, hown, hret, hlocks, hts, hK, hNs⟩ := C
  exact lv_istore_n hx hb d rfl (lvA_has hl) hn rfl (fun la2 hl2 => k B D cA p l e s m args below meth c H locs la2 ⟨hx, hb, hml, hown, hret, hlocks, hts, hK, hNs⟩ hP hS (lvR_st1 (x := .int x) hc hle hl2))
theorem g_istore {i : Nat} {x : Int32} (d : decode (ic M) pc = .ok (.istore i, 2)) (hn : i < il M) (hc : nl2 ls i = true) (hle : i < ls.length) (k : G Ω M K (pc + 2) (ls.set i (some (.int x))) st σ) : G Ω M K pc ls (.int x :: st) σ := by
  intro B D cA p l e s m args below meth c H locs la C hP hS hl
  obtain ⟨hx, hb, hml, hown, hret, hlocks, hts, hK, hNs⟩ := C
  exact lv_istore hx hb d (lvA_has hl) hn rfl (fun la2 hl2 => k B D cA p l e s m args below meth c H locs la2 ⟨hx, hb, hml, hown, hret, hlocks, hts, hK, hNs⟩ hP hS (lvR_st1 (x := .int x) hc hle hl2))
theorem g_astore_n {q : Fin 4} {x : Nat} (d : decode (ic M) pc = .ok (.astore_n q, 1)) (hn : (q : Nat) < il M) (hc : nl2 ls (q : Nat) = true) (hle : (q : Nat) < ls.length) (k : G Ω M K (pc + 1) (ls.set (q : Nat) (some (.ref x))) st σ) : G Ω M K pc ls (.ref x :: st) σ := by
  intro B D cA p l e s m args below meth c H locs la C hP hS hl
  obtain ⟨hx, hb, hml, hown, hret, hlocks, hts, hK, hNs⟩ := C
  exact lv_astore_n hx hb d rfl (lvA_has hl) hn rfl (fun la2 hl2 => k B D cA p l e s m args below meth c H locs la2 ⟨hx, hb, hml, hown, hret, hlocks, hts, hK, hNs⟩ hP hS (lvR_st1 (x := .ref x) hc hle hl2))
theorem g_astore {i : Nat} {x : Nat} (d : decode (ic M) pc = .ok (.astore i, 2)) (hn : i < il M) (hc : nl2 ls i = true) (hle : i < ls.length) (k : G Ω M K (pc + 2) (ls.set i (some (.ref x))) st σ) : G Ω M K pc ls (.ref x :: st) σ := by
  intro B D cA p l e s m args below meth c H locs la C hP hS hl
  obtain ⟨hx, hb, hml, hown, hret, hlocks, hts, hK, hNs⟩ := C
  exact lv_astore hx hb d (lvA_has hl) hn rfl (fun la2 hl2 => k B D cA p l e s m args below meth c H locs la2 ⟨hx, hb, hml, hown, hret, hlocks, hts, hK, hNs⟩ hP hS (lvR_st1 (x := .ref x) hc hle hl2))
theorem g_lstore_n {q : Fin 4} {x : Int64} (d : decode (ic M) pc = .ok (.lstore_n q, 1)) (hn : (q : Nat) + 1 < il M) (hc : nl2 ls (q : Nat) = true) (hle : (q : Nat) < ls.length) (k : G Ω M K (pc + 1) ((ls.set (q : Nat) (some (.long x))).set ((q : Nat) + 1) none) st σ) : G Ω M K pc ls (.long x :: st) σ := by
  intro B D cA p l e s m args below meth c H locs la C hP hS hl
  obtain ⟨hx, hb, hml, hown, hret, hlocks, hts, hK, hNs⟩ := C
  exact lv_lstore_n hx hb d rfl (lvA_has hl) hn rfl (fun la2 hl2 => k B D cA p l e s m args below meth c H locs la2 ⟨hx, hb, hml, hown, hret, hlocks, hts, hK, hNs⟩ hP hS (lvR_st2 (x := .long x) hc hle hl2))
theorem g_lstore {i : Nat} {x : Int64} (d : decode (ic M) pc = .ok (.lstore i, 2)) (hn : i + 1 < il M) (hc : nl2 ls i = true) (hle : i < ls.length) (k : G Ω M K (pc + 2) ((ls.set i (some (.long x))).set (i + 1) none) st σ) : G Ω M K pc ls (.long x :: st) σ := by
  intro B D cA p l e s m args below meth c H locs la C hP hS hl
  obtain ⟨hx, hb, hml, hown, hret, hlocks, hts, hK, hNs⟩ := C
  exact lv_lstore hx hb d (lvA_has hl) hn rfl (fun la2 hl2 => k B D cA p l e s m args below meth c H locs la2 ⟨hx, hb, hml, hown, hret, hlocks, hts, hK, hNs⟩ hP hS (lvR_st2 (x := .long x) hc hle hl2))
theorem g_iinc {i : Nat} {n : Int} {x v : Int32} (d : decode (ic M) pc = .ok (.iinc i n, 3)) (hl0 : ls[i]? = some (some (.int x))) (hv : x + Int32.ofInt n = v) (hn : i < il M) (hc : nl2 ls i = true) (k : G Ω M K (pc + 3) (ls.set i (some (.int v))) st σ) : G Ω M K pc ls st σ := by
  intro B D cA p l e s m args below meth c H locs la C hP hS hl
  obtain ⟨hx, hb, hml, hown, hret, hlocks, hts, hK, hNs⟩ := C
  obtain ⟨j, hj⟩ := List.getElem?_of_mem (lvA_mem (B := B) hl0)
  exact lv_iinc hx hb d (lvA_has hl) hj hv hn rfl (fun la2 hl2 => k B D cA p l e s m args below meth c H locs la2 ⟨hx, hb, hml, hown, hret, hlocks, hts, hK, hNs⟩ hP hS (lvR_st1 (x := .int v) hc (List.getElem?_eq_some_iff.mp hl0).1 hl2))
theorem g_iadd {x y v : Int32} (d : decode (ic M) pc = .ok (.iadd, 1)) (hv : x + y = v) (k : G Ω M K (pc + 1) ls (.int v :: st) σ) : G Ω M K pc ls (.int y :: .int x :: st) σ := by
  subst hv
  intro B D cA p l e s m args below meth c H locs la C hP hS hl
  obtain ⟨hx, hb, hml, hown, hret, hlocks, hts, hK, hNs⟩ := C
  exact lv_iadd hx hb d (k B D cA p l e s m args below meth c H locs la ⟨hx, hb, hml, hown, hret, hlocks, hts, hK, hNs⟩ hP hS hl)
theorem g_isub {x y v : Int32} (d : decode (ic M) pc = .ok (.isub, 1)) (hv : x - y = v) (k : G Ω M K (pc + 1) ls (.int v :: st) σ) : G Ω M K pc ls (.int y :: .int x :: st) σ := by
  subst hv
  intro B D cA p l e s m args below meth c H locs la C hP hS hl
  obtain ⟨hx, hb, hml, hown, hret, hlocks, hts, hK, hNs⟩ := C
  exact lv_isub hx hb d (k B D cA p l e s m args below meth c H locs la ⟨hx, hb, hml, hown, hret, hlocks, hts, hK, hNs⟩ hP hS hl)
theorem g_imul {x y v : Int32} (d : decode (ic M) pc = .ok (.imul, 1)) (hv : x * y = v) (k : G Ω M K (pc + 1) ls (.int v :: st) σ) : G Ω M K pc ls (.int y :: .int x :: st) σ := by
  subst hv
  intro B D cA p l e s m args below meth c H locs la C hP hS hl
  obtain ⟨hx, hb, hml, hown, hret, hlocks, hts, hK, hNs⟩ := C
  exact lv_imul hx hb d (k B D cA p l e s m args below meth c H locs la ⟨hx, hb, hml, hown, hret, hlocks, hts, hK, hNs⟩ hP hS hl)
theorem g_iand {x y v : Int32} (d : decode (ic M) pc = .ok (.iand, 1)) (hv : x &&& y = v) (k : G Ω M K (pc + 1) ls (.int v :: st) σ) : G Ω M K pc ls (.int y :: .int x :: st) σ := by
  subst hv
  intro B D cA p l e s m args below meth c H locs la C hP hS hl
  obtain ⟨hx, hb, hml, hown, hret, hlocks, hts, hK, hNs⟩ := C
  exact lv_iand hx hb d (k B D cA p l e s m args below meth c H locs la ⟨hx, hb, hml, hown, hret, hlocks, hts, hK, hNs⟩ hP hS hl)
theorem g_ior {x y v : Int32} (d : decode (ic M) pc = .ok (.ior, 1)) (hv : x ||| y = v) (k : G Ω M K (pc + 1) ls (.int v :: st) σ) : G Ω M K pc ls (.int y :: .int x :: st) σ := by
  subst hv
  intro B D cA p l e s m args below meth c H locs la C hP hS hl
  obtain ⟨hx, hb, hml, hown, hret, hlocks, hts, hK, hNs⟩ := C
  exact lv_ior hx hb d (k B D cA p l e s m args below meth c H locs la ⟨hx, hb, hml, hown, hret, hlocks, hts, hK, hNs⟩ hP hS hl)
theorem g_ixor {x y v : Int32} (d : decode (ic M) pc = .ok (.ixor, 1)) (hv : x ^^^ y = v) (k : G Ω M K (pc + 1) ls (.int v :: st) σ) : G Ω M K pc ls (.int y :: .int x :: st) σ := by
  subst hv
  intro B D cA p l e s m args below meth c H locs la C hP hS hl
  obtain ⟨hx, hb, hml, hown, hret, hlocks, hts, hK, hNs⟩ := C
  exact lv_ixor hx hb d (k B D cA p l e s m args below meth c H locs la ⟨hx, hb, hml, hown, hret, hlocks, hts, hK, hNs⟩ hP hS hl)
theorem g_ishl {x y v : Int32} (d : decode (ic M) pc = .ok (.ishl, 1)) (hv : x <<< (y &&& 31) = v) (k : G Ω M K (pc + 1) ls (.int v :: st) σ) : G Ω M K pc ls (.int y :: .int x :: st) σ := by
  subst hv
  intro B D cA p l e s m args below meth c H locs la C hP hS hl
  obtain ⟨hx, hb, hml, hown, hret, hlocks, hts, hK, hNs⟩ := C
  exact lv_ishl hx hb d (k B D cA p l e s m args below meth c H locs la ⟨hx, hb, hml, hown, hret, hlocks, hts, hK, hNs⟩ hP hS hl)
theorem g_ishr {x y v : Int32} (d : decode (ic M) pc = .ok (.ishr, 1)) (hv : x >>> (y &&& 31) = v) (k : G Ω M K (pc + 1) ls (.int v :: st) σ) : G Ω M K pc ls (.int y :: .int x :: st) σ := by
  subst hv
  intro B D cA p l e s m args below meth c H locs la C hP hS hl
  obtain ⟨hx, hb, hml, hown, hret, hlocks, hts, hK, hNs⟩ := C
  exact lv_ishr hx hb d (k B D cA p l e s m args below meth c H locs la ⟨hx, hb, hml, hown, hret, hlocks, hts, hK, hNs⟩ hP hS hl)
theorem g_idiv {x y v : Int32} (d : decode (ic M) pc = .ok (.idiv, 1)) (hy : ¬ y = 0) (hv : x / y = v) (k : G Ω M K (pc + 1) ls (.int v :: st) σ) : G Ω M K pc ls (.int y :: .int x :: st) σ := by
  subst hv
  intro B D cA p l e s m args below meth c H locs la C hP hS hl
  obtain ⟨hx, hb, hml, hown, hret, hlocks, hts, hK, hNs⟩ := C
  exact lv_idiv hx hb d hy (k B D cA p l e s m args below meth c H locs la ⟨hx, hb, hml, hown, hret, hlocks, hts, hK, hNs⟩ hP hS hl)
theorem g_irem {x y v : Int32} (d : decode (ic M) pc = .ok (.irem, 1)) (hy : ¬ y = 0) (hv : x - x / y * y = v) (k : G Ω M K (pc + 1) ls (.int v :: st) σ) : G Ω M K pc ls (.int y :: .int x :: st) σ := by
  subst hv
  intro B D cA p l e s m args below meth c H locs la C hP hS hl
  obtain ⟨hx, hb, hml, hown, hret, hlocks, hts, hK, hNs⟩ := C
  exact lv_irem hx hb d hy (k B D cA p l e s m args below meth c H locs la ⟨hx, hb, hml, hown, hret, hlocks, hts, hK, hNs⟩ hP hS hl)
theorem g_iushr {x y v : Int32} (d : decode (ic M) pc = .ok (.iushr, 1)) (hv : (x.toUInt32 >>> (y.toUInt32 &&& Int32.toUInt32 31)).toInt32 = v) (k : G Ω M K (pc + 1) ls (.int v :: st) σ) : G Ω M K pc ls (.int y :: .int x :: st) σ := by
  intro B D cA p l e s m args below meth c H locs la C hP hS hl
  obtain ⟨hx, hb, hml, hown, hret, hlocks, hts, hK, hNs⟩ := C
  exact lv_iushr hx hb d hv (k B D cA p l e s m args below meth c H locs la ⟨hx, hb, hml, hown, hret, hlocks, hts, hK, hNs⟩ hP hS hl)
theorem g_ladd {x y v : Int64} (d : decode (ic M) pc = .ok (.ladd, 1)) (hv : x + y = v) (k : G Ω M K (pc + 1) ls (.long v :: st) σ) : G Ω M K pc ls (.long y :: .long x :: st) σ := by
  subst hv
  intro B D cA p l e s m args below meth c H locs la C hP hS hl
  obtain ⟨hx, hb, hml, hown, hret, hlocks, hts, hK, hNs⟩ := C
  exact lv_ladd hx hb d (k B D cA p l e s m args below meth c H locs la ⟨hx, hb, hml, hown, hret, hlocks, hts, hK, hNs⟩ hP hS hl)
theorem g_lmul {x y v : Int64} (d : decode (ic M) pc = .ok (.lmul, 1)) (hv : x * y = v) (k : G Ω M K (pc + 1) ls (.long v :: st) σ) : G Ω M K pc ls (.long y :: .long x :: st) σ := by
  subst hv
  intro B D cA p l e s m args below meth c H locs la C hP hS hl
  obtain ⟨hx, hb, hml, hown, hret, hlocks, hts, hK, hNs⟩ := C
  exact lv_lmul hx hb d (k B D cA p l e s m args below meth c H locs la ⟨hx, hb, hml, hown, hret, hlocks, hts, hK, hNs⟩ hP hS hl)
theorem g_lcmp {x y : Int64} {v : Int32} (d : decode (ic M) pc = .ok (.lcmp, 1)) (hv : lg_cmp x y = v) (k : G Ω M K (pc + 1) ls (.int v :: st) σ) : G Ω M K pc ls (.long y :: .long x :: st) σ := by
  subst hv
  intro B D cA p l e s m args below meth c H locs la C hP hS hl
  obtain ⟨hx, hb, hml, hown, hret, hlocks, hts, hK, hNs⟩ := C
  exact W.lcmp hx hb d (k B D cA p l e s m args below meth c H locs la ⟨hx, hb, hml, hown, hret, hlocks, hts, hK, hNs⟩ hP hS hl)
theorem g_i2l {x : Int32} {v : Int64} (d : decode (ic M) pc = .ok (.i2l, 1)) (hv : x.toInt64 = v) (k : G Ω M K (pc + 1) ls (.long v :: st) σ) : G Ω M K pc ls (.int x :: st) σ := by
  intro B D cA p l e s m args below meth c H locs la C hP hS hl
  obtain ⟨hx, hb, hml, hown, hret, hlocks, hts, hK, hNs⟩ := C
  exact lv_i2l hx hb d hv (k B D cA p l e s m args below meth c H locs la ⟨hx, hb, hml, hown, hret, hlocks, hts, hK, hNs⟩ hP hS hl)
theorem g_l2i {x : Int64} {v : Int32} (d : decode (ic M) pc = .ok (.l2i, 1)) (hv : x.toInt32 = v) (k : G Ω M K (pc + 1) ls (.int v :: st) σ) : G Ω M K pc ls (.long x :: st) σ := by
  intro B D cA p l e s m args below meth c H locs la C hP hS hl
  obtain ⟨hx, hb, hml, hown, hret, hlocks, hts, hK, hNs⟩ := C
  exact lv_l2i hx hb d hv (k B D cA p l e s m args below meth c H locs la ⟨hx, hb, hml, hown, hret, hlocks, hts, hK, hNs⟩ hP hS hl)
theorem g_i2b {x : Int32} {v : Int32} (d : decode (ic M) pc = .ok (.i2b, 1)) (hv : x.toInt8.toInt32 = v) (k : G Ω M K (pc + 1) ls (.int v :: st) σ) : G Ω M K pc ls (.int x :: st) σ := by
  intro B D cA p l e s m args below meth c H locs la C hP hS hl
  obtain ⟨hx, hb, hml, hown, hret, hlocks, hts, hK, hNs⟩ := C
  exact lv_i2b hx hb d hv (k B D cA p l e s m args below meth c H locs la ⟨hx, hb, hml, hown, hret, hlocks, hts, hK, hNs⟩ hP hS hl)
theorem g_dup {x : Value} (d : decode (ic M) pc = .ok (.dup, 1)) (hx1 : x.category = 1) (k : G Ω M K (pc + 1) ls (x :: x :: st) σ) : G Ω M K pc ls (x :: st) σ := by
  intro B D cA p l e s m args below meth c H locs la C hP hS hl
  obtain ⟨hx, hb, hml, hown, hret, hlocks, hts, hK, hNs⟩ := C
  exact lv_dup hx hb d (by rw [cv_cat]; exact hx1) (k B D cA p l e s m args below meth c H locs la ⟨hx, hb, hml, hown, hret, hlocks, hts, hK, hNs⟩ hP hS hl)
theorem g_pop {x : Value} (d : decode (ic M) pc = .ok (.pop, 1)) (hx1 : x.category = 1) (k : G Ω M K (pc + 1) ls st σ) : G Ω M K pc ls (x :: st) σ := by
  intro B D cA p l e s m args below meth c H locs la C hP hS hl
  obtain ⟨hx, hb, hml, hown, hret, hlocks, hts, hK, hNs⟩ := C
  exact lv_pop hx hb d (by rw [cv_cat]; exact hx1) (k B D cA p l e s m args below meth c H locs la ⟨hx, hb, hml, hown, hret, hlocks, hts, hK, hNs⟩ hP hS hl)
theorem g_dup2 {x y : Value} (d : decode (ic M) pc = .ok (.dup2, 1)) (hx1 : x.category = 1) (hy1 : y.category = 1) (k : G Ω M K (pc + 1) ls (x :: y :: x :: y :: st) σ) : G Ω M K pc ls (x :: y :: st) σ := by
  intro B D cA p l e s m args below meth c H locs la C hP hS hl
  obtain ⟨hx, hb, hml, hown, hret, hlocks, hts, hK, hNs⟩ := C
  exact lv_dup2_11 hx hb d (by rw [cv_cat]; exact hx1) (by rw [cv_cat]; exact hy1) (k B D cA p l e s m args below meth c H locs la ⟨hx, hb, hml, hown, hret, hlocks, hts, hK, hNs⟩ hP hS hl)
theorem g_if_eq {x : Int32} {off : Int} {tgt : Nat} (d : decode (ic M) pc = .ok (.ifCond .eq off, 3)) (ht : (pc : Int) + off = (tgt : Int)) (kt : x = 0 → G Ω M K tgt ls st σ) (kf : ¬ (x = 0) → G Ω M K (pc + 3) ls st σ) : G Ω M K pc ls (.int x :: st) σ := by
  intro B D cA p l e s m args below meth c H locs la C hP hS hl
  obtain ⟨hx, hb, hml, hown, hret, hlocks, hts, hK, hNs⟩ := C
  exact lv_if_eq hx hb d ht (fun h => kt h B D cA p l e s m args below meth c H locs la ⟨hx, hb, hml, hown, hret, hlocks, hts, hK, hNs⟩ hP hS hl) (fun h => kf h B D cA p l e s m args below meth c H locs la ⟨hx, hb, hml, hown, hret, hlocks, hts, hK, hNs⟩ hP hS hl)
theorem g_icmp_eq {x y : Int32} {off : Int} {tgt : Nat} (d : decode (ic M) pc = .ok (.if_icmp .eq off, 3)) (ht : (pc : Int) + off = (tgt : Int)) (kt : x = y → G Ω M K tgt ls st σ) (kf : ¬ (x = y) → G Ω M K (pc + 3) ls st σ) : G Ω M K pc ls (.int y :: .int x :: st) σ := by
  intro B D cA p l e s m args below meth c H locs la C hP hS hl
  obtain ⟨hx, hb, hml, hown, hret, hlocks, hts, hK, hNs⟩ := C
  exact lv_icmp_eq hx hb d ht (fun h => kt h B D cA p l e s m args below meth c H locs la ⟨hx, hb, hml, hown, hret, hlocks, hts, hK, hNs⟩ hP hS hl) (fun h => kf h B D cA p l e s m args below meth c H locs la ⟨hx, hb, hml, hown, hret, hlocks, hts, hK, hNs⟩ hP hS hl)
theorem g_if_ne {x : Int32} {off : Int} {tgt : Nat} (d : decode (ic M) pc = .ok (.ifCond .ne off, 3)) (ht : (pc : Int) + off = (tgt : Int)) (kt : ¬ x = 0 → G Ω M K tgt ls st σ) (kf : x = 0 → G Ω M K (pc + 3) ls st σ) : G Ω M K pc ls (.int x :: st) σ := by
  intro B D cA p l e s m args below meth c H locs la C hP hS hl
  obtain ⟨hx, hb, hml, hown, hret, hlocks, hts, hK, hNs⟩ := C
  exact lv_if_ne hx hb d ht (fun h => kt h B D cA p l e s m args below meth c H locs la ⟨hx, hb, hml, hown, hret, hlocks, hts, hK, hNs⟩ hP hS hl) (fun h => kf h B D cA p l e s m args below meth c H locs la ⟨hx, hb, hml, hown, hret, hlocks, hts, hK, hNs⟩ hP hS hl)
theorem g_icmp_ne {x y : Int32} {off : Int} {tgt : Nat} (d : decode (ic M) pc = .ok (.if_icmp .ne off, 3)) (ht : (pc : Int) + off = (tgt : Int)) (kt : ¬ x = y → G Ω M K tgt ls st σ) (kf : x = y → G Ω M K (pc + 3) ls st σ) : G Ω M K pc ls (.int y :: .int x :: st) σ := by
  intro B D cA p l e s m args below meth c H locs la C hP hS hl
  obtain ⟨hx, hb, hml, hown, hret, hlocks, hts, hK, hNs⟩ := C
  exact lv_icmp_ne hx hb d ht (fun h => kt h B D cA p l e s m args below meth c H locs la ⟨hx, hb, hml, hown, hret, hlocks, hts, hK, hNs⟩ hP hS hl) (fun h => kf h B D cA p l e s m args below meth c H locs la ⟨hx, hb, hml, hown, hret, hlocks, hts, hK, hNs⟩ hP hS hl)
theorem g_if_lt {x : Int32} {off : Int} {tgt : Nat} (d : decode (ic M) pc = .ok (.ifCond .lt off, 3)) (ht : (pc : Int) + off = (tgt : Int)) (kt : x < 0 → G Ω M K tgt ls st σ) (kf : ¬ (x < 0) → G Ω M K (pc + 3) ls st σ) : G Ω M K pc ls (.int x :: st) σ := by
  intro B D cA p l e s m args below meth c H locs la C hP hS hl
  obtain ⟨hx, hb, hml, hown, hret, hlocks, hts, hK, hNs⟩ := C
  exact lv_if_lt hx hb d ht (fun h => kt h B D cA p l e s m args below meth c H locs la ⟨hx, hb, hml, hown, hret, hlocks, hts, hK, hNs⟩ hP hS hl) (fun h => kf h B D cA p l e s m args below meth c H locs la ⟨hx, hb, hml, hown, hret, hlocks, hts, hK, hNs⟩ hP hS hl)
theorem g_icmp_lt {x y : Int32} {off : Int} {tgt : Nat} (d : decode (ic M) pc = .ok (.if_icmp .lt off, 3)) (ht : (pc : Int) + off = (tgt : Int)) (kt : x < y → G Ω M K tgt ls st σ) (kf : ¬ (x < y) → G Ω M K (pc + 3) ls st σ) : G Ω M K pc ls (.int y :: .int x :: st) σ := by
  intro B D cA p l e s m args below meth c H locs la C hP hS hl
  obtain ⟨hx, hb, hml, hown, hret, hlocks, hts, hK, hNs⟩ := C
  exact lv_icmp_lt hx hb d ht (fun h => kt h B D cA p l e s m args below meth c H locs la ⟨hx, hb, hml, hown, hret, hlocks, hts, hK, hNs⟩ hP hS hl) (fun h => kf h B D cA p l e s m args below meth c H locs la ⟨hx, hb, hml, hown, hret, hlocks, hts, hK, hNs⟩ hP hS hl)
theorem g_if_ge {x : Int32} {off : Int} {tgt : Nat} (d : decode (ic M) pc = .ok (.ifCond .ge off, 3)) (ht : (pc : Int) + off = (tgt : Int)) (kt : 0 ≤ x → G Ω M K tgt ls st σ) (kf : ¬ (0 ≤ x) → G Ω M K (pc + 3) ls st σ) : G Ω M K pc ls (.int x :: st) σ := by
  intro B D cA p l e s m args below meth c H locs la C hP hS hl
  obtain ⟨hx, hb, hml, hown, hret, hlocks, hts, hK, hNs⟩ := C
  exact lv_if_ge hx hb d ht (fun h => kt h B D cA p l e s m args below meth c H locs la ⟨hx, hb, hml, hown, hret, hlocks, hts, hK, hNs⟩ hP hS hl) (fun h => kf h B D cA p l e s m args below meth c H locs la ⟨hx, hb, hml, hown, hret, hlocks, hts, hK, hNs⟩ hP hS hl)
theorem g_icmp_ge {x y : Int32} {off : Int} {tgt : Nat} (d : decode (ic M) pc = .ok (.if_icmp .ge off, 3)) (ht : (pc : Int) + off = (tgt : Int)) (kt : y ≤ x → G Ω M K tgt ls st σ) (kf : ¬ (y ≤ x) → G Ω M K (pc + 3) ls st σ) : G Ω M K pc ls (.int y :: .int x :: st) σ := by
  intro B D cA p l e s m args below meth c H locs la C hP hS hl
  obtain ⟨hx, hb, hml, hown, hret, hlocks, hts, hK, hNs⟩ := C
  exact lv_icmp_ge hx hb d ht (fun h => kt h B D cA p l e s m args below meth c H locs la ⟨hx, hb, hml, hown, hret, hlocks, hts, hK, hNs⟩ hP hS hl) (fun h => kf h B D cA p l e s m args below meth c H locs la ⟨hx, hb, hml, hown, hret, hlocks, hts, hK, hNs⟩ hP hS hl)
theorem g_if_gt {x : Int32} {off : Int} {tgt : Nat} (d : decode (ic M) pc = .ok (.ifCond .gt off, 3)) (ht : (pc : Int) + off = (tgt : Int)) (kt : 0 < x → G Ω M K tgt ls st σ) (kf : ¬ (0 < x) → G Ω M K (pc + 3) ls st σ) : G Ω M K pc ls (.int x :: st) σ := by
  intro B D cA p l e s m args below meth c H locs la C hP hS hl
  obtain ⟨hx, hb, hml, hown, hret, hlocks, hts, hK, hNs⟩ := C
  exact lv_if_gt hx hb d ht (fun h => kt h B D cA p l e s m args below meth c H locs la ⟨hx, hb, hml, hown, hret, hlocks, hts, hK, hNs⟩ hP hS hl) (fun h => kf h B D cA p l e s m args below meth c H locs la ⟨hx, hb, hml, hown, hret, hlocks, hts, hK, hNs⟩ hP hS hl)
theorem g_icmp_gt {x y : Int32} {off : Int} {tgt : Nat} (d : decode (ic M) pc = .ok (.if_icmp .gt off, 3)) (ht : (pc : Int) + off = (tgt : Int)) (kt : y < x → G Ω M K tgt ls st σ) (kf : ¬ (y < x) → G Ω M K (pc + 3) ls st σ) : G Ω M K pc ls (.int y :: .int x :: st) σ := by
  intro B D cA p l e s m args below meth c H locs la C hP hS hl
  obtain ⟨hx, hb, hml, hown, hret, hlocks, hts, hK, hNs⟩ := C
  exact lv_icmp_gt hx hb d ht (fun h => kt h B D cA p l e s m args below meth c H locs la ⟨hx, hb, hml, hown, hret, hlocks, hts, hK, hNs⟩ hP hS hl) (fun h => kf h B D cA p l e s m args below meth c H locs la ⟨hx, hb, hml, hown, hret, hlocks, hts, hK, hNs⟩ hP hS hl)
theorem g_if_le {x : Int32} {off : Int} {tgt : Nat} (d : decode (ic M) pc = .ok (.ifCond .le off, 3)) (ht : (pc : Int) + off = (tgt : Int)) (kt : x ≤ 0 → G Ω M K tgt ls st σ) (kf : ¬ (x ≤ 0) → G Ω M K (pc + 3) ls st σ) : G Ω M K pc ls (.int x :: st) σ := by
  intro B D cA p l e s m args below meth c H locs la C hP hS hl
  obtain ⟨hx, hb, hml, hown, hret, hlocks, hts, hK, hNs⟩ := C
  exact lv_if_le hx hb d ht (fun h => kt h B D cA p l e s m args below meth c H locs la ⟨hx, hb, hml, hown, hret, hlocks, hts, hK, hNs⟩ hP hS hl) (fun h => kf h B D cA p l e s m args below meth c H locs la ⟨hx, hb, hml, hown, hret, hlocks, hts, hK, hNs⟩ hP hS hl)
theorem g_icmp_le {x y : Int32} {off : Int} {tgt : Nat} (d : decode (ic M) pc = .ok (.if_icmp .le off, 3)) (ht : (pc : Int) + off = (tgt : Int)) (kt : x ≤ y → G Ω M K tgt ls st σ) (kf : ¬ (x ≤ y) → G Ω M K (pc + 3) ls st σ) : G Ω M K pc ls (.int y :: .int x :: st) σ := by
  intro B D cA p l e s m args below meth c H locs la C hP hS hl
  obtain ⟨hx, hb, hml, hown, hret, hlocks, hts, hK, hNs⟩ := C
  exact lv_icmp_le hx hb d ht (fun h => kt h B D cA p l e s m args below meth c H locs la ⟨hx, hb, hml, hown, hret, hlocks, hts, hK, hNs⟩ hP hS hl) (fun h => kf h B D cA p l e s m args below meth c H locs la ⟨hx, hb, hml, hown, hret, hlocks, hts, hK, hNs⟩ hP hS hl)
theorem g_goto {off : Int} {tgt : Nat} (d : decode (ic M) pc = .ok (.goto off, 3)) (ht : (pc : Int) + off = (tgt : Int)) (k : G Ω M K tgt ls st σ) : G Ω M K pc ls st σ := by
  intro B D cA p l e s m args below meth c H locs la C hP hS hl
  obtain ⟨hx, hb, hml, hown, hret, hlocks, hts, hK, hNs⟩ := C
  exact lv_goto hx hb d ht (k B D cA p l e s m args below meth c H locs la ⟨hx, hb, hml, hown, hret, hlocks, hts, hK, hNs⟩ hP hS hl)
theorem g_tableOut {dflt lo hi : Int} {offs : Array Int} {len : Nat} {x : Int32} {tgt : Nat} (d : decode (ic M) pc = .ok (.tableswitch dflt lo hi offs, len)) (h : x.toInt < lo ∨ hi < x.toInt) (ht : (pc : Int) + dflt = (tgt : Int)) (k : G Ω M K tgt ls st σ) : G Ω M K pc ls (.int x :: st) σ := by
  intro B D cA p l e s m args below meth c H locs la C hP hS hl
  obtain ⟨hx, hb, hml, hown, hret, hlocks, hts, hK, hNs⟩ := C
  exact lv_tableOut hx hb d h ht (k B D cA p l e s m args below meth c H locs la ⟨hx, hb, hml, hown, hret, hlocks, hts, hK, hNs⟩ hP hS hl)
theorem g_tableIn {dflt lo hi : Int} {offs : Array Int} {len : Nat} {x : Int32} {off : Int} {tgt : Nat} (d : decode (ic M) pc = .ok (.tableswitch dflt lo hi offs, len)) (h1 : ¬ x.toInt < lo) (h2 : ¬ hi < x.toInt) (ho : offs[(x.toInt - lo).toNat]? = some off) (ht : (pc : Int) + off = (tgt : Int)) (k : G Ω M K tgt ls st σ) : G Ω M K pc ls (.int x :: st) σ := by
  intro B D cA p l e s m args below meth c H locs la C hP hS hl
  obtain ⟨hx, hb, hml, hown, hret, hlocks, hts, hK, hNs⟩ := C
  exact lv_tableIn hx hb d h1 h2 ho ht (k B D cA p l e s m args below meth c H locs la ⟨hx, hb, hml, hown, hret, hlocks, hts, hK, hNs⟩ hP hS hl)
theorem g_lookup {dflt : Int} {ps : Array (Int × Int)} {len : Nat} {x : Int32} {off : Int} {tgt : Nat} (d : decode (ic M) pc = .ok (.lookupswitch dflt ps, len)) (hp : (ps.toList.zip (ps.toList.drop 1)).all (fun (a, next) => a.1 < next.1) = true) (ho : Op.lookupswitch.offset ps.toList dflt x.toInt = off) (ht : (pc : Int) + off = (tgt : Int)) (k : G Ω M K tgt ls st σ) : G Ω M K pc ls (.int x :: st) σ := by
  intro B D cA p l e s m args below meth c H locs la C hP hS hl
  obtain ⟨hx, hb, hml, hown, hret, hlocks, hts, hK, hNs⟩ := C
  exact lv_lookup hx hb d hp ho ht (k B D cA p l e s m args below meth c H locs la ⟨hx, hb, hml, hown, hret, hlocks, hts, hK, hNs⟩ hP hS hl)
theorem g_ldc {index : Nat} {v : Int32} (d : decode (ic M) pc = .ok (.ldc index, 2)) (hc : Cond.constant (iy M).cls index v ∈ tbG) (k : G Ω M K (pc + 2) ls (.int v :: st) σ) : G Ω M K pc ls st σ := by
  intro B D cA p l e s m args below meth c H locs la C hP hS hl
  obtain ⟨hx, hb, hml, hown, hret, hlocks, hts, hK, hNs⟩ := C
  exact lv_ldc hx hb hown (hts _ hc) d (k B D cA p l e s m args below meth c H locs la ⟨hx, hb, hml, hown, hret, hlocks, hts, hK, hNs⟩ hP hS hl)
theorem g_ldc_w {index : Nat} {v : Int32} (d : decode (ic M) pc = .ok (.ldc_w index, 3)) (hc : Cond.constant (iy M).cls index v ∈ tbG) (k : G Ω M K (pc + 3) ls (.int v :: st) σ) : G Ω M K pc ls st σ := by
  intro B D cA p l e s m args below meth c H locs la C hP hS hl
  obtain ⟨hx, hb, hml, hown, hret, hlocks, hts, hK, hNs⟩ := C
  exact lv_ldcw hx hb hown (hts _ hc) d (k B D cA p l e s m args below meth c H locs la ⟨hx, hb, hml, hown, hret, hlocks, hts, hK, hNs⟩ hP hS hl)
theorem g_ldc2 {index : Nat} {v : Int64} (d : decode (ic M) pc = .ok (.ldc2_w index, 3)) (hc : Cond.constantLong (iy M).cls index v ∈ tbG) (k : G Ω M K (pc + 3) ls (.long v :: st) σ) : G Ω M K pc ls st σ := by
  intro B D cA p l e s m args below meth c H locs la C hP hS hl
  obtain ⟨hx, hb, hml, hown, hret, hlocks, hts, hK, hNs⟩ := C
  exact lv_ldc2 hx hb hown (hts _ hc) d (k B D cA p l e s m args below meth c H locs la ⟨hx, hb, hml, hown, hret, hlocks, hts, hK, hNs⟩ hP hS hl)
end
