/-! The judgement GX: as G, with room for what is thrown, in a method that returns (K) or throws (X). -/
def QX (Ω : Nat × Nat) (B : Nat) (D : va_G) (cA : Nat → ClassId) (X : String → Mm → Prop) : String → State → State → Prop := fun E st t => ∃ σ', X E σ' ∧ va_P D vwCl (wld Ω B cA σ') t.heap ∧ va_F (fun q => B + Ω.1 ≤ q) st t
/-- room (cells, slots), used so far, what else is known, how it returns, how it throws -/
abbrev JX : Type := ((Nat × Nat) × (Nat × Nat)) × (Nat → Launch → State → Code → Array Value → Prop) × (Option Value → Mm → Prop) × (String → Mm → Prop)
def rmX (M : MI) (q : Nat × Nat) : Room := { frames := ifr M, cells := q.1, slots := q.2, locals := ilw M }
def GX (Ω : Nat × Nat) (M : MI) (J : JX) (pc : Nat) (ls : List (Option Value)) (st : List Value) (σ : Mm) : Prop :=
  ∀ (B : Nat) (D : va_G) (cA : Nat → ClassId) (p : Program) (l : Launch) (e : Env) (s : State) (m : MethodId) (args : Array Value) (below : List Frame) (meth : Method) (c : Code) (H : Heap) (locs : List Loc) (la : Array Slot),
    Cx M D cA p s m args meth c → J.2.1 B l s c args → va_P D vwCl (wld Ω B cA σ) H → va_S (fun q => B + Ω.1 ≤ q) s.heap H locs → lvR B la (il M) ls →
    W p l e (rmX M J.1.1) s m args below meth c H locs J.1.2.1 J.1.2.2 (vx_MQ below (QK Ω B D cA J.2.2.1) (QX Ω B D cA J.2.2.2) args s J.1.1.1 J.1.1.2 (fun q => B + Ω.1 ≤ q)) (F0 m pc la (st.map (cv B)))
section
variable {Ω : Nat × Nat} {M N : MI} {J : JX} {K' : Option Value → Mm → Prop} {pc : Nat} {ls ls' : List (Option Value)} {st : List Value} {σ : Mm}
theorem xW {p : Program} {l : Launch} {e : Env} {R : Room} {s : State} {m : MethodId} {args : Array Value} {below : List Frame} {meth : Method} {c : Code} {H : Heap} {locs : List Loc} {cells slots k n : Nat} {Q : State → Prop} {g : JFrame} (h1 : cells ≤ k) (h2 : slots ≤ n) (kk : W p l e R s m args below meth c H locs k n Q g) : W p l e R s m args below meth c H locs cells slots Q g := fun T hT X => kk T hT (stand_widen X h1 h2)
theorem xg_ireturn {v : Int32} (d : decode (ic M) pc = .ok (.ireturn, 1)) (hr : ir M = some .int) (h1 : J.1.2.1 ≤ J.1.1.1 ∧ J.1.2.2 ≤ J.1.1.2) (k : J.2.2.1 (some (.int v)) σ) : GX Ω M J pc ls [.int v] σ := by
  intro B D cA p l e s m args below meth c H locs la C hE hP hS hl
  obtain ⟨hx, hb, hml, hown, hret, hlocks, hts, hK, hNs⟩ := C
  exact xW h1.1 h1.2 (vx_ret (W.iret hx hb (hret.trans hr) (fun t ht hW => ⟨⟨some (.int v), σ, rfl, k, by rw [ht]; exact hP⟩, hS.F ht⟩) hS.2.2 d hlocks))
theorem xg_lreturn {v : Int64} (d : decode (ic M) pc = .ok (.lreturn, 1)) (hr : ir M = some .long) (h1 : J.1.2.1 ≤ J.1.1.1 ∧ J.1.2.2 ≤ J.1.1.2) (k : J.2.2.1 (some (.long v)) σ) : GX Ω M J pc ls [.long v] σ := by
  intro B D cA p l e s m args below meth c H locs la C hE hP hS hl
  obtain ⟨hx, hb, hml, hown, hret, hlocks, hts, hK, hNs⟩ := C
  exact xW h1.1 h1.2 (vx_ret (W.lret hx hb (hret.trans hr) (fun t ht hW => ⟨⟨some (.long v), σ, rfl, k, by rw [ht]; exact hP⟩, hS.F ht⟩) hS.2.2 d hlocks))
theorem xg_return (d : decode (ic M) pc = .ok (.return_, 1)) (hr : ir M = none) (h1 : J.1.2.1 ≤ J.1.1.1 ∧ J.1.2.2 ≤ J.1.1.2) (k : J.2.2.1 none σ) : GX Ω M J pc ls [] σ := by
  intro B D cA p l e s m args below meth c H locs la C hE hP hS hl
  obtain ⟨hx, hb, hml, hown, hret, hlocks, hts, hK, hNs⟩ := C
  exact xW h1.1 h1.2 (vx_ret (W.vret hx hb (hret.trans hr) (fun t ht hW => ⟨⟨none, σ, rfl, k, by rw [ht]; exact hP⟩, hS.F ht⟩) hS.2.2 d hlocks))
theorem xg_iconst {n : Int} {v : Int32} (d : decode (ic M) pc = .ok (.iconst n, 1)) (hv : Int32.ofInt n = v) (k : GX Ω M J (pc + 1) ls (.int v :: st) σ) : GX Ω M J pc ls (st) σ := by
  intro B D cA p l e s m args below meth c H locs la C hE hP hS hl
  obtain ⟨hx, hb, hml, hown, hret, hlocks, hts, hK, hNs⟩ := C
  exact lv_iconst hx hb d hv (k B D cA p l e s m args below meth c H locs la ⟨hx, hb, hml, hown, hret, hlocks, hts, hK, hNs⟩ hE hP hS hl)
theorem xg_bipush {n : Int} {v : Int32} (d : decode (ic M) pc = .ok (.bipush n, 2)) (hv : (Int8.ofInt n).toInt32 = v) (k : GX Ω M J (pc + 2) ls (.int v :: st) σ) : GX Ω M J pc ls (st) σ := by
  intro B D cA p l e s m args below meth c H locs la C hE hP hS hl
  obtain ⟨hx, hb, hml, hown, hret, hlocks, hts, hK, hNs⟩ := C
  exact lv_bipush hx hb d hv (k B D cA p l e s m args below meth c H locs la ⟨hx, hb, hml, hown, hret, hlocks, hts, hK, hNs⟩ hE hP hS hl)
theorem xg_sipush {n : Int} {v : Int32} (d : decode (ic M) pc = .ok (.sipush n, 3)) (hv : (Int16.ofInt n).toInt32 = v) (k : GX Ω M J (pc + 3) ls (.int v :: st) σ) : GX Ω M J pc ls (st) σ := by
  intro B D cA p l e s m args below meth c H locs la C hE hP hS hl
  obtain ⟨hx, hb, hml, hown, hret, hlocks, hts, hK, hNs⟩ := C
  exact lv_sipush hx hb d hv (k B D cA p l e s m args below meth c H locs la ⟨hx, hb, hml, hown, hret, hlocks, hts, hK, hNs⟩ hE hP hS hl)
theorem xg_lconst {n : Fin 2} {v : Int64} (d : decode (ic M) pc = .ok (.lconst n, 1)) (hv : Int64.ofNat (n : Nat) = v) (k : GX Ω M J (pc + 1) ls (.long v :: st) σ) : GX Ω M J pc ls (st) σ := by
  intro B D cA p l e s m args below meth c H locs la C hE hP hS hl
  obtain ⟨hx, hb, hml, hown, hret, hlocks, hts, hK, hNs⟩ := C
  exact lv_lconst hx hb d hv (k B D cA p l e s m args below meth c H locs la ⟨hx, hb, hml, hown, hret, hlocks, hts, hK, hNs⟩ hE hP hS hl)
theorem xg_iload_n {q : Fin 4} {x : Int32} (d : decode (ic M) pc = .ok (.iload_n q, 1)) (hl0 : ls[(q : Nat)]? = some (some (.int x))) (k : GX Ω M J (pc + 1) ls (.int x :: st) σ) : GX Ω M J pc ls (st) σ := by
  intro B D cA p l e s m args below meth c H locs la C hE hP hS hl
  obtain ⟨hx, hb, hml, hown, hret, hlocks, hts, hK, hNs⟩ := C
  exact lv_iload_n hx hb d rfl (hl.at' hl0) (k B D cA p l e s m args below meth c H locs la ⟨hx, hb, hml, hown, hret, hlocks, hts, hK, hNs⟩ hE hP hS hl)
theorem xg_iload {i : Nat} {x : Int32} (d : decode (ic M) pc = .ok (.iload i, 2)) (hl0 : ls[i]? = some (some (.int x))) (k : GX Ω M J (pc + 2) ls (.int x :: st) σ) : GX Ω M J pc ls (st) σ := by
  intro B D cA p l e s m args below meth c H locs la C hE hP hS hl
  obtain ⟨hx, hb, hml, hown, hret, hlocks, hts, hK, hNs⟩ := C
  exact lv_iload hx hb d (hl.at' hl0) (k B D cA p l e s m args below meth c H locs la ⟨hx, hb, hml, hown, hret, hlocks, hts, hK, hNs⟩ hE hP hS hl)
theorem xg_lload_n {q : Fin 4} {x : Int64} (d : decode (ic M) pc = .ok (.lload_n q, 1)) (hl0 : ls[(q : Nat)]? = some (some (.long x))) (k : GX Ω M J (pc + 1) ls (.long x :: st) σ) : GX Ω M J pc ls (st) σ := by
  intro B D cA p l e s m args below meth c H locs la C hE hP hS hl
  obtain ⟨hx, hb, hml, hown, hret, hlocks, hts, hK, hNs⟩ := C
  exact lv_lload_n hx hb d rfl (hl.at' hl0) (k B D cA p l e s m args below meth c H locs la ⟨hx, hb, hml, hown, hret, hlocks, hts, hK, hNs⟩ hE hP hS hl)
theorem xg_lload {i : Nat} {x : Int64} (d : decode (ic M) pc = .ok (.lload i, 2)) (hl0 : ls[i]? = some (some (.long x))) (k : GX Ω M J (pc + 2) ls (.long x :: st) σ) : GX Ω M J pc ls (st) σ := by
  intro B D cA p l e s m args below meth c H locs la C hE hP hS hl
  obtain ⟨hx, hb, hml, hown, hret, hlocks, hts, hK, hNs⟩ := C
  exact lv_lload hx hb d (hl.at' hl0) (k B D cA p l e s m args below meth c H locs la ⟨hx, hb, hml, hown, hret, hlocks, hts, hK, hNs⟩ hE hP hS hl)
theorem xg_aload_n {q : Fin 4} {x : Nat} (d : decode (ic M) pc = .ok (.aload_n q, 1)) (hl0 : ls[(q : Nat)]? = some (some (.ref x))) (k : GX Ω M J (pc + 1) ls (.ref x :: st) σ) : GX Ω M J pc ls (st) σ := by
  intro B D cA p l e s m args below meth c H locs la C hE hP hS hl
  obtain ⟨hx, hb, hml, hown, hret, hlocks, hts, hK, hNs⟩ := C
  exact lv_aload_n hx hb d rfl (hl.at' hl0) (k B D cA p l e s m args below meth c H locs la ⟨hx, hb, hml, hown, hret, hlocks, hts, hK, hNs⟩ hE hP hS hl)
theorem xg_aload {i : Nat} {x : Nat} (d : decode (ic M) pc = .ok (.aload i, 2)) (hl0 : ls[i]? = some (some (.ref x))) (k : GX Ω M J (pc + 2) ls (.ref x :: st) σ) : GX Ω M J pc ls (st) σ := by
  intro B D cA p l e s m args below meth c H locs la C hE hP hS hl
  obtain ⟨hx, hb, hml, hown, hret, hlocks, hts, hK, hNs⟩ := C
  exact lv_aload hx hb d (hl.at' hl0) (k B D cA p l e s m args below meth c H locs la ⟨hx, hb, hml, hown, hret, hlocks, hts, hK, hNs⟩ hE hP hS hl)
theorem xg_istore_n {q : Fin 4} {x : Int32} (d : decode (ic M) pc = .ok (.istore_n q, 1)) (hn : (q : Nat) < il M) (hc : nl2 ls (q : Nat) = true) (hle : (q : Nat) < ls.length) (k : GX Ω M J (pc + 1) (ls.set (q : Nat) (some (.int x))) st σ) : GX Ω M J pc ls (.int x :: st) σ := by
  intro B D cA p l e s m args below meth c H locs la C hE hP hS hl
  obtain ⟨hx, hb, hml, hown, hret, hlocks, hts, hK, hNs⟩ := C
  exact lv_istore_n hx hb d rfl (lvA_has hl) hn rfl (fun la2 hl2 => k B D cA p l e s m args below meth c H locs la2 ⟨hx, hb, hml, hown, hret, hlocks, hts, hK, hNs⟩ hE hP hS (lvR_st1 (x := .int x) hc hle hl2))
theorem xg_istore {i : Nat} {x : Int32} (d : decode (ic M) pc = .ok (.istore i, 2)) (hn : i < il M) (hc : nl2 ls i = true) (hle : i < ls.length) (k : GX Ω M J (pc + 2) (ls.set i (some (.int x))) st σ) : GX Ω M J pc ls (.int x :: st) σ := by
  intro B D cA p l e s m args below meth c H locs la C hE hP hS hl
  obtain ⟨hx, hb, hml, hown, hret, hlocks, hts, hK, hNs⟩ := C
  exact lv_istore hx hb d (lvA_has hl) hn rfl (fun la2 hl2 => k B D cA p l e s m args below meth c H locs la2 ⟨hx, hb, hml, hown, hret, hlocks, hts, hK, hNs⟩ hE hP hS (lvR_st1 (x := .int x) hc hle hl2))
theorem xg_astore_n {q : Fin 4} {x : Nat} (d : decode (ic M) pc = .ok (.astore_n q, 1)) (hn : (q : Nat) < il M) (hc : nl2 ls (q : Nat) = true) (hle : (q : Nat) < ls.length) (k : GX Ω M J (pc + 1) (ls.set (q : Nat) (some (.ref x))) st σ) : GX Ω M J pc ls (.ref x :: st) σ := by
  intro B D cA p l e s m args below meth c H locs la C hE hP hS hl
  obtain ⟨hx, hb, hml, hown, hret, hlocks, hts, hK, hNs⟩ := C
  exact lv_astore_n hx hb d rfl (lvA_has hl) hn rfl (fun la2 hl2 => k B D cA p l e s m args below meth c H locs la2 ⟨hx, hb, hml, hown, hret, hlocks, hts, hK, hNs⟩ hE hP hS (lvR_st1 (x := .ref x) hc hle hl2))
theorem xg_astore {i : Nat} {x : Nat} (d : decode (ic M) pc = .ok (.astore i, 2)) (hn : i < il M) (hc : nl2 ls i = true) (hle : i < ls.length) (k : GX Ω M J (pc + 2) (ls.set i (some (.ref x))) st σ) : GX Ω M J pc ls (.ref x :: st) σ := by
  intro B D cA p l e s m args below meth c H locs la C hE hP hS hl
  obtain ⟨hx, hb, hml, hown, hret, hlocks, hts, hK, hNs⟩ := C
  exact lv_astore hx hb d (lvA_has hl) hn rfl (fun la2 hl2 => k B D cA p l e s m args below meth c H locs la2 ⟨hx, hb, hml, hown, hret, hlocks, hts, hK, hNs⟩ hE hP hS (lvR_st1 (x := .ref x) hc hle hl2))
theorem xg_lstore_n {q : Fin 4} {x : Int64} (d : decode (ic M) pc = .ok (.lstore_n q, 1)) (hn : (q : Nat) + 1 < il M) (hc : nl2 ls (q : Nat) = true) (hle : (q : Nat) < ls.length) (k : GX Ω M J (pc + 1) ((ls.set (q : Nat) (some (.long x))).set ((q : Nat) + 1) none) st σ) : GX Ω M J pc ls (.long x :: st) σ := by
  intro B D cA p l e s m args below meth c H locs la C hE hP hS hl
  obtain ⟨hx, hb, hml, hown, hret, hlocks, hts, hK, hNs⟩ := C
  exact lv_lstore_n hx hb d rfl (lvA_has hl) hn rfl (fun la2 hl2 => k B D cA p l e s m args below meth c H locs la2 ⟨hx, hb, hml, hown, hret, hlocks, hts, hK, hNs⟩ hE hP hS (lvR_st2 (x := .long x) hc hle hl2))
theorem xg_lstore {i : Nat} {x : Int64} (d : decode (ic M) pc = .ok (.lstore i, 2)) (hn : i + 1 < il M) (hc : nl2 ls i = true) (hle : i < ls.length) (k : GX Ω M J (pc + 2) ((ls.set i (some (.long x))).set (i + 1) none) st σ) : GX Ω M J pc ls (.long x :: st) σ := by
  intro B D cA p l e s m args below meth c H locs la C hE hP hS hl
  obtain ⟨hx, hb, hml, hown, hret, hlocks, hts, hK, hNs⟩ := C
  exact lv_lstore hx hb d (lvA_has hl) hn rfl (fun la2 hl2 => k B D cA p l e s m args below meth c H locs la2 ⟨hx, hb, hml, hown, hret, hlocks, hts, hK, hNs⟩ hE hP hS (lvR_st2 (x := .long x) hc hle hl2))
theorem xg_iinc {i : Nat} {n : Int} {x v : Int32} (d : decode (ic M) pc = .ok (.iinc i n, 3)) (hl0 : ls[i]? = some (some (.int x))) (hv : x + Int32.ofInt n = v) (hn : i < il M) (hc : nl2 ls i = true) (k : GX Ω M J (pc + 3) (ls.set i (some (.int v))) st σ) : GX Ω M J pc ls st σ := by
  intro B D cA p l e s m args below meth c H locs la C hE hP hS hl
  obtain ⟨hx, hb, hml, hown, hret, hlocks, hts, hK, hNs⟩ := C
  obtain ⟨j, hj⟩ := List.getElem?_of_mem (lvA_mem (B := B) hl0)
  exact lv_iinc hx hb d (lvA_has hl) hj hv hn rfl (fun la2 hl2 => k B D cA p l e s m args below meth c H locs la2 ⟨hx, hb, hml, hown, hret, hlocks, hts, hK, hNs⟩ hE hP hS (lvR_st1 (x := .int v) hc (List.getElem?_eq_some_iff.mp hl0).1 hl2))
theorem xg_iadd {x y v : Int32} (d : decode (ic M) pc = .ok (.iadd, 1)) (hv : x + y = v) (k : GX Ω M J (pc + 1) ls (.int v :: st) σ) : GX Ω M J pc ls (.int y :: .int x :: st) σ := by
  subst hv
  intro B D cA p l e s m args below meth c H locs la C hE hP hS hl
  obtain ⟨hx, hb, hml, hown, hret, hlocks, hts, hK, hNs⟩ := C
  exact lv_iadd hx hb d (k B D cA p l e s m args below meth c H locs la ⟨hx, hb, hml, hown, hret, hlocks, hts, hK, hNs⟩ hE hP hS hl)
theorem xg_isub {x y v : Int32} (d : decode (ic M) pc = .ok (.isub, 1)) (hv : x - y = v) (k : GX Ω M J (pc + 1) ls (.int v :: st) σ) : GX Ω M J pc ls (.int y :: .int x :: st) σ := by
  subst hv
  intro B D cA p l e s m args below meth c H locs la C hE hP hS hl
  obtain ⟨hx, hb, hml, hown, hret, hlocks, hts, hK, hNs⟩ := C
  exact lv_isub hx hb d (k B D cA p l e s m args below meth c H locs la ⟨hx, hb, hml, hown, hret, hlocks, hts, hK, hNs⟩ hE hP hS hl)
theorem xg_imul {x y v : Int32} (d : decode (ic M) pc = .ok (.imul, 1)) (hv : x * y = v) (k : GX Ω M J (pc + 1) ls (.int v :: st) σ) : GX Ω M J pc ls (.int y :: .int x :: st) σ := by
  subst hv
  intro B D cA p l e s m args below meth c H locs la C hE hP hS hl
  obtain ⟨hx, hb, hml, hown, hret, hlocks, hts, hK, hNs⟩ := C
  exact lv_imul hx hb d (k B D cA p l e s m args below meth c H locs la ⟨hx, hb, hml, hown, hret, hlocks, hts, hK, hNs⟩ hE hP hS hl)
theorem xg_iand {x y v : Int32} (d : decode (ic M) pc = .ok (.iand, 1)) (hv : x &&& y = v) (k : GX Ω M J (pc + 1) ls (.int v :: st) σ) : GX Ω M J pc ls (.int y :: .int x :: st) σ := by
  subst hv
  intro B D cA p l e s m args below meth c H locs la C hE hP hS hl
  obtain ⟨hx, hb, hml, hown, hret, hlocks, hts, hK, hNs⟩ := C
  exact lv_iand hx hb d (k B D cA p l e s m args below meth c H locs la ⟨hx, hb, hml, hown, hret, hlocks, hts, hK, hNs⟩ hE hP hS hl)
theorem xg_ior {x y v : Int32} (d : decode (ic M) pc = .ok (.ior, 1)) (hv : x ||| y = v) (k : GX Ω M J (pc + 1) ls (.int v :: st) σ) : GX Ω M J pc ls (.int y :: .int x :: st) σ := by
  subst hv
  intro B D cA p l e s m args below meth c H locs la C hE hP hS hl
  obtain ⟨hx, hb, hml, hown, hret, hlocks, hts, hK, hNs⟩ := C
  exact lv_ior hx hb d (k B D cA p l e s m args below meth c H locs la ⟨hx, hb, hml, hown, hret, hlocks, hts, hK, hNs⟩ hE hP hS hl)
theorem xg_ixor {x y v : Int32} (d : decode (ic M) pc = .ok (.ixor, 1)) (hv : x ^^^ y = v) (k : GX Ω M J (pc + 1) ls (.int v :: st) σ) : GX Ω M J pc ls (.int y :: .int x :: st) σ := by
  subst hv
  intro B D cA p l e s m args below meth c H locs la C hE hP hS hl
  obtain ⟨hx, hb, hml, hown, hret, hlocks, hts, hK, hNs⟩ := C
  exact lv_ixor hx hb d (k B D cA p l e s m args below meth c H locs la ⟨hx, hb, hml, hown, hret, hlocks, hts, hK, hNs⟩ hE hP hS hl)
theorem xg_ishl {x y v : Int32} (d : decode (ic M) pc = .ok (.ishl, 1)) (hv : x <<< (y &&& 31) = v) (k : GX Ω M J (pc + 1) ls (.int v :: st) σ) : GX Ω M J pc ls (.int y :: .int x :: st) σ := by
  subst hv
  intro B D cA p l e s m args below meth c H locs la C hE hP hS hl
  obtain ⟨hx, hb, hml, hown, hret, hlocks, hts, hK, hNs⟩ := C
  exact lv_ishl hx hb d (k B D cA p l e s m args below meth c H locs la ⟨hx, hb, hml, hown, hret, hlocks, hts, hK, hNs⟩ hE hP hS hl)
theorem xg_ishr {x y v : Int32} (d : decode (ic M) pc = .ok (.ishr, 1)) (hv : x >>> (y &&& 31) = v) (k : GX Ω M J (pc + 1) ls (.int v :: st) σ) : GX Ω M J pc ls (.int y :: .int x :: st) σ := by
  subst hv
  intro B D cA p l e s m args below meth c H locs la C hE hP hS hl
  obtain ⟨hx, hb, hml, hown, hret, hlocks, hts, hK, hNs⟩ := C
  exact lv_ishr hx hb d (k B D cA p l e s m args below meth c H locs la ⟨hx, hb, hml, hown, hret, hlocks, hts, hK, hNs⟩ hE hP hS hl)
theorem xg_idiv {x y v : Int32} (d : decode (ic M) pc = .ok (.idiv, 1)) (hy : ¬ y = 0) (hv : x / y = v) (k : GX Ω M J (pc + 1) ls (.int v :: st) σ) : GX Ω M J pc ls (.int y :: .int x :: st) σ := by
  subst hv
  intro B D cA p l e s m args below meth c H locs la C hE hP hS hl
  obtain ⟨hx, hb, hml, hown, hret, hlocks, hts, hK, hNs⟩ := C
  exact lv_idiv hx hb d hy (k B D cA p l e s m args below meth c H locs la ⟨hx, hb, hml, hown, hret, hlocks, hts, hK, hNs⟩ hE hP hS hl)
theorem xg_irem {x y v : Int32} (d : decode (ic M) pc = .ok (.irem, 1)) (hy : ¬ y = 0) (hv : x - x / y * y = v) (k : GX Ω M J (pc + 1) ls (.int v :: st) σ) : GX Ω M J pc ls (.int y :: .int x :: st) σ := by
  subst hv
  intro B D cA p l e s m args below meth c H locs la C hE hP hS hl
  obtain ⟨hx, hb, hml, hown, hret, hlocks, hts, hK, hNs⟩ := C
  exact lv_irem hx hb d hy (k B D cA p l e s m args below meth c H locs la ⟨hx, hb, hml, hown, hret, hlocks, hts, hK, hNs⟩ hE hP hS hl)
theorem xg_iushr {x y v : Int32} (d : decode (ic M) pc = .ok (.iushr, 1)) (hv : (x.toUInt32 >>> (y.toUInt32 &&& Int32.toUInt32 31)).toInt32 = v) (k : GX Ω M J (pc + 1) ls (.int v :: st) σ) : GX Ω M J pc ls (.int y :: .int x :: st) σ := by
  intro B D cA p l e s m args below meth c H locs la C hE hP hS hl
  obtain ⟨hx, hb, hml, hown, hret, hlocks, hts, hK, hNs⟩ := C
  exact lv_iushr hx hb d hv (k B D cA p l e s m args below meth c H locs la ⟨hx, hb, hml, hown, hret, hlocks, hts, hK, hNs⟩ hE hP hS hl)
theorem xg_ladd {x y v : Int64} (d : decode (ic M) pc = .ok (.ladd, 1)) (hv : x + y = v) (k : GX Ω M J (pc + 1) ls (.long v :: st) σ) : GX Ω M J pc ls (.long y :: .long x :: st) σ := by
  subst hv
  intro B D cA p l e s m args below meth c H locs la C hE hP hS hl
  obtain ⟨hx, hb, hml, hown, hret, hlocks, hts, hK, hNs⟩ := C
  exact lv_ladd hx hb d (k B D cA p l e s m args below meth c H locs la ⟨hx, hb, hml, hown, hret, hlocks, hts, hK, hNs⟩ hE hP hS hl)
theorem xg_lmul {x y v : Int64} (d : decode (ic M) pc = .ok (.lmul, 1)) (hv : x * y = v) (k : GX Ω M J (pc + 1) ls (.long v :: st) σ) : GX Ω M J pc ls (.long y :: .long x :: st) σ := by
  subst hv
  intro B D cA p l e s m args below meth c H locs la C hE hP hS hl
  obtain ⟨hx, hb, hml, hown, hret, hlocks, hts, hK, hNs⟩ := C
  exact lv_lmul hx hb d (k B D cA p l e s m args below meth c H locs la ⟨hx, hb, hml, hown, hret, hlocks, hts, hK, hNs⟩ hE hP hS hl)
theorem xg_lcmp {x y : Int64} {v : Int32} (d : decode (ic M) pc = .ok (.lcmp, 1)) (hv : lg_cmp x y = v) (k : GX Ω M J (pc + 1) ls (.int v :: st) σ) : GX Ω M J pc ls (.long y :: .long x :: st) σ := by
  subst hv
  intro B D cA p l e s m args below meth c H locs la C hE hP hS hl
  obtain ⟨hx, hb, hml, hown, hret, hlocks, hts, hK, hNs⟩ := C
  exact W.lcmp hx hb d (k B D cA p l e s m args below meth c H locs la ⟨hx, hb, hml, hown, hret, hlocks, hts, hK, hNs⟩ hE hP hS hl)
theorem xg_i2l {x : Int32} {v : Int64} (d : decode (ic M) pc = .ok (.i2l, 1)) (hv : x.toInt64 = v) (k : GX Ω M J (pc + 1) ls (.long v :: st) σ) : GX Ω M J pc ls (.int x :: st) σ := by
  intro B D cA p l e s m args below meth c H locs la C hE hP hS hl
  obtain ⟨hx, hb, hml, hown, hret, hlocks, hts, hK, hNs⟩ := C
  exact lv_i2l hx hb d hv (k B D cA p l e s m args below meth c H locs la ⟨hx, hb, hml, hown, hret, hlocks, hts, hK, hNs⟩ hE hP hS hl)
theorem xg_l2i {x : Int64} {v : Int32} (d : decode (ic M) pc = .ok (.l2i, 1)) (hv : x.toInt32 = v) (k : GX Ω M J (pc + 1) ls (.int v :: st) σ) : GX Ω M J pc ls (.long x :: st) σ := by
  intro B D cA p l e s m args below meth c H locs la C hE hP hS hl
  obtain ⟨hx, hb, hml, hown, hret, hlocks, hts, hK, hNs⟩ := C
  exact lv_l2i hx hb d hv (k B D cA p l e s m args below meth c H locs la ⟨hx, hb, hml, hown, hret, hlocks, hts, hK, hNs⟩ hE hP hS hl)
theorem xg_i2b {x : Int32} {v : Int32} (d : decode (ic M) pc = .ok (.i2b, 1)) (hv : x.toInt8.toInt32 = v) (k : GX Ω M J (pc + 1) ls (.int v :: st) σ) : GX Ω M J pc ls (.int x :: st) σ := by
  intro B D cA p l e s m args below meth c H locs la C hE hP hS hl
  obtain ⟨hx, hb, hml, hown, hret, hlocks, hts, hK, hNs⟩ := C
  exact lv_i2b hx hb d hv (k B D cA p l e s m args below meth c H locs la ⟨hx, hb, hml, hown, hret, hlocks, hts, hK, hNs⟩ hE hP hS hl)
theorem xg_dup {x : Value} (d : decode (ic M) pc = .ok (.dup, 1)) (hx1 : x.category = 1) (k : GX Ω M J (pc + 1) ls (x :: x :: st) σ) : GX Ω M J pc ls (x :: st) σ := by
  intro B D cA p l e s m args below meth c H locs la C hE hP hS hl
  obtain ⟨hx, hb, hml, hown, hret, hlocks, hts, hK, hNs⟩ := C
  exact lv_dup hx hb d (by rw [cv_cat]; exact hx1) (k B D cA p l e s m args below meth c H locs la ⟨hx, hb, hml, hown, hret, hlocks, hts, hK, hNs⟩ hE hP hS hl)
theorem xg_pop {x : Value} (d : decode (ic M) pc = .ok (.pop, 1)) (hx1 : x.category = 1) (k : GX Ω M J (pc + 1) ls st σ) : GX Ω M J pc ls (x :: st) σ := by
  intro B D cA p l e s m args below meth c H locs la C hE hP hS hl
  obtain ⟨hx, hb, hml, hown, hret, hlocks, hts, hK, hNs⟩ := C
  exact lv_pop hx hb d (by rw [cv_cat]; exact hx1) (k B D cA p l e s m args below meth c H locs la ⟨hx, hb, hml, hown, hret, hlocks, hts, hK, hNs⟩ hE hP hS hl)
theorem xg_dup2 {x y : Value} (d : decode (ic M) pc = .ok (.dup2, 1)) (hx1 : x.category = 1) (hy1 : y.category = 1) (k : GX Ω M J (pc + 1) ls (x :: y :: x :: y :: st) σ) : GX Ω M J pc ls (x :: y :: st) σ := by
  intro B D cA p l e s m args below meth c H locs la C hE hP hS hl
  obtain ⟨hx, hb, hml, hown, hret, hlocks, hts, hK, hNs⟩ := C
  exact lv_dup2_11 hx hb d (by rw [cv_cat]; exact hx1) (by rw [cv_cat]; exact hy1) (k B D cA p l e s m args below meth c H locs la ⟨hx, hb, hml, hown, hret, hlocks, hts, hK, hNs⟩ hE hP hS hl)
theorem xg_if_eq {x : Int32} {off : Int} {tgt : Nat} (d : decode (ic M) pc = .ok (.ifCond .eq off, 3)) (ht : (pc : Int) + off = (tgt : Int)) (kt : x = 0 → GX Ω M J tgt ls st σ) (kf : ¬ (x = 0) → GX Ω M J (pc + 3) ls st σ) : GX Ω M J pc ls (.int x :: st) σ := by
  intro B D cA p l e s m args below meth c H locs la C hE hP hS hl
  obtain ⟨hx, hb, hml, hown, hret, hlocks, hts, hK, hNs⟩ := C
  exact lv_if_eq hx hb d ht (fun h => kt h B D cA p l e s m args below meth c H locs la ⟨hx, hb, hml, hown, hret, hlocks, hts, hK, hNs⟩ hE hP hS hl) (fun h => kf h B D cA p l e s m args below meth c H locs la ⟨hx, hb, hml, hown, hret, hlocks, hts, hK, hNs⟩ hE hP hS hl)
theorem xg_icmp_eq {x y : Int32} {off : Int} {tgt : Nat} (d : decode (ic M) pc = .ok (.if_icmp .eq off, 3)) (ht : (pc : Int) + off = (tgt : Int)) (kt : x = y → GX Ω M J tgt ls st σ) (kf : ¬ (x = y) → GX Ω M J (pc + 3) ls st σ) : GX Ω M J pc ls (.int y :: .int x :: st) σ := by
  intro B D cA p l e s m args below meth c H locs la C hE hP hS hl
  obtain ⟨hx, hb, hml, hown, hret, hlocks, hts, hK, hNs⟩ := C
  exact lv_icmp_eq hx hb d ht (fun h => kt h B D cA p l e s m args below meth c H locs la ⟨hx, hb, hml, hown, hret, hlocks, hts, hK, hNs⟩ hE hP hS hl) (fun h => kf h B D cA p l e s m args below meth c H locs la ⟨hx, hb, hml, hown, hret, hlocks, hts, hK, hNs⟩ hE hP hS hl)
theorem xg_if_ne {x : Int32} {off : Int} {tgt : Nat} (d : decode (ic M) pc = .ok (.ifCond .ne off, 3)) (ht : (pc : Int) + off = (tgt : Int)) (kt : ¬ x = 0 → GX Ω M J tgt ls st σ) (kf : x = 0 → GX Ω M J (pc + 3) ls st σ) : GX Ω M J pc ls (.int x :: st) σ := by
  intro B D cA p l e s m args below meth c H locs la C hE hP hS hl
  obtain ⟨hx, hb, hml, hown, hret, hlocks, hts, hK, hNs⟩ := C
  exact lv_if_ne hx hb d ht (fun h => kt h B D cA p l e s m args below meth c H locs la ⟨hx, hb, hml, hown, hret, hlocks, hts, hK, hNs⟩ hE hP hS hl) (fun h => kf h B D cA p l e s m args below meth c H locs la ⟨hx, hb, hml, hown, hret, hlocks, hts, hK, hNs⟩ hE hP hS hl)
theorem xg_icmp_ne {x y : Int32} {off : Int} {tgt : Nat} (d : decode (ic M) pc = .ok (.if_icmp .ne off, 3)) (ht : (pc : Int) + off = (tgt : Int)) (kt : ¬ x = y → GX Ω M J tgt ls st σ) (kf : x = y → GX Ω M J (pc + 3) ls st σ) : GX Ω M J pc ls (.int y :: .int x :: st) σ := by
  intro B D cA p l e s m args below meth c H locs la C hE hP hS hl
  obtain ⟨hx, hb, hml, hown, hret, hlocks, hts, hK, hNs⟩ := C
  exact lv_icmp_ne hx hb d ht (fun h => kt h B D cA p l e s m args below meth c H locs la ⟨hx, hb, hml, hown, hret, hlocks, hts, hK, hNs⟩ hE hP hS hl) (fun h => kf h B D cA p l e s m args below meth c H locs la ⟨hx, hb, hml, hown, hret, hlocks, hts, hK, hNs⟩ hE hP hS hl)
theorem xg_if_lt {x : Int32} {off : Int} {tgt : Nat} (d : decode (ic M) pc = .ok (.ifCond .lt off, 3)) (ht : (pc : Int) + off = (tgt : Int)) (kt : x < 0 → GX Ω M J tgt ls st σ) (kf : ¬ (x < 0) → GX Ω M J (pc + 3) ls st σ) : GX Ω M J pc ls (.int x :: st) σ := by
  intro B D cA p l e s m args below meth c H locs la C hE hP hS hl
  obtain ⟨hx, hb, hml, hown, hret, hlocks, hts, hK, hNs⟩ := C
  exact lv_if_lt hx hb d ht (fun h => kt h B D cA p l e s m args below meth c H locs la ⟨hx, hb, hml, hown, hret, hlocks, hts, hK, hNs⟩ hE hP hS hl) (fun h => kf h B D cA p l e s m args below meth c H locs la ⟨hx, hb, hml, hown, hret, hlocks, hts, hK, hNs⟩ hE hP hS hl)
theorem xg_icmp_lt {x y : Int32} {off : Int} {tgt : Nat} (d : decode (ic M) pc = .ok (.if_icmp .lt off, 3)) (ht : (pc : Int) + off = (tgt : Int)) (kt : x < y → GX Ω M J tgt ls st σ) (kf : ¬ (x < y) → GX Ω M J (pc + 3) ls st σ) : GX Ω M J pc ls (.int y :: .int x :: st) σ := by
  intro B D cA p l e s m args below meth c H locs la C hE hP hS hl
  obtain ⟨hx, hb, hml, hown, hret, hlocks, hts, hK, hNs⟩ := C
  exact lv_icmp_lt hx hb d ht (fun h => kt h B D cA p l e s m args below meth c H locs la ⟨hx, hb, hml, hown, hret, hlocks, hts, hK, hNs⟩ hE hP hS hl) (fun h => kf h B D cA p l e s m args below meth c H locs la ⟨hx, hb, hml, hown, hret, hlocks, hts, hK, hNs⟩ hE hP hS hl)
theorem xg_if_ge {x : Int32} {off : Int} {tgt : Nat} (d : decode (ic M) pc = .ok (.ifCond .ge off, 3)) (ht : (pc : Int) + off = (tgt : Int)) (kt : 0 ≤ x → GX Ω M J tgt ls st σ) (kf : ¬ (0 ≤ x) → GX Ω M J (pc + 3) ls st σ) : GX Ω M J pc ls (.int x :: st) σ := by
  intro B D cA p l e s m args below meth c H locs la C hE hP hS hl
  obtain ⟨hx, hb, hml, hown, hret, hlocks, hts, hK, hNs⟩ := C
  exact lv_if_ge hx hb d ht (fun h => kt h B D cA p l e s m args below meth c H locs la ⟨hx, hb, hml, hown, hret, hlocks, hts, hK, hNs⟩ hE hP hS hl) (fun h => kf h B D cA p l e s m args below meth c H locs la ⟨hx, hb, hml, hown, hret, hlocks, hts, hK, hNs⟩ hE hP hS hl)
theorem xg_icmp_ge {x y : Int32} {off : Int} {tgt : Nat} (d : decode (ic M) pc = .ok (.if_icmp .ge off, 3)) (ht : (pc : Int) + off = (tgt : Int)) (kt : y ≤ x → GX Ω M J tgt ls st σ) (kf : ¬ (y ≤ x) → GX Ω M J (pc + 3) ls st σ) : GX Ω M J pc ls (.int y :: .int x :: st) σ := by
  intro B D cA p l e s m args below meth c H locs la C hE hP hS hl
  obtain ⟨hx, hb, hml, hown, hret, hlocks, hts, hK, hNs⟩ := C
  exact lv_icmp_ge hx hb d ht (fun h => kt h B D cA p l e s m args below meth c H locs la ⟨hx, hb, hml, hown, hret, hlocks, hts, hK, hNs⟩ hE hP hS hl) (fun h => kf h B D cA p l e s m args below meth c H locs la ⟨hx, hb, hml, hown, hret, hlocks, hts, hK, hNs⟩ hE hP hS hl)
theorem xg_if_gt {x : Int32} {off : Int} {tgt : Nat} (d : decode (ic M) pc = .ok (.ifCond .gt off, 3)) (ht : (pc : Int) + off = (tgt : Int)) (kt : 0 < x → GX Ω M J tgt ls st σ) (kf : ¬ (0 < x) → GX Ω M J (pc + 3) ls st σ) : GX Ω M J pc ls (.int x :: st) σ := by
  intro B D cA p l e s m args below meth c H locs la C hE hP hS hl
  obtain ⟨hx, hb, hml, hown, hret, hlocks, hts, hK, hNs⟩ := C
  exact lv_if_gt hx hb d ht (fun h => kt h B D cA p l e s m args below meth c H locs la ⟨hx, hb, hml, hown, hret, hlocks, hts, hK, hNs⟩ hE hP hS hl) (fun h => kf h B D cA p l e s m args below meth c H locs la ⟨hx, hb, hml, hown, hret, hlocks, hts, hK, hNs⟩ hE hP hS hl)
theorem xg_icmp_gt {x y : Int32} {off : Int} {tgt : Nat} (d : decode (ic M) pc = .ok (.if_icmp .gt off, 3)) (ht : (pc : Int) + off = (tgt : Int)) (kt : y < x → GX Ω M J tgt ls st σ) (kf : ¬ (y < x) → GX Ω M J (pc + 3) ls st σ) : GX Ω M J pc ls (.int y :: .int x :: st) σ := by
  intro B D cA p l e s m args below meth c H locs la C hE hP hS hl
  obtain ⟨hx, hb, hml, hown, hret, hlocks, hts, hK, hNs⟩ := C
  exact lv_icmp_gt hx hb d ht (fun h => kt h B D cA p l e s m args below meth c H locs la ⟨hx, hb, hml, hown, hret, hlocks, hts, hK, hNs⟩ hE hP hS hl) (fun h => kf h B D cA p l e s m args below meth c H locs la ⟨hx, hb, hml, hown, hret, hlocks, hts, hK, hNs⟩ hE hP hS hl)
theorem xg_if_le {x : Int32} {off : Int} {tgt : Nat} (d : decode (ic M) pc = .ok (.ifCond .le off, 3)) (ht : (pc : Int) + off = (tgt : Int)) (kt : x ≤ 0 → GX Ω M J tgt ls st σ) (kf : ¬ (x ≤ 0) → GX Ω M J (pc + 3) ls st σ) : GX Ω M J pc ls (.int x :: st) σ := by
  intro B D cA p l e s m args below meth c H locs la C hE hP hS hl
  obtain ⟨hx, hb, hml, hown, hret, hlocks, hts, hK, hNs⟩ := C
  exact lv_if_le hx hb d ht (fun h => kt h B D cA p l e s m args below meth c H locs la ⟨hx, hb, hml, hown, hret, hlocks, hts, hK, hNs⟩ hE hP hS hl) (fun h => kf h B D cA p l e s m args below meth c H locs la ⟨hx, hb, hml, hown, hret, hlocks, hts, hK, hNs⟩ hE hP hS hl)
theorem xg_icmp_le {x y : Int32} {off : Int} {tgt : Nat} (d : decode (ic M) pc = .ok (.if_icmp .le off, 3)) (ht : (pc : Int) + off = (tgt : Int)) (kt : x ≤ y → GX Ω M J tgt ls st σ) (kf : ¬ (x ≤ y) → GX Ω M J (pc + 3) ls st σ) : GX Ω M J pc ls (.int y :: .int x :: st) σ := by
  intro B D cA p l e s m args below meth c H locs la C hE hP hS hl
  obtain ⟨hx, hb, hml, hown, hret, hlocks, hts, hK, hNs⟩ := C
  exact lv_icmp_le hx hb d ht (fun h => kt h B D cA p l e s m args below meth c H locs la ⟨hx, hb, hml, hown, hret, hlocks, hts, hK, hNs⟩ hE hP hS hl) (fun h => kf h B D cA p l e s m args below meth c H locs la ⟨hx, hb, hml, hown, hret, hlocks, hts, hK, hNs⟩ hE hP hS hl)
theorem xg_goto {off : Int} {tgt : Nat} (d : decode (ic M) pc = .ok (.goto off, 3)) (ht : (pc : Int) + off = (tgt : Int)) (k : GX Ω M J tgt ls st σ) : GX Ω M J pc ls st σ := by
  intro B D cA p l e s m args below meth c H locs la C hE hP hS hl
  obtain ⟨hx, hb, hml, hown, hret, hlocks, hts, hK, hNs⟩ := C
  exact lv_goto hx hb d ht (k B D cA p l e s m args below meth c H locs la ⟨hx, hb, hml, hown, hret, hlocks, hts, hK, hNs⟩ hE hP hS hl)
theorem xg_tableOut {dflt lo hi : Int} {offs : Array Int} {len : Nat} {x : Int32} {tgt : Nat} (d : decode (ic M) pc = .ok (.tableswitch dflt lo hi offs, len)) (h : x.toInt < lo ∨ hi < x.toInt) (ht : (pc : Int) + dflt = (tgt : Int)) (k : GX Ω M J tgt ls st σ) : GX Ω M J pc ls (.int x :: st) σ := by
  intro B D cA p l e s m args below meth c H locs la C hE hP hS hl
  obtain ⟨hx, hb, hml, hown, hret, hlocks, hts, hK, hNs⟩ := C
  exact lv_tableOut hx hb d h ht (k B D cA p l e s m args below meth c H locs la ⟨hx, hb, hml, hown, hret, hlocks, hts, hK, hNs⟩ hE hP hS hl)
theorem xg_tableIn {dflt lo hi : Int} {offs : Array Int} {len : Nat} {x : Int32} {off : Int} {tgt : Nat} (d : decode (ic M) pc = .ok (.tableswitch dflt lo hi offs, len)) (h1 : ¬ x.toInt < lo) (h2 : ¬ hi < x.toInt) (ho : offs[(x.toInt - lo).toNat]? = some off) (ht : (pc : Int) + off = (tgt : Int)) (k : GX Ω M J tgt ls st σ) : GX Ω M J pc ls (.int x :: st) σ := by
  intro B D cA p l e s m args below meth c H locs la C hE hP hS hl
  obtain ⟨hx, hb, hml, hown, hret, hlocks, hts, hK, hNs⟩ := C
  exact lv_tableIn hx hb d h1 h2 ho ht (k B D cA p l e s m args below meth c H locs la ⟨hx, hb, hml, hown, hret, hlocks, hts, hK, hNs⟩ hE hP hS hl)
theorem xg_lookup {dflt : Int} {ps : Array (Int × Int)} {len : Nat} {x : Int32} {off : Int} {tgt : Nat} (d : decode (ic M) pc = .ok (.lookupswitch dflt ps, len)) (hp : (ps.toList.zip (ps.toList.drop 1)).all (fun (a, next) => a.1 < next.1) = true) (ho : Op.lookupswitch.offset ps.toList dflt x.toInt = off) (ht : (pc : Int) + off = (tgt : Int)) (k : GX Ω M J tgt ls st σ) : GX Ω M J pc ls (.int x :: st) σ := by
  intro B D cA p l e s m args below meth c H locs la C hE hP hS hl
  obtain ⟨hx, hb, hml, hown, hret, hlocks, hts, hK, hNs⟩ := C
  exact lv_lookup hx hb d hp ho ht (k B D cA p l e s m args below meth c H locs la ⟨hx, hb, hml, hown, hret, hlocks, hts, hK, hNs⟩ hE hP hS hl)
theorem xg_ldc {index : Nat} {v : Int32} (d : decode (ic M) pc = .ok (.ldc index, 2)) (hc : Cond.constant (iy M).cls index v ∈ tbG) (k : GX Ω M J (pc + 2) ls (.int v :: st) σ) : GX Ω M J pc ls st σ := by
  intro B D cA p l e s m args below meth c H locs la C hE hP hS hl
  obtain ⟨hx, hb, hml, hown, hret, hlocks, hts, hK, hNs⟩ := C
  exact lv_ldc hx hb hown (hts _ hc) d (k B D cA p l e s m args below meth c H locs la ⟨hx, hb, hml, hown, hret, hlocks, hts, hK, hNs⟩ hE hP hS hl)
theorem xg_ldc_w {index : Nat} {v : Int32} (d : decode (ic M) pc = .ok (.ldc_w index, 3)) (hc : Cond.constant (iy M).cls index v ∈ tbG) (k : GX Ω M J (pc + 3) ls (.int v :: st) σ) : GX Ω M J pc ls st σ := by
  intro B D cA p l e s m args below meth c H locs la C hE hP hS hl
  obtain ⟨hx, hb, hml, hown, hret, hlocks, hts, hK, hNs⟩ := C
  exact lv_ldcw hx hb hown (hts _ hc) d (k B D cA p l e s m args below meth c H locs la ⟨hx, hb, hml, hown, hret, hlocks, hts, hK, hNs⟩ hE hP hS hl)
theorem xg_ldc2 {index : Nat} {v : Int64} (d : decode (ic M) pc = .ok (.ldc2_w index, 3)) (hc : Cond.constantLong (iy M).cls index v ∈ tbG) (k : GX Ω M J (pc + 3) ls (.long v :: st) σ) : GX Ω M J pc ls st σ := by
  intro B D cA p l e s m args below meth c H locs la C hE hP hS hl
  obtain ⟨hx, hb, hml, hown, hret, hlocks, hts, hK, hNs⟩ := C
  exact lv_ldc2 hx hb hown (hts _ hc) d (k B D cA p l e s m args below meth c H locs la ⟨hx, hb, hml, hown, hret, hlocks, hts, hK, hNs⟩ hE hP hS hl)
theorem xg_getI {idx a ci n k : Nat} {v : Int32} (d : decode (ic M) pc = .ok (.getfield idx, 3)) (f : FL (iy M).cls idx ci k) (ha : kw Ω a = (ci, n)) (hq : ci < 20 ∧ k < n ∧ isR ci k = false) (hv : σ.1 a k = v) (k0 : GX Ω M J (pc + 3) ls (.int v :: st) σ) : GX Ω M J pc ls (.ref a :: st) σ := by
  subst hv
  intro B D cA p l e s m args below meth c H locs la C hE hP hS hl
  obtain ⟨hx, hb, hml, hown, hret, hlocks, hts, hK, hNs⟩ := C
  obtain ⟨C, T, N, hc, hN, hin, hlk⟩ := f
  obtain ⟨h1, h2, h3⟩ := kw_in ha (by show ci ≠ 99; omega)
  refine va_get (fs := (List.range n).map (fval B σ a ci)) hx hb hts hin hown hK hP (a - Ω.1) (by rw [wld_at h1 h2, ent_obj h3 hq.1]) hc k hN (hts _ hlk) (fun _ h9 => h9) (v := .int (σ.1 a k)) (by rw [fval_at hq.2.1]; unfold fval; rw [hq.2.2]; rfl) d ?_
  exact k0 B D cA p l e s m args below meth c H locs la ⟨hx, hb, hml, hown, hret, hlocks, hts, hK, hNs⟩ hE hP hS hl
theorem xg_getR {idx a ci n k r : Nat} (d : decode (ic M) pc = .ok (.getfield idx, 3)) (f : FL (iy M).cls idx ci k) (ha : kw Ω a = (ci, n)) (hq : ci < 20 ∧ k < n ∧ isR ci k = true) (hv : rf a k = r) (k0 : GX Ω M J (pc + 3) ls (.ref r :: st) σ) : GX Ω M J pc ls (.ref a :: st) σ := by
  subst hv
  intro B D cA p l e s m args below meth c H locs la C hE hP hS hl
  obtain ⟨hx, hb, hml, hown, hret, hlocks, hts, hK, hNs⟩ := C
  obtain ⟨C, T, N, hc, hN, hin, hlk⟩ := f
  obtain ⟨h1, h2, h3⟩ := kw_in ha (by show ci ≠ 99; omega)
  refine va_get (fs := (List.range n).map (fval B σ a ci)) hx hb hts hin hown hK hP (a - Ω.1) (by rw [wld_at h1 h2, ent_obj h3 hq.1]) hc k hN (hts _ hlk) (fun _ h9 => h9) (v := .ref (B + rf a k)) (by rw [fval_at hq.2.1]; unfold fval; rw [hq.2.2]; rfl) d ?_
  exact k0 B D cA p l e s m args below meth c H locs la ⟨hx, hb, hml, hown, hret, hlocks, hts, hK, hNs⟩ hE hP hS hl
theorem xg_putI {idx a ci n k : Nat} {x : Int32} {ty : FieldType} (d : decode (ic M) pc = .ok (.putfield idx, 3)) (f : FP (iy M).cls idx ci k ty) (ha : kw Ω a = (ci, n)) (hq : ci < 20 ∧ k < n ∧ isR ci k = false) (hty : ty = .int ∨ (ty = .boolean ∧ (x = 0 ∨ x = 1))) (k0 : GX Ω M J (pc + 3) ls st (wI σ a k x)) : GX Ω M J pc ls (.int x :: .ref a :: st) σ := by
  intro B D cA p l e s m args below meth c H locs la C hE hP hS hl
  obtain ⟨hx, hb, hml, hown, hret, hlocks, hts, hK, hNs⟩ := C
  obtain ⟨C, T, N, ty0, hc, hN, hin, hlk, hty0, hnm, hfin, hpd⟩ := f
  obtain ⟨h1, h2, h3⟩ := kw_in ha (by show ci ≠ 99; omega)
  have hnar : narrow ty (.int x) = .int x := by rcases hty with rfl | ⟨rfl, rfl | rfl⟩ <;> first | rfl | decide
  have hfit : fits ty (.int x) = true := by rcases hty with rfl | ⟨rfl, rfl | rfl⟩ <;> first | rfl | decide
  refine va_put (fs := (List.range n).map (fval B σ a ci)) hx hb hts hin ty0 hty0 hnm hown hK hP wld_D hS (a - Ω.1) (by rw [wld_at h1 h2, ent_obj h3 hq.1]) hc k hN (hts _ hlk) (fun _ h9 => h9) hfin hpd (v := .int x) hnar hfit (by simpa using hq.2.1) d (fun H1 locs1 hP1 hD1 hS1 => ?_)
  rw [wld_set (σ' := wI σ a k x) h1 h2 (by rw [ent_obj h3 hq.1, ← fval_set hq.2.2]) (fun b hb2 => ent_wI hb2)] at hP1
  exact k0 B D cA p l e s m args below meth c H1 locs1 la ⟨hx, hb, hml, hown, hret, hlocks, hts, hK, hNs⟩ hE hP1 hS1 hl
theorem xg_iald {a n j : Nat} {v : Int32} (d : decode (ic M) pc = .ok (.iaload, 1)) (ha : kw Ω a = (20, n)) (hj : j < n) (hv : σ.1 a j = v) (k : GX Ω M J (pc + 1) ls (.int v :: st) σ) : GX Ω M J pc ls (.int (nI j) :: .ref a :: st) σ := by
  subst hv
  intro B D cA p l e s m args below meth c H locs la C hE hP hS hl
  obtain ⟨hx, hb, hml, hown, hret, hlocks, hts, hK, hNs⟩ := C
  obtain ⟨h1, h2, h3⟩ := kw_in ha (by simp)
  obtain ⟨e1, e2⟩ := ix_in h3 hj
  refine va_iald hx hb hK hP (a - Ω.1) 0 (by rw [wld_at h1 h2, ent_int h3 (by decide)]) rfl e1 d ?_
  rw [e2]
  exact (k B D cA p l e s m args below meth c H locs la ⟨hx, hb, hml, hown, hret, hlocks, hts, hK, hNs⟩ hE hP hS hl)
theorem xg_zald {a n j : Nat} {v : Int32} (d : decode (ic M) pc = .ok (.baload, 1)) (ha : kw Ω a = (22, n)) (hj : j < n) (hv : σ.1 a j = v) (k : GX Ω M J (pc + 1) ls (.int v :: st) σ) : GX Ω M J pc ls (.int (nI j) :: .ref a :: st) σ := by
  subst hv
  intro B D cA p l e s m args below meth c H locs la C hE hP hS hl
  obtain ⟨hx, hb, hml, hown, hret, hlocks, hts, hK, hNs⟩ := C
  obtain ⟨h1, h2, h3⟩ := kw_in ha (by simp)
  obtain ⟨e1, e2⟩ := ix_in h3 hj
  refine va_zald hx hb hK hP (a - Ω.1) 2 (by rw [wld_at h1 h2, ent_int h3 (by decide)]) rfl e1 d ?_
  rw [e2]
  exact (k B D cA p l e s m args below meth c H locs la ⟨hx, hb, hml, hown, hret, hlocks, hts, hK, hNs⟩ hE hP hS hl)
theorem xg_bald {a n j : Nat} {v : Int32} (d : decode (ic M) pc = .ok (.baload, 1)) (ha : kw Ω a = (23, n)) (hj : j < n) (hv : σ.1 a j = v) (k : GX Ω M J (pc + 1) ls (.int v :: st) σ) : GX Ω M J pc ls (.int (nI j) :: .ref a :: st) σ := by
  subst hv
  intro B D cA p l e s m args below meth c H locs la C hE hP hS hl
  obtain ⟨hx, hb, hml, hown, hret, hlocks, hts, hK, hNs⟩ := C
  obtain ⟨h1, h2, h3⟩ := kw_in ha (by simp)
  obtain ⟨e1, e2⟩ := ix_in h3 hj
  refine va_bald hx hb hK hP (a - Ω.1) 3 (by rw [wld_at h1 h2, ent_int h3 (by decide)]) rfl e1 d ?_
  rw [e2]
  exact (k B D cA p l e s m args below meth c H locs la ⟨hx, hb, hml, hown, hret, hlocks, hts, hK, hNs⟩ hE hP hS hl)
theorem xg_lald {a n j : Nat} {v : Int64} (d : decode (ic M) pc = .ok (.laload, 1)) (ha : kw Ω a = (21, n)) (hj : j < n) (hv : σ.2 a j = v) (k : GX Ω M J (pc + 1) ls (.long v :: st) σ) : GX Ω M J pc ls (.int (nI j) :: .ref a :: st) σ := by
  subst hv
  intro B D cA p l e s m args below meth c H locs la C hE hP hS hl
  obtain ⟨hx, hb, hml, hown, hret, hlocks, hts, hK, hNs⟩ := C
  obtain ⟨h1, h2, h3⟩ := kw_in ha (by simp)
  obtain ⟨e1, e2⟩ := ix_in h3 hj
  refine va_lald hx hb hK hP (a - Ω.1) 1 (by rw [wld_at h1 h2, ent_long h3]) rfl e1 d ?_
  rw [e2]
  exact (k B D cA p l e s m args below meth c H locs la ⟨hx, hb, hml, hown, hret, hlocks, hts, hK, hNs⟩ hE hP hS hl)
theorem xg_aald24 {a n j r : Nat} (d : decode (ic M) pc = .ok (.aaload, 1)) (ha : kw Ω a = (24, n)) (hj : j < n) (hv : rf a j = r) (k : GX Ω M J (pc + 1) ls (.ref r :: st) σ) : GX Ω M J pc ls (.int (nI j) :: .ref a :: st) σ := by
  subst hv
  intro B D cA p l e s m args below meth c H locs la C hE hP hS hl
  obtain ⟨hx, hb, hml, hown, hret, hlocks, hts, hK, hNs⟩ := C
  obtain ⟨h1, h2, h3⟩ := kw_in ha (by simp)
  obtain ⟨e1, e2⟩ := ix_in h3 hj
  refine va_aldq (C := "FarCells$Page") hx hb hK hP (a - Ω.1) 4 (by rw [wld_at h1 h2, ent_ref h3 (by decide)]) rfl e1 d ?_
  rw [e2]
  exact (k B D cA p l e s m args below meth c H locs la ⟨hx, hb, hml, hown, hret, hlocks, hts, hK, hNs⟩ hE hP hS hl)
theorem xg_aald25 {a n j r : Nat} (d : decode (ic M) pc = .ok (.aaload, 1)) (ha : kw Ω a = (25, n)) (hj : j < n) (hv : rf a j = r) (k : GX Ω M J (pc + 1) ls (.ref r :: st) σ) : GX Ω M J pc ls (.int (nI j) :: .ref a :: st) σ := by
  subst hv
  intro B D cA p l e s m args below meth c H locs la C hE hP hS hl
  obtain ⟨hx, hb, hml, hown, hret, hlocks, hts, hK, hNs⟩ := C
  obtain ⟨h1, h2, h3⟩ := kw_in ha (by simp)
  obtain ⟨e1, e2⟩ := ix_in h3 hj
  refine va_aldq (C := "FarCells$Script") hx hb hK hP (a - Ω.1) 5 (by rw [wld_at h1 h2, ent_ref h3 (by decide)]) rfl e1 d ?_
  rw [e2]
  exact (k B D cA p l e s m args below meth c H locs la ⟨hx, hb, hml, hown, hret, hlocks, hts, hK, hNs⟩ hE hP hS hl)
theorem xg_aald26 {a n j r : Nat} (d : decode (ic M) pc = .ok (.aaload, 1)) (ha : kw Ω a = (26, n)) (hj : j < n) (hv : rf a j = r) (k : GX Ω M J (pc + 1) ls (.ref r :: st) σ) : GX Ω M J pc ls (.int (nI j) :: .ref a :: st) σ := by
  subst hv
  intro B D cA p l e s m args below meth c H locs la C hE hP hS hl
  obtain ⟨hx, hb, hml, hown, hret, hlocks, hts, hK, hNs⟩ := C
  obtain ⟨h1, h2, h3⟩ := kw_in ha (by simp)
  obtain ⟨e1, e2⟩ := ix_in h3 hj
  refine va_aldq (C := "FarCells$Shelf") hx hb hK hP (a - Ω.1) 6 (by rw [wld_at h1 h2, ent_ref h3 (by decide)]) rfl e1 d ?_
  rw [e2]
  exact (k B D cA p l e s m args below meth c H locs la ⟨hx, hb, hml, hown, hret, hlocks, hts, hK, hNs⟩ hE hP hS hl)
theorem xg_aald27 {a n j r : Nat} (d : decode (ic M) pc = .ok (.aaload, 1)) (ha : kw Ω a = (27, n)) (hj : j < n) (hv : rf a j = r) (k : GX Ω M J (pc + 1) ls (.ref r :: st) σ) : GX Ω M J pc ls (.int (nI j) :: .ref a :: st) σ := by
  subst hv
  intro B D cA p l e s m args below meth c H locs la C hE hP hS hl
  obtain ⟨hx, hb, hml, hown, hret, hlocks, hts, hK, hNs⟩ := C
  obtain ⟨h1, h2, h3⟩ := kw_in ha (by simp)
  obtain ⟨e1, e2⟩ := ix_in h3 hj
  refine va_aldq (C := "FarCells$Worker") hx hb hK hP (a - Ω.1) 7 (by rw [wld_at h1 h2, ent_ref h3 (by decide)]) rfl e1 d ?_
  rw [e2]
  exact (k B D cA p l e s m args below meth c H locs la ⟨hx, hb, hml, hown, hret, hlocks, hts, hK, hNs⟩ hE hP hS hl)
theorem xg_iast {a n j : Nat} {x : Int32} (d : decode (ic M) pc = .ok (.iastore, 1)) (ha : kw Ω a = (20, n)) (hj : j < n) (k : GX Ω M J (pc + 1) ls st (wI σ a j x)) : GX Ω M J pc ls (.int x :: .int (nI j) :: .ref a :: st) σ := by
  intro B D cA p l e s m args below meth c H locs la C hE hP hS hl
  obtain ⟨hx, hb, hml, hown, hret, hlocks, hts, hK, hNs⟩ := C
  obtain ⟨h1, h2, h3⟩ := kw_in ha (by simp)
  obtain ⟨e1, e2⟩ := ix_in h3 hj
  refine va_iast hx hb hK hP wld_D hS (a - Ω.1) 0 (by rw [wld_at h1 h2, ent_int h3 (by decide)]) rfl e1 d (fun H1 locs1 hP1 hD1 hS1 => ?_)
  rw [e2, wld_set (σ' := wI σ a j x) h1 h2 (by rw [ent_int h3 (by decide)]; simp only [wI, if_true]) (fun b hb2 => ent_wI hb2)] at hP1
  exact k B D cA p l e s m args below meth c H1 locs1 la ⟨hx, hb, hml, hown, hret, hlocks, hts, hK, hNs⟩ hE hP1 hS1 hl
theorem xg_zast {a n j : Nat} {x : Int32} (d : decode (ic M) pc = .ok (.bastore, 1)) (ha : kw Ω a = (22, n)) (hj : j < n) (hx1 : x = 0 ∨ x = 1) (k : GX Ω M J (pc + 1) ls st (wI σ a j x)) : GX Ω M J pc ls (.int x :: .int (nI j) :: .ref a :: st) σ := by
  intro B D cA p l e s m args below meth c H locs la C hE hP hS hl
  obtain ⟨hx, hb, hml, hown, hret, hlocks, hts, hK, hNs⟩ := C
  obtain ⟨h1, h2, h3⟩ := kw_in ha (by simp)
  obtain ⟨e1, e2⟩ := ix_in h3 hj
  refine va_zast hx hb hK hP wld_D hS (a - Ω.1) 2 (by rw [wld_at h1 h2, ent_int h3 (by decide)]) rfl e1 d (fun H1 locs1 hP1 hD1 hS1 => ?_)
  rw [e2, show vp_nar .boolean x = x by rcases hx1 with rfl | rfl <;> decide, wld_set (σ' := wI σ a j x) h1 h2 (by rw [ent_int h3 (by decide)]; simp only [wI, if_true]) (fun b hb2 => ent_wI hb2)] at hP1
  exact k B D cA p l e s m args below meth c H1 locs1 la ⟨hx, hb, hml, hown, hret, hlocks, hts, hK, hNs⟩ hE hP1 hS1 hl
theorem xg_bast {a n j : Nat} {x : Int32} (d : decode (ic M) pc = .ok (.bastore, 1)) (ha : kw Ω a = (23, n)) (hj : j < n) (hx1 : vp_nar .byte x = x) (k : GX Ω M J (pc + 1) ls st (wI σ a j x)) : GX Ω M J pc ls (.int x :: .int (nI j) :: .ref a :: st) σ := by
  intro B D cA p l e s m args below meth c H locs la C hE hP hS hl
  obtain ⟨hx, hb, hml, hown, hret, hlocks, hts, hK, hNs⟩ := C
  obtain ⟨h1, h2, h3⟩ := kw_in ha (by simp)
  obtain ⟨e1, e2⟩ := ix_in h3 hj
  refine va_bast hx hb hK hP wld_D hS (a - Ω.1) 3 (by rw [wld_at h1 h2, ent_int h3 (by decide)]) rfl e1 d (fun H1 locs1 hP1 hD1 hS1 => ?_)
  rw [e2, hx1, wld_set (σ' := wI σ a j x) h1 h2 (by rw [ent_int h3 (by decide)]; simp only [wI, if_true]) (fun b hb2 => ent_wI hb2)] at hP1
  exact k B D cA p l e s m args below meth c H1 locs1 la ⟨hx, hb, hml, hown, hret, hlocks, hts, hK, hNs⟩ hE hP1 hS1 hl
theorem xg_last {a n j : Nat} {x : Int64} (d : decode (ic M) pc = .ok (.lastore, 1)) (ha : kw Ω a = (21, n)) (hj : j < n) (k : GX Ω M J (pc + 1) ls st (wL σ a j x)) : GX Ω M J pc ls (.long x :: .int (nI j) :: .ref a :: st) σ := by
  intro B D cA p l e s m args below meth c H locs la C hE hP hS hl
  obtain ⟨hx, hb, hml, hown, hret, hlocks, hts, hK, hNs⟩ := C
  obtain ⟨h1, h2, h3⟩ := kw_in ha (by simp)
  obtain ⟨e1, e2⟩ := ix_in h3 hj
  refine va_last hx hb hK hP wld_D hS (a - Ω.1) 1 (by rw [wld_at h1 h2, ent_long h3]) rfl e1 d (fun H1 locs1 hP1 hD1 hS1 => ?_)
  rw [e2, wld_set (σ' := wL σ a j x) h1 h2 (by rw [ent_long h3]; simp only [wL, if_true]) (fun b hb2 => ent_wL hb2)] at hP1
  exact k B D cA p l e s m args below meth c H1 locs1 la ⟨hx, hb, hml, hown, hret, hlocks, hts, hK, hNs⟩ hE hP1 hS1 hl
theorem xg_alenI {a n : Nat} {v : Int32} (d : decode (ic M) pc = .ok (.arraylength, 1)) (ha : kw Ω a = (20, n)) (hv : nI n = v) (k : GX Ω M J (pc + 1) ls (.int v :: st) σ) : GX Ω M J pc ls (.ref a :: st) σ := by
  intro B D cA p l e s m args below meth c H locs la C hE hP hS hl
  obtain ⟨hx, hb, hml, hown, hret, hlocks, hts, hK, hNs⟩ := C
  obtain ⟨h1, h2, h3⟩ := kw_in ha (by simp)
  exact va_alen (x := (n, .inl (σ.1 a))) (ty := .int) hx hb hK hP (a - Ω.1) 0 (by rw [wld_at h1 h2, ent_int h3 (by decide)]) rfl hv d (k B D cA p l e s m args below meth c H locs la ⟨hx, hb, hml, hown, hret, hlocks, hts, hK, hNs⟩ hE hP hS hl)
theorem xg_alenB {a n : Nat} {v : Int32} (d : decode (ic M) pc = .ok (.arraylength, 1)) (ha : kw Ω a = (23, n)) (hv : nI n = v) (k : GX Ω M J (pc + 1) ls (.int v :: st) σ) : GX Ω M J pc ls (.ref a :: st) σ := by
  intro B D cA p l e s m args below meth c H locs la C hE hP hS hl
  obtain ⟨hx, hb, hml, hown, hret, hlocks, hts, hK, hNs⟩ := C
  obtain ⟨h1, h2, h3⟩ := kw_in ha (by simp)
  exact va_alen (x := (n, .inl (σ.1 a))) (ty := .byte) hx hb hK hP (a - Ω.1) 3 (by rw [wld_at h1 h2, ent_int h3 (by decide)]) rfl hv d (k B D cA p l e s m args below meth c H locs la ⟨hx, hb, hml, hown, hret, hlocks, hts, hK, hNs⟩ hE hP hS hl)
end
section
variable {Ω : Nat × Nat} {M N : MI} {J : JX} {K' : Option Value → Mm → Prop} {pc idx n : Nat} {ls : List (Option Value)} {rest st As : List Value} {σ : Mm}
theorem xg_call {p : Program} {l : Launch} {e : Env} {s : State} {m : MethodId} {args : Array Value} {below : List Frame} {meth : Method} {c : Code} {H : Heap} {locs : List Loc} {la : Array Slot} {B : Nat} {D : va_G} {cA : Nat → ClassId} {st0 : List Value} {a : Array Value}
    (C : Cx M D cA p s m args meth c) (hE : J.2.1 B l s c args) (hS : va_S (fun q => B + Ω.1 ≤ q) s.heap H locs) (hl : lvR B la (il M) ls)
    (hr : va_Run p l e (rmX M J.1.1) s m args below meth c H locs J.1.2.1 J.1.2.2 0 0 (F0 m pc la st0) (rest.map (cv B)) (QK Ω B D cA K' a) (fun q => B + Ω.1 ≤ q))
    (k : ∀ v σ', K' v σ' → GX Ω M J (pc + 3) ls (v.toList ++ rest) σ') : W p l e (rmX M J.1.1) s m args below meth c H locs J.1.2.1 J.1.2.2 (vx_MQ below (QK Ω B D cA J.2.2.1) (QX Ω B D cA J.2.2.2) args s J.1.1.1 J.1.1.2 (fun q => B + Ω.1 ≤ q)) (F0 m pc la st0) := by
  intro T hT X
  obtain ⟨v, st₀, t, T', L, h0, X', hL, e1, e2, ⟨⟨v1, σ', hv, hk, hP1⟩, hz, hkk⟩, stp⟩ := hr T hT X
  cases hv
  rw [h0] at hz hkk
  have hS1 : va_S (fun q => B + Ω.1 ≤ q) s.heap T'.heap (locs ++ L) := ⟨Nat.le_trans hS.1 (by rw [e1]; exact hz), fun q h1 h2 => by rw [e1, hkk q (Nat.lt_of_lt_of_le h1 hS.1) h2]; exact hS.2.1 q h1 h2, fun q hq => by
      rcases List.mem_append.mp hq with h | h
      · exact hS.2.2 q h
      · exact hL q h⟩
  obtain ⟨t2, a1, b1⟩ := k v1 σ' hk B D cA p l e s m args below meth c T'.heap (locs ++ L) la C hE (by rw [e1]; exact hP1) hS1 hl T' rfl X'
  refine ⟨t2, stp t2 ?_, b1⟩
  have hh : (v1.map (cv B)).toList ++ rest.map (cv B) = (v1.toList ++ rest).map (cv B) := by cases v1 <;> rfl
  rw [hh]
  exact a1
theorem xg_callV {ci nf a : Nat} (d : decode (ic M) pc = .ok (.invokevirtual idx, 3)) (lk : lkV (iy M).cls idx N ci n) (hfit : fitR M N = true) (hcap : J.1.2.1 ≤ J.1.1.1 ∧ J.1.2.2 ≤ J.1.1.2) (ha : kw Ω a = (ci, nf)) (hci : ci < 20) (hn : As.length = n) (hst : (rest.map fun v => v.category).sum ≤ 8)
    (hM : MetM Ω N (.ref a :: As) σ K') (k : ∀ v σ', K' v σ' → GX Ω M J (pc + 3) ls (v.toList ++ rest) σ') : GX Ω M J pc ls (As.reverse ++ .ref a :: rest) σ := by
  intro B D cA p l e s m args below meth c H locs la C hE hP hS hl
  have C0 := C
  obtain ⟨hx, hb, hml, hown, hret, hlocks, hts, hK, hNs⟩ := C
  obtain ⟨hlc, h1, h2, h3, q, hq, hqn⟩ := lk
  obtain ⟨g1, g2, g3⟩ := kw_in ha (by show ci ≠ 99; omega)
  have cb := callB_of (R := rmX M J.1.1) (s := s) (args := args) (own := (iy M).cls) (index := idx) (rm := rmM N) (mc := 0) (ms := 0) n hts (wsM_good hlc) rfl rfl rfl (hts _ hlc.2.1) (hts _ h1) hlc.2.2 (fitR_spec hfit)
  have hrec := va_recv hK hP (ci := ci) (q0 := a - Ω.1) (a := B + a) hq (by rw [wld_at g1 g2, ent_obj g3 hci])
  rw [hqn] at hrec
  have hs : (As.reverse ++ .ref a :: rest).map (cv B) = (As.map (cv B)).reverse ++ .ref (B + a) :: rest.map (cv B) := by
    rw [List.map_append, List.map_reverse]; rfl
  rw [hs]
  exact xg_call C0 hE hS hl (va_runV (C := (iy N).cls) (b := B + a) (As := As.map (cv B)) ⟨hx, hb, hml, hown, hts⟩ (hM l B D cA) ⟨cb, hts _ h2, hts _ h3⟩ ⟨pre_blind, hrec, pre_hold (av := .ref a :: As) hP hK hNs⟩ rfl (by rw [List.length_map]; exact hn) hl.1 rfl (lv_room (by rw [sum_cat]; exact hst)) d hcap) k
theorem xg_callS (d : decode (ic M) pc = .ok (.invokestatic idx, 3)) (lk : lkS (iy M).cls idx N n) (hfit : fitR M N = true) (hcap : J.1.2.1 ≤ J.1.1.1 ∧ J.1.2.2 ≤ J.1.1.2) (hn : As.length = n) (hst : (rest.map fun v => v.category).sum ≤ 8)
    (hM : MetM Ω N As σ K') (k : ∀ v σ', K' v σ' → GX Ω M J (pc + 3) ls (v.toList ++ rest) σ') : GX Ω M J pc ls (As.reverse ++ rest) σ := by
  intro B D cA p l e s m args below meth c H locs la C hE hP hS hl
  have C0 := C
  obtain ⟨hx, hb, hml, hown, hret, hlocks, hts, hK, hNs⟩ := C
  obtain ⟨hlc, h1, h2⟩ := lk
  have cb := callB_of (R := rmX M J.1.1) (s := s) (args := args) (own := (iy M).cls) (index := idx) (rm := rmM N) (mc := 0) (ms := 0) n hts (wsM_good hlc) rfl rfl rfl (hts _ hlc.2.1) (hts _ h1) hlc.2.2 (fitR_spec hfit)
  have hs : (As.reverse ++ rest).map (cv B) = (As.map (cv B)).reverse ++ rest.map (cv B) := by
    rw [List.map_append, List.map_reverse]
  rw [hs]
  exact xg_call C0 hE hS hl (va_runS (As := As.map (cv B)) ⟨hx, hb, hml, hown, hts⟩ (hM l B D cA) ⟨cb, hts _ h2⟩ ⟨pre_blind, pre_hold (av := As) hP hK hNs⟩ rfl (by rw [List.length_map]; exact hn) hl.1 rfl (lv_room (by rw [sum_cat]; exact hst)) d hcap) k
theorem xg_callN {host : String} (d : decode (ic M) pc = .ok (.invokestatic idx, 3)) (lk : lkN (iy M).cls idx N host n) (hfit : fitR M N = true) (hcap : J.1.2.1 ≤ J.1.1.1 ∧ J.1.2.2 ≤ J.1.1.2) (hn : As.length = n) (hst : (rest.map fun v => v.category).sum ≤ 8)
    (hM : MetM Ω N As σ K') (k : ∀ v σ', K' v σ' → GX Ω M J (pc + 3) ls (v.toList ++ rest) σ') : GX Ω M J pc ls (As.reverse ++ rest) σ := by
  intro B D cA p l e s m args below meth c H locs la C hE hP hS hl
  have C0 := C
  obtain ⟨hx, hb, hml, hown, hret, hlocks, hts, hK, hNs⟩ := C
  obtain ⟨hlc, h1, h2⟩ := lk
  have cb := va_cnB (R := rmX M J.1.1) (s := s) (args := args) (own := (iy M).cls) (index := idx) (host := host) (rm := rmM N) (mc := 0) (ms := 0) n hts (wsM_good hlc) rfl rfl rfl (hNs _ h1) (hts _ hlc.2.1) hlc.2.2 (fitR_spec hfit)
  have hs : (As.reverse ++ rest).map (cv B) = (As.map (cv B)).reverse ++ rest.map (cv B) := by
    rw [List.map_append, List.map_reverse]
  rw [hs]
  exact xg_call C0 hE hS hl (va_runSN (As := As.map (cv B)) ⟨hx, hb, hml, hown, hts⟩ (hM l B D cA) ⟨cb, hts _ h2, trivial⟩ ⟨pre_blind, pre_hold (av := As) hP hK hNs⟩ rfl (by rw [List.length_map]; exact hn) hl.1 rfl (lv_room (by rw [sum_cat]; exact hst)) d hcap) k
theorem xg_cVI0 {ci nf a : Nat} {P : Int32 → Mm → Prop} (d : decode (ic M) pc = .ok (.invokevirtual idx, 3)) (lk : lkV (iy M).cls idx N ci 0) (hfit : fitR M N = true) (hcap : J.1.2.1 ≤ J.1.1.1 ∧ J.1.2.2 ≤ J.1.1.2) (ha : kw Ω a = (ci, nf)) (hci : ci < 20) (hst : (st.map fun v => v.category).sum ≤ 8) (hM : RI Ω N [.ref a] σ P) (k : ∀ r τ, P r τ → GX Ω M J (pc + 3) ls (.int r :: st) τ) : GX Ω M J pc ls (.ref a :: st) σ := xg_callV (As := []) d lk hfit hcap ha hci rfl hst hM (fun v τ h => by obtain ⟨r, rfl, h⟩ := h; exact k r τ h)
theorem xg_cVV0 {ci nf a : Nat} {P : Mm → Prop} (d : decode (ic M) pc = .ok (.invokevirtual idx, 3)) (lk : lkV (iy M).cls idx N ci 0) (hfit : fitR M N = true) (hcap : J.1.2.1 ≤ J.1.1.1 ∧ J.1.2.2 ≤ J.1.1.2) (ha : kw Ω a = (ci, nf)) (hci : ci < 20) (hst : (st.map fun v => v.category).sum ≤ 8) (hM : RV Ω N [.ref a] σ P) (k : ∀ τ, P τ → GX Ω M J (pc + 3) ls st τ) : GX Ω M J pc ls (.ref a :: st) σ := xg_callV (As := []) d lk hfit hcap ha hci rfl hst hM (fun v τ h => by obtain ⟨rfl, h⟩ := h; exact k τ h)
theorem xg_cVL0 {ci nf a : Nat} {P : Int64 → Mm → Prop} (d : decode (ic M) pc = .ok (.invokevirtual idx, 3)) (lk : lkV (iy M).cls idx N ci 0) (hfit : fitR M N = true) (hcap : J.1.2.1 ≤ J.1.1.1 ∧ J.1.2.2 ≤ J.1.1.2) (ha : kw Ω a = (ci, nf)) (hci : ci < 20) (hst : (st.map fun v => v.category).sum ≤ 8) (hM : RL_ Ω N [.ref a] σ P) (k : ∀ r τ, P r τ → GX Ω M J (pc + 3) ls (.long r :: st) τ) : GX Ω M J pc ls (.ref a :: st) σ := xg_callV (As := []) d lk hfit hcap ha hci rfl hst hM (fun v τ h => by obtain ⟨r, rfl, h⟩ := h; exact k r τ h)
theorem xg_cVI1 {ci nf a : Nat} {x1 : Value} {P : Int32 → Mm → Prop} (d : decode (ic M) pc = .ok (.invokevirtual idx, 3)) (lk : lkV (iy M).cls idx N ci 1) (hfit : fitR M N = true) (hcap : J.1.2.1 ≤ J.1.1.1 ∧ J.1.2.2 ≤ J.1.1.2) (ha : kw Ω a = (ci, nf)) (hci : ci < 20) (hst : (st.map fun v => v.category).sum ≤ 8) (hM : RI Ω N [.ref a, x1] σ P) (k : ∀ r τ, P r τ → GX Ω M J (pc + 3) ls (.int r :: st) τ) : GX Ω M J pc ls (x1 :: .ref a :: st) σ := xg_callV (As := [x1]) d lk hfit hcap ha hci rfl hst hM (fun v τ h => by obtain ⟨r, rfl, h⟩ := h; exact k r τ h)
theorem xg_cVV1 {ci nf a : Nat} {x1 : Value} {P : Mm → Prop} (d : decode (ic M) pc = .ok (.invokevirtual idx, 3)) (lk : lkV (iy M).cls idx N ci 1) (hfit : fitR M N = true) (hcap : J.1.2.1 ≤ J.1.1.1 ∧ J.1.2.2 ≤ J.1.1.2) (ha : kw Ω a = (ci, nf)) (hci : ci < 20) (hst : (st.map fun v => v.category).sum ≤ 8) (hM : RV Ω N [.ref a, x1] σ P) (k : ∀ τ, P τ → GX Ω M J (pc + 3) ls st τ) : GX Ω M J pc ls (x1 :: .ref a :: st) σ := xg_callV (As := [x1]) d lk hfit hcap ha hci rfl hst hM (fun v τ h => by obtain ⟨rfl, h⟩ := h; exact k τ h)
theorem xg_cVL1 {ci nf a : Nat} {x1 : Value} {P : Int64 → Mm → Prop} (d : decode (ic M) pc = .ok (.invokevirtual idx, 3)) (lk : lkV (iy M).cls idx N ci 1) (hfit : fitR M N = true) (hcap : J.1.2.1 ≤ J.1.1.1 ∧ J.1.2.2 ≤ J.1.1.2) (ha : kw Ω a = (ci, nf)) (hci : ci < 20) (hst : (st.map fun v => v.category).sum ≤ 8) (hM : RL_ Ω N [.ref a, x1] σ P) (k : ∀ r τ, P r τ → GX Ω M J (pc + 3) ls (.long r :: st) τ) : GX Ω M J pc ls (x1 :: .ref a :: st) σ := xg_callV (As := [x1]) d lk hfit hcap ha hci rfl hst hM (fun v τ h => by obtain ⟨r, rfl, h⟩ := h; exact k r τ h)
theorem xg_cVI2 {ci nf a : Nat} {x1 x2 : Value} {P : Int32 → Mm → Prop} (d : decode (ic M) pc = .ok (.invokevirtual idx, 3)) (lk : lkV (iy M).cls idx N ci 2) (hfit : fitR M N = true) (hcap : J.1.2.1 ≤ J.1.1.1 ∧ J.1.2.2 ≤ J.1.1.2) (ha : kw Ω a = (ci, nf)) (hci : ci < 20) (hst : (st.map fun v => v.category).sum ≤ 8) (hM : RI Ω N [.ref a, x1, x2] σ P) (k : ∀ r τ, P r τ → GX Ω M J (pc + 3) ls (.int r :: st) τ) : GX Ω M J pc ls (x2 :: x1 :: .ref a :: st) σ := xg_callV (As := [x1, x2]) d lk hfit hcap ha hci rfl hst hM (fun v τ h => by obtain ⟨r, rfl, h⟩ := h; exact k r τ h)
theorem xg_cVV2 {ci nf a : Nat} {x1 x2 : Value} {P : Mm → Prop} (d : decode (ic M) pc = .ok (.invokevirtual idx, 3)) (lk : lkV (iy M).cls idx N ci 2) (hfit : fitR M N = true) (hcap : J.1.2.1 ≤ J.1.1.1 ∧ J.1.2.2 ≤ J.1.1.2) (ha : kw Ω a = (ci, nf)) (hci : ci < 20) (hst : (st.map fun v => v.category).sum ≤ 8) (hM : RV Ω N [.ref a, x1, x2] σ P) (k : ∀ τ, P τ → GX Ω M J (pc + 3) ls st τ) : GX Ω M J pc ls (x2 :: x1 :: .ref a :: st) σ := xg_callV (As := [x1, x2]) d lk hfit hcap ha hci rfl hst hM (fun v τ h => by obtain ⟨rfl, h⟩ := h; exact k τ h)
theorem xg_cVL2 {ci nf a : Nat} {x1 x2 : Value} {P : Int64 → Mm → Prop} (d : decode (ic M) pc = .ok (.invokevirtual idx, 3)) (lk : lkV (iy M).cls idx N ci 2) (hfit : fitR M N = true) (hcap : J.1.2.1 ≤ J.1.1.1 ∧ J.1.2.2 ≤ J.1.1.2) (ha : kw Ω a = (ci, nf)) (hci : ci < 20) (hst : (st.map fun v => v.category).sum ≤ 8) (hM : RL_ Ω N [.ref a, x1, x2] σ P) (k : ∀ r τ, P r τ → GX Ω M J (pc + 3) ls (.long r :: st) τ) : GX Ω M J pc ls (x2 :: x1 :: .ref a :: st) σ := xg_callV (As := [x1, x2]) d lk hfit hcap ha hci rfl hst hM (fun v τ h => by obtain ⟨r, rfl, h⟩ := h; exact k r τ h)
theorem xg_cVI3 {ci nf a : Nat} {x1 x2 x3 : Value} {P : Int32 → Mm → Prop} (d : decode (ic M) pc = .ok (.invokevirtual idx, 3)) (lk : lkV (iy M).cls idx N ci 3) (hfit : fitR M N = true) (hcap : J.1.2.1 ≤ J.1.1.1 ∧ J.1.2.2 ≤ J.1.1.2) (ha : kw Ω a = (ci, nf)) (hci : ci < 20) (hst : (st.map fun v => v.category).sum ≤ 8) (hM : RI Ω N [.ref a, x1, x2, x3] σ P) (k : ∀ r τ, P r τ → GX Ω M J (pc + 3) ls (.int r :: st) τ) : GX Ω M J pc ls (x3 :: x2 :: x1 :: .ref a :: st) σ := xg_callV (As := [x1, x2, x3]) d lk hfit hcap ha hci rfl hst hM (fun v τ h => by obtain ⟨r, rfl, h⟩ := h; exact k r τ h)
theorem xg_cVV3 {ci nf a : Nat} {x1 x2 x3 : Value} {P : Mm → Prop} (d : decode (ic M) pc = .ok (.invokevirtual idx, 3)) (lk : lkV (iy M).cls idx N ci 3) (hfit : fitR M N = true) (hcap : J.1.2.1 ≤ J.1.1.1 ∧ J.1.2.2 ≤ J.1.1.2) (ha : kw Ω a = (ci, nf)) (hci : ci < 20) (hst : (st.map fun v => v.category).sum ≤ 8) (hM : RV Ω N [.ref a, x1, x2, x3] σ P) (k : ∀ τ, P τ → GX Ω M J (pc + 3) ls st τ) : GX Ω M J pc ls (x3 :: x2 :: x1 :: .ref a :: st) σ := xg_callV (As := [x1, x2, x3]) d lk hfit hcap ha hci rfl hst hM (fun v τ h => by obtain ⟨rfl, h⟩ := h; exact k τ h)
theorem xg_cVL3 {ci nf a : Nat} {x1 x2 x3 : Value} {P : Int64 → Mm → Prop} (d : decode (ic M) pc = .ok (.invokevirtual idx, 3)) (lk : lkV (iy M).cls idx N ci 3) (hfit : fitR M N = true) (hcap : J.1.2.1 ≤ J.1.1.1 ∧ J.1.2.2 ≤ J.1.1.2) (ha : kw Ω a = (ci, nf)) (hci : ci < 20) (hst : (st.map fun v => v.category).sum ≤ 8) (hM : RL_ Ω N [.ref a, x1, x2, x3] σ P) (k : ∀ r τ, P r τ → GX Ω M J (pc + 3) ls (.long r :: st) τ) : GX Ω M J pc ls (x3 :: x2 :: x1 :: .ref a :: st) σ := xg_callV (As := [x1, x2, x3]) d lk hfit hcap ha hci rfl hst hM (fun v τ h => by obtain ⟨r, rfl, h⟩ := h; exact k r τ h)
theorem xg_cVI4 {ci nf a : Nat} {x1 x2 x3 x4 : Value} {P : Int32 → Mm → Prop} (d : decode (ic M) pc = .ok (.invokevirtual idx, 3)) (lk : lkV (iy M).cls idx N ci 4) (hfit : fitR M N = true) (hcap : J.1.2.1 ≤ J.1.1.1 ∧ J.1.2.2 ≤ J.1.1.2) (ha : kw Ω a = (ci, nf)) (hci : ci < 20) (hst : (st.map fun v => v.category).sum ≤ 8) (hM : RI Ω N [.ref a, x1, x2, x3, x4] σ P) (k : ∀ r τ, P r τ → GX Ω M J (pc + 3) ls (.int r :: st) τ) : GX Ω M J pc ls (x4 :: x3 :: x2 :: x1 :: .ref a :: st) σ := xg_callV (As := [x1, x2, x3, x4]) d lk hfit hcap ha hci rfl hst hM (fun v τ h => by obtain ⟨r, rfl, h⟩ := h; exact k r τ h)
theorem xg_cVV4 {ci nf a : Nat} {x1 x2 x3 x4 : Value} {P : Mm → Prop} (d : decode (ic M) pc = .ok (.invokevirtual idx, 3)) (lk : lkV (iy M).cls idx N ci 4) (hfit : fitR M N = true) (hcap : J.1.2.1 ≤ J.1.1.1 ∧ J.1.2.2 ≤ J.1.1.2) (ha : kw Ω a = (ci, nf)) (hci : ci < 20) (hst : (st.map fun v => v.category).sum ≤ 8) (hM : RV Ω N [.ref a, x1, x2, x3, x4] σ P) (k : ∀ τ, P τ → GX Ω M J (pc + 3) ls st τ) : GX Ω M J pc ls (x4 :: x3 :: x2 :: x1 :: .ref a :: st) σ := xg_callV (As := [x1, x2, x3, x4]) d lk hfit hcap ha hci rfl hst hM (fun v τ h => by obtain ⟨rfl, h⟩ := h; exact k τ h)
theorem xg_cVL4 {ci nf a : Nat} {x1 x2 x3 x4 : Value} {P : Int64 → Mm → Prop} (d : decode (ic M) pc = .ok (.invokevirtual idx, 3)) (lk : lkV (iy M).cls idx N ci 4) (hfit : fitR M N = true) (hcap : J.1.2.1 ≤ J.1.1.1 ∧ J.1.2.2 ≤ J.1.1.2) (ha : kw Ω a = (ci, nf)) (hci : ci < 20) (hst : (st.map fun v => v.category).sum ≤ 8) (hM : RL_ Ω N [.ref a, x1, x2, x3, x4] σ P) (k : ∀ r τ, P r τ → GX Ω M J (pc + 3) ls (.long r :: st) τ) : GX Ω M J pc ls (x4 :: x3 :: x2 :: x1 :: .ref a :: st) σ := xg_callV (As := [x1, x2, x3, x4]) d lk hfit hcap ha hci rfl hst hM (fun v τ h => by obtain ⟨r, rfl, h⟩ := h; exact k r τ h)
theorem xg_cVI5 {ci nf a : Nat} {x1 x2 x3 x4 x5 : Value} {P : Int32 → Mm → Prop} (d : decode (ic M) pc = .ok (.invokevirtual idx, 3)) (lk : lkV (iy M).cls idx N ci 5) (hfit : fitR M N = true) (hcap : J.1.2.1 ≤ J.1.1.1 ∧ J.1.2.2 ≤ J.1.1.2) (ha : kw Ω a = (ci, nf)) (hci : ci < 20) (hst : (st.map fun v => v.category).sum ≤ 8) (hM : RI Ω N [.ref a, x1, x2, x3, x4, x5] σ P) (k : ∀ r τ, P r τ → GX Ω M J (pc + 3) ls (.int r :: st) τ) : GX Ω M J pc ls (x5 :: x4 :: x3 :: x2 :: x1 :: .ref a :: st) σ := xg_callV (As := [x1, x2, x3, x4, x5]) d lk hfit hcap ha hci rfl hst hM (fun v τ h => by obtain ⟨r, rfl, h⟩ := h; exact k r τ h)
theorem xg_cVV5 {ci nf a : Nat} {x1 x2 x3 x4 x5 : Value} {P : Mm → Prop} (d : decode (ic M) pc = .ok (.invokevirtual idx, 3)) (lk : lkV (iy M).cls idx N ci 5) (hfit : fitR M N = true) (hcap : J.1.2.1 ≤ J.1.1.1 ∧ J.1.2.2 ≤ J.1.1.2) (ha : kw Ω a = (ci, nf)) (hci : ci < 20) (hst : (st.map fun v => v.category).sum ≤ 8) (hM : RV Ω N [.ref a, x1, x2, x3, x4, x5] σ P) (k : ∀ τ, P τ → GX Ω M J (pc + 3) ls st τ) : GX Ω M J pc ls (x5 :: x4 :: x3 :: x2 :: x1 :: .ref a :: st) σ := xg_callV (As := [x1, x2, x3, x4, x5]) d lk hfit hcap ha hci rfl hst hM (fun v τ h => by obtain ⟨rfl, h⟩ := h; exact k τ h)
theorem xg_cVL5 {ci nf a : Nat} {x1 x2 x3 x4 x5 : Value} {P : Int64 → Mm → Prop} (d : decode (ic M) pc = .ok (.invokevirtual idx, 3)) (lk : lkV (iy M).cls idx N ci 5) (hfit : fitR M N = true) (hcap : J.1.2.1 ≤ J.1.1.1 ∧ J.1.2.2 ≤ J.1.1.2) (ha : kw Ω a = (ci, nf)) (hci : ci < 20) (hst : (st.map fun v => v.category).sum ≤ 8) (hM : RL_ Ω N [.ref a, x1, x2, x3, x4, x5] σ P) (k : ∀ r τ, P r τ → GX Ω M J (pc + 3) ls (.long r :: st) τ) : GX Ω M J pc ls (x5 :: x4 :: x3 :: x2 :: x1 :: .ref a :: st) σ := xg_callV (As := [x1, x2, x3, x4, x5]) d lk hfit hcap ha hci rfl hst hM (fun v τ h => by obtain ⟨r, rfl, h⟩ := h; exact k r τ h)
theorem xg_cVI6 {ci nf a : Nat} {x1 x2 x3 x4 x5 x6 : Value} {P : Int32 → Mm → Prop} (d : decode (ic M) pc = .ok (.invokevirtual idx, 3)) (lk : lkV (iy M).cls idx N ci 6) (hfit : fitR M N = true) (hcap : J.1.2.1 ≤ J.1.1.1 ∧ J.1.2.2 ≤ J.1.1.2) (ha : kw Ω a = (ci, nf)) (hci : ci < 20) (hst : (st.map fun v => v.category).sum ≤ 8) (hM : RI Ω N [.ref a, x1, x2, x3, x4, x5, x6] σ P) (k : ∀ r τ, P r τ → GX Ω M J (pc + 3) ls (.int r :: st) τ) : GX Ω M J pc ls (x6 :: x5 :: x4 :: x3 :: x2 :: x1 :: .ref a :: st) σ := xg_callV (As := [x1, x2, x3, x4, x5, x6]) d lk hfit hcap ha hci rfl hst hM (fun v τ h => by obtain ⟨r, rfl, h⟩ := h; exact k r τ h)
theorem xg_cVV6 {ci nf a : Nat} {x1 x2 x3 x4 x5 x6 : Value} {P : Mm → Prop} (d : decode (ic M) pc = .ok (.invokevirtual idx, 3)) (lk : lkV (iy M).cls idx N ci 6) (hfit : fitR M N = true) (hcap : J.1.2.1 ≤ J.1.1.1 ∧ J.1.2.2 ≤ J.1.1.2) (ha : kw Ω a = (ci, nf)) (hci : ci < 20) (hst : (st.map fun v => v.category).sum ≤ 8) (hM : RV Ω N [.ref a, x1, x2, x3, x4, x5, x6] σ P) (k : ∀ τ, P τ → GX Ω M J (pc + 3) ls st τ) : GX Ω M J pc ls (x6 :: x5 :: x4 :: x3 :: x2 :: x1 :: .ref a :: st) σ := xg_callV (As := [x1, x2, x3, x4, x5, x6]) d lk hfit hcap ha hci rfl hst hM (fun v τ h => by obtain ⟨rfl, h⟩ := h; exact k τ h)
theorem xg_cVL6 {ci nf a : Nat} {x1 x2 x3 x4 x5 x6 : Value} {P : Int64 → Mm → Prop} (d : decode (ic M) pc = .ok (.invokevirtual idx, 3)) (lk : lkV (iy M).cls idx N ci 6) (hfit : fitR M N = true) (hcap : J.1.2.1 ≤ J.1.1.1 ∧ J.1.2.2 ≤ J.1.1.2) (ha : kw Ω a = (ci, nf)) (hci : ci < 20) (hst : (st.map fun v => v.category).sum ≤ 8) (hM : RL_ Ω N [.ref a, x1, x2, x3, x4, x5, x6] σ P) (k : ∀ r τ, P r τ → GX Ω M J (pc + 3) ls (.long r :: st) τ) : GX Ω M J pc ls (x6 :: x5 :: x4 :: x3 :: x2 :: x1 :: .ref a :: st) σ := xg_callV (As := [x1, x2, x3, x4, x5, x6]) d lk hfit hcap ha hci rfl hst hM (fun v τ h => by obtain ⟨r, rfl, h⟩ := h; exact k r τ h)
theorem xg_cSI0 {P : Int32 → Mm → Prop} (d : decode (ic M) pc = .ok (.invokestatic idx, 3)) (lk : lkS (iy M).cls idx N 0) (hfit : fitR M N = true) (hcap : J.1.2.1 ≤ J.1.1.1 ∧ J.1.2.2 ≤ J.1.1.2) (hst : (st.map fun v => v.category).sum ≤ 8) (hM : RI Ω N [] σ P) (k : ∀ r τ, P r τ → GX Ω M J (pc + 3) ls (.int r :: st) τ) : GX Ω M J pc ls (st) σ := xg_callS (As := []) d lk hfit hcap rfl hst hM (fun v τ h => by obtain ⟨r, rfl, h⟩ := h; exact k r τ h)
theorem xg_cSV0 {P : Mm → Prop} (d : decode (ic M) pc = .ok (.invokestatic idx, 3)) (lk : lkS (iy M).cls idx N 0) (hfit : fitR M N = true) (hcap : J.1.2.1 ≤ J.1.1.1 ∧ J.1.2.2 ≤ J.1.1.2) (hst : (st.map fun v => v.category).sum ≤ 8) (hM : RV Ω N [] σ P) (k : ∀ τ, P τ → GX Ω M J (pc + 3) ls st τ) : GX Ω M J pc ls (st) σ := xg_callS (As := []) d lk hfit hcap rfl hst hM (fun v τ h => by obtain ⟨rfl, h⟩ := h; exact k τ h)
theorem xg_cSL0 {P : Int64 → Mm → Prop} (d : decode (ic M) pc = .ok (.invokestatic idx, 3)) (lk : lkS (iy M).cls idx N 0) (hfit : fitR M N = true) (hcap : J.1.2.1 ≤ J.1.1.1 ∧ J.1.2.2 ≤ J.1.1.2) (hst : (st.map fun v => v.category).sum ≤ 8) (hM : RL_ Ω N [] σ P) (k : ∀ r τ, P r τ → GX Ω M J (pc + 3) ls (.long r :: st) τ) : GX Ω M J pc ls (st) σ := xg_callS (As := []) d lk hfit hcap rfl hst hM (fun v τ h => by obtain ⟨r, rfl, h⟩ := h; exact k r τ h)
theorem xg_cSI1 {x1 : Value} {P : Int32 → Mm → Prop} (d : decode (ic M) pc = .ok (.invokestatic idx, 3)) (lk : lkS (iy M).cls idx N 1) (hfit : fitR M N = true) (hcap : J.1.2.1 ≤ J.1.1.1 ∧ J.1.2.2 ≤ J.1.1.2) (hst : (st.map fun v => v.category).sum ≤ 8) (hM : RI Ω N [x1] σ P) (k : ∀ r τ, P r τ → GX Ω M J (pc + 3) ls (.int r :: st) τ) : GX Ω M J pc ls (x1 :: st) σ := xg_callS (As := [x1]) d lk hfit hcap rfl hst hM (fun v τ h => by obtain ⟨r, rfl, h⟩ := h; exact k r τ h)
theorem xg_cSV1 {x1 : Value} {P : Mm → Prop} (d : decode (ic M) pc = .ok (.invokestatic idx, 3)) (lk : lkS (iy M).cls idx N 1) (hfit : fitR M N = true) (hcap : J.1.2.1 ≤ J.1.1.1 ∧ J.1.2.2 ≤ J.1.1.2) (hst : (st.map fun v => v.category).sum ≤ 8) (hM : RV Ω N [x1] σ P) (k : ∀ τ, P τ → GX Ω M J (pc + 3) ls st τ) : GX Ω M J pc ls (x1 :: st) σ := xg_callS (As := [x1]) d lk hfit hcap rfl hst hM (fun v τ h => by obtain ⟨rfl, h⟩ := h; exact k τ h)
theorem xg_cSL1 {x1 : Value} {P : Int64 → Mm → Prop} (d : decode (ic M) pc = .ok (.invokestatic idx, 3)) (lk : lkS (iy M).cls idx N 1) (hfit : fitR M N = true) (hcap : J.1.2.1 ≤ J.1.1.1 ∧ J.1.2.2 ≤ J.1.1.2) (hst : (st.map fun v => v.category).sum ≤ 8) (hM : RL_ Ω N [x1] σ P) (k : ∀ r τ, P r τ → GX Ω M J (pc + 3) ls (.long r :: st) τ) : GX Ω M J pc ls (x1 :: st) σ := xg_callS (As := [x1]) d lk hfit hcap rfl hst hM (fun v τ h => by obtain ⟨r, rfl, h⟩ := h; exact k r τ h)
theorem xg_cSI2 {x1 x2 : Value} {P : Int32 → Mm → Prop} (d : decode (ic M) pc = .ok (.invokestatic idx, 3)) (lk : lkS (iy M).cls idx N 2) (hfit : fitR M N = true) (hcap : J.1.2.1 ≤ J.1.1.1 ∧ J.1.2.2 ≤ J.1.1.2) (hst : (st.map fun v => v.category).sum ≤ 8) (hM : RI Ω N [x1, x2] σ P) (k : ∀ r τ, P r τ → GX Ω M J (pc + 3) ls (.int r :: st) τ) : GX Ω M J pc ls (x2 :: x1 :: st) σ := xg_callS (As := [x1, x2]) d lk hfit hcap rfl hst hM (fun v τ h => by obtain ⟨r, rfl, h⟩ := h; exact k r τ h)
theorem xg_cSV2 {x1 x2 : Value} {P : Mm → Prop} (d : decode (ic M) pc = .ok (.invokestatic idx, 3)) (lk : lkS (iy M).cls idx N 2) (hfit : fitR M N = true) (hcap : J.1.2.1 ≤ J.1.1.1 ∧ J.1.2.2 ≤ J.1.1.2) (hst : (st.map fun v => v.category).sum ≤ 8) (hM : RV Ω N [x1, x2] σ P) (k : ∀ τ, P τ → GX Ω M J (pc + 3) ls st τ) : GX Ω M J pc ls (x2 :: x1 :: st) σ := xg_callS (As := [x1, x2]) d lk hfit hcap rfl hst hM (fun v τ h => by obtain ⟨rfl, h⟩ := h; exact k τ h)
theorem xg_cSL2 {x1 x2 : Value} {P : Int64 → Mm → Prop} (d : decode (ic M) pc = .ok (.invokestatic idx, 3)) (lk : lkS (iy M).cls idx N 2) (hfit : fitR M N = true) (hcap : J.1.2.1 ≤ J.1.1.1 ∧ J.1.2.2 ≤ J.1.1.2) (hst : (st.map fun v => v.category).sum ≤ 8) (hM : RL_ Ω N [x1, x2] σ P) (k : ∀ r τ, P r τ → GX Ω M J (pc + 3) ls (.long r :: st) τ) : GX Ω M J pc ls (x2 :: x1 :: st) σ := xg_callS (As := [x1, x2]) d lk hfit hcap rfl hst hM (fun v τ h => by obtain ⟨r, rfl, h⟩ := h; exact k r τ h)
theorem xg_cSI3 {x1 x2 x3 : Value} {P : Int32 → Mm → Prop} (d : decode (ic M) pc = .ok (.invokestatic idx, 3)) (lk : lkS (iy M).cls idx N 3) (hfit : fitR M N = true) (hcap : J.1.2.1 ≤ J.1.1.1 ∧ J.1.2.2 ≤ J.1.1.2) (hst : (st.map fun v => v.category).sum ≤ 8) (hM : RI Ω N [x1, x2, x3] σ P) (k : ∀ r τ, P r τ → GX Ω M J (pc + 3) ls (.int r :: st) τ) : GX Ω M J pc ls (x3 :: x2 :: x1 :: st) σ := xg_callS (As := [x1, x2, x3]) d lk hfit hcap rfl hst hM (fun v τ h => by obtain ⟨r, rfl, h⟩ := h; exact k r τ h)
theorem xg_cSV3 {x1 x2 x3 : Value} {P : Mm → Prop} (d : decode (ic M) pc = .ok (.invokestatic idx, 3)) (lk : lkS (iy M).cls idx N 3) (hfit : fitR M N = true) (hcap : J.1.2.1 ≤ J.1.1.1 ∧ J.1.2.2 ≤ J.1.1.2) (hst : (st.map fun v => v.category).sum ≤ 8) (hM : RV Ω N [x1, x2, x3] σ P) (k : ∀ τ, P τ → GX Ω M J (pc + 3) ls st τ) : GX Ω M J pc ls (x3 :: x2 :: x1 :: st) σ := xg_callS (As := [x1, x2, x3]) d lk hfit hcap rfl hst hM (fun v τ h => by obtain ⟨rfl, h⟩ := h; exact k τ h)
theorem xg_cSL3 {x1 x2 x3 : Value} {P : Int64 → Mm → Prop} (d : decode (ic M) pc = .ok (.invokestatic idx, 3)) (lk : lkS (iy M).cls idx N 3) (hfit : fitR M N = true) (hcap : J.1.2.1 ≤ J.1.1.1 ∧ J.1.2.2 ≤ J.1.1.2) (hst : (st.map fun v => v.category).sum ≤ 8) (hM : RL_ Ω N [x1, x2, x3] σ P) (k : ∀ r τ, P r τ → GX Ω M J (pc + 3) ls (.long r :: st) τ) : GX Ω M J pc ls (x3 :: x2 :: x1 :: st) σ := xg_callS (As := [x1, x2, x3]) d lk hfit hcap rfl hst hM (fun v τ h => by obtain ⟨r, rfl, h⟩ := h; exact k r τ h)
theorem xg_cSI4 {x1 x2 x3 x4 : Value} {P : Int32 → Mm → Prop} (d : decode (ic M) pc = .ok (.invokestatic idx, 3)) (lk : lkS (iy M).cls idx N 4) (hfit : fitR M N = true) (hcap : J.1.2.1 ≤ J.1.1.1 ∧ J.1.2.2 ≤ J.1.1.2) (hst : (st.map fun v => v.category).sum ≤ 8) (hM : RI Ω N [x1, x2, x3, x4] σ P) (k : ∀ r τ, P r τ → GX Ω M J (pc + 3) ls (.int r :: st) τ) : GX Ω M J pc ls (x4 :: x3 :: x2 :: x1 :: st) σ := xg_callS (As := [x1, x2, x3, x4]) d lk hfit hcap rfl hst hM (fun v τ h => by obtain ⟨r, rfl, h⟩ := h; exact k r τ h)
theorem xg_cSV4 {x1 x2 x3 x4 : Value} {P : Mm → Prop} (d : decode (ic M) pc = .ok (.invokestatic idx, 3)) (lk : lkS (iy M).cls idx N 4) (hfit : fitR M N = true) (hcap : J.1.2.1 ≤ J.1.1.1 ∧ J.1.2.2 ≤ J.1.1.2) (hst : (st.map fun v => v.category).sum ≤ 8) (hM : RV Ω N [x1, x2, x3, x4] σ P) (k : ∀ τ, P τ → GX Ω M J (pc + 3) ls st τ) : GX Ω M J pc ls (x4 :: x3 :: x2 :: x1 :: st) σ := xg_callS (As := [x1, x2, x3, x4]) d lk hfit hcap rfl hst hM (fun v τ h => by obtain ⟨rfl, h⟩ := h; exact k τ h)
theorem xg_cSL4 {x1 x2 x3 x4 : Value} {P : Int64 → Mm → Prop} (d : decode (ic M) pc = .ok (.invokestatic idx, 3)) (lk : lkS (iy M).cls idx N 4) (hfit : fitR M N = true) (hcap : J.1.2.1 ≤ J.1.1.1 ∧ J.1.2.2 ≤ J.1.1.2) (hst : (st.map fun v => v.category).sum ≤ 8) (hM : RL_ Ω N [x1, x2, x3, x4] σ P) (k : ∀ r τ, P r τ → GX Ω M J (pc + 3) ls (.long r :: st) τ) : GX Ω M J pc ls (x4 :: x3 :: x2 :: x1 :: st) σ := xg_callS (As := [x1, x2, x3, x4]) d lk hfit hcap rfl hst hM (fun v τ h => by obtain ⟨r, rfl, h⟩ := h; exact k r τ h)
theorem xg_cSI5 {x1 x2 x3 x4 x5 : Value} {P : Int32 → Mm → Prop} (d : decode (ic M) pc = .ok (.invokestatic idx, 3)) (lk : lkS (iy M).cls idx N 5) (hfit : fitR M N = true) (hcap : J.1.2.1 ≤ J.1.1.1 ∧ J.1.2.2 ≤ J.1.1.2) (hst : (st.map fun v => v.category).sum ≤ 8) (hM : RI Ω N [x1, x2, x3, x4, x5] σ P) (k : ∀ r τ, P r τ → GX Ω M J (pc + 3) ls (.int r :: st) τ) : GX Ω M J pc ls (x5 :: x4 :: x3 :: x2 :: x1 :: st) σ := xg_callS (As := [x1, x2, x3, x4, x5]) d lk hfit hcap rfl hst hM (fun v τ h => by obtain ⟨r, rfl, h⟩ := h; exact k r τ h)
theorem xg_cSV5 {x1 x2 x3 x4 x5 : Value} {P : Mm → Prop} (d : decode (ic M) pc = .ok (.invokestatic idx, 3)) (lk : lkS (iy M).cls idx N 5) (hfit : fitR M N = true) (hcap : J.1.2.1 ≤ J.1.1.1 ∧ J.1.2.2 ≤ J.1.1.2) (hst : (st.map fun v => v.category).sum ≤ 8) (hM : RV Ω N [x1, x2, x3, x4, x5] σ P) (k : ∀ τ, P τ → GX Ω M J (pc + 3) ls st τ) : GX Ω M J pc ls (x5 :: x4 :: x3 :: x2 :: x1 :: st) σ := xg_callS (As := [x1, x2, x3, x4, x5]) d lk hfit hcap rfl hst hM (fun v τ h => by obtain ⟨rfl, h⟩ := h; exact k τ h)
theorem xg_cSL5 {x1 x2 x3 x4 x5 : Value} {P : Int64 → Mm → Prop} (d : decode (ic M) pc = .ok (.invokestatic idx, 3)) (lk : lkS (iy M).cls idx N 5) (hfit : fitR M N = true) (hcap : J.1.2.1 ≤ J.1.1.1 ∧ J.1.2.2 ≤ J.1.1.2) (hst : (st.map fun v => v.category).sum ≤ 8) (hM : RL_ Ω N [x1, x2, x3, x4, x5] σ P) (k : ∀ r τ, P r τ → GX Ω M J (pc + 3) ls (.long r :: st) τ) : GX Ω M J pc ls (x5 :: x4 :: x3 :: x2 :: x1 :: st) σ := xg_callS (As := [x1, x2, x3, x4, x5]) d lk hfit hcap rfl hst hM (fun v τ h => by obtain ⟨r, rfl, h⟩ := h; exact k r τ h)
theorem xg_cSI6 {x1 x2 x3 x4 x5 x6 : Value} {P : Int32 → Mm → Prop} (d : decode (ic M) pc = .ok (.invokestatic idx, 3)) (lk : lkS (iy M).cls idx N 6) (hfit : fitR M N = true) (hcap : J.1.2.1 ≤ J.1.1.1 ∧ J.1.2.2 ≤ J.1.1.2) (hst : (st.map fun v => v.category).sum ≤ 8) (hM : RI Ω N [x1, x2, x3, x4, x5, x6] σ P) (k : ∀ r τ, P r τ → GX Ω M J (pc + 3) ls (.int r :: st) τ) : GX Ω M J pc ls (x6 :: x5 :: x4 :: x3 :: x2 :: x1 :: st) σ := xg_callS (As := [x1, x2, x3, x4, x5, x6]) d lk hfit hcap rfl hst hM (fun v τ h => by obtain ⟨r, rfl, h⟩ := h; exact k r τ h)
theorem xg_cSV6 {x1 x2 x3 x4 x5 x6 : Value} {P : Mm → Prop} (d : decode (ic M) pc = .ok (.invokestatic idx, 3)) (lk : lkS (iy M).cls idx N 6) (hfit : fitR M N = true) (hcap : J.1.2.1 ≤ J.1.1.1 ∧ J.1.2.2 ≤ J.1.1.2) (hst : (st.map fun v => v.category).sum ≤ 8) (hM : RV Ω N [x1, x2, x3, x4, x5, x6] σ P) (k : ∀ τ, P τ → GX Ω M J (pc + 3) ls st τ) : GX Ω M J pc ls (x6 :: x5 :: x4 :: x3 :: x2 :: x1 :: st) σ := xg_callS (As := [x1, x2, x3, x4, x5, x6]) d lk hfit hcap rfl hst hM (fun v τ h => by obtain ⟨rfl, h⟩ := h; exact k τ h)
theorem xg_cSL6 {x1 x2 x3 x4 x5 x6 : Value} {P : Int64 → Mm → Prop} (d : decode (ic M) pc = .ok (.invokestatic idx, 3)) (lk : lkS (iy M).cls idx N 6) (hfit : fitR M N = true) (hcap : J.1.2.1 ≤ J.1.1.1 ∧ J.1.2.2 ≤ J.1.1.2) (hst : (st.map fun v => v.category).sum ≤ 8) (hM : RL_ Ω N [x1, x2, x3, x4, x5, x6] σ P) (k : ∀ r τ, P r τ → GX Ω M J (pc + 3) ls (.long r :: st) τ) : GX Ω M J pc ls (x6 :: x5 :: x4 :: x3 :: x2 :: x1 :: st) σ := xg_callS (As := [x1, x2, x3, x4, x5, x6]) d lk hfit hcap rfl hst hM (fun v τ h => by obtain ⟨r, rfl, h⟩ := h; exact k r τ h)
theorem xg_cNI2 {x1 x2 : Value} {P : Int32 → Mm → Prop} {host : String} (d : decode (ic M) pc = .ok (.invokestatic idx, 3)) (lk : lkN (iy M).cls idx N host 2) (hfit : fitR M N = true) (hcap : J.1.2.1 ≤ J.1.1.1 ∧ J.1.2.2 ≤ J.1.1.2) (hst : (st.map fun v => v.category).sum ≤ 8) (hM : RI Ω N [x1, x2] σ P) (k : ∀ r τ, P r τ → GX Ω M J (pc + 3) ls (.int r :: st) τ) : GX Ω M J pc ls (x2 :: x1 :: st) σ := xg_callN (As := [x1, x2]) d lk hfit hcap rfl hst hM (fun v τ h => by obtain ⟨r, rfl, h⟩ := h; exact k r τ h)
theorem xg_cNI3 {x1 x2 x3 : Value} {P : Int32 → Mm → Prop} {host : String} (d : decode (ic M) pc = .ok (.invokestatic idx, 3)) (lk : lkN (iy M).cls idx N host 3) (hfit : fitR M N = true) (hcap : J.1.2.1 ≤ J.1.1.1 ∧ J.1.2.2 ≤ J.1.1.2) (hst : (st.map fun v => v.category).sum ≤ 8) (hM : RI Ω N [x1, x2, x3] σ P) (k : ∀ r τ, P r τ → GX Ω M J (pc + 3) ls (.int r :: st) τ) : GX Ω M J pc ls (x3 :: x2 :: x1 :: st) σ := xg_callN (As := [x1, x2, x3]) d lk hfit hcap rfl hst hM (fun v τ h => by obtain ⟨r, rfl, h⟩ := h; exact k r τ h)
end
section
variable {Ω : Nat × Nat} {M : MI} {J : JX} {pc : Nat} {ls ls' : List (Option Value)} {st : List Value} {σ : Mm}
theorem xgs_istore_n {q : Fin 4} {i : Nat} {x : Int32} (d : decode (ic M) pc = .ok (.istore_n q, 1)) (hi : (q : Nat) = i) (hok : okS M ls i = true) (hs : ls.set i (some (.int x)) = ls') (k : GX Ω M J (pc + 1) ls' st σ) : GX Ω M J pc ls (.int x :: st) σ := by
  subst hi; subst hs
  obtain ⟨h1, h2, h3⟩ := okS_1 hok
  exact xg_istore_n d h1 h2 h3 k
theorem xgs_istore {i : Nat} {x : Int32} (d : decode (ic M) pc = .ok (.istore i, 2)) (hok : okS M ls i = true) (hs : ls.set i (some (.int x)) = ls') (k : GX Ω M J (pc + 2) ls' st σ) : GX Ω M J pc ls (.int x :: st) σ := by
  subst hs
  obtain ⟨h1, h2, h3⟩ := okS_1 hok
  exact xg_istore d h1 h2 h3 k
theorem xgs_astore_n {q : Fin 4} {i : Nat} {x : Nat} (d : decode (ic M) pc = .ok (.astore_n q, 1)) (hi : (q : Nat) = i) (hok : okS M ls i = true) (hs : ls.set i (some (.ref x)) = ls') (k : GX Ω M J (pc + 1) ls' st σ) : GX Ω M J pc ls (.ref x :: st) σ := by
  subst hi; subst hs
  obtain ⟨h1, h2, h3⟩ := okS_1 hok
  exact xg_astore_n d h1 h2 h3 k
theorem xgs_astore {i : Nat} {x : Nat} (d : decode (ic M) pc = .ok (.astore i, 2)) (hok : okS M ls i = true) (hs : ls.set i (some (.ref x)) = ls') (k : GX Ω M J (pc + 2) ls' st σ) : GX Ω M J pc ls (.ref x :: st) σ := by
  subst hs
  obtain ⟨h1, h2, h3⟩ := okS_1 hok
  exact xg_astore d h1 h2 h3 k
theorem xgs_lstore_n {q : Fin 4} {i : Nat} {x : Int64} (d : decode (ic M) pc = .ok (.lstore_n q, 1)) (hi : (q : Nat) = i) (hok : okS2 M ls i = true) (hs : (ls.set i (some (.long x))).set (i + 1) none = ls') (k : GX Ω M J (pc + 1) ls' st σ) : GX Ω M J pc ls (.long x :: st) σ := by
  subst hi; subst hs
  obtain ⟨h1, h2, h3⟩ := okS_2 hok
  exact xg_lstore_n d h1 h2 h3 k
theorem xgs_lstore {i : Nat} {x : Int64} (d : decode (ic M) pc = .ok (.lstore i, 2)) (hok : okS2 M ls i = true) (hs : (ls.set i (some (.long x))).set (i + 1) none = ls') (k : GX Ω M J (pc + 2) ls' st σ) : GX Ω M J pc ls (.long x :: st) σ := by
  subst hs
  obtain ⟨h1, h2, h3⟩ := okS_2 hok
  exact xg_lstore d h1 h2 h3 k
theorem xgs_iinc {i : Nat} {n : Int} {x v : Int32} (d : decode (ic M) pc = .ok (.iinc i n, 3)) (hl0 : ls[i]? = some (some (.int x))) (hv : x + Int32.ofInt n = v) (hok : okS M ls i = true) (hs : ls.set i (some (.int v)) = ls') (k : GX Ω M J (pc + 3) ls' st σ) : GX Ω M J pc ls st σ := by
  subst hs
  obtain ⟨h1, h2, h3⟩ := okS_1 hok
  exact xg_iinc d hl0 hv h1 h2 k
theorem xgs_iload_n {q : Fin 4} {i : Nat} {x : Int32} (d : decode (ic M) pc = .ok (.iload_n q, 1)) (hi : (q : Nat) = i) (hl0 : ls[i]? = some (some (.int x))) (k : GX Ω M J (pc + 1) ls (.int x :: st) σ) : GX Ω M J pc ls st σ := by
  subst hi
  exact xg_iload_n d hl0 k
theorem xgs_lload_n {q : Fin 4} {i : Nat} {x : Int64} (d : decode (ic M) pc = .ok (.lload_n q, 1)) (hi : (q : Nat) = i) (hl0 : ls[i]? = some (some (.long x))) (k : GX Ω M J (pc + 1) ls (.long x :: st) σ) : GX Ω M J pc ls st σ := by
  subst hi
  exact xg_lload_n d hl0 k
theorem xgs_aload_n {q : Fin 4} {i : Nat} {x : Nat} (d : decode (ic M) pc = .ok (.aload_n q, 1)) (hi : (q : Nat) = i) (hl0 : ls[i]? = some (some (.ref x))) (k : GX Ω M J (pc + 1) ls (.ref x :: st) σ) : GX Ω M J pc ls st σ := by
  subst hi
  exact xg_aload_n d hl0 k
theorem xgn_icmp_eq {a b : Nat} {off : Int} {tgt : Nat} (d : decode (ic M) pc = .ok (.if_icmp .eq off, 3)) (ht : (pc : Int) + off = (tgt : Int)) (ha : a < 2 ^ 31) (hb : b < 2 ^ 31) (kt : a = b → GX Ω M J tgt ls st σ) (kf : ¬ a = b → GX Ω M J (pc + 3) ls st σ) : GX Ω M J pc ls (.int (nI b) :: .int (nI a) :: st) σ := xg_icmp_eq d ht (fun h => kt ((nI_eq ha hb).mp h)) (fun h => kf (fun q => h ((nI_eq ha hb).mpr q)))
theorem xgt_icmp_eq {a b : Nat} {off : Int} {tgt : Nat} (d : decode (ic M) pc = .ok (.if_icmp .eq off, 3)) (ht : (pc : Int) + off = (tgt : Int)) (ha : a < 2 ^ 31) (hb : b < 2 ^ 31) (hc : a = b) (kt : GX Ω M J tgt ls st σ) : GX Ω M J pc ls (.int (nI b) :: .int (nI a) :: st) σ := xgn_icmp_eq d ht ha hb (fun _ => kt) (fun h => absurd h (by omega))
theorem xgf_icmp_eq {a b : Nat} {off : Int} {tgt : Nat} (d : decode (ic M) pc = .ok (.if_icmp .eq off, 3)) (ht : (pc : Int) + off = (tgt : Int)) (ha : a < 2 ^ 31) (hb : b < 2 ^ 31) (hc : ¬ a = b) (kf : GX Ω M J (pc + 3) ls st σ) : GX Ω M J pc ls (.int (nI b) :: .int (nI a) :: st) σ := xgn_icmp_eq d ht ha hb (fun h => absurd h (by omega)) (fun _ => kf)
theorem xgn_icmp_ne {a b : Nat} {off : Int} {tgt : Nat} (d : decode (ic M) pc = .ok (.if_icmp .ne off, 3)) (ht : (pc : Int) + off = (tgt : Int)) (ha : a < 2 ^ 31) (hb : b < 2 ^ 31) (kt : ¬ a = b → GX Ω M J tgt ls st σ) (kf : a = b → GX Ω M J (pc + 3) ls st σ) : GX Ω M J pc ls (.int (nI b) :: .int (nI a) :: st) σ := xg_icmp_ne d ht (fun h => kt (fun q => h ((nI_eq ha hb).mpr q))) (fun h => kf ((nI_eq ha hb).mp h))
theorem xgt_icmp_ne {a b : Nat} {off : Int} {tgt : Nat} (d : decode (ic M) pc = .ok (.if_icmp .ne off, 3)) (ht : (pc : Int) + off = (tgt : Int)) (ha : a < 2 ^ 31) (hb : b < 2 ^ 31) (hc : ¬ a = b) (kt : GX Ω M J tgt ls st σ) : GX Ω M J pc ls (.int (nI b) :: .int (nI a) :: st) σ := xgn_icmp_ne d ht ha hb (fun _ => kt) (fun h => absurd h (by omega))
theorem xgf_icmp_ne {a b : Nat} {off : Int} {tgt : Nat} (d : decode (ic M) pc = .ok (.if_icmp .ne off, 3)) (ht : (pc : Int) + off = (tgt : Int)) (ha : a < 2 ^ 31) (hb : b < 2 ^ 31) (hc : a = b) (kf : GX Ω M J (pc + 3) ls st σ) : GX Ω M J pc ls (.int (nI b) :: .int (nI a) :: st) σ := xgn_icmp_ne d ht ha hb (fun h => absurd h (by omega)) (fun _ => kf)
theorem xgn_icmp_lt {a b : Nat} {off : Int} {tgt : Nat} (d : decode (ic M) pc = .ok (.if_icmp .lt off, 3)) (ht : (pc : Int) + off = (tgt : Int)) (ha : a < 2 ^ 31) (hb : b < 2 ^ 31) (kt : a < b → GX Ω M J tgt ls st σ) (kf : b ≤ a → GX Ω M J (pc + 3) ls st σ) : GX Ω M J pc ls (.int (nI b) :: .int (nI a) :: st) σ := xg_icmp_lt d ht (fun h => kt ((nI_ltI ha hb).mp h)) (fun h => kf (Nat.not_lt.mp (fun q => h ((nI_ltI ha hb).mpr q))))
theorem xgt_icmp_lt {a b : Nat} {off : Int} {tgt : Nat} (d : decode (ic M) pc = .ok (.if_icmp .lt off, 3)) (ht : (pc : Int) + off = (tgt : Int)) (ha : a < 2 ^ 31) (hb : b < 2 ^ 31) (hc : a < b) (kt : GX Ω M J tgt ls st σ) : GX Ω M J pc ls (.int (nI b) :: .int (nI a) :: st) σ := xgn_icmp_lt d ht ha hb (fun _ => kt) (fun h => absurd h (by omega))
theorem xgf_icmp_lt {a b : Nat} {off : Int} {tgt : Nat} (d : decode (ic M) pc = .ok (.if_icmp .lt off, 3)) (ht : (pc : Int) + off = (tgt : Int)) (ha : a < 2 ^ 31) (hb : b < 2 ^ 31) (hc : b ≤ a) (kf : GX Ω M J (pc + 3) ls st σ) : GX Ω M J pc ls (.int (nI b) :: .int (nI a) :: st) σ := xgn_icmp_lt d ht ha hb (fun h => absurd h (by omega)) (fun _ => kf)
theorem xgn_icmp_ge {a b : Nat} {off : Int} {tgt : Nat} (d : decode (ic M) pc = .ok (.if_icmp .ge off, 3)) (ht : (pc : Int) + off = (tgt : Int)) (ha : a < 2 ^ 31) (hb : b < 2 ^ 31) (kt : b ≤ a → GX Ω M J tgt ls st σ) (kf : a < b → GX Ω M J (pc + 3) ls st σ) : GX Ω M J pc ls (.int (nI b) :: .int (nI a) :: st) σ := xg_icmp_ge d ht (fun h => kt ((nI_leI hb ha).mp h)) (fun h => kf (Nat.not_le.mp (fun q => h ((nI_leI hb ha).mpr q))))
theorem xgt_icmp_ge {a b : Nat} {off : Int} {tgt : Nat} (d : decode (ic M) pc = .ok (.if_icmp .ge off, 3)) (ht : (pc : Int) + off = (tgt : Int)) (ha : a < 2 ^ 31) (hb : b < 2 ^ 31) (hc : b ≤ a) (kt : GX Ω M J tgt ls st σ) : GX Ω M J pc ls (.int (nI b) :: .int (nI a) :: st) σ := xgn_icmp_ge d ht ha hb (fun _ => kt) (fun h => absurd h (by omega))
theorem xgf_icmp_ge {a b : Nat} {off : Int} {tgt : Nat} (d : decode (ic M) pc = .ok (.if_icmp .ge off, 3)) (ht : (pc : Int) + off = (tgt : Int)) (ha : a < 2 ^ 31) (hb : b < 2 ^ 31) (hc : a < b) (kf : GX Ω M J (pc + 3) ls st σ) : GX Ω M J pc ls (.int (nI b) :: .int (nI a) :: st) σ := xgn_icmp_ge d ht ha hb (fun h => absurd h (by omega)) (fun _ => kf)
theorem xgn_icmp_gt {a b : Nat} {off : Int} {tgt : Nat} (d : decode (ic M) pc = .ok (.if_icmp .gt off, 3)) (ht : (pc : Int) + off = (tgt : Int)) (ha : a < 2 ^ 31) (hb : b < 2 ^ 31) (kt : b < a → GX Ω M J tgt ls st σ) (kf : a ≤ b → GX Ω M J (pc + 3) ls st σ) : GX Ω M J pc ls (.int (nI b) :: .int (nI a) :: st) σ := xg_icmp_gt d ht (fun h => kt ((nI_ltI hb ha).mp h)) (fun h => kf (Nat.not_lt.mp (fun q => h ((nI_ltI hb ha).mpr q))))
theorem xgt_icmp_gt {a b : Nat} {off : Int} {tgt : Nat} (d : decode (ic M) pc = .ok (.if_icmp .gt off, 3)) (ht : (pc : Int) + off = (tgt : Int)) (ha : a < 2 ^ 31) (hb : b < 2 ^ 31) (hc : b < a) (kt : GX Ω M J tgt ls st σ) : GX Ω M J pc ls (.int (nI b) :: .int (nI a) :: st) σ := xgn_icmp_gt d ht ha hb (fun _ => kt) (fun h => absurd h (by omega))
theorem xgf_icmp_gt {a b : Nat} {off : Int} {tgt : Nat} (d : decode (ic M) pc = .ok (.if_icmp .gt off, 3)) (ht : (pc : Int) + off = (tgt : Int)) (ha : a < 2 ^ 31) (hb : b < 2 ^ 31) (hc : a ≤ b) (kf : GX Ω M J (pc + 3) ls st σ) : GX Ω M J pc ls (.int (nI b) :: .int (nI a) :: st) σ := xgn_icmp_gt d ht ha hb (fun h => absurd h (by omega)) (fun _ => kf)
theorem xgn_icmp_le {a b : Nat} {off : Int} {tgt : Nat} (d : decode (ic M) pc = .ok (.if_icmp .le off, 3)) (ht : (pc : Int) + off = (tgt : Int)) (ha : a < 2 ^ 31) (hb : b < 2 ^ 31) (kt : a ≤ b → GX Ω M J tgt ls st σ) (kf : b < a → GX Ω M J (pc + 3) ls st σ) : GX Ω M J pc ls (.int (nI b) :: .int (nI a) :: st) σ := xg_icmp_le d ht (fun h => kt ((nI_leI ha hb).mp h)) (fun h => kf (Nat.not_le.mp (fun q => h ((nI_leI ha hb).mpr q))))
theorem xgt_icmp_le {a b : Nat} {off : Int} {tgt : Nat} (d : decode (ic M) pc = .ok (.if_icmp .le off, 3)) (ht : (pc : Int) + off = (tgt : Int)) (ha : a < 2 ^ 31) (hb : b < 2 ^ 31) (hc : a ≤ b) (kt : GX Ω M J tgt ls st σ) : GX Ω M J pc ls (.int (nI b) :: .int (nI a) :: st) σ := xgn_icmp_le d ht ha hb (fun _ => kt) (fun h => absurd h (by omega))
theorem xgf_icmp_le {a b : Nat} {off : Int} {tgt : Nat} (d : decode (ic M) pc = .ok (.if_icmp .le off, 3)) (ht : (pc : Int) + off = (tgt : Int)) (ha : a < 2 ^ 31) (hb : b < 2 ^ 31) (hc : b < a) (kf : GX Ω M J (pc + 3) ls st σ) : GX Ω M J pc ls (.int (nI b) :: .int (nI a) :: st) σ := xgn_icmp_le d ht ha hb (fun h => absurd h (by omega)) (fun _ => kf)
theorem xrt_if_eq {x : Int32} {off : Int} {tgt : Nat} (d : decode (ic M) pc = .ok (.ifCond .eq off, 3)) (ht : (pc : Int) + off = (tgt : Int)) (hc : x = 0) (kt : GX Ω M J tgt ls st σ) : GX Ω M J pc ls (.int x :: st) σ := xg_if_eq d ht (fun _ => kt) (fun h => absurd hc h)
theorem xrf_if_eq {x : Int32} {off : Int} {tgt : Nat} (d : decode (ic M) pc = .ok (.ifCond .eq off, 3)) (ht : (pc : Int) + off = (tgt : Int)) (hc : ¬ (x = 0)) (kf : GX Ω M J (pc + 3) ls st σ) : GX Ω M J pc ls (.int x :: st) σ := xg_if_eq d ht (fun h => absurd h hc) (fun _ => kf)
theorem xrt_icmp_eq {x y : Int32} {off : Int} {tgt : Nat} (d : decode (ic M) pc = .ok (.if_icmp .eq off, 3)) (ht : (pc : Int) + off = (tgt : Int)) (hc : x = y) (kt : GX Ω M J tgt ls st σ) : GX Ω M J pc ls (.int y :: .int x :: st) σ := xg_icmp_eq d ht (fun _ => kt) (fun h => absurd hc h)
theorem xrf_icmp_eq {x y : Int32} {off : Int} {tgt : Nat} (d : decode (ic M) pc = .ok (.if_icmp .eq off, 3)) (ht : (pc : Int) + off = (tgt : Int)) (hc : ¬ (x = y)) (kf : GX Ω M J (pc + 3) ls st σ) : GX Ω M J pc ls (.int y :: .int x :: st) σ := xg_icmp_eq d ht (fun h => absurd h hc) (fun _ => kf)
theorem xrt_if_ne {x : Int32} {off : Int} {tgt : Nat} (d : decode (ic M) pc = .ok (.ifCond .ne off, 3)) (ht : (pc : Int) + off = (tgt : Int)) (hc : ¬ x = 0) (kt : GX Ω M J tgt ls st σ) : GX Ω M J pc ls (.int x :: st) σ := xg_if_ne d ht (fun _ => kt) (fun h => absurd h hc)
theorem xrf_if_ne {x : Int32} {off : Int} {tgt : Nat} (d : decode (ic M) pc = .ok (.ifCond .ne off, 3)) (ht : (pc : Int) + off = (tgt : Int)) (hc : x = 0) (kf : GX Ω M J (pc + 3) ls st σ) : GX Ω M J pc ls (.int x :: st) σ := xg_if_ne d ht (fun h => absurd hc h) (fun _ => kf)
theorem xrt_icmp_ne {x y : Int32} {off : Int} {tgt : Nat} (d : decode (ic M) pc = .ok (.if_icmp .ne off, 3)) (ht : (pc : Int) + off = (tgt : Int)) (hc : ¬ x = y) (kt : GX Ω M J tgt ls st σ) : GX Ω M J pc ls (.int y :: .int x :: st) σ := xg_icmp_ne d ht (fun _ => kt) (fun h => absurd h hc)
theorem xrf_icmp_ne {x y : Int32} {off : Int} {tgt : Nat} (d : decode (ic M) pc = .ok (.if_icmp .ne off, 3)) (ht : (pc : Int) + off = (tgt : Int)) (hc : x = y) (kf : GX Ω M J (pc + 3) ls st σ) : GX Ω M J pc ls (.int y :: .int x :: st) σ := xg_icmp_ne d ht (fun h => absurd hc h) (fun _ => kf)
theorem xrt_if_lt {x : Int32} {off : Int} {tgt : Nat} (d : decode (ic M) pc = .ok (.ifCond .lt off, 3)) (ht : (pc : Int) + off = (tgt : Int)) (hc : x < 0) (kt : GX Ω M J tgt ls st σ) : GX Ω M J pc ls (.int x :: st) σ := xg_if_lt d ht (fun _ => kt) (fun h => absurd hc h)
theorem xrf_if_lt {x : Int32} {off : Int} {tgt : Nat} (d : decode (ic M) pc = .ok (.ifCond .lt off, 3)) (ht : (pc : Int) + off = (tgt : Int)) (hc : ¬ (x < 0)) (kf : GX Ω M J (pc + 3) ls st σ) : GX Ω M J pc ls (.int x :: st) σ := xg_if_lt d ht (fun h => absurd h hc) (fun _ => kf)
theorem xrt_icmp_lt {x y : Int32} {off : Int} {tgt : Nat} (d : decode (ic M) pc = .ok (.if_icmp .lt off, 3)) (ht : (pc : Int) + off = (tgt : Int)) (hc : x < y) (kt : GX Ω M J tgt ls st σ) : GX Ω M J pc ls (.int y :: .int x :: st) σ := xg_icmp_lt d ht (fun _ => kt) (fun h => absurd hc h)
theorem xrf_icmp_lt {x y : Int32} {off : Int} {tgt : Nat} (d : decode (ic M) pc = .ok (.if_icmp .lt off, 3)) (ht : (pc : Int) + off = (tgt : Int)) (hc : ¬ (x < y)) (kf : GX Ω M J (pc + 3) ls st σ) : GX Ω M J pc ls (.int y :: .int x :: st) σ := xg_icmp_lt d ht (fun h => absurd h hc) (fun _ => kf)
theorem xrt_if_ge {x : Int32} {off : Int} {tgt : Nat} (d : decode (ic M) pc = .ok (.ifCond .ge off, 3)) (ht : (pc : Int) + off = (tgt : Int)) (hc : 0 ≤ x) (kt : GX Ω M J tgt ls st σ) : GX Ω M J pc ls (.int x :: st) σ := xg_if_ge d ht (fun _ => kt) (fun h => absurd hc h)
theorem xrf_if_ge {x : Int32} {off : Int} {tgt : Nat} (d : decode (ic M) pc = .ok (.ifCond .ge off, 3)) (ht : (pc : Int) + off = (tgt : Int)) (hc : ¬ (0 ≤ x)) (kf : GX Ω M J (pc + 3) ls st σ) : GX Ω M J pc ls (.int x :: st) σ := xg_if_ge d ht (fun h => absurd h hc) (fun _ => kf)
theorem xrt_icmp_ge {x y : Int32} {off : Int} {tgt : Nat} (d : decode (ic M) pc = .ok (.if_icmp .ge off, 3)) (ht : (pc : Int) + off = (tgt : Int)) (hc : y ≤ x) (kt : GX Ω M J tgt ls st σ) : GX Ω M J pc ls (.int y :: .int x :: st) σ := xg_icmp_ge d ht (fun _ => kt) (fun h => absurd hc h)
theorem xrf_icmp_ge {x y : Int32} {off : Int} {tgt : Nat} (d : decode (ic M) pc = .ok (.if_icmp .ge off, 3)) (ht : (pc : Int) + off = (tgt : Int)) (hc : ¬ (y ≤ x)) (kf : GX Ω M J (pc + 3) ls st σ) : GX Ω M J pc ls (.int y :: .int x :: st) σ := xg_icmp_ge d ht (fun h => absurd h hc) (fun _ => kf)
theorem xrt_if_gt {x : Int32} {off : Int} {tgt : Nat} (d : decode (ic M) pc = .ok (.ifCond .gt off, 3)) (ht : (pc : Int) + off = (tgt : Int)) (hc : 0 < x) (kt : GX Ω M J tgt ls st σ) : GX Ω M J pc ls (.int x :: st) σ := xg_if_gt d ht (fun _ => kt) (fun h => absurd hc h)
theorem xrf_if_gt {x : Int32} {off : Int} {tgt : Nat} (d : decode (ic M) pc = .ok (.ifCond .gt off, 3)) (ht : (pc : Int) + off = (tgt : Int)) (hc : ¬ (0 < x)) (kf : GX Ω M J (pc + 3) ls st σ) : GX Ω M J pc ls (.int x :: st) σ := xg_if_gt d ht (fun h => absurd h hc) (fun _ => kf)
theorem xrt_icmp_gt {x y : Int32} {off : Int} {tgt : Nat} (d : decode (ic M) pc = .ok (.if_icmp .gt off, 3)) (ht : (pc : Int) + off = (tgt : Int)) (hc : y < x) (kt : GX Ω M J tgt ls st σ) : GX Ω M J pc ls (.int y :: .int x :: st) σ := xg_icmp_gt d ht (fun _ => kt) (fun h => absurd hc h)
theorem xrf_icmp_gt {x y : Int32} {off : Int} {tgt : Nat} (d : decode (ic M) pc = .ok (.if_icmp .gt off, 3)) (ht : (pc : Int) + off = (tgt : Int)) (hc : ¬ (y < x)) (kf : GX Ω M J (pc + 3) ls st σ) : GX Ω M J pc ls (.int y :: .int x :: st) σ := xg_icmp_gt d ht (fun h => absurd h hc) (fun _ => kf)
theorem xrt_if_le {x : Int32} {off : Int} {tgt : Nat} (d : decode (ic M) pc = .ok (.ifCond .le off, 3)) (ht : (pc : Int) + off = (tgt : Int)) (hc : x ≤ 0) (kt : GX Ω M J tgt ls st σ) : GX Ω M J pc ls (.int x :: st) σ := xg_if_le d ht (fun _ => kt) (fun h => absurd hc h)
theorem xrf_if_le {x : Int32} {off : Int} {tgt : Nat} (d : decode (ic M) pc = .ok (.ifCond .le off, 3)) (ht : (pc : Int) + off = (tgt : Int)) (hc : ¬ (x ≤ 0)) (kf : GX Ω M J (pc + 3) ls st σ) : GX Ω M J pc ls (.int x :: st) σ := xg_if_le d ht (fun h => absurd h hc) (fun _ => kf)
theorem xrt_icmp_le {x y : Int32} {off : Int} {tgt : Nat} (d : decode (ic M) pc = .ok (.if_icmp .le off, 3)) (ht : (pc : Int) + off = (tgt : Int)) (hc : x ≤ y) (kt : GX Ω M J tgt ls st σ) : GX Ω M J pc ls (.int y :: .int x :: st) σ := xg_icmp_le d ht (fun _ => kt) (fun h => absurd hc h)
theorem xrf_icmp_le {x y : Int32} {off : Int} {tgt : Nat} (d : decode (ic M) pc = .ok (.if_icmp .le off, 3)) (ht : (pc : Int) + off = (tgt : Int)) (hc : ¬ (x ≤ y)) (kf : GX Ω M J (pc + 3) ls st σ) : GX Ω M J pc ls (.int y :: .int x :: st) σ := xg_icmp_le d ht (fun h => absurd h hc) (fun _ => kf)
theorem xgn_if_eq {a : Nat} {off : Int} {tgt : Nat} (d : decode (ic M) pc = .ok (.ifCond .eq off, 3)) (ht : (pc : Int) + off = (tgt : Int)) (ha : a < 2 ^ 31) (kt : a = 0 → GX Ω M J tgt ls st σ) (kf : 0 < a → GX Ω M J (pc + 3) ls st σ) : GX Ω M J pc ls (.int (nI a) :: st) σ := xg_if_eq d ht (fun h => kt ((nI_eq ha (by decide)).mp h)) (fun h => kf (Nat.pos_of_ne_zero (fun q => h (by rw [q]; rfl))))
theorem xgt_if_eq {a : Nat} {off : Int} {tgt : Nat} (d : decode (ic M) pc = .ok (.ifCond .eq off, 3)) (ht : (pc : Int) + off = (tgt : Int)) (ha : a < 2 ^ 31) (hc : a = 0) (kt : GX Ω M J tgt ls st σ) : GX Ω M J pc ls (.int (nI a) :: st) σ := xgn_if_eq d ht ha (fun _ => kt) (fun h => absurd h (by omega))
theorem xgf_if_eq {a : Nat} {off : Int} {tgt : Nat} (d : decode (ic M) pc = .ok (.ifCond .eq off, 3)) (ht : (pc : Int) + off = (tgt : Int)) (ha : a < 2 ^ 31) (hc : 0 < a) (kf : GX Ω M J (pc + 3) ls st σ) : GX Ω M J pc ls (.int (nI a) :: st) σ := xgn_if_eq d ht ha (fun h => absurd h (by omega)) (fun _ => kf)
theorem xgn_if_ne {a : Nat} {off : Int} {tgt : Nat} (d : decode (ic M) pc = .ok (.ifCond .ne off, 3)) (ht : (pc : Int) + off = (tgt : Int)) (ha : a < 2 ^ 31) (kt : 0 < a → GX Ω M J tgt ls st σ) (kf : a = 0 → GX Ω M J (pc + 3) ls st σ) : GX Ω M J pc ls (.int (nI a) :: st) σ := xg_if_ne d ht (fun h => kt (Nat.pos_of_ne_zero (fun q => h (by rw [q]; rfl)))) (fun h => kf ((nI_eq ha (by decide)).mp h))
theorem xgt_if_ne {a : Nat} {off : Int} {tgt : Nat} (d : decode (ic M) pc = .ok (.ifCond .ne off, 3)) (ht : (pc : Int) + off = (tgt : Int)) (ha : a < 2 ^ 31) (hc : 0 < a) (kt : GX Ω M J tgt ls st σ) : GX Ω M J pc ls (.int (nI a) :: st) σ := xgn_if_ne d ht ha (fun _ => kt) (fun h => absurd h (by omega))
theorem xgf_if_ne {a : Nat} {off : Int} {tgt : Nat} (d : decode (ic M) pc = .ok (.ifCond .ne off, 3)) (ht : (pc : Int) + off = (tgt : Int)) (ha : a < 2 ^ 31) (hc : a = 0) (kf : GX Ω M J (pc + 3) ls st σ) : GX Ω M J pc ls (.int (nI a) :: st) σ := xgn_if_ne d ht ha (fun h => absurd h (by omega)) (fun _ => kf)
theorem xgn_if_gt {a : Nat} {off : Int} {tgt : Nat} (d : decode (ic M) pc = .ok (.ifCond .gt off, 3)) (ht : (pc : Int) + off = (tgt : Int)) (ha : a < 2 ^ 31) (kt : 0 < a → GX Ω M J tgt ls st σ) (kf : a = 0 → GX Ω M J (pc + 3) ls st σ) : GX Ω M J pc ls (.int (nI a) :: st) σ := xg_if_gt d ht (fun h => kt ((nI_ltI (by decide) ha).mp h)) (fun h => kf (Nat.eq_zero_of_not_pos (fun q => h ((nI_ltI (a := 0) (by decide) ha).mpr q))))
theorem xgt_if_gt {a : Nat} {off : Int} {tgt : Nat} (d : decode (ic M) pc = .ok (.ifCond .gt off, 3)) (ht : (pc : Int) + off = (tgt : Int)) (ha : a < 2 ^ 31) (hc : 0 < a) (kt : GX Ω M J tgt ls st σ) : GX Ω M J pc ls (.int (nI a) :: st) σ := xgn_if_gt d ht ha (fun _ => kt) (fun h => absurd h (by omega))
theorem xgf_if_gt {a : Nat} {off : Int} {tgt : Nat} (d : decode (ic M) pc = .ok (.ifCond .gt off, 3)) (ht : (pc : Int) + off = (tgt : Int)) (ha : a < 2 ^ 31) (hc : a = 0) (kf : GX Ω M J (pc + 3) ls st σ) : GX Ω M J pc ls (.int (nI a) :: st) σ := xgn_if_gt d ht ha (fun h => absurd h (by omega)) (fun _ => kf)
theorem xgn_if_le {a : Nat} {off : Int} {tgt : Nat} (d : decode (ic M) pc = .ok (.ifCond .le off, 3)) (ht : (pc : Int) + off = (tgt : Int)) (ha : a < 2 ^ 31) (kt : a = 0 → GX Ω M J tgt ls st σ) (kf : 0 < a → GX Ω M J (pc + 3) ls st σ) : GX Ω M J pc ls (.int (nI a) :: st) σ := xg_if_le d ht (fun h => kt (Nat.le_zero.mp ((nI_leI ha (by decide)).mp h))) (fun h => kf (Nat.pos_of_ne_zero (fun q => h (by rw [q]; decide))))
theorem xgt_if_le {a : Nat} {off : Int} {tgt : Nat} (d : decode (ic M) pc = .ok (.ifCond .le off, 3)) (ht : (pc : Int) + off = (tgt : Int)) (ha : a < 2 ^ 31) (hc : a = 0) (kt : GX Ω M J tgt ls st σ) : GX Ω M J pc ls (.int (nI a) :: st) σ := xgn_if_le d ht ha (fun _ => kt) (fun h => absurd h (by omega))
theorem xgf_if_le {a : Nat} {off : Int} {tgt : Nat} (d : decode (ic M) pc = .ok (.ifCond .le off, 3)) (ht : (pc : Int) + off = (tgt : Int)) (ha : a < 2 ^ 31) (hc : 0 < a) (kf : GX Ω M J (pc + 3) ls st σ) : GX Ω M J pc ls (.int (nI a) :: st) σ := xgn_if_le d ht ha (fun h => absurd h (by omega)) (fun _ => kf)
theorem xgt_if_ge {a : Nat} {off : Int} {tgt : Nat} (d : decode (ic M) pc = .ok (.ifCond .ge off, 3)) (ht : (pc : Int) + off = (tgt : Int)) (ha : a < 2 ^ 31) (kt : GX Ω M J tgt ls st σ) : GX Ω M J pc ls (.int (nI a) :: st) σ := xg_if_ge d ht (fun _ => kt) (fun h => absurd (nI_pos' ha) h)
theorem xgf_if_lt {a : Nat} {off : Int} {tgt : Nat} (d : decode (ic M) pc = .ok (.ifCond .lt off, 3)) (ht : (pc : Int) + off = (tgt : Int)) (ha : a < 2 ^ 31) (kf : GX Ω M J (pc + 3) ls st σ) : GX Ω M J pc ls (.int (nI a) :: st) σ := xg_if_lt d ht (fun h => absurd h (nI_pos ha)) (fun _ => kf)
theorem xgb_if_eq {b : Bool} {off : Int} {tgt : Nat} (d : decode (ic M) pc = .ok (.ifCond .eq off, 3)) (ht : (pc : Int) + off = (tgt : Int)) (kt : b = false → GX Ω M J tgt ls st σ) (kf : b = true → GX Ω M J (pc + 3) ls st σ) : GX Ω M J pc ls (.int (bI b) :: st) σ := xg_if_eq d ht (fun h => kt (by cases b <;> first | rfl | exact absurd h (by decide))) (fun h => kf (by cases b <;> first | rfl | exact absurd rfl h))
theorem xgb_if_ne {b : Bool} {off : Int} {tgt : Nat} (d : decode (ic M) pc = .ok (.ifCond .ne off, 3)) (ht : (pc : Int) + off = (tgt : Int)) (kt : b = true → GX Ω M J tgt ls st σ) (kf : b = false → GX Ω M J (pc + 3) ls st σ) : GX Ω M J pc ls (.int (bI b) :: st) σ := xg_if_ne d ht (fun h => kt (by cases b <;> first | rfl | exact absurd rfl h)) (fun h => kf (by cases b <;> first | rfl | exact absurd h (by decide)))
end
