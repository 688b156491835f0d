/-! Calls that may throw, and their catching. -/
def ET (hh : List (Nat × Nat × Nat × Nat)) (B : Nat) (l : Launch) (s : State) (c : Code) (_ : Array Value) : Prop := l.stackTraces = false ∧ c.exceptionTable.toList = tableOf hh ∧ TK B s
/-- M, which has a table of its own, returns with K -/
def MetY (Ω : Nat × Nat) (M : MI) (hh : List (Nat × Nat × Nat × Nat)) (av : List Value) (σ : Mm) (K : Option Value → Mm → Prop) : Prop :=
  ∀ (l : Launch), l.stackTraces = false → ∀ (B : Nat) (D : va_G) (cA : Nat → ClassId), vx_Met l (iy M) (.codeWith (iy M) (ic M) (il M) (ir M) hh :: tbG) (rmX M (1, 6)) (va_Pc (av.map (cv B)) (fun U => va_P D vwCl (wld Ω B cA σ) U.heap ∧ KW D cA U ∧ TK B U)) (QK Ω B D cA K) (QX Ω B D cA (fun _ _ => False)) 1 6 (fun q => B + Ω.1 ≤ q)
theorem GX.metY {Ω : Nat × Nat} {M : MI} {hh : List (Nat × Nat × Nat × Nat)} {av : List Value} {σ : Mm} {K : Option Value → Mm → Prop} (hy : plainName (iy M).cls = true) (hlen : (lg_sl av).length ≤ il M) (h : GX Ω M (((1, 6), (0, 0)), ET hh, K, fun _ _ => False) 0 (ls0 av (il M)) [] σ) : MetY Ω M hh av σ K := by
  intro l hl B D cA
  refine vx_ofWH (cc := ic M) (maxL := il M) (ret := ir M) (hh := hh) hy rfl ?_
  intro p e s m args below meth c s₁ B0 hml hv
  obtain ⟨rfl, hP, ⟨hK, hNs⟩, hT⟩ := hv
  have hts := atoms_spec (ws := .codeWith (iy M) (ic M) (il M) (ir M) hh :: tbG) B0.pre
  have htab := vx_table (x := iy M) B0 (hts _ List.mem_cons_self)
  rw [lg_entry_eq]
  exact h B D cA p l e s m _ below meth c s.heap [] _ ⟨B0.exec, B0.bytes, hml, findClass_of_methodNamed B0.named, B0.returns, B0.notSynchronized, fun w hw => hts w (List.mem_cons_of_mem _ hw), hK, hNs⟩ ⟨hl, htab, hT⟩ hP va_S.rf (lvR_entry hlen)
def jS (J : JX) : JX := ((J.1.1, (J.1.2.1 + 1, J.1.2.2 + 6)), J.2)
/-- something of class E flies at pc -/
def GT (Ω : Nat × Nat) (M : MI) (J : JX) (pc : Nat) (ls : List (Option Value)) (E : String) (σ : Mm) : Prop :=
  ∀ (B : Nat) (D : va_G) (cA : Nat → ClassId) (p : Program) (l : Launch) (e : Env) (s : State) (m : MethodId) (args : Array Value) (below : List Frame) (meth : Method) (c : Code) (H : Heap) (locs : List Loc) (la : Array Slot) (q : Addr) (ce : Cell) (rest : List Value),
    Cx M D cA p s m args meth c → J.2.1 B l s c args → va_P D vwCl (wld Ω B cA σ) H → va_S (fun q => B + Ω.1 ≤ q) s.heap H locs → lvR B la (il M) ls → H[q]? = some ce → ce.vm = .none → s.vm.findClass E = some ce.cls →
    vx_W p l e (rmX M J.1.1) s m args below meth c H locs J.1.2.1 J.1.2.2 (vx_MQ below (QK Ω B D cA J.2.2.1) (QX Ω B D cA J.2.2.2) args s J.1.1.1 J.1.1.2 (fun q => B + Ω.1 ≤ q)) (F0 m pc la rest) q
theorem pre_blindX {Ω : Nat × Nat} {σ : Mm} {B : Nat} {D : va_G} {cA : Nat → ClassId} {av : List Value} : FrameBlind (va_Pc (av.map (cv B)) (fun U => va_P D vwCl (wld Ω B cA σ) U.heap ∧ KW D cA U ∧ TK B U)) := by
  intro a U g mk q
  obtain ⟨q0, qP, ⟨qK, qN⟩, qT⟩ := q
  exact ⟨q0, qP, ⟨va_K.moved (u := U) (U := U.calling g mk a) (Vm.Alike.refl U.vm) qK, fun w hw => va_Nw.same rfl (u := U) (U := U.calling g mk a) rfl (qN w hw)⟩, TK.moved (s := U) (U := U.calling g mk a) (State.WarmedH.refl U) (fun _ _ _ => rfl) qT⟩
theorem pre_holdX {Ω : Nat × Nat} {σ : Mm} {B : Nat} {D : va_G} {cA : Nat → ClassId} {av : List Value} {s : State} {H : Heap} {locs : List Loc} (hP : va_P D vwCl (wld Ω B cA σ) H) (hK : va_K D vwCl (tysL cA) s) (hNs : NsK s) (hS : va_S (fun q => B + Ω.1 ≤ q) s.heap H locs) (hT : TK B s) : ∀ U : State, U.heap = H → s.WarmedH U.vm → va_Pc (av.map (cv B)) (fun U => va_P D vwCl (wld Ω B cA σ) U.heap ∧ KW D cA U ∧ TK B U) (av.map (cv B)).toArray U :=
  fun U hU hW => ⟨rfl, by rw [hU]; exact hP, ⟨va_K.moved hW.alike hK, hNs.moved hW⟩, TK.moved hW (fun a h1 h2 => by rw [hU]; exact hS.2.1 a h1 (fun h3 => h2 (Nat.le_trans (Nat.le_add_right _ _) h3))) hT⟩
theorem xg_callX {Ω : Nat × Nat} {M N : MI} {J : JX} {K' : Option Value → Mm → Prop} {X' : String → Mm → Prop} {pc idx n : Nat} {ls : List (Option Value)} {rest As : List Value} {σ : Mm} {ci nf a : Nat} (d : decode (ic M) pc = .ok (.invokevirtual idx, 3)) (lk : lkV (iy M).cls idx N ci n) (hfit : fitR M N = true) (ha : kw Ω a = (ci, nf)) (hci : ci < 20) (hn : As.length = n) (hst : (rest.map fun v => v.category).sum ≤ 8)
    (hEE : ∀ B l s c args, J.2.1 B l s c args → l.stackTraces = false ∧ TK B s) (hcap : J.1.2.1 + 1 ≤ J.1.1.1 ∧ J.1.2.2 + 6 ≤ J.1.1.2) (hM : MetX Ω N (.ref a :: As) σ K' X')
    (k : ∀ v σ', K' v σ' → GX Ω M (jS J) (pc + 3) ls (v.toList ++ rest) σ') (kx : ∀ E σ', X' E σ' → GT Ω M (jS J) pc ls E σ') : GX Ω M J pc ls (As.reverse ++ .ref a :: rest) σ := by
  intro B D cA p l e s m args below meth c H locs la C hE hP hS hl
  have C0 := C
  obtain ⟨hx, hb, hml, hown, hret, hlocks, hts, hK, hNs⟩ := C
  obtain ⟨hlc, h1, h2, h3, q, hq, hqn⟩ := lk
  obtain ⟨g1, g2, g3⟩ := kw_in ha (by show ci ≠ 99; omega)
  obtain ⟨htr, hTK⟩ := hEE B l s c args hE
  have cb := callB_of (R := rmX M J.1.1) (s := s) (args := args) (own := (iy M).cls) (index := idx) (rm := rmX N (1, 6)) (mc := 1) (ms := 6) n hts (wsM_good hlc) rfl rfl rfl (hts _ hlc.2.1) (hts _ h1) hlc.2.2 (fitR_spec hfit)
  have hrec := va_recv hK hP (ci := ci) (q0 := a - Ω.1) (a := B + a) hq (by rw [wld_at g1 g2, ent_obj g3 hci])
  rw [hqn] at hrec
  have hs : (As.reverse ++ .ref a :: rest).map (cv B) = (As.map (cv B)).reverse ++ .ref (B + a) :: rest.map (cv B) := by
    rw [List.map_append, List.map_reverse]; rfl
  rw [hs]
  have hr := vx_runV (g := F0 m pc la ((As.map (cv B)).reverse ++ .ref (B + a) :: rest.map (cv B))) (below := below) (p := p) (e := e) (meth := meth) (locs := locs) (C := (iy N).cls) (b := B + a) (As := As.map (cv B)) ⟨hx, hb, hml, hown, hts⟩ (hM l htr B D cA) ⟨cb, hts _ h2, hts _ h3⟩ ⟨pre_blindX, hrec, pre_holdX (av := .ref a :: As) hP hK hNs hS hTK⟩ rfl (by rw [List.length_map]; exact hn) hl.1 rfl (lv_room (by rw [sum_cat]; exact hst)) d hcap
  intro T hT X
  rcases hr T hT X with ⟨v, st₀, t, T', L, h0, X', hL, e1, e2, ⟨⟨v1, σ', hv, hk, hP1⟩, hz, hkk⟩, stp⟩ | ⟨q9, st₀, t, T', L, E, ce, h0, X', hL, e1, e2, ⟨σ', hk, hP1, hz, hkk⟩, hce, hcv, hcl, stp⟩
  · cases hv
    rw [h0] at hz hkk
    have hS1 : va_S (fun q => B + Ω.1 ≤ q) s.heap T'.heap (locs ++ L) := ⟨Nat.le_trans hS.1 (by rw [e1]; exact hz), fun q h1 h2 => by rw [e1, hkk q (Nat.lt_of_lt_of_le h1 hS.1) h2]; exact hS.2.1 q h1 h2, fun q hq => by
      rcases List.mem_append.mp hq with h | h
      · exact hS.2.2 q h
      · exact hL q h⟩
    obtain ⟨t2, a1, b1⟩ := k v1 σ' hk B D cA p l e s m args below meth c T'.heap (locs ++ L) la C0 hE (by rw [e1]; exact hP1) hS1 hl T' rfl X'
    refine ⟨t2, stp t2 ?_, b1⟩
    have hh : (v1.map (cv B)).toList ++ rest.map (cv B) = (v1.toList ++ rest).map (cv B) := by cases v1 <;> rfl
    rw [hh]
    exact a1
  · rw [h0] at hz hkk
    have hS1 : va_S (fun q => B + Ω.1 ≤ q) s.heap T'.heap (locs ++ L) := ⟨Nat.le_trans hS.1 (by rw [e1]; exact hz), fun q h1 h2 => by rw [e1, hkk q (Nat.lt_of_lt_of_le h1 hS.1) h2]; exact hS.2.1 q h1 h2, fun q hq => by
      rcases List.mem_append.mp hq with h | h
      · exact hS.2.2 q h
      · exact hL q h⟩
    obtain ⟨t2, a1, b1⟩ := kx E σ' hk B D cA p l e s m args below meth c T'.heap (locs ++ L) la q9 ce (rest.map (cv B)) C0 hE (by rw [e1]; exact hP1) hS1 hl (by rw [e1]; exact hce) hcv hcl T' rfl X'
    exact ⟨t2, stp.trans a1, b1⟩
theorem lvR_st0 {B : Nat} {la : Array Slot} {n i : Nat} {x : Value} {ls : List (Option Value)} (h : nl2 ls i = true) (hs : lv_has la n ((i, x) :: (lvA B ls).filter (fun q => !(q.1 == i) && !(q.1 + 1 == i && q.2.category == 2)))) : lvR B la n (ls.set i none) := by
  refine ⟨hs.1, hs.2.1, fun j v hj => ?_⟩
  rw [List.getElem?_set] at hj
  split at hj
  · split at hj <;> cases hj
  · next hij =>
    refine hs.2.2 (j, cv B v) (List.mem_cons_of_mem _ (List.mem_filter.mpr ⟨lvA_mem hj, ?_⟩))
    have h1 : (j == i) = false := by simpa using fun q => hij q.symm
    rw [h1]
    by_cases h2 : j + 1 = i
    · subst h2
      have h3 := nl2_spec h hj
      simp [cv_cat, h3]
    · have h4 : (j + 1 == i) = false := by simpa using h2
      rw [h4]; rfl
section
variable {Ω : Nat × Nat} {M : MI} {R9 : (Nat × Nat) × (Nat × Nat)} {hh : List (Nat × Nat × Nat × Nat)} {K : Option Value → Mm → Prop} {X : String → Mm → Prop} {pc i : Nat} {ls : List (Option Value)} {E : String} {σ : Mm}
theorem xg_catch (pre : List ExceptionTableEntry) (x : ExceptionTableEntry) (suf : List ExceptionTableEntry) (htab : tableOf hh = pre ++ x :: suf) (hpass : ∀ z ∈ pre, covers z pc = false ∨ (z.catchType ≠ 0 ∧ Cond.classLink (iy M).cls z.catchType xIA ∈ tbG ∧ E = xIS)) (hx : covers x pc = true) (h0 : x.catchType ≠ 0) (hlink : Cond.classLink (iy M).cls x.catchType E ∈ tbG) (hE : E = xIA ∨ E = xIS) (d : decode (ic M) x.handlerPc = .ok (.astore i, 2)) (hok : okS M ls i = true) (k : GX Ω M (R9, ET hh, K, X) (x.handlerPc + 2) (ls.set i none) [] σ) : GT Ω M (R9, ET hh, K, X) pc ls E σ := by
  intro B D cA p l e s m args below meth c H locs la q ce rest C hEE hP hS hl hc1 hc2 hc3
  have C0 := C
  obtain ⟨hx9, hb, hml, hown, hret, hlocks, hts, hK, hNs⟩ := C
  obtain ⟨o1, o2, o3⟩ := okS_1 hok
  have hT := hEE.2.2
  refine vx_catch (own := (iy M).cls) (name := E) hown pre x suf (hEE.2.1.trans htab) (fun z hz => ?_) hx h0 (hts _ hlink) ?_ hc1 hc2 hc3 ?_
  · rcases hpass z hz with h | ⟨h1, h2, h3⟩
    · exact Or.inl h
    · exact Or.inr ⟨h1, xIA, hts _ h2, by rw [h3]; exact hT.2.2.2.1⟩
  · rcases hE with rfl | rfl
    · exact va_Nw.use rfl hT.2.1
    · exact va_Nw.use rfl hT.2.2.1
  · exact lv_astore hx9 hb d (lvA_has hl) o1 rfl (fun la2 hl2 => k B D cA p l e s m args below meth c H locs la2 C0 hEE hP hS (lvR_st0 o2 hl2))
theorem xg_catch_n {q9 : Fin 4} (pre : List ExceptionTableEntry) (x : ExceptionTableEntry) (suf : List ExceptionTableEntry) (htab : tableOf hh = pre ++ x :: suf) (hpass : ∀ z ∈ pre, covers z pc = false ∨ (z.catchType ≠ 0 ∧ Cond.classLink (iy M).cls z.catchType xIA ∈ tbG ∧ E = xIS)) (hx : covers x pc = true) (h0 : x.catchType ≠ 0) (hlink : Cond.classLink (iy M).cls x.catchType E ∈ tbG) (hE : E = xIA ∨ E = xIS) (d : decode (ic M) x.handlerPc = .ok (.astore_n q9, 1)) (hok : okS M ls (q9 : Nat) = true) (k : GX Ω M (R9, ET hh, K, X) (x.handlerPc + 1) (ls.set (q9 : Nat) none) [] σ) : GT Ω M (R9, ET hh, K, X) pc ls E σ := by
  intro B D cA p l e s m args below meth c H locs la q ce rest C hEE hP hS hl hc1 hc2 hc3
  have C0 := C
  obtain ⟨hx9, hb, hml, hown, hret, hlocks, hts, hK, hNs⟩ := C
  obtain ⟨o1, o2, o3⟩ := okS_1 hok
  have hT := hEE.2.2
  refine vx_catch (own := (iy M).cls) (name := E) hown pre x suf (hEE.2.1.trans htab) (fun z hz => ?_) hx h0 (hts _ hlink) ?_ hc1 hc2 hc3 ?_
  · rcases hpass z hz with h | ⟨h1, h2, h3⟩
    · exact Or.inl h
    · exact Or.inr ⟨h1, xIA, hts _ h2, by rw [h3]; exact hT.2.2.2.1⟩
  · rcases hE with rfl | rfl
    · exact va_Nw.use rfl hT.2.1
    · exact va_Nw.use rfl hT.2.2.1
  · exact lv_astore_n hx9 hb d rfl (lvA_has hl) o1 rfl (fun la2 hl2 => k B D cA p l e s m args below meth c H locs la2 C0 hEE hP hS (lvR_st0 o2 hl2))
end
