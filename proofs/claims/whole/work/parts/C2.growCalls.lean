/-! Constructors' contracts, and calls out of a constructor. -/
def MetN (M : MI) (av : List Value) (z : Nw) (q : Nat × Nat) (K : Nw → Prop) : Prop :=
  ∀ (l : Launch) (B : Nat) (D : va_G) (cA : Nat → ClassId), Met l (iy M) (wsM M) (rmX M q) (va_Pc (av.map (cv B)) (fun U => va_P D vwCl (wN B cA z) U.heap ∧ KW D cA U ∧ U.heap.size = B + z.1 ∧ AOK U)) (QN B D cA K) q.1 q.2 (fun q => B ≤ q)
theorem GN.met {M : MI} {av : List Value} {n : Nat} {ν : Nat → Nat → Bool} {σ : Mm} {q : Nat × Nat} {K : Nw → Prop} (hy : plainName (iy M).cls = true) (hi : (iy M).name = "<init>") (hlen : (lg_sl av).length ≤ il M) (h : GN M ((q, (0, 0)), n, K) 0 (ls0 av (il M)) [] (n, ν, σ)) : MetN M av (n, ν, σ) q K := by
  intro l B D cA
  refine Met.ofW (cc := ic M) (maxL := il M) (ret := ir M) hy rfl ?_
  intro p e s m args below meth c s₁ B0 hml hv
  obtain ⟨rfl, hP, ⟨hK, hNs⟩, hz, hA⟩ := hv
  have hts := atoms_spec (ws := wsM M) B0.pre
  rw [lg_entry_eq]
  exact h B D cA p l e s m _ below meth c s.heap [] _ ⟨B0.exec, B0.bytes, hml, findClass_of_methodNamed B0.named, B0.returns, B0.notSynchronized, fun w hw => hts w (List.mem_cons_of_mem _ hw), hK, hNs⟩ ⟨hz, (name_of_methodNamed B0.named B0.method).1.trans hi, hA⟩ hP va_S.rf (lvR_entry hlen)
theorem GN.st {M : MI} {J : JN} {pc : Nat} {ls : List (Option Value)} {st : List Value} {z z' : Nw} (h : z' = z) (k : GN M J pc ls st z') : GN M J pc ls st z := h ▸ k
theorem nw_eq {n n' : Nat} {ν ν' : Nat → Nat → Bool} {σ σ' : Mm} (h1 : n = n') (h2 : ν = ν') (h3 : σ = σ') : ((n, ν, σ) : Nw) = (n', ν', σ') := by subst h1; subst h2; subst h3; rfl
theorem AOK.moved {u U : State} (hvm : u.vm.Alike U.vm) (h : AOK u) : AOK U := fun C hC => va_AO.moved hvm (h C hC)
theorem pre_blindN {z : Nw} {B : Nat} {D : va_G} {cA : Nat → ClassId} {av : List Value} : FrameBlind (va_Pc (av.map (cv B)) (fun U => va_P D vwCl (wN B cA z) U.heap ∧ KW D cA U ∧ U.heap.size = B + z.1 ∧ AOK U)) := by
  intro a U g mk q
  obtain ⟨q0, qP, ⟨qK, qN⟩, qz, qA⟩ := q
  exact ⟨q0, qP, ⟨va_K.moved (u := U) (U := U.calling g mk a) (Vm.Alike.refl U.vm) qK, fun w hw => va_Nw.same rfl (u := U) (U := U.calling g mk a) rfl (qN w hw)⟩, qz, AOK.moved (u := U) (U := U.calling g mk a) (Vm.Alike.refl U.vm) qA⟩
theorem pre_holdN {z : Nw} {B : Nat} {D : va_G} {cA : Nat → ClassId} {av : List Value} {s : State} {H : Heap} (hP : va_P D vwCl (wN B cA z) H) (hK : va_K D vwCl (tysL cA) s) (hNs : NsK s) (hz : H.size = B + z.1) (hA : AOK s) : ∀ U : State, U.heap = H → s.WarmedH U.vm → va_Pc (av.map (cv B)) (fun U => va_P D vwCl (wN B cA z) U.heap ∧ KW D cA U ∧ U.heap.size = B + z.1 ∧ AOK U) (av.map (cv B)).toArray U :=
  fun U hU hW => ⟨rfl, by rw [hU]; exact hP, ⟨va_K.moved hW.alike hK, hNs.moved hW⟩, by rw [hU]; exact hz, hA.moved hW.alike⟩
def lkI (own : String) (idx : Nat) (N : MI) (n : Nat) : Prop := lkC N n ∧ (Cond.methodLink own idx (iy N) ∈ tbG ∨ ∃ host, (own, idx, iy N, host) ∈ nestL) ∧ (iy N).name = "<init>" ∧ Cond.instanceMethod (iy N) ∈ tbG ∧ ir N = none
def fitN (M N : MI) : Bool := decide (ifr N + 1 ≤ ifr M) && decide (8 + (il N + 11) + ilw N ≤ ilw M)
theorem fitN_spec {M N : MI} {q : Nat × Nat} {q' : Nat × Nat} (h : fitN M N = true) : (rmX N q).frames + 1 ≤ (rmX M q').frames ∧ 8 + (il N + 11) + (rmX N q).locals ≤ (rmX M q').locals := by
  unfold fitN at h
  rw [Bool.and_eq_true] at h
  exact ⟨of_decide_eq_true h.1, of_decide_eq_true h.2⟩
section
variable {M N : MI} {R : Nat × Nat} {u us n0 : Nat} {K : Nw → Prop} {K' : Nw → Prop} {pc idx na : Nat} {ls : List (Option Value)} {rest As : List Value} {n : Nat} {ν : Nat → Nat → Bool} {σ : Mm}
theorem ng_run {p : Program} {l : Launch} {e : Env} {s : State} {m : MethodId} {args : Array Value} {below : List Frame} {meth : Method} {c : Code} {H : Heap} {locs : List Loc} {la : Array Slot} {B : Nat} {D : va_G} {cA : Nat → ClassId} {st0 : List Value} {a : Array Value} {q : Nat × Nat}
    (C : Cx M D cA p s m args meth c) (hE : EN B n0 s meth) (hS : va_S (fun q => B ≤ q) s.heap H locs) (hl : lvR B la (il M) ls)
    (hr : va_Run p l e (rmX M R) s m args below meth c H locs u us q.1 q.2 (F0 m pc la st0) (rest.map (cv B)) (QN B D cA K' a) (fun q => B ≤ q))
    (k : ∀ z', K' z' → GN M ((R, (u + q.1, us + q.2)), n0, K) (pc + 3) ls rest z') : W p l e (rmX M R) s m args below meth c H locs u us (MQ below (QN B D cA K) args s R.1 R.2 (fun q => B ≤ q)) (F0 m pc la st0) := by
  intro T hT X
  obtain ⟨v, st₀, t, T', L, h0, X', hL, e1, e2, ⟨⟨z', hv, hk, hP1⟩, hz, hkk⟩, stp⟩ := hr T hT X
  cases hv
  rw [h0] at hz hkk
  have hS1 : va_S (fun q => B ≤ q) s.heap T'.heap (locs ++ L) := ⟨Nat.le_trans hS.1 (by rw [e1]; exact hz), fun q h1 h2 => by rw [e1, hkk q (Nat.lt_of_lt_of_le h1 hS.1) h2]; exact hS.2.1 q h1 h2, fun q hq => by
      rcases List.mem_append.mp hq with h | h
      · exact hS.2.2 q h
      · exact hL q h⟩
  obtain ⟨t2, a1, b1⟩ := k z' hk B D cA p l e s m args below meth c T'.heap (locs ++ L) la C hE (by rw [e1]; exact hP1) hS1 hl T' rfl X'
  exact ⟨t2, stp t2 a1, b1⟩
/-- a constructor's call -/
theorem ng_init {a : Nat} {q : Nat × Nat} (d : decode (ic M) pc = .ok (.invokespecial idx, 3)) (lk : lkI (iy M).cls idx N na) (hfit : fitN M N = true) (hn : As.length = na) (hst : (rest.map fun v => v.category).sum ≤ 8) (hu : n0 + u = n) (h0 : 0 < n) (hcap : u + q.1 ≤ R.1 ∧ us + q.2 ≤ R.2)
    (hM : MetN N (.ref a :: As) (n, ν, σ) q K') (k : ∀ z', K' z' → GN M ((R, (u + q.1, us + q.2)), n0, K) (pc + 3) ls rest z') : GN M ((R, (u, us)), n0, K) pc ls (As.reverse ++ .ref a :: rest) (n, ν, σ) := by
  intro B D cA p l e s m args below meth c H locs la C hE hP hS hl
  have C0 := C
  obtain ⟨hx, hb, hml, hown, hret, hlocks, hts, hK, hNs⟩ := C
  obtain ⟨hlc, h1, h2, h3, h4⟩ := lk
  refine sizedN hP hE.1 hu h0 (fun hz => ?_)
  have hs : (As.reverse ++ .ref a :: rest).map (cv B) = (As.map (cv B)).reverse ++ .ref (B + a) :: rest.map (cv B) := by
    rw [List.map_append, List.map_reverse]; rfl
  rw [hs]
  have hw0 : wsM N = Cond.code (iy N) (ic N) (il N) none :: tbG := by unfold wsM; rw [h4]
  have hPc : PreS s H (va_Pc ((.ref a :: As).map (cv B)) (fun U => va_P D vwCl (wN B cA (n, ν, σ)) U.heap ∧ KW D cA U ∧ U.heap.size = B + (n, ν, σ).1 ∧ AOK U)) (.ref (B + a) :: As.map (cv B)) := ⟨pre_blindN, pre_holdN (av := .ref a :: As) hP hK hNs hz hE.2.2⟩
  rcases h1 with h1 | ⟨host, h1⟩
  · have cb := callB_of (R := rmX M R) (s := s) (args := args) (own := (iy M).cls) (index := idx) (rm := rmX N q) (mc := q.1) (ms := q.2) na hts (wsM_good hlc) hw0 rfl rfl (hts _ hlc.2.1) (hts _ h1) hlc.2.2 (fitN_spec hfit)
    exact ng_run C0 hE hS hl (va_runI (As := As.map (cv B)) ⟨hx, hb, hml, hown, hts⟩ (hM l B D cA) ⟨cb, h2, hts _ h3⟩ hPc rfl (by rw [List.length_map]; exact hn) hl.1 rfl (lv_room (by rw [sum_cat]; exact hst)) d hcap) k
  · have cb := va_cnB (R := rmX M R) (s := s) (args := args) (own := (iy M).cls) (index := idx) (host := host) (rm := rmX N q) (mc := q.1) (ms := q.2) na hts (wsM_good hlc) hw0 rfl rfl (hNs _ h1) (hts _ hlc.2.1) hlc.2.2 (fitN_spec hfit)
    exact ng_run C0 hE hS hl (va_runIN (As := As.map (cv B)) ⟨hx, hb, hml, hown, hts⟩ (hM l B D cA) ⟨cb, h2, hts _ h3⟩ hPc rfl (by rw [List.length_map]; exact hn) hl.1 rfl (lv_room (by rw [sum_cat]; exact hst)) d hcap) k
theorem entN_full {B : Nat} {cA : Nat → ClassId} {z : Nw} {a : Nat} (h : ∀ k, z.2.1 a k = true) : entN B cA z a = ent B cA z.2.2 a := by
  have hf : fvN B z a (kd a).1 = fval B z.2.2 a (kd a).1 := by
    funext k
    unfold fvN fval
    rw [h k, if_pos rfl]
  have hr : (fun j => if z.2.1 a j = true then some (B + rf a j) else none) = fun j => some (B + rf a j) := by
    funext j
    rw [h j, if_pos rfl]
  unfold entN ent
  rw [hf, hr]
/-- the upper part of the world, whole -/
theorem wN_wld {B lo : Nat} {D : va_G} {cA : Nat → ClassId} {H : Heap} (hν : ∀ b k, lo ≤ b → b < n → ν b k = true) (hP : va_P D vwCl (wN B cA (n, ν, σ)) H) : va_P D vwCl (wld (lo, n) B cA σ) H := by
  intro k q hk
  have hl : k < n - lo := by
    have := (List.getElem?_eq_some_iff.mp hk).1
    simpa only [wld, List.length_map, List.length_range] using this
  have e1 := wld_at (Ω := (lo, n)) (B := B) (cA := cA) (σ := σ) (a := lo + k) (by show lo ≤ lo + k; omega) (by show lo + k < n; omega)
  rw [show lo + k - (lo, n).1 = k by show lo + k - lo = k; omega] at e1
  rw [e1] at hk
  cases hk
  rw [← entN_full (z := (n, ν, σ)) (fun j => hν _ j (by omega) (by omega))]
  exact hP (lo + k) _ (wN_at (z := (n, ν, σ)) (by show lo + k < n; omega))
theorem wN_back {B lo : Nat} {D : va_G} {cA : Nat → ClassId} {H H1 : Heap} {τ : Mm} (hν : ∀ b k, lo ≤ b → b < n → ν b k = true) (hP : va_P D vwCl (wN B cA (n, ν, σ)) H) (h1 : va_P D vwCl (wld (lo, n) B cA τ) H1) (hk : ∀ q : Nat, q < H.size → ¬ B + lo ≤ q → H1[q]? = H[q]?) (hτ : ∀ b, b < lo → τ.1 b = σ.1 b ∧ τ.2 b = σ.2 b) : va_P D vwCl (wN B cA (n, ν, τ)) H1 := by
  intro k q hq
  have hl : k < n := by
    have := (List.getElem?_eq_some_iff.mp hq).1
    simpa only [wN, List.length_map, List.length_range] using this
  rw [wN_at (z := (n, ν, τ)) hl] at hq
  cases hq
  by_cases hlo : lo ≤ k
  · rw [entN_full (z := (n, ν, τ)) (fun j => hν _ j hlo hl)]
    exact h1 (k - lo) _ (by have := wld_at (Ω := (lo, n)) (B := B) (cA := cA) (σ := τ) (a := k) hlo hl; exact this)
  · have e1 : entN B cA (n, ν, τ) k = entN B cA (n, ν, σ) k := entN_cg (fun _ => rfl) (hτ k (by omega)).1 (hτ k (by omega)).2
    rw [e1]
    have h2 := hP k _ (wN_at (z := (n, ν, σ)) hl)
    have h3 := h2.lt
    exact va_at.kept h2 (hk (B + k) h3 (by omega))
/-- a call of a method over the upper part -/
theorem ng_call {lo : Nat} {Kc : Option Value → Mm → Prop} {p : Program} {l : Launch} {e : Env} {s : State} {m : MethodId} {args : Array Value} {below : List Frame} {meth : Method} {c : Code} {H : Heap} {locs : List Loc} {la : Array Slot} {B : Nat} {D : va_G} {cA : Nat → ClassId} {st0 : List Value} {a : Array Value}
    (C : Cx M D cA p s m args meth c) (hE : EN B n0 s meth) (hP : va_P D vwCl (wN B cA (n, ν, σ)) H) (hS : va_S (fun q => B ≤ q) s.heap H locs) (hl : lvR B la (il M) ls) (hν : ∀ b k, lo ≤ b → b < n → ν b k = true)
    (hr : va_Run p l e (rmX M R) s m args below meth c H locs u us 0 0 (F0 m pc la st0) (rest.map (cv B)) (QK (lo, n) B D cA Kc a) (fun q => B + (lo, n).1 ≤ q))
    (k : ∀ v τ, Kc v τ → (∀ b, b < lo → τ.1 b = σ.1 b ∧ τ.2 b = σ.2 b) ∧ GN M ((R, (u, us)), n0, K) (pc + 3) ls (v.toList ++ rest) (n, ν, τ)) : W p l e (rmX M R) s m args below meth c H locs u us (MQ below (QN B D cA K) args s R.1 R.2 (fun q => B ≤ q)) (F0 m pc la st0) := by
  intro T hT X
  obtain ⟨v, st₀, t, T', L, h0, X', hL, e1, e2, ⟨⟨v1, τ, hv, hk, hP1⟩, hz, hkk⟩, stp⟩ := hr T hT X
  cases hv
  rw [h0] at hz hkk
  obtain ⟨hτ, kk⟩ := k v1 τ hk
  have hS1 : va_S (fun q => B ≤ q) s.heap T'.heap (locs ++ L) := ⟨Nat.le_trans hS.1 (by rw [e1]; exact hz), fun q h1 h2 => by rw [e1, hkk q (Nat.lt_of_lt_of_le h1 hS.1) (fun h3 => h2 (Nat.le_trans (Nat.le_add_right _ _) h3))]; exact hS.2.1 q h1 h2, fun q hq => by
      rcases List.mem_append.mp hq with h | h
      · exact hS.2.2 q h
      · exact Nat.le_trans (Nat.le_add_right _ _) (hL q h)⟩
  obtain ⟨t2, a1, b1⟩ := kk B D cA p l e s m args below meth c T'.heap (locs ++ L) la C hE (by rw [e1]; exact wN_back hν hP hP1 hkk hτ) hS1 hl T' rfl X'
  refine ⟨t2, stp t2 ?_, b1⟩
  have hh : (v1.map (cv B)).toList ++ rest.map (cv B) = (v1.toList ++ rest).map (cv B) := by cases v1 <;> rfl
  rw [hh]
  exact a1
theorem fitN_spec0 {M N : MI} {q' : Nat × Nat} (h : fitN M N = true) : (rmM N).frames + 1 ≤ (rmX M q').frames ∧ 8 + (il N + 11) + (rmM N).locals ≤ (rmX M q').locals := by
  unfold fitN at h
  rw [Bool.and_eq_true] at h
  exact ⟨of_decide_eq_true h.1, of_decide_eq_true h.2⟩
theorem ng_callS {lo : Nat} {Kc : Option Value → Mm → Prop} (d : decode (ic M) pc = .ok (.invokestatic idx, 3)) (lk : lkS (iy M).cls idx N na) (hfit : fitN M N = true) (hcap : u ≤ R.1 ∧ us ≤ R.2) (hn : As.length = na) (hst : (rest.map fun v => v.category).sum ≤ 8) (hν : ∀ b k, lo ≤ b → b < n → ν b k = true)
    (hM : MetM (lo, n) N As σ Kc) (k : ∀ v τ, Kc v τ → (∀ b, b < lo → τ.1 b = σ.1 b ∧ τ.2 b = σ.2 b) ∧ GN M ((R, (u, us)), n0, K) (pc + 3) ls (v.toList ++ rest) (n, ν, τ)) : GN M ((R, (u, us)), n0, K) pc ls (As.reverse ++ rest) (n, ν, σ) := by
  intro B D cA p l e s m args below meth c H locs la C hE hP hS hl
  have C0 := C
  obtain ⟨hx, hb, hml, hown, hret, hlocks, hts, hK, hNs⟩ := C
  obtain ⟨hlc, h1, h2⟩ := lk
  have cb := callB_of (R := rmX M R) (s := s) (args := args) (own := (iy M).cls) (index := idx) (rm := rmM N) (mc := 0) (ms := 0) na hts (wsM_good hlc) rfl rfl rfl (hts _ hlc.2.1) (hts _ h1) hlc.2.2 (fitN_spec0 hfit)
  have hs : (As.reverse ++ rest).map (cv B) = (As.map (cv B)).reverse ++ rest.map (cv B) := by
    rw [List.map_append, List.map_reverse]
  rw [hs]
  exact ng_call C0 hE hP hS hl hν (va_runS (As := As.map (cv B)) ⟨hx, hb, hml, hown, hts⟩ (hM l B D cA) ⟨cb, hts _ h2⟩ ⟨pre_blind, pre_hold (av := As) (wN_wld hν hP) hK hNs⟩ rfl (by rw [List.length_map]; exact hn) hl.1 rfl (lv_room (by rw [sum_cat]; exact hst)) d hcap) k
theorem ng_callV {lo ci nf a : Nat} {Kc : Option Value → Mm → Prop} (d : decode (ic M) pc = .ok (.invokevirtual idx, 3)) (lk : lkV (iy M).cls idx N ci na) (hfit : fitN M N = true) (hcap : u ≤ R.1 ∧ us ≤ R.2) (ha : kn n a = (ci, nf)) (hci : ci < 20) (hn : As.length = na) (hst : (rest.map fun v => v.category).sum ≤ 8) (hν : ∀ b k, lo ≤ b → b < n → ν b k = true)
    (hM : MetM (lo, n) N (.ref a :: As) σ Kc) (k : ∀ v τ, Kc v τ → (∀ b, b < lo → τ.1 b = σ.1 b ∧ τ.2 b = σ.2 b) ∧ GN M ((R, (u, us)), n0, K) (pc + 3) ls (v.toList ++ rest) (n, ν, τ)) : GN M ((R, (u, us)), n0, K) pc ls (As.reverse ++ .ref a :: rest) (n, ν, σ) := by
  intro B D cA p l e s m args below meth c H locs la C hE hP hS hl
  have C0 := C
  obtain ⟨hx, hb, hml, hown, hret, hlocks, hts, hK, hNs⟩ := C
  obtain ⟨hlc, h1, h2, h3, q, hq, hqn⟩ := lk
  obtain ⟨g2, g3⟩ := kn_in ha (by show ci ≠ 99; omega)
  have cb := callB_of (R := rmX M R) (s := s) (args := args) (own := (iy M).cls) (index := idx) (rm := rmM N) (mc := 0) (ms := 0) na hts (wsM_good hlc) rfl rfl rfl (hts _ hlc.2.1) (hts _ h1) hlc.2.2 (fitN_spec0 hfit)
  have hrec := va_recv hK hP (ci := ci) (q0 := a) (a := B + a) hq (by rw [wN_at (z := (n, ν, σ)) g2, entN_obj g3 hci])
  rw [hqn] at hrec
  have hs : (As.reverse ++ .ref a :: rest).map (cv B) = (As.map (cv B)).reverse ++ .ref (B + a) :: rest.map (cv B) := by
    rw [List.map_append, List.map_reverse]; rfl
  rw [hs]
  exact ng_call C0 hE hP hS hl hν (va_runV (C := (iy N).cls) (b := B + a) (As := As.map (cv B)) ⟨hx, hb, hml, hown, hts⟩ (hM l B D cA) ⟨cb, hts _ h2, hts _ h3⟩ ⟨pre_blind, hrec, pre_hold (av := .ref a :: As) (wN_wld hν hP) hK hNs⟩ rfl (by rw [List.length_map]; exact hn) hl.1 rfl (lv_room (by rw [sum_cat]; exact hst)) d hcap) k
theorem ng_cSV2 {lo : Nat} {x1 x2 : Value} {st : List Value} {P : Mm → Prop} (d : decode (ic M) pc = .ok (.invokestatic idx, 3)) (lk : lkS (iy M).cls idx N 2) (hfit : fitN M N = true) (hcap : u ≤ R.1 ∧ us ≤ R.2) (hst : (st.map fun v => v.category).sum ≤ 8) (hν : ∀ b k, lo ≤ b → b < n → ν b k = true) (hM : RV (lo, n) N [x1, x2] σ P) (k : ∀ τ, P τ → (∀ b, b < lo → τ.1 b = σ.1 b ∧ τ.2 b = σ.2 b) ∧ GN M ((R, (u, us)), n0, K) (pc + 3) ls st (n, ν, τ)) : GN M ((R, (u, us)), n0, K) pc ls (x2 :: x1 :: st) (n, ν, σ) := ng_callS (As := [x1, x2]) (rest := st) d lk hfit hcap rfl hst hν hM (fun v τ h => by obtain ⟨rfl, h⟩ := h; exact k τ h)
theorem ng_cSI2 {lo : Nat} {x1 x2 : Value} {st : List Value} {P : Int32 → Mm → Prop} (d : decode (ic M) pc = .ok (.invokestatic idx, 3)) (lk : lkS (iy M).cls idx N 2) (hfit : fitN M N = true) (hcap : u ≤ R.1 ∧ us ≤ R.2) (hst : (st.map fun v => v.category).sum ≤ 8) (hν : ∀ b k, lo ≤ b → b < n → ν b k = true) (hM : RI (lo, n) N [x1, x2] σ P) (k : ∀ r τ, P r τ → (∀ b, b < lo → τ.1 b = σ.1 b ∧ τ.2 b = σ.2 b) ∧ GN M ((R, (u, us)), n0, K) (pc + 3) ls (.int r :: st) (n, ν, τ)) : GN M ((R, (u, us)), n0, K) pc ls (x2 :: x1 :: st) (n, ν, σ) := ng_callS (As := [x1, x2]) (rest := st) d lk hfit hcap rfl hst hν hM (fun v τ h => by obtain ⟨r, rfl, h⟩ := h; exact k r τ h)
theorem ng_cVV0 {lo ci nf a : Nat} {st : List Value} {P : Mm → Prop} (d : decode (ic M) pc = .ok (.invokevirtual idx, 3)) (lk : lkV (iy M).cls idx N ci 0) (hfit : fitN M N = true) (hcap : u ≤ R.1 ∧ us ≤ R.2) (ha : kn n a = (ci, nf)) (hci : ci < 20) (hst : (st.map fun v => v.category).sum ≤ 8) (hν : ∀ b k, lo ≤ b → b < n → ν b k = true) (hM : RV (lo, n) N [.ref a] σ P) (k : ∀ τ, P τ → (∀ b, b < lo → τ.1 b = σ.1 b ∧ τ.2 b = σ.2 b) ∧ GN M ((R, (u, us)), n0, K) (pc + 3) ls st (n, ν, τ)) : GN M ((R, (u, us)), n0, K) pc ls (.ref a :: st) (n, ν, σ) := ng_callV (As := []) (rest := st) d lk hfit hcap ha hci rfl hst hν hM (fun v τ h => by obtain ⟨rfl, h⟩ := h; exact k τ h)
theorem ng_i0 {a : Nat} {st : List Value} {q : Nat × Nat} (d : decode (ic M) pc = .ok (.invokespecial idx, 3)) (lk : lkI (iy M).cls idx N 0) (hfit : fitN M N = true) (hst : (st.map fun v => v.category).sum ≤ 8) (hu : n0 + u = n) (h0 : 0 < n) (hcap : u + q.1 ≤ R.1 ∧ us + q.2 ≤ R.2) (hM : MetN N [.ref a] (n, ν, σ) q K') (k : ∀ z', K' z' → GN M ((R, (u + q.1, us + q.2)), n0, K) (pc + 3) ls st z') : GN M ((R, (u, us)), n0, K) pc ls (.ref a :: st) (n, ν, σ) := ng_init (As := []) (rest := st) d lk hfit rfl hst hu h0 hcap hM k
theorem ng_i1 {a : Nat} {x1 : Value} {st : List Value} {q : Nat × Nat} (d : decode (ic M) pc = .ok (.invokespecial idx, 3)) (lk : lkI (iy M).cls idx N 1) (hfit : fitN M N = true) (hst : (st.map fun v => v.category).sum ≤ 8) (hu : n0 + u = n) (h0 : 0 < n) (hcap : u + q.1 ≤ R.1 ∧ us + q.2 ≤ R.2) (hM : MetN N [.ref a, x1] (n, ν, σ) q K') (k : ∀ z', K' z' → GN M ((R, (u + q.1, us + q.2)), n0, K) (pc + 3) ls st z') : GN M ((R, (u, us)), n0, K) pc ls (x1 :: .ref a :: st) (n, ν, σ) := ng_init (As := [x1]) (rest := st) d lk hfit rfl hst hu h0 hcap hM k
theorem ng_i3 {a : Nat} {x1 x2 x3 : Value} {st : List Value} {q : Nat × Nat} (d : decode (ic M) pc = .ok (.invokespecial idx, 3)) (lk : lkI (iy M).cls idx N 3) (hfit : fitN M N = true) (hst : (st.map fun v => v.category).sum ≤ 8) (hu : n0 + u = n) (h0 : 0 < n) (hcap : u + q.1 ≤ R.1 ∧ us + q.2 ≤ R.2) (hM : MetN N [.ref a, x1, x2, x3] (n, ν, σ) q K') (k : ∀ z', K' z' → GN M ((R, (u + q.1, us + q.2)), n0, K) (pc + 3) ls st z') : GN M ((R, (u, us)), n0, K) pc ls (x3 :: x2 :: x1 :: .ref a :: st) (n, ν, σ) := ng_init (As := [x1, x2, x3]) (rest := st) d lk hfit rfl hst hu h0 hcap hM k
theorem ng_ret {z : Nw} (d : decode (ic M) pc = .ok (.return_, 1)) (hr : ir M = none) (h1 : u ≤ R.1 ∧ us ≤ R.2) (k : K z) : GN M ((R, (u, us)), n0, K) pc ls [] z := ng_return d hr h1 k
theorem GN.use {u' us' : Nat} {st : List Value} {z : Nw} (k : GN M ((R, (u', us')), n0, K) pc ls st z) (h1 : u = u') (h2 : us = us') : GN M ((R, (u, us)), n0, K) pc ls st z := by subst h1; subst h2; exact k
end
