/-! The law: rows over the heap, calls. -/
section
variable {J : JL} {N : MI} {pc idx na : Nat} {ls : List (Option Value)} {st rest As : List Value} {σ : Nat → (Nat → ClassId) → va_W} {τ : Mm}
theorem lg_sld {j : Nat} {v : Int32} (d : decode (ic mL_law) pc = .ok (.iaload, 1)) (hj : j < J.2.1) (hL : J.2.1 ≤ 3075) (hv : J.2.2 j = v) (k : GL J (pc + 1) ls (.int v :: st) σ) : GL J pc ls (.int (nI j) :: .ref 999 :: st) σ := by
  subst hv
  intro B bb D cA p l e s m args below meth c H locs la C hE hP hS hl
  have C0 := C
  obtain ⟨hx, hb, hml, hown, hret, hlocks, hts, hK, hNs⟩ := C
  obtain ⟨e1, e2, e3, e4, e5, e6, e7⟩ := hE
  have hin : vp_in (nI j) J.2.1 := vp_in_nI hj (by omega)
  have hcl : (nI j).toNatClampNeg = j := nI_clamp (by omega)
  refine va_sld (b := bb) (i := nI j) (rest := st.map (cvL B bb)) hx hb e3 (by omega) (by show ¬ B ≤ bb; omega) hS hin d ?_
  rw [hcl]
  exact k B bb D cA p l e s m args below meth c H locs la C0 ⟨e1, e2, e3, e4, e5, e6, e7⟩ hP hS hl
theorem lg_slen {v : Int32} (d : decode (ic mL_law) pc = .ok (.arraylength, 1)) (hv : nI J.2.1 = v) (k : GL J (pc + 1) ls (.int v :: st) σ) : GL J pc ls (.ref 999 :: st) σ := by
  subst hv
  intro B bb D cA p l e s m args below meth c H locs la C hE hP hS hl
  have C0 := C
  obtain ⟨hx, hb, hml, hown, hret, hlocks, hts, hK, hNs⟩ := C
  obtain ⟨e1, e2, e3, e4, e5, e6, e7⟩ := hE
  exact va_slen (b := bb) (rest := st.map (cvL B bb)) hx hb e3 (by omega) (by show ¬ B ≤ bb; omega) hS d (k B bb D cA p l e s m args below meth c H locs la C0 ⟨e1, e2, e3, e4, e5, e6, e7⟩ hP hS hl)
def wW (τ : Mm) : Nat → (Nat → ClassId) → va_W := fun B cA => wld W0 B cA τ
def wZ (z : Nw) : Nat → (Nat → ClassId) → va_W := fun B cA => wN B cA z
theorem lg_lout {v : Int64} (d : decode (ic mL_law) pc = .ok (.laload, 1)) (hv : τ.2 312 0 = v) (k : GL J (pc + 1) ls (.long v :: st) (wW τ)) : GL J pc ls (.int (nI 0) :: .ref 312 :: st) (wW τ) := by
  subst hv
  intro B bb D cA p l e s m args below meth c H locs la C hE hP hS hl
  obtain ⟨hx, hb, hml, hown, hret, hlocks, hts, hK, hNs⟩ := C
  obtain ⟨h1, h2, h3⟩ := kw_in kw_out (by simp)
  obtain ⟨e1, e2⟩ := ix_in h3 (show 0 < 1 by decide)
  refine va_lald (a := B + 312) (rest := st.map (cvL B bb)) hx hb hK hP (312 - W0.1) 1 (by unfold wW; rw [wld_at h1 h2, ent_long h3]) rfl e1 d ?_
  rw [e2]
  exact k B bb D cA p l e s m args below meth c H locs la ⟨hx, hb, hml, hown, hret, hlocks, hts, hK, hNs⟩ hE hP hS hl
theorem sum_catL (B bb : Nat) (st : List Value) : ((st.map (cvL B bb)).map fun v => v.category).sum = (st.map fun v => v.category).sum := by
  rw [List.map_map]
  congr 1
  exact List.map_congr_left (fun v _ => cvL_cat B bb v)
/-- what comes back is no reference -/
def nR : Option Value → Prop
  | some (.ref _) => False
  | _ => True
theorem nR_cv {v : Option Value} (h : nR v) (B bb : Nat) : v.map (cv B) = v.map (cvL B bb) := by
  cases v with
  | none => rfl
  | some x => cases x <;> first | rfl | exact h.elim
theorem lg_call {u us : Nat} {q : Nat × Nat} {K' : Option Value → Mm → Prop} {p : Program} {l : Launch} {e : Env} {s : State} {m : MethodId} {args : Array Value} {below : List Frame} {meth : Method} {c : Code} {H : Heap} {locs : List Loc} {la : Array Slot} {B bb : Nat} {D : va_G} {cA : Nat → ClassId} {st0 : List Value} {a : Array Value} {JJ : Nat × (Nat → Int32)}
    (C : Cx mL_law D cA p s m args meth c) (hE : EL JJ.1 JJ.2 B bb l s args) (hS : va_S (fun q => B ≤ q) s.heap H locs) (hl : lvL B bb la 8 ls)
    (hr : va_Run p l e (rmX mL_law RL_law) s m args below meth c H locs u us q.1 q.2 (F0 m pc la st0) (rest.map (cvL B bb)) (QK W0 B D cA K' a) (fun q => B + W0.1 ≤ q))
    (hv : ∀ v σ', K' v σ' → nR v)
    (k : ∀ v σ', K' v σ' → GL ((u + q.1, us + q.2), JJ) (pc + 3) ls (v.toList ++ rest) (wW σ')) : W p l e (rmX mL_law RL_law) s m args below meth c H locs u us (lw_Z below args s) (F0 m pc la st0) := by
  intro T hT X
  obtain ⟨v, st₀, t, T', L, h0, X', hL, e1, e2, ⟨⟨v1, σ', hv1, hk, hP1⟩, hz, hkk⟩, stp⟩ := hr T hT X
  cases hv1
  rw [h0] at hz hkk
  have hS1 : va_S (fun q => B ≤ q) s.heap T'.heap (locs ++ L) := ⟨Nat.le_trans hS.1 (by rw [e1]; exact hz), fun q h1 h2 => by rw [e1, hkk q (Nat.lt_of_lt_of_le h1 hS.1) h2]; exact hS.2.1 q h1 h2, fun q hq => by
      rcases List.mem_append.mp hq with h | h
      · exact hS.2.2 q h
      · exact hL q h⟩
  obtain ⟨t2, a1, b1⟩ := k v1 σ' hk B bb D cA p l e s m args below meth c T'.heap (locs ++ L) la C hE (by rw [e1]; exact hP1) hS1 hl T' rfl X'
  refine ⟨t2, stp t2 ?_, b1⟩
  have hh : (v1.map (cv B)).toList ++ rest.map (cvL B bb) = (v1.toList ++ rest).map (cvL B bb) := by
    rw [nR_cv (hv v1 σ' hk) B bb]
    cases v1 <;> rfl
  rw [hh]
  exact a1
theorem lg_callV {K' : Option Value → Mm → Prop} {ci nf a : Nat} (d : decode (ic mL_law) pc = .ok (.invokevirtual idx, 3)) (lk : lkV RL idx N ci na) (hfit : fitN mL_law N = true) (hcap : J.1.1 ≤ RL_law.1 ∧ J.1.2 ≤ RL_law.2) (ha : kw W0 a = (ci, nf)) (h9 : a ≠ 999) (hci : ci < 20) (hn : As.length = na) (hA : ∀ B bb, As.map (cvL B bb) = As.map (cv B)) (hst : (rest.map fun v => v.category).sum ≤ 8)
    (hM : MetM W0 N (.ref a :: As) τ K') (hv : ∀ v σ', K' v σ' → nR v) (k : ∀ v σ', K' v σ' → GL J (pc + 3) ls (v.toList ++ rest) (wW σ')) : GL J pc ls (As.reverse ++ .ref a :: rest) (wW τ) := by
  intro B bb D cA p l e s m args below meth c H locs la C hE hP hS hl
  have C0 := C
  obtain ⟨hx, hb, hml, hown, hret, hlocks, hts, hK, hNs⟩ := C
  obtain ⟨hlc, h1, h2, h3, q, hq, hqn⟩ := lk
  obtain ⟨g1, g2, g3⟩ := kw_in ha (by show ci ≠ 99; omega)
  have cb := callB_of (R := rmX mL_law RL_law) (s := s) (args := args) (own := RL) (index := idx) (rm := rmM N) (mc := 0) (ms := 0) na hts (wsM_good hlc) rfl rfl rfl (hts _ hlc.2.1) (hts _ h1) hlc.2.2 (fitN_spec0 (q' := RL_law) hfit)
  have hrec := va_recv hK hP (ci := ci) (q0 := a - W0.1) (a := B + a) hq (by unfold wW; rw [wld_at g1 g2, ent_obj g3 hci])
  rw [hqn] at hrec
  have hs : (As.reverse ++ .ref a :: rest).map (cvL B bb) = (As.map (cv B)).reverse ++ .ref (B + a) :: rest.map (cvL B bb) := by
    rw [List.map_append, List.map_reverse, hA, List.map_cons, show cvL B bb (.ref a) = .ref (B + a) from congrArg Value.ref (if_neg h9)]
  rw [hs]
  exact lg_call (q := (0, 0)) C0 hE hS hl (va_runV (C := (iy N).cls) (b := B + a) (As := As.map (cv B)) ⟨hx, hb, hml, hown, hts⟩ (hM l B D cA) ⟨cb, hts _ h2, hts _ h3⟩ ⟨pre_blind, hrec, pre_hold (av := .ref a :: As) hP hK hNs⟩ rfl (by rw [List.length_map]; exact hn) hl.1 rfl (lv_room (by rw [sum_catL]; exact hst)) d hcap) hv k
/-- as lkV, lkS: of a method with a table -/
def lyC (N : MI) (hh : List (Nat × Nat × Nat × Nat)) (n : Nat) : Prop := Cond.codeWith (iy N) (ic N) (il N) (ir N) hh ∈ tbG ∧ Cond.initialized (iy N).cls ∈ tbG ∧ ((iy N).cls ≠ "java/lang/invoke/MethodHandle" ∧ (iy N).cls ≠ "java/lang/invoke/VarHandle" ∧ (parseMethodDescriptor (iy N).desc).map (fun d => d.parameters.length) = some n)
def lyV (own : String) (idx : Nat) (N : MI) (hh : List (Nat × Nat × Nat × Nat)) (ci n : Nat) : Prop := lyC N hh n ∧ Cond.methodLink own idx (iy N) ∈ tbG ∧ Cond.instanceMethod (iy N) ∈ tbG ∧ Cond.selects (iy N).cls (iy N) (iy N) ∈ tbG ∧ ∃ q : vw_C, vwCl[ci]? = some q ∧ q.1 = (iy N).cls
def lyS (own : String) (idx : Nat) (N : MI) (hh : List (Nat × Nat × Nat × Nat)) (n : Nat) : Prop := lyC N hh n ∧ Cond.methodLink own idx (iy N) ∈ tbG ∧ Cond.static (iy N) ∈ tbG
theorem tb_good {w : Cond} (h : w ∈ tbG) : w ∈ tbG ∧ ((w.onTables && w.keeps) = true ∨ ∃ ty, w = .arrayClass ty) := ⟨h, good_of_word (List.mem_filter.mp h).2⟩
theorem vx_nox {p : Program} {l : Launch} {e : Env} {R : Room} {s : State} {m : MethodId} {args : Array Value} {below : List Frame} {meth : Method} {c : Code} {H : Heap} {locs : List Loc} {cells slots mc ms : Nat} {g : JFrame} {rest : List Value} {Qa : State → Outcome → State → Prop} {free : Addr → Prop} {B : Nat} {D : va_G} {cA : Nat → ClassId}
    (h : vx_Run p l e R s m args below meth c H locs cells slots mc ms g rest Qa (QX W0 B D cA (fun _ _ => False)) free) : va_Run p l e R s m args below meth c H locs cells slots mc ms g rest Qa free := by
  intro T hT X
  rcases h T hT X with h | ⟨q9, st₀, t, T', L, E, ce, h0, X', hL, e1, e2, ⟨σ', hk, -⟩, -⟩
  · exact h
  · exact hk.elim
theorem lg_callY {K' : Option Value → Mm → Prop} {hh : List (Nat × Nat × Nat × Nat)} {ci nf a : Nat} (d : decode (ic mL_law) pc = .ok (.invokevirtual idx, 3)) (lk : lyV RL idx N hh ci na) (hfit : fitN mL_law N = true) (hcap : J.1.1 + 1 ≤ RL_law.1 ∧ J.1.2 + 6 ≤ RL_law.2) (ha : kw W0 a = (ci, nf)) (h9 : a ≠ 999) (hci : ci < 20) (hn : As.length = na) (hA : ∀ B bb, As.map (cvL B bb) = As.map (cv B)) (hst : (rest.map fun v => v.category).sum ≤ 8)
    (hM : MetY W0 N hh (.ref a :: As) τ K') (hv : ∀ v σ', K' v σ' → nR v) (k : ∀ v σ', K' v σ' → GL ((J.1.1 + 1, J.1.2 + 6), J.2) (pc + 3) ls (v.toList ++ rest) (wW σ')) : GL J pc ls (As.reverse ++ .ref a :: rest) (wW τ) := by
  intro B bb D cA p l e s m args below meth c H locs la C hE hP hS hl
  have C0 := C
  have hE0 := hE
  obtain ⟨hx, hb, hml, hown, hret, hlocks, hts, hK, hNs⟩ := C
  obtain ⟨⟨hc1, hc2, hc3⟩, h1, h2, h3, q, hq, hqn⟩ := lk
  obtain ⟨e1, e2, e3, e4, e5, e6, e7⟩ := hE
  obtain ⟨g1, g2, g3⟩ := kw_in ha (by show ci ≠ 99; omega)
  have cb := vx_cwVW (R := rmX mL_law RL_law) (s := s) (args := args) (own := RL) (C := (iy N).cls) (index := idx) (hh := hh) (rm := rmX N (1, 6)) (mc := 1) (ms := 6) (ws' := tbG) na hts (fun w hw => by
    rcases List.mem_append.mp hw with h | h
    · simp only [List.mem_cons, List.not_mem_nil, or_false] at h
      rcases h with rfl | rfl | rfl | rfl
      · exact tb_good h1
      · exact tb_good h2
      · exact tb_good h3
      · exact tb_good hc2
    · rcases List.mem_cons.mp h with rfl | h
      · exact tb_good hc1
      · exact tb_good h) rfl rfl rfl ⟨rfl, hc3⟩ (fitN_spec (q := (1, 6)) (q' := RL_law) hfit)
  have hrec := va_recv hK hP (ci := ci) (q0 := a - W0.1) (a := B + a) hq (by unfold wW; rw [wld_at g1 g2, ent_obj g3 hci])
  rw [hqn] at hrec
  have hs : (As.reverse ++ .ref a :: rest).map (cvL B bb) = (As.map (cv B)).reverse ++ .ref (B + a) :: rest.map (cvL B bb) := by
    rw [List.map_append, List.map_reverse, hA, List.map_cons, show cvL B bb (.ref a) = .ref (B + a) from congrArg Value.ref (if_neg h9)]
  rw [hs]
  exact lg_call (q := (1, 6)) C0 hE0 hS hl (vx_nox (vx_runVX (C := (iy N).cls) (b := B + a) (As := As.map (cv B)) ⟨hx, hb, hml, hown, hts⟩ (hM l e5 B D cA) cb ⟨pre_blindX, hrec, pre_holdX (Ω := W0) (av := .ref a :: As) hP hK hNs hS e6⟩ rfl (by rw [List.length_map]; exact hn) hl.1 rfl (lv_room (by rw [sum_catL]; exact hst)) d hcap)) hv k
theorem lg_callYS {K' : Option Value → Mm → Prop} {hh : List (Nat × Nat × Nat × Nat)} (d : decode (ic mL_law) pc = .ok (.invokestatic idx, 3)) (lk : lyS RL idx N hh na) (hfit : fitN mL_law N = true) (hcap : J.1.1 + 1 ≤ RL_law.1 ∧ J.1.2 + 6 ≤ RL_law.2) (hn : As.length = na) (hA : ∀ B bb, As.map (cvL B bb) = As.map (cv B)) (hst : (rest.map fun v => v.category).sum ≤ 8)
    (hM : MetY W0 N hh As τ K') (hv : ∀ v σ', K' v σ' → nR v) (k : ∀ v σ', K' v σ' → GL ((J.1.1 + 1, J.1.2 + 6), J.2) (pc + 3) ls (v.toList ++ rest) (wW σ')) : GL J pc ls (As.reverse ++ rest) (wW τ) := by
  intro B bb D cA p l e s m args below meth c H locs la C hE hP hS hl
  have C0 := C
  have hE0 := hE
  obtain ⟨hx, hb, hml, hown, hret, hlocks, hts, hK, hNs⟩ := C
  obtain ⟨⟨hc1, hc2, hc3⟩, h1, h2⟩ := lk
  obtain ⟨e1, e2, e3, e4, e5, e6, e7⟩ := hE
  have cb := vx_cwSW (R := rmX mL_law RL_law) (s := s) (args := args) (own := RL) (index := idx) (hh := hh) (rm := rmX N (1, 6)) (mc := 1) (ms := 6) (ws' := tbG) na hts (fun w hw => by
    rcases List.mem_append.mp hw with h | h
    · simp only [List.mem_cons, List.not_mem_nil, or_false] at h
      rcases h with rfl | rfl | rfl
      · exact tb_good h1
      · exact tb_good h2
      · exact tb_good hc2
    · rcases List.mem_cons.mp h with rfl | h
      · exact tb_good hc1
      · exact tb_good h) rfl rfl rfl hc3 (fitN_spec (q := (1, 6)) (q' := RL_law) hfit)
  have hs : (As.reverse ++ rest).map (cvL B bb) = (As.map (cv B)).reverse ++ rest.map (cvL B bb) := by
    rw [List.map_append, List.map_reverse, hA]
  rw [hs]
  exact lg_call (q := (1, 6)) C0 hE0 hS hl (vx_nox (vx_runSX (As := As.map (cv B)) ⟨hx, hb, hml, hown, hts⟩ (hM l e5 B D cA) cb ⟨pre_blindX, pre_holdX (Ω := W0) (av := As) hP hK hNs hS e6⟩ rfl (by rw [List.length_map]; exact hn) hl.1 rfl (lv_room (by rw [sum_catL]; exact hst)) d hcap)) hv k
end
section
variable {J : JL} {N : MI} {pc idx : Nat} {ls : List (Option Value)} {st : List Value} {τ : Mm}
theorem lg_cVI0 {ci nf a : Nat} {P : Int32 → Mm → Prop} (d : decode (ic mL_law) pc = .ok (.invokevirtual idx, 3)) (lk : lkV RL idx N ci 0) (hfit : fitN mL_law N = true) (hcap : J.1.1 ≤ RL_law.1 ∧ J.1.2 ≤ RL_law.2) (ha : kw W0 a = (ci, nf)) (h9 : a ≠ 999) (hci : ci < 20) (hst : (st.map fun v => v.category).sum ≤ 8) (hM : RI W0 N [.ref a] τ P) (k : ∀ r σ', P r σ' → GL J (pc + 3) ls (.int r :: st) (wW σ')) : GL J pc ls (.ref a :: st) (wW τ) := lg_callV (As := []) (rest := st) d lk hfit hcap ha h9 hci rfl (fun _ _ => rfl) hst hM (fun v σ' h => by obtain ⟨r, rfl, h⟩ := h; exact trivial) (fun v σ' h => by obtain ⟨r, rfl, h⟩ := h; exact k r σ' h)
theorem lg_cVL0 {ci nf a : Nat} {P : Int64 → Mm → Prop} (d : decode (ic mL_law) pc = .ok (.invokevirtual idx, 3)) (lk : lkV RL idx N ci 0) (hfit : fitN mL_law N = true) (hcap : J.1.1 ≤ RL_law.1 ∧ J.1.2 ≤ RL_law.2) (ha : kw W0 a = (ci, nf)) (h9 : a ≠ 999) (hci : ci < 20) (hst : (st.map fun v => v.category).sum ≤ 8) (hM : RL_ W0 N [.ref a] τ P) (k : ∀ r σ', P r σ' → GL J (pc + 3) ls (.long r :: st) (wW σ')) : GL J pc ls (.ref a :: st) (wW τ) := lg_callV (As := []) (rest := st) d lk hfit hcap ha h9 hci rfl (fun _ _ => rfl) hst hM (fun v σ' h => by obtain ⟨r, rfl, h⟩ := h; exact trivial) (fun v σ' h => by obtain ⟨r, rfl, h⟩ := h; exact k r σ' h)
theorem lg_cVI1 {ci nf a : Nat} {x1 : Int32} {P : Int32 → Mm → Prop} (d : decode (ic mL_law) pc = .ok (.invokevirtual idx, 3)) (lk : lkV RL idx N ci 1) (hfit : fitN mL_law N = true) (hcap : J.1.1 ≤ RL_law.1 ∧ J.1.2 ≤ RL_law.2) (ha : kw W0 a = (ci, nf)) (h9 : a ≠ 999) (hci : ci < 20) (hst : (st.map fun v => v.category).sum ≤ 8) (hM : RI W0 N [.ref a, .int x1] τ P) (k : ∀ r σ', P r σ' → GL J (pc + 3) ls (.int r :: st) (wW σ')) : GL J pc ls (.int x1 :: .ref a :: st) (wW τ) := lg_callV (As := [.int x1]) (rest := st) d lk hfit hcap ha h9 hci rfl (fun _ _ => rfl) hst hM (fun v σ' h => by obtain ⟨r, rfl, h⟩ := h; exact trivial) (fun v σ' h => by obtain ⟨r, rfl, h⟩ := h; exact k r σ' h)
theorem lg_cVL1 {ci nf a : Nat} {x1 : Int32} {P : Int64 → Mm → Prop} (d : decode (ic mL_law) pc = .ok (.invokevirtual idx, 3)) (lk : lkV RL idx N ci 1) (hfit : fitN mL_law N = true) (hcap : J.1.1 ≤ RL_law.1 ∧ J.1.2 ≤ RL_law.2) (ha : kw W0 a = (ci, nf)) (h9 : a ≠ 999) (hci : ci < 20) (hst : (st.map fun v => v.category).sum ≤ 8) (hM : RL_ W0 N [.ref a, .int x1] τ P) (k : ∀ r σ', P r σ' → GL J (pc + 3) ls (.long r :: st) (wW σ')) : GL J pc ls (.int x1 :: .ref a :: st) (wW τ) := lg_callV (As := [.int x1]) (rest := st) d lk hfit hcap ha h9 hci rfl (fun _ _ => rfl) hst hM (fun v σ' h => by obtain ⟨r, rfl, h⟩ := h; exact trivial) (fun v σ' h => by obtain ⟨r, rfl, h⟩ := h; exact k r σ' h)
theorem lg_cVI2 {ci nf a : Nat} {x1 x2 : Int32} {P : Int32 → Mm → Prop} (d : decode (ic mL_law) pc = .ok (.invokevirtual idx, 3)) (lk : lkV RL idx N ci 2) (hfit : fitN mL_law N = true) (hcap : J.1.1 ≤ RL_law.1 ∧ J.1.2 ≤ RL_law.2) (ha : kw W0 a = (ci, nf)) (h9 : a ≠ 999) (hci : ci < 20) (hst : (st.map fun v => v.category).sum ≤ 8) (hM : RI W0 N [.ref a, .int x1, .int x2] τ P) (k : ∀ r σ', P r σ' → GL J (pc + 3) ls (.int r :: st) (wW σ')) : GL J pc ls (.int x2 :: .int x1 :: .ref a :: st) (wW τ) := lg_callV (As := [.int x1, .int x2]) (rest := st) d lk hfit hcap ha h9 hci rfl (fun _ _ => rfl) hst hM (fun v σ' h => by obtain ⟨r, rfl, h⟩ := h; exact trivial) (fun v σ' h => by obtain ⟨r, rfl, h⟩ := h; exact k r σ' h)
theorem lg_cVL2 {ci nf a : Nat} {x1 x2 : Int32} {P : Int64 → Mm → Prop} (d : decode (ic mL_law) pc = .ok (.invokevirtual idx, 3)) (lk : lkV RL idx N ci 2) (hfit : fitN mL_law N = true) (hcap : J.1.1 ≤ RL_law.1 ∧ J.1.2 ≤ RL_law.2) (ha : kw W0 a = (ci, nf)) (h9 : a ≠ 999) (hci : ci < 20) (hst : (st.map fun v => v.category).sum ≤ 8) (hM : RL_ W0 N [.ref a, .int x1, .int x2] τ P) (k : ∀ r σ', P r σ' → GL J (pc + 3) ls (.long r :: st) (wW σ')) : GL J pc ls (.int x2 :: .int x1 :: .ref a :: st) (wW τ) := lg_callV (As := [.int x1, .int x2]) (rest := st) d lk hfit hcap ha h9 hci rfl (fun _ _ => rfl) hst hM (fun v σ' h => by obtain ⟨r, rfl, h⟩ := h; exact trivial) (fun v σ' h => by obtain ⟨r, rfl, h⟩ := h; exact k r σ' h)
theorem lg_cVI3 {ci nf a : Nat} {x1 x2 x3 : Int32} {P : Int32 → Mm → Prop} (d : decode (ic mL_law) pc = .ok (.invokevirtual idx, 3)) (lk : lkV RL idx N ci 3) (hfit : fitN mL_law N = true) (hcap : J.1.1 ≤ RL_law.1 ∧ J.1.2 ≤ RL_law.2) (ha : kw W0 a = (ci, nf)) (h9 : a ≠ 999) (hci : ci < 20) (hst : (st.map fun v => v.category).sum ≤ 8) (hM : RI W0 N [.ref a, .int x1, .int x2, .int x3] τ P) (k : ∀ r σ', P r σ' → GL J (pc + 3) ls (.int r :: st) (wW σ')) : GL J pc ls (.int x3 :: .int x2 :: .int x1 :: .ref a :: st) (wW τ) := lg_callV (As := [.int x1, .int x2, .int x3]) (rest := st) d lk hfit hcap ha h9 hci rfl (fun _ _ => rfl) hst hM (fun v σ' h => by obtain ⟨r, rfl, h⟩ := h; exact trivial) (fun v σ' h => by obtain ⟨r, rfl, h⟩ := h; exact k r σ' h)
theorem lg_cVL3 {ci nf a : Nat} {x1 x2 x3 : Int32} {P : Int64 → Mm → Prop} (d : decode (ic mL_law) pc = .ok (.invokevirtual idx, 3)) (lk : lkV RL idx N ci 3) (hfit : fitN mL_law N = true) (hcap : J.1.1 ≤ RL_law.1 ∧ J.1.2 ≤ RL_law.2) (ha : kw W0 a = (ci, nf)) (h9 : a ≠ 999) (hci : ci < 20) (hst : (st.map fun v => v.category).sum ≤ 8) (hM : RL_ W0 N [.ref a, .int x1, .int x2, .int x3] τ P) (k : ∀ r σ', P r σ' → GL J (pc + 3) ls (.long r :: st) (wW σ')) : GL J pc ls (.int x3 :: .int x2 :: .int x1 :: .ref a :: st) (wW τ) := lg_callV (As := [.int x1, .int x2, .int x3]) (rest := st) d lk hfit hcap ha h9 hci rfl (fun _ _ => rfl) hst hM (fun v σ' h => by obtain ⟨r, rfl, h⟩ := h; exact trivial) (fun v σ' h => by obtain ⟨r, rfl, h⟩ := h; exact k r σ' h)
theorem lg_cVI4 {ci nf a : Nat} {x1 x2 x3 x4 : Int32} {P : Int32 → Mm → Prop} (d : decode (ic mL_law) pc = .ok (.invokevirtual idx, 3)) (lk : lkV RL idx N ci 4) (hfit : fitN mL_law N = true) (hcap : J.1.1 ≤ RL_law.1 ∧ J.1.2 ≤ RL_law.2) (ha : kw W0 a = (ci, nf)) (h9 : a ≠ 999) (hci : ci < 20) (hst : (st.map fun v => v.category).sum ≤ 8) (hM : RI W0 N [.ref a, .int x1, .int x2, .int x3, .int x4] τ P) (k : ∀ r σ', P r σ' → GL J (pc + 3) ls (.int r :: st) (wW σ')) : GL J pc ls (.int x4 :: .int x3 :: .int x2 :: .int x1 :: .ref a :: st) (wW τ) := lg_callV (As := [.int x1, .int x2, .int x3, .int x4]) (rest := st) d lk hfit hcap ha h9 hci rfl (fun _ _ => rfl) hst hM (fun v σ' h => by obtain ⟨r, rfl, h⟩ := h; exact trivial) (fun v σ' h => by obtain ⟨r, rfl, h⟩ := h; exact k r σ' h)
theorem lg_cVL4 {ci nf a : Nat} {x1 x2 x3 x4 : Int32} {P : Int64 → Mm → Prop} (d : decode (ic mL_law) pc = .ok (.invokevirtual idx, 3)) (lk : lkV RL idx N ci 4) (hfit : fitN mL_law N = true) (hcap : J.1.1 ≤ RL_law.1 ∧ J.1.2 ≤ RL_law.2) (ha : kw W0 a = (ci, nf)) (h9 : a ≠ 999) (hci : ci < 20) (hst : (st.map fun v => v.category).sum ≤ 8) (hM : RL_ W0 N [.ref a, .int x1, .int x2, .int x3, .int x4] τ P) (k : ∀ r σ', P r σ' → GL J (pc + 3) ls (.long r :: st) (wW σ')) : GL J pc ls (.int x4 :: .int x3 :: .int x2 :: .int x1 :: .ref a :: st) (wW τ) := lg_callV (As := [.int x1, .int x2, .int x3, .int x4]) (rest := st) d lk hfit hcap ha h9 hci rfl (fun _ _ => rfl) hst hM (fun v σ' h => by obtain ⟨r, rfl, h⟩ := h; exact trivial) (fun v σ' h => by obtain ⟨r, rfl, h⟩ := h; exact k r σ' h)
theorem lg_cVI5 {ci nf a : Nat} {x1 x2 x3 x4 x5 : Int32} {P : Int32 → Mm → Prop} (d : decode (ic mL_law) pc = .ok (.invokevirtual idx, 3)) (lk : lkV RL idx N ci 5) (hfit : fitN mL_law N = true) (hcap : J.1.1 ≤ RL_law.1 ∧ J.1.2 ≤ RL_law.2) (ha : kw W0 a = (ci, nf)) (h9 : a ≠ 999) (hci : ci < 20) (hst : (st.map fun v => v.category).sum ≤ 8) (hM : RI W0 N [.ref a, .int x1, .int x2, .int x3, .int x4, .int x5] τ P) (k : ∀ r σ', P r σ' → GL J (pc + 3) ls (.int r :: st) (wW σ')) : GL J pc ls (.int x5 :: .int x4 :: .int x3 :: .int x2 :: .int x1 :: .ref a :: st) (wW τ) := lg_callV (As := [.int x1, .int x2, .int x3, .int x4, .int x5]) (rest := st) d lk hfit hcap ha h9 hci rfl (fun _ _ => rfl) hst hM (fun v σ' h => by obtain ⟨r, rfl, h⟩ := h; exact trivial) (fun v σ' h => by obtain ⟨r, rfl, h⟩ := h; exact k r σ' h)
theorem lg_cVL5 {ci nf a : Nat} {x1 x2 x3 x4 x5 : Int32} {P : Int64 → Mm → Prop} (d : decode (ic mL_law) pc = .ok (.invokevirtual idx, 3)) (lk : lkV RL idx N ci 5) (hfit : fitN mL_law N = true) (hcap : J.1.1 ≤ RL_law.1 ∧ J.1.2 ≤ RL_law.2) (ha : kw W0 a = (ci, nf)) (h9 : a ≠ 999) (hci : ci < 20) (hst : (st.map fun v => v.category).sum ≤ 8) (hM : RL_ W0 N [.ref a, .int x1, .int x2, .int x3, .int x4, .int x5] τ P) (k : ∀ r σ', P r σ' → GL J (pc + 3) ls (.long r :: st) (wW σ')) : GL J pc ls (.int x5 :: .int x4 :: .int x3 :: .int x2 :: .int x1 :: .ref a :: st) (wW τ) := lg_callV (As := [.int x1, .int x2, .int x3, .int x4, .int x5]) (rest := st) d lk hfit hcap ha h9 hci rfl (fun _ _ => rfl) hst hM (fun v σ' h => by obtain ⟨r, rfl, h⟩ := h; exact trivial) (fun v σ' h => by obtain ⟨r, rfl, h⟩ := h; exact k r σ' h)
theorem lg_toss {ci nf : Nat} {x v : Int32} {hh : List (Nat × Nat × Nat × Nat)} {P : Mm → Prop} (d : decode (ic mL_law) pc = .ok (.invokevirtual idx, 3)) (lk : lyV RL idx N hh ci 1) (hfit : fitN mL_law N = true) (hcap : J.1.1 + 1 ≤ RL_law.1 ∧ J.1.2 + 6 ≤ RL_law.2) (ha : kw W0 0 = (ci, nf)) (hci : ci < 20) (hst : (st.map fun v => v.category).sum ≤ 8) (hM : MetY W0 N hh [.ref 0, .int x] τ (fun w σ' => w = some (.int v) ∧ P σ')) (k : ∀ σ', P σ' → GL ((J.1.1 + 1, J.1.2 + 6), J.2) (pc + 3) ls (.int v :: st) (wW σ')) : GL J pc ls (.int x :: .ref 0 :: st) (wW τ) := lg_callY (As := [.int x]) (rest := st) d lk hfit hcap ha (by decide) hci rfl (fun _ _ => rfl) hst hM (fun v σ' h => by obtain ⟨rfl, h⟩ := h; exact trivial) (fun v σ' h => by obtain ⟨rfl, h⟩ := h; exact k σ' h)
theorem lg_y1 {x v : Int32} {hh : List (Nat × Nat × Nat × Nat)} {P : Mm → Prop} (d : decode (ic mL_law) pc = .ok (.invokestatic idx, 3)) (lk : lyS RL idx N hh 3) (hfit : fitN mL_law N = true) (hcap : J.1.1 + 1 ≤ RL_law.1 ∧ J.1.2 + 6 ≤ RL_law.2) (hst : (st.map fun v => v.category).sum ≤ 8) (hM : MetY W0 N hh [.ref 0, .int x, .ref 312] τ (fun w σ' => w = some (.int v) ∧ P σ')) (k : ∀ σ', P σ' → GL ((J.1.1 + 1, J.1.2 + 6), J.2) (pc + 3) ls (.int v :: st) (wW σ')) : GL J pc ls (.ref 312 :: .int x :: .ref 0 :: st) (wW τ) := lg_callYS (As := [.ref 0, .int x, .ref 312]) (rest := st) d lk hfit hcap rfl (fun _ _ => rfl) hst hM (fun v σ' h => by obtain ⟨rfl, h⟩ := h; exact trivial) (fun v σ' h => by obtain ⟨rfl, h⟩ := h; exact k σ' h)
theorem lg_y2 {x y v : Int32} {hh : List (Nat × Nat × Nat × Nat)} {P : Mm → Prop} (d : decode (ic mL_law) pc = .ok (.invokestatic idx, 3)) (lk : lyS RL idx N hh 4) (hfit : fitN mL_law N = true) (hcap : J.1.1 + 1 ≤ RL_law.1 ∧ J.1.2 + 6 ≤ RL_law.2) (hst : (st.map fun v => v.category).sum ≤ 8) (hM : MetY W0 N hh [.ref 0, .int x, .int y, .ref 312] τ (fun w σ' => w = some (.int v) ∧ P σ')) (k : ∀ σ', P σ' → GL ((J.1.1 + 1, J.1.2 + 6), J.2) (pc + 3) ls (.int v :: st) (wW σ')) : GL J pc ls (.ref 312 :: .int y :: .int x :: .ref 0 :: st) (wW τ) := lg_callYS (As := [.ref 0, .int x, .int y, .ref 312]) (rest := st) d lk hfit hcap rfl (fun _ _ => rfl) hst hM (fun v σ' h => by obtain ⟨rfl, h⟩ := h; exact trivial) (fun v σ' h => by obtain ⟨rfl, h⟩ := h; exact k σ' h)
theorem GL.cg {z z' : Nat → (Nat → ClassId) → va_W} (h : z' = z) (k : GL J pc ls st z') : GL J pc ls st z := h ▸ k
end
def mL_cell : MI := (yL_cell, cL_cell, 2, some .int, 0, 0)
theorem kL_cell : lkC mL_cell 2 := ⟨tbG_at 1107 (by decide +kernel) (by decide +kernel), tbG_at 60 (by decide +kernel) (by decide +kernel), by decide +kernel⟩
theorem vLw_25 : lkS RL 25 mL_cell 2 := ⟨kL_cell, tbG_at 1105 (by decide +kernel) (by decide +kernel), tbG_at 1106 (by decide +kernel) (by decide +kernel)⟩
theorem ivL_30 : lkI RL 30 mX11_init 3 := ⟨kX11_init, Or.inl (tbG_at 85 (by decide +kernel) (by decide +kernel)), rfl, tbG_at 86 (by decide +kernel) (by decide +kernel), rfl⟩
theorem ivL_35 : lkI RL 35 mX12_init 3 := ⟨kX12_init, Or.inl (tbG_at 1153 (by decide +kernel) (by decide +kernel)), rfl, tbG_at 1154 (by decide +kernel) (by decide +kernel), rfl⟩
theorem vLw_36 : lkV RL 36 mX11_link 11 4 := ⟨kX11_link, tbG_at 581 (by decide +kernel) (by decide +kernel), tbG_at 582 (by decide +kernel) (by decide +kernel), tbG_at 583 (by decide +kernel) (by decide +kernel), _, rfl, rfl⟩
theorem vLw_40 : lkV RL 40 mX12_link 12 4 := ⟨kX12_link, tbG_at 1366 (by decide +kernel) (by decide +kernel), tbG_at 1367 (by decide +kernel) (by decide +kernel), tbG_at 1368 (by decide +kernel) (by decide +kernel), _, rfl, rfl⟩
theorem vLw_41 : lkV RL 41 mX11_far 11 2 := ⟨kX11_far, tbG_at 602 (by decide +kernel) (by decide +kernel), tbG_at 603 (by decide +kernel) (by decide +kernel), tbG_at 604 (by decide +kernel) (by decide +kernel), _, rfl, rfl⟩
theorem vLw_44 : lkV RL 44 mX12_far 12 2 := ⟨kX12_far, tbG_at 1383 (by decide +kernel) (by decide +kernel), tbG_at 1384 (by decide +kernel) (by decide +kernel), tbG_at 1385 (by decide +kernel) (by decide +kernel), _, rfl, rfl⟩
theorem vLw_45 : lkV RL 45 mX11_way 11 3 := ⟨kX11_way, tbG_at 609 (by decide +kernel) (by decide +kernel), tbG_at 610 (by decide +kernel) (by decide +kernel), tbG_at 611 (by decide +kernel) (by decide +kernel), _, rfl, rfl⟩
theorem vLw_49 : lkV RL 49 mX12_way 12 3 := ⟨kX12_way, tbG_at 1391 (by decide +kernel) (by decide +kernel), tbG_at 1392 (by decide +kernel) (by decide +kernel), tbG_at 1393 (by decide +kernel) (by decide +kernel), _, rfl, rfl⟩
theorem vLw_50 : lkV RL 50 mX11_page 11 1 := ⟨kX11_page, tbG_at 617 (by decide +kernel) (by decide +kernel), tbG_at 618 (by decide +kernel) (by decide +kernel), tbG_at 619 (by decide +kernel) (by decide +kernel), _, rfl, rfl⟩
theorem vLw_53 : lkV RL 53 mX12_page 12 1 := ⟨kX12_page, tbG_at 1399 (by decide +kernel) (by decide +kernel), tbG_at 1400 (by decide +kernel) (by decide +kernel), tbG_at 1401 (by decide +kernel) (by decide +kernel), _, rfl, rfl⟩
theorem vLw_54 : lkV RL 54 mX11_thread 11 1 := ⟨kX11_thread, tbG_at 630 (by decide +kernel) (by decide +kernel), tbG_at 631 (by decide +kernel) (by decide +kernel), tbG_at 632 (by decide +kernel) (by decide +kernel), _, rfl, rfl⟩
theorem vLw_57 : lkV RL 57 mX12_thread 12 1 := ⟨kX12_thread, tbG_at 1404 (by decide +kernel) (by decide +kernel), tbG_at 1405 (by decide +kernel) (by decide +kernel), tbG_at 1406 (by decide +kernel) (by decide +kernel), _, rfl, rfl⟩
theorem vLw_58 : lkV RL 58 mX11_access 11 5 := ⟨kX11_access, tbG_at 646 (by decide +kernel) (by decide +kernel), tbG_at 647 (by decide +kernel) (by decide +kernel), tbG_at 648 (by decide +kernel) (by decide +kernel), _, rfl, rfl⟩
theorem vLw_62 : lkV RL 62 mX12_access 12 5 := ⟨kX12_access, tbG_at 1408 (by decide +kernel) (by decide +kernel), tbG_at 1409 (by decide +kernel) (by decide +kernel), tbG_at 1410 (by decide +kernel) (by decide +kernel), _, rfl, rfl⟩
theorem vLw_63 : lkV RL 63 mX11_rule 11 3 := ⟨kX11_rule, tbG_at 659 (by decide +kernel) (by decide +kernel), tbG_at 660 (by decide +kernel) (by decide +kernel), tbG_at 661 (by decide +kernel) (by decide +kernel), _, rfl, rfl⟩
theorem vLw_66 : lkV RL 66 mX12_rule 12 3 := ⟨kX12_rule, tbG_at 1418 (by decide +kernel) (by decide +kernel), tbG_at 1419 (by decide +kernel) (by decide +kernel), tbG_at 1420 (by decide +kernel) (by decide +kernel), _, rfl, rfl⟩
theorem vLw_67 : lkV RL 67 mX11_prices 11 2 := ⟨kX11_prices, tbG_at 670 (by decide +kernel) (by decide +kernel), tbG_at 671 (by decide +kernel) (by decide +kernel), tbG_at 672 (by decide +kernel) (by decide +kernel), _, rfl, rfl⟩
theorem vLw_70 : lkV RL 70 mX12_prices 12 2 := ⟨kX12_prices, tbG_at 1425 (by decide +kernel) (by decide +kernel), tbG_at 1426 (by decide +kernel) (by decide +kernel), tbG_at 1427 (by decide +kernel) (by decide +kernel), _, rfl, rfl⟩
theorem vLw_71 : lkV RL 71 mX11_place 11 2 := ⟨kX11_place, tbG_at 678 (by decide +kernel) (by decide +kernel), tbG_at 679 (by decide +kernel) (by decide +kernel), tbG_at 680 (by decide +kernel) (by decide +kernel), _, rfl, rfl⟩
theorem vLw_74 : lkV RL 74 mX12_place 12 2 := ⟨kX12_place, tbG_at 1430 (by decide +kernel) (by decide +kernel), tbG_at 1431 (by decide +kernel) (by decide +kernel), tbG_at 1432 (by decide +kernel) (by decide +kernel), _, rfl, rfl⟩
theorem vLw_75 : lkV RL 75 mX11_settle 11 2 := ⟨kX11_settle, tbG_at 702 (by decide +kernel) (by decide +kernel), tbG_at 703 (by decide +kernel) (by decide +kernel), tbG_at 704 (by decide +kernel) (by decide +kernel), _, rfl, rfl⟩
theorem vLw_78 : lkV RL 78 mX12_settle 12 2 := ⟨kX12_settle, tbG_at 1450 (by decide +kernel) (by decide +kernel), tbG_at 1451 (by decide +kernel) (by decide +kernel), tbG_at 1452 (by decide +kernel) (by decide +kernel), _, rfl, rfl⟩
theorem vLw_79 : lkV RL 79 mX11_swap 11 2 := ⟨kX11_swap, tbG_at 719 (by decide +kernel) (by decide +kernel), tbG_at 720 (by decide +kernel) (by decide +kernel), tbG_at 721 (by decide +kernel) (by decide +kernel), _, rfl, rfl⟩
theorem vLw_82 : lkV RL 82 mX12_swap 12 2 := ⟨kX12_swap, tbG_at 1454 (by decide +kernel) (by decide +kernel), tbG_at 1455 (by decide +kernel) (by decide +kernel), tbG_at 1456 (by decide +kernel) (by decide +kernel), _, rfl, rfl⟩
theorem vLw_83 : lkV RL 83 mX11_run 11 1 := ⟨kX11_run, tbG_at 727 (by decide +kernel) (by decide +kernel), tbG_at 728 (by decide +kernel) (by decide +kernel), tbG_at 729 (by decide +kernel) (by decide +kernel), _, rfl, rfl⟩
theorem vLw_86 : lkV RL 86 mX12_run 12 1 := ⟨kX12_run, tbG_at 1458 (by decide +kernel) (by decide +kernel), tbG_at 1459 (by decide +kernel) (by decide +kernel), tbG_at 1460 (by decide +kernel) (by decide +kernel), _, rfl, rfl⟩
theorem vLw_87 : lkV RL 87 mX11_look 11 2 := ⟨kX11_look, tbG_at 871 (by decide +kernel) (by decide +kernel), tbG_at 872 (by decide +kernel) (by decide +kernel), tbG_at 873 (by decide +kernel) (by decide +kernel), _, rfl, rfl⟩
theorem vLw_90 : lkV RL 90 mX12_look 12 2 := ⟨kX12_look, tbG_at 1539 (by decide +kernel) (by decide +kernel), tbG_at 1540 (by decide +kernel) (by decide +kernel), tbG_at 1541 (by decide +kernel) (by decide +kernel), _, rfl, rfl⟩
theorem vLw_91 : lkV RL 91 mX11_fault 11 2 := ⟨kX11_fault, tbG_at 875 (by decide +kernel) (by decide +kernel), tbG_at 876 (by decide +kernel) (by decide +kernel), tbG_at 877 (by decide +kernel) (by decide +kernel), _, rfl, rfl⟩
theorem vLw_94 : lkV RL 94 mX12_fault 12 2 := ⟨kX12_fault, tbG_at 1543 (by decide +kernel) (by decide +kernel), tbG_at 1544 (by decide +kernel) (by decide +kernel), tbG_at 1545 (by decide +kernel) (by decide +kernel), _, rfl, rfl⟩
theorem vLy_95 : lyS RL 95 mL_cell_ [(0, 10, 13, 13)] 4 := ⟨⟨tbG_at 1110 (by decide +kernel) (by decide +kernel), tbG_at 60 (by decide +kernel) (by decide +kernel), by decide +kernel⟩, tbG_at 1108 (by decide +kernel) (by decide +kernel), tbG_at 1109 (by decide +kernel) (by decide +kernel)⟩
theorem vLw_98 : lkV RL 98 mX12_cell 12 2 := ⟨kX12_cell, tbG_at 1547 (by decide +kernel) (by decide +kernel), tbG_at 1548 (by decide +kernel) (by decide +kernel), tbG_at 1549 (by decide +kernel) (by decide +kernel), _, rfl, rfl⟩
theorem vLw_99 : lkV RL 99 mX12_thrown 12 0 := ⟨kX12_thrown, tbG_at 1362 (by decide +kernel) (by decide +kernel), tbG_at 1363 (by decide +kernel) (by decide +kernel), tbG_at 1364 (by decide +kernel) (by decide +kernel), _, rfl, rfl⟩
theorem vLw_103 : lkV RL 103 mX11_about 11 2 := ⟨kX11_about, tbG_at 879 (by decide +kernel) (by decide +kernel), tbG_at 880 (by decide +kernel) (by decide +kernel), tbG_at 881 (by decide +kernel) (by decide +kernel), _, rfl, rfl⟩
theorem vLw_106 : lkV RL 106 mX12_about 12 2 := ⟨kX12_about, tbG_at 1551 (by decide +kernel) (by decide +kernel), tbG_at 1552 (by decide +kernel) (by decide +kernel), tbG_at 1553 (by decide +kernel) (by decide +kernel), _, rfl, rfl⟩
theorem vLy_107 : lyS RL 107 mL_read [(0, 9, 12, 13)] 3 := ⟨⟨tbG_at 1134 (by decide +kernel) (by decide +kernel), tbG_at 60 (by decide +kernel) (by decide +kernel), by decide +kernel⟩, tbG_at 1132 (by decide +kernel) (by decide +kernel), tbG_at 1133 (by decide +kernel) (by decide +kernel)⟩
theorem vLw_110 : lkV RL 110 mX12_read 12 1 := ⟨kX12_read, tbG_at 1559 (by decide +kernel) (by decide +kernel), tbG_at 1560 (by decide +kernel) (by decide +kernel), tbG_at 1561 (by decide +kernel) (by decide +kernel), _, rfl, rfl⟩
theorem vLw_111 : lkV RL 111 mX11_node 11 2 := ⟨kX11_node, tbG_at 885 (by decide +kernel) (by decide +kernel), tbG_at 886 (by decide +kernel) (by decide +kernel), tbG_at 887 (by decide +kernel) (by decide +kernel), _, rfl, rfl⟩
theorem vLw_114 : lkV RL 114 mX12_node 12 2 := ⟨kX12_node, tbG_at 1563 (by decide +kernel) (by decide +kernel), tbG_at 1564 (by decide +kernel) (by decide +kernel), tbG_at 1565 (by decide +kernel) (by decide +kernel), _, rfl, rfl⟩
theorem vLw_115 : lkV RL 115 mX11_linked 11 3 := ⟨kX11_linked, tbG_at 890 (by decide +kernel) (by decide +kernel), tbG_at 891 (by decide +kernel) (by decide +kernel), tbG_at 892 (by decide +kernel) (by decide +kernel), _, rfl, rfl⟩
theorem vLw_118 : lkV RL 118 mX12_linked 12 3 := ⟨kX12_linked, tbG_at 1567 (by decide +kernel) (by decide +kernel), tbG_at 1568 (by decide +kernel) (by decide +kernel), tbG_at 1569 (by decide +kernel) (by decide +kernel), _, rfl, rfl⟩
theorem vLw_119 : lkV RL 119 mX11_log 11 2 := ⟨kX11_log, tbG_at 894 (by decide +kernel) (by decide +kernel), tbG_at 895 (by decide +kernel) (by decide +kernel), tbG_at 896 (by decide +kernel) (by decide +kernel), _, rfl, rfl⟩
theorem vLw_122 : lkV RL 122 mX12_log 12 2 := ⟨kX12_log, tbG_at 1571 (by decide +kernel) (by decide +kernel), tbG_at 1572 (by decide +kernel) (by decide +kernel), tbG_at 1573 (by decide +kernel) (by decide +kernel), _, rfl, rfl⟩
theorem vLw_123 : lkV RL 123 mX11_best 11 1 := ⟨kX11_best, tbG_at 902 (by decide +kernel) (by decide +kernel), tbG_at 903 (by decide +kernel) (by decide +kernel), tbG_at 904 (by decide +kernel) (by decide +kernel), _, rfl, rfl⟩
theorem vLw_126 : lkV RL 126 mX12_best 12 1 := ⟨kX12_best, tbG_at 1575 (by decide +kernel) (by decide +kernel), tbG_at 1576 (by decide +kernel) (by decide +kernel), tbG_at 1577 (by decide +kernel) (by decide +kernel), _, rfl, rfl⟩
theorem vLw_127 : lkV RL 127 mX11_gap 11 1 := ⟨kX11_gap, tbG_at 925 (by decide +kernel) (by decide +kernel), tbG_at 926 (by decide +kernel) (by decide +kernel), tbG_at 927 (by decide +kernel) (by decide +kernel), _, rfl, rfl⟩
theorem vLw_130 : lkV RL 130 mX12_gap 12 1 := ⟨kX12_gap, tbG_at 1580 (by decide +kernel) (by decide +kernel), tbG_at 1581 (by decide +kernel) (by decide +kernel), tbG_at 1582 (by decide +kernel) (by decide +kernel), _, rfl, rfl⟩
theorem vLw_131 : lkV RL 131 mX11_other 11 4 := ⟨kX11_other, tbG_at 933 (by decide +kernel) (by decide +kernel), tbG_at 934 (by decide +kernel) (by decide +kernel), tbG_at 935 (by decide +kernel) (by decide +kernel), _, rfl, rfl⟩
theorem vLw_134 : lkV RL 134 mX12_other 12 4 := ⟨kX12_other, tbG_at 1584 (by decide +kernel) (by decide +kernel), tbG_at 1585 (by decide +kernel) (by decide +kernel), tbG_at 1586 (by decide +kernel) (by decide +kernel), _, rfl, rfl⟩
theorem vLw_135 : lkV RL 135 mX11_same 11 0 := ⟨kX11_same, tbG_at 954 (by decide +kernel) (by decide +kernel), tbG_at 955 (by decide +kernel) (by decide +kernel), tbG_at 956 (by decide +kernel) (by decide +kernel), _, rfl, rfl⟩
theorem vLw_138 : lkV RL 138 mX12_same 12 0 := ⟨kX12_same, tbG_at 1592 (by decide +kernel) (by decide +kernel), tbG_at 1593 (by decide +kernel) (by decide +kernel), tbG_at 1594 (by decide +kernel) (by decide +kernel), _, rfl, rfl⟩
theorem vLw_139 : lkV RL 139 mX11_count 11 1 := ⟨kX11_count, tbG_at 966 (by decide +kernel) (by decide +kernel), tbG_at 967 (by decide +kernel) (by decide +kernel), tbG_at 968 (by decide +kernel) (by decide +kernel), _, rfl, rfl⟩
theorem vLw_142 : lkV RL 142 mX12_count 12 1 := ⟨kX12_count, tbG_at 1596 (by decide +kernel) (by decide +kernel), tbG_at 1597 (by decide +kernel) (by decide +kernel), tbG_at 1598 (by decide +kernel) (by decide +kernel), _, rfl, rfl⟩
theorem vLw_143 : lkV RL 143 mX11_keep 11 3 := ⟨kX11_keep, tbG_at 970 (by decide +kernel) (by decide +kernel), tbG_at 971 (by decide +kernel) (by decide +kernel), tbG_at 972 (by decide +kernel) (by decide +kernel), _, rfl, rfl⟩
theorem vLw_146 : lkV RL 146 mX12_keep 12 3 := ⟨kX12_keep, tbG_at 1600 (by decide +kernel) (by decide +kernel), tbG_at 1601 (by decide +kernel) (by decide +kernel), tbG_at 1602 (by decide +kernel) (by decide +kernel), _, rfl, rfl⟩
theorem vLw_147 : lkV RL 147 mX11_make 11 3 := ⟨kX11_make, tbG_at 993 (by decide +kernel) (by decide +kernel), tbG_at 994 (by decide +kernel) (by decide +kernel), tbG_at 995 (by decide +kernel) (by decide +kernel), _, rfl, rfl⟩
theorem vLw_150 : lkV RL 150 mX12_make 12 3 := ⟨kX12_make, tbG_at 1611 (by decide +kernel) (by decide +kernel), tbG_at 1612 (by decide +kernel) (by decide +kernel), tbG_at 1613 (by decide +kernel) (by decide +kernel), _, rfl, rfl⟩
theorem vLy_151 : lyS RL 151 mL_element [(0, 9, 12, 13), (0, 9, 16, 23)] 4 := ⟨⟨tbG_at 1142 (by decide +kernel) (by decide +kernel), tbG_at 60 (by decide +kernel) (by decide +kernel), by decide +kernel⟩, tbG_at 1140 (by decide +kernel) (by decide +kernel), tbG_at 1141 (by decide +kernel) (by decide +kernel)⟩
theorem vLw_153 : lkV RL 153 mX12_element 12 2 := ⟨kX12_element, tbG_at 1615 (by decide +kernel) (by decide +kernel), tbG_at 1616 (by decide +kernel) (by decide +kernel), tbG_at 1617 (by decide +kernel) (by decide +kernel), _, rfl, rfl⟩
theorem vLw_154 : lkV RL 154 mX11_copy 11 5 := ⟨kX11_copy, tbG_at 1005 (by decide +kernel) (by decide +kernel), tbG_at 1006 (by decide +kernel) (by decide +kernel), tbG_at 1007 (by decide +kernel) (by decide +kernel), _, rfl, rfl⟩
theorem vLw_158 : lkV RL 158 mX12_copy 12 5 := ⟨kX12_copy, tbG_at 1619 (by decide +kernel) (by decide +kernel), tbG_at 1620 (by decide +kernel) (by decide +kernel), tbG_at 1621 (by decide +kernel) (by decide +kernel), _, rfl, rfl⟩
theorem vLw_159 : lkV RL 159 mX11_weight 11 1 := ⟨kX11_weight, tbG_at 1018 (by decide +kernel) (by decide +kernel), tbG_at 1019 (by decide +kernel) (by decide +kernel), tbG_at 1020 (by decide +kernel) (by decide +kernel), _, rfl, rfl⟩
theorem vLw_162 : lkV RL 162 mX12_weight 12 1 := ⟨kX12_weight, tbG_at 1627 (by decide +kernel) (by decide +kernel), tbG_at 1628 (by decide +kernel) (by decide +kernel), tbG_at 1629 (by decide +kernel) (by decide +kernel), _, rfl, rfl⟩
theorem vLy_163 : lyV RL 163 mX11_toss [(19, 23, 26, 334)] 11 1 := ⟨⟨tbG_at 1033 (by decide +kernel) (by decide +kernel), tbG_at 61 (by decide +kernel) (by decide +kernel), by decide +kernel⟩, tbG_at 1030 (by decide +kernel) (by decide +kernel), tbG_at 1031 (by decide +kernel) (by decide +kernel), tbG_at 1032 (by decide +kernel) (by decide +kernel), _, rfl, rfl⟩
theorem vLw_166 : lkV RL 166 mX12_toss 12 1 := ⟨kX12_toss, tbG_at 1635 (by decide +kernel) (by decide +kernel), tbG_at 1636 (by decide +kernel) (by decide +kernel), tbG_at 1637 (by decide +kernel) (by decide +kernel), _, rfl, rfl⟩
theorem nL_8 : NL RL 8 11 4 := ⟨RX11, TX11, tyX11, rfl, inX11, tyX11_ok, tbG_at 83 (by decide +kernel) (by decide +kernel), tbG_at 84 (by decide +kernel) (by decide +kernel), tbG_at 61 (by decide +kernel) (by decide +kernel), by decide +kernel⟩
theorem nL_33 : NL RL 33 12 65 := ⟨RX12, TX12, tyX12, rfl, inX12, tyX12_ok, tbG_at 1151 (by decide +kernel) (by decide +kernel), tbG_at 1152 (by decide +kernel) (by decide +kernel), tbG_at 75 (by decide +kernel) (by decide +kernel), by decide +kernel⟩
