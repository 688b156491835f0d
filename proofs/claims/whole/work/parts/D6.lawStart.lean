/-! The law's start: its own cell, new, the two constructors. -/
def xv (L : Nat) (xs : Nat → Int32) (k : Nat) : Int32 := if k < L then xs k else 0
def QC (v : Int32) : Array Value → State → Outcome → State → Prop := fun _ st oc t => oc = .returned (some (.int v)) ∧ t.heap = st.heap
theorem m_lcell {l : Launch} {bb L k : Nat} {xs : Nat → Int32} (hL : L ≤ 3075) (hk : k ≤ 3075) : Met l (iy mL_cell) (wsM mL_cell) (rmM mL_cell) (va_Pc [.ref bb, .int (nI k)] (fun U => va_X bb L xs U U.heap ∧ bb < U.heap.size)) (QC (xv L xs k)) 0 0 (fun _ => False) := by
  refine Met.ofW (cc := ic mL_cell) (maxL := il mL_cell) (ret := ir mL_cell) (by decide) rfl ?_
  intro p e s m args below meth c s₁ B0 hml hv
  obtain ⟨rfl, hX, hbl⟩ := hv
  have hx := B0.exec
  have hb : c.code = ic mL_cell := B0.bytes
  have hret : meth.sig.returnType = some .int := B0.returns
  have hlocks := B0.notSynchronized
  rw [lg_entry_eq]
  generalize hla : (lg_sl [Value.ref bb, .int (nI k)] ++ List.replicate (il mL_cell - (lg_sl [Value.ref bb, .int (nI k)]).length) Slot.unset).toArray = la
  have hl0 : la[0]? = some (.val (.ref bb)) := by rw [← hla]; rfl
  have hl1 : la[1]? = some (.val (.int (nI k))) := by rw [← hla]; rfl
  clear hla
  refine lv_iload_n hx hb dL_cell_0 rfl hl1 ?_
  refine lv_aload_n hx hb dL_cell_1 rfl hl0 ?_
  refine va_slen (A := fun _ => False) (b := bb) hx hb hX hbl (fun h => h) va_S.rf dL_cell_2 ?_
  refine lv_icmp_ge (tgt := 12) hx hb dL_cell_3 (by decide) (fun c3 => ?_) (fun c3 => ?_)
  · have hk2 : ¬ k < L := by
      have h3 : L ≤ k := (nI_leI (by omega) (by omega)).mp c3
      omega
    refine lv_iconst (v := 0) hx hb dL_cell_12 (by decide) ?_
    refine W.iret hx hb hret (fun t ht hW => ⟨by unfold xv; rw [if_neg hk2], ht⟩) (fun q hq => by cases hq) dL_cell_13 hlocks
  · have hk2 : k < L := by
      have h3 : ¬ L ≤ k := fun q => c3 ((nI_leI (by omega) (by omega)).mpr q)
      omega
    refine lv_aload_n hx hb dL_cell_6 rfl hl0 ?_
    refine lv_iload_n hx hb dL_cell_7 rfl hl1 ?_
    refine va_sld (A := fun _ => False) (b := bb) hx hb hX hbl (fun h => h) va_S.rf (vp_in_nI hk2 (by omega)) dL_cell_8 ?_
    rw [nI_clamp (by omega)]
    refine lv_goto (tgt := 13) hx hb dL_cell_9 (by decide) ?_
    refine W.iret hx hb hret (fun t ht hW => ⟨by unfold xv; rw [if_pos hk2], ht⟩) (fun q hq => by cases hq) dL_cell_13 hlocks
section
variable {L : Nat} {xs : Nat → Int32} {u us : Nat} {N : MI} {pc idx na : Nat} {ls : List (Option Value)} {st rest As : List Value} {σ : Nat → (Nat → ClassId) → va_W} {n : Nat} {ν : Nat → Nat → Bool} {μ : Mm}
theorem lg_lcell {k : Nat} {v : Int32} (d : decode (ic mL_law) pc = .ok (.invokestatic 25, 3)) (hL : L ≤ 3075) (hk : k ≤ 3075) (hv : xv L xs k = v) (hcap : u ≤ RL_law.1 ∧ us ≤ RL_law.2) (hst : (st.map fun v => v.category).sum ≤ 8) (kk : GL ((u, us), L, xs) (pc + 3) ls (.int v :: st) σ) : GL ((u, us), L, xs) pc ls (.int (nI k) :: .ref 999 :: st) σ := by
  subst hv
  intro B bb D cA p l e s m args below meth c H locs la C hE hP hS hl
  have C0 := C
  have hE0 := hE
  obtain ⟨hx, hb, hml, hown, hret, hlocks, hts, hK, hNs⟩ := C
  obtain ⟨e1, e2, e3, e4, e5, e6, e7⟩ := hE
  obtain ⟨hlc, h1, h2⟩ := vLw_25
  have cb := callB_of (R := rmX mL_law RL_law) (s := s) (args := args) (own := RL) (index := 25) (rm := rmM mL_cell) (mc := 0) (ms := 0) 2 hts (wsM_good hlc) rfl rfl rfl (hts _ hlc.2.1) (hts _ h1) hlc.2.2 (fitN_spec0 (q' := RL_law) (by decide))
  have hXH : va_X bb L xs s H := e3.kept (hS.2.1 bb (by omega) (by show ¬ B ≤ bb; omega))
  have hsz : bb < H.size := by have := hS.1; omega
  have hPc : PreS s H (va_Pc [.ref bb, .int (nI k)] (fun U => va_X bb L xs U U.heap ∧ bb < U.heap.size)) [.ref bb, .int (nI k)] := by
    refine ⟨fun a U g mk q => ?_, fun U hU hW => ⟨rfl, ?_, by rw [hU]; exact hsz⟩⟩
    · obtain ⟨q0, q1, q2⟩ := q
      exact ⟨q0, va_X.moved (u := U) (U := U.calling g mk a) (Vm.Alike.refl U.vm) q1, q2⟩
    · rw [hU]; exact va_X.moved hW.alike hXH
  have hr := va_runS (l := l) (p := p) (e := e) (below := below) (meth := meth) (locs := locs) (cells := u) (slots := us) (g := F0 m pc la (.int (nI k) :: .ref bb :: st.map (cvL B bb))) (rest := st.map (cvL B bb)) (As := [.ref bb, .int (nI k)]) ⟨hx, hb, hml, hown, hts⟩ (m_lcell (bb := bb) (xs := xs) hL hk) ⟨cb, hts _ h2⟩ hPc rfl rfl hl.1 rfl (lv_room (by rw [sum_catL]; exact hst)) d hcap
  intro T hT X
  obtain ⟨w, st₀, t, T', L9, h0, X', hL9, f1, f2, ⟨hw, hh⟩, stp⟩ := hr T hT X
  cases hw
  have hH : T'.heap = H := by rw [f1, hh, h0]
  obtain ⟨t2, a1, b1⟩ := kk B bb D cA p l e s m args below meth c H (locs ++ L9) la C0 hE0 hP ⟨hS.1, hS.2.1, fun q hq => by
      rcases List.mem_append.mp hq with h | h
      · exact hS.2.2 q h
      · exact (hL9 q h).elim⟩ hl T' hH X'
  exact ⟨t2, stp t2 a1, b1⟩
theorem sizedL {p : Program} {l : Launch} {e : Env} {R : Room} {s : State} {m : MethodId} {args : Array Value} {below : List Frame} {meth : Method} {c : Code} {H : Heap} {locs : List Loc} {cells slots : Nat} {Q : State → Prop} {g : JFrame} {B : Nat} {D : va_G} {cA : Nat → ClassId} (hP : va_P D vwCl (wN B cA (n, ν, μ)) H) (hE : s.heap.size = B) (hS : s.heap.size ≤ H.size) (hu : cells = n) (k : H.size = B + n → W p l e R s m args below meth c H locs cells slots Q g) : W p l e R s m args below meth c H locs cells slots Q g := by
  intro T hT X
  refine k ?_ T hT X
  have h1 : T.heap.size ≤ s.heap.size + cells := X.same.2.2.1
  rw [hT] at h1
  by_cases hn : n = 0
  · omega
  · have h2 := (hP (n - 1) _ (wN_at (z := (n, ν, μ)) (show n - 1 < n by omega))).lt
    have h3 : B + (n - 1) < H.size := h2
    omega
theorem lg_newO {ci F : Nat} (d : decode (ic mL_law) pc = .ok (.new idx, 3)) (lk : NL RL idx ci F) (hci : ci < 20) (hk : kd n = (ci, F)) (h9 : n ≠ 999) (hu : u = n) (hcap : u + 1 ≤ RL_law.1 ∧ us + F ≤ RL_law.2) (hF : Fr n ν μ) (k : GL ((u + 1, us + F), L, xs) (pc + 3) ls (.ref n :: st) (wZ (n + 1, ν, μ))) : GL ((u, us), L, xs) pc ls st (wZ (n, ν, μ)) := by
  intro B bb D cA p l e s m args below meth c H locs la C hE hP hS hl
  obtain ⟨hx, hb, hml, hown, hret, hlocks, hts, hK, hNs⟩ := C
  obtain ⟨C, T, ty0, hc, hin, hty, l1, l2, l3, hdf⟩ := lk
  refine sizedL (n := n) (ν := ν) (μ := μ) hP hE.1 hS.1 hu (fun hz => ?_)
  have hKn := hK.1 ci _ hc
  refine W.newcK hx hb hown (hts _ l1) (hts _ l2) (hts _ l3) rfl d hcap.1 hcap.2 hKn.2.1 hz (fun H1 kC hkC e1 z1 o1 => ?_)
  have hcv : Value.ref (B + n) :: st.map (cvL B bb) = (Value.ref n :: st).map (cvL B bb) := by
    rw [List.map_cons, show cvL B bb (.ref n) = .ref (B + n) from congrArg Value.ref (if_neg h9)]
  have hgoal := k B bb D cA p l e s m args below meth c H1 locs la ⟨hx, hb, hml, hown, hret, hlocks, hts, hK, hNs⟩ hE (wN_new hP (fun q hq => o1 q hq) (by
    rw [entN_obj hk hci]
    refine ⟨_, hc, (u_born ty0 hts hin hKn hkC e1 hty).to (fun j hj => ?_)⟩
    have hj' : j < F := hj
    have h1 := hF n (Nat.le_refl _) j
    have h2 : isP n j = isR ci j := by unfold isP; rw [hk]; exact if_pos hci
    show defaultValue (ty0 j) = vp_V _ j
    rw [hdf j hj']
    unfold vp_V
    rw [List.getD, fvN_at hj']
    unfold fvN
    show _ = if isR ci j = true then (if ν n j = true then _ else _) else Value.int (μ.1 n j)
    rw [h1.1, h1.2.1, h2]
    cases isR ci j <;> rfl)) ⟨Nat.le_trans hS.1 (by omega), fun x h1 h2 => (o1 x (by have := hS.1; omega)).trans (hS.2.1 x h1 h2), hS.2.2⟩ hl
  rw [← hcv] at hgoal
  exact hgoal
theorem lg_new21 {len : Nat} (d : decode (ic mL_law) pc = .ok (.newarray .long, 2)) (hk : kd n = (21, len)) (h9 : n ≠ 999) (hu : u = n) (hcap : u + 1 ≤ RL_law.1 ∧ us + len ≤ RL_law.2) (hF : Fr n ν μ) (k : GL ((u + 1, us + len), L, xs) (pc + 2) ls (.ref n :: st) (wZ (n + 1, ν, μ))) : GL ((u, us), L, xs) pc ls (.int (nI len) :: st) (wZ (n, ν, μ)) := by
  intro B bb D cA p l e s m args below meth c H locs la C hE hP hS hl
  obtain ⟨hx, hb, hml, hown, hret, hlocks, hts, hK, hNs⟩ := C
  refine sizedL (n := n) (ν := ν) (μ := μ) hP hE.1 hS.1 hu (fun hz => ?_)
  have h33 : len ≤ 3300 := by have := kd_small n; rw [hk] at this; exact this
  refine va_newaK (rest := st.map (cvL B bb)) hx hb (atype := .long) (hts _ (tbG_at 1361 (by decide +kernel) (by decide +kernel))) rfl d rfl (nI_nneg (by omega)) (nI_clamp (by omega)) (Nat.le_trans (Nat.mul_le_mul h33 (show componentBytes (newarray.typeOf .long) ≤ 8 by decide)) (by decide)) hcap.1 hcap.2 hz (fun H1 cA1 e1 z1 o1 hAr hNm => ?_)
  have hcA : cA1 = cA 21 := Option.some.inj (hNm.symm.trans (hK.2 1 _ rfl).2)
  subst hcA
  have hcv : Value.ref (B + n) :: st.map (cvL B bb) = (Value.ref n :: st).map (cvL B bb) := by
    rw [List.map_cons, show cvL B bb (.ref n) = .ref (B + n) from congrArg Value.ref (if_neg h9)]
  have hgoal := k B bb D cA p l e s m args below meth c H1 locs la ⟨hx, hb, hml, hown, hret, hlocks, hts, hK, hNs⟩ hE (wN_new hP (fun q hq => o1 q hq) (by
    rw [entN_long hk]
    refine e1.trans (congrArg some ?_)
    show arrV (cA 21) len _ = arrV (cA 21) len (fun j => .long ((n + 1, ν, μ).2.2.2 n j))
    refine arrV_ext (fun j _ => ?_)
    show defaultValue (newarray.typeOf .long) = _
    rw [show (n + 1, ν, μ).2.2.2 n j = 0 from (hF n (Nat.le_refl _) j).2.2]
    rfl)) ⟨Nat.le_trans hS.1 (by omega), fun x h1 h2 => (o1 x (by have := hS.1; omega)).trans (hS.2.1 x h1 h2), hS.2.2⟩ hl
  rw [← hcv] at hgoal
  exact hgoal
theorem lg_i3 {a : Nat} {x1 x2 x3 : Int32} {q : Nat × Nat} {K' : Nw → Prop} (d : decode (ic mL_law) pc = .ok (.invokespecial idx, 3)) (lk : lkI RL idx N 3) (hfit : fitN mL_law N = true) (h9 : a ≠ 999) (hst : (st.map fun v => v.category).sum ≤ 8) (hu : u = n) (hcap : u + q.1 ≤ RL_law.1 ∧ us + q.2 ≤ RL_law.2)
    (hM : MetN N [.ref a, .int x1, .int x2, .int x3] (n, ν, μ) q K') (k : ∀ z', K' z' → GL ((u + q.1, us + q.2), L, xs) (pc + 3) ls st (wZ z')) : GL ((u, us), L, xs) pc ls (.int x3 :: .int x2 :: .int x1 :: .ref a :: st) (wZ (n, ν, μ)) := by
  intro B bb D cA p l e s m args below meth c H locs la C hE hP hS hl
  have C0 := C
  obtain ⟨hx, hb, hml, hown, hret, hlocks, hts, hK, hNs⟩ := C
  obtain ⟨hlc, h1, h2, h3, h4⟩ := lk
  refine sizedL (n := n) (ν := ν) (μ := μ) hP hE.1 hS.1 hu (fun hz => ?_)
  have hs : (Value.int x3 :: .int x2 :: .int x1 :: .ref a :: st).map (cvL B bb) = [Value.int x1, .int x2, .int x3].reverse ++ .ref (B + a) :: st.map (cvL B bb) := by
    rw [List.map_cons, List.map_cons, List.map_cons, List.map_cons, show cvL B bb (.ref a) = .ref (B + a) from congrArg Value.ref (if_neg h9)]; rfl
  rw [hs]
  have hw0 : wsM N = Cond.code (iy N) (ic N) (il N) none :: tbG := by unfold wsM; rw [h4]
  have hPc : PreS s H (va_Pc ([.ref a, .int x1, .int x2, .int x3].map (cv B)) (fun U => va_P D vwCl (wN B cA (n, ν, μ)) U.heap ∧ KW D cA U ∧ U.heap.size = B + (n, ν, μ).1 ∧ AOK U)) (.ref (B + a) :: [.int x1, .int x2, .int x3]) := ⟨pre_blindN, pre_holdN (av := [.ref a, .int x1, .int x2, .int x3]) hP hK hNs hz hE.2.2.2.2.2.2⟩
  have hr : va_Run p l e (rmX mL_law RL_law) s m args below meth c H locs u us q.1 q.2 (F0 m pc la ([Value.int x1, .int x2, .int x3].reverse ++ .ref (B + a) :: st.map (cvL B bb))) (st.map (cvL B bb)) (QN B D cA K' (Value.ref (B + a) :: [.int x1, .int x2, .int x3]).toArray) (fun q => B ≤ q) := by
    rcases h1 with h1 | ⟨host, h1⟩
    · have cb := callB_of (R := rmX mL_law RL_law) (s := s) (args := args) (own := RL) (index := idx) (rm := rmX N q) (mc := q.1) (ms := q.2) 3 hts (wsM_good hlc) hw0 rfl rfl (hts _ hlc.2.1) (hts _ h1) hlc.2.2 (fitN_spec (q' := RL_law) hfit)
      exact va_runI (As := [.int x1, .int x2, .int x3]) ⟨hx, hb, hml, hown, hts⟩ (hM l B D cA) ⟨cb, h2, hts _ h3⟩ hPc rfl rfl hl.1 rfl (lv_room (by rw [sum_catL]; exact hst)) d hcap
    · have cb := va_cnB (R := rmX mL_law RL_law) (s := s) (args := args) (own := RL) (index := idx) (host := host) (rm := rmX N q) (mc := q.1) (ms := q.2) 3 hts (wsM_good hlc) hw0 rfl rfl (hNs _ h1) (hts _ hlc.2.1) hlc.2.2 (fitN_spec (q' := RL_law) hfit)
      exact va_runIN (As := [.int x1, .int x2, .int x3]) ⟨hx, hb, hml, hown, hts⟩ (hM l B D cA) ⟨cb, h2, hts _ h3⟩ hPc rfl rfl hl.1 rfl (lv_room (by rw [sum_catL]; exact hst)) d hcap
  intro T hT X
  obtain ⟨v, st₀, t, T', L9, h0, X', hL9, f1, f2, ⟨⟨z', hv, hkz, hP1⟩, hz1, hkk⟩, stp⟩ := hr T hT X
  cases hv
  rw [h0] at hz1 hkk
  have hS1 : va_S (fun q => B ≤ q) s.heap T'.heap (locs ++ L9) := ⟨Nat.le_trans hS.1 (by rw [f1]; exact hz1), fun q h1 h2 => by rw [f1, hkk q (Nat.lt_of_lt_of_le h1 hS.1) h2]; exact hS.2.1 q h1 h2, fun q hq => by
      rcases List.mem_append.mp hq with h | h
      · exact hS.2.2 q h
      · exact hL9 q h⟩
  obtain ⟨t2, a1, b1⟩ := k z' hkz B bb D cA p l e s m args below meth c T'.heap (locs ++ L9) la C0 hE (by rw [f1]; exact hP1) hS1 hl T' rfl X'
  exact ⟨t2, stp t2 a1, b1⟩
end
