/-! The class: placing. -/
def nwS (S : Sx) (nd : Nat) : Nat := match nrS S (S.1 0 0) (S.1 0 0) nd with
  | some x => x
  | none => nd
theorem mod_s {x n : Nat} (hn : 0 < n) : (x % n + 1) % n = (x + 1) % n := by rw [Nat.mod_add_mod]
theorem cl_nextWithRoom {b : Nat} {σ : Mm} {S : Sx} {Tf : Nat → Nat} {K : Option Value → Mm → Prop} (hb : mch b) (hR : RepC b σ S Tf) (hB : Bd S) (hT : Tk S Tf) (hn : 2 ≤ S.1 0 0) {nd : Nat} (hnd : nd < S.1 0 0) (hK : K (some (.int (nI (nwS S nd)))) σ) : ∀ k s, s + k = S.1 0 0 → nrS S (S.1 0 0) k ((nd + s) % S.1 0 0) = nrS S (S.1 0 0) (S.1 0 0) nd → G W0 mX3_nextWithRoom K 2 [some (.ref b), some (.int (nI nd)), some (.int (nI s)), none] [] σ := by
  intro k
  induction k with
  | zero =>
    intro s hs hk
    have b0 := B_nodes hB 0
    refine gs_iload_n dX3_nextWithRoom_2 rfl rfl ?_
    refine gs_aload_n dX3_nextWithRoom_3 rfl rfl ?_
    refine g_getR dX3_nextWithRoom_4 fX3_55 (kMa hb) (by decide) (rMa_board hb) ?_
    refine g_getI dX3_nextWithRoom_7 fX3_167 bdW0.1 (by decide) (C_nodes hR) ?_
    refine gt_icmp_ge (tgt := 41) dX3_nextWithRoom_10 (by decide) (by omega) (by omega) (by omega) ?_
    refine gs_iload_n dX3_nextWithRoom_41 rfl rfl ?_
    refine g_ireturn dX3_nextWithRoom_42 rfl ?_
    have e : nrS S (S.1 0 0) (S.1 0 0) nd = none := hk.symm
    rw [nwS, e] at hK
    exact hK
  | succ k ih =>
    intro s hs hk
    have b0 := B_nodes hB 0
    refine gs_iload_n dX3_nextWithRoom_2 rfl rfl ?_
    refine gs_aload_n dX3_nextWithRoom_3 rfl rfl ?_
    refine g_getR dX3_nextWithRoom_4 fX3_55 (kMa hb) (by decide) (rMa_board hb) ?_
    refine g_getI dX3_nextWithRoom_7 fX3_167 bdW0.1 (by decide) (C_nodes hR) ?_
    refine gf_icmp_ge (tgt := 41) dX3_nextWithRoom_10 (by decide) (by omega) (by omega) (by omega) ?_
    refine gs_iload_n dX3_nextWithRoom_13 rfl rfl ?_
    refine gs_iload_n dX3_nextWithRoom_14 rfl rfl ?_
    refine g_iadd dX3_nextWithRoom_15 (by first | exact nI_add _ _ | rfl) ?_
    refine gs_aload_n dX3_nextWithRoom_16 rfl rfl ?_
    refine g_getR dX3_nextWithRoom_17 fX3_55 (kMa hb) (by decide) (rMa_board hb) ?_
    refine g_getI dX3_nextWithRoom_20 fX3_167 bdW0.1 (by decide) (C_nodes hR) ?_
    refine g_irem dX3_nextWithRoom_23 (nI_ne0 (by omega) (by omega)) (pk_rem (by omega) (by omega) (by omega)) ?_
    refine gs_istore_n (ls' := [_, _, _, _]) dX3_nextWithRoom_24 rfl rfl rfl ?_
    refine gs_aload_n dX3_nextWithRoom_25 rfl rfl ?_
    refine gs_iload_n dX3_nextWithRoom_26 rfl rfl ?_
    refine g_cVI1 dX3_nextWithRoom_27 vX3_163 (by decide) (kMa hb) (by decide) (Nat.le_of_ble_eq_true rfl) (c_hasRoom hb hR hB hT (Nat.mod_lt _ (by omega))) ?_
    rintro _ σ ⟨rfl, e9⟩
    subst e9
    refine gb_if_eq (tgt := 35) dX3_nextWithRoom_30 (by decide) (fun c30 => ?_) (fun c30 => ?_)
    · refine gs_iinc (ls' := [_, _, _, _]) dX3_nextWithRoom_35 rfl (nI_add _ 1) rfl rfl ?_
      refine g_goto (tgt := 2) dX3_nextWithRoom_38 (by decide) ?_
      refine G.drop 3 (ls' := [_, _, _, none]) rfl ?_
      exact ih (s + 1) (by omega) (by rw [← hk, show nrS S (S.1 0 0) (k + 1) ((nd + s) % S.1 0 0) = nrS S (S.1 0 0) k (((nd + s) % S.1 0 0 + 1) % S.1 0 0) from if_neg (by simp [c30]), mod_s (by omega)]; rfl)
    · refine gs_iload_n dX3_nextWithRoom_33 rfl rfl ?_
      refine g_ireturn dX3_nextWithRoom_34 rfl ?_
      have e : nrS S (S.1 0 0) (S.1 0 0) nd = some ((nd + s) % S.1 0 0) := by rw [← hk]; exact if_pos c30
      rw [nwS, e] at hK
      exact hK
theorem c_nextWithRoom {b : Nat} {σ : Mm} {S : Sx} {Tf : Nat → Nat} (hb : mch b) (hR : RepC b σ S Tf) (hB : Bd S) (hT : Tk S Tf) (hn : 2 ≤ S.1 0 0) {nd : Nat} (hnd : nd < S.1 0 0) : RI W0 mX3_nextWithRoom [.ref b, .int (nI nd)] σ (fun r τ => r = nI (nwS S nd) ∧ τ = σ) := by
  refine G.met (by decide) (Nat.le_of_ble_eq_true rfl) ?_
  show G _ _ _ 0 [some (.ref b), some (.int (nI nd)), none, none] [] σ
  refine g_iconst (v := nI 0) dX3_nextWithRoom_0 (by decide) ?_
  refine gs_istore_n (ls' := [_, _, _, _]) dX3_nextWithRoom_1 rfl rfl rfl ?_
  exact cl_nextWithRoom hb hR hB hT hn hnd ⟨_, rfl, rfl, rfl⟩ (S.1 0 0) 0 (by omega) (by rw [Nat.add_zero, Nat.mod_eq_of_lt hnd])
theorem c_firstChoice {b : Nat} {σ : Mm} {S : Sx} {Tf : Nat → Nat} (hb : mch b) (hR : RepC b σ S Tf) (hB : Bd S) (hT : Tk S Tf) (hn : 2 ≤ S.1 0 0) {a : Nat} (hA : σ.1 (b + 5) 1 = nI a) : RI W0 mX3_firstChoice [.ref b] σ (fun r τ => r = nI (fcS S a) ∧ τ = σ) := by
  have b0 := B_nodes hB 0
  have b1 := B_turns hB 0
  have b2 := B_placing hB 0
  refine G.met (by decide) (Nat.le_of_ble_eq_true rfl) ?_
  show G _ _ _ 0 [some (.ref b)] [] σ
  have h0 : S.1 20 0 = 0 ∨ S.1 20 0 = 1 ∨ S.1 20 0 = 2 := by omega
  rcases h0 with h0 | h0 | h0
  · refine gs_aload_n dX3_firstChoice_0 rfl rfl ?_
    refine g_getR dX3_firstChoice_1 fX3_21 (kMa hb) (by decide) (rMa_rules hb) ?_
    refine g_getI dX3_firstChoice_4 fX3_281 (kMa_rules hb) (by decide) ((C_placing hR).trans (by rw [h0])) ?_
    refine g_lookup (off := 43) (tgt := 50) dX3_firstChoice_7 (by decide) (by decide) (by decide) ?_
    · refine gs_aload_n dX3_firstChoice_50 rfl rfl ?_
      refine g_getR dX3_firstChoice_51 fX3_28 (kMa hb) (by decide) (rMa_attempt hb) ?_
      refine g_getI dX3_firstChoice_54 fX3_220 (kMa_attempt hb) (by decide) hA ?_
      refine g_ireturn dX3_firstChoice_57 rfl ?_
      exact ⟨_, rfl, by rw [fcS, if_pos h0], rfl⟩
  · refine gs_aload_n dX3_firstChoice_0 rfl rfl ?_
    refine g_getR dX3_firstChoice_1 fX3_21 (kMa hb) (by decide) (rMa_rules hb) ?_
    refine g_getI dX3_firstChoice_4 fX3_281 (kMa_rules hb) (by decide) ((C_placing hR).trans (by rw [h0])) ?_
    refine g_lookup (off := 25) (tgt := 32) dX3_firstChoice_7 (by decide) (by decide) (by decide) ?_
    · refine gs_aload_n dX3_firstChoice_32 rfl rfl ?_
      refine g_getI dX3_firstChoice_33 fX3_97 (kMa hb) (by decide) (C_turns hR) ?_
      refine gs_aload_n dX3_firstChoice_36 rfl rfl ?_
      refine g_getR dX3_firstChoice_37 fX3_55 (kMa hb) (by decide) (rMa_board hb) ?_
      refine g_getI dX3_firstChoice_40 fX3_167 bdW0.1 (by decide) (C_nodes hR) ?_
      refine g_irem dX3_firstChoice_43 (nI_ne0 (by omega) (by omega)) (pk_rem (by omega) (by omega) (by omega)) ?_
      refine g_ireturn dX3_firstChoice_44 rfl ?_
      exact ⟨_, rfl, by rw [fcS, if_neg (by omega), if_pos h0], rfl⟩
  · refine gs_aload_n dX3_firstChoice_0 rfl rfl ?_
    refine g_getR dX3_firstChoice_1 fX3_21 (kMa hb) (by decide) (rMa_rules hb) ?_
    refine g_getI dX3_firstChoice_4 fX3_281 (kMa_rules hb) (by decide) ((C_placing hR).trans (by rw [h0])) ?_
    refine g_lookup (off := 38) (tgt := 45) dX3_firstChoice_7 (by decide) (by decide) (by decide) ?_
    · refine gs_aload_n dX3_firstChoice_45 rfl rfl ?_
      refine g_cVI0 dX3_firstChoice_46 vX3_284 (by decide) (kMa hb) (by decide) (Nat.le_of_ble_eq_true rfl) (c_emptiest hb hR hB hT hn) ?_
      rintro _ σ ⟨rfl, e9⟩
      subst e9
      refine g_ireturn dX3_firstChoice_49 rfl ?_
      exact ⟨_, rfl, by rw [fcS, if_neg (by omega), if_neg (by omega)], rfl⟩
theorem D_lies1 {b : Nat} {σ0 σ : Mm} {S : Sx} {Tf : Nat → Nat} {At : Nat → Int32} (h : Cq b σ0 S Tf At σ) (hb : mch b) (hB : Bd S) {i : Nat} (hi : i < 20) {nd : Nat} : Cq b σ0 (setN S 24 i (nd + 1)) Tf At (wI σ (b + 18 + 3 * i) 3 (nI nd)) := by
  have q := D_lies h hb hB hi (v := nd + 1)
  rwa [lzC_s (by omega), Nat.add_sub_cancel] at q
def layT (S : Sx) (Tf : Nat → Nat) (p nd : Nat) : Nat → Nat := fun a => if S.1 8 p = 2 then (if a < S.1 0 0 then Tf a + 1 else Tf a) else (if a = nd then Tf a + 1 else Tf a)
def layK (Tf : Nat → Nat) (k : Nat) : Nat → Nat := fun a => if a < k then Tf a + 1 else Tf a
theorem layK_s (Tf : Nat → Nat) (k : Nat) : upT (layK Tf k) k (Tf k + 1) = layK Tf (k + 1) := by
  funext x
  unfold upT layK
  by_cases h : x = k
  · subst h; rw [if_pos rfl, if_pos (by omega)]
  · rw [if_neg h]
    by_cases h2 : x < k
    · rw [if_pos h2, if_pos (by omega)]
    · rw [if_neg h2, if_neg (by omega)]
theorem l_lay {b : Nat} {σ0 : Mm} {S : Sx} {Tf : Nat → Nat} {At : Nat → Int32} {K : Option Value → Mm → Prop} (hb : mch b) (hB : Bd S) {p nd : Nat} (h20 : p < 20) (hK : ∀ τ, Cq b σ0 S (layK Tf (S.1 0 0)) At τ → K none τ) : ∀ k i σ, i + k = S.1 0 0 → Cq b σ0 S (layK Tf i) At σ → G W0 mX3_lay K 26 [some (.ref b), some (.ref (b + 18 + 3 * p)), some (.int (nI nd)), some (.int (nI i))] [] σ := by
  have b0 := B_nodes hB 0
  intro k
  induction k with
  | zero =>
    intro i σ hi hQ
    have hR := hQ.1
    refine gs_iload_n dX3_lay_26 rfl rfl ?_
    refine gs_aload_n dX3_lay_27 rfl rfl ?_
    refine g_getR dX3_lay_28 fX3_55 (kMa hb) (by decide) (rMa_board hb) ?_
    refine g_getI dX3_lay_31 fX3_167 bdW0.1 (by decide) (C_nodes hR) ?_
    refine gt_icmp_ge (tgt := 53) dX3_lay_34 (by decide) (by omega) (by omega) (by omega) ?_
    refine g_return dX3_lay_53 rfl ?_
    have e : i = S.1 0 0 := by omega
    rw [e] at hQ
    exact hK _ hQ
  | succ k ih =>
    intro i σ hi hQ
    have hR := hQ.1
    refine gs_iload_n dX3_lay_26 rfl rfl ?_
    refine gs_aload_n dX3_lay_27 rfl rfl ?_
    refine g_getR dX3_lay_28 fX3_55 (kMa hb) (by decide) (rMa_board hb) ?_
    refine g_getI dX3_lay_31 fX3_167 bdW0.1 (by decide) (C_nodes hR) ?_
    refine gf_icmp_ge (tgt := 53) dX3_lay_34 (by decide) (by omega) (by omega) (by omega) ?_
    refine gs_aload_n dX3_lay_37 rfl rfl ?_
    refine g_getR dX3_lay_38 fX3_44 (kMa hb) (by decide) (rMa_taken hb) ?_
    refine gs_iload_n dX3_lay_41 rfl rfl ?_
    refine g_dup2 dX3_lay_42 rfl rfl ?_
    refine g_iald dX3_lay_43 (kMa_taken hb) (by omega) (show _ = nI (Tf i) from (hR.2.2.2.1 i (by omega)).trans (by rw [layK, if_neg (by omega)])) ?_
    refine g_iconst (v := nI 1) dX3_lay_44 (by decide) ?_
    refine g_iadd dX3_lay_45 (by first | exact nI_add _ _ | rfl) ?_
    refine gc_iast dX3_lay_46 (kMa_taken hb) (by omega) (hQ.putT hb hB) (fun σ hQ => ?_)
    have hR := hQ.1
    refine gs_iinc (ls' := [_, _, _, _]) dX3_lay_47 rfl (nI_add _ 1) rfl rfl ?_
    refine g_goto (tgt := 26) dX3_lay_50 (by decide) ?_
    rw [layK_s] at hQ
    exact ih (i + 1) σ (by omega) hQ
theorem c_lay {b : Nat} {σ : Mm} {S : Sx} {Tf : Nat → Nat} (hb : mch b) (hR : RepC b σ S Tf) (hB : Bd S) {p nd : Nat} (hp : p < S.1 7 0) (hnd : nd < S.1 0 0) : RV W0 mX3_lay [.ref b, .ref (b + 18 + 3 * p), .int (nI nd)] σ (fun τ => Cq b σ (setN S 24 p (nd + 1)) (layT S Tf p nd) (σ.1 (b + 5)) τ) := by
  have bP := B_P hB 0
  have h20 : p < 20 := by omega
  have b0 := B_nodes hB 0
  have b1 := B_kind hB p
  have hB1 : Bd (setN S 24 p (nd + 1)) := Bd_setN hB (show _ ≤ 4 by omega)
  refine G.met (by decide) (Nat.le_of_ble_eq_true rfl) ?_
  show G _ _ _ 0 [some (.ref b), some (.ref (b + 18 + 3 * p)), some (.int (nI nd)), none] [] σ
  refine gs_aload_n dX3_lay_0 rfl rfl ?_
  refine gs_iload_n dX3_lay_1 rfl rfl ?_
  refine gc_putI dX3_lay_2 pX3_170 (kPg hb h20) (by decide) (Or.inl rfl) (D_lies1 (Cq.rf hR) hb hB h20) (fun σ hQ => ?_)
  have hR := hQ.1
  refine gs_aload_n dX3_lay_5 rfl rfl ?_
  refine g_getI dX3_lay_6 fX3_115 (kPg hb h20) (by decide) (show _ = nI (S.1 8 p) from by have q := C_kind hR h20 hp; exact q) ?_
  refine g_iconst (v := nI 2) dX3_lay_9 (by decide) ?_
  refine gn_icmp_eq (tgt := 24) dX3_lay_10 (by decide) (by omega) (by omega) (fun c10 => ?_) (fun c10 => ?_)
  · refine g_iconst (v := nI 0) dX3_lay_24 (by decide) ?_
    refine gs_istore_n (ls' := [_, _, _, _]) dX3_lay_25 rfl rfl rfl ?_
    have e : layT S Tf p nd = layK Tf (S.1 0 0) := by funext x; rw [layT, layK, if_pos c10]
    have e0 : layK Tf 0 = Tf := by funext x; rw [layK, if_neg (by omega)]
    refine l_lay hb hB1 h20 (fun τ hτ => ⟨rfl, by rw [e]; exact hτ⟩) (S.1 0 0) 0 σ (by show 0 + S.1 0 0 = S.1 0 0; omega) (by rw [e0]; exact hQ)
  · refine gs_aload_n dX3_lay_13 rfl rfl ?_
    refine g_getR dX3_lay_14 fX3_44 (kMa hb) (by decide) (rMa_taken hb) ?_
    refine gs_iload_n dX3_lay_17 rfl rfl ?_
    refine g_dup2 dX3_lay_18 rfl rfl ?_
    refine g_iald dX3_lay_19 (kMa_taken hb) (by omega) (hR.2.2.2.1 nd (by omega)) ?_
    refine g_iconst (v := nI 1) dX3_lay_20 (by decide) ?_
    refine g_iadd dX3_lay_21 (by first | exact nI_add _ _ | rfl) ?_
    refine gc_iast dX3_lay_22 (kMa_taken hb) (by omega) (hQ.putT hb hB1) (fun σ hQ => ?_)
    have hR := hQ.1
    refine g_return dX3_lay_23 rfl ?_
    have e : layT S Tf p nd = upT Tf nd (Tf nd + 1) := by
      funext x
      rw [layT, upT, if_neg c10]
      by_cases h : x = nd
      · rw [if_pos h, if_pos h, h]
      · rw [if_neg h, if_neg h]
    exact ⟨rfl, by rw [e]; exact hQ⟩
theorem setN_comm {S : Sx} {g i v g' i' v' : Nat} (h : g ≠ g') : setN (setN S g i v) g' i' v' = setN (setN S g' i' v') g i v := by
  unfold setN
  dsimp only
  congr 1
  funext x y
  by_cases h1 : x = g' ∧ y = i'
  · rw [if_pos h1, if_neg (fun z => h (z.1.symm.trans h1.1)), if_pos h1]
  · rw [if_neg h1]
    by_cases h2 : x = g ∧ y = i
    · rw [if_pos h2, if_pos h2]
    · rw [if_neg h2, if_neg h2, if_neg h1]
theorem setN_self (S : Sx) (g i : Nat) : setN S g i (S.1 g i) = S := by
  unfold setN
  have : (fun g' i' => if g' = g ∧ i' = i then S.1 g i else S.1 g' i') = S.1 := by
    funext x y
    split
    · next h => rw [h.1, h.2]
    · rfl
  rw [this]
theorem nrS_room {S : Sx} {n : Nat} : ∀ k nd x, nrS S n k nd = some x → hrS S x = true := by
  intro k
  induction k with
  | zero => intro nd x h; cases h
  | succ k ih =>
    intro nd x h
    simp only [nrS] at h
    split at h
    · next q => cases h; exact q
    · exact ih _ _ h
theorem nrS_none {S : Sx} {n nd : Nat} (hn : 0 < n) (h : nrS S n n nd = none) : hrS S nd = false := by
  cases n with
  | zero => omega
  | succ n =>
    simp only [nrS] at h
    split at h
    · cases h
    · next q => simpa using q
theorem c_placeByRule {b : Nat} {σ : Mm} {S : Sx} {Tf : Nat → Nat} (hb : mch b) (hR : RepC b σ S Tf) (hB : Bd S) (hT : Tk S Tf) (hn : 2 ≤ S.1 0 0) {p a : Nat} (hp : p < S.1 7 0) (ha : a < S.1 0 0) (hA : σ.1 (b + 5) 1 = nI a) (hTu : S.1 23 0 < 1073741824) : RI W0 mX3_placeByRule [.ref b, .ref (b + 18 + 3 * p)] σ (fun r τ => (∃ nd, plO S p a = some nd ∧ r = bI true ∧ Cq b σ (plSt S p nd) (layT S Tf p nd) (σ.1 (b + 5)) τ) ∨ (plO S p a = none ∧ r = bI false ∧ τ = σ)) := by
  have bP := B_P hB 0
  have h20 : p < 20 := by omega
  have b0 := B_nodes hB 0
  have b1 := B_kind hB p
  have b2 := B_placing hB 0
  have hfc := fcS_lt hn ha
  refine G.met (by decide) (Nat.le_of_ble_eq_true rfl) ?_
  show G _ _ _ 0 [some (.ref b), some (.ref (b + 18 + 3 * p)), none] [] σ
  refine gs_aload_n dX3_placeByRule_0 rfl rfl ?_
  refine g_getI dX3_placeByRule_1 fX3_115 (kPg hb h20) (by decide) (C_kind hR (by omega) (by omega)) ?_
  refine g_iconst (v := nI 2) dX3_placeByRule_4 (by decide) ?_
  refine gn_icmp_ne (tgt := 15) dX3_placeByRule_5 (by decide) (by omega) (by omega) (fun c5 => ?_) (fun c5 => ?_)
  · refine gs_aload_n dX3_placeByRule_15 rfl rfl ?_
    refine gs_aload_n dX3_placeByRule_16 rfl rfl ?_
    refine g_cVI0 dX3_placeByRule_17 vX3_266 (by decide) (kMa hb) (by decide) (Nat.le_of_ble_eq_true rfl) (c_firstChoice hb hR hB hT hn hA) ?_
    rintro _ σ ⟨rfl, e9⟩
    subst e9
    refine g_cVI1 dX3_placeByRule_20 vX3_270 (by decide) (kMa hb) (by decide) (Nat.le_of_ble_eq_true rfl) (c_nextWithRoom hb hR hB hT hn hfc) ?_
    rintro _ σ ⟨rfl, e9⟩
    subst e9
    have hnd : nwS S (fcS S a) < S.1 0 0 := by
      unfold nwS
      split
      · next x hx => exact nrS_lt (by omega) _ _ _ hfc hx
      · exact hfc
    have hB1 : Bd (setN S 24 p (nwS S (fcS S a) + 1)) := Bd_setN hB (show _ ≤ 4 by omega)
    have hpl : plO S p a = nrS S (S.1 0 0) (S.1 0 0) (fcS S a) := by rw [plO, if_neg c5]
    refine gs_istore_n (ls' := [_, _, _]) dX3_placeByRule_23 rfl rfl rfl ?_
    refine gs_aload_n dX3_placeByRule_24 rfl rfl ?_
    refine gs_aload_n dX3_placeByRule_25 rfl rfl ?_
    refine gs_iload_n dX3_placeByRule_26 rfl rfl ?_
    refine g_cVI2 dX3_placeByRule_27 vX3_273 (by decide) (kMa hb) (by decide) (Nat.le_of_ble_eq_true rfl) (c_fits hb hR hB hT hp hnd) ?_
    rintro _ σ ⟨rfl, e9⟩
    subst e9
    refine gb_if_ne (tgt := 35) dX3_placeByRule_30 (by decide) (fun c30 => ?_) (fun c30 => ?_)
    · refine gs_aload_n dX3_placeByRule_35 rfl rfl ?_
      refine gs_aload_n dX3_placeByRule_36 rfl rfl ?_
      refine gs_iload_n dX3_placeByRule_37 rfl rfl ?_
      refine g_cVV2 dX3_placeByRule_38 vX3_277 (by decide) (kMa hb) (by decide) (Nat.le_of_ble_eq_true rfl) (c_lay hb hR hB hp hnd) ?_
      rintro σ hQ
      have hR := hQ.1
      refine gs_aload_n dX3_placeByRule_41 rfl rfl ?_
      refine g_getR dX3_placeByRule_42 fX3_21 (kMa hb) (by decide) (rMa_rules hb) ?_
      refine g_getI dX3_placeByRule_45 fX3_281 (kMa_rules hb) (by decide) (show _ = nI (S.1 20 0) from by have q := C_placing hR; exact q) ?_
      refine g_iconst (v := nI 1) dX3_placeByRule_48 (by decide) ?_
      refine gn_icmp_ne (tgt := 62) dX3_placeByRule_49 (by decide) (by omega) (by omega) (fun c49 => ?_) (fun c49 => ?_)
      · refine g_iconst (v := nI 1) dX3_placeByRule_62 (by decide) ?_
        refine g_zreturn dX3_placeByRule_63 rfl (by first | exact bI_01 _ | decide) ?_
        rw [if_neg c5] at c30
        have hpo : plO S p a = some (nwS S (fcS S a)) := by
          rw [hpl]
          cases hx : nrS S (S.1 0 0) (S.1 0 0) (fcS S a) with
          | none =>
            have := nrS_none (by omega) hx
            rw [nwS, hx] at c30
            rw [show hrS S (fcS S a) = true from c30] at this
            cases this
          | some x => rw [nwS, hx]
        exact ⟨_, rfl, Or.inl ⟨_, hpo, rfl, by rw [plSt, if_neg c49, Nat.add_zero, setN_self]; exact hQ⟩⟩
      · refine gs_aload_n dX3_placeByRule_52 rfl rfl ?_
        refine g_dup dX3_placeByRule_53 rfl ?_
        refine g_getI dX3_placeByRule_54 fX3_97 (kMa hb) (by decide) (show _ = nI (S.1 23 0) from by have q := C_turns hR; exact q) ?_
        refine g_iconst (v := nI 1) dX3_placeByRule_57 (by decide) ?_
        refine g_iadd dX3_placeByRule_58 (by first | exact nI_add _ _ | rfl) ?_
        refine gc_putI dX3_placeByRule_59 pX3_97 (kMa hb) (by decide) (Or.inl rfl) (D_turns hQ hb hB1) (fun σ hQ => ?_)
        have hR := hQ.1
        refine g_iconst (v := nI 1) dX3_placeByRule_62 (by decide) ?_
        refine g_zreturn dX3_placeByRule_63 rfl (by first | exact bI_01 _ | decide) ?_
        rw [if_neg c5] at c30
        have hpo : plO S p a = some (nwS S (fcS S a)) := by
          rw [hpl]
          cases hx : nrS S (S.1 0 0) (S.1 0 0) (fcS S a) with
          | none =>
            have := nrS_none (by omega) hx
            rw [nwS, hx] at c30
            rw [show hrS S (fcS S a) = true from c30] at this
            cases this
          | some x => rw [nwS, hx]
        exact ⟨_, rfl, Or.inl ⟨_, hpo, rfl, by rw [plSt, if_pos c49, setN_comm (by decide)]; exact hQ⟩⟩
    · refine g_iconst (v := nI 0) dX3_placeByRule_33 (by decide) ?_
      refine g_zreturn dX3_placeByRule_34 rfl (by first | exact bI_01 _ | decide) ?_
      rw [if_neg c5] at c30
      have hpo : plO S p a = none := by
        rw [hpl]
        cases hx : nrS S (S.1 0 0) (S.1 0 0) (fcS S a) with
        | none => rfl
        | some x =>
          have := nrS_room _ _ _ hx
          rw [nwS, hx] at c30
          rw [show hrS S x = false from c30] at this
          cases this
      exact ⟨_, rfl, Or.inr ⟨hpo, rfl, rfl⟩⟩
  · refine gs_aload_n dX3_placeByRule_8 rfl rfl ?_
    refine g_cVI0 dX3_placeByRule_9 vX3_266 (by decide) (kMa hb) (by decide) (Nat.le_of_ble_eq_true rfl) (c_firstChoice hb hR hB hT hn hA) ?_
    rintro _ σ ⟨rfl, e9⟩
    subst e9
    refine g_goto (tgt := 23) dX3_placeByRule_12 (by decide) ?_
    have hnd : fcS S a < S.1 0 0 := hfc
    have hB1 : Bd (setN S 24 p (fcS S a + 1)) := Bd_setN hB (show _ ≤ 4 by omega)
    refine gs_istore_n (ls' := [_, _, _]) dX3_placeByRule_23 rfl rfl rfl ?_
    refine gs_aload_n dX3_placeByRule_24 rfl rfl ?_
    refine gs_aload_n dX3_placeByRule_25 rfl rfl ?_
    refine gs_iload_n dX3_placeByRule_26 rfl rfl ?_
    refine g_cVI2 dX3_placeByRule_27 vX3_273 (by decide) (kMa hb) (by decide) (Nat.le_of_ble_eq_true rfl) (c_fits hb hR hB hT hp hnd) ?_
    rintro _ σ ⟨rfl, e9⟩
    subst e9
    refine gb_if_ne (tgt := 35) dX3_placeByRule_30 (by decide) (fun c30 => ?_) (fun c30 => ?_)
    · refine gs_aload_n dX3_placeByRule_35 rfl rfl ?_
      refine gs_aload_n dX3_placeByRule_36 rfl rfl ?_
      refine gs_iload_n dX3_placeByRule_37 rfl rfl ?_
      refine g_cVV2 dX3_placeByRule_38 vX3_277 (by decide) (kMa hb) (by decide) (Nat.le_of_ble_eq_true rfl) (c_lay hb hR hB hp hnd) ?_
      rintro σ hQ
      have hR := hQ.1
      refine gs_aload_n dX3_placeByRule_41 rfl rfl ?_
      refine g_getR dX3_placeByRule_42 fX3_21 (kMa hb) (by decide) (rMa_rules hb) ?_
      refine g_getI dX3_placeByRule_45 fX3_281 (kMa_rules hb) (by decide) (show _ = nI (S.1 20 0) from by have q := C_placing hR; exact q) ?_
      refine g_iconst (v := nI 1) dX3_placeByRule_48 (by decide) ?_
      refine gn_icmp_ne (tgt := 62) dX3_placeByRule_49 (by decide) (by omega) (by omega) (fun c49 => ?_) (fun c49 => ?_)
      · refine g_iconst (v := nI 1) dX3_placeByRule_62 (by decide) ?_
        refine g_zreturn dX3_placeByRule_63 rfl (by first | exact bI_01 _ | decide) ?_
        rw [if_pos c5] at c30
        have hpo : plO S p a = some (fcS S a) := by rw [plO, if_pos c5, if_pos c30]
        exact ⟨_, rfl, Or.inl ⟨_, hpo, rfl, by rw [plSt, if_neg c49, Nat.add_zero, setN_self]; exact hQ⟩⟩
      · refine gs_aload_n dX3_placeByRule_52 rfl rfl ?_
        refine g_dup dX3_placeByRule_53 rfl ?_
        refine g_getI dX3_placeByRule_54 fX3_97 (kMa hb) (by decide) (show _ = nI (S.1 23 0) from by have q := C_turns hR; exact q) ?_
        refine g_iconst (v := nI 1) dX3_placeByRule_57 (by decide) ?_
        refine g_iadd dX3_placeByRule_58 (by first | exact nI_add _ _ | rfl) ?_
        refine gc_putI dX3_placeByRule_59 pX3_97 (kMa hb) (by decide) (Or.inl rfl) (D_turns hQ hb hB1) (fun σ hQ => ?_)
        have hR := hQ.1
        refine g_iconst (v := nI 1) dX3_placeByRule_62 (by decide) ?_
        refine g_zreturn dX3_placeByRule_63 rfl (by first | exact bI_01 _ | decide) ?_
        rw [if_pos c5] at c30
        have hpo : plO S p a = some (fcS S a) := by rw [plO, if_pos c5, if_pos c30]
        exact ⟨_, rfl, Or.inl ⟨_, hpo, rfl, by rw [plSt, if_pos c49, setN_comm (by decide)]; exact hQ⟩⟩
    · refine g_iconst (v := nI 0) dX3_placeByRule_33 (by decide) ?_
      refine g_zreturn dX3_placeByRule_34 rfl (by first | exact bI_01 _ | decide) ?_
      rw [if_pos c5] at c30
      exact ⟨_, rfl, Or.inr ⟨by rw [plO, if_pos c5, c30]; rfl, rfl, rfl⟩⟩
