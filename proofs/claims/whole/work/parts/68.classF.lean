/-! The class: endCopies, moveIfItPays, takeFault. -/
theorem tk_ge {S : Sx} {x p : Nat} : ∀ n, p < n → tkC S x p ≤ tk S x n := by
  intro n
  induction n with
  | zero => intro h; omega
  | succ n ih =>
    intro h
    simp only [tk]
    by_cases e : p = n
    · subst e; omega
    · have := ih (by omega); omega
theorem ecC_bit {c h a x : Nat} (hc : c ≤ 15) (hh : h < 4) (ha : a < 4) (hx : x < 4) : bt (clr (stb c h) a) x ≤ (if h = x then 1 else 0) + bt c x := by
  have h0 : ∀ c, c < 16 → ∀ h, h < 4 → ∀ a, a < 4 → ∀ x, x < 4 → bt (clr (stb c h) a) x ≤ (if h = x then 1 else 0) + bt c x := by decide +kernel
  exact h0 c (by omega) h hh a ha x hx
theorem ecC_le {S : Sx} {p a x : Nat} (hB : Bd S) (ha : a < 4) (hx : x < 4) (hl : 0 < S.1 24 p) : bt (ecC S p a) x ≤ tkC S x p := by
  have b2 := B_copies hB p
  have b3 := B_lies hB p
  have b5 := bt_le (ecC S p a) x
  rw [tkC, if_neg (by omega)]
  unfold ecC at b5 ⊢
  split
  · have := ecC_bit (x := x) b2 (show S.1 24 p - 1 < 4 by omega) ha hx
    by_cases e : S.1 24 p - 1 = x
    · rw [if_pos (Or.inr (by omega))]
      have := bt_le (clr (stb (S.1 25 p) (S.1 24 p - 1)) a) x
      omega
    · rw [if_neg e] at this
      omega
  · omega
theorem c_endCopies {b : Nat} {σ : Mm} {S : Sx} {Tf : Nat → Nat} (hb : mch b) (hR : RepC b σ S Tf) (hB : Bd S) (hT : Tk S Tf) {p a : Nat} {A : Nat → Int32} (hA : σ.1 (b + 5) = A) (h1 : A 1 = nI a) (hp : p < S.1 7 0) (ha : a < S.1 0 0) (hl : 0 < S.1 24 p) (hk1 : S.1 8 p ≠ 1 → S.1 25 p = 0) : RI W0 mX3_endCopies [.ref b, .ref (b + 18 + 3 * p)] σ (fun r τ => r = nI (if S.1 8 p = 1 then cpC S p a true else 0) ∧ Cq b σ (if S.1 8 p = 1 then cpS S p a true else S) (ecT S Tf (ecC S p a) (S.1 0 0)) A τ) := by
  have bP := B_P hB 0
  have h20 : p < 20 := by omega
  have b0 := B_nodes hB 0
  have b1 := B_kind hB p
  have b2 := B_copies hB p
  have b3 := B_lies hB p
  have hQ : Cq b σ S Tf A σ := ⟨hR, frC.rf b σ, hA⟩
  have hc1 : stb (S.1 25 p) (S.1 24 p - 1) ≤ 15 := stb_le b2 (by omega)
  have hpos : ∀ x, x < S.1 0 0 → bt (ecC S p a) x ≤ Tf x := fun x hx => by
    rw [hT x hx]
    exact Nat.le_trans (ecC_le hB (by omega) (by omega) hl) (tk_ge _ hp)
  have hcost : pc4 (S.1 25 p) = if S.1 8 p = 1 then cpC S p a true else 0 := by
    by_cases e : S.1 8 p = 1
    · rw [if_pos e, cpC, if_pos rfl]; exact pc4_clr b2 (by omega)
    · rw [if_neg e, hk1 e]; rfl
  refine G.met (by decide) (Nat.le_of_ble_eq_true rfl) ?_
  show G _ _ _ 0 [some (.ref b), some (.ref (b + 18 + 3 * p)), none, none] [] σ
  refine gs_aload_n dX3_endCopies_0 rfl rfl ?_
  refine g_getI dX3_endCopies_1 fX3_338 (kPg hb h20) (by decide) (C_copies hR (by omega) (by omega)) ?_
  refine g_cSI1 dX3_endCopies_4 vX3_341 (by decide) (Nat.le_of_ble_eq_true rfl) (s_bitCount (by omega)) ?_
  rintro _ σ ⟨rfl, e9⟩
  subst e9
  refine gs_istore_n (ls' := [_, _, _, _]) dX3_endCopies_7 rfl rfl rfl ?_
  refine gs_aload_n dX3_endCopies_8 rfl rfl ?_
  refine gs_aload_n dX3_endCopies_9 rfl rfl ?_
  refine g_getR dX3_endCopies_10 fX3_28 (kMa hb) (by decide) (rMa_attempt hb) ?_
  refine g_getI dX3_endCopies_13 fX3_220 (kMa_attempt hb) (by decide) (show _ = nI a from by rw [hQ.2.2]; exact h1) ?_
  refine g_cVI1 dX3_endCopies_16 vX3_335 (by decide) (kPg hb h20) (by decide) (Nat.le_of_ble_eq_true rfl) (c_hasCopyOn hb hR hB hp (by omega)) ?_
  rintro _ σ ⟨rfl, e9⟩
  subst e9
  refine gb_if_eq (tgt := 68) dX3_endCopies_19 (by decide) (fun c19 => ?_) (fun c19 => ?_)
  · refine g_iconst (v := nI 0) dX3_endCopies_68 (by decide) ?_
    refine gs_istore_n (ls' := [_, _, _, _]) dX3_endCopies_69 rfl rfl rfl ?_
    have e0 : ecC S p a = S.1 25 p := if_neg (of_decide_eq_false c19)
    rw [e0] at hpos
    refine l_endCopies hb hB hp h20 hpos (fun τ hτ => ⟨_, rfl, by rw [hcost], ?_⟩) (S.1 0 0) 0 σ (by omega) (by rw [show ecT S Tf (S.1 25 p) 0 = Tf from by funext x; rw [ecT, if_neg (by omega)]]; exact hQ)
    rw [e0]
    by_cases e : S.1 8 p = 1
    · rw [if_pos e, cpS, if_pos rfl, if_neg (of_decide_eq_false c19)]; exact hτ
    · rw [if_neg e]
      have z : setN S 25 p 0 = S := by have q := setN_self S 25 p; rw [hk1 e] at q; exact q
      rw [z] at hτ
      exact hτ
  · refine gs_aload_n dX3_endCopies_22 rfl rfl ?_
    refine g_dup dX3_endCopies_23 rfl ?_
    refine g_getI dX3_endCopies_24 fX3_338 (kPg hb h20) (by decide) (C_copies hR (by omega) (by omega)) ?_
    refine g_iconst (v := nI 1) dX3_endCopies_27 (by decide) ?_
    refine gs_aload_n dX3_endCopies_28 rfl rfl ?_
    refine g_getI dX3_endCopies_29 fX3_170 (kPg hb h20) (by decide) ((C_lies hR h20 hp).trans (lzC_s hl)) ?_
    refine g_ishl dX3_endCopies_32 rfl ?_
    refine g_ior dX3_endCopies_33 (stb_eq b2 (by omega)) ?_
    refine gc_putI dX3_endCopies_34 pX3_338 (kPg hb h20) (by decide) (Or.inl rfl) (D_copies hQ hb hB h20) (fun σ hQ => ?_)
    have hR := hQ.1
    refine gs_aload_n dX3_endCopies_37 rfl rfl ?_
    refine g_dup dX3_endCopies_38 rfl ?_
    refine g_getI dX3_endCopies_39 fX3_338 (kPg hb h20) (by decide) (show _ = nI (stb (S.1 25 p) (S.1 24 p - 1)) from by have q := C_copies hR h20 hp; rw [setN_at, if_pos ⟨rfl, rfl⟩] at q; exact q) ?_
    refine g_iconst (v := nI 1) dX3_endCopies_42 (by decide) ?_
    refine gs_aload_n dX3_endCopies_43 rfl rfl ?_
    refine g_getR dX3_endCopies_44 fX3_28 (kMa hb) (by decide) (rMa_attempt hb) ?_
    refine g_getI dX3_endCopies_47 fX3_220 (kMa_attempt hb) (by decide) (show _ = nI a from by rw [hQ.2.2]; exact h1) ?_
    refine g_ishl dX3_endCopies_50 rfl ?_
    refine g_iconst (v := -1) dX3_endCopies_51 (by decide) ?_
    refine g_ixor dX3_endCopies_52 rfl ?_
    refine g_iand dX3_endCopies_53 (clr_eq hc1 (by omega)) ?_
    refine gc_putI dX3_endCopies_54 pX3_338 (kPg hb h20) (by decide) (Or.inl rfl) (D_copies hQ hb (Bd_setN hB hc1) h20) (fun σ hQ => ?_)
    have hR := hQ.1
    refine gs_aload_n dX3_endCopies_57 rfl rfl ?_
    refine gs_aload_n dX3_endCopies_58 rfl rfl ?_
    refine g_getR dX3_endCopies_59 fX3_28 (kMa hb) (by decide) (rMa_attempt hb) ?_
    refine g_getI dX3_endCopies_62 fX3_220 (kMa_attempt hb) (by decide) (show _ = nI a from by rw [hQ.2.2]; exact h1) ?_
    refine gc_putI dX3_endCopies_65 pX3_170 (kPg hb h20) (by decide) (Or.inl rfl) (D_lies1 hQ hb (Bd_setN (Bd_setN hB hc1) (clr_le hc1)) h20) (fun σ hQ => ?_)
    have hR := hQ.1
    refine g_iconst (v := nI 0) dX3_endCopies_68 (by decide) ?_
    refine gs_istore_n (ls' := [_, _, _, _]) dX3_endCopies_69 rfl rfl rfl ?_
    have e0 : ecC S p a = clr (stb (S.1 25 p) (S.1 24 p - 1)) a := if_pos (of_decide_eq_true c19)
    have hk : S.1 8 p = 1 := Decidable.byContradiction (fun z => by
      have q := of_decide_eq_true c19
      rw [hk1 z] at q
      revert q; unfold bt; simp)
    have eS : ∀ v, setN (setN (setN (setN S 25 p (stb (S.1 25 p) (S.1 24 p - 1))) 25 p (clr (stb (S.1 25 p) (S.1 24 p - 1)) a)) 24 p (a + 1)) 25 p v = setN (setN S 24 p (a + 1)) 25 p v := fun v => by
      rw [setN_setN, setN_comm (g := 25) (by decide), setN_setN]
    have e25 : (setN (setN (setN S 25 p (stb (S.1 25 p) (S.1 24 p - 1))) 25 p (clr (stb (S.1 25 p) (S.1 24 p - 1)) a)) 24 p (a + 1)).1 25 p = ecC S p a := by rw [setN_ne (by decide), setN_at, if_pos ⟨rfl, rfl⟩, e0]
    refine l_endCopies hb (Bd_setN (Bd_setN (Bd_setN hB hc1) (clr_le hc1)) (show a + 1 ≤ 4 by omega)) hp h20 (by rw [e25]; exact hpos) (fun τ hτ => ⟨_, rfl, by rw [hcost], ?_⟩) (S.1 0 0) 0 σ (by show 0 + S.1 0 0 = S.1 0 0; omega) (by rw [show ∀ X c, ecT X Tf c 0 = Tf from fun X c => by funext x; rw [ecT, if_neg (by omega)]]; exact hQ)
    rw [if_pos hk, cpS, if_pos rfl, if_pos (of_decide_eq_true c19)]
    rw [e25, eS] at hτ
    exact hτ
theorem svP_wy {S : Sx} {p to : Nat} (hm : S.1 27 p ≤ 4) : svP S p to (S.1 27 p) = wyS S p to (S.1 27 p) := by
  have : S.1 27 p = 0 ∨ S.1 27 p = 1 ∨ S.1 27 p = 2 ∨ S.1 27 p = 3 ∨ S.1 27 p = 4 := by omega
  rcases this with h | h | h | h | h <;> simp only [h, svP, wyS, Nat.reduceSub, Nat.sub_zero, Bool.true_and] <;> ac_rfl
theorem wyS_all {S : Sx} {p to : Nat} : ∀ m, wyS S p to m = true → ∀ k, k < m → S.1 5 (4 * S.1 28 (4 * p + k) + (S.1 24 p - 1)) < 1000 ∧ S.1 5 (4 * S.1 28 (4 * p + k) + to) < 1000 := by
  intro m
  induction m with
  | zero => intro _ k h; omega
  | succ m ih =>
    intro h k hk
    simp only [wyS, Bool.and_eq_true] at h
    by_cases e : k = m
    · subst e; exact ⟨of_decide_eq_true h.2.1, of_decide_eq_true h.2.2⟩
    · exact ih h.1 k (by omega)
/-- a term of the saving -/
def sv1 (S : Sx) (p to k : Nat) : Int32 := nI (S.1 5 (4 * S.1 28 (4 * p + k) + (S.1 24 p - 1))) - nI (S.1 5 (4 * S.1 28 (4 * p + k) + to))
theorem ps_sv1 {S : Sx} {p to : Nat} : ∀ m, wyS S p to m = true → psS S p to m = (List.range m).foldl (fun s k => s + sv1 S p to k) (nI 0) := by
  intro m
  induction m with
  | zero => intro _; rfl
  | succ m ih =>
    intro h
    have hk := wyS_all (m + 1) h m (by omega)
    simp only [wyS, Bool.and_eq_true] at h
    rw [psS, ih h.1, List.range_succ, List.foldl_append]
    have e1 : fz (S.1 5 (4 * S.1 28 (4 * p + m) + (S.1 24 p - 1))) = S.1 5 (4 * S.1 28 (4 * p + m) + (S.1 24 p - 1)) := if_pos hk.1
    have e2 : fz (S.1 5 (4 * S.1 28 (4 * p + m) + to)) = S.1 5 (4 * S.1 28 (4 * p + m) + to) := if_pos hk.2
    rw [e1, e2]
    rfl
theorem svX_eq {S : Sx} {p to : Nat} (hm : S.1 27 p ≤ 4) (h : wyS S p to (S.1 27 p) = true) : svX S p to (S.1 27 p) = psS S p to (S.1 27 p) := by
  rw [ps_sv1 _ h]
  have hx : ∀ k, svX S p to (k + 1) = svX S p to k + sv1 S p to (S.1 27 p - 1 - k) := fun k => rfl
  have h0 : svX S p to 0 = nI 0 := rfl
  clear h
  have : S.1 27 p = 0 ∨ S.1 27 p = 1 ∨ S.1 27 p = 2 ∨ S.1 27 p = 3 ∨ S.1 27 p = 4 := by omega
  rcases this with h | h | h | h | h
  · rw [h]; rfl
  · rw [h, hx, h0, h]; rfl
  · rw [h, hx, hx, h0, h]; show nI 0 + sv1 S p to 1 + sv1 S p to 0 = nI 0 + sv1 S p to 0 + sv1 S p to 1; ac_rfl
  · rw [h, hx, hx, hx, h0, h]; show nI 0 + sv1 S p to 2 + sv1 S p to 1 + sv1 S p to 0 = nI 0 + sv1 S p to 0 + sv1 S p to 1 + sv1 S p to 2; ac_rfl
  · rw [h, hx, hx, hx, hx, h0, h]; show nI 0 + sv1 S p to 3 + sv1 S p to 2 + sv1 S p to 1 + sv1 S p to 0 = nI 0 + sv1 S p to 0 + sv1 S p to 1 + sv1 S p to 2 + sv1 S p to 3; ac_rfl
theorem svR_py {S : Sx} {p to : Nat} (hB : Bd S) : decide (nI (S.1 15 0) < svR S p to * nI (S.1 22 0)) = pyS S p to := by
  have hm := B_faultMany hB p
  have hp := B_movePrice hB 0
  have e := svP_wy (S := S) (p := p) (to := to) hm
  unfold svR pyS
  by_cases h : wyS S p to (S.1 27 p) = true
  · rw [e, if_pos h, svX_eq hm h, h, Bool.true_and]
  · rw [e, if_neg h]
    have h2 : wyS S p to (S.1 27 p) = false := by simpa using h
    rw [h2, Bool.false_and]
    apply decide_eq_false
    intro z
    rw [show nI 0 * nI (S.1 22 0) = nI 0 from by rw [pk_mul, Nat.zero_mul]] at z
    have := (nI_ltI (by omega) (by decide)).mp z
    omega
/-- the places taken behind a move -/
def mvT (Tf : Nat → Nat) (h to : Nat) : Nat → Nat := upT (upT Tf h (Tf h - 1)) to (Tf to + 1)
def mvA (A : Nat → Int32) (mp : Nat) : Nat → Int32 := upd (upd A 9 (nI 1)) 7 (A 7 + nI mp)
theorem c_moveIfItPays {b : Nat} {σ : Mm} {S : Sx} {Tf : Nat → Nat} (hb : mch b) (hR : RepC b σ S Tf) (hB : Bd S) (hT : Tk S Tf) {p to : Nat} {A : Nat → Int32} (hA : σ.1 (b + 5) = A) (hn : 2 ≤ S.1 0 0) (hp : p < S.1 7 0) (hl : 0 < S.1 24 p) (hln : S.1 24 p ≤ S.1 0 0) (hm : 0 < S.1 27 p) (hf : ∀ k, k < S.1 27 p → S.1 28 (4 * p + k) < S.1 0 0) (hto : to = (wtS S p (S.1 0 0)).1) (htn : to < S.1 0 0) : RV W0 mX3_moveIfItPays [.ref b, .ref (b + 18 + 3 * p)] σ (fun τ => if S.1 24 p ≠ to + 1 ∧ pyS S p to = true ∧ hrS S to = true then Cq b σ (ft3 S p to) (mvT Tf (S.1 24 p - 1) to) (mvA A (S.1 15 0)) τ else Cq b σ S Tf A τ) := by
  have bP := B_P hB 0
  have h20 : p < 20 := by omega
  have b0 := B_nodes hB 0
  have b3 := B_lies hB p
  have b4 := B_movePrice hB 0
  have hQ : Cq b σ S Tf A σ := ⟨hR, frC.rf b σ, hA⟩
  have hwc := wc_wt hn b0 hm hf
  rw [← hto] at hwc
  have hB1 : Bd (setN S 24 p (to + 1)) := Bd_setN hB (show to + 1 ≤ 4 by omega)
  have hpos : 1 ≤ Tf (S.1 24 p - 1) := by
    rw [hT _ (by omega)]
    refine Nat.le_trans ?_ (tk_ge _ hp)
    rw [tkC, if_neg (by omega), if_pos (Or.inr (by omega))]
    omega
  refine G.met (by decide) (Nat.le_of_ble_eq_true rfl) ?_
  show G _ _ _ 0 [some (.ref b), some (.ref (b + 18 + 3 * p)), none] [] σ
  refine gs_aload_n dX3_moveIfItPays_0 rfl rfl ?_
  refine g_cVI0 dX3_moveIfItPays_1 vX3_321 (by decide) (kPg hb h20) (by decide) (Nat.le_of_ble_eq_true rfl) (c_wanted hb hR hB hp hl) ?_
  rintro r9 σ ⟨q9, e9⟩
  subst e9
  rw [hwc] at q9
  subst q9
  refine gs_istore_n (ls' := [_, _, _]) dX3_moveIfItPays_4 rfl rfl rfl ?_
  refine gs_iload_n dX3_moveIfItPays_5 rfl rfl ?_
  refine gs_aload_n dX3_moveIfItPays_6 rfl rfl ?_
  refine g_getI dX3_moveIfItPays_7 fX3_170 (kPg hb h20) (by decide) (C_lies hR h20 hp) ?_
  refine g_icmp_eq (tgt := 21) dX3_moveIfItPays_10 (by decide) (fun c10 => ?_) (fun c10 => ?_)
  · refine g_return dX3_moveIfItPays_21 rfl ?_
    have e : S.1 24 p = to + 1 := (lzC_a b3 (by omega)).mp c10.symm
    exact ⟨rfl, by dsimp only; rw [if_neg (fun z => z.1 e)]; exact hQ⟩
  · refine gs_aload_n dX3_moveIfItPays_13 rfl rfl ?_
    refine gs_iload_n dX3_moveIfItPays_14 rfl rfl ?_
    refine g_cVI1 dX3_moveIfItPays_15 vX3_163 (by decide) (kMa hb) (by decide) (Nat.le_of_ble_eq_true rfl) (c_hasRoom hb hR hB hT htn) ?_
    rintro _ σ ⟨rfl, e9⟩
    subst e9
    refine gb_if_ne (tgt := 22) dX3_moveIfItPays_18 (by decide) (fun c18 => ?_) (fun c18 => ?_)
    · refine gs_aload_n dX3_moveIfItPays_22 rfl rfl ?_
      refine gs_iload_n dX3_moveIfItPays_23 rfl rfl ?_
      refine gs_aload_n dX3_moveIfItPays_24 rfl rfl ?_
      refine g_getR dX3_moveIfItPays_25 fX3_55 (kMa hb) (by decide) (rMa_board hb) ?_
      refine g_cVI2 dX3_moveIfItPays_28 vX3_324 (by decide) (kPg hb h20) (by decide) (Nat.le_of_ble_eq_true rfl) (c_savingAt hb hR hB hp htn hl hln hf) ?_
      rintro _ σ ⟨rfl, e9⟩
      subst e9
      refine gs_aload_n dX3_moveIfItPays_31 rfl rfl ?_
      refine g_getR dX3_moveIfItPays_32 fX3_21 (kMa hb) (by decide) (rMa_rules hb) ?_
      refine g_getI dX3_moveIfItPays_35 fX3_328 (kMa_rules hb) (by decide) (C_gain hR) ?_
      refine g_imul dX3_moveIfItPays_38 rfl ?_
      refine gs_aload_n dX3_moveIfItPays_39 rfl rfl ?_
      refine g_getR dX3_moveIfItPays_40 fX3_21 (kMa hb) (by decide) (rMa_rules hb) ?_
      refine g_getI dX3_moveIfItPays_43 fX3_131 (kMa_rules hb) (by decide) (C_movePrice hR) ?_
      refine g_icmp_gt (tgt := 50) dX3_moveIfItPays_46 (by decide) (fun c46 => ?_) (fun c46 => ?_)
      · refine gs_aload_n dX3_moveIfItPays_50 rfl rfl ?_
        refine g_getR dX3_moveIfItPays_51 fX3_44 (kMa hb) (by decide) (rMa_taken hb) ?_
        refine gs_aload_n dX3_moveIfItPays_54 rfl rfl ?_
        refine g_getI dX3_moveIfItPays_55 fX3_170 (kPg hb h20) (by decide) ((C_lies hR h20 hp).trans (lzC_s hl)) ?_
        refine g_dup2 dX3_moveIfItPays_58 rfl rfl ?_
        refine g_iald dX3_moveIfItPays_59 (kMa_taken hb) (by omega) (hR.2.2.2.1 (S.1 24 p - 1) (by omega)) ?_
        refine g_iconst (v := nI 1) dX3_moveIfItPays_60 (by decide) ?_
        refine g_isub dX3_moveIfItPays_61 (by first | exact pk_sub (by omega) | rfl) ?_
        refine gc_iast dX3_moveIfItPays_62 (kMa_taken hb) (by omega) (hQ.putT hb hB) (fun σ hQ => ?_)
        have hR := hQ.1
        refine gs_aload_n dX3_moveIfItPays_63 rfl rfl ?_
        refine g_getR dX3_moveIfItPays_64 fX3_44 (kMa hb) (by decide) (rMa_taken hb) ?_
        refine gs_iload_n dX3_moveIfItPays_67 rfl rfl ?_
        refine g_dup2 dX3_moveIfItPays_68 rfl rfl ?_
        refine g_iald dX3_moveIfItPays_69 (kMa_taken hb) (by omega) (show _ = nI (Tf to) from (hR.2.2.2.1 to (by omega)).trans (by rw [upT, if_neg (fun z => c10 ((lzC_a b3 (by omega)).mpr (by omega)).symm)])) ?_
        refine g_iconst (v := nI 1) dX3_moveIfItPays_70 (by decide) ?_
        refine g_iadd dX3_moveIfItPays_71 (by first | exact nI_add _ _ | rfl) ?_
        refine gc_iast dX3_moveIfItPays_72 (kMa_taken hb) (by omega) (hQ.putT hb hB) (fun σ hQ => ?_)
        have hR := hQ.1
        refine gs_aload_n dX3_moveIfItPays_73 rfl rfl ?_
        refine gs_iload_n dX3_moveIfItPays_74 rfl rfl ?_
        refine gc_putI dX3_moveIfItPays_75 pX3_170 (kPg hb h20) (by decide) (Or.inl rfl) (D_lies1 hQ hb hB h20) (fun σ hQ => ?_)
        have hR := hQ.1
        refine gs_aload_n dX3_moveIfItPays_78 rfl rfl ?_
        refine g_dup dX3_moveIfItPays_79 rfl ?_
        refine g_getI dX3_moveIfItPays_80 fX3_331 (kPg hb h20) (by decide) (show _ = S.2.1 7 p from by have q := CV_moved hR h20 hp; exact q) ?_
        refine g_iconst (v := nI 1) dX3_moveIfItPays_83 (by decide) ?_
        refine g_iadd dX3_moveIfItPays_84 rfl ?_
        refine gc_putI dX3_moveIfItPays_85 pX3_331 (kPg hb h20) (by decide) (Or.inl rfl) (DV_moved hQ hb hB1 h20) (fun σ hQ => ?_)
        have hR := hQ.1
        refine gs_aload_n dX3_moveIfItPays_88 rfl rfl ?_
        refine g_getR dX3_moveIfItPays_89 fX3_28 (kMa hb) (by decide) (rMa_attempt hb) ?_
        refine g_iconst (v := nI 1) dX3_moveIfItPays_92 (by decide) ?_
        refine gc_putI dX3_moveIfItPays_93 pX3_332 (kMa_attempt hb) (by decide) (Or.inr ⟨rfl, by first | exact bI_01 _ | decide⟩) (hQ.putA hb (Bd_setV hB1)) (fun σ hQ => ?_)
        have hR := hQ.1
        refine gs_aload_n dX3_moveIfItPays_96 rfl rfl ?_
        refine g_getR dX3_moveIfItPays_97 fX3_28 (kMa hb) (by decide) (rMa_attempt hb) ?_
        refine g_dup dX3_moveIfItPays_100 rfl ?_
        refine g_getI dX3_moveIfItPays_101 fX3_240 (kMa_attempt hb) (by decide) (show _ = A 7 from by rw [hQ.2.2]; rfl) ?_
        refine gs_aload_n dX3_moveIfItPays_104 rfl rfl ?_
        refine g_getR dX3_moveIfItPays_105 fX3_21 (kMa hb) (by decide) (rMa_rules hb) ?_
        refine g_getI dX3_moveIfItPays_108 fX3_131 (kMa_rules hb) (by decide) (show _ = nI (S.1 15 0) from by have q := C_movePrice hR; exact q) ?_
        refine g_iadd dX3_moveIfItPays_111 rfl ?_
        refine gc_putI dX3_moveIfItPays_112 pX3_240 (kMa_attempt hb) (by decide) (Or.inl rfl) (hQ.putA hb (Bd_setV hB1)) (fun σ hQ => ?_)
        have hR := hQ.1
        refine gs_aload_n dX3_moveIfItPays_115 rfl rfl ?_
        refine g_dup dX3_moveIfItPays_116 rfl ?_
        refine g_getI dX3_moveIfItPays_117 fX3_109 (kMa hb) (by decide) (show _ = S.2.1 5 0 from by have q := CV_moves hR; exact q) ?_
        refine g_iconst (v := nI 1) dX3_moveIfItPays_120 (by decide) ?_
        refine g_iadd dX3_moveIfItPays_121 rfl ?_
        refine gc_putI dX3_moveIfItPays_122 pX3_109 (kMa hb) (by decide) (Or.inl rfl) (DV_moves hQ hb (Bd_setV hB1)) (fun σ hQ => ?_)
        have hR := hQ.1
        refine g_return dX3_moveIfItPays_125 rfl ?_
        have e := svR_py (S := S) (p := p) (to := to) hB
        rw [decide_eq_true c46] at e
        have e24 : S.1 24 p ≠ to + 1 := fun z => c10 ((lzC_a b3 (by omega)).mpr z).symm
        exact ⟨rfl, by dsimp only; rw [if_pos ⟨e24, e.symm, c18⟩]; exact hQ⟩
      · refine g_return dX3_moveIfItPays_49 rfl ?_
        have e := svR_py (S := S) (p := p) (to := to) hB
        rw [decide_eq_false c46] at e
        exact ⟨rfl, by dsimp only; rw [if_neg (fun z => by rw [← e] at z; cases z.2.1)]; exact hQ⟩
    · refine g_return dX3_moveIfItPays_21 rfl ?_
      exact ⟨rfl, by dsimp only; rw [if_neg (fun z => by rw [c18] at z; cases z.2.2)]; exact hQ⟩
theorem kfS_setV {S : Sx} {g i p a : Nat} {v : Int32} : kfS (setV S g i v) p a = setV (kfS S p a) g i v := by
  unfold kfS
  by_cases h : S.1 27 p = 4
  · rw [if_pos (show (setV S g i v).1 27 p = 4 from h), if_pos h]; rfl
  · rw [if_neg (show ¬ (setV S g i v).1 27 p = 4 from h), if_neg h]; rfl
theorem kfS_27 {S : Sx} {p a : Nat} : 0 < (kfS S p a).1 27 p := by
  unfold kfS
  split
  · rw [setN_at, if_pos ⟨rfl, rfl⟩]; decide
  · rw [setN_at, if_pos ⟨rfl, rfl⟩]; omega
/-- the faults of every page are of nodes -/
def Fn (S : Sx) : Prop := ∀ p k, k < S.1 27 p → S.1 28 (4 * p + k) < S.1 0 0
theorem tk_eq {S S' : Sx} (h8 : S'.1 8 = S.1 8) (h24 : S'.1 24 = S.1 24) (h25 : S'.1 25 = S.1 25) (a : Nat) : ∀ n, tk S' a n = tk S a n := by
  intro n
  induction n with
  | zero => rfl
  | succ n ih => simp only [tk, tkC, ih, h8, h24, h25]
theorem Tk_of {S S' : Sx} {Tf : Nat → Nat} (h : Tk S Tf) (h0 : S'.1 0 = S.1 0) (h7 : S'.1 7 = S.1 7) (h8 : S'.1 8 = S.1 8) (h24 : S'.1 24 = S.1 24) (h25 : S'.1 25 = S.1 25) : Tk S' Tf := fun a ha => by rw [tk_eq h8 h24 h25, h7]; rw [h0] at ha; exact h a ha
theorem Fn_kf {S : Sx} {p a : Nat} (hB : Bd S) (h : Fn S) (ha : a < S.1 0 0) : Fn (kfS S p a) := by
  intro q k hk
  rw [kfS_ne (g := 0) (by decide) (by decide)]
  have b27 := B_faultMany hB p
  unfold kfS at hk ⊢
  by_cases h4 : S.1 27 p = 4
  · rw [if_pos h4] at hk ⊢
    rw [setN_at, setN_ne (by decide), setN_at, setN_ne (by decide), setN_ne (by decide), setN_ne (by decide)] at hk
    rw [setN_ne (by decide), setN_at]
    split
    · exact ha
    · rw [setN_ne (by decide), setN_at]
      have hall : ∀ j, j < 4 → S.1 28 (4 * p + j) < S.1 0 0 := fun j hj => h p j (by omega)
      split
      · exact hall 3 (by omega)
      · rw [setN_at]
        split
        · exact hall 2 (by omega)
        · rw [setN_at]
          split
          · exact hall 1 (by omega)
          · by_cases hq : q = p
            · subst hq
              rw [if_pos ⟨rfl, rfl⟩] at hk
              exact hall k hk
            · rw [if_neg (fun z => hq z.2), if_neg (fun z => hq z.2)] at hk
              exact h q k hk
  · rw [if_neg h4] at hk ⊢
    rw [setN_at, setN_ne (by decide)] at hk
    rw [setN_ne (by decide), setN_at]
    split
    · exact ha
    · next hz =>
      by_cases hq : q = p
      · subst hq
        rw [if_pos ⟨rfl, rfl⟩] at hk
        have : k ≠ S.1 27 q := fun z => hz ⟨rfl, by rw [z]⟩
        exact h q k (by omega)
      · rw [if_neg (fun z => hq z.2)] at hk
        exact h q k hk
theorem upd_e (f : Nat → Int32) (k : Nat) (v : Int32) : upd f k v k = v := by simp [upd]
theorem upd_n (f : Nat → Int32) {k j : Nat} (v : Int32) (h : j ≠ k) : upd f k v j = f j := by simp [upd, h]
theorem c_takeFault {b : Nat} {σ : Mm} {S : Sx} {Tf : Nat → Nat} (hb : mch b) (hR : RepC b σ S Tf) (hB : Bd S) (hT : Tk S Tf) {p a c0 : Nat} {A : Nat → Int32} (hA : σ.1 (b + 5) = A) (h1 : A 1 = nI a) (h7 : A 7 = nI c0) (h9 : A 9 = nI 0) (hn : 2 ≤ S.1 0 0) (hp : p < S.1 7 0) (ha : a < S.1 0 0) (hl : 0 < S.1 24 p) (hln : S.1 24 p ≤ S.1 0 0) (hFn : Fn S) : RV W0 mX3_takeFault [.ref b, .ref (b + 18 + 3 * p)] σ (fun τ => ∃ A2 : Nat → Int32, Cq b σ (ftS S p a) (if ftMv S p a = true then mvT Tf (S.1 24 p - 1) (ftTo S p a) else Tf) A2 τ ∧ (∀ k, k < 7 → A2 k = A k) ∧ A2 7 = nI (c0 + ftC S p a) ∧ A2 8 = bI true ∧ A2 9 = bI (ftMv S p a)) := by
  have bP := B_P hB 0
  have h20 : p < 20 := by omega
  have b0 := B_nodes hB 0
  have b1 := B_kind hB p
  have hQ : Cq b σ S Tf A σ := ⟨hR, frC.rf b σ, hA⟩
  have hB1 : Bd (setN S 26 p 0) := Bd_setN hB (by decide)
  have hBk : Bd (kfS (setN S 26 p 0) p a) := Bd_kfS hB1 (by omega)
  have hB2 : Bd (ft2 S p a) := Bd_ft2 hB (by omega)
  have e2 : (kfS (setN S 26 p 0) p a).2 = S.2 := by unfold kfS; split <;> rfl
  have en : ∀ g, g ≠ 27 → g ≠ 28 → g ≠ 26 → (ft2 S p a).1 g = S.1 g := fun g h1 h2 h3 => ft2_ne h1 h2 h3
  have e24 : (ft2 S p a).1 24 p = S.1 24 p := by rw [en 24 (by decide) (by decide) (by decide)]
  have e15 : (ft2 S p a).1 15 0 = S.1 15 0 := by rw [en 15 (by decide) (by decide) (by decide)]
  have hT2 : Tk (ft2 S p a) Tf := Tk_of hT (en 0 (by decide) (by decide) (by decide)) (en 7 (by decide) (by decide) (by decide)) (en 8 (by decide) (by decide) (by decide)) (en 24 (by decide) (by decide) (by decide)) (en 25 (by decide) (by decide) (by decide))
  have hn2 : 2 ≤ (ft2 S p a).1 0 0 := by rw [en 0 (by decide) (by decide) (by decide)]; exact hn
  have hp2 : p < (ft2 S p a).1 7 0 := by rw [en 7 (by decide) (by decide) (by decide)]; exact hp
  have hl2 : 0 < (ft2 S p a).1 24 p := by rw [e24]; exact hl
  have hln2 : (ft2 S p a).1 24 p ≤ (ft2 S p a).1 0 0 := by rw [e24, en 0 (by decide) (by decide) (by decide)]; exact hln
  have hm2 : 0 < (ft2 S p a).1 27 p := kfS_27
  have hf2 : ∀ k, k < (ft2 S p a).1 27 p → (ft2 S p a).1 28 (4 * p + k) < (ft2 S p a).1 0 0 := fun k hk => Fn_kf (S := ft1 S p) (p := p) (a := a) (Bd_setV hB1) (fun q k hk => hFn q k hk) ha p k hk
  have hto2 : ftTo S p a = (wtS (ft2 S p a) p ((ft2 S p a).1 0 0)).1 := by rw [en 0 (by decide) (by decide) (by decide)]; rfl
  have htn2 : ftTo S p a < (ft2 S p a).1 0 0 := by rw [en 0 (by decide) (by decide) (by decide)]; exact ftTo_lt hB (by omega) hn
  refine G.met (by decide) (Nat.le_of_ble_eq_true rfl) ?_
  show G _ _ _ 0 [some (.ref b), some (.ref (b + 18 + 3 * p))] [] σ
  refine gs_aload_n dX3_takeFault_0 rfl rfl ?_
  refine g_iconst (v := nI 0) dX3_takeFault_1 (by decide) ?_
  refine gc_putI dX3_takeFault_2 pX3_207 (kPg hb h20) (by decide) (Or.inr ⟨rfl, by first | exact bI_01 _ | decide⟩) (D_hidden hQ hb hB h20) (fun σ hQ => ?_)
  have hR := hQ.1
  refine gs_aload_n dX3_takeFault_5 rfl rfl ?_
  refine gs_aload_n dX3_takeFault_6 rfl rfl ?_
  refine g_getR dX3_takeFault_7 fX3_28 (kMa hb) (by decide) (rMa_attempt hb) ?_
  refine g_getI dX3_takeFault_10 fX3_220 (kMa_attempt hb) (by decide) (show _ = nI a from by rw [hQ.2.2]; exact h1) ?_
  refine g_cVV1 dX3_takeFault_13 vX3_312 (by decide) (kPg hb h20) (by decide) (Nat.le_of_ble_eq_true rfl) (c_noteFault hb hR hB1 hp (by omega)) ?_
  rintro σ hQ9
  rw [hQ.2.2] at hQ9
  have hQ := hQ.tr hQ9
  have hR := hQ.1
  refine gs_aload_n dX3_takeFault_16 rfl rfl ?_
  refine g_getR dX3_takeFault_17 fX3_28 (kMa hb) (by decide) (rMa_attempt hb) ?_
  refine g_iconst (v := nI 1) dX3_takeFault_20 (by decide) ?_
  refine gc_putI dX3_takeFault_21 pX3_315 (kMa_attempt hb) (by decide) (Or.inr ⟨rfl, by first | exact bI_01 _ | decide⟩) (hQ.putA hb hBk) (fun σ hQ => ?_)
  have hR := hQ.1
  refine gs_aload_n dX3_takeFault_24 rfl rfl ?_
  refine g_getR dX3_takeFault_25 fX3_28 (kMa hb) (by decide) (rMa_attempt hb) ?_
  refine g_dup dX3_takeFault_28 rfl ?_
  refine g_getI dX3_takeFault_29 fX3_240 (kMa_attempt hb) (by decide) (show _ = nI c0 from by rw [hQ.2.2]; exact h7) ?_
  refine gs_aload_n dX3_takeFault_32 rfl rfl ?_
  refine g_getR dX3_takeFault_33 fX3_21 (kMa hb) (by decide) (rMa_rules hb) ?_
  refine g_getI dX3_takeFault_36 fX3_128 (kMa_rules hb) (by decide) (show _ = nI (S.1 14 0) from by have q := C_faultPrice hR; rw [kfS_ne (g := 14) (by decide) (by decide)] at q; exact q) ?_
  refine g_iadd dX3_takeFault_39 (by first | exact nI_add _ _ | rfl) ?_
  refine gc_putI dX3_takeFault_40 pX3_240 (kMa_attempt hb) (by decide) (Or.inl rfl) (hQ.putA hb hBk) (fun σ hQ => ?_)
  have hR := hQ.1
  refine gs_aload_n dX3_takeFault_43 rfl rfl ?_
  refine g_dup dX3_takeFault_44 rfl ?_
  refine g_getI dX3_takeFault_45 fX3_106 (kMa hb) (by decide) (show _ = S.2.1 4 0 from by have q := CV_faults hR; rw [e2] at q; exact q) ?_
  refine g_iconst (v := nI 1) dX3_takeFault_48 (by decide) ?_
  refine g_iadd dX3_takeFault_49 rfl ?_
  refine gc_putI dX3_takeFault_50 pX3_106 (kMa hb) (by decide) (Or.inl rfl) (DV_faults hQ hb hBk) (fun σ hQ => ?_)
  have hR := hQ.1
  refine gs_aload_n dX3_takeFault_53 rfl rfl ?_
  refine g_getI dX3_takeFault_54 fX3_115 (kPg hb h20) (by decide) (show _ = nI (S.1 8 p) from by have q := C_kind hR h20 (show p < _ by rw [show (setV (kfS (setN S 26 p 0) p a) 4 0 (S.2.1 4 0 + nI 1)).1 7 0 = S.1 7 0 from by rw [setV_1, kfS_ne (g := 7) (by decide) (by decide)]; rfl]; exact hp); rw [show (setV (kfS (setN S 26 p 0) p a) 4 0 (S.2.1 4 0 + nI 1)).1 8 p = S.1 8 p from by rw [setV_1, kfS_ne (g := 8) (by decide) (by decide)]; rfl] at q; exact q) ?_
  refine gn_if_ne (tgt := 65) dX3_takeFault_57 (by decide) (by omega) (fun c57 => ?_) (fun c57 => ?_)
  · refine g_return dX3_takeFault_65 rfl ?_
    have em : ftMv S p a = false := by rw [ftMv, decide_eq_false (by omega), Bool.false_and]
    have e1 : setV (kfS (setN S 26 p 0) p a) 4 0 (S.2.1 4 0 + nI 1) = ft2 S p a := kfS_setV.symm
    rw [e1] at hQ
    refine ⟨rfl, _, by rw [em, ftS, if_neg (by rw [em]; decide), if_neg (by decide)]; exact hQ, fun k hk => ?_, ?_, ?_, ?_⟩
    · rw [upd_n _ _ (by omega), upd_n _ _ (by omega)]
    · rw [upd_e, ftC, em]; rfl
    · rw [upd_n _ _ (by decide), upd_e]; rfl
    · rw [upd_n _ _ (by decide), upd_n _ _ (by decide), em]; exact h9
  · have e1 : setV (kfS (setN S 26 p 0) p a) 4 0 (S.2.1 4 0 + nI 1) = ft2 S p a := kfS_setV.symm
    rw [e1] at hQ
    have hR := hQ.1
    refine gs_aload_n dX3_takeFault_60 rfl rfl ?_
    refine gs_aload_n dX3_takeFault_61 rfl rfl ?_
    refine g_cVV1 dX3_takeFault_62 vX3_318 (by decide) (kMa hb) (by decide) (Nat.le_of_ble_eq_true rfl) (c_moveIfItPays hb hR hB2 hT2 hQ.2.2 hn2 hp2 hl2 hln2 hm2 hf2 hto2 htn2) ?_
    rintro σ hM9
    refine g_return dX3_takeFault_65 rfl ?_
    by_cases hc : (ft2 S p a).1 24 p ≠ ftTo S p a + 1 ∧ pyS (ft2 S p a) p (ftTo S p a) = true ∧ hrS (ft2 S p a) (ftTo S p a) = true
    · rw [if_pos hc] at hM9
      have em : ftMv S p a = true := by
        rw [e24] at hc
        rw [ftMv, decide_eq_true c57, decide_eq_true hc.1, hc.2.1, hc.2.2]; rfl
      refine ⟨rfl, _, by rw [em, ftS, if_pos em, if_pos rfl, ← e24]; exact hQ.tr hM9, fun k hk => ?_, ?_, ?_, ?_⟩
      · rw [mvA, upd_n _ _ (by omega), upd_n _ _ (by omega), upd_n _ _ (by omega), upd_n _ _ (by omega)]
      · rw [mvA, upd_e, upd_e, ftC, if_pos em, e15, nI_add, Nat.add_assoc]
      · rw [mvA, upd_n _ _ (by decide), upd_n _ _ (by decide), upd_n _ _ (by decide), upd_e]; rfl
      · rw [mvA, upd_n _ _ (by decide), upd_e, em]; rfl
    · rw [if_neg hc] at hM9
      have em : ftMv S p a = false := by
        rw [e24] at hc
        rw [ftMv]
        by_cases z1 : S.1 24 p = ftTo S p a + 1
        · rw [decide_eq_false (p := S.1 24 p ≠ ftTo S p a + 1) (fun z => z z1)]; simp
        · by_cases z2 : pyS (ft2 S p a) p (ftTo S p a) = true
          · have z3 : hrS (ft2 S p a) (ftTo S p a) = false := by
              cases hh : hrS (ft2 S p a) (ftTo S p a)
              · rfl
              · exact absurd ⟨z1, z2, hh⟩ hc
            rw [z3]; simp
          · have z2 : pyS (ft2 S p a) p (ftTo S p a) = false := by simpa using z2
            rw [z2]; simp
      refine ⟨rfl, _, by rw [em, ftS, if_neg (by rw [em]; decide), if_neg (by decide)]; exact hQ.tr hM9, fun k hk => ?_, ?_, ?_, ?_⟩
      · rw [upd_n _ _ (by omega), upd_n _ _ (by omega)]
      · rw [upd_e, ftC, em]; rfl
      · rw [upd_n _ _ (by decide), upd_e]; rfl
      · rw [upd_n _ _ (by decide), upd_n _ _ (by decide), em]; exact h9
