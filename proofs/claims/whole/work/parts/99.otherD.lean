/-! other of the reference: the call. -/
theorem svS_T {a g u : Nat} (hg : g = 30 ∨ g = 31 ∨ g = 32) : ∀ k S, S.1 9 0 ≤ u → (svS a k S).1 g u = S.1 g u := by
  intro k
  induction k with
  | zero => intro S _; rfl
  | succ k ih =>
    intro S hu
    rw [svS]
    split
    · rfl
    · next t ht =>
      split
      · have ht2 := fsS_lt _ _ ht
        rw [ih _ (by rw [tryS_ne rfl, setN_ne (by decide)]; exact hu), tryS_off hg (by omega), setN_ne (by omega)]
      · rfl
theorem ndL_T {g u : Nat} (hg : g = 30 ∨ g = 31 ∨ g = 32) {S : Sx} (hu : S.1 9 0 ≤ u) : ∀ a, (ndL S a).1 g u = S.1 g u ∧ (ndL S a).1 9 = S.1 9 := by
  intro a
  induction a with
  | zero => exact ⟨rfl, rfl⟩
  | succ a ih =>
    rw [ndL]
    exact ⟨by rw [svS_T hg 10 _ (by rw [ih.2]; exact hu), ih.1], by rw [svS_ne rfl (by decide), ih.2]⟩
theorem otS_30 {S : Sx} {u : Nat} (hu : S.1 9 0 ≤ u) : (otS S).1 30 u = S.1 30 u := by
  show (finS (ndL (tkX S) (S.1 0 0))).1 30 u = _
  have e9 : (tkX S).1 9 = S.1 9 := tkX_ne (by decide) (by decide)
  rw [finS_ne (by decide) (by decide) (by decide) (by decide), (ndL_T (Or.inl rfl) (by rw [e9]; exact hu) _).1, tkX_ne (by decide) (by decide)]
theorem otN_30 {b : Nat} {S : Sx} (hb : mch b) (h : Tw b S) {n u : Nat} (hc : Cn n S) (hu : S.1 9 0 ≤ u) : ∀ k, k ≤ n → (otN k S).1 30 u = S.1 30 u := by
  intro k
  induction k with
  | zero => intro _; rfl
  | succ k ih =>
    intro hk
    obtain ⟨-, -, -, i4⟩ := otN_inv hb h hc k (by omega)
    rw [otN, otS_30 (by rw [i4 9 rfl (by decide) (by decide) (by decide)]; exact hu), ih (by omega)]
theorem otS_33 {S S2 : Sx} (h : ∀ g, g ≠ 33 → S2.1 g = S.1 g) (h3 : ∀ i, 16 ≤ i → S2.1 33 i = S.1 33 i) (h2 : S2.2 = S.2) : otS S2 = otS S := by
  have e : lnL S2 16 = lnL S 16 := by
    refine Prod.ext ?_ (by rw [lnL_2, lnL_2, h2])
    funext g i
    by_cases hg : g = 33
    · subst hg
      rw [lnL_33, lnL_33]
      split
      · rfl
      · exact h3 i (by omega)
    · rw [lnL_ne hg, lnL_ne hg, h g hg]
  show finS (ndL (trL (lnL S2 16) (S2.1 9 0)) (S2.1 0 0)) = finS (ndL (trL (lnL S 16) (S.1 9 0)) (S.1 0 0))
  rw [e, h 9 (by decide), h 0 (by decide)]
def ob2 (S S' : Sx) (p e gn : Nat) : Sx := (fun g i => if g = 33 then (if i < 16 then S'.1 33 i else 0) else (ob1 S S' p e gn).1 g i, (ob1 S S' p e gn).2)
theorem ob2_ne {S S' : Sx} {p e gn g : Nat} (h : g ≠ 33) : (ob2 S S' p e gn).1 g = (ob1 S S' p e gn).1 g := by funext i; exact if_neg h
theorem ob2_33 {S S' : Sx} {p e gn i : Nat} : (ob2 S S' p e gn).1 33 i = if i < 16 then S'.1 33 i else 0 := rfl
def MJ1 (σ0 : Mm) (S : Sx) (H : Hx) (S' : Sx) (τ : Mm) : Prop := MJ σ0 S H τ ∧ RepM 1 τ S'
theorem ob2_ot {S S' : Sx} {p e gn : Nat} : otS (ob2 S S' p e gn) = otS (ob1 S S' p e gn) := by
  refine otS_33 (fun g hg => ob2_ne hg) (fun i hi => ?_) rfl
  rw [ob1_0 (by decide)]
  rw [ob2_33, if_neg (by omega)]
theorem tabS : ((List.range 40).all fun g => decide (15 < g) || decide (mML.getD g 0 = 0)) = true := by decide +kernel
theorem ob2_rep {σ : Mm} {S S' : Sx} {p e gn : Nat} {σ0 : Mm} (hB : Bd S) (hsh : ∀ g i, mML.getD g 0 = 0 → S'.1 g i = S.1 g i) (hv : ∀ i, i < 600 → S'.2.1 0 i = S.2.1 0 i) (h : Mq 1 σ0 (setN (setN (setN (MB S S' 20 80 (S.1 9 0)) 20 0 p) 21 0 e) 22 0 gn) σ) : Mq 1 σ0 (ob2 S S' p e gn) σ := by
  refine h.congr (fun g i hi => ?_) (fun g i hi => ?_)
  · obtain ⟨hi', hg⟩ := mS_lt hi
    have xx : ∀ g i, (setN (setN (setN (MB S S' 20 80 (S.1 9 0)) 20 0 p) 21 0 e) 22 0 gn).1 g i = if g = 22 ∧ i = 0 then gn else if g = 21 ∧ i = 0 then e else if g = 20 ∧ i = 0 then p else (MB S S' 20 80 (S.1 9 0)).1 g i := fun _ _ => rfl
    rw [xx]
    by_cases h33 : g = 33
    · subst h33
      rw [ob2_33, if_pos (show i < 16 from hi')]; rfl
    rw [ob2_ne h33]
    by_cases h15 : g ≤ 15
    · have q := List.all_eq_true.mp tabS g (List.mem_range.mpr hg)
      simp only [Bool.or_eq_true, decide_eq_true_eq] at q
      rw [ob1_s h15, if_neg (by omega), if_neg (by omega), if_neg (by omega)]
      show S.1 g i = (if g = 23 then 0 else if g = 36 then S.1 9 0 else if (g = 24 ∨ g = 25 ∨ g = 26 ∨ g = 27) ∧ i < 20 then 0 else if g = 29 ∧ i < S.1 9 0 then S.1 29 i else if g = 35 ∧ i < S.1 9 0 then i else if (g = 30 ∨ g = 31 ∨ g = 32) ∧ i < S.1 9 0 then 0 else S'.1 g i)
      rw [if_neg (by omega), if_neg (by omega), if_neg (by omega), if_neg (by omega), if_neg (by omega), if_neg (by omega), hsh g i (q.resolve_left (by omega))]
    rcases (show (16 ≤ g ∧ g ≤ 19) ∨ g = 20 ∨ g = 21 ∨ g = 22 ∨ g = 23 ∨ g = 24 ∨ g = 25 ∨ g = 26 ∨ g = 27 ∨ g = 28 ∨ g = 29 ∨ g = 30 ∨ g = 31 ∨ g = 32 ∨ g = 34 ∨ g = 35 ∨ g = 36 ∨ g = 37 ∨ g = 38 ∨ g = 39 from by omega) with hh | rfl | rfl | rfl | rfl | rfl | rfl | rfl | rfl | rfl | rfl | rfl | rfl | rfl | rfl | rfl | rfl | rfl | rfl | rfl
    · rcases (show g = 16 ∨ g = 17 ∨ g = 18 ∨ g = 19 from by omega) with rfl | rfl | rfl | rfl <;> exact absurd (show i < 0 from hi') (by omega)
    · have : i = 0 := by have q : i < 1 := hi'; omega
      subst this; rfl
    · have : i = 0 := by have q : i < 1 := hi'; omega
      subst this; rfl
    · have : i = 0 := by have q : i < 1 := hi'; omega
      subst this; rfl
    · rfl
    · have q : i < 20 := hi'
      show 0 = (if (24 = 24 ∨ 24 = 25 ∨ 24 = 26 ∨ 24 = 27) ∧ i < 20 then 0 else _)
      rw [if_pos ⟨by decide, q⟩]
    · have q : i < 20 := hi'
      show 0 = (if (25 = 24 ∨ 25 = 25 ∨ 25 = 26 ∨ 25 = 27) ∧ i < 20 then 0 else _)
      rw [if_pos ⟨by decide, q⟩]
    · have q : i < 20 := hi'
      show 0 = (if (26 = 24 ∨ 26 = 25 ∨ 26 = 26 ∨ 26 = 27) ∧ i < 20 then 0 else _)
      rw [if_pos ⟨by decide, q⟩]
    · have q : i < 20 := hi'
      show 0 = (if (27 = 24 ∨ 27 = 25 ∨ 27 = 26 ∨ 27 = 27) ∧ i < 20 then 0 else _)
      rw [if_pos ⟨by decide, q⟩]
    · rfl
    · rw [ob1_29]
      show _ = (if 29 = 29 ∧ i < S.1 9 0 then S.1 29 i else S'.1 29 i)
      by_cases q : i < S.1 9 0
      · rw [if_pos q, if_pos ⟨rfl, q⟩]
      · rw [if_neg q, if_neg (fun z => q z.2)]
    · have q10 : i < 10 := hi'
      rw [ob1_30]
      show _ = (if (30 = 30 ∨ 30 = 31 ∨ 30 = 32) ∧ i < S.1 9 0 then 0 else S'.1 30 i)
      by_cases q : i < S.1 9 0
      · rw [if_pos q, if_pos ⟨by decide, q⟩]
      · rw [if_neg q, if_pos q10, if_neg (fun z => q z.2)]
    · show (if i < S.1 9 0 then 0 else S'.1 31 i) = (if (31 = 30 ∨ 31 = 31 ∨ 31 = 32) ∧ i < S.1 9 0 then 0 else S'.1 31 i)
      by_cases q : i < S.1 9 0
      · rw [if_pos q, if_pos ⟨by decide, q⟩]
      · rw [if_neg q, if_neg (fun z => q z.2)]
    · show (if i < S.1 9 0 then 0 else S'.1 32 i) = (if (32 = 30 ∨ 32 = 31 ∨ 32 = 32) ∧ i < S.1 9 0 then 0 else S'.1 32 i)
      by_cases q : i < S.1 9 0
      · rw [if_pos q, if_pos ⟨by decide, q⟩]
      · rw [if_neg q, if_neg (fun z => q z.2)]
    · exact absurd (show i < 0 from hi) (by omega)
    · show (if i < S.1 9 0 then i else S'.1 35 i) = (if 35 = 35 ∧ i < S.1 9 0 then i else S'.1 35 i)
      by_cases q : i < S.1 9 0
      · rw [if_pos q, if_pos ⟨rfl, q⟩]
      · rw [if_neg q, if_neg (fun z => q z.2)]
    · rfl
    · exact absurd (show i < 0 from hi) (by omega)
    · rfl
    · exact absurd (show i < 0 from hi) (by omega)
  · obtain ⟨hi', hg⟩ := vS_lt hi
    rcases (show g = 0 ∨ g = 1 ∨ g = 2 ∨ g = 3 ∨ g = 4 ∨ g = 5 ∨ g = 6 ∨ g = 7 ∨ g = 8 ∨ g = 9 ∨ g = 10 ∨ g = 11 ∨ g = 12 ∨ g = 13 ∨ g = 14 ∨ g = 15 ∨ g = 16 ∨ g = 17 ∨ g = 18 ∨ g = 19 from by omega) with rfl | rfl | rfl | rfl | rfl | rfl | rfl | rfl | rfl | rfl | rfl | rfl | rfl | rfl | rfl | rfl | rfl | rfl | rfl | rfl
    · exact (hv i hi').symm
    · rfl
    · rfl
    · rfl
    · exact absurd (show i < 0 from hi) (by omega)
    · exact absurd (show i < 0 from hi) (by omega)
    · exact absurd (show i < 0 from hi) (by omega)
    · exact absurd (show i < 0 from hi) (by omega)
    · have q : i < 20 := hi'
      show nI 0 = (if 8 = 8 ∧ i < 20 then nI 0 else _)
      rw [if_pos ⟨rfl, q⟩]
    · have q : i < 80 := hi'
      show nI 0 = (if 9 = 9 ∧ i < 80 then nI 0 else _)
      rw [if_pos ⟨rfl, q⟩]
    · exact absurd (show i < 0 from hi) (by omega)
    · exact absurd (show i < 0 from hi) (by omega)
    · exact absurd (show i < 0 from hi) (by omega)
    · exact absurd (show i < 0 from hi) (by omega)
    · exact absurd (show i < 0 from hi) (by omega)
    · exact absurd (show i < 0 from hi) (by omega)
    · exact absurd (show i < 0 from hi) (by omega)
    · exact absurd (show i < 0 from hi) (by omega)
    · exact absurd (show i < 0 from hi) (by omega)
    · exact absurd (show i < 0 from hi) (by omega)
theorem l_oth {σ0 : Mm} {S : Sx} {n p e gn : Nat} {K : Option Value → Mm → Prop} (hn : n ≤ 200) (hTw : Tw 145 S) (hc : Cn n S) (hX : ∀ τ, Mw 1 σ0 (otN n S) τ → G W0 mX12_other K 101 [some (.ref 258), some (.int (nI p)), some (.int (nI e)), some (.int (nI gn)), some (.int (nI n)), none] [] τ) : ∀ k i σ, i + k = n → Mw 1 σ0 (otN i S) σ → G W0 mX12_other K 84 [some (.ref 258), some (.int (nI p)), some (.int (nI e)), some (.int (nI gn)), some (.int (nI n)), some (.int (nI i))] [] σ := by
  have hb1 : mch 145 := Or.inr rfl
  intro k
  induction k with
  | zero =>
    intro i σ hi hW
    have e9 : i = n := by omega
    rw [e9] at hW
    refine g_iload dX12_other_84 rfl ?_
    refine g_iload dX12_other_86 rfl ?_
    refine gt_icmp_ge (tgt := 101) dX12_other_88 (by decide) (by omega) (by omega) (by omega) ?_
    refine G.drop 5 (ls' := [_, _, _, _, _, none]) rfl ?_
    exact hX σ hW
  | succ k ih =>
    intro i σ hi hW
    obtain ⟨i1, i2, i3, i4⟩ := otN_inv hb1 hTw hc i (by omega)
    have h1 : (otN i S).1 23 0 + 100 < 1073741824 := by have := hc.1; omega
    have h2 : (otN i S).1 36 0 + 10 ≤ 1073741824 := by have := hc.2; omega
    have hcp : hCap 1 (otN i S) := ⟨fun z => absurd z (by decide), fun _ => i1.2.1.2 rfl⟩
    refine g_iload dX12_other_84 rfl ?_
    refine g_iload dX12_other_86 rfl ?_
    refine gf_icmp_ge (tgt := 101) dX12_other_88 (by decide) (by omega) (by omega) (by omega) ?_
    refine gs_aload_n dX12_other_91 rfl rfl ?_
    refine g_cVV0 dX12_other_92 vX12_332 (by decide) kwM (by decide) (Nat.le_of_ble_eq_true rfl) (s_oneTick hW.1 i1.1.1.1 hW.2.1 i1.1.1 hcp i1.2.2.1 h1 h2) ?_
    rintro σ hW9
    have hW := hW.tr hW9
    refine gs_iinc (ls' := [_, _, _, _, _, _]) dX12_other_95 rfl (nI_add _ 1) rfl rfl ?_
    refine g_goto (tgt := 84) dX12_other_98 (by decide) ?_
    exact ih (i + 1) σ (by omega) hW
theorem M1_cost {σ : Mm} {S : Sx} (h : RepM 1 σ S) : (σ.2 274 1).toInt32 = S.2.1 3 0 := by
  have q := h.2.2 3 0 (by decide) (by decide)
  simpa [vA, vAL, vK, vML] using q
theorem n_other {σ : Mm} {S : Sx} {H : Hx} (hJ : MI_ σ S H) (hPI : PI S) (x y z t : Int32) {S' : Sx} (hM1 : RepM 1 σ S') (hJw : Jw S S') (hsh : ∀ g i, mML.getD g 0 = 0 → S'.1 g i = S.1 g i) (hv0 : S'.2.1 0 = (fun i => σ.1 267 i)) : RI W0 mX12_other [.ref 258, .int x, .int y, .int z, .int t] σ (fun r τ => r = aOther S S' x y z t ∧ MJ σ (S) H τ) := by
  have o17 : offM 258 17 = true := by decide +kernel
  have e9 : S'.1 9 0 = S.1 9 0 := hsh 9 0 (by decide)
  have hB : Bd S := hPI.1.1.1.1
  have b0 := B_nodes hB 0
  have bP := B_P hB 0
  have bT := B_T hB 0
  refine G.met (by decide) (Nat.le_of_ble_eq_true rfl) ?_
  show G _ _ _ 0 [some (.ref 258), some (.int x), some (.int y), some (.int z), some (.int t), none] [] σ
  refine gs_aload_n dX12_other_0 rfl rfl ?_
  refine g_iconst (v := nI 0) dX12_other_1 (by decide) ?_
  refine gp_putI dX12_other_2 pX12_194 kwM (by decide) (Or.inl rfl) (show MJ1 σ S H S' (wI σ 258 0 (nI 0)) from ⟨(MJ.rf hJ).off off0 (by decide), hM1.off off0⟩) (fun σ hQ => ?_)
  have hM := hQ.1.1.1
  have hC0 := hQ.1.1.2.1
  refine gs_iload_n dX12_other_5 rfl rfl ?_
  refine g_i2l dX12_other_6 rfl ?_
  refine g_lconst (v := 0) dX12_other_7 (by decide) ?_
  refine g_ldc2 dX12_other_8 qX12_235 ?_
  refine g_cSI3 dX12_other_11 vX12_214 (by decide) (Nat.le_of_ble_eq_true rfl) (m_isIn (a := 0) (b := 2) (by decide) (by decide)) ?_
  rintro _ σ ⟨rfl, e9⟩
  subst e9
  refine gb_if_eq (tgt := 54) dX12_other_14 (by decide) (fun c14 => ?_) (fun c14 => ?_)
  · refine g_iconst (v := -1) dX12_other_54 (by decide) ?_
    refine g_ireturn dX12_other_55 rfl ?_
    exact ⟨_, rfl, by rw [aOther, if_neg (nb1 (by cases hq : okRule x y z; exact rfl; exact absurd (Bool.and_eq_true_iff.mp hq).1 (nbf c14)))], hQ.1⟩
  · refine gs_iload_n dX12_other_17 rfl rfl ?_
    refine g_i2l dX12_other_18 rfl ?_
    refine g_lconst (v := 0) dX12_other_19 (by decide) ?_
    refine g_ldc2 dX12_other_20 qX12_237 ?_
    refine g_cSI3 dX12_other_23 vX12_214 (by decide) (Nat.le_of_ble_eq_true rfl) (m_isIn (a := 0) (b := 50) (by decide) (by decide)) ?_
    rintro _ σ ⟨rfl, e9⟩
    subst e9
    refine gb_if_eq (tgt := 54) dX12_other_26 (by decide) (fun c26 => ?_) (fun c26 => ?_)
    · refine g_iconst (v := -1) dX12_other_54 (by decide) ?_
      refine g_ireturn dX12_other_55 rfl ?_
      exact ⟨_, rfl, by rw [aOther, if_neg (nb1 (by cases hq : okRule x y z; exact rfl; exact absurd (Bool.and_eq_true_iff.mp (Bool.and_eq_true_iff.mp hq).2).1 (nbf c26)))], hQ.1⟩
    · refine gs_iload_n dX12_other_29 rfl rfl ?_
      refine g_i2l dX12_other_30 rfl ?_
      refine g_lconst (v := 1) dX12_other_31 (by decide) ?_
      refine g_ldc2 dX12_other_32 qX12_239 ?_
      refine g_cSI3 dX12_other_35 vX12_214 (by decide) (Nat.le_of_ble_eq_true rfl) (m_isIn (a := 1) (b := 10) (by decide) (by decide)) ?_
      rintro _ σ ⟨rfl, e9⟩
      subst e9
      refine gb_if_eq (tgt := 54) dX12_other_38 (by decide) (fun c38 => ?_) (fun c38 => ?_)
      · refine g_iconst (v := -1) dX12_other_54 (by decide) ?_
        refine g_ireturn dX12_other_55 rfl ?_
        exact ⟨_, rfl, by rw [aOther, if_neg (nb1 (by cases hq : okRule x y z; exact rfl; exact absurd (Bool.and_eq_true_iff.mp (Bool.and_eq_true_iff.mp hq).2).2 (nbf c38)))], hQ.1⟩
      · refine g_iload dX12_other_41 rfl ?_
        refine g_i2l dX12_other_43 rfl ?_
        refine g_lconst (v := 1) dX12_other_44 (by decide) ?_
        refine g_ldc2 dX12_other_45 qX12_330 ?_
        refine g_cSI3 dX12_other_48 vX12_214 (by decide) (Nat.le_of_ble_eq_true rfl) (m_isIn (a := 1) (b := 200) (by decide) (by decide)) ?_
        rintro _ σ ⟨rfl, e9⟩
        subst e9
        refine gb_if_ne (tgt := 56) dX12_other_51 (by decide) (fun c51 => ?_) (fun c51 => ?_)
        · have c6 : okRule x y z = true := yb c14 (yb c26 c38)
          obtain ⟨p, hpl, hp, rfl⟩ := rg_of c14
          obtain ⟨e, hel, he, rfl⟩ := rg_of c26
          obtain ⟨gn, hgl, hg, rfl⟩ := rg_of c38
          obtain ⟨n, hnl, hn, rfl⟩ := rg_of c51
          have hcn : Cn n (ob1 S S' p e gn) := ⟨by have := (ob1_Cn (S' := S') (p := p) (e := e) (gn := gn) hB).1; omega, by have := (ob1_Cn (S' := S') (p := p) (e := e) (gn := gn) hB).2; omega⟩
          have hTw := ob1_Tw (p := p) (e := e) (gn := gn) hPI hJw hp he hg
          obtain ⟨i1, i2, i3, i4⟩ := otN_inv (Or.inr rfl) hTw hcn n (Nat.le_refl _)
          have eA : aOther S S' (nI p) (nI e) (nI gn) (nI n) = (otN n (ob1 S S' p e gn)).2.1 3 0 := by rw [aOther, if_pos (yb c6 c51), nN_n (by omega), nN_n (by omega), nN_n (by omega), nN_n (by omega)]
          have hQ0 := hQ.1
          have hM0 := hQ.1.1.1
          have hB2 : Bd (ob2 S S' p e gn) := fun g i => by
            by_cases z : g = 33
            · subst z
              rw [ob2_33]
              split
              · exact hJw.1 33 i
              · exact Nat.zero_le _
            · rw [ob2_ne z]; exact hTw.1.1.1 g i
          have hI2 : Iv (ob2 S S' p e gn) := Iv_of hTw.1.1 hB2 (ob2_ne (by decide)) (ob2_ne (by decide)) (ob2_ne (by decide)) (ob2_ne (by decide)) (ob2_ne (by decide))
          have hc2 : hCap 1 (ob2 S S' p e gn) := ⟨fun z => absurd z (by decide), fun _ => by rw [ob2_ne (by decide), ob2_ne (by decide)]; exact hTw.2.1.2 rfl⟩
          have hz2 : Lz (ob2 S S' p e gn) := fun i hi => by
            rw [ob2_33, if_neg (by omega)]
          have hv : ∀ i, i < 600 → S'.2.1 0 i = S.2.1 0 i := fun i hi => by rw [hv0]; exact M0_aValue hJ.1 hi
          refine gs_aload_n dX12_other_56 rfl rfl ?_
          refine g_cVV0 dX12_other_57 vX12_340 (by decide) kwM (by decide) (Nat.le_of_ble_eq_true rfl) (s_beginOther hM0 hQ.2 hB hJw e9) ?_
          rintro σ2 hQ
          refine gs_aload_n dX12_other_60 rfl rfl ?_
          refine g_getR dX12_other_61 fX12_45 kwM (by decide) rM_placing ?_
          refine g_iconst (v := nI 1) dX12_other_64 (by decide) ?_
          refine gs_iload_n dX12_other_65 rfl rfl ?_
          refine gq_iast dX12_other_66 kw_placing (by omega) (Q_placing (v := p) hQ) (fun σ hQ => ?_)
          have hM := hQ.1
          have hC0 := hQ.2.1
          refine gs_aload_n dX12_other_67 rfl rfl ?_
          refine g_getR dX12_other_68 fX12_48 kwM (by decide) rM_every ?_
          refine g_iconst (v := nI 1) dX12_other_71 (by decide) ?_
          refine gs_iload_n dX12_other_72 rfl rfl ?_
          refine gq_iast dX12_other_73 kw_every (by omega) (Q_every (v := e) hQ) (fun σ hQ => ?_)
          have hM := hQ.1
          have hC0 := hQ.2.1
          refine gs_aload_n dX12_other_74 rfl rfl ?_
          refine g_getR dX12_other_75 fX12_51 kwM (by decide) rM_gain ?_
          refine g_iconst (v := nI 1) dX12_other_78 (by decide) ?_
          refine gs_iload_n dX12_other_79 rfl rfl ?_
          refine gq_iast dX12_other_80 kw_gain (by omega) (Q_gain (v := gn) hQ) (fun σ hQ => ?_)
          have hM := hQ.1
          have hC0 := hQ.2.1
          refine g_iconst (v := nI 0) dX12_other_81 (by decide) ?_
          refine gs_istore (ls' := [_, _, _, _, _, _]) dX12_other_82 rfl rfl ?_
          have hW := (ob2_rep hB hsh hv hQ).weak
          obtain ⟨n, rfl⟩ : ∃ m, n = m + 1 := ⟨n - 1, by omega⟩
          refine g_iload dX12_other_84 rfl ?_
          refine g_iload dX12_other_86 rfl ?_
          refine gf_icmp_ge (tgt := 101) dX12_other_88 (by decide) (by omega) (by omega) (by omega) ?_
          refine gs_aload_n dX12_other_91 rfl rfl ?_
          refine g_cVV0 dX12_other_92 vX12_332 (by decide) kwM (by decide) (Nat.le_of_ble_eq_true rfl) (s_oneTick hW.1 hB2 hW.2.1 hI2 hc2 hz2 (by rw [ob2_ne (by decide), ob1_0 (by decide)]; decide) (by rw [ob2_ne (by decide)]; show S.1 9 0 + 10 ≤ 1073741824; omega)) ?_
          rintro σ3 hW9
          rw [ob2_ot] at hW9
          have hW := hW.tr hW9
          refine gs_iinc (ls' := [_, _, _, _, _, _]) dX12_other_95 rfl (nI_add _ 1) rfl rfl ?_
          refine g_goto (tgt := 84) dX12_other_98 (by decide) ?_
          refine l_oth (S := ob1 S S' p e gn) hn hTw hcn (fun τ hW => ?_) n 1 σ3 (by omega) hW
          have hR1 : RepM 1 (wI τ 258 17 (nI 0)) (otN (n + 1) (ob1 S S' p e gn)) := hW.1.off o17
          have hR0 : RepM 0 (wI τ 258 17 (nI 0)) S := (hW.2.2.2 S (hM0.off o17)).off o17
          refine gs_aload_n dX12_other_101 rfl rfl ?_
          refine g_iconst (v := nI 0) dX12_other_102 (by decide) ?_
          refine g_putI dX12_other_103 pX12_243 kwM (by decide) (Or.inl rfl) ?_
          refine gs_aload_n dX12_other_106 rfl rfl ?_
          refine g_getR dX12_other_107 fX12_63 kwM (by decide) rM_cost ?_
          refine g_iconst (v := nI 1) dX12_other_110 (by decide) ?_
          refine g_lald dX12_other_111 kw_cost (by omega) rfl ?_
          refine g_l2i dX12_other_112 (M1_cost hR1) ?_
          refine g_ireturn dX12_other_113 rfl ?_
          refine ⟨_, rfl, eA.symm, ⟨⟨hR0, ⟨by decide, by rw [wI_at, if_pos ⟨rfl, rfl⟩]⟩, ?_, ?_⟩, ?_⟩⟩
          · refine ShM.w ?_ (by decide)
            unfold ShM
            rw [(hW.2.2.1.2.2 306 (by decide)).1, (hW.2.2.1.2.2 307 (by decide)).1, (hW.2.2.1.2.2 308 (by decide)).1, (hW.2.2.1.2.2 309 (by decide)).1, (hW.2.2.1.2.2 310 (by decide)).1]
            exact hQ0.1.2.2.1.w (by decide)
          · exact W1_of hR1 i1.1.1.1 (fun t => by rw [i4 29 rfl (by decide) (by decide) (by decide), ob1_29]; split; exact Or.inl (hPI.1.1.1.2.2.1 t); exact hJw.2.1 t) (fun t ht hT => by rw [otN_30 (Or.inr rfl) hTw hcn hT (n + 1) (Nat.le_refl _)]; exact ob1_30z hJw)
          · intro a ha
            rw [wI_o _ _ _ _ (by omega), (hW.2.2.1.1 a ha).1, wI_o _ _ _ _ (by omega)]
            exact hQ0.2 a ha
        · refine g_iconst (v := -1) dX12_other_54 (by decide) ?_
          refine g_ireturn dX12_other_55 rfl ?_
          exact ⟨_, rfl, by rw [aOther, if_neg (nb2 (nbf c51))], hQ.1⟩
