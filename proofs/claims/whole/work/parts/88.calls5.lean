/-! link, of both. -/
theorem RepC.dom {b : Nat} {σ : Mm} {S : Sx} {Tf : Nat → Nat} (h : RepC b σ S Tf) {g i v : Nat} (hd : ¬ dmC S g i) (hg : ctl g = false) : RepC b σ (setN S g i v) Tf := by
  have e : ∀ k, ctl k = true → (setN S g i v).1 k = S.1 k := fun k hk => setN_ne (ctl_ne hg hk)
  obtain ⟨h1, h2, h3, h4, h5⟩ := h
  refine ⟨fun g' i' hi hm => ?_, fun g' i' hi hm => ?_, fun p k hp hk => ?_, h4, h5⟩
  · have hm := (dmC_eq (S := S) (by rw [e 0 rfl]) (by rw [e 7 rfl]) (by rw [e 9 rfl]) g' i').mp hm
    rw [setN_at]
    by_cases z : g' = g ∧ i' = i
    · rw [z.1, z.2] at hm; exact absurd hm hd
    · rw [if_neg z]; exact h1 g' i' hi hm
  · have hm := (dmV_eq (S := S) (by rw [e 7 rfl]) (by rw [e 9 rfl]) (by rw [e 39 rfl]) g' i').mp hm
    exact h2 g' i' hi hm
  · rw [e 7 rfl] at hp
    rw [e 27 rfl] at hk ⊢
    rw [e 28 rfl]
    exact h3 p k hp hk
theorem setN_sw {S : Sx} {g i i' v v' : Nat} (h : i ≠ i') : setN (setN S g i v) g i' v' = setN (setN S g i' v') g i v := by
  refine Prod.ext ?_ rfl
  funext x y
  show (if x = g ∧ y = i' then v' else (if x = g ∧ y = i then v else S.1 x y)) = (if x = g ∧ y = i then v else (if x = g ∧ y = i' then v' else S.1 x y))
  by_cases a : x = g ∧ y = i
  · rw [if_pos a, if_neg (fun z => h (a.2.symm.trans z.2)), if_pos a]
  · rw [if_neg a, if_neg a]
theorem RepC.ms {b : Nat} {σ τ : Mm} {S : Sx} {Tf : Nat → Nat} (h : RepC b σ S Tf) (hb : mch b) (hB : Bd S) (hf : fr45 σ τ) (hs : Sm (S.1 0 0) (dst (prS S) (S.1 0 0)) τ) (hh : Hmp (S.1 0 0) (S.1 0 0) 0 (lhF (prS S) (dst (prS S) (S.1 0 0)) (S.1 0 0)) τ) : RepC b τ (msS S) Tf := by
  obtain ⟨h1, h2, h3, h4, h5⟩ := h
  have bP := B_P hB 0
  have b0 := B_nodes hB 0
  have e : ∀ k, k ≠ 5 → k ≠ 6 → (msS S).1 k = S.1 k := fun k z1 z2 => msS_ne z1 z2
  have b5 : b = 57 ∨ b = 145 := hb
  refine ⟨fun g i hi hm => ?_, fun g i hi hm => ?_, fun p k hp hk => ?_, fun a ha => ?_, fun a ha => ?_⟩
  · have hm := (dmC_eq (S := S) (by rw [e 0 (by decide) (by decide)]) (by rw [e 7 (by decide) (by decide)]) (by rw [e 9 (by decide) (by decide)]) g i).mp hm
    by_cases g5 : g = 5
    · subst g5
      have hm' : i / 4 < S.1 0 0 ∧ i % 4 < S.1 0 0 := by simpa [dmC] using hm
      have q := hs (i / 4) (i % 4) hm'.1 hm'.2
      rw [show i / 4 * 4 + i % 4 = i from by omega] at q
      have hi16 : i < 16 := by omega
      show τ.1 4 i = nI ((msS S).1 5 i)
      rw [q, show (msS S).1 5 i = (ms5 S).1 5 i from by rw [msS, s6_ne (by decide)], ms5, s5_i hi16]
    · by_cases g6 : g = 6
      · subst g6
        have hm' : i / 4 < S.1 0 0 ∧ i % 4 < S.1 0 0 := by simpa [dmC] using hm
        have q := hh (i / 4) (i % 4) hm'.1 hm'.2 (Or.inl hm'.1)
        rw [show i / 4 * 4 + i % 4 = i from by omega, lhF_hp hB hm'.1 hm'.2] at q
        have hi16 : i < 16 := by omega
        show τ.1 5 i = nI ((msS S).1 6 i)
        rw [q]
        show _ = nI (if 6 = 6 ∧ i < 16 then hpF (ms5 S) (i / 4) (i % 4) else (ms5 S).1 6 i)
        rw [if_pos ⟨rfl, hi16⟩]
      · rw [e g g5 g6]
        have hv := inv_N hb hi
        rw [hf.1 _ (fun z => by
          rw [z] at hv
          have : invC b 4 (cl b g i).2 = (5, (cl b g i).2) := rfl
          rw [this] at hv
          exact g5 (Prod.mk.inj hv).1.symm) (fun z => by
          rw [z] at hv
          have : invC b 5 (cl b g i).2 = (6, (cl b g i).2) := rfl
          rw [this] at hv
          exact g6 (Prod.mk.inj hv).1.symm)]
        exact h1 g i hi hm
  · have hm := (dmV_eq (S := S) (by rw [e 7 (by decide) (by decide)]) (by rw [e 9 (by decide) (by decide)]) (by rw [e 39 (by decide) (by decide)]) g i).mp hm
    have hv := inv_V hb hi
    rw [hf.1 _ (fun z => by
      rw [z] at hv
      have : invC b 4 (clV b g i).2 = (5, (clV b g i).2) := rfl
      rw [this] at hv
      have := (Prod.mk.inj hv).1
      omega) (fun z => by
      rw [z] at hv
      have : invC b 5 (clV b g i).2 = (6, (clV b g i).2) := rfl
      rw [this] at hv
      have := (Prod.mk.inj hv).1
      omega)]
    exact h2 g i hi hm
  · rw [e 7 (by decide) (by decide)] at hp
    rw [e 27 (by decide) (by decide)] at hk ⊢
    rw [e 28 (by decide) (by decide), hf.1 _ (by omega) (by omega)]
    exact h3 p k hp hk
  · rw [hf.1 _ (by omega) (by omega)]; exact h4 a ha
  · rw [hf.1 _ (by omega) (by omega), hf.1 _ (by omega) (by omega)]; exact h5 a ha
theorem Prc_of {b : Nat} {σ : Mm} {S : Sx} {Tf : Nat → Nat} (h : RepC b σ S Tf) (hB : Bd S) (hS : Sp S) : Prc (S.1 0 0) (prS S) σ := by
  have b0 := B_nodes hB 0
  refine ⟨fun a c ha hc hne => ?_, fun a c => B_price hB _⟩
  rw [C_price h (ed_lt (by omega) (by omega)) (ed_dom (by omega) (by omega) hne)]
  show nI (S.1 3 (ed a c)) = nI (S.1 3 (4 * a + c))
  unfold ed
  split
  · rfl
  · rw [hS.1 c a (by omega) (by omega)]
def lnkS (S : Sx) (a c p wd : Nat) : Sx := setN (setN (setN (setN S 3 (4 * a + c) p) 3 (4 * c + a) p) 4 (4 * a + c) wd) 4 (4 * c + a) wd
theorem lnkS_ne {S : Sx} {a c p wd g : Nat} (h3 : g ≠ 3) (h4 : g ≠ 4) : (lnkS S a c p wd).1 g = S.1 g := by unfold lnkS; rw [setN_ne h4, setN_ne h4, setN_ne h3, setN_ne h3]
theorem lnkS_3 {S : Sx} {a c p wd i : Nat} : (lnkS S a c p wd).1 3 i = if i = 4 * c + a then p else if i = 4 * a + c then p else S.1 3 i := by
  unfold lnkS
  rw [setN_ne (by decide), setN_ne (by decide), setN_at, setN_at]
  by_cases h1 : i = 4 * c + a
  · rw [if_pos ⟨rfl, h1⟩, if_pos h1]
  · rw [if_neg (fun z => h1 z.2), if_neg h1]
    by_cases h2 : i = 4 * a + c
    · rw [if_pos ⟨rfl, h2⟩, if_pos h2]
    · rw [if_neg (fun z => h2 z.2), if_neg h2]
theorem lnkS_4 {S : Sx} {a c p wd i : Nat} : (lnkS S a c p wd).1 4 i = if i = 4 * c + a then wd else if i = 4 * a + c then wd else S.1 4 i := by
  unfold lnkS
  rw [setN_at, setN_at]
  by_cases h1 : i = 4 * c + a
  · rw [if_pos ⟨rfl, h1⟩, if_pos h1]
  · rw [if_neg (fun z => h1 z.2), if_neg h1]
    by_cases h2 : i = 4 * a + c
    · rw [if_pos ⟨rfl, h2⟩, if_pos h2]
    · rw [if_neg (fun z => h2 z.2), if_neg h2, setN_ne (by decide), setN_ne (by decide)]
theorem Sp_lk {S : Sx} (h : Sp S) {a c p wd : Nat} (ha : a < 4) (hc : c < 4) (hac : a ≠ c) : Sp (lnkS S a c p wd) := by
  obtain ⟨h1, h2, h3⟩ := h
  refine ⟨fun x y hx hy => ?_, fun x hx => ?_, fun x y hx hy => ?_⟩
  · rw [lnkS_3, lnkS_3, h1 x y hx hy]
    by_cases q1 : 4 * x + y = 4 * c + a
    · rw [if_pos q1, if_neg (by omega), if_pos (by omega)]
    · rw [if_neg q1]
      by_cases q2 : 4 * x + y = 4 * a + c
      · rw [if_pos q2, if_pos (by omega)]
      · rw [if_neg q2, if_neg (by omega), if_neg (by omega)]
  · rw [lnkS_3, if_neg (by omega), if_neg (by omega)]; exact h2 x hx
  · rw [lnkS_4, lnkS_4, h3 x y hx hy]
    by_cases q1 : 4 * x + y = 4 * c + a
    · rw [if_pos q1, if_neg (by omega), if_pos (by omega)]
    · rw [if_neg q1]
      by_cases q2 : 4 * x + y = 4 * a + c
      · rw [if_pos q2, if_pos (by omega)]
      · rw [if_neg q2, if_neg (by omega), if_neg (by omega)]
theorem Bd_lk {S : Sx} (hB : Bd S) {a c p wd : Nat} (hp : p ≤ 9) (hw : wd ≤ 4) : Bd (lnkS S a c p wd) := Bd_setN (Bd_setN (Bd_setN (Bd_setN hB hp) hp) hw) hw
theorem nd3 {S : Sx} {x y : Nat} (hx : x < 4) (h : y < x) : ¬ dmC S 3 (4 * y + x) → False := fun q => q (by show (4 * y + x) / 4 < (4 * y + x) % 4; omega)
theorem ndm {S : Sx} {g x y : Nat} (hg : g = 3 ∨ g = 4) (hy : y < 4) (h : y < x) : ¬ dmC S g (4 * x + y) := by
  rcases hg with rfl | rfl
  · show ¬ ((4 * x + y) / 4 < (4 * x + y) % 4); omega
  · show ¬ ((4 * x + y) / 4 < (4 * x + y) % 4); omega
theorem RepC.lk {b : Nat} {σ : Mm} {S : Sx} {Tf : Nat → Nat} (h : RepC b σ S Tf) (hb : mch b) (hB : Bd S) {a c p wd : Nat} (ha : a < 4) (hc : c < 4) (hac : a ≠ c) (hp : p ≤ 9) : RepC b (wI (wI σ 2 (ed a c) (nI p)) 3 (ed a c) (nI wd)) (lnkS S a c p wd) Tf := by
  have he := ed_lt ha hc
  have q1 := h.putN hb hB (g := 3) (i := ed a c) (v := p) he rfl
  have q1 : RepC b (wI σ 2 (ed a c) (nI p)) (setN S 3 (ed a c) p) Tf := q1
  have b1 : Bd (setN S 3 (ed a c) p) := Bd_setN hB hp
  rcases Nat.lt_or_ge a c with z | z
  · have ee : ed a c = 4 * a + c := if_pos z
    rw [ee] at q1 b1 he ⊢
    have q2 := q1.dom (g := 3) (i := 4 * c + a) (v := p) (ndm (Or.inl rfl) ha z) rfl
    have b2 := Bd_setN (g := 3) (i := 4 * c + a) (v := p) b1 hp
    have q3 : RepC b (wI (wI σ 2 (4 * a + c) (nI p)) 3 (4 * a + c) (nI wd)) _ Tf := q2.putN hb b2 (g := 4) (i := 4 * a + c) (v := wd) he rfl
    exact q3.dom (g := 4) (i := 4 * c + a) (v := wd) (ndm (Or.inr rfl) ha z) rfl
  · have ee : ed a c = 4 * c + a := if_neg (by omega)
    rw [ee] at q1 b1 he ⊢
    have q2 := q1.dom (g := 3) (i := 4 * a + c) (v := p) (ndm (Or.inl rfl) hc (by omega)) rfl
    have b2 := Bd_setN (g := 3) (i := 4 * a + c) (v := p) b1 hp
    have q3 : RepC b (wI (wI σ 2 (4 * c + a) (nI p)) 3 (4 * c + a) (nI wd)) _ Tf := q2.putN hb b2 (g := 4) (i := 4 * c + a) (v := wd) he rfl
    have q4 := q3.dom (g := 4) (i := 4 * a + c) (v := wd) (ndm (Or.inr rfl) hc (by omega)) rfl
    unfold lnkS
    rw [setN_sw (g := 4) (show 4 * a + c ≠ 4 * c + a by omega), setN_sw (g := 3) (show 4 * a + c ≠ 4 * c + a by omega)]
    exact q4
theorem r_setLink {b : Nat} {σ : Mm} {S : Sx} {Tf : Nat → Nat} (hb : mch b) (hR : RepC b σ S Tf) (hB : Bd S) (hS : Sp S) {a c p wd : Nat} (ha : a < S.1 0 0) (hc : c < S.1 0 0) (hac : a ≠ c) (hp : p ≤ 9) (hw : wd ≤ 4) : RV W0 mX1_setLink [.ref 1, .int (nI a), .int (nI c), .int (nI p), .int (nI wd)] σ (fun τ => RepC b τ (msS (lnkS S a c p wd)) Tf ∧ (∀ x, ¬ (2 ≤ x ∧ x ≤ 5) → τ.1 x = σ.1 x) ∧ τ.2 = σ.2) := by
  have b0 := B_nodes hB 0
  have he := ed_lt (h := a) (c := c) (by omega) (by omega)
  have hR1 := hR.lk hb hB (a := a) (c := c) (p := p) (wd := wd) (by omega) (by omega) hac hp
  have hB1 := Bd_lk (a := a) (c := c) hB hp hw
  have hS1 := Sp_lk (p := p) (wd := wd) hS (a := a) (c := c) (by omega) (by omega) hac
  have e0 : (lnkS S a c p wd).1 0 = S.1 0 := lnkS_ne (by decide) (by decide)
  have hm := r_measure bdW0 (B_nodes hB1 0) (C_nodes hR1) (Prc_of hR1 hB1 hS1)
  refine G.met (by decide) (Nat.le_of_ble_eq_true rfl) ?_
  show G _ _ _ 0 [some (.ref 1), some (.int (nI a)), some (.int (nI c)), some (.int (nI p)), some (.int (nI wd))] [] σ
  refine gs_aload_n dX1_setLink_0 rfl rfl ?_
  refine g_getR dX1_setLink_1 fX1_9 bdW0.1 (by decide) rBd_price ?_
  refine gs_aload_n dX1_setLink_4 rfl rfl ?_
  refine gs_iload_n dX1_setLink_5 rfl rfl ?_
  refine gs_iload_n dX1_setLink_6 rfl rfl ?_
  refine g_cVI2 dX1_setLink_7 vX1_60 (by decide) bdW0.1 (by decide) (Nat.le_of_ble_eq_true rfl) (s_edge (by omega) (by omega)) ?_
  rintro _ _ ⟨rfl, rfl⟩
  refine gs_iload_n dX1_setLink_10 rfl rfl ?_
  refine g_iast dX1_setLink_11 bdW0.2.1 he ?_
  refine gs_aload_n dX1_setLink_12 rfl rfl ?_
  refine g_getR dX1_setLink_13 fX1_15 bdW0.1 (by decide) rBd_width ?_
  refine gs_aload_n dX1_setLink_16 rfl rfl ?_
  refine gs_iload_n dX1_setLink_17 rfl rfl ?_
  refine gs_iload_n dX1_setLink_18 rfl rfl ?_
  refine g_cVI2 dX1_setLink_19 vX1_60 (by decide) bdW0.1 (by decide) (Nat.le_of_ble_eq_true rfl) (s_edge (by omega) (by omega)) ?_
  rintro _ _ ⟨rfl, rfl⟩
  refine g_iload dX1_setLink_22 rfl ?_
  refine g_iast dX1_setLink_24 bdW0.2.2.1 he ?_
  refine gs_aload_n dX1_setLink_25 rfl rfl ?_
  refine g_cVV0 dX1_setLink_26 vX1_40 (by decide) bdW0.1 (by decide) (Nat.le_of_ble_eq_true rfl) hm ?_
  rintro τ ⟨hf, hs, hh⟩
  refine g_return dX1_setLink_29 rfl ?_
  refine ⟨rfl, hR1.ms hb hB1 hf hs hh, fun x hx => ?_, hf.2⟩
  rw [hf.1 x (by omega) (by omega)]
  have e1 : ∀ (σ9 : Mm) (k j : Nat) (v : Int32), x ≠ k → (wI σ9 k j v).1 x = σ9.1 x := fun σ9 k j v z => if_neg z
  rw [e1 _ _ _ _ (by omega), e1 _ _ _ _ (by omega)]
abbrev okLk (S : Sx) (x y z t : Int32) : Bool := (inN x (S.1 0 0) && (inN y (S.1 0 0) && decide (x ≠ y))) && (rg z 0 9 && rg t 1 4)
def aLink (S : Sx) (x y z t : Int32) : Int32 := if okLk S x y z t = true then (if nI 1 < S.2.1 1 0 then -3 else nI (S.1 3 (4 * nN x + nN y))) else -1
def nLink (S : Sx) (x y z t : Int32) : Sx := if okLk S x y z t = true then (if nI 1 < S.2.1 1 0 then S else msS (lnkS S (nN x) (nN y) (nN z) (nN t))) else S
theorem CI.bd {σ τ : Mm} {S S' : Sx} {H : Hx} {Tf' : Nat → Nat} (h : CI σ S H) (h1 : RepC 57 τ S' Tf') (k3 : ∀ x, ¬ (2 ≤ x ∧ x ≤ 5) → τ.1 x = σ.1 x) (k2 : τ.2 = σ.2) (hT : Tk S' Tf') : CI τ S' H ∧ frK σ τ := by
  obtain ⟨-, h3, h4⟩ := h
  exact ⟨⟨⟨Tf', h1, hT⟩, h3.fr (fun a h1 h2 => k3 a (by omega)), Tr.fr h4 (k3 159 (by omega)) (k3 149 (by omega))⟩, fun a ha => k3 a (by omega), k2⟩
theorem Tk_lk {S : Sx} {Tf : Nat → Nat} (h : Tk S Tf) {a c p wd : Nat} : Tk (msS (lnkS S a c p wd)) Tf := by
  refine Tk_of h ?_ ?_ ?_ ?_ ?_ <;> rw [msS_ne (by decide) (by decide), lnkS_ne (by decide) (by decide)]
theorem a_link {σ : Mm} {S : Sx} {H : Hx} (hJ : CI σ S H) (hPI : PI S) (x y z t : Int32) : RI W0 mX11_link [.ref 0, .int x, .int y, .int z, .int t] σ (fun r τ => r = aLink S x y z t ∧ CI τ (nLink S x y z t) H ∧ frK σ τ) := by
  have hJ0 := hJ
  obtain ⟨⟨Tf, hR, hTk⟩, hSh, hTr1, hTr2⟩ := hJ
  have hb : mch 57 := Or.inl rfl
  have hB : Bd S := hPI.1.1.1.1
  have b0 := B_nodes hB 0
  have bP := B_P hB 0
  have bT := B_T hB 0
  refine G.met (by decide) (Nat.le_of_ble_eq_true rfl) ?_
  show G _ _ _ 0 [some (.ref 0), some (.int x), some (.int y), some (.int z), some (.int t), none] [] σ
  refine gs_aload_n dX11_link_0 rfl rfl ?_
  refine g_getR dX11_link_1 fX11_18 kFC (by decide) rFC_board ?_
  refine gs_iload_n dX11_link_4 rfl rfl ?_
  refine gs_iload_n dX11_link_5 rfl rfl ?_
  refine g_cVI2 dX11_link_6 vX11_46 (by decide) bdW0.1 (by decide) (Nat.le_of_ble_eq_true rfl) (c_joins hb hR hB _ _) ?_
  rintro _ σ ⟨rfl, e9⟩
  subst e9
  refine gb_if_eq (tgt := 32) dX11_link_9 (by decide) (fun c9 => ?_) (fun c9 => ?_)
  · refine g_iconst (v := -1) dX11_link_32 (by decide) ?_
    refine g_ireturn dX11_link_33 rfl ?_
    exact ⟨_, rfl, by rw [aLink, if_neg (nb1 c9)], by rw [nLink, if_neg (nb1 c9)]; exact ⟨hJ0, frK.rf _⟩⟩
  · refine gs_iload_n dX11_link_12 rfl rfl ?_
    refine g_iconst (v := nI 0) dX11_link_13 (by decide) ?_
    refine g_bipush (v := nI 9) dX11_link_14 (by decide) ?_
    refine g_cSI3 dX11_link_16 vX11_50 (by decide) (Nat.le_of_ble_eq_true rfl) (c_within (by decide) (by decide)) ?_
    rintro _ σ ⟨rfl, e9⟩
    subst e9
    refine gb_if_eq (tgt := 32) dX11_link_19 (by decide) (fun c19 => ?_) (fun c19 => ?_)
    · refine g_iconst (v := -1) dX11_link_32 (by decide) ?_
      refine g_ireturn dX11_link_33 rfl ?_
      exact ⟨_, rfl, by rw [aLink, if_neg (nb2 (nb1 c19))], by rw [nLink, if_neg (nb2 (nb1 c19))]; exact ⟨hJ0, frK.rf _⟩⟩
    · refine g_iload dX11_link_22 rfl ?_
      refine g_iconst (v := nI 1) dX11_link_24 (by decide) ?_
      refine g_iconst (v := nI 4) dX11_link_25 (by decide) ?_
      refine g_cSI3 dX11_link_26 vX11_50 (by decide) (Nat.le_of_ble_eq_true rfl) (c_within (by decide) (by decide)) ?_
      rintro _ σ ⟨rfl, e9⟩
      subst e9
      refine gb_if_ne (tgt := 34) dX11_link_29 (by decide) (fun c29 => ?_) (fun c29 => ?_)
      · have ok : okLk S x y z t = true := yb c9 (yb c19 c29)
        obtain ⟨a, c, ha, hc, hac, rfl, rfl⟩ := joins_of b0 c9
        have he := ed_lt (h := a) (c := c) (by omega) (by omega)
        have hed := ed_dom (h := a) (c := c) (by omega) (by omega) hac
        obtain ⟨p, hpl, hp, rfl⟩ := rg_of c19
        obtain ⟨wd, hwdl, hwd, rfl⟩ := rg_of c29
        have eed : S.1 3 (ed a c) = S.1 3 (4 * a + c) := by
          unfold ed
          split
          · rfl
          · rw [hPI.2.1.1 c a (by omega) (by omega)]
        refine gs_aload_n dX11_link_34 rfl rfl ?_
        refine g_getR dX11_link_35 fX11_32 kFC (by decide) rFC_machine ?_
        refine g_getI dX11_link_38 fX11_54 (kMa hb) (by decide) (CV_tick hR) ?_
        refine g_iconst (v := nI 1) dX11_link_41 (by decide) ?_
        refine g_icmp_le (tgt := 48) dX11_link_42 (by decide) (fun c42 => ?_) (fun c42 => ?_)
        · refine gs_aload_n dX11_link_48 rfl rfl ?_
          refine g_getR dX11_link_49 fX11_18 kFC (by decide) rFC_board ?_
          refine g_getR dX11_link_52 fX11_58 bdW0.1 (by decide) rBd_price ?_
          refine gs_aload_n dX11_link_55 rfl rfl ?_
          refine g_getR dX11_link_56 fX11_18 kFC (by decide) rFC_board ?_
          refine gs_iload_n dX11_link_59 rfl rfl ?_
          refine gs_iload_n dX11_link_60 rfl rfl ?_
          refine g_cVI2 dX11_link_61 vX11_62 (by decide) bdW0.1 (by decide) (Nat.le_of_ble_eq_true rfl) (s_edge (by omega) (by omega)) ?_
          rintro _ σ ⟨rfl, e9⟩
          subst e9
          refine g_iald dX11_link_64 bdW0.2.1 he (C_price hR he hed) ?_
          refine gs_istore (ls' := [_, _, _, _, _, _]) dX11_link_65 rfl rfl ?_
          refine gs_aload_n dX11_link_67 rfl rfl ?_
          refine g_getR dX11_link_68 fX11_18 kFC (by decide) rFC_board ?_
          refine gs_iload_n dX11_link_71 rfl rfl ?_
          refine gs_iload_n dX11_link_72 rfl rfl ?_
          refine gs_iload_n dX11_link_73 rfl rfl ?_
          refine g_iload dX11_link_74 rfl ?_
          refine g_cVV4 dX11_link_76 vX11_65 (by decide) bdW0.1 (by decide) (Nat.le_of_ble_eq_true rfl) (r_setLink hb hR hB hPI.2.1 (p := p) (wd := wd) ha hc hac hp hwd) ?_
          rintro τ ⟨q1, q2, q3⟩
          refine g_iload dX11_link_79 rfl ?_
          refine g_ireturn dX11_link_81 rfl ?_
          exact ⟨_, rfl, by rw [aLink, if_pos ok, if_neg (Int32.not_lt.mpr c42), nN_n (by omega), nN_n (by omega), eed], by rw [nLink, if_pos ok, if_neg (Int32.not_lt.mpr c42), nN_n (by omega), nN_n (by omega), nN_n (by omega), nN_n (by omega)]; exact hJ0.bd q1 q2 q3 (Tk_lk hTk)⟩
        · refine g_bipush (v := -3) dX11_link_45 (by decide) ?_
          refine g_ireturn dX11_link_47 rfl ?_
          exact ⟨_, rfl, by rw [aLink, if_pos ok, if_pos (Int32.not_le.mp c42)], by rw [nLink, if_pos ok, if_pos (Int32.not_le.mp c42)]; exact ⟨hJ0, frK.rf _⟩⟩
      · refine g_iconst (v := -1) dX11_link_32 (by decide) ?_
        refine g_ireturn dX11_link_33 rfl ?_
        exact ⟨_, rfl, by rw [aLink, if_neg (nb2 (nb2 (nbf c29)))], by rw [nLink, if_neg (nb2 (nb2 (nbf c29)))]; exact ⟨hJ0, frK.rf _⟩⟩
theorem MJ.ms {σ0 σ τ : Mm} {S : Sx} {H : Hx} (h : MJ σ0 S H σ) (hM : RepM 0 τ (msS S)) (hf : fr261 σ τ) : MJ σ0 (msS S) H τ := by
  obtain ⟨⟨h1, h2, h3, h4⟩, h5⟩ := h
  refine ⟨⟨hM, ⟨h2.1, by rw [hf.1 258 (by decide)]; exact h2.2⟩, ?_, fun g i h0 hi => ?_⟩, fun a ha => (hf.1 a (by omega)).trans (h5 a ha)⟩
  rotate_left
  · rw [msS_ne (by decide) (by decide), msS_ne (by decide) (by decide), hf.1 _ (by have := own_ge h0 hi; omega)]; exact h4 g i h0 hi
  · unfold ShM
    rw [hf.1 306 (by decide), hf.1 307 (by decide), hf.1 308 (by decide), hf.1 309 (by decide), hf.1 310 (by decide)]
    exact h3
theorem n_link {σ : Mm} {S : Sx} {H : Hx} (hJ : MI_ σ S H) (hPI : PI S) (x y z t : Int32) : RI W0 mX12_link [.ref 258, .int x, .int y, .int z, .int t] σ (fun r τ => r = aLink S x y z t ∧ MJ σ (nLink S x y z t) H τ) := by
  have hB : Bd S := hPI.1.1.1.1
  have b0 := B_nodes hB 0
  have bP := B_P hB 0
  have bT := B_T hB 0
  refine G.met (by decide) (Nat.le_of_ble_eq_true rfl) ?_
  show G _ _ _ 0 [some (.ref 258), some (.int x), some (.int y), some (.int z), some (.int t), none] [] σ
  refine gs_aload_n dX12_link_0 rfl rfl ?_
  refine g_iconst (v := nI 0) dX12_link_1 (by decide) ?_
  refine gp_putI dX12_link_2 pX12_194 kwM (by decide) (Or.inl rfl) ((MJ.rf hJ).off off0 (by decide)) (fun σ hQ => ?_)
  have hM := hQ.1.1
  have hC0 := hQ.1.2.1
  refine gs_aload_n dX12_link_5 rfl rfl ?_
  refine gs_iload_n dX12_link_6 rfl rfl ?_
  refine gs_iload_n dX12_link_7 rfl rfl ?_
  refine g_cVI2 dX12_link_8 vX12_208 (by decide) kwM (by decide) (Nat.le_of_ble_eq_true rfl) (m_areLinked hM hB _ _) ?_
  rintro _ σ ⟨rfl, e9⟩
  subst e9
  refine gb_if_eq (tgt := 39) dX12_link_11 (by decide) (fun c11 => ?_) (fun c11 => ?_)
  · refine g_iconst (v := -1) dX12_link_39 (by decide) ?_
    refine g_ireturn dX12_link_40 rfl ?_
    exact ⟨_, rfl, by rw [aLink, if_neg (nb1 c11)], by rw [nLink, if_neg (nb1 c11)]; exact hQ⟩
  · refine gs_iload_n dX12_link_14 rfl rfl ?_
    refine g_i2l dX12_link_15 rfl ?_
    refine g_lconst (v := 0) dX12_link_16 (by decide) ?_
    refine g_ldc2 dX12_link_17 qX12_212 ?_
    refine g_cSI3 dX12_link_20 vX12_214 (by decide) (Nat.le_of_ble_eq_true rfl) (m_isIn (a := 0) (b := 9) (by decide) (by decide)) ?_
    rintro _ σ ⟨rfl, e9⟩
    subst e9
    refine gb_if_eq (tgt := 39) dX12_link_23 (by decide) (fun c23 => ?_) (fun c23 => ?_)
    · refine g_iconst (v := -1) dX12_link_39 (by decide) ?_
      refine g_ireturn dX12_link_40 rfl ?_
      exact ⟨_, rfl, by rw [aLink, if_neg (nb2 (nb1 c23))], by rw [nLink, if_neg (nb2 (nb1 c23))]; exact hQ⟩
    · refine g_iload dX12_link_26 rfl ?_
      refine g_i2l dX12_link_28 rfl ?_
      refine g_lconst (v := 1) dX12_link_29 (by decide) ?_
      refine g_ldc2 dX12_link_30 qX12_218 ?_
      refine g_cSI3 dX12_link_33 vX12_214 (by decide) (Nat.le_of_ble_eq_true rfl) (m_isIn (a := 1) (b := 4) (by decide) (by decide)) ?_
      rintro _ σ ⟨rfl, e9⟩
      subst e9
      refine gb_if_ne (tgt := 41) dX12_link_36 (by decide) (fun c36 => ?_) (fun c36 => ?_)
      · have ok : okLk S x y z t = true := yb c11 (yb c23 c36)
        obtain ⟨a, c, ha, hc, hac, rfl, rfl⟩ := joins_of b0 c11
        have he := ed_lt (h := a) (c := c) (by omega) (by omega)
        have hed := ed_dom (h := a) (c := c) (by omega) (by omega) hac
        obtain ⟨p, hpl, hp, rfl⟩ := rg_of c23
        obtain ⟨wd, hwdl, hwd, rfl⟩ := rg_of c36
        have hB1 := Bd_lk (a := a) (c := c) hB hp hwd
        refine gs_aload_n dX12_link_41 rfl rfl ?_
        refine g_getR dX12_link_42 fX12_54 kwM (by decide) rM_tick ?_
        refine g_iconst (v := nI 0) dX12_link_45 (by decide) ?_
        refine g_iald dX12_link_46 kw_tick (by omega) (M0_tick hM) ?_
        refine g_iconst (v := nI 1) dX12_link_47 (by decide) ?_
        refine g_icmp_le (tgt := 54) dX12_link_48 (by decide) (fun c48 => ?_) (fun c48 => ?_)
        · refine gs_aload_n dX12_link_54 rfl rfl ?_
          refine g_getR dX12_link_55 fX12_7 kwM (by decide) rM_price ?_
          refine g_iconst (v := nI 4) dX12_link_58 (by decide) ?_
          refine gs_iload_n dX12_link_59 rfl rfl ?_
          refine g_imul dX12_link_60 (by first | exact pk_mul _ _ | rfl) ?_
          refine gs_iload_n dX12_link_61 rfl rfl ?_
          refine g_iadd dX12_link_62 (by first | exact nI_add _ _ | rfl) ?_
          refine g_iald dX12_link_63 kw_price (by omega) (M_price hM (by omega)) ?_
          refine gs_istore (ls' := [_, _, _, _, _, _]) dX12_link_64 rfl rfl ?_
          refine gs_aload_n dX12_link_66 rfl rfl ?_
          refine g_getR dX12_link_67 fX12_7 kwM (by decide) rM_price ?_
          refine g_iconst (v := nI 4) dX12_link_70 (by decide) ?_
          refine gs_iload_n dX12_link_71 rfl rfl ?_
          refine g_imul dX12_link_72 (by first | exact pk_mul _ _ | rfl) ?_
          refine gs_iload_n dX12_link_73 rfl rfl ?_
          refine g_iadd dX12_link_74 (by first | exact nI_add _ _ | rfl) ?_
          refine gs_iload_n dX12_link_75 rfl rfl ?_
          refine gp_iast dX12_link_76 kw_price (by omega) (Z_price (v := p) hQ (by omega)) (fun σ hQ => ?_)
          have hM := hQ.1.1
          have hC0 := hQ.1.2.1
          refine gs_aload_n dX12_link_77 rfl rfl ?_
          refine g_getR dX12_link_78 fX12_7 kwM (by decide) rM_price ?_
          refine g_iconst (v := nI 4) dX12_link_81 (by decide) ?_
          refine gs_iload_n dX12_link_82 rfl rfl ?_
          refine g_imul dX12_link_83 (by first | exact pk_mul _ _ | rfl) ?_
          refine gs_iload_n dX12_link_84 rfl rfl ?_
          refine g_iadd dX12_link_85 (by first | exact nI_add _ _ | rfl) ?_
          refine gs_iload_n dX12_link_86 rfl rfl ?_
          refine gp_iast dX12_link_87 kw_price (by omega) (Z_price (v := p) hQ (by omega)) (fun σ hQ => ?_)
          have hM := hQ.1.1
          have hC0 := hQ.1.2.1
          refine gs_aload_n dX12_link_88 rfl rfl ?_
          refine g_getR dX12_link_89 fX12_13 kwM (by decide) rM_width ?_
          refine g_iconst (v := nI 4) dX12_link_92 (by decide) ?_
          refine gs_iload_n dX12_link_93 rfl rfl ?_
          refine g_imul dX12_link_94 (by first | exact pk_mul _ _ | rfl) ?_
          refine gs_iload_n dX12_link_95 rfl rfl ?_
          refine g_iadd dX12_link_96 (by first | exact nI_add _ _ | rfl) ?_
          refine g_iload dX12_link_97 rfl ?_
          refine gp_iast dX12_link_99 kw_width (by omega) (Z_width (v := wd) hQ (by omega)) (fun σ hQ => ?_)
          have hM := hQ.1.1
          have hC0 := hQ.1.2.1
          refine gs_aload_n dX12_link_100 rfl rfl ?_
          refine g_getR dX12_link_101 fX12_13 kwM (by decide) rM_width ?_
          refine g_iconst (v := nI 4) dX12_link_104 (by decide) ?_
          refine gs_iload_n dX12_link_105 rfl rfl ?_
          refine g_imul dX12_link_106 (by first | exact pk_mul _ _ | rfl) ?_
          refine gs_iload_n dX12_link_107 rfl rfl ?_
          refine g_iadd dX12_link_108 (by first | exact nI_add _ _ | rfl) ?_
          refine g_iload dX12_link_109 rfl ?_
          refine gp_iast dX12_link_111 kw_width (by omega) (show MJ _ (lnkS S a c p wd) H _ from Z_width (v := wd) hQ (by omega)) (fun σ hQ => ?_)
          have hM := hQ.1.1
          have hC0 := hQ.1.2.1
          refine gs_aload_n dX12_link_112 rfl rfl ?_
          refine g_cVV0 dX12_link_113 vX12_191 (by decide) kwM (by decide) (Nat.le_of_ble_eq_true rfl) (s_measure hM hB1) ?_
          rintro σ ⟨q1, q2⟩
          have hQ := hQ.ms q1 q2
          refine g_iload dX12_link_116 rfl ?_
          refine g_ireturn dX12_link_118 rfl ?_
          exact ⟨_, rfl, by rw [aLink, if_pos ok, if_neg (Int32.not_lt.mpr c48), nN_n (by omega), nN_n (by omega)], by rw [nLink, if_pos ok, if_neg (Int32.not_lt.mpr c48), nN_n (by omega), nN_n (by omega), nN_n (by omega), nN_n (by omega)]; exact hQ⟩
        · refine g_bipush (v := -3) dX12_link_51 (by decide) ?_
          refine g_ireturn dX12_link_53 rfl ?_
          exact ⟨_, rfl, by rw [aLink, if_pos ok, if_pos (Int32.not_le.mp c48)], by rw [nLink, if_pos ok, if_pos (Int32.not_le.mp c48)]; exact hQ⟩
      · refine g_iconst (v := -1) dX12_link_39 (by decide) ?_
        refine g_ireturn dX12_link_40 rfl ?_
        exact ⟨_, rfl, by rw [aLink, if_neg (nb2 (nb2 (nbf c36)))], by rw [nLink, if_neg (nb2 (nb2 (nbf c36)))]; exact hQ⟩
