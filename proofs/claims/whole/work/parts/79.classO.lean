/-! What serving the nodes keeps, pure; the tick of the class. -/
theorem svS_ne {a g : Nat} (h : tg g = false) (h38 : g ≠ 38) : ∀ k S, (svS a k S).1 g = S.1 g := by
  intro k
  induction k with
  | zero => intro S; rfl
  | succ k ih =>
    intro S
    rw [svS]
    split
    · rfl
    · split
      · rw [ih, tryS_ne h, setN_ne h38]
      · rfl
theorem svS_q {a : Nat} : ∀ k S, (svS a k S).2.2 = S.2.2 := by
  intro k
  induction k with
  | zero => intro S; rfl
  | succ k ih =>
    intro S
    rw [svS]
    split
    · rfl
    · split
      · rw [ih, tryS_q]; rfl
      · rfl
theorem svS_38 {a u : Nat} : ∀ k S, S.1 29 u ≠ a → (svS a k S).1 38 u = S.1 38 u := by
  intro k
  induction k with
  | zero => intro S _; rfl
  | succ k ih =>
    intro S hu
    rw [svS]
    split
    · rfl
    · next t ht =>
      split
      · have hc := canS_spec (fsS_can _ _ ht)
        rw [ih _ (by rw [tryS_ne rfl, setN_ne (by decide)]; exact hu), tryS_ne rfl, setN_at, if_neg (fun z => hu (by rw [z.2]; exact hc.1))]
      · rfl
theorem svS_31 {a u : Nat} : ∀ k S, S.1 29 u ≠ a → (svS a k S).1 31 u = S.1 31 u := by
  intro k
  induction k with
  | zero => intro S _; rfl
  | succ k ih =>
    intro S hu
    rw [svS]
    split
    · rfl
    · next t ht =>
      split
      · have hc := canS_spec (fsS_can _ _ ht)
        rw [ih _ (by rw [tryS_ne rfl, setN_ne (by decide)]; exact hu), tryS_off (Or.inr (Or.inl rfl)) (fun z => hu (by rw [z]; exact hc.1)), setN_ne (by decide)]
      · rfl
theorem svS_23 {a : Nat} : ∀ k S, (svS a k S).1 23 0 ≤ S.1 23 0 + k := by
  intro k
  induction k with
  | zero => intro S; exact Nat.le_refl _
  | succ k ih =>
    intro S
    rw [svS]
    split
    · omega
    · next t ht =>
      split
      · refine Nat.le_trans (ih _) ?_
        have := tryS_23 (S := setN S 38 t 1) (t := t)
        rw [setN_ne (by decide)] at this
        omega
      · omega
theorem svS_Tc {b a : Nat} (hb : mch b) : ∀ k S j, Tc b S (k + j) → Tc b (svS a k S) j := by
  intro k
  induction k with
  | zero => intro S j h; exact h.mono (by omega)
  | succ k ih =>
    intro S j h
    rw [svS]
    split
    · exact h.mono (by omega)
    · next t ht =>
      split
      · have hc := canS_spec (fsS_can _ _ ht)
        exact ih _ j (Tc.step hb (h.mono (by omega)) (rdS_spec hc.2.1).2.2)
      · exact h.mono (by omega)
theorem uwS_cong {S S' : Sx} {c : Nat} (h29 : S'.1 29 = S.1 29) (h31 : ∀ u, S.1 29 u = c → S'.1 31 u = S.1 31 u) : ∀ n, uwS S' c n = uwS S c n := by
  intro n
  induction n with
  | zero => rfl
  | succ n ih =>
    rw [uwS, uwS, ih, h29]
    by_cases e : S.1 29 n = c
    · rw [h31 n e]
    · rw [if_neg (fun z => e z.1), if_neg (fun z => e z.1)]
theorem svS_uw {a : Nat} : ∀ k S, uwS S a (S.1 9 0) ≤ S.1 1 0 → uwS (svS a k S) a (S.1 9 0) ≤ S.1 1 0 := by
  intro k
  induction k with
  | zero => intro S h; exact h
  | succ k ih =>
    intro S h
    rw [svS]
    split
    · exact h
    · next t ht =>
      split
      · next hlt =>
        have hc := canS_spec (fsS_can _ _ ht)
        have e29 : (tryS (setN S 38 t 1) t).1 29 = S.1 29 := by rw [tryS_ne rfl, setN_ne (by decide)]
        have e9 : (tryS (setN S 38 t 1) t).1 9 = S.1 9 := by rw [tryS_ne rfl, setN_ne (by decide)]
        have e1 : (tryS (setN S 38 t 1) t).1 1 = S.1 1 := by rw [tryS_ne rfl, setN_ne (by decide)]
        have q := uwS_one (S := S) (S' := tryS (setN S 38 t 1) t) (a := a) (t := t) e29 (fun u hu => by rw [tryS_off (Or.inr (Or.inl rfl)) hu, setN_ne (by decide)]) hc.1 (rdS_spec hc.2.1).2.1 (S.1 9 0)
        have z := ih (tryS (setN S 38 t 1) t) (by rw [e9, e1, q]; split <;> omega)
        rw [e9, e1] at z
        exact z
      · exact h
def Uw (S : Sx) : Prop := ∀ a, uwS S a (S.1 9 0) ≤ S.1 1 0
theorem Uw_sv {a k : Nat} {S : Sx} (h : Uw S) : Uw (svS a k S) := by
  intro c
  rw [svS_ne rfl (by decide), svS_ne rfl (by decide)]
  by_cases e : c = a
  · rw [e]; exact svS_uw k S (h a)
  · rw [uwS_cong (S := S) (svS_ne rfl (by decide) k S) (fun u hu => svS_31 k S (fun z => e (by rw [← hu]; exact z)))]
    exact h c
-- links beyond the sixteen
theorem ulS_hi {c i : Nat} (hi : 16 ≤ i) : ∀ k S h, S.1 0 0 ≤ 4 → c < S.1 0 0 → h < S.1 0 0 → (ulS c k S h).1 33 i = S.1 33 i := by
  intro k
  induction k with
  | zero => intro S h _ _ _; rfl
  | succ k ih =>
    intro S h h4 hc hh
    simp only [ulS]
    split
    · rfl
    · have hb := bh_lt (S := S) (a := h) hc
      have he := ed_lt (h := h) (c := bh S h c) (by omega) (by omega)
      rw [ih _ _ (by rw [setV_1, setN_ne (by decide)]; exact h4) (by rw [setV_1, setN_ne (by decide)]; exact hc) (by rw [setV_1, setN_ne (by decide)]; exact hb), setV_1, setN_at, if_neg (by omega)]
theorem goS_hi {S : Sx} {t a x p c place i : Nat} (hi : 16 ≤ i) (h4 : S.1 0 0 ≤ 4) (hp : place < S.1 0 0) (ha : a < S.1 0 0) : (goS S t a x p c place).1 33 i = S.1 33 i := by
  unfold goS enS
  rw [ntS_ne (by decide), blS_ne (by decide) (by decide), cqS_ne (by decide) (by decide), acS_1, fdS_ne (by decide) (by decide) (by decide) (by decide)]
  exact ulS_hi hi 3 S a h4 hp ha
theorem rdyS_hi {S : Sx} {t a x p c i : Nat} (hi : 16 ≤ i) (h2 : 2 ≤ S.1 0 0) (h4 : S.1 0 0 ≤ 4) (ha : a < S.1 0 0) (hl : S.1 24 p ≤ S.1 0 0) : (rdyS S t a x p c).1 33 i = S.1 33 i := by
  unfold rdyS
  split
  · unfold flS; rw [setV_1, setN_ne (by decide)]
  · split
    · rfl
    · exact goS_hi hi h4 (whS_lt h2 ha hl) ha
theorem tryS_hi {S : Sx} {t i : Nat} (hi : 16 ≤ i) (hI : Iv S) : (tryS S t).1 33 i = S.1 33 i := by
  obtain ⟨hB, h2, hat, hl, -⟩ := hI
  have h4 := B_nodes hB 0
  unfold tryS tryA
  split
  · unfold flS; rw [setV_1, setN_ne (by decide)]
  · split
    · split
      · unfold flS; rw [setV_1, setN_ne (by decide)]
      · next nd hnd =>
        have h0 : (plSt S (S.1 11 (60 * t + S.1 30 t)) nd).1 0 = S.1 0 := plSt_ne (by decide) (by decide)
        have hlt := plO_lt h2 (hat t) hnd
        rw [rdyS_hi hi (by rw [h0]; exact h2) (by rw [h0]; exact h4) (by rw [h0]; exact hat t) (by rw [h0, plSt_24, if_pos rfl]; omega), plSt_ne (by decide) (by decide)]
    · exact rdyS_hi hi h2 h4 (hat t) (hl _)
theorem svS_hi {b a i : Nat} (hb : mch b) (hi : 16 ≤ i) : ∀ k S j, Tc b S (k + j) → (svS a k S).1 33 i = S.1 33 i := by
  intro k
  induction k with
  | zero => intro S j _; rfl
  | succ k ih =>
    intro S j h
    rw [svS]
    split
    · rfl
    · next t ht =>
      split
      · have hc := canS_spec (fsS_can _ _ ht)
        rw [ih _ j (Tc.step hb (h.mono (by omega)) (rdS_spec hc.2.1).2.2), tryS_hi hi (Ic_38 h.1 (Nat.le_refl 1)).1, setN_ne (by decide)]
      · rfl
theorem nd_inv {b : Nat} {X : Sx} (hb : mch b) (hT : Tc b X 100) (hQ : Qi X) (hU : Uw X) (hz : ∀ u, u < X.1 9 0 → X.1 38 u = 0) : ∀ a, a ≤ 4 → Tc b (ndL X a) (100 - 10 * a) ∧ Qi (ndL X a) ∧ Uw (ndL X a) ∧ (∀ u, u < X.1 9 0 → a ≤ X.1 29 u → (ndL X a).1 38 u = 0) ∧ (ndL X a).1 23 0 ≤ X.1 23 0 + 10 * a ∧ (∀ g, tg g = false → g ≠ 38 → (ndL X a).1 g = X.1 g) ∧ (∀ i, 16 ≤ i → (ndL X a).1 33 i = X.1 33 i) ∧ (ndL X a).2.2 = X.2.2 := by
  intro a
  induction a with
  | zero => intro _; exact ⟨hT, hQ, hU, fun u hu _ => hz u hu, Nat.le_refl _, fun _ _ _ => rfl, fun _ _ => rfl, rfl⟩
  | succ a ih =>
    intro ha
    obtain ⟨i1, i2, i3, i4, i5, i6, i7, i8⟩ := ih (by omega)
    rw [ndL]
    have i1' : Tc b (ndL X a) (10 + (100 - 10 * (a + 1))) := i1.mono (by omega)
    have hg : ∀ g, tg g = false → g ≠ 38 → (svS a 10 (ndL X a)).1 g = X.1 g := fun g h1 h2 => by rw [svS_ne h1 h2, i6 g h1 h2]
    refine ⟨svS_Tc hb 10 _ _ i1', Qi_of i2 (svS_ne rfl (by decide) _ _) (svS_ne rfl (by decide) _ _) (svS_ne rfl (by decide) _ _) (svS_ne rfl (by decide) _ _) (svS_q _ _), Uw_sv i3, fun u hu hau => ?_, ?_, hg, fun i hi => ?_, ?_⟩
    · rw [svS_38 10 _ (by rw [i6 29 rfl (by decide)]; omega)]
      exact i4 u hu (by omega)
    · have := svS_23 (a := a) 10 (ndL X a); omega
    · rw [svS_hi hb hi 10 _ _ i1', i7 i hi]
    · rw [svS_q, i8]
theorem Qs_of {S : Sx} {a : Nat} (hQ : Qi S) (ha : a < 4) (hz : ∀ u, u < S.1 9 0 → S.1 29 u = a → S.1 38 u = 0) : Qs S a (S.2.2 a) := by
  obtain ⟨m1, m2⟩ := hQ.1 a ha
  refine ⟨fun u hu hc => (m1 u).mpr ⟨hu, (canS_spec hc).1⟩, fun u hu => ?_, m2⟩
  obtain ⟨z1, z2⟩ := (m1 u).mp hu
  exact ⟨z1, z2, hz u z1 z2⟩
def Tw (b : Nat) (S : Sx) : Prop := Ic S ∧ cCap b S ∧ Lz S ∧ Qi S ∧ Uw S
def tkX (S : Sx) : Sx := trL (lnL S 16) (S.1 9 0)
theorem trL_38 {S : Sx} (u : Nat) (k : Nat) : (trL S k).1 38 u = if u < k then 0 else S.1 38 u := by
  induction k with
  | zero => rw [if_neg (by omega)]; rfl
  | succ k ih =>
    rw [trL, setN_at]
    by_cases e : u = k
    · rw [if_pos ⟨rfl, e⟩, if_pos (by omega)]
    · rw [if_neg (fun z => e z.2), ih]
      by_cases h : u < k
      · rw [if_pos h, if_pos (by omega)]
      · rw [if_neg h, if_neg (by omega)]
theorem tkX_ne {S : Sx} {g : Nat} (h1 : g ≠ 33) (h2 : g ≠ 38) : (tkX S).1 g = S.1 g := by rw [tkX, trL_ne h2, lnL_ne h1]
theorem tkX_2 {S : Sx} : (tkX S).2 = S.2 := by rw [tkX, trL_2, lnL_2]
theorem Ic_of {S S' : Sx} (h : Ic S) (hB : Bd S') (hg : ∀ g, g = 0 ∨ g = 3 ∨ g = 5 ∨ g = 6 ∨ g = 8 ∨ g = 10 ∨ g = 24 ∨ g = 25 ∨ g = 27 ∨ g = 28 ∨ g = 29 ∨ g = 30 → S'.1 g = S.1 g) : Ic S' := by
  obtain ⟨h1, h2, h3, h4, h5⟩ := h
  have hj := Jv_of (S' := S') ⟨h3, h4⟩ (hg 0 (by omega)) (hg 8 (by omega)) (hg 24 (by omega)) (hg 25 (by omega)) (hg 27 (by omega)) (hg 28 (by omega))
  refine ⟨Iv_of h1 hB (hg 0 (by omega)) (hg 3 (by omega)) (hg 5 (by omega)) (hg 29 (by omega)) (hg 24 (by omega)), Hp_of h2 (hg 0 (by omega)) (hg 3 (by omega)) (hg 5 (by omega)) (hg 6 (by omega)), hj.1, hj.2, fun t => ?_⟩
  rw [hg 30 (by omega), hg 10 (by omega)]; exact h5 t
theorem cCap_of {b : Nat} {S S' : Sx} (h : cCap b S) (h1 : S'.1 39 = S.1 39) (h2 : S'.1 34 = S.1 34) : cCap b S' := ⟨fun e => by rw [h1]; exact h.1 e, fun e => by rw [h1, h2]; exact h.2 e⟩
theorem tkX_start {b : Nat} {S : Sx} (h : Tw b S) (ht : S.1 23 0 + 100 < 1073741824) : Tc b (tkX S) 100 ∧ Qi (tkX S) ∧ Uw (tkX S) ∧ (∀ u, u < (tkX S).1 9 0 → (tkX S).1 38 u = 0) ∧ Lz (tkX S) := by
  obtain ⟨h1, h2, h3, h4, h5⟩ := h
  have hB : Bd (tkX S) := trL_Bd (lnL_Bd h1.1.1 16) _
  have h33 : ∀ i, (tkX S).1 33 i = 0 := fun i => by
    rw [tkX, trL_ne (by decide), lnL_33]
    split
    · rfl
    · exact h3 i (by omega)
  refine ⟨⟨Ic_of h1 hB (fun g hg => tkX_ne (by omega) (by omega)), cCap_of h2 (tkX_ne (by decide) (by decide)) (tkX_ne (by decide) (by decide)), fun i => by rw [h33]; omega, by rw [tkX_ne (by decide) (by decide)]; exact ht⟩, Qi_of h4 (tkX_ne (by decide) (by decide)) (tkX_ne (by decide) (by decide)) (tkX_ne (by decide) (by decide)) (tkX_ne (by decide) (by decide)) (by rw [tkX_2]), ?_, ?_, fun i _ => h33 i⟩
  · intro a
    rw [tkX_ne (by decide) (by decide), tkX_ne (by decide) (by decide), uwS_cong (S := S) (tkX_ne (by decide) (by decide)) (fun u _ => by rw [tkX_ne (by decide) (by decide)])]
    exact h5 a
  · intro u hu
    rw [tkX_ne (by decide) (by decide)] at hu
    rw [tkX, trL_38, if_pos hu]
theorem fnL_23 {S : Sx} (t : Nat) : (fnL S t).1 23 = S.1 23 := fnL_ne (by decide) (by decide) (by decide) t
theorem uwS_mon {S S' : Sx} {a : Nat} (h29 : S'.1 29 = S.1 29) (h31 : ∀ u, S'.1 31 u ≤ S.1 31 u) : ∀ n, uwS S' a n ≤ uwS S a n := by
  intro n
  induction n with
  | zero => exact Nat.le_refl _
  | succ n ih =>
    rw [uwS, uwS, h29]
    have := h31 n
    by_cases e : S.1 29 n = a ∧ 0 < S'.1 31 n
    · rw [if_pos e, if_pos ⟨e.1, by omega⟩]; omega
    · rw [if_neg e]; omega
theorem fn1_31 {S : Sx} {t : Nat} (u : Nat) : (fn1 S t).1 31 u ≤ S.1 31 u := by
  unfold fn1
  split
  · exact Nat.le_refl _
  · split
    · show (setN (setN (setN S 31 t 0) 35 t (S.1 36 0)) 36 0 (S.1 36 0 + 1)).1 31 u ≤ _
      rw [setN_ne (by decide), setN_ne (by decide), setN_at]
      split <;> omega
    · rw [setN_at]
      split
      · next z => rw [z.2]; omega
      · omega
theorem fnL_31le {S : Sx} (u : Nat) : ∀ t, (fnL S t).1 31 u ≤ S.1 31 u := by
  intro t
  induction t with
  | zero => exact Nat.le_refl _
  | succ t ih => rw [fnL]; exact Nat.le_trans (fn1_31 u) ih
theorem finS_ne {S : Sx} {g : Nat} (h1 : g ≠ 31) (h2 : g ≠ 35) (h3 : g ≠ 36) (h4 : g ≠ 26) : (finS S).1 g = S.1 g := by
  show (hdS (fnL S (S.1 9 0))).1 g = _
  rw [hdS_ne h4, fnL_ne h1 h2 h3]
theorem otS_inv {b : Nat} {S : Sx} (hb : mch b) (h : Tw b S) (ht : S.1 23 0 + 100 < 1073741824) (hs : S.1 36 0 + 10 ≤ 1073741824) : Tw b (otS S) ∧ (otS S).1 23 0 ≤ S.1 23 0 + 40 ∧ (otS S).1 36 0 ≤ S.1 36 0 + 10 ∧ (∀ g, tg g = false → g ≠ 38 → g ≠ 35 → g ≠ 36 → (otS S).1 g = S.1 g) := by
  obtain ⟨t1, t2, t3, t4, t5⟩ := tkX_start h ht
  have hn4 : S.1 0 0 ≤ 4 := B_nodes h.1.1.1 0
  have hT10 : S.1 9 0 ≤ 10 := B_T h.1.1.1 0
  obtain ⟨n1, n2, n3, n4, n5, n6, n7, n8⟩ := nd_inv hb t1 t2 t3 t4 (S.1 0 0) hn4
  obtain ⟨Y, hY⟩ : ∃ Y, Y = ndL (tkX S) (S.1 0 0) := ⟨_, rfl⟩
  have e : otS S = finS Y := by rw [hY]; rfl
  rw [← hY] at n1 n2 n3 n4 n5 n6 n7 n8
  have hYg : ∀ g, tg g = false → g ≠ 38 → Y.1 g = S.1 g := fun g h1 h2 => by rw [n6 g h1 h2, tkX_ne (fun z => by rw [z] at h1; cases h1) h2]
  have y9 := hYg 9 rfl (by decide)
  have y36 := hYg 36 rfl (by decide)
  have y29 := hYg 29 rfl (by decide)
  have hYB := n1.1.1.1
  obtain ⟨f1, f2⟩ := fnL_Bd hYB (by rw [y36]; exact hs) (Y.1 9 0) (by rw [y9]; omega)
  have hBf : Bd (finS Y) := by
    show Bd (tkS (hdS (fnL Y (Y.1 9 0))))
    unfold tkS
    refine Bd_setV ?_
    unfold hdS
    split
    · exact hdL_Bd f1 _
    · exact f1
  have hF : ∀ g, g ≠ 31 → g ≠ 35 → g ≠ 36 → g ≠ 26 → (finS Y).1 g = Y.1 g := fun g h1 h2 h3 h4 => finS_ne h1 h2 h3 h4
  have f36 : (finS Y).1 36 = (fnL Y (Y.1 9 0)).1 36 := by show (hdS (fnL Y (Y.1 9 0))).1 36 = _; rw [hdS_ne (by decide)]
  have f35 : (finS Y).1 35 = (fnL Y (Y.1 9 0)).1 35 := by show (hdS (fnL Y (Y.1 9 0))).1 35 = _; rw [hdS_ne (by decide)]
  have f31 : (finS Y).1 31 = (fnL Y (Y.1 9 0)).1 31 := by show (hdS (fnL Y (Y.1 9 0))).1 31 = _; rw [hdS_ne (by decide)]
  have fq : (finS Y).2.2 = (fnL Y (Y.1 9 0)).2.2 := by show (hdS (fnL Y (Y.1 9 0))).2.2 = _; rw [hdS_2]
  have fl : ∀ g, g ≠ 31 → g ≠ 35 → g ≠ 36 → (fnL Y (Y.1 9 0)).1 g = Y.1 g := fun g h1 h2 h3 => fnL_ne h1 h2 h3 _
  have hat : ∀ u, Y.1 29 u < 4 := fun u => by have := n1.1.1.2.2.1 u; rw [hYg 0 rfl (by decide)] at this; omega
  have hq := Qi_fnL n2 hat (Y.1 9 0) (Nat.le_refl _)
  rw [e]
  refine ⟨⟨Ic_of n1.1 hBf (fun g hg => hF g (by omega) (by omega) (by omega) (by omega)), cCap_of n1.2.1 (hF 39 (by decide) (by decide) (by decide) (by decide)) (hF 34 (by decide) (by decide) (by decide) (by decide)), fun i hi => ?_, ?_, ?_⟩, ?_, ?_, fun g h1 h2 h3 h4 => ?_⟩
  · rw [hF 33 (by decide) (by decide) (by decide) (by decide), n7 i hi]; exact t5 i hi
  · exact Qi_of hq (by rw [hF 9 (by decide) (by decide) (by decide) (by decide), fl 9 (by decide) (by decide) (by decide)]) (by rw [hF 29 (by decide) (by decide) (by decide) (by decide), fl 29 (by decide) (by decide) (by decide)]) f35 f36 fq
  · intro a
    rw [hF 9 (by decide) (by decide) (by decide) (by decide), hF 1 (by decide) (by decide) (by decide) (by decide)]
    refine Nat.le_trans (uwS_mon (S := Y) (hF 29 (by decide) (by decide) (by decide) (by decide)) (fun u => ?_) _) (n3 a)
    rw [f31]; exact fnL_31le u _
  · rw [hF 23 (by decide) (by decide) (by decide) (by decide)]
    rw [tkX_ne (by decide) (by decide)] at n5
    omega
  · rw [f36]; rw [y36] at f2; have y90 := congrFun y9 0; omega
  · rw [hF g (fun z => by rw [z] at h1; cases h1) h3 h4 (fun z => by rw [z] at h1; cases h1)]; exact hYg g h1 h2
theorem e_tick64 {b : Nat} {σ0 σ : Mm} {Z : Sx} {Tf : Nat → Nat} {A : Nat → Int32} {K : Option Value → Mm → Prop} (hb : mch b) (hQ : Cq b σ0 Z Tf A σ) (hB : Bd Z) (hK : ∀ τ, Cq b σ0 (tkS Z) Tf A τ → K none τ) : G W0 mX3_doTick K 64 [some (.ref b), none] [] σ := by
  have hR := hQ.1
  refine gs_aload_n dX3_doTick_64 rfl rfl ?_
  refine g_dup dX3_doTick_65 rfl ?_
  refine g_getI dX3_doTick_66 fX3_51 (kMa hb) (by decide) (CV_tick hR) ?_
  refine g_iconst (v := nI 1) dX3_doTick_69 (by decide) ?_
  refine g_iadd dX3_doTick_70 (by first | exact nI_add _ _ | rfl) ?_
  refine gc_putI dX3_doTick_71 pX3_51 (kMa hb) (by decide) (Or.inl rfl) (DV_tick hQ hb hB) (fun σ hQ => ?_)
  have hR := hQ.1
  refine g_return dX3_doTick_74 rfl ?_
  exact hK σ hQ
theorem cl_tick {b : Nat} {σ0 : Mm} {X : Sx} {K : Option Value → Mm → Prop} (hb : mch b) (hT : Tc b X 100) (hQi : Qi X) (hU : Uw X) (hz : ∀ u, u < X.1 9 0 → X.1 38 u = 0) (hX : ∀ τ Tf A, Cq b σ0 (ndL X (X.1 0 0)) Tf A τ → Tk (ndL X (X.1 0 0)) Tf → G W0 mX3_doTick K 31 [some (.ref b), none] [] τ) : ∀ k a σ Tf A, a + k = X.1 0 0 → Cq b σ0 (ndL X a) Tf A σ → Tk (ndL X a) Tf → G W0 mX3_doTick K 9 [some (.ref b), some (.int (nI a))] [] σ := by
  intro k
  induction k with
  | zero =>
    intro a σ Tf A ha hQ hTk
    have hR := hQ.1
    have hn4 : X.1 0 0 ≤ 4 := B_nodes hT.1.1.1 0
    obtain ⟨n1, n2, n3, n4, n5, n6, n7, n8⟩ := nd_inv hb hT hQi hU hz a (by omega)
    have e0 : (ndL X a).1 0 0 = X.1 0 0 := by rw [n6 0 rfl (by decide)]
    have hBa := n1.1.1.1
    have e : a = X.1 0 0 := by omega
    refine gs_iload_n dX3_doTick_9 rfl rfl ?_
    refine gs_aload_n dX3_doTick_10 rfl rfl ?_
    refine g_getR dX3_doTick_11 fX3_55 (kMa hb) (by decide) (rMa_board hb) ?_
    refine g_getI dX3_doTick_14 fX3_167 bdW0.1 (by decide) (show _ = nI (X.1 0 0) from by rw [← e0]; exact C_nodes hR) ?_
    refine gt_icmp_ge (tgt := 31) dX3_doTick_17 (by decide) (by omega) (by omega) (by omega) ?_
    refine G.drop 1 (ls' := [_, none]) rfl ?_
    rw [e] at hQ hTk
    exact hX σ Tf A hQ hTk
  | succ k ih =>
    intro a σ Tf A ha hQ hTk
    have hR := hQ.1
    have hn4 : X.1 0 0 ≤ 4 := B_nodes hT.1.1.1 0
    obtain ⟨n1, n2, n3, n4, n5, n6, n7, n8⟩ := nd_inv hb hT hQi hU hz a (by omega)
    have e0 : (ndL X a).1 0 0 = X.1 0 0 := by rw [n6 0 rfl (by decide)]
    have hBa := n1.1.1.1
    have ha4 : a < 4 := by omega
    have y9 : (ndL X a).1 9 = X.1 9 := n6 9 rfl (by decide)
    have y29 : (ndL X a).1 29 = X.1 29 := n6 29 rfl (by decide)
    have hq : ∀ u, u ∈ (ndL X a).2.2 a → u < (ndL X a).1 9 0 := fun u hu => (((n2.1 a ha4).1 u).mp hu).1
    have hQs := Qs_of n2 ha4 (fun u hu hau => n4 u (by rw [y9] at hu; exact hu) (by rw [y29] at hau; omega))
    have hlen : ((ndL X a).2.2 a).length ≤ 10 := (hR.2.2.2.2 a ha4).1
    have esc : scS ((ndL X a).2.2 a) ((ndL X a).1 1 0 - uwS (ndL X a) a ((ndL X a).1 9 0)) (ndL X a) = ndL X (a + 1) := by
      have hu := n3 a
      rw [ndL]
      exact sc_sv _ 10 _ _ hlen hQs (by omega)
    refine gs_iload_n dX3_doTick_9 rfl rfl ?_
    refine gs_aload_n dX3_doTick_10 rfl rfl ?_
    refine g_getR dX3_doTick_11 fX3_55 (kMa hb) (by decide) (rMa_board hb) ?_
    refine g_getI dX3_doTick_14 fX3_167 bdW0.1 (by decide) (show _ = nI (X.1 0 0) from by rw [← e0]; exact C_nodes hR) ?_
    refine gf_icmp_ge (tgt := 31) dX3_doTick_17 (by decide) (by omega) (by omega) (by omega) ?_
    refine gs_aload_n dX3_doTick_20 rfl rfl ?_
    refine gs_iload_n dX3_doTick_21 rfl rfl ?_
    refine g_cVV1 dX3_doTick_22 vX3_176 (by decide) (kMa hb) (by decide) (Nat.le_of_ble_eq_true rfl) (c_serve hb hR hBa hTk ha4 (n1.mono (by omega)) hq (n3 a)) ?_
    rintro σ ⟨Tf9, A9, hQ9, hT9⟩
    rw [esc] at hQ9 hT9
    have hQ := hQ.tr hQ9
    refine gs_iinc (ls' := [_, _]) dX3_doTick_25 rfl (nI_add _ 1) rfl rfl ?_
    refine g_goto (tgt := 9) dX3_doTick_28 (by decide) ?_
    exact ih (a + 1) σ Tf9 A9 (by omega) hQ hT9
theorem c_doTick {b : Nat} {σ : Mm} {S : Sx} {Tf : Nat → Nat} (hb : mch b) (hR : RepC b σ S Tf) (hB : Bd S) (hTk : Tk S Tf) (hTw : Tw b S) (ht : S.1 23 0 + 100 < 1073741824) (hs : S.1 36 0 + 10 ≤ 1073741824) : RV W0 mX3_doTick [.ref b] σ (fun τ => ∃ Tf' A', Cq b σ (otS S) Tf' A' τ ∧ Tk (otS S) Tf') := by
  obtain ⟨t1, t2, t3, t4, t5⟩ := tkX_start hTw ht
  have hn4 : S.1 0 0 ≤ 4 := B_nodes hB 0
  have hT10 : S.1 9 0 ≤ 10 := B_T hB 0
  have x0 : (tkX S).1 0 = S.1 0 := tkX_ne (by decide) (by decide)
  obtain ⟨n1, n2, n3, n4, n5, n6, n7, n8⟩ := nd_inv hb t1 t2 t3 t4 (S.1 0 0) hn4
  obtain ⟨Y, hY⟩ : ∃ Y, Y = ndL (tkX S) (S.1 0 0) := ⟨_, rfl⟩
  have e : otS S = finS Y := by rw [hY]; rfl
  have hY' : ndL (tkX S) ((tkX S).1 0 0) = Y := by rw [hY, x0]
  rw [← hY] at n1 n2 n3 n4 n5 n6 n7 n8
  have hYg : ∀ g, tg g = false → g ≠ 38 → Y.1 g = S.1 g := fun g h1 h2 => by rw [n6 g h1 h2, tkX_ne (fun z => by rw [z] at h1; cases h1) h2]
  have y9 := hYg 9 rfl (by decide)
  have y36 := hYg 36 rfl (by decide)
  have hYB := n1.1.1.1
  have hs' : Y.1 36 0 + 10 ≤ 1073741824 := by rw [y36]; exact hs
  have hat : ∀ u, Y.1 29 u < 4 := fun u => by have := n1.1.1.2.2.1 u; rw [hYg 0 rfl (by decide)] at this; omega
  have hBf := (fnL_Bd hYB hs' (Y.1 9 0) (by rw [y9]; omega)).1
  have b21 := B_every hBf 0
  rw [e]
  refine G.met (by decide) (Nat.le_of_ble_eq_true rfl) ?_
  show G _ _ _ 0 [some (.ref b), none] [] σ
  refine gs_aload_n dX3_doTick_0 rfl rfl ?_
  refine g_getR dX3_doTick_1 fX3_64 (kMa hb) (by decide) (rMa_traffic hb) ?_
  refine g_cVV0 dX3_doTick_4 vX3_173 (by decide) (kMa_traffic hb) (by decide) (Nat.le_of_ble_eq_true rfl) (c_openTick hb hR hB) ?_
  rintro σ1 hQ
  refine g_iconst (v := nI 0) dX3_doTick_7 (by decide) ?_
  refine gs_istore_n (ls' := [_, _]) dX3_doTick_8 rfl rfl rfl ?_
  have hQ := Cq_tr hQ (S.1 9 0)
  have hTk1 : Tk (tkX S) Tf := Tk_of hTk x0 (tkX_ne (by decide) (by decide)) (tkX_ne (by decide) (by decide)) (tkX_ne (by decide) (by decide)) (tkX_ne (by decide) (by decide))
  refine cl_tick hb t1 t2 t3 t4 (fun τ Tf1 A1 hQ hT1 => ?_) (S.1 0 0) 0 σ1 Tf _ (by rw [x0]; omega) hQ hTk1
  rw [hY'] at hQ hT1
  have hT2 : Tk (finS Y) Tf1 := Tk_of hT1 (finS_ne (by decide) (by decide) (by decide) (by decide)) (finS_ne (by decide) (by decide) (by decide) (by decide)) (finS_ne (by decide) (by decide) (by decide) (by decide)) (finS_ne (by decide) (by decide) (by decide) (by decide)) (finS_ne (by decide) (by decide) (by decide) (by decide))
  have hR := hQ.1
  refine gs_aload_n dX3_doTick_31 rfl rfl ?_
  refine g_cVV0 dX3_doTick_32 vX3_179 (by decide) (kMa hb) (by decide) (Nat.le_of_ble_eq_true rfl) (c_finish hb hR hYB hs' n2 hat) ?_
  rintro σ2 hQ9
  have hQ := hQ.tr hQ9
  have hR := hQ.1
  refine gs_aload_n dX3_doTick_35 rfl rfl ?_
  refine g_getR dX3_doTick_36 fX3_21 (kMa hb) (by decide) (rMa_rules hb) ?_
  refine g_getI dX3_doTick_39 fX3_182 (kMa_rules hb) (by decide) (C_every hR) ?_
  refine gn_if_le (tgt := 64) dX3_doTick_42 (by decide) (by omega) (fun c42 => ?_) (fun c42 => ?_)
  · refine e_tick64 (Z := hdS (fnL Y (Y.1 9 0))) hb (by rw [hdS, if_neg (by rw [hdQ, decide_eq_false (by omega), Bool.false_and]; decide)]; exact hQ) (by rw [hdS, if_neg (by rw [hdQ, decide_eq_false (by omega), Bool.false_and]; decide)]; exact hBf) (fun τ hq => ⟨rfl, Tf1, _, hq, hT2⟩)
  · refine gs_aload_n dX3_doTick_45 rfl rfl ?_
    refine g_getI dX3_doTick_46 fX3_51 (kMa hb) (by decide) (CV_tick hR) ?_
    refine gs_aload_n dX3_doTick_49 rfl rfl ?_
    refine g_getR dX3_doTick_50 fX3_21 (kMa hb) (by decide) (rMa_rules hb) ?_
    refine g_getI dX3_doTick_53 fX3_182 (kMa_rules hb) (by decide) (C_every hR) ?_
    refine g_irem dX3_doTick_56 (nI_ne0 c42 (by omega)) rfl ?_
    refine g_if_ne (tgt := 64) dX3_doTick_57 (by decide) (fun c57 => ?_) (fun c57 => ?_)
    · refine e_tick64 (Z := hdS (fnL Y (Y.1 9 0))) hb (by rw [hdS, if_neg (by rw [hdQ, decide_eq_false c57, Bool.and_false]; decide)]; exact hQ) (by rw [hdS, if_neg (by rw [hdQ, decide_eq_false c57, Bool.and_false]; decide)]; exact hBf) (fun τ hq => ⟨rfl, Tf1, _, hq, hT2⟩)
    · refine gs_aload_n dX3_doTick_60 rfl rfl ?_
      refine g_cVV0 dX3_doTick_61 vX3_185 (by decide) (kMa hb) (by decide) (Nat.le_of_ble_eq_true rfl) (c_hide hb hR hBf) ?_
      rintro σ3 hQ9
      have hQ := hQ.tr hQ9
      have hq9 : hdQ (fnL Y (Y.1 9 0)) = true := by rw [hdQ, decide_eq_true c42, decide_eq_true c57]; rfl
      refine e_tick64 (Z := hdS (fnL Y (Y.1 9 0))) hb (by rw [hdS, if_pos hq9]; exact hQ) (by rw [hdS, if_pos hq9]; exact hdL_Bd hBf _) (fun τ hq => ⟨rfl, Tf1, _, hq, hT2⟩)
