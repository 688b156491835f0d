/-! What the class needs between its calls is kept by tryS (pure). -/
def Jv (S : Sx) : Prop := Fn S ∧ Cv S
theorem Jv_of {S S' : Sx} (h : Jv S) (h0 : S'.1 0 = S.1 0) (h8 : S'.1 8 = S.1 8) (h24 : S'.1 24 = S.1 24) (h25 : S'.1 25 = S.1 25) (h27 : S'.1 27 = S.1 27) (h28 : S'.1 28 = S.1 28) : Jv S' :=
  ⟨fun p k hk => by rw [h28, h0]; rw [h27] at hk; exact h.1 p k hk, fun p => by rw [h8, h24, h25]; exact h.2 p⟩
theorem Jv_ft {S : Sx} {p a : Nat} (h : Jv S) (hB : Bd S) (ha : a < S.1 0 0) : Jv (ftS S p a) := by
  have b0 := B_nodes hB 0
  have en : ∀ g, g ≠ 27 → g ≠ 28 → g ≠ 26 → (ft2 S p a).1 g = S.1 g := fun g h1 h2 h3 => ft2_ne h1 h2 h3
  have hF2 : Fn (ft2 S p a) := Fn_kf (S := ft1 S p) (p := p) (a := a) (Bd_setV (Bd_setN hB (by decide))) (fun q k hk => h.1 q k hk) ha
  refine ⟨fun q k hk => ?_, fun q => ?_⟩
  · have e27 : (ftS S p a).1 27 = (ft2 S p a).1 27 := by unfold ftS; split <;> rfl
    have e28 : (ftS S p a).1 28 = (ft2 S p a).1 28 := by unfold ftS; split <;> rfl
    have e0 : (ftS S p a).1 0 = (ft2 S p a).1 0 := by unfold ftS; split <;> rfl
    rw [e28, e0]
    rw [e27] at hk
    exact hF2 q k hk
  · rw [ftS_ne (g := 8) (by decide) (by decide) (by decide) (by decide), ftS_ne (g := 25) (by decide) (by decide) (by decide) (by decide)]
    obtain ⟨c1, c2, c3⟩ := h.2 q
    by_cases h8 : S.1 8 q = 0
    · have z : S.1 25 q = 0 := c1 (by omega)
      rw [z]
      exact ⟨fun _ => rfl, fun _ => rfl, fun _ => bt_0 _⟩
    · rw [ftS_24 h8]; exact ⟨c1, c2, c3⟩
theorem Jv_cq {S : Sx} {p a x : Nat} (h : Jv S) (hB : Bd S) (ha : a < S.1 0 0) (hl : 0 < S.1 24 p) : Jv (cqS S p a x) := by
  have b0 := B_nodes hB 0
  have b2 := B_copies hB p
  have b3 := B_lies hB p
  unfold cqS
  by_cases h8 : S.1 8 p = 1
  · rw [if_pos h8]
    refine ⟨fun q k hk => ?_, fun q => ?_⟩
    · rw [cpS_ne (g := 28) (by decide) (by decide), cpS_ne (g := 0) (by decide) (by decide)]
      rw [cpS_ne (g := 27) (by decide) (by decide)] at hk
      exact h.1 q k hk
    · rw [cpS_ne (g := 8) (by decide) (by decide)]
      obtain ⟨c1, c2, c3⟩ := h.2 q
      unfold cpS
      by_cases hw : decide (S.1 13 x = 1) = true
      · rw [if_pos hw]
        by_cases e : q = p
        · subst e
          rw [setN_at, if_pos ⟨rfl, rfl⟩]
          exact ⟨fun _ => rfl, fun _ => rfl, fun _ => bt_0 _⟩
        · rw [setN_at, if_neg (fun z => e z.2), setN_ne (by decide)]
          split
          · rw [setN_ne (by decide), setN_at, if_neg (fun z => e z.2)]; exact ⟨c1, c2, c3⟩
          · exact ⟨c1, c2, c3⟩
      · rw [if_neg hw]
        split
        · exact ⟨c1, c2, c3⟩
        · next hz =>
          have f24 : (setN S 25 p (stb (S.1 25 p) a)).1 24 = S.1 24 := setN_ne (by decide)
          rw [f24]
          by_cases e : q = p
          · subst e
            have f25 : (setN S 25 q (stb (S.1 25 q) a)).1 25 q = stb (S.1 25 q) a := by rw [setN_at, if_pos ⟨rfl, rfl⟩]
            rw [f25, bt_stb b2 (by omega) (by omega), if_neg (fun z => hz (Or.inl (by omega)))]
            exact ⟨fun z => absurd h8 z, fun z => absurd z (by omega), c3⟩
          · have f25 : (setN S 25 p (stb (S.1 25 p) a)).1 25 q = S.1 25 q := by rw [setN_at, if_neg (fun z => e z.2)]
            rw [f25]; exact ⟨c1, c2, c3⟩
  · rw [if_neg h8]; exact h
theorem Jv_go {S : Sx} {t a x p c wh : Nat} (h : Jv S) (hB : Bd S) (ha : a < S.1 0 0) (hl : 0 < S.1 24 p) (hL : ∀ i, S.1 33 i ≤ 900) (hn : 2 ≤ S.1 0 0) : Jv (goS S t a x p c wh) := by
  have b0 := B_nodes hB 0
  have eu : ∀ g, g ≠ 33 → (ulS wh 3 S a).1 g = S.1 g := fun g hg => ulS_ne hg 3 S a
  have hB2 : Bd (ulS wh 3 S a) := Bd_ulS 3 S a hB (fun i => by have := hL i; omega)
  have h2 : Jv (ulS wh 3 S a) := Jv_of h (eu 0 (by decide)) (eu 8 (by decide)) (eu 24 (by decide)) (eu 25 (by decide)) (eu 27 (by decide)) (eu 28 (by decide))
  have h3 : Jv (fdS (ulS wh 3 S a) p a) := by
    unfold fdS
    split
    · exact h2
    · exact Jv_ft h2 hB2 (by rw [eu 0 (by decide)]; exact ha)
  have hB3 : Bd (fdS (ulS wh 3 S a) p a) := by
    unfold fdS
    split
    · exact hB2
    · exact Bd_ftS hB2 (by omega) (by rw [eu 0 (by decide)]; exact hn)
  have e1 : (acS (fdS (ulS wh 3 S a) p a) t p c x).1 = (fdS (ulS wh 3 S a) p a).1 := acS_1
  have h4 : Jv (acS (fdS (ulS wh 3 S a) p a) t p c x) := Jv_of h3 (by rw [e1]) (by rw [e1]) (by rw [e1]) (by rw [e1]) (by rw [e1]) (by rw [e1])
  have hl4 : 0 < (acS (fdS (ulS wh 3 S a) p a) t p c x).1 24 p := by
    rw [e1]
    unfold fdS
    split
    · rw [eu 24 (by decide)]; exact hl
    · exact ftS_l (by rw [eu 24 (by decide)]; exact hl)
  have h5 := Jv_cq (p := p) (a := a) (x := x) h4 (fun g i => by rw [e1]; exact hB3 g i) (by rw [e1, fdS_ne (by decide) (by decide) (by decide) (by decide), eu 0 (by decide)]; exact ha) hl4
  unfold goS enS
  exact Jv_of h5 (by rw [ntS_ne (by decide), blS_ne (by decide) (by decide)]) (by rw [ntS_ne (by decide), blS_ne (by decide) (by decide)]) (by rw [ntS_ne (by decide), blS_ne (by decide) (by decide)]) (by rw [ntS_ne (by decide), blS_ne (by decide) (by decide)]) (by rw [ntS_ne (by decide), blS_ne (by decide) (by decide)]) (by rw [ntS_ne (by decide), blS_ne (by decide) (by decide)])
theorem Jv_rdy {S : Sx} {t a x p c : Nat} (h : Jv S) (hB : Bd S) (ha : a < S.1 0 0) (hl : 0 < S.1 24 p) (hL : ∀ i, S.1 33 i ≤ 900) (hn : 2 ≤ S.1 0 0) : Jv (rdyS S t a x p c) := by
  unfold rdyS
  split
  · exact Jv_of h rfl rfl rfl rfl rfl rfl
  · split
    · exact Jv_of h rfl rfl rfl rfl rfl rfl
    · exact Jv_go h hB ha hl hL hn
theorem Jv_try {S : Sx} {t : Nat} (hI : Ic S) (hL : ∀ i, S.1 33 i ≤ 900) (hTu : S.1 23 0 < 1073741824) : Jv (tryS S t) := by
  have hJ : Jv S := ⟨hI.2.2.1, hI.2.2.2.1⟩
  have ha := hI.1.2.2.1 t
  unfold tryS tryA
  split
  · exact Jv_of hJ rfl rfl rfl rfl rfl rfl
  · split
    · next hz =>
      split
      · exact Jv_of hJ rfl rfl rfl rfl rfl rfl
      · next nd hpo =>
        have hI1 := Ic_pl (p := S.1 11 (60 * t + S.1 30 t)) hI hz (plO_lt hI.1.2.1 ha hpo) hTu
        exact Jv_rdy ⟨hI1.2.2.1, hI1.2.2.2.1⟩ hI1.1.1 (by rw [plSt_ne (by decide) (by decide)]; exact ha) (by rw [plSt_24, if_pos rfl]; omega) (by rw [plSt_ne (by decide) (by decide)]; exact hL) hI1.1.2.1
    · next hz => exact Jv_rdy hJ hI.1.1 ha (by omega) hL hI.1.2.1
/-- tryS changes a thread's own counts alone -/
theorem goS_off {S : Sx} {t a x p c wh g u : Nat} (hg : g = 30 ∨ g = 31 ∨ g = 32) (hu : u ≠ t) : (goS S t a x p c wh).1 g u = S.1 g u := by
  have h : g ≠ 33 ∧ g ≠ 34 ∧ g ≠ 24 ∧ g ≠ 25 ∧ g ≠ 26 ∧ g ≠ 27 ∧ g ≠ 28 := by omega
  unfold goS enS
  rw [ntS_ne h.2.1, blS, setV_1, setV_1, setV_1, setV_1, setV_1, setV_1, setN_at, if_neg (fun z => hu z.2), setN_at, if_neg (fun z => hu z.2), cqS_ne h.2.2.1 h.2.2.2.1, acS_1, fdS_ne h.2.2.1 h.2.2.2.2.2.1 h.2.2.2.2.2.2 h.2.2.2.2.1, ulS_ne h.1]
theorem rdyS_off {S : Sx} {t a x p c g u : Nat} (hg : g = 30 ∨ g = 31 ∨ g = 32) (hu : u ≠ t) : (rdyS S t a x p c).1 g u = S.1 g u := by
  unfold rdyS
  split
  · rw [flS, setV_1, setN_at, if_neg (fun z => hu z.2)]
  · split
    · rfl
    · exact goS_off hg hu
theorem tryS_off {S : Sx} {t g u : Nat} (hg : g = 30 ∨ g = 31 ∨ g = 32) (hu : u ≠ t) : (tryS S t).1 g u = S.1 g u := by
  unfold tryS tryA
  split
  · rw [flS, setV_1, setN_at, if_neg (fun z => hu z.2)]
  · split
    · split
      · rw [flS, setV_1, setN_at, if_neg (fun z => hu z.2)]
      · rw [rdyS_off hg hu, plSt_ne (by omega) (by omega)]
    · exact rdyS_off hg hu
theorem goS_30 {S : Sx} {t a x p c wh : Nat} : (goS S t a x p c wh).1 30 t = S.1 30 t + 1 := by
  unfold goS enS
  rw [ntS_ne (by decide), blS, setV_1, setV_1, setV_1, setV_1, setV_1, setV_1, setN_ne (by decide), setN_at, if_pos ⟨rfl, rfl⟩, cqS_ne (by decide) (by decide), acS_1, fdS_ne (by decide) (by decide) (by decide) (by decide), ulS_ne (by decide)]
theorem rdyS_30 {S : Sx} {t a x p c : Nat} : (rdyS S t a x p c).1 30 t ≤ S.1 30 t + 1 := by
  unfold rdyS
  split
  · show S.1 30 t ≤ _; omega
  · split
    · show S.1 30 t ≤ _; omega
    · rw [goS_30]; omega
theorem tryS_30 {S : Sx} {t : Nat} : (tryS S t).1 30 t ≤ S.1 30 t + 1 := by
  unfold tryS tryA
  split
  · show S.1 30 t ≤ _; omega
  · split
    · split
      · show S.1 30 t ≤ _; omega
      · refine Nat.le_trans rdyS_30 ?_; rw [plSt_ne (by decide) (by decide)]; omega
    · exact rdyS_30
theorem cCap.c {b : Nat} {S : Sx} (hb : mch b) (h : cCap b S) : S.1 34 0 = 300 → S.1 39 0 = 300 := by
  intro e
  rcases hb with hb | hb
  · exact h.1 hb
  · have := h.2 hb; omega
theorem Ic.try {b : Nat} {S : Sx} {t : Nat} (hb : mch b) (hI : Ic S) (hL : ∀ i, S.1 33 i ≤ 900) (hcap : cCap b S) (hr : S.1 30 t < S.1 10 t) (hTu : S.1 23 0 < 1073741824) : Ic (tryS S t) := by
  have b10 := B_told hI.1.1 t
  have hJ := Jv_try (t := t) hI hL hTu
  refine ⟨hI.1.try hL (by omega) (hcap.c hb) hTu, Hp_of hI.2.1 (tryS_ne rfl) (tryS_ne rfl) (tryS_ne rfl) (tryS_ne rfl), hJ.1, hJ.2, fun u => ?_⟩
  rw [tryS_ne (g := 10) rfl]
  by_cases e : u = t
  · subst e
    have := tryS_30 (S := S) (t := u)
    omega
  · rw [tryS_off (Or.inl rfl) e]; exact hI.2.2.2.2 u
theorem Ic_38 {S : Sx} {t v : Nat} (hI : Ic S) (hv : v ≤ 1) : Ic (setN S 38 t v) := by
  refine ⟨Iv_set38 hI.1 hv, Hp_of hI.2.1 (setN_ne (by decide)) (setN_ne (by decide)) (setN_ne (by decide)) (setN_ne (by decide)), hI.2.2.1, hI.2.2.2.1, hI.2.2.2.2⟩
def Tc (b : Nat) (S : Sx) (j : Nat) : Prop := Ic S ∧ cCap b S ∧ (∀ i, S.1 33 i + 3 * j ≤ 900) ∧ S.1 23 0 + j < 1073741824
theorem Tc.step {b : Nat} {S : Sx} {j t : Nat} (hb : mch b) (h : Tc b S (j + 1)) (hnx : S.1 30 t < S.1 10 t) : Tc b (tryS (setN S 38 t 1) t) j := by
  obtain ⟨hI, hcap, hL, hT⟩ := h
  have hI1 : Ic (setN S 38 t 1) := Ic_38 hI (Nat.le_refl _)
  have hcap1 : cCap b (setN S 38 t 1) := hcap
  refine ⟨hI1.try hb (fun i => ?_) hcap1 hnx (show S.1 23 0 < _ by omega), ⟨fun e => ?_, fun e => ?_⟩, fun i => ?_, ?_⟩
  · show S.1 33 i ≤ 900; have := hL i; omega
  · rw [tryS_ne (g := 39) rfl]; exact hcap.1 e
  · rw [tryS_34 (hcap1.2 e), tryS_ne (g := 39) rfl]; exact hcap1.2 e
  · have h1 := tryS_33 (S := setN S 38 t 1) (t := t) (i := i)
    have h2 := hL i
    have h3 : (setN S 38 t 1).1 33 i = S.1 33 i := rfl
    omega
  · have h1 := tryS_23 (S := setN S 38 t 1) (t := t)
    have h3 : (setN S 38 t 1).1 23 0 = S.1 23 0 := rfl
    omega
theorem Tc.mono {b : Nat} {S : Sx} {j k : Nat} (h : Tc b S j) (hk : k ≤ j) : Tc b S k := ⟨h.1, h.2.1, fun i => by have := h.2.2.1 i; omega, by have := h.2.2.2; omega⟩
/-! The queue of a node, served in its order, and the reference's choice of the least stamp. -/
def scS : List Nat → Nat → Sx → Sx
  | [], _, S => S
  | t :: l, f, S => if f = 0 then S else if rdS S t = true then scS l (if 0 < (tryS (setN S 38 t 1) t).1 31 t then f - 1 else f) (tryS (setN S 38 t 1) t) else scS l f S
theorem fsS_none {S : Sx} {a : Nat} (n : Nat) (h : ∀ u, u < n → canS S a u = false) : fsS S a n = none := by
  induction n with
  | zero => rfl
  | succ n ih =>
    rw [fsS, if_neg (fun z => by rw [h n (by omega)] at z; exact absurd z.1 (by decide))]
    exact ih (fun u hu => h u (by omega))
theorem fsS_some {S : Sx} {a t : Nat} (hc : canS S a t = true) : ∀ n, t < n → (∀ u, u < n → canS S a u = true → u ≠ t → S.1 35 t < S.1 35 u) → fsS S a n = some t := by
  intro n
  induction n with
  | zero => intro h; omega
  | succ n ih =>
    intro ht h
    by_cases e : t = n
    · subst e
      rw [fsS, if_pos ⟨hc, fun b hb => h b (by have := fsS_lt t b hb; omega) (fsS_can t b hb) (by have := fsS_lt t b hb; omega)⟩]
    · have q := ih (by omega) (fun u hu => h u (by omega))
      rw [fsS, if_neg, q]
      intro z
      have z2 := z.2 t q
      have := h n (by omega) z.1 (by omega)
      omega
/-- what is left of a queue: who may go is in it, by stamps -/
def Qs (S : Sx) (a : Nat) (l : List Nat) : Prop := (∀ u, u < S.1 9 0 → canS S a u = true → u ∈ l) ∧ (∀ u, u ∈ l → u < S.1 9 0 ∧ S.1 29 u = a ∧ S.1 38 u = 0) ∧ l.Pairwise (fun u v => S.1 35 u < S.1 35 v)
theorem uwS_one {S S' : Sx} {a t : Nat} (h29 : S'.1 29 = S.1 29) (h31 : ∀ u, u ≠ t → S'.1 31 u = S.1 31 u) (hat : S.1 29 t = a) (h0 : S.1 31 t = 0) : ∀ n, uwS S' a n = uwS S a n + (if t < n ∧ 0 < S'.1 31 t then 1 else 0) := by
  intro n
  induction n with
  | zero => rw [if_neg (by omega)]; rfl
  | succ n ih =>
    simp only [uwS]
    rw [ih, h29]
    by_cases e : n = t
    · subst e
      rw [if_neg (fun z => by omega), if_neg (show ¬ (S.1 29 n = a ∧ 0 < S.1 31 n) by omega)]
      by_cases hp : 0 < S'.1 31 n
      · rw [if_pos ⟨hat, hp⟩, if_pos ⟨by omega, hp⟩]
      · rw [if_neg (fun z => hp z.2), if_neg (fun z => hp z.2)]
    · rw [h31 n e]
      have e1 : (if t < n ∧ 0 < S'.1 31 t then 1 else 0) = (if t < n + 1 ∧ 0 < S'.1 31 t then 1 else 0 : Nat) := by
        by_cases hp : t < n ∧ 0 < S'.1 31 t
        · rw [if_pos hp, if_pos ⟨by omega, hp.2⟩]
        · rw [if_neg hp, if_neg (fun z => hp ⟨by omega, z.2⟩)]
      rw [e1]; omega
theorem rdS_off {S S' : Sx} {u : Nat} (h10 : S'.1 10 = S.1 10) (h : ∀ g, g = 30 ∨ g = 31 ∨ g = 32 → S'.1 g u = S.1 g u) : rdS S' u = rdS S u := by
  unfold rdS
  rw [h10, h 30 (by omega), h 31 (by omega), h 32 (by omega)]
theorem Qs_step {S : Sx} {a t : Nat} {l : List Nat} (hQ : Qs S a (t :: l)) (hrd : rdS S t = true) : Qs (tryS (setN S 38 t 1) t) a l ∧ uwS (tryS (setN S 38 t 1) t) a (S.1 9 0) = uwS S a (S.1 9 0) + (if 0 < (tryS (setN S 38 t 1) t).1 31 t then 1 else 0) := by
  obtain ⟨h1, h2, h3⟩ := hQ
  obtain ⟨ht, hat, h38⟩ := h2 t (List.mem_cons_self)
  have e9 : (tryS (setN S 38 t 1) t).1 9 = S.1 9 := by rw [tryS_ne rfl, setN_ne (by decide)]
  have e29 : (tryS (setN S 38 t 1) t).1 29 = S.1 29 := by rw [tryS_ne rfl, setN_ne (by decide)]
  have e10 : (tryS (setN S 38 t 1) t).1 10 = S.1 10 := by rw [tryS_ne rfl, setN_ne (by decide)]
  have e35 : (tryS (setN S 38 t 1) t).1 35 = S.1 35 := by rw [tryS_ne rfl, setN_ne (by decide)]
  have e38 : ∀ u, (tryS (setN S 38 t 1) t).1 38 u = if u = t then 1 else S.1 38 u := fun u => by
    rw [tryS_ne rfl, setN_at]
    by_cases e : u = t
    · rw [if_pos ⟨rfl, e⟩, if_pos e]
    · rw [if_neg (fun z => e z.2), if_neg e]
  have eo : ∀ g, g = 30 ∨ g = 31 ∨ g = 32 → ∀ u, u ≠ t → (tryS (setN S 38 t 1) t).1 g u = S.1 g u := fun g hg u hu => by
    rw [tryS_off hg hu, setN_ne (by omega)]
  have hnt : ∀ u, u ∈ l → u ≠ t := fun u hu e => by
    have := (List.pairwise_cons.mp h3).1 u hu
    rw [e] at this
    omega
  refine ⟨⟨fun u hu hc => ?_, fun u hu => ?_, ?_⟩, ?_⟩
  · rw [e9] at hu
    obtain ⟨c1, c2, c3⟩ := canS_spec hc
    have hut : u ≠ t := fun e => by rw [e38, if_pos e] at c3; omega
    rw [e29] at c1
    rw [rdS_off e10 (fun g hg => eo g hg u hut)] at c2
    rw [e38, if_neg hut] at c3
    have := h1 u hu (by rw [canS, decide_eq_true c1, c2, decide_eq_true c3]; rfl)
    exact (List.mem_cons.mp this).resolve_left hut
  · rw [e9, e29, e38, if_neg (hnt u hu)]
    exact h2 u (List.mem_cons_of_mem _ hu)
  · rw [e35]; exact (List.pairwise_cons.mp h3).2
  · have q := uwS_one (S := S) (S' := tryS (setN S 38 t 1) t) (a := a) (t := t) e29 (eo 31 (by omega)) hat (rdS_spec hrd).2.1 (S.1 9 0)
    rw [q]
    by_cases hp : 0 < (tryS (setN S 38 t 1) t).1 31 t
    · rw [if_pos hp, if_pos ⟨ht, hp⟩]
    · rw [if_neg hp, if_neg (fun z => hp z.2)]
theorem Qs_skip {S : Sx} {a t : Nat} {l : List Nat} (hQ : Qs S a (t :: l)) (hrd : rdS S t = false) : Qs S a l := by
  obtain ⟨h1, h2, h3⟩ := hQ
  refine ⟨fun u hu hc => ?_, fun u hu => h2 u (List.mem_cons_of_mem _ hu), (List.pairwise_cons.mp h3).2⟩
  have hut : u ≠ t := fun e => by
    have := (canS_spec hc).2.1
    rw [e, hrd] at this
    cases this
  exact (List.mem_cons.mp (h1 u hu hc)).resolve_left hut
theorem svS_stop {S : Sx} {a k : Nat} (h : ¬ uwS S a (S.1 9 0) < S.1 1 0) : svS a k S = S := by
  cases k with
  | zero => rfl
  | succ k =>
    rw [svS]
    split
    · rfl
    · rw [if_neg h]
theorem svS_none {S : Sx} {a k : Nat} (h : fsS S a (S.1 9 0) = none) : svS a k S = S := by
  cases k with
  | zero => rfl
  | succ k => rw [svS, h]
theorem sc_sv {a : Nat} : ∀ (l : List Nat) (k f : Nat) (S : Sx), l.length ≤ k → Qs S a l → f + uwS S a (S.1 9 0) = S.1 1 0 → scS l f S = svS a k S := by
  intro l
  induction l with
  | nil =>
    intro k f S hk hQ hf
    rw [scS, svS_none (fsS_none _ (fun u hu => ?_))]
    cases hc : canS S a u
    · rfl
    · exact absurd (hQ.1 u hu hc) (List.not_mem_nil)
  | cons t l ih =>
    intro k f S hk hQ hf
    rw [scS]
    by_cases hf0 : f = 0
    · rw [if_pos hf0, svS_stop (by omega)]
    · rw [if_neg hf0]
      by_cases hrd : rdS S t = true
      · rw [if_pos hrd]
        obtain ⟨ht, hat, h38⟩ := hQ.2.1 t (List.mem_cons_self)
        have hc : canS S a t = true := by rw [canS, decide_eq_true hat, hrd, decide_eq_true h38]; rfl
        obtain ⟨q1, q2⟩ := Qs_step hQ hrd
        have e9 : (tryS (setN S 38 t 1) t).1 9 = S.1 9 := by rw [tryS_ne rfl, setN_ne (by decide)]
        have e1 : (tryS (setN S 38 t 1) t).1 1 = S.1 1 := by rw [tryS_ne rfl, setN_ne (by decide)]
        cases k with
        | zero => exact absurd hk (by simp)
        | succ k =>
          rw [svS, fsS_some hc _ ht (fun u hu hcu hut => (List.pairwise_cons.mp hQ.2.2).1 u ((List.mem_cons.mp (hQ.1 u hu hcu)).resolve_left hut))]
          show _ = (if uwS S a (S.1 9 0) < S.1 1 0 then svS a k (tryS (setN S 38 t 1) t) else S)
          have hu : uwS S a (S.1 9 0) < S.1 1 0 := by omega
          rw [if_pos hu]
          refine ih k _ _ (by simp only [List.length_cons] at hk; omega) q1 ?_
          rw [e9, e1, q2]
          split <;> omega
      · have hrd : rdS S t = false := by simpa using hrd
        rw [if_neg (by rw [hrd]; decide)]
        exact ih k f S (by simp only [List.length_cons] at hk; omega) (Qs_skip hQ hrd) hf
