/-! other: what both begin with; the class's call. -/
def ob1 (S S' : Sx) (p e gn : Nat) : Sx := (fun g i => if g ≤ 15 then S.1 g i else if g = 20 then p else if g = 21 then e else if g = 22 then gn else if g = 28 then S'.1 28 i else if g = 29 then (if i < S.1 9 0 then S.1 29 i else S'.1 29 i) else if g = 30 then (if i < S.1 9 0 then 0 else if i < 10 then S'.1 30 i else 0) else if g = 31 then (if i < S.1 9 0 then 0 else S'.1 31 i) else if g = 32 then (if i < S.1 9 0 then 0 else S'.1 32 i) else if g = 35 then (if i < S.1 9 0 then i else S'.1 35 i) else if g = 36 then S.1 9 0 else if g = 38 then S'.1 38 i else 0,
  fun g i => if g = 0 then S.2.1 0 i else if g = 1 then nI 1 else nI 0, onq S (S.1 9 0))
def Jw (S S' : Sx) : Prop := Bd S' ∧ (∀ t, S'.1 29 t < S.1 0 0 ∨ S'.1 29 t = 0) ∧ ∀ t, t < 10 → S.1 9 0 ≤ t → S'.1 30 t = 0
section
variable {S S' : Sx} {p e gn : Nat}
theorem ob1_s {g i : Nat} (h : g ≤ 15) : (ob1 S S' p e gn).1 g i = S.1 g i := if_pos h
theorem ob1_sf {g : Nat} (h : g ≤ 15) : (ob1 S S' p e gn).1 g = S.1 g := by funext i; exact ob1_s h
theorem ob1_0 {g i : Nat} (h : g = 23 ∨ g = 24 ∨ g = 25 ∨ g = 26 ∨ g = 27 ∨ g = 33 ∨ g = 34 ∨ g = 37 ∨ g = 39) : (ob1 S S' p e gn).1 g i = 0 := by
  rcases h with rfl | rfl | rfl | rfl | rfl | rfl | rfl | rfl | rfl <;> rfl
theorem ob1_Bd (hB : Bd S) (hJ : Jw S S') (hp : p ≤ 2) (he : e ≤ 50) (hg : gn ≤ 10) : Bd (ob1 S S' p e gn) := by
  have bT := B_T hB 0
  have hB' := hJ.1
  intro g i
  by_cases h15 : g ≤ 15
  · rw [ob1_s h15]; exact hB g i
  · show (if g ≤ 15 then S.1 g i else if g = 20 then p else if g = 21 then e else if g = 22 then gn else if g = 28 then S'.1 28 i else if g = 29 then (if i < S.1 9 0 then S.1 29 i else S'.1 29 i) else if g = 30 then (if i < S.1 9 0 then 0 else if i < 10 then S'.1 30 i else 0) else if g = 31 then (if i < S.1 9 0 then 0 else S'.1 31 i) else if g = 32 then (if i < S.1 9 0 then 0 else S'.1 32 i) else if g = 35 then (if i < S.1 9 0 then i else S'.1 35 i) else if g = 36 then S.1 9 0 else if g = 38 then S'.1 38 i else 0) ≤ bnd g
    rw [if_neg h15]
    split
    · next z => rw [z]; exact hp
    split
    · next z => rw [z]; exact he
    split
    · next z => rw [z]; exact hg
    split
    · next z => rw [z]; exact hB' 28 i
    split
    · next z =>
      rw [z]
      split
      · exact hB 29 i
      · exact hB' 29 i
    split
    · next z =>
      rw [z]
      split
      · exact Nat.zero_le _
      · split
        · exact hB' 30 i
        · exact Nat.zero_le _
    split
    · next z =>
      rw [z]
      split
      · exact Nat.zero_le _
      · exact hB' 31 i
    split
    · next z =>
      rw [z]
      split
      · exact Nat.zero_le _
      · exact hB' 32 i
    split
    · next z =>
      rw [z]
      split
      · show i ≤ 1073741824; omega
      · exact hB' 35 i
    split
    · next z => rw [z]; show S.1 9 0 ≤ 1073741824; omega
    split
    · next z => rw [z]; exact hB' 38 i
    · exact Nat.zero_le _
theorem ob1_29 {i : Nat} : (ob1 S S' p e gn).1 29 i = if i < S.1 9 0 then S.1 29 i else S'.1 29 i := rfl
theorem ob1_30 {i : Nat} : (ob1 S S' p e gn).1 30 i = if i < S.1 9 0 then 0 else if i < 10 then S'.1 30 i else 0 := rfl
theorem ob1_30z (hJ : Jw S S') {i : Nat} : (ob1 S S' p e gn).1 30 i = 0 := by
  rw [ob1_30]
  split
  · rfl
  · split
    · exact hJ.2.2 i (by assumption) (by omega)
    · rfl
theorem mem_onq {t a u : Nat} : u ∈ onq S t a ↔ (u < t ∧ S.1 29 u = a) := by
  unfold onq onN
  rw [List.mem_filter, List.mem_range, decide_eq_true_eq]
theorem ob1_Qi : Qi (ob1 S S' p e gn) := by
  have e9 : (ob1 S S' p e gn).1 9 = S.1 9 := ob1_sf (by decide)
  refine ⟨fun a ha => ⟨fun u => ?_, ?_⟩, fun u hu => ?_⟩
  · show u ∈ onq S (S.1 9 0) a ↔ _
    rw [mem_onq, e9, ob1_29]
    constructor
    · rintro ⟨q1, q2⟩; exact ⟨q1, by rw [if_pos q1]; exact q2⟩
    · rintro ⟨q1, q2⟩; rw [if_pos q1] at q2; exact ⟨q1, q2⟩
  · show (onq S (S.1 9 0) a).Pairwise _
    have h1 : (List.range (S.1 9 0)).Pairwise (fun u v => u < v) := List.pairwise_lt_range
    refine List.Pairwise.imp_of_mem ?_ (h1.sublist (List.filter_sublist (p := onN S a)))
    intro u v hu hv q
    have u1 := (mem_onq.mp hu).1
    have v1 := (mem_onq.mp hv).1
    show (if u < S.1 9 0 then u else S'.1 35 u) < (if v < S.1 9 0 then v else S'.1 35 v)
    rw [if_pos u1, if_pos v1]; exact q
  · rw [e9] at hu
    show (if u < S.1 9 0 then u else S'.1 35 u) < S.1 9 0
    rw [if_pos hu]; exact hu
theorem ob1_Tw (hPI : PI S) (hJ : Jw S S') (hp : p ≤ 2) (he : e ≤ 50) (hg : gn ≤ 10) : Tw 145 (ob1 S S' p e gn) := by
  obtain ⟨⟨⟨⟨hB, h2, hat, hl, hrh⟩, hHp, hFn, hCv, h30⟩, hcap, hLz, hQi, hUw⟩, -⟩ := hPI
  have hB1 := ob1_Bd (p := p) (e := e) (gn := gn) hB hJ hp he hg
  have e0 : (ob1 S S' p e gn).1 0 = S.1 0 := ob1_sf (by decide)
  have e1 : (ob1 S S' p e gn).1 1 = S.1 1 := ob1_sf (by decide)
  have e3 : (ob1 S S' p e gn).1 3 = S.1 3 := ob1_sf (by decide)
  have e5 : (ob1 S S' p e gn).1 5 = S.1 5 := ob1_sf (by decide)
  have e6 : (ob1 S S' p e gn).1 6 = S.1 6 := ob1_sf (by decide)
  have e9 : (ob1 S S' p e gn).1 9 = S.1 9 := ob1_sf (by decide)
  refine ⟨⟨⟨hB1, by rw [e0]; exact h2, fun t => ?_, fun q => ?_, fun a b ha hb hr => ?_⟩, Hp_of hHp e0 e3 e5 e6, fun q k hk => ?_, fun q => ?_, fun t => ?_⟩, ⟨fun z => absurd z (by decide), fun _ => ?_⟩, fun i _ => ob1_0 (by decide), ob1_Qi, fun a => ?_⟩
  · rw [e0, ob1_29]
    split
    · exact hat t
    · have := hJ.2.1 t; omega
  · rw [e0, ob1_0 (by decide)]; exact Nat.zero_le _
  · rw [e0] at ha hb
    rw [e5] at hr
    rw [rhS_eq e0 e3 e5]; exact hrh a b ha hb hr
  · rw [ob1_0 (by decide)] at hk; exact absurd hk (by omega)
  · rw [ob1_0 (g := 25) (by decide), ob1_0 (g := 24) (by decide)]
    exact ⟨fun _ => rfl, fun _ => rfl, fun z => absurd z (by decide)⟩
  · rw [ob1_30z hJ]; exact Nat.zero_le _
  · rw [ob1_0 (g := 34) (by decide), ob1_0 (g := 39) (by decide)]
  · rw [e9, e1]
    have : ∀ n, n ≤ S.1 9 0 → uwS (ob1 S S' p e gn) a n = 0 := by
      intro n
      induction n with
      | zero => intro _; rfl
      | succ n ih =>
        intro hn
        rw [uwS, ih (by omega)]
        have z : (ob1 S S' p e gn).1 31 n = 0 := by
          show (if n < S.1 9 0 then 0 else S'.1 31 n) = 0
          rw [if_pos (by omega)]
        rw [z, if_neg (fun q => absurd q.2 (by decide))]
    rw [this _ (Nat.le_refl _)]; exact Nat.zero_le _
theorem ob1_Tk : Tk (ob1 S S' p e gn) (fun _ => 0) := by
  intro a _
  have : ∀ n, tk (ob1 S S' p e gn) a n = 0 := by
    intro n
    induction n with
    | zero => rfl
    | succ n ih => rw [tk, ih]; unfold tkC; rw [ob1_0 (by decide), if_pos rfl]
  exact (this _).symm
theorem ob1_rep {σ : Mm} {r : Nat → Nat} (h : RepC 145 σ (rl1 (pr1 (obW S r (S.1 9 0)) (S.1 14 0) (S.1 15 0)) p e gn) (fun _ => 0)) : RepC 145 σ (ob1 S S' p e gn) (fun _ => 0) := by
  obtain ⟨X, hX⟩ : ∃ X, X = rl1 (pr1 (obW S r (S.1 9 0)) (S.1 14 0) (S.1 15 0)) p e gn := ⟨_, rfl⟩
  rw [← hX] at h
  have x1 : ∀ g i, X.1 g i = if g = 22 ∧ i = 0 then gn else if g = 21 ∧ i = 0 then e else if g = 20 ∧ i = 0 then p else if g = 15 ∧ i = 0 then S.1 15 0 else if g = 14 ∧ i = 0 then S.1 14 0 else if g = 9 ∧ i = 0 then S.1 9 0 else if g = 29 ∧ i < S.1 9 0 then S.1 29 i else if g = 7 ∧ i = 0 then S.1 7 0 else if g = 8 ∧ i < S.1 7 0 then S.1 8 i else (ob0 S r).1 g i := fun g i => by rw [hX]; rfl
  have x2 : X.2.1 = (ob1 S S' p e gn).2.1 := by rw [hX]; rfl
  have x3 : X.2.2 = (ob1 S S' p e gn).2.2 := by rw [hX]; rfl
  have y0 : X.1 0 0 = S.1 0 0 := by rw [x1]; rfl
  have y7 : X.1 7 0 = S.1 7 0 := by rw [x1]; rfl
  have y9 : X.1 9 0 = S.1 9 0 := by rw [x1]; rfl
  have y39 : X.1 39 0 = 0 := by rw [x1]; rfl
  have z7 : (ob1 S S' p e gn).1 7 0 = S.1 7 0 := ob1_s (by decide)
  obtain ⟨h1, h2, h3, h4, h5⟩ := h
  refine ⟨fun g i hi hd => ?_, fun g i hi hd => ?_, fun q k hq hk => ?_, h4, fun a ha => ?_⟩
  · have hd' : dmC X g i := (dmC_eq (by rw [y0]; exact (ob1_s (by decide))) (by rw [y7]; exact (ob1_s (by decide))) (by rw [y9]; exact (ob1_s (by decide))) g i).mp hd
    rw [h1 g i hi hd']
    congr 1
    have hg := szC_lt hi
    rw [x1]
    rcases (show g ≤ 6 ∨ g = 7 ∨ g = 8 ∨ g = 9 ∨ (10 ≤ g ∧ g ≤ 13) ∨ g = 14 ∨ g = 15 ∨ (16 ≤ g ∧ g ≤ 19) ∨ g = 20 ∨ g = 21 ∨ g = 22 ∨ (g = 23 ∨ g = 24 ∨ g = 25 ∨ g = 26 ∨ g = 27 ∨ g = 33 ∨ g = 34 ∨ g = 37 ∨ g = 39) ∨ g = 28 ∨ g = 29 ∨ g = 30 ∨ g = 31 ∨ g = 32 ∨ g = 35 ∨ g = 36 ∨ g = 38 from by omega) with hh | rfl | rfl | rfl | hh | rfl | rfl | hh | rfl | rfl | rfl | hh | rfl | rfl | rfl | rfl | rfl | rfl | rfl | rfl
    · rw [ob1_s (by omega), if_neg (by omega), if_neg (by omega), if_neg (by omega), if_neg (by omega), if_neg (by omega), if_neg (by omega), if_neg (by omega), if_neg (by omega), if_neg (by omega)]; exact if_pos (Or.inl hh)
    · have : i = 0 := sz7 hi
      subst this; rw [ob1_s (by decide)]; rfl
    · have : i < S.1 7 0 := by have q : i < (ob1 S S' p e gn).1 7 0 := hd; rw [z7] at q; exact q
      rw [ob1_s (by decide), if_neg (by omega), if_neg (by omega), if_neg (by omega), if_neg (by omega), if_neg (by omega), if_neg (by omega), if_neg (by omega), if_neg (by omega), if_pos ⟨rfl, this⟩]
    · have : i = 0 := sz9 hi
      subst this; rw [ob1_s (by decide)]; rfl
    · rw [ob1_s (by omega), if_neg (by omega), if_neg (by omega), if_neg (by omega), if_neg (by omega), if_neg (by omega), if_neg (by omega), if_neg (by omega), if_neg (by omega), if_neg (by omega)]; exact if_pos (Or.inr hh)
    · have : i = 0 := by have q : i < 1 := hi; omega
      subst this; rw [ob1_s (by decide)]; rfl
    · have : i = 0 := by have q : i < 1 := hi; omega
      subst this; rw [ob1_s (by decide)]; rfl
    · rcases (show g = 16 ∨ g = 17 ∨ g = 18 ∨ g = 19 from by omega) with rfl | rfl | rfl | rfl <;> exact absurd (show i < 0 from hi) (by omega)
    · have : i = 0 := by have q : i < 1 := hi; omega
      subst this; rfl
    · have : i = 0 := by have q : i < 1 := hi; omega
      subst this; rfl
    · have : i = 0 := by have q : i < 1 := hi; omega
      subst this; rfl
    · rw [ob1_0 hh, if_neg (by omega), if_neg (by omega), if_neg (by omega), if_neg (by omega), if_neg (by omega), if_neg (by omega), if_neg (by omega), if_neg (by omega), if_neg (by omega)]
      show (if g ≤ 6 ∨ (10 ≤ g ∧ g ≤ 13) then S.1 g i else if 14 ≤ g ∧ g ≤ 22 then r g else 0) = 0
      rw [if_neg (by omega), if_neg (by omega)]
    · exact absurd (show i < 0 from hi) (by omega)
    · have : i < S.1 9 0 := by have q : i < (ob1 S S' p e gn).1 9 0 := hd; rw [ob1_s (by decide)] at q; exact q
      rw [ob1_29, if_pos this, if_neg (by omega), if_neg (by omega), if_neg (by omega), if_neg (by omega), if_neg (by omega), if_neg (by omega), if_pos ⟨rfl, this⟩]
    · have : i < S.1 9 0 := by have q : i < (ob1 S S' p e gn).1 9 0 := hd; rw [ob1_s (by decide)] at q; exact q
      rw [ob1_30, if_pos this]; rfl
    · have : i < S.1 9 0 := by have q : i < (ob1 S S' p e gn).1 9 0 := hd; rw [ob1_s (by decide)] at q; exact q
      rw [show (ob1 S S' p e gn).1 31 i = if i < S.1 9 0 then 0 else S'.1 31 i from rfl, if_pos this]; rfl
    · have : i < S.1 9 0 := by have q : i < (ob1 S S' p e gn).1 9 0 := hd; rw [ob1_s (by decide)] at q; exact q
      rw [show (ob1 S S' p e gn).1 32 i = if i < S.1 9 0 then 0 else S'.1 32 i from rfl, if_pos this]; rfl
    · exact absurd (show i < 0 from hi) (by omega)
    · exact absurd (show i < 0 from hi) (by omega)
    · exact absurd (show i < 0 from hi) (by omega)
  · have hd' : dmV X g i := (dmV_eq (by rw [y7]; exact (ob1_s (by decide))) (by rw [y9]; exact (ob1_s (by decide))) (by rw [y39]; exact ob1_0 (by decide)) g i).mp hd
    rw [h2 g i hi hd', x2]
  · rw [ob1_0 (by decide)] at hk; exact absurd hk (by omega)
  · have q := h5 a ha
    rw [x3] at q; exact q
end
theorem ob1_Cn {S S' : Sx} {p e gn : Nat} (hB : Bd S) : Cn 200 (ob1 S S' p e gn) := by
  have bT := B_T hB 0
  refine ⟨?_, ?_⟩
  · rw [ob1_0 (by decide)]; decide
  · show S.1 9 0 + 10 * 200 + 20 ≤ 1073741824; omega
abbrev okOt (x y z t : Int32) : Bool := okRule x y z && rg t 1 200
def aOther (S S' : Sx) (x y z t : Int32) : Int32 := if okOt x y z t = true then (otN (nN t) (ob1 S S' (nN x) (nN y) (nN z))).2.1 3 0 else -1
theorem cl_oth {σ0 : Mm} {S : Sx} {n p e gn : Nat} {K : Option Value → Mm → Prop} (hn : n ≤ 200) (hTw : Tw 145 S) (hc : Cn n S) (hK : ∀ τ Tf A, Cq 145 σ0 (otN n S) Tf A τ → K (some (.int ((otN n S).2.1 3 0))) τ) : ∀ k i σ Tf A, i + k = n → Cq 145 σ0 (otN i S) Tf A σ → Tk (otN i S) Tf → G W0 mX11_other K 50 [some (.ref 0), some (.int (nI p)), some (.int (nI e)), some (.int (nI gn)), some (.int (nI n)), some (.int (nI i))] [] σ := by
  have hb1 : mch 145 := Or.inr rfl
  intro k
  induction k with
  | zero =>
    intro i σ Tf A hi hQ hTk
    have e9 : i = n := by omega
    rw [e9] at hQ
    have hR := hQ.1
    refine g_iload dX11_other_50 rfl ?_
    refine g_iload dX11_other_52 rfl ?_
    refine gt_icmp_ge (tgt := 70) dX11_other_54 (by decide) (by omega) (by omega) (by omega) ?_
    refine gs_aload_n dX11_other_70 rfl rfl ?_
    refine g_getR dX11_other_71 fX11_36 kFC (by decide) rFC_trial ?_
    refine g_getI dX11_other_74 fX11_287 (kMa hb1) (by decide) (CV_cost hR) ?_
    refine g_ireturn dX11_other_77 rfl ?_
    exact hK σ Tf A hQ
  | succ k ih =>
    intro i σ Tf A hi hQ hTk
    have hR := hQ.1
    obtain ⟨i1, i2, i3, i4⟩ := otN_inv hb1 hTw hc i (by omega)
    have h1 : (otN i S).1 23 0 + 100 < 1073741824 := by have := hc.1; omega
    have h2 : (otN i S).1 36 0 + 10 ≤ 1073741824 := by have := hc.2; omega
    refine g_iload dX11_other_50 rfl ?_
    refine g_iload dX11_other_52 rfl ?_
    refine gf_icmp_ge (tgt := 70) dX11_other_54 (by decide) (by omega) (by omega) (by omega) ?_
    refine gs_aload_n dX11_other_57 rfl rfl ?_
    refine g_getR dX11_other_58 fX11_36 kFC (by decide) rFC_trial ?_
    refine g_cVV0 dX11_other_61 vX11_182 (by decide) (kMa hb1) (by decide) (Nat.le_of_ble_eq_true rfl) (c_doTick hb1 hR i1.1.1.1 hTk i1 h1 h2) ?_
    rintro σ ⟨Tf9, A9, hQ9, hT9⟩
    have hQ := hQ.tr hQ9
    refine gs_iinc (ls' := [_, _, _, _, _, _]) dX11_other_64 rfl (nI_add _ 1) rfl rfl ?_
    refine g_goto (tgt := 50) dX11_other_67 (by decide) ?_
    exact ih (i + 1) σ Tf9 A9 (by omega) hQ hT9
theorem CI.tr {σ τ : Mm} {S X : Sx} {H : Hx} {Tf' : Nat → Nat} {A : Nat → Int32} (h : CI σ S H) (hB : Bd S) (hQ : Cq 145 (bg0 σ) X Tf' A τ) (hX : Bd X) (h34 : X.1 34 0 = 0) (h39 : X.1 39 0 = 0) : CI τ S H ∧ frK σ τ := by
  obtain ⟨⟨Tf, h1, h2⟩, h3, -⟩ := h
  obtain ⟨k1, ⟨k2, k3⟩, k4⟩ := hQ
  have hfr : ∀ a, a < 145 ∨ 233 ≤ a → τ.1 a = σ.1 a := fun a ha => by rw [k3 a (by omega), bg0_o (by omega)]
  refine ⟨⟨⟨Tf, h1.fr1 hB (fun a ha => hfr a (Or.inl ha)), h2⟩, h3.fr (fun a h1 h2 => hfr a (by omega)), ?_⟩, fun a ha => hfr a (by omega), k2⟩
  refine ⟨?_, ?_, fun g => X.1 g 0, fun g => hX g 0, C_placing k1, C_every k1, C_gain k1, C_faultPrice k1, C_movePrice k1⟩
  · have q := C_cap k1; rw [h39] at q; exact q
  · have q := C_logged k1; rw [h34] at q; exact q
theorem a_other {σ : Mm} {S : Sx} {H : Hx} (hJ : CI σ S H) (hPI : PI S) (x y z t : Int32) {S' : Sx} (hJw : Jw S S') : RI W0 mX11_other [.ref 0, .int x, .int y, .int z, .int t] σ (fun r τ => r = aOther S S' x y z t ∧ CI τ (S) H ∧ frK σ τ) := by
  have hJ0 := hJ
  obtain ⟨⟨Tf, hR, hTk⟩, hSh, hTr1, hTr2⟩ := hJ
  have hb : mch 57 := Or.inl rfl
  have hB : Bd S := hPI.1.1.1.1
  have b0 := B_nodes hB 0
  have bP := B_P hB 0
  have bT := B_T hB 0
  refine G.met (by decide) (Nat.le_of_ble_eq_true rfl) ?_
  show G _ _ _ 0 [some (.ref 0), some (.int x), some (.int y), some (.int z), some (.int t), none] [] σ
  have hb1 : mch 145 := Or.inr rfl
  refine gs_iload_n dX11_other_0 rfl rfl ?_
  refine gs_iload_n dX11_other_1 rfl rfl ?_
  refine gs_iload_n dX11_other_2 rfl rfl ?_
  refine g_cSI3 dX11_other_3 vX11_122 (by decide) (Nat.le_of_ble_eq_true rfl) (c_ruleOk _ _ _) ?_
  rintro _ σ ⟨rfl, e9⟩
  subst e9
  refine gb_if_eq (tgt := 21) dX11_other_6 (by decide) (fun c6 => ?_) (fun c6 => ?_)
  · refine g_iconst (v := -1) dX11_other_21 (by decide) ?_
    refine g_ireturn dX11_other_22 rfl ?_
    exact ⟨_, rfl, by rw [aOther, if_neg (nb1 c6)], hJ0, frK.rf _⟩
  · refine g_iload dX11_other_9 rfl ?_
    refine g_iconst (v := nI 1) dX11_other_11 (by decide) ?_
    refine g_sipush (v := nI 200) dX11_other_12 (by decide) ?_
    refine g_cSI3 dX11_other_15 vX11_50 (by decide) (Nat.le_of_ble_eq_true rfl) (c_within (by decide) (by decide)) ?_
    rintro _ σ ⟨rfl, e9⟩
    subst e9
    refine gb_if_ne (tgt := 23) dX11_other_18 (by decide) (fun c18 => ?_) (fun c18 => ?_)
    · obtain ⟨d1, d2⟩ := Bool.and_eq_true_iff.mp c6
      obtain ⟨d2, d3⟩ := Bool.and_eq_true_iff.mp d2
      obtain ⟨p, hpl, hp, rfl⟩ := rg_of d1
      obtain ⟨e, hel, he, rfl⟩ := rg_of d2
      obtain ⟨gn, hgl, hg, rfl⟩ := rg_of d3
      obtain ⟨n, hnl, hn, rfl⟩ := rg_of c18
      have hcn : Cn n (ob1 S S' p e gn) := ⟨by have := (ob1_Cn (S' := S') (p := p) (e := e) (gn := gn) hB).1; omega, by have := (ob1_Cn (S' := S') (p := p) (e := e) (gn := gn) hB).2; omega⟩
      have hTw := ob1_Tw (p := p) (e := e) (gn := gn) hPI hJw hp he hg
      obtain ⟨i1, i2, i3, i4⟩ := otN_inv (Or.inr rfl) hTw hcn n (Nat.le_refl _)
      have eA : aOther S S' (nI p) (nI e) (nI gn) (nI n) = (otN n (ob1 S S' p e gn)).2.1 3 0 := by rw [aOther, if_pos (yb c6 c18), nN_n (by omega), nN_n (by omega), nN_n (by omega), nN_n (by omega)]
      have e39 : (otN n (ob1 S S' p e gn)).1 39 0 = 0 := by rw [i4 39 rfl (by decide) (by decide) (by decide)]; exact ob1_0 (by decide)
      have e34 : (otN n (ob1 S S' p e gn)).1 34 0 = 0 := by rw [i1.2.1.2 rfl]; exact e39
      refine gs_aload_n dX11_other_23 rfl rfl ?_
      refine g_getR dX11_other_24 fX11_36 kFC (by decide) rFC_trial ?_
      refine gs_aload_n dX11_other_27 rfl rfl ?_
      refine g_getR dX11_other_28 fX11_32 kFC (by decide) rFC_machine ?_
      refine g_cVV1 dX11_other_31 vX11_283 (by decide) (kMa hb1) (by decide) (Nat.le_of_ble_eq_true rfl) (r_beginLike hR hB hJ0.2.2) ?_
      rintro τ ⟨r, A9, hr, hQ⟩
      refine gs_aload_n dX11_other_34 rfl rfl ?_
      refine g_getR dX11_other_35 fX11_36 kFC (by decide) rFC_trial ?_
      refine g_getR dX11_other_38 fX11_125 (kMa hb1) (by decide) (rMa_rules hb1) ?_
      refine gs_iload_n dX11_other_41 rfl rfl ?_
      refine gs_iload_n dX11_other_42 rfl rfl ?_
      refine gs_iload_n dX11_other_43 rfl rfl ?_
      refine g_cVV3 dX11_other_44 vX11_129 (by decide) (kMa_rules hb1) (by decide) (Nat.le_of_ble_eq_true rfl) (c_choose hb1 hQ.1 (show Bd (pr1 (obW S r (S.1 9 0)) (S.1 14 0) (S.1 15 0)) from Bd_setN (Bd_setN (Bd_obW hB hr bT) (B_faultPrice hB 0)) (B_movePrice hB 0)) (p := p) (e := e) (g := gn) hp he) ?_
      rintro τ hQ9
      have hQ := hQ.tr hQ9
      have hQ : Cq 145 (bg0 σ) (ob1 S S' p e gn) (fun _ => 0) _ τ := ⟨ob1_rep hQ.1, hQ.2⟩
      refine g_iconst (v := nI 0) dX11_other_47 (by decide) ?_
      refine gs_istore (ls' := [_, _, _, _, _, _]) dX11_other_48 rfl rfl ?_
      exact cl_oth hn hTw hcn (fun τ Tf9 A9 hQ9 => ⟨_, rfl, eA.symm, hJ0.tr hB hQ9 i1.1.1.1 e34 e39⟩) n 0 _ _ _ (by omega) hQ ob1_Tk
    · refine g_iconst (v := -1) dX11_other_21 (by decide) ?_
      refine g_ireturn dX11_other_22 rfl ?_
      exact ⟨_, rfl, by rw [aOther, if_neg (nb2 (nbf c18))], hJ0, frK.rf _⟩
