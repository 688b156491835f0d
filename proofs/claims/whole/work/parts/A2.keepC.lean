/-! What the calls keep, pure: run. -/
def Sme (S X : Sx) : Prop := (∀ g, g = 0 ∨ g = 7 ∨ g = 9 ∨ g = 30 ∨ g = 34 → X.1 g = S.1 g) ∧ (∀ g, g = 16 ∨ g = 18 → X.2.1 g = S.2.1 g) ∧ (∀ g p, g = 25 ∨ g = 26 ∨ g = 27 → S.1 7 0 ≤ p → X.1 g p = S.1 g p) ∧ (∀ g t, g = 31 ∨ g = 32 → S.1 9 0 ≤ t → X.1 g t = S.1 g t) ∧ (∀ g p, g = 7 ∨ g = 8 → S.1 7 0 ≤ p → X.2.1 g p = S.2.1 g p) ∧ (∀ i, 4 * S.1 7 0 ≤ i → X.2.1 9 i = S.2.1 9 i) ∧ (∀ g t, g = 10 ∨ g = 11 ∨ g = 12 → S.1 9 0 ≤ t → X.2.1 g t = S.2.1 g t)
theorem Sme_rf (S : Sx) : Sme S S := ⟨fun _ _ => rfl, fun _ _ => rfl, fun _ _ _ _ => rfl, fun _ _ _ _ => rfl, fun _ _ _ _ => rfl, fun _ _ => rfl, fun _ _ _ _ => rfl⟩
theorem Sme.tr {S X Y : Sx} (h1 : Sme S X) (h2 : Sme X Y) : Sme S Y := by
  obtain ⟨a1, a2, a3, a4, a5, a6, a7⟩ := h1
  obtain ⟨b1, b2, b3, b4, b5, b6, b7⟩ := h2
  have e7 := congrFun (a1 7 (by omega)) 0
  have e9 := congrFun (a1 9 (by omega)) 0
  exact ⟨fun g hg => (b1 g hg).trans (a1 g hg), fun g hg => (b2 g hg).trans (a2 g hg), fun g p hg hp => (b3 g p hg (by omega)).trans (a3 g p hg hp), fun g p hg hp => (b4 g p hg (by omega)).trans (a4 g p hg hp), fun g p hg hp => (b5 g p hg (by omega)).trans (a5 g p hg hp), fun i hi => (b6 i (by omega)).trans (a6 i hi), fun g p hg hp => (b7 g p hg (by omega)).trans (a7 g p hg hp)⟩
theorem Sme.N {S X : Sx} (h : Sme S X) {g i v : Nat} (h1 : g ≠ 0 ∧ g ≠ 7 ∧ g ≠ 9 ∧ g ≠ 30 ∧ g ≠ 34) (h2 : g = 25 ∨ g = 26 ∨ g = 27 → i < S.1 7 0) (h3 : g = 31 ∨ g = 32 → i < S.1 9 0) : Sme S (setN X g i v) := by
  obtain ⟨a1, a2, a3, a4, a5, a6, a7⟩ := h
  refine ⟨fun g' hg => by rw [setN_ne (by omega)]; exact a1 g' hg, a2, fun g' p hg hp => ?_, fun g' p hg hp => ?_, a5, a6, a7⟩
  · rw [setN_at, if_neg (fun z => by have := h2 (by rw [← z.1]; exact hg); omega)]; exact a3 g' p hg hp
  · rw [setN_at, if_neg (fun z => by have := h3 (by rw [← z.1]; exact hg); omega)]; exact a4 g' p hg hp
theorem Sme.V {S X : Sx} (h : Sme S X) {g i : Nat} {v : Int32} (h1 : g ≠ 16 ∧ g ≠ 18) (h2 : g = 7 ∨ g = 8 → i < S.1 7 0) (h3 : g = 9 → i < 4 * S.1 7 0) (h4 : g = 10 ∨ g = 11 ∨ g = 12 → i < S.1 9 0) : Sme S (setV X g i v) := by
  obtain ⟨a1, a2, a3, a4, a5, a6, a7⟩ := h
  have e : ∀ g' i', (setV X g i v).2.1 g' i' = if g' = g ∧ i' = i then v else X.2.1 g' i' := fun _ _ => rfl
  refine ⟨a1, fun g' hg => by rw [setV_vne (by omega)]; exact a2 g' hg, a3, a4, fun g' p hg hp => ?_, fun i' hi => ?_, fun g' p hg hp => ?_⟩
  · rw [e, if_neg (fun z => by have := h2 (by rw [← z.1]; exact hg); omega)]; exact a5 g' p hg hp
  · rw [e, if_neg (fun z => by have := h3 z.1.symm; omega)]; exact a6 i' hi
  · rw [e, if_neg (fun z => by have := h4 (by rw [← z.1]; exact hg); omega)]; exact a7 g' p hg hp
theorem Sme.Q {S X : Sx} (h : Sme S X) {a : Nat} {q : List Nat} : Sme S (setQ X a q) := h
theorem Sme.N0 {S X : Sx} (h : Sme S X) {g i v : Nat} (h1 : g ≠ 0 ∧ g ≠ 7 ∧ g ≠ 9 ∧ g ≠ 30 ∧ g ≠ 34 ∧ g ≠ 25 ∧ g ≠ 26 ∧ g ≠ 27 ∧ g ≠ 31 ∧ g ≠ 32) : Sme S (setN X g i v) := h.N (by omega) (fun z => by omega) (fun z => by omega)
theorem Sme.V0 {S X : Sx} (h : Sme S X) {g i : Nat} {v : Int32} (h1 : g < 7 ∨ g = 13 ∨ g = 14 ∨ g = 15 ∨ g = 17) : Sme S (setV X g i v) := h.V (by omega) (fun z => by omega) (fun z => by omega) (fun z => by omega)
theorem Sme.Np {S X : Sx} (h : Sme S X) {g i v : Nat} (h1 : g = 25 ∨ g = 26 ∨ g = 27) (hi : i < S.1 7 0) : Sme S (setN X g i v) := h.N (by omega) (fun _ => hi) (fun z => by omega)
theorem Sme.Nt {S X : Sx} (h : Sme S X) {g i v : Nat} (h1 : g = 31 ∨ g = 32) (hi : i < S.1 9 0) : Sme S (setN X g i v) := h.N (by omega) (fun z => by omega) (fun _ => hi)
theorem Sme.Vp {S X : Sx} (h : Sme S X) {g i : Nat} {v : Int32} (h1 : g = 7 ∨ g = 8) (hi : i < S.1 7 0) : Sme S (setV X g i v) := h.V (by omega) (fun _ => hi) (fun z => by omega) (fun z => by omega)
theorem Sme.Vt {S X : Sx} (h : Sme S X) {g i : Nat} {v : Int32} (h1 : g = 10 ∨ g = 11 ∨ g = 12) (hi : i < S.1 9 0) : Sme S (setV X g i v) := h.V (by omega) (fun z => by omega) (fun z => by omega) (fun _ => hi)
theorem Sme.ul {S : Sx} {b : Nat} : ∀ k X h, Sme S X → Sme S (ulS b k X h) := by
  intro k
  induction k with
  | zero => intro X h hX; exact hX
  | succ k ih =>
    intro X h hX
    simp only [ulS]
    split
    · exact hX
    · exact ih _ _ ((hX.N0 (by decide)).V0 (by decide))
theorem Sme.kf {S X : Sx} (h : Sme S X) {p a : Nat} (hp : p < S.1 7 0) : Sme S (kfS X p a) := by
  unfold kfS
  split
  · exact (((((h.N0 (by decide)).N0 (by decide)).N0 (by decide)).Np (by decide) hp).N0 (by decide)).Np (by decide) hp
  · exact (h.N0 (by decide)).Np (by decide) hp
theorem Sme.ft {S X : Sx} (h : Sme S X) {p a : Nat} (hp : p < S.1 7 0) : Sme S (ftS X p a) := by
  have h2 : Sme S (ft2 X p a) := by unfold ft2 ft1; exact ((h.Np (by decide) hp).V0 (by decide)).kf hp
  unfold ftS
  split
  · unfold ft3; exact ((h2.N0 (by decide)).Vp (by decide) hp).V0 (by decide)
  · exact h2
theorem Sme.fd {S X : Sx} (h : Sme S X) {p a : Nat} (hp : p < S.1 7 0) : Sme S (fdS X p a) := by
  unfold fdS
  split
  · exact h
  · exact h.ft hp
theorem Sme.ac {S X : Sx} (h : Sme S X) {t p c x : Nat} (hp : p < S.1 7 0) (ht : t < S.1 9 0) (hc : c < 4) : Sme S (acS X t p c x) := by
  unfold acS
  split
  · exact h.Vt (by decide) ht
  · exact h.V (by decide) (fun z => by omega) (fun _ => by omega) (fun z => by omega)
theorem Sme.cq {S X : Sx} (h : Sme S X) {p a x : Nat} (hp : p < S.1 7 0) : Sme S (cqS X p a x) := by
  unfold cqS
  split
  · unfold cpS
    split
    · refine Sme.Np ?_ (by decide) hp
      split
      · exact h.N0 (by decide)
      · exact h
    · split
      · exact h
      · exact h.Np (by decide) hp
  · exact h
def K4 (S : Sx) : Prop := Lg S ∧ Gw S ∧ Zp S ∧ Zt S
theorem K4_Sme {S X : Sx} (h : K4 S) (hX : Sme S X) : K4 X := by
  obtain ⟨h1, h2, h3, h4⟩ := h
  obtain ⟨a1, a2, a3, a4, a5, a6, a7⟩ := hX
  have e7 := a1 7 (by omega)
  have e9 := a1 9 (by omega)
  have e30 := a1 30 (by omega)
  refine ⟨?_, ?_, fun p hp => ?_, fun t ht => ?_⟩
  · unfold Lg; rw [a1 34 (by omega), a1 0 (by omega), e7, a2 16 (by omega)]; exact h1
  · unfold Gw; rw [e30, a2 18 (by omega)]; exact h2
  · rw [e7] at hp
    rw [a3 25 p (by omega) hp, a3 26 p (by omega) hp, a3 27 p (by omega) hp, a5 7 p (by omega) hp, a5 8 p (by omega) hp]
    obtain ⟨q1, q2, q3, q4, q5, q6⟩ := h3 p hp
    exact ⟨q1, q2, q3, q4, q5, fun c hc => by rw [a6 _ (by omega)]; exact q6 c hc⟩
  · rw [e9] at ht
    rw [e30, a4 31 t (by omega) ht, a4 32 t (by omega) ht, a7 10 t (by omega) ht, a7 11 t (by omega) ht, a7 12 t (by omega) ht]
    exact h4 t ht
theorem K4_nx {S : Sx} (h : K4 S) {t : Nat} (ht : t < S.1 9 0) : K4 (setV (setN S 30 t (S.1 30 t + 1)) 18 t (S.2.1 18 t + nI 1)) := by
  obtain ⟨h1, h2, h3, h4⟩ := h
  have e : ∀ g i, (setV (setN S 30 t (S.1 30 t + 1)) 18 t (S.2.1 18 t + nI 1)).1 g i = if g = 30 ∧ i = t then S.1 30 t + 1 else S.1 g i := fun _ _ => rfl
  have e2 : ∀ g i, (setV (setN S 30 t (S.1 30 t + 1)) 18 t (S.2.1 18 t + nI 1)).2.1 g i = if g = 18 ∧ i = t then S.2.1 18 t + nI 1 else S.2.1 g i := fun _ _ => rfl
  refine ⟨h1, fun u => ?_, h3, fun u hu => ?_⟩
  · rw [e, e2]
    by_cases z : u = t
    · rw [if_pos ⟨rfl, z⟩, if_pos ⟨rfl, z⟩, h2 t, nI_add]
    · rw [if_neg (fun y => z y.2), if_neg (fun y => z y.2)]; exact h2 u
  · have hu2 : S.1 9 0 ≤ u := hu
    rw [e, if_neg (fun y => by omega)]
    exact h4 u hu
theorem K4_bl {S : Sx} (h : K4 S) {t p a cost : Nat} (ht : t < S.1 9 0) (hp : p < S.1 7 0) : K4 (blS S t p a cost) := by
  have e : blS S t p a cost = setV (setV (setV (setV (setV (setN (setV (setN S 30 t (S.1 30 t + 1)) 18 t (S.2.1 18 t + nI 1)) 31 t cost) 11 t (S.2.1 11 t + nI cost)) 8 p (S.2.1 8 p + nI cost)) 13 a (S.2.1 13 a + nI cost)) 2 0 (S.2.1 2 0 + nI 1)) 3 0 (S.2.1 3 0 + nI cost) := rfl
  rw [e]
  have hZ := K4_nx h ht
  have t9 : t < (setV (setN S 30 t (S.1 30 t + 1)) 18 t (S.2.1 18 t + nI 1)).1 9 0 := ht
  have p7 : p < (setV (setN S 30 t (S.1 30 t + 1)) 18 t (S.2.1 18 t + nI 1)).1 7 0 := hp
  exact K4_Sme hZ (((((((Sme_rf _).Nt (by decide) t9).Vt (by decide) t9).Vp (by decide) p7).V0 (by decide)).V0 (by decide)).V0 (by decide))
theorem K4_nt {S : Sx} (h : K4 S) {t a x place by0 : Nat} {df dm : Bool} (ha : a < S.1 0 0) (hp : S.1 11 x < S.1 7 0) (hc : S.1 12 x < 4) : K4 (ntS S t a x place by0 df dm) := by
  unfold ntS
  split
  · exact h
  · obtain ⟨h1, h2, h3, h4⟩ := h
    refine ⟨fun i hi => ?_, h2, h3, h4⟩
    have hi2 : i < S.1 34 0 + 1 := hi
    simp only [setN_2]
    by_cases z : i = S.1 34 0
    · refine ⟨a, S.1 11 x, S.1 12 x, ha, hp, hc, ?_, ?_, ?_⟩ <;> (rw [z]; simp [setV])
    · obtain ⟨a', p', c', q1, q2, q3, q4, q5, q6⟩ := h1 i (by omega)
      refine ⟨a', p', c', q1, q2, q3, ?_, ?_, ?_⟩
      · rw [← q4]; simp only [setV]; repeat (first | rw [if_neg (by omega)] | rfl)
      · rw [← q5]; simp only [setV]; repeat (first | rw [if_neg (by omega)] | rfl)
      · rw [← q6]; simp only [setV]; repeat (first | rw [if_neg (by omega)] | rfl)
theorem K4_go {S : Sx} (h : K4 S) {t a x p c place : Nat} (ht : t < S.1 9 0) (hp : p < S.1 7 0) (hc : c < 4) (ha : a < S.1 0 0) (hx : S.1 11 x = p) (hy : S.1 12 x = c) : K4 (goS S t a x p c place) := by
  unfold goS enS
  have hS : Sme S (cqS (acS (fdS (ulS place 3 S a) p a) t p c x) p a x) := (((Sme.ul 3 S a (Sme_rf S)).fd hp).ac hp ht hc).cq hp
  have e0 := hS.1 0 (by omega)
  have e7 := hS.1 7 (by omega)
  have e9 := hS.1 9 (by omega)
  have e11 : (cqS (acS (fdS (ulS place 3 S a) p a) t p c x) p a x).1 11 = S.1 11 := by rw [cqS_ne (by decide) (by decide), acS_1, fdS_ne (by decide) (by decide) (by decide) (by decide), ulS_ne (by decide)]
  have e12 : (cqS (acS (fdS (ulS place 3 S a) p a) t p c x) p a x).1 12 = S.1 12 := by rw [cqS_ne (by decide) (by decide), acS_1, fdS_ne (by decide) (by decide) (by decide) (by decide), ulS_ne (by decide)]
  refine K4_nt (K4_bl (K4_Sme h hS) (by rw [e9]; exact ht) (by rw [e7]; exact hp)) ?_ ?_ ?_
  · rw [blS_ne (by decide) (by decide), e0]; exact ha
  · rw [blS_ne (by decide) (by decide), blS_ne (by decide) (by decide), e11, e7, hx]; exact hp
  · rw [blS_ne (by decide) (by decide), e12, hy]; exact hc
theorem K4_fl {S : Sx} (h : K4 S) {t : Nat} (ht : t < S.1 9 0) : K4 (flS S t) := K4_Sme h (((Sme_rf S).Nt (by decide) ht).V0 (by decide))
theorem K4_rdy {S : Sx} (h : K4 S) {t a x p c : Nat} (ht : t < S.1 9 0) (hp : p < S.1 7 0) (hc : c < 4) (ha : a < S.1 0 0) (hx : S.1 11 x = p) (hy : S.1 12 x = c) : K4 (rdyS S t a x p c) := by
  unfold rdyS
  split
  · exact K4_fl h ht
  · split
    · exact K4_Sme h (((Sme_rf S).Vt (by decide) ht).V0 (by decide))
    · exact K4_go h ht hp hc ha hx hy
theorem K4_try {S : Sx} (h : K4 S) {t : Nat} (ht : t < S.1 9 0) (ha : S.1 29 t < S.1 0 0) : K4 (tryS S t) := by
  unfold tryS tryA
  split
  · exact K4_fl h ht
  · next q =>
    split
    · split
      · exact K4_fl h ht
      · next nd _ =>
        have hS : Sme S (plSt S (S.1 11 (60 * t + S.1 30 t)) nd) := ((Sme_rf S).N0 (by decide)).N0 (by decide)
        have e : ∀ g, g ≠ 23 → g ≠ 24 → (plSt S (S.1 11 (60 * t + S.1 30 t)) nd).1 g = S.1 g := fun g g1 g2 => by unfold plSt; rw [setN_ne g2, setN_ne g1]
        refine K4_rdy (K4_Sme h hS) ?_ ?_ (by omega) ?_ ?_ ?_
        · rw [e 9 (by decide) (by decide)]; exact ht
        · rw [e 7 (by decide) (by decide)]; omega
        · rw [e 0 (by decide) (by decide)]; exact ha
        · rw [e 11 (by decide) (by decide)]
        · rw [e 12 (by decide) (by decide)]
    · exact K4_rdy h ht (by omega) (by omega) ha rfl rfl
theorem K4_sv {a : Nat} : ∀ k S, K4 S → (∀ t, S.1 29 t < S.1 0 0) → K4 (svS a k S) := by
  intro k
  induction k with
  | zero => intro S h _; exact h
  | succ k ih =>
    intro S h hat
    rw [svS]
    split
    · exact h
    · next t ht =>
      split
      · have ht2 := fsS_lt _ _ ht
        refine ih _ (K4_try (K4_Sme h ((Sme_rf S).N0 (by decide))) ?_ ?_) (fun u => ?_)
        · rw [setN_ne (by decide)]; exact ht2
        · rw [setN_ne (by decide), setN_ne (by decide)]; exact hat t
        · rw [tryS_ne rfl, tryS_ne rfl, setN_ne (by decide), setN_ne (by decide)]; exact hat u
      · exact h
theorem K4_nd {S : Sx} (h : K4 S) (hat : ∀ t, S.1 29 t < S.1 0 0) : ∀ a, K4 (ndL S a) ∧ (ndL S a).1 29 = S.1 29 ∧ (ndL S a).1 0 = S.1 0 := by
  intro a
  induction a with
  | zero => exact ⟨h, rfl, rfl⟩
  | succ a ih =>
    rw [ndL, svS_ne rfl (by decide), svS_ne rfl (by decide)]
    exact ⟨K4_sv 10 _ ih.1 (fun t => by rw [ih.2.1, ih.2.2]; exact hat t), ih.2⟩
theorem Sme.ln {S X : Sx} (h : Sme S X) : ∀ k, Sme S (lnL X k) := by
  intro k
  induction k with
  | zero => exact h
  | succ k ih => rw [lnL]; exact ih.N0 (by decide)
theorem Sme.trl {S X : Sx} (h : Sme S X) : ∀ k, Sme S (trL X k) := by
  intro k
  induction k with
  | zero => exact h
  | succ k ih => rw [trL]; exact ih.N0 (by decide)
theorem Sme.fn {S X : Sx} (h : Sme S X) : ∀ k, k ≤ S.1 9 0 → Sme S (fnL X k) := by
  intro k
  induction k with
  | zero => intro _; exact h
  | succ k ih =>
    intro hk
    have i := ih (by omega)
    rw [fnL]
    unfold fn1
    split
    · exact i
    · split
      · unfold rqS; exact (((i.Nt (by decide) (by omega)).N0 (by decide)).N0 (by decide)).Q
      · exact i.Nt (by decide) (by omega)
theorem Sme.hd {S X : Sx} (h : Sme S X) : ∀ k, k ≤ S.1 7 0 → Sme S (hdL X k) := by
  intro k
  induction k with
  | zero => intro _; exact h
  | succ k ih => intro hk; rw [hdL]; exact (ih (by omega)).Np (by decide) (by omega)
theorem K4_ot {S : Sx} (h : K4 S) (hat : ∀ t, S.1 29 t < S.1 0 0) : K4 (otS S) := by
  unfold otS finS tkS
  have h1 : Sme S (trL (lnL S 16) (S.1 9 0)) := ((Sme_rf S).ln 16).trl _
  have h2 := (K4_nd (S := trL (lnL S 16) (S.1 9 0)) (K4_Sme h h1) (fun t => by rw [show (trL (lnL S 16) (S.1 9 0)).1 29 = S.1 29 from tkX_ne (by decide) (by decide), show (trL (lnL S 16) (S.1 9 0)).1 0 = S.1 0 from tkX_ne (by decide) (by decide)]; exact hat t) (S.1 0 0)).1
  generalize ndL (trL (lnL S 16) (S.1 9 0)) (S.1 0 0) = Y at h2 ⊢
  refine K4_Sme h2 (Sme.V0 ?_ (by decide))
  have h3 := (Sme_rf Y).fn (Y.1 9 0) (Nat.le_refl _)
  unfold hdS
  split
  · exact h3.hd _ (by rw [h3.1 7 (by omega)]; exact Nat.le_refl _)
  · exact h3
theorem K4_oN {S : Sx} (h : K4 S) (hTw : Tw 57 S) {n : Nat} (hc : Cn n S) : ∀ k, k ≤ n → K4 (otN k S) := by
  intro k
  induction k with
  | zero => intro _; exact h
  | succ k ih =>
    intro hk
    exact K4_ot (ih (by omega)) (otN_inv (Or.inl rfl) hTw hc k (by omega)).1.1.1.2.2.1
theorem PI_run {S : Sx} (h : PI S) (hc : Cn 200 S) (x : Int32) : PI (nRun S x) := by
  unfold nRun
  split
  · next q =>
    obtain ⟨n, -, hn, rfl⟩ := rg_of q
    rw [nN_n (by omega)]
    obtain ⟨hTw, hSp, hLg, hGw, hRn, hZp, hZt⟩ := h
    obtain ⟨i1, -, -, i4⟩ := otN_inv (Or.inl rfl) hTw hc n (by omega)
    obtain ⟨k1, k2, k3, k4⟩ := K4_oN ⟨hLg, hGw, hZp, hZt⟩ hTw hc n (by omega)
    have e0 := i4 0 rfl (by decide) (by decide) (by decide)
    have e3 := i4 3 rfl (by decide) (by decide) (by decide)
    have e4 := i4 4 rfl (by decide) (by decide) (by decide)
    have e5 := i4 5 rfl (by decide) (by decide) (by decide)
    refine ⟨i1, ?_, k1, k2, fun a b ha hb hr => ?_, k3, k4⟩
    · unfold Sp; rw [e3, e4]; exact hSp
    · rw [e0] at ha hb ⊢; rw [e5] at hr; rw [rhS_eq e0 e3 e5]; exact hRn a b ha hb hr
  · exact h
