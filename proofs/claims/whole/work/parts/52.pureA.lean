/-! What a try keeps (pure), and the reference's finish and oneTick. -/
def tg (g : Nat) : Bool := g == 23 || (g == 24 || (g == 25 || (g == 26 || (g == 27 || (g == 28 || (g == 30 || (g == 31 || (g == 32 || (g == 33 || g == 34)))))))))
theorem ntS_ne {S : Sx} {t a x place by0 g : Nat} {df dm : Bool} (h : g ≠ 34) : (ntS S t a x place by0 df dm).1 g = S.1 g := by
  unfold ntS
  split
  · rfl
  · rw [setN_ne h]; rfl
theorem blS_ne {S : Sx} {t p a cost g : Nat} (h1 : g ≠ 30) (h2 : g ≠ 31) : (blS S t p a cost).1 g = S.1 g := by
  unfold blS
  simp only [setV_1]
  rw [setN_ne h2, setN_ne h1]
theorem acS_1 {S : Sx} {t p c x : Nat} : (acS S t p c x).1 = S.1 := by unfold acS; split <;> rfl
theorem cqS_ne {S : Sx} {p a x g : Nat} (h1 : g ≠ 24) (h2 : g ≠ 25) : (cqS S p a x).1 g = S.1 g := by
  unfold cqS
  split
  · exact cpS_ne h1 h2
  · rfl
theorem fdS_ne {S : Sx} {p a g : Nat} (h0 : g ≠ 24) (h1 : g ≠ 27) (h2 : g ≠ 28) (h3 : g ≠ 26) : (fdS S p a).1 g = S.1 g := by
  unfold fdS
  split
  · rfl
  · exact ftS_ne h0 h1 h2 h3
theorem tg_ne {g k : Nat} (h : tg g = false) (hk : tg k = true) : g ≠ k := fun e => by rw [e, hk] at h; cases h
theorem goS_ne {S : Sx} {t a x p c place g : Nat} (h : tg g = false) : (goS S t a x p c place).1 g = S.1 g := by
  unfold goS enS
  rw [ntS_ne (tg_ne h rfl), blS_ne (tg_ne h rfl) (tg_ne h rfl), cqS_ne (tg_ne h rfl) (tg_ne h rfl), acS_1, fdS_ne (tg_ne h rfl) (tg_ne h rfl) (tg_ne h rfl) (tg_ne h rfl), ulS_ne (tg_ne h rfl)]
theorem rdyS_ne {S : Sx} {t a x p c g : Nat} (h : tg g = false) : (rdyS S t a x p c).1 g = S.1 g := by
  unfold rdyS
  split
  · unfold flS; rw [setV_1, setN_ne (tg_ne h rfl)]
  · split
    · rfl
    · exact goS_ne h
theorem tryA_ne {S : Sx} {t a x p c g : Nat} (h : tg g = false) : (tryA S t a x p c).1 g = S.1 g := by
  unfold tryA
  split
  · unfold flS; rw [setV_1, setN_ne (tg_ne h rfl)]
  · split
    · split
      · unfold flS; rw [setV_1, setN_ne (tg_ne h rfl)]
      · rw [rdyS_ne h]; unfold plSt; rw [setN_ne (tg_ne h rfl), setN_ne (tg_ne h rfl)]
    · exact rdyS_ne h
theorem tryS_ne {S : Sx} {t g : Nat} (h : tg g = false) : (tryS S t).1 g = S.1 g := tryA_ne h
-- links
theorem ulS_33 {b : Nat} (i : Nat) : ∀ k S h, (ulS b k S h).1 33 i ≤ S.1 33 i + k := by
  intro k
  induction k with
  | zero => intro S h; exact Nat.le_refl _
  | succ k ih =>
    intro S h
    simp only [ulS]
    split
    · omega
    · refine Nat.le_trans (ih _ _) ?_
      rw [setV_1, setN_at]
      split
      · next q => rw [q.2]; omega
      · omega
theorem goS_33 {S : Sx} {t a x p c place i : Nat} : (goS S t a x p c place).1 33 i ≤ S.1 33 i + 3 := by
  unfold goS enS
  rw [ntS_ne (by decide), blS_ne (by decide) (by decide), cqS_ne (by decide) (by decide), acS_1, fdS_ne (by decide) (by decide) (by decide) (by decide)]
  exact ulS_33 i 3 S a
theorem rdyS_33 {S : Sx} {t a x p c i : Nat} : (rdyS S t a x p c).1 33 i ≤ S.1 33 i + 3 := by
  unfold rdyS
  split
  · unfold flS; rw [setV_1, setN_ne (by decide)]; omega
  · split
    · show S.1 33 i ≤ _; omega
    · exact goS_33
theorem tryS_33 {S : Sx} {t i : Nat} : (tryS S t).1 33 i ≤ S.1 33 i + 3 := by
  unfold tryS tryA
  split
  · unfold flS; rw [setV_1, setN_ne (by decide)]; omega
  · split
    · split
      · unfold flS; rw [setV_1, setN_ne (by decide)]; omega
      · refine Nat.le_trans rdyS_33 ?_; unfold plSt; rw [setN_ne (by decide), setN_ne (by decide)]; omega
    · exact rdyS_33
-- turns
theorem goS_23 {S : Sx} {t a x p c place : Nat} : (goS S t a x p c place).1 23 = S.1 23 := by
  unfold goS enS
  rw [ntS_ne (by decide), blS_ne (by decide) (by decide), cqS_ne (by decide) (by decide), acS_1, fdS_ne (by decide) (by decide) (by decide) (by decide), ulS_ne (by decide)]
theorem rdyS_23 {S : Sx} {t a x p c : Nat} : (rdyS S t a x p c).1 23 = S.1 23 := by
  unfold rdyS
  split
  · unfold flS; rw [setV_1, setN_ne (by decide)]
  · split
    · rfl
    · exact goS_23
theorem tryS_23 {S : Sx} {t : Nat} : (tryS S t).1 23 0 ≤ S.1 23 0 + 1 := by
  unfold tryS tryA
  split
  · unfold flS; rw [setV_1, setN_ne (by decide)]; omega
  · split
    · split
      · unfold flS; rw [setV_1, setN_ne (by decide)]; omega
      · rw [rdyS_23]; unfold plSt; rw [setN_ne (by decide), setN_at, if_pos ⟨rfl, rfl⟩]; split <;> omega
    · rw [rdyS_23]; omega
-- bounds and places
def Lq (S : Sx) : Prop := ∀ p, S.1 24 p ≤ S.1 0 0
theorem Bd_ntS {S : Sx} {t a x place by0 : Nat} {df dm : Bool} (hB : Bd S) (hc : S.1 34 0 = 300 → S.1 39 0 = 300) : Bd (ntS S t a x place by0 df dm) := by
  have h1 := B_logged hB 0
  unfold ntS
  split
  · exact hB
  · next h =>
    refine Bd_setN hB ?_
    show _ ≤ 300
    have : S.1 34 0 ≠ 300 := fun q => h (by rw [q, hc q])
    omega
theorem goS_Bd {S : Sx} {t a x p c place : Nat} (hB : Bd S) (hn : 2 ≤ S.1 0 0) (ha : a < S.1 0 0) (hL : ∀ i, S.1 33 i ≤ 900) (hnx : S.1 30 t < 60) (hr : S.1 5 (4 * a + place) < 1000) (hc : S.1 34 0 = 300 → S.1 39 0 = 300) (hq : Lq S) : Bd (goS S t a x p c place) ∧ Lq (goS S t a x p c place) := by
  have b0 := B_nodes hB 0
  have hB2 : Bd (ulS place 3 S a) := Bd_ulS 3 S a hB (fun i => by have := hL i; omega)
  have hn2 : 2 ≤ (ulS place 3 S a).1 0 0 := by rw [ulS_ne (g := 0) (by decide)]; exact hn
  have hB3 : Bd (fdS (ulS place 3 S a) p a) := by
    unfold fdS
    split
    · exact hB2
    · exact Bd_ftS hB2 (by omega) hn2
  have hB4 : Bd (acS (fdS (ulS place 3 S a) p a) t p c x) := by intro g i; rw [acS_1]; exact hB3 g i
  have hB5 : Bd (cqS (acS (fdS (ulS place 3 S a) p a) t p c x) p a x) := by
    unfold cqS
    split
    · exact Bd_cpS hB4 (by omega)
    · exact hB4
  have hcost : c0S (ulS place 3 S a) a place + fdC (ulS place 3 S a) p a + cqC (acS (fdS (ulS place 3 S a) p a) t p c x) p a x ≤ 5000 := by
    have h1 : c0S (ulS place 3 S a) a place ≤ 1999 := by
      unfold c0S
      rw [ulS_ne (g := 5) (by decide)]
      have : fz (S.1 5 (4 * a + place)) = S.1 5 (4 * a + place) := if_pos hr
      omega
    have h2 : fdC (ulS place 3 S a) p a ≤ 70 := by
      have := B_faultPrice hB2 0
      have := B_movePrice hB2 0
      unfold fdC ftC
      split
      · omega
      · split <;> omega
    have h3 : cqC (acS (fdS (ulS place 3 S a) p a) t p c x) p a x ≤ 5 := by
      unfold cqC
      split
      · exact cpC_le
      · omega
    omega
  have hB6 := Bd_blS (t := t) (p := p) (a := a) hB5 (by rw [cqS_ne (g := 30) (by decide) (by decide), acS_1, fdS_ne (g := 30) (by decide) (by decide) (by decide) (by decide), ulS_ne (g := 30) (by decide)]; exact hnx) hcost
  constructor
  · unfold goS enS
    refine Bd_ntS hB6 ?_
    rw [blS_ne (g := 34) (by decide) (by decide), cqS_ne (g := 34) (by decide) (by decide), acS_1, fdS_ne (g := 34) (by decide) (by decide) (by decide) (by decide), ulS_ne (g := 34) (by decide), blS_ne (g := 39) (by decide) (by decide), cqS_ne (g := 39) (by decide) (by decide), acS_1, fdS_ne (g := 39) (by decide) (by decide) (by decide) (by decide), ulS_ne (g := 39) (by decide)]
    exact hc
  · intro q
    have e0 : (goS S t a x p c place).1 0 = S.1 0 := goS_ne rfl
    rw [e0]
    unfold goS enS
    rw [ntS_ne (by decide), blS_ne (by decide) (by decide)]
    have h3 : (fdS (ulS place 3 S a) p a).1 24 q ≤ S.1 0 0 := by
      have h0 : (ulS place 3 S a).1 24 q ≤ S.1 0 0 := by rw [ulS_ne (g := 24) (by decide)]; exact hq q
      unfold fdS
      split
      · exact h0
      · unfold ftS
        split
        · have := ftTo_lt (p := p) hB2 (show a ≤ 3 by omega) hn2
          rw [ulS_ne (g := 0) (by decide)] at this
          unfold ft3
          rw [setV_1, setV_1, setN_at]
          split
          · omega
          · rw [ft2_ne (g := 24) (by decide) (by decide) (by decide)]; exact h0
        · rw [ft2_ne (g := 24) (by decide) (by decide) (by decide)]; exact h0
    have h4 : (acS (fdS (ulS place 3 S a) p a) t p c x).1 24 q ≤ S.1 0 0 := by rw [acS_1]; exact h3
    unfold cqS
    split
    · unfold cpS
      split
      · rw [setN_ne (by decide)]
        split
        · rw [setN_at]
          split
          · omega
          · exact h4
        · exact h4
      · split
        · exact h4
        · rw [setN_ne (by decide)]; exact h4
    · exact h4
theorem rdyS_Bd {S : Sx} {t a x p c : Nat} (hB : Bd S) (hn : 2 ≤ S.1 0 0) (ha : a < S.1 0 0) (hL : ∀ i, S.1 33 i ≤ 900) (hnx : S.1 30 t < 60) (hc : S.1 34 0 = 300 → S.1 39 0 = 300) (hq : Lq S) : Bd (rdyS S t a x p c) ∧ Lq (rdyS S t a x p c) := by
  unfold rdyS
  split
  · exact ⟨Bd_setV (Bd_setN hB (by decide)), fun q => by unfold flS; rw [setV_1, setN_ne (by decide), setN_ne (by decide)]; exact hq q⟩
  · next h =>
    split
    · exact ⟨hB, hq⟩
    · refine goS_Bd hB hn ha hL hnx ?_ hc hq
      rcases Nat.lt_or_ge (S.1 5 (4 * a + whS S p c a)) 1000 with z | z
      · exact z
      · exact absurd (decide_eq_false (by omega)) h
theorem tryS_Bd {S : Sx} {t : Nat} (hI : Iv S) (hL : ∀ i, S.1 33 i ≤ 900) (hnx : S.1 30 t < 60) (hc : S.1 34 0 = 300 → S.1 39 0 = 300) (hTu : S.1 23 0 < 1073741824) : Bd (tryS S t) ∧ Lq (tryS S t) := by
  obtain ⟨hB, hn, hat, hln, hrh⟩ := hI
  have b0 := B_nodes hB 0
  have b1 := hat t
  unfold tryS tryA
  have hfl : Bd (flS S t) ∧ Lq (flS S t) := ⟨Bd_setV (Bd_setN hB (by decide)), fun q => by unfold flS; rw [setV_1, setN_ne (by decide), setN_ne (by decide)]; exact hln q⟩
  split
  · exact hfl
  · split
    · split
      · exact hfl
      · next nd hpo =>
        have hnd := plO_lt hn b1 hpo
        have hn0 : (plSt S (S.1 11 (60 * t + S.1 30 t)) nd).1 0 = S.1 0 := by unfold plSt; rw [setN_ne (by decide), setN_ne (by decide)]
        refine rdyS_Bd (Bd_setN (Bd_setN hB (show _ ≤ 1073741824 by split <;> omega)) (show _ ≤ 4 by omega)) (by rw [hn0]; exact hn) (by rw [hn0]; exact b1) hL hnx hc (fun q => ?_)
        rw [hn0]
        unfold plSt
        rw [setN_at]
        split
        · omega
        · rw [setN_ne (by decide)]; exact hln q
    · exact rdyS_Bd hB hn b1 hL hnx hc hln
theorem Iv.try {S : Sx} {t : Nat} (hI : Iv S) (hL : ∀ i, S.1 33 i ≤ 900) (hnx : S.1 30 t < 60) (hc : S.1 34 0 = 300 → S.1 39 0 = 300) (hTu : S.1 23 0 < 1073741824) : Iv (tryS S t) := by
  have h := tryS_Bd hI hL hnx hc hTu
  obtain ⟨hB, hn, hat, hln, hrh⟩ := hI
  have e0 : (tryS S t).1 0 = S.1 0 := tryS_ne rfl
  have e3 : (tryS S t).1 3 = S.1 3 := tryS_ne rfl
  have e5 : (tryS S t).1 5 = S.1 5 := tryS_ne rfl
  have e29 : (tryS S t).1 29 = S.1 29 := tryS_ne rfl
  refine ⟨h.1, by rw [e0]; exact hn, fun u => by rw [e0, e29]; exact hat u, h.2, fun a b h1 h2 h3 => ?_⟩
  rw [rhS_eq e0 e3 e5]
  rw [e0] at h1 h2
  rw [e5] at h3
  exact hrh a b h1 h2 h3
