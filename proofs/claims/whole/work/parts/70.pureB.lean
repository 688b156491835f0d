/-! Places taken, page by page (pure). -/
theorem tk_diff {S S' : Sx} {p a : Nat} (h : ∀ q, q ≠ p → tkC S' a q = tkC S a q) : ∀ n, p < n → tk S' a n + tkC S a p = tk S a n + tkC S' a p := by
  have hlow : ∀ n, n ≤ p → tk S' a n = tk S a n := by
    intro n
    induction n with
    | zero => intro _; rfl
    | succ n ih => intro hn; simp only [tk]; rw [ih (by omega), h n (by omega)]
  intro n
  induction n with
  | zero => intro q; omega
  | succ n ih =>
    intro hn
    simp only [tk]
    by_cases e : p = n
    · subst e; rw [hlow p (Nat.le_refl _)]; omega
    · have := ih (by omega)
      rw [h n (by omega)]
      omega
theorem tkC_off {S S' : Sx} {p a : Nat} (h8 : S'.1 8 = S.1 8) (h24 : ∀ q, q ≠ p → S'.1 24 q = S.1 24 q) (h25 : ∀ q, q ≠ p → S'.1 25 q = S.1 25 q) : ∀ q, q ≠ p → tkC S' a q = tkC S a q := by
  intro q hq
  simp only [tkC, h8, h24 q hq, h25 q hq]
theorem bt_0 (a : Nat) : bt 0 a = 0 := by unfold bt; simp
/-- a page is laid down -/
theorem Tk_lay {S : Sx} {Tf : Nat → Nat} {p nd : Nat} (hT : Tk S Tf) (hp : p < S.1 7 0) (hz : S.1 24 p = 0) (hc : S.1 25 p = 0) : Tk (plSt S p nd) (layT S Tf p nd) := by
  intro a ha
  have e0 : (plSt S p nd).1 0 = S.1 0 := by unfold plSt; rw [setN_ne (by decide), setN_ne (by decide)]
  have e7 : (plSt S p nd).1 7 = S.1 7 := by unfold plSt; rw [setN_ne (by decide), setN_ne (by decide)]
  have e8 : (plSt S p nd).1 8 = S.1 8 := by unfold plSt; rw [setN_ne (by decide), setN_ne (by decide)]
  have e25 : (plSt S p nd).1 25 = S.1 25 := by unfold plSt; rw [setN_ne (by decide), setN_ne (by decide)]
  have e24 : ∀ q, (plSt S p nd).1 24 q = if q = p then nd + 1 else S.1 24 q := by
    intro q
    unfold plSt
    rw [setN_at]
    by_cases h : q = p
    · rw [if_pos ⟨rfl, h⟩, if_pos h]
    · rw [if_neg (fun z => h z.2), if_neg h, setN_ne (by decide)]
  rw [e0] at ha
  have hd := tk_diff (S := S) (S' := plSt S p nd) (p := p) (a := a) (tkC_off e8 (fun q hq => by rw [e24, if_neg hq]) (fun q _ => by rw [e25])) (S.1 7 0) hp
  rw [e7]
  have h1 : tkC S a p = 0 := by rw [tkC, if_pos hz]
  have h2 : tkC (plSt S p nd) a p = if S.1 8 p = 2 ∨ nd = a then 1 else 0 := by
    rw [tkC, e24, if_pos rfl, if_neg (by omega), e8, e25, hc, bt_0]
    by_cases h : S.1 8 p = 2 ∨ nd = a
    · rw [if_pos h, if_pos (h.elim Or.inl (fun z => Or.inr (by omega)))]
    · rw [if_neg h, if_neg (fun z => h (z.elim Or.inl (fun z => Or.inr (by omega))))]
  have h3 := hT a ha
  rw [layT]
  by_cases hk : S.1 8 p = 2
  · rw [if_pos hk, if_pos ha]
    rw [if_pos (Or.inl hk)] at h2
    omega
  · rw [if_neg hk]
    by_cases hn : a = nd
    · rw [if_pos hn]
      rw [if_pos (Or.inr hn.symm)] at h2
      omega
    · rw [if_neg hn]
      rw [if_neg (fun z => z.elim hk (fun z => hn z.symm))] at h2
      omega
/-- a plain page moves -/
theorem Tk_move {S : Sx} {Tf : Nat → Nat} {p to : Nat} (hT : Tk S Tf) (hp : p < S.1 7 0) (hl : 0 < S.1 24 p) (hln : S.1 24 p ≤ S.1 0 0) (hk : S.1 8 p = 0) (hne : S.1 24 p ≠ to + 1) : Tk (ft3 S p to) (mvT Tf (S.1 24 p - 1) to) := by
  intro a ha
  have e24 : ∀ q, (ft3 S p to).1 24 q = if q = p then to + 1 else S.1 24 q := by
    intro q
    unfold ft3
    rw [setV_1, setV_1, setN_at]
    by_cases h : q = p
    · rw [if_pos ⟨rfl, h⟩, if_pos h]
    · rw [if_neg (fun z => h z.2), if_neg h]
  have ha : a < S.1 0 0 := ha
  have hd := tk_diff (S := S) (S' := ft3 S p to) (p := p) (a := a) (tkC_off rfl (fun q hq => by rw [e24, if_neg hq]) (fun q _ => rfl)) (S.1 7 0) hp
  show _ = tk (ft3 S p to) a (S.1 7 0)
  have h1 : tkC S a p = (if S.1 24 p = a + 1 then 1 else 0) + bt (S.1 25 p) a := by
    rw [tkC, if_neg (by omega), hk]
    congr 1
    by_cases h : S.1 24 p = a + 1
    · rw [if_pos h, if_pos (Or.inr h)]
    · rw [if_neg h, if_neg (fun z => z.elim (by omega) h)]
  have h2 : tkC (ft3 S p to) a p = (if to = a then 1 else 0) + bt (S.1 25 p) a := by
    rw [tkC, e24, if_pos rfl, if_neg (by omega), show (ft3 S p to).1 8 p = 0 from hk, show (ft3 S p to).1 25 p = S.1 25 p from rfl]
    congr 1
    by_cases h : to = a
    · rw [if_pos h, if_pos (Or.inr (by omega))]
    · rw [if_neg h, if_neg (fun z => z.elim (by omega) (fun z => h (by omega)))]
  have h3 := hT a ha
  unfold mvT upT
  by_cases c1 : a = to
  · rw [if_pos c1]
    rw [if_pos c1.symm] at h2
    rw [if_neg (by omega)] at h1
    have e : Tf to = Tf a := by rw [c1]
    rw [e]
    omega
  · rw [if_neg c1]
    rw [if_neg (fun z => c1 z.symm)] at h2
    by_cases c2 : a = S.1 24 p - 1
    · rw [if_pos c2]
      rw [if_pos (by omega)] at h1
      have e : Tf (S.1 24 p - 1) = Tf a := by rw [c2]
      rw [e]
      omega
    · rw [if_neg c2]
      rw [if_neg (by omega)] at h1
      omega
/-- a copy comes -/
theorem bt_stb {c a x : Nat} (hc : c ≤ 15) (ha : a < 4) (hx : x < 4) : bt (stb c a) x = if x = a then 1 else bt c x := by
  have h : ∀ c, c < 16 → ∀ a, a < 4 → ∀ x, x < 4 → bt (stb c a) x = if x = a then 1 else bt c x := by decide +kernel
  exact h c (by omega) a ha x hx
theorem Tk_bring {S : Sx} {Tf : Nat → Nat} {p a : Nat} (hB : Bd S) (hT : Tk S Tf) (hp : p < S.1 7 0) (ha : a < S.1 0 0) (hl : 0 < S.1 24 p) (hb0 : bt (S.1 25 p) a ≠ 1) : Tk (setN S 25 p (stb (S.1 25 p) a)) (upT Tf a (Tf a + 1)) := by
  have b0 := B_nodes hB 0
  have b2 := B_copies hB p
  intro x hx
  have hx : x < S.1 0 0 := hx
  have hd := tk_diff (S := S) (S' := setN S 25 p (stb (S.1 25 p) a)) (p := p) (a := x) (tkC_off rfl (fun q _ => rfl) (fun q hq => by rw [setN_at, if_neg (fun z => hq z.2)])) (S.1 7 0) hp
  show _ = tk (setN S 25 p (stb (S.1 25 p) a)) x (S.1 7 0)
  have h1 : tkC S x p = (if S.1 8 p = 2 ∨ S.1 24 p = x + 1 then 1 else 0) + bt (S.1 25 p) x := by rw [tkC, if_neg (by omega)]
  have h2 : tkC (setN S 25 p (stb (S.1 25 p) a)) x p = (if S.1 8 p = 2 ∨ S.1 24 p = x + 1 then 1 else 0) + (if x = a then 1 else bt (S.1 25 p) x) := by
    rw [← bt_stb b2 (by omega) (by omega), tkC, if_neg (show ¬ (setN S 25 p (stb (S.1 25 p) a)).1 24 p = 0 by show ¬ S.1 24 p = 0; omega), show (setN S 25 p (stb (S.1 25 p) a)).1 25 p = stb (S.1 25 p) a from by rw [setN_at, if_pos ⟨rfl, rfl⟩]]
    rfl
  have h3 := hT x hx
  have b5 := bt_le (S.1 25 p) a
  unfold upT
  by_cases c : x = a
  · subst c
    rw [if_pos rfl] at h2 ⊢
    omega
  · rw [if_neg c] at h2 ⊢
    omega
/-- the copies end -/
theorem ec_fin {c h a x : Nat} (hc : c < 16) (hh : h < 4) (ha : a < 4) (hx : x < 4) (h0 : bt c h = 0) (h1 : bt c a = 1) : bt (clr (stb c h) a) x + (if a = x then 1 else 0) = (if h = x then 1 else 0) + bt c x := by
  have q : ((List.range 16).all fun c => (List.range 4).all fun h => (List.range 4).all fun a => (List.range 4).all fun x => bt c h != 0 || (bt c a != 1 || bt (clr (stb c h) a) x + (if a = x then 1 else 0) == (if h = x then 1 else 0) + bt c x)) = true := by decide +kernel
  have q := List.all_eq_true.mp (List.all_eq_true.mp (List.all_eq_true.mp (List.all_eq_true.mp q c (List.mem_range.mpr hc)) h (List.mem_range.mpr hh)) a (List.mem_range.mpr ha)) x (List.mem_range.mpr hx)
  rw [h0, h1] at q
  exact eq_of_beq q
theorem Tk_end {S : Sx} {Tf : Nat → Nat} {p a : Nat} (hB : Bd S) (hT : Tk S Tf) (hp : p < S.1 7 0) (ha : a < S.1 0 0) (hl : 0 < S.1 24 p) (hk1 : S.1 8 p ≠ 1 → S.1 25 p = 0) (hh0 : S.1 8 p = 1 → bt (S.1 25 p) (S.1 24 p - 1) = 0) : Tk (if S.1 8 p = 1 then cpS S p a true else S) (ecT S Tf (ecC S p a) (S.1 0 0)) := by
  have b0 := B_nodes hB 0
  have b2 := B_copies hB p
  have b3 := B_lies hB p
  by_cases hk : S.1 8 p = 1
  · rw [if_pos hk]
    intro x hx
    rw [cpS_ne (g := 0) (by decide) (by decide)] at hx
    have e24 : ∀ q, q ≠ p → (cpS S p a true).1 24 q = S.1 24 q := by
      intro q hq
      rw [cpS, if_pos rfl, setN_ne (by decide)]
      split
      · rw [setN_at, if_neg (fun z => hq z.2)]
      · rfl
    have e25 : ∀ q, (cpS S p a true).1 25 q = if q = p then 0 else S.1 25 q := by
      intro q
      rw [cpS, if_pos rfl, setN_at]
      by_cases h : q = p
      · rw [if_pos ⟨rfl, h⟩, if_pos h]
      · rw [if_neg (fun z => h z.2), if_neg h]
        split
        · rw [setN_ne (by decide)]
        · rfl
    have e24p : (cpS S p a true).1 24 p = if bt (S.1 25 p) a = 1 then a + 1 else S.1 24 p := by
      rw [cpS, if_pos rfl, setN_ne (by decide)]
      split
      · rw [setN_at, if_pos ⟨rfl, rfl⟩]
      · rfl
    have hd := tk_diff (S := S) (S' := cpS S p a true) (p := p) (a := x) (tkC_off (cpS_ne (by decide) (by decide)) e24 (fun q hq => by rw [e25, if_neg hq])) (S.1 7 0) hp
    rw [cpS_ne (g := 7) (by decide) (by decide)]
    have h1 : tkC S x p = (if S.1 24 p = x + 1 then 1 else 0) + bt (S.1 25 p) x := by
      rw [tkC, if_neg (by omega), hk]
      congr 1
      by_cases h : S.1 24 p = x + 1
      · rw [if_pos h, if_pos (Or.inr h)]
      · rw [if_neg h, if_neg (fun z => z.elim (by omega) h)]
    have h2 : tkC (cpS S p a true) x p = if (cpS S p a true).1 24 p = x + 1 then 1 else 0 := by
      have : (cpS S p a true).1 24 p ≠ 0 := by rw [e24p]; split <;> omega
      rw [tkC, if_neg this, cpS_ne (g := 8) (by decide) (by decide), hk, e25, if_pos rfl, bt_0]
      by_cases h : (cpS S p a true).1 24 p = x + 1
      · rw [if_pos h, if_pos (Or.inr h)]
      · rw [if_neg h, if_neg (fun z => z.elim (by omega) h)]
    have h3 := hT x hx
    have hle := ecC_le (a := a) (x := x) hB (by omega) (by omega) hl
    have hge := tk_ge (S := S) (x := x) (p := p) (S.1 7 0) hp
    rw [ecT, if_pos hx]
    have hbt : bt (ecC S p a) x + (if (cpS S p a true).1 24 p = x + 1 then 1 else 0) = (if S.1 24 p = x + 1 then 1 else 0) + bt (S.1 25 p) x := by
      rw [e24p]
      unfold ecC
      have hz := hh0 hk
      by_cases hc : bt (S.1 25 p) a = 1
      · rw [if_pos hc, if_pos hc]
        have q := ec_fin (c := S.1 25 p) (h := S.1 24 p - 1) (a := a) (x := x) (by omega) (by omega) (by omega) (by omega) hz hc
        have f1 : (a + 1 = x + 1) ↔ a = x := by omega
        have f2 : (S.1 24 p = x + 1) ↔ S.1 24 p - 1 = x := by omega
        simp only [f1, f2]
        exact q
      · rw [if_neg hc, if_neg hc]
        omega
    rw [h1] at hd hge hle
    rw [h2] at hd
    omega
  · rw [if_neg hk]
    intro x hx
    have : ecC S p a = 0 := by rw [ecC, hk1 hk, bt_0, if_neg (by decide)]
    rw [ecT, if_pos hx, this, bt_0, Nat.sub_zero]
    exact hT x hx
theorem setV_comm {S : Sx} {g i g' i' : Nat} {v v' : Int32} (h : g ≠ g') : setV (setV S g i v) g' i' v' = setV (setV S g' i' v') g i v := by
  unfold setV
  dsimp only
  congr 2
  funext x y
  by_cases h1 : x = g' ∧ y = i'
  · rw [if_pos h1, if_neg (fun z => h (z.1.symm.trans h1.1)), if_pos h1]
  · rw [if_neg h1]
    by_cases h2 : x = g ∧ y = i
    · rw [if_pos h2, if_pos h2]
    · rw [if_neg h2, if_neg h2, if_neg h1]
theorem blS_ei (S : Sx) (t p a cost : Nat) : blS S t p a cost = setV (eiS (setN (setN S 30 t (S.1 30 t + 1)) 31 t cost) t p a cost) 18 t (S.2.1 18 t + nI 1) := by
  unfold blS eiS
  rw [setV_comm (g := 18) (g' := 11) (by decide), setV_comm (g := 18) (g' := 8) (by decide), setV_comm (g := 18) (g' := 13) (by decide), setV_comm (g := 18) (g' := 2) (by decide), setV_comm (g := 18) (g' := 3) (by decide), setV_comm (g := 2) (g' := 3) (by decide)]
  rfl
theorem ntS_18 (S : Sx) (t a x place by0 i : Nat) (df dm : Bool) (v : Int32) : ntS (setV S 18 i v) t a x place by0 df dm = setV (ntS S t a x place by0 df dm) 18 i v := by
  unfold ntS
  by_cases h : S.1 34 0 = S.1 39 0
  · rw [if_pos (show (setV S 18 i v).1 34 0 = (setV S 18 i v).1 39 0 from h), if_pos h]
  · rw [if_neg (show ¬ (setV S 18 i v).1 34 0 = (setV S 18 i v).1 39 0 from h), if_neg h]
    rw [setV_comm (g := 18) (g' := 16) (by decide), setV_comm (g := 18) (g' := 16) (by decide), setV_comm (g := 18) (g' := 16) (by decide), setV_comm (g := 18) (g' := 16) (by decide), setV_comm (g := 18) (g' := 16) (by decide), setV_comm (g := 18) (g' := 16) (by decide), setV_comm (g := 18) (g' := 16) (by decide), setV_comm (g := 18) (g' := 16) (by decide), setV_comm (g := 18) (g' := 16) (by decide), setV_comm (g := 18) (g' := 16) (by decide), setV_comm (g := 18) (g' := 17) (by decide)]
    rfl
theorem RepC.v18 {b : Nat} {σ : Mm} {S : Sx} {Tf : Nat → Nat} (h : RepC b σ S Tf) {i : Nat} {v : Int32} : RepC b σ (setV S 18 i v) Tf := by
  refine ⟨h.1, fun g i' hi hd => ?_, h.2.2⟩
  have : ¬ (g = 18 ∧ i' = i) := fun z => by rw [z.1] at hi; simp [szV] at hi
  simp only [setV, this, if_false]
  exact h.2.1 g i' hi hd
theorem Cq.v18 {b : Nat} {σ0 σ : Mm} {S : Sx} {Tf : Nat → Nat} {A : Nat → Int32} (h : Cq b σ0 S Tf A σ) {i : Nat} {v : Int32} : Cq b σ0 (setV S 18 i v) Tf A σ := ⟨h.1.v18, h.2⟩
