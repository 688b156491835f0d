/-! The least ways, pure: the sums over all nodes one by one, walks, the first hop. -/
abbrev Dm : Type := Nat → Nat → Nat
def u2 (D : Dm) (a b v : Nat) : Dm := fun x y => if x = a ∧ y = b then v else D x y
def dir (P : Dm) : Dm := fun a b => if a = b then 0 else if P a b = 0 then 1000 else P a b
def fwB (m a : Nat) : Nat → Dm → Dm
  | 0, D => D
  | k + 1, D => u2 (fwB m a k D) a k (min (fwB m a k D a k) (fwB m a k D a m + fwB m a k D m k))
def fwA (n m : Nat) : Nat → Dm → Dm
  | 0, D => D
  | a + 1, D => fwB m a n (fwA n m a D)
def fwM (n : Nat) : Nat → Dm → Dm
  | 0, D => D
  | m + 1, D => fwA n m n (fwM n m D)
theorem fwB_eq {D : Dm} {m a : Nat} (hd : D m m = 0) : ∀ k x y, fwB m a k D x y = if x = a ∧ y < k then min (D a y) (D a m + D m y) else D x y := by
  intro k
  induction k with
  | zero => intro x y; rw [if_neg (by omega)]; rfl
  | succ k ih =>
    intro x y
    have e1 : fwB m a k D a k = D a k := by rw [ih, if_neg (by omega)]
    have e2 : fwB m a k D a m = D a m := by
      rw [ih]
      split
      · rw [hd, Nat.add_zero, Nat.min_self]
      · rfl
    have e3 : fwB m a k D m k = D m k := by rw [ih, if_neg (by omega)]
    rw [fwB, e1, e2, e3]
    show (if x = a ∧ y = k then min (D a k) (D a m + D m k) else fwB m a k D x y) = _
    by_cases h : x = a ∧ y = k
    · rw [if_pos h, if_pos ⟨h.1, by omega⟩, h.2]
    · rw [if_neg h, ih]
      by_cases h2 : x = a ∧ y < k
      · rw [if_pos h2, if_pos ⟨h2.1, by omega⟩]
      · rw [if_neg h2, if_neg (fun z => h ⟨z.1, by omega⟩)]
theorem fwA_eq {D : Dm} {n m : Nat} (hd : D m m = 0) : ∀ k x y, fwA n m k D x y = if x < k ∧ y < n then min (D x y) (D x m + D m y) else D x y := by
  intro k
  induction k with
  | zero => intro x y; rw [if_neg (by omega)]; rfl
  | succ k ih =>
    intro x y
    have hE : ∀ y, fwA n m k D m y = D m y := fun y => by
      rw [ih]
      split
      · rw [hd, Nat.zero_add, Nat.min_self]
      · rfl
    have hK : ∀ y, fwA n m k D k y = D k y := fun y => by rw [ih, if_neg (by omega)]
    rw [fwA, fwB_eq (by rw [hE]; exact hd), hK, hK, hE]
    by_cases h : x = k ∧ y < n
    · rw [if_pos h, if_pos ⟨by omega, h.2⟩, h.1]
    · rw [if_neg h, ih]
      by_cases h2 : x < k ∧ y < n
      · rw [if_pos h2, if_pos ⟨by omega, h2.2⟩]
      · rw [if_neg h2, if_neg (fun z => by omega)]
/-- a place of the sums while node m is gone through -/
theorem fwE_eq {D : Dm} {n m a k : Nat} (hd : D m m = 0) (x y : Nat) : fwB m a k (fwA n m a D) x y = D x y ∨ fwB m a k (fwA n m a D) x y = min (D x y) (D x m + D m y) := by
  have hE : ∀ y, fwA n m a D m y = D m y := fun y => by
    rw [fwA_eq hd]
    split
    · rw [hd, Nat.zero_add, Nat.min_self]
    · rfl
  have hK : ∀ y, fwA n m a D a y = D a y := fun y => by rw [fwA_eq hd, if_neg (by omega)]
  rw [fwB_eq (by rw [hE]; exact hd), hK, hK, hE]
  split
  · next h => rw [h.1]; exact Or.inr rfl
  · rw [fwA_eq hd]
    split
    · exact Or.inr rfl
    · exact Or.inl rfl
def Fi (c : Nat) (D : Dm) : Prop := ∀ x y, D x y ≤ 1000 ∧ (D x y < 1000 → D x y ≤ c)
theorem Fi.e {c n m a k : Nat} {D : Dm} (h : Fi c D) (hd : D m m = 0) : Fi (2 * c) (fwB m a k (fwA n m a D)) := by
  intro x y
  have h1 := h x y
  have h2 := h x m
  have h3 := h m y
  rcases fwE_eq (n := n) (a := a) (k := k) hd x y with e | e
  · rw [e]; omega
  · rw [e]
    rcases Nat.le_total (D x y) (D x m + D m y) with q | q
    · rw [Nat.min_eq_left q]; omega
    · rw [Nat.min_eq_right q]; omega
theorem fwA_full {D : Dm} {n m : Nat} (hd : D m m = 0) (x y : Nat) : fwA n m n D x y = if x < n ∧ y < n then min (D x y) (D x m + D m y) else D x y := fwA_eq hd n x y
theorem Fi.a {c n m : Nat} {D : Dm} (h : Fi c D) (hd : D m m = 0) : Fi (2 * c) (fwA n m n D) := h.e (k := 0) hd
-- walks
def wOK (P : Dm) (n : Nat) : Nat → List Nat → Prop
  | _, [] => True
  | x, c :: l => c < n ∧ 0 < P x c ∧ wOK P n c l
def wLn (P : Dm) : Nat → List Nat → Nat
  | _, [] => 0
  | x, c :: l => P x c + wLn P c l
def wEd : Nat → List Nat → Nat
  | x, [] => x
  | _, c :: l => wEd c l
theorem w_app {P : Dm} {n : Nat} (m : List Nat) : ∀ (l : List Nat) (x : Nat), wOK P n x l → wOK P n (wEd x l) m → wOK P n x (l ++ m) ∧ wLn P x (l ++ m) = wLn P x l + wLn P (wEd x l) m ∧ wEd x (l ++ m) = wEd (wEd x l) m := by
  intro l
  induction l with
  | nil => intro x _ h; exact ⟨h, by simp [wLn, wEd], rfl⟩
  | cons c l ih =>
    intro x h1 h2
    obtain ⟨a1, a2, a3⟩ := ih c h1.2.2 h2
    refine ⟨⟨h1.1, h1.2.1, a1⟩, ?_, a3⟩
    show P x c + wLn P c (l ++ m) = P x c + wLn P c l + wLn P (wEd c l) m
    rw [a2]; omega
def FW (P : Dm) (n m : Nat) (D : Dm) : Prop := (∀ x, D x x = 0) ∧ Fi (9 * 2 ^ m) D ∧ (∀ x y, x < n → y < n → D x y ≤ dir P x y) ∧ (∀ x y j, x < n → y < n → j < m → D x y ≤ D x j + D j y) ∧ (∀ x y, x < n → y < n → D x y < 1000 → ∃ l, wOK P n x l ∧ wEd x l = y ∧ wLn P x l = D x y)
theorem FW_0 {P : Dm} {n : Nat} (hP : ∀ x y, P x y ≤ 9) : FW P n 0 (dir P) := by
  refine ⟨fun x => if_pos rfl, fun x y => ?_, fun x y _ _ => Nat.le_refl _, fun x y j _ _ h => absurd h (by omega), fun x y hx hy h => ?_⟩
  · have := hP x y
    unfold dir
    split
    · omega
    · split <;> omega
  · unfold dir at h ⊢
    by_cases e : x = y
    · exact ⟨[], trivial, e, by rw [if_pos e]; rfl⟩
    · rw [if_neg e] at h ⊢
      by_cases e2 : P x y = 0
      · rw [if_pos e2] at h; omega
      · exact ⟨[y], ⟨hy, by omega, trivial⟩, rfl, by rw [if_neg e2]; rfl⟩
theorem FW_s {P : Dm} {n m : Nat} {D : Dm} (h : FW P n m D) (hm : m < n) : FW P n (m + 1) (fwA n m n D) := by
  obtain ⟨h1, h2, h3, h4, h5⟩ := h
  have hd := h1 m
  have ev : ∀ x y, x < n → y < n → fwA n m n D x y = min (D x y) (D x m + D m y) := fun x y hx hy => by rw [fwA_full hd, if_pos ⟨hx, hy⟩]
  have er : ∀ y, fwA n m n D m y = D m y := fun y => by
    rw [fwA_full hd]
    split
    · rw [hd, Nat.zero_add, Nat.min_self]
    · rfl
  have ec : ∀ x, fwA n m n D x m = D x m := fun x => by
    rw [fwA_full hd]
    split
    · rw [hd, Nat.add_zero, Nat.min_self]
    · rfl
  refine ⟨fun x => ?_, ?_, fun x y hx hy => ?_, fun x y j hx hy hj => ?_, fun x y hx hy hlt => ?_⟩
  · rw [fwA_full hd, h1]
    split
    · exact Nat.zero_min _
    · rfl
  · have q := h2.a (n := n) hd
    rw [show 9 * 2 ^ (m + 1) = 2 * (9 * 2 ^ m) from by rw [Nat.pow_succ]; omega]
    exact q
  · rw [ev x y hx hy]; exact Nat.le_trans (Nat.min_le_left _ _) (h3 x y hx hy)
  · rw [ev x y hx hy]
    have b1 := Nat.min_le_left (D x y) (D x m + D m y)
    have b2 := Nat.min_le_right (D x y) (D x m + D m y)
    by_cases ej : j = m
    · rw [ej, er, ec]; exact b2
    · have hjm : j < m := by omega
      rw [ev x j hx (by omega), ev j y (by omega) hy]
      have t1 := h4 x y j hx hy hjm
      have t2 := h4 m y j hm hy hjm
      have t3 := h4 x m j hx hm hjm
      rcases Nat.le_total (D x j) (D x m + D m j) with q1 | q1 <;> rcases Nat.le_total (D j y) (D j m + D m y) with q2 | q2
      · rw [Nat.min_eq_left q1, Nat.min_eq_left q2]; omega
      · rw [Nat.min_eq_left q1, Nat.min_eq_right q2]; omega
      · rw [Nat.min_eq_right q1, Nat.min_eq_left q2]; omega
      · rw [Nat.min_eq_right q1, Nat.min_eq_right q2]; omega
  · rw [ev x y hx hy] at hlt ⊢
    rcases Nat.le_total (D x y) (D x m + D m y) with q | q
    · rw [Nat.min_eq_left q] at hlt ⊢; exact h5 x y hx hy hlt
    · rw [Nat.min_eq_right q] at hlt ⊢
      obtain ⟨l1, a1, a2, a3⟩ := h5 x m hx hm (by omega)
      obtain ⟨l2, c1, c2, c3⟩ := h5 m y hm hy (by omega)
      obtain ⟨d1, d2, d3⟩ := w_app (P := P) (n := n) l2 l1 x a1 (by rw [a2]; exact c1)
      exact ⟨l1 ++ l2, d1, by rw [d3, a2, c2], by rw [d2, a2, a3, c3]⟩
theorem FW_all {P : Dm} {n : Nat} (hP : ∀ x y, P x y ≤ 9) : ∀ m, m ≤ n → FW P n m (fwM n m (dir P)) := by
  intro m
  induction m with
  | zero => intro _; exact FW_0 hP
  | succ m ih => intro hm; exact FW_s (ih (by omega)) (by omega)
def dst (P : Dm) (n : Nat) : Dm := fwM n n (dir P)
theorem dst_le {P : Dm} {n x : Nat} (hP : ∀ x y, P x y ≤ 9) (hz : ∀ x, P x x = 0) : ∀ (l : List Nat) (x : Nat), x < n → wOK P n x l → wEd x l < n ∧ dst P n x (wEd x l) ≤ wLn P x l := by
  obtain ⟨h1, h2, h3, h4, h5⟩ := FW_all hP n (Nat.le_refl n)
  intro l
  induction l with
  | nil => intro x hx _; exact ⟨hx, by show dst P n x x ≤ 0; rw [show dst P n x x = 0 from h1 x]; exact Nat.le_refl _⟩
  | cons c l ih =>
    intro x hx hok
    obtain ⟨k1, k2, k3⟩ := hok
    obtain ⟨i1, i2⟩ := ih c k1 k3
    refine ⟨i1, ?_⟩
    have t1 := h4 x (wEd c l) c hx i1 k1
    have t2 := h3 x c hx k1
    have t3 : dir P x c = P x c := by
      unfold dir
      rw [if_neg (fun e => by rw [e, hz] at k2; omega), if_neg (by omega)]
    show fwM n n (dir P) x (wEd c l) ≤ P x c + wLn P c l
    have i2' : fwM n n (dir P) c (wEd c l) ≤ wLn P c l := i2
    omega
/-- the first node behind x on a least walk -/
theorem dst_hop {P : Dm} {n x y : Nat} (hP : ∀ x y, P x y ≤ 9) (hz : ∀ x, P x x = 0) (hx : x < n) (hy : y < n) (hne : x ≠ y) (h : dst P n x y < 1000) : ∃ c, c < n ∧ c ≠ x ∧ 0 < P x c ∧ P x c + dst P n c y = dst P n x y := by
  obtain ⟨h1, h2, h3, h4, h5⟩ := FW_all hP n (Nat.le_refl n)
  obtain ⟨l, a1, a2, a3⟩ := h5 x y hx hy h
  cases l with
  | nil => exact absurd a2 hne
  | cons c l =>
    obtain ⟨k1, k2, k3⟩ := a1
    have hle := (dst_le (x := x) hP hz l c k1 k3).2
    have a2' : wEd c l = y := a2
    have a3' : P x c + wLn P c l = dst P n x y := a3
    rw [a2'] at hle
    have t1 := h4 x y c hx hy k1
    have t2 := h3 x c hx k1
    have hcx : c ≠ x := fun e => by rw [e, hz] at k2; omega
    have t3 : dir P x c = P x c := by
      unfold dir
      rw [if_neg (fun e => hcx e.symm), if_neg (by omega)]
    refine ⟨c, k1, hcx, k2, ?_⟩
    have t1' : dst P n x y ≤ fwM n n (dir P) x c + dst P n c y := t1
    omega
theorem dst_fin {P : Dm} {n x y : Nat} (hP : ∀ x y, P x y ≤ 9) (hn : n ≤ 4) : dst P n x y ≤ 1000 ∧ (dst P n x y < 1000 → dst P n x y ≤ 144) := by
  have h := (FW_all hP n (Nat.le_refl n)).2.1 x y
  have : 9 * 2 ^ n ≤ 144 := by
    have h9 : ∀ n, n < 5 → 9 * 2 ^ n ≤ 144 := by decide
    exact h9 n (by omega)
  exact ⟨h.1, fun q => Nat.le_trans (h.2 q) this⟩
theorem dst_d {P : Dm} {n x : Nat} (hP : ∀ x y, P x y ≤ 9) : dst P n x x = 0 := (FW_all hP n (Nat.le_refl n)).1 x
/-- how many nodes lie nearer -/
def tz (D : Dm) (b n v z : Nat) : Nat := if z < n ∧ D z b < v then 1 else 0
def rk (D : Dm) (b n v : Nat) : Nat := tz D b n v 0 + tz D b n v 1 + tz D b n v 2 + tz D b n v 3
theorem tz_le {D : Dm} {b n v z : Nat} : tz D b n v z ≤ 1 := by unfold tz; split <;> omega
theorem tz_mono {D : Dm} {b n v v' z : Nat} (h : v' ≤ v) : tz D b n v' z ≤ tz D b n v z := by
  unfold tz
  by_cases q : z < n ∧ D z b < v'
  · rw [if_pos q, if_pos ⟨q.1, by omega⟩]; omega
  · rw [if_neg q]; omega
theorem tz_1 {D : Dm} {b n v z : Nat} (h1 : z < n) (h2 : D z b < v) : tz D b n v z = 1 := if_pos ⟨h1, h2⟩
theorem tz_0 {D : Dm} {b n v z : Nat} (h2 : v ≤ D z b) : tz D b n v z = 0 := if_neg (by omega)
theorem c4 {c n : Nat} (hc : c < n) (hn : n ≤ 4) : c = 0 ∨ c = 1 ∨ c = 2 ∨ c = 3 := by omega
theorem rk_lt {D : Dm} {b n v c : Nat} (hn : n ≤ 4) (hc : c < n) (h : D c b < v) : rk D b n (D c b) < rk D b n v := by
  have m0 := tz_mono (D := D) (b := b) (n := n) (z := 0) (Nat.le_of_lt h)
  have m1 := tz_mono (D := D) (b := b) (n := n) (z := 1) (Nat.le_of_lt h)
  have m2 := tz_mono (D := D) (b := b) (n := n) (z := 2) (Nat.le_of_lt h)
  have m3 := tz_mono (D := D) (b := b) (n := n) (z := 3) (Nat.le_of_lt h)
  have z0 := tz_0 (D := D) (b := b) (n := n) (z := c) (Nat.le_refl (D c b))
  have z1 := tz_1 (D := D) (b := b) hc h
  unfold rk
  rcases c4 hc hn with rfl | rfl | rfl | rfl <;> omega
theorem rk_3 {D : Dm} {b n x : Nat} (hn : n ≤ 4) (hx : x < n) : rk D b n (D x b) ≤ 3 := by
  have m0 := tz_le (D := D) (b := b) (n := n) (v := D x b) (z := 0)
  have m1 := tz_le (D := D) (b := b) (n := n) (v := D x b) (z := 1)
  have m2 := tz_le (D := D) (b := b) (n := n) (v := D x b) (z := 2)
  have m3 := tz_le (D := D) (b := b) (n := n) (v := D x b) (z := 3)
  have z0 := tz_0 (D := D) (b := b) (n := n) (z := x) (Nat.le_refl (D x b))
  unfold rk
  rcases c4 hx hn with rfl | rfl | rfl | rfl <;> omega
theorem rk_0 {D : Dm} {b n v : Nat} (hn : n ≤ 4) (hb : b < n) (h0 : D b b = 0) (h : rk D b n v = 0) : v = 0 := by
  rcases Nat.eq_zero_or_pos v with e | e
  · exact e
  · have z1 := tz_1 (D := D) (b := b) (v := v) hb (by omega)
    unfold rk at h
    rcases c4 hb hn with rfl | rfl | rfl | rfl <;> omega
-- the state behind measuring
def prS (S : Sx) : Dm := fun a b => S.1 3 (4 * a + b)
def s5 (S : Sx) (E : Dm) : Sx := (fun g i => if g = 5 ∧ i < 16 then E (i / 4) (i % 4) else S.1 g i, S.2)
def s6 (S : Sx) (E : Dm) : Sx := (fun g i => if g = 6 ∧ i < 16 then E (i / 4) (i % 4) else S.1 g i, S.2)
theorem s5_ne {S : Sx} {E : Dm} {g : Nat} (h : g ≠ 5) : (s5 S E).1 g = S.1 g := by funext i; exact if_neg (fun z => h z.1)
theorem s6_ne {S : Sx} {E : Dm} {g : Nat} (h : g ≠ 6) : (s6 S E).1 g = S.1 g := by funext i; exact if_neg (fun z => h z.1)
theorem s5_at {S : Sx} {E : Dm} {a b : Nat} (ha : a < 4) (hb : b < 4) : (s5 S E).1 5 (4 * a + b) = E a b := by
  show (if 5 = 5 ∧ 4 * a + b < 16 then E ((4 * a + b) / 4) ((4 * a + b) % 4) else _) = _
  rw [if_pos ⟨rfl, by omega⟩, show (4 * a + b) / 4 = a from by omega, show (4 * a + b) % 4 = b from by omega]
theorem s6_at {S : Sx} {E : Dm} {a b : Nat} (ha : a < 4) (hb : b < 4) : (s6 S E).1 6 (4 * a + b) = E a b := by
  show (if 6 = 6 ∧ 4 * a + b < 16 then E ((4 * a + b) / 4) ((4 * a + b) % 4) else _) = _
  rw [if_pos ⟨rfl, by omega⟩, show (4 * a + b) / 4 = a from by omega, show (4 * a + b) % 4 = b from by omega]
theorem s5_i {S : Sx} {E : Dm} {i : Nat} (hi : i < 16) : (s5 S E).1 5 i = E (i / 4) (i % 4) := if_pos ⟨rfl, hi⟩
theorem s5_set {S : Sx} {E : Dm} {a b v : Nat} (ha : a < 4) (hb : b < 4) : setN (s5 S E) 5 (4 * a + b) v = s5 S (u2 E a b v) := by
  refine Prod.ext ?_ rfl
  funext g i
  show (if g = 5 ∧ i = 4 * a + b then v else (if g = 5 ∧ i < 16 then E (i / 4) (i % 4) else S.1 g i)) = (if g = 5 ∧ i < 16 then (if i / 4 = a ∧ i % 4 = b then v else E (i / 4) (i % 4)) else S.1 g i)
  by_cases h : g = 5 ∧ i = 4 * a + b
  · rw [if_pos h, if_pos ⟨h.1, by omega⟩, if_pos ⟨by omega, by omega⟩]
  · rw [if_neg h]
    by_cases h2 : g = 5 ∧ i < 16
    · rw [if_pos h2, if_pos h2, if_neg (fun z => h ⟨h2.1, by omega⟩)]
    · rw [if_neg h2, if_neg h2]
def hpF (S : Sx) : Dm := fun a b => if a ≠ b ∧ S.1 5 (4 * a + b) < 1000 then bh S a b else b
def ms5 (S : Sx) : Sx := s5 S (dst (prS S) (S.1 0 0))
def msS (S : Sx) : Sx := s6 (ms5 S) (hpF (ms5 S))
theorem msS_ne {S : Sx} {g : Nat} (h5 : g ≠ 5) (h6 : g ≠ 6) : (msS S).1 g = S.1 g := by rw [msS, s6_ne h6, ms5, s5_ne h5]
theorem msS_5 {S : Sx} {a b : Nat} (ha : a < 4) (hb : b < 4) : (msS S).1 5 (4 * a + b) = dst (prS S) (S.1 0 0) a b := by rw [msS, s6_ne (by decide), ms5, s5_at ha hb]
/-- what a board's prices keep to -/
def Sp (S : Sx) : Prop := (∀ a b, a < 4 → b < 4 → S.1 3 (4 * a + b) = S.1 3 (4 * b + a)) ∧ (∀ a, a < 4 → S.1 3 (4 * a + a) = 0) ∧ (∀ a b, a < 4 → b < 4 → S.1 4 (4 * a + b) = S.1 4 (4 * b + a))
def prF (S : Sx) : Dm := fun a b => if a < 4 ∧ b < 4 then S.1 3 (4 * a + b) else 0
theorem bhL_hit {S : Sx} {a b c : Nat} (h1 : c ≠ a ∧ 0 < S.1 3 (4 * a + c) ∧ S.1 3 (4 * a + c) + fz (S.1 5 (4 * c + b)) = fz (S.1 5 (4 * a + b))) : ∀ k i, i ≤ c → c < i + k → (bhL S a b k i ≠ a ∧ 0 < S.1 3 (4 * a + bhL S a b k i) ∧ S.1 3 (4 * a + bhL S a b k i) + fz (S.1 5 (4 * bhL S a b k i + b)) = fz (S.1 5 (4 * a + b))) := by
  intro k
  induction k with
  | zero => intro i h2 h3; omega
  | succ k ih =>
    intro i h2 h3
    simp only [bhL]
    split
    · next q => exact q
    · next q =>
      refine ih (i + 1) ?_ (by omega)
      rcases Nat.lt_or_ge i c with z | z
      · omega
      · exact absurd (by rw [show i = c from by omega]; exact h1) q
theorem fz_id {v : Nat} (h : v < 1000) : fz v = v := if_pos h
theorem dst_ext {P Q : Dm} {n : Nat} (h : ∀ x y, x < n → y < n → P x y = Q x y) : ∀ x y, x < n → y < n → dst P n x y = dst Q n x y := by
  have hB : ∀ m, m ≤ n → ∀ a k, a ≤ n → k ≤ n → ∀ D E : Dm, (∀ x y, x < n → y < n → D x y = E x y) → m < n → a < n → ∀ x y, x < n → y < n → fwB m a k D x y = fwB m a k E x y := by
    intro m _ a k _
    induction k with
    | zero => intro _ D E hDE _ _ x y hx hy; exact hDE x y hx hy
    | succ k ih =>
      intro hk D E hDE hm ha x y hx hy
      have ih' := ih (by omega) D E hDE hm ha
      rw [fwB, fwB]
      show (if x = a ∧ y = k then _ else _) = (if x = a ∧ y = k then _ else _)
      rw [ih' a k ha (by omega), ih' a m ha hm, ih' m k hm (by omega), ih' x y hx hy]
  have hA : ∀ m, m < n → ∀ a, a ≤ n → ∀ D E : Dm, (∀ x y, x < n → y < n → D x y = E x y) → ∀ x y, x < n → y < n → fwA n m a D x y = fwA n m a E x y := by
    intro m hm a
    induction a with
    | zero => intro _ D E hDE x y hx hy; exact hDE x y hx hy
    | succ a ih =>
      intro ha D E hDE x y hx hy
      rw [fwA, fwA]
      exact hB m (by omega) a n (by omega) (Nat.le_refl n) _ _ (ih (by omega) D E hDE) hm (by omega) x y hx hy
  have hM : ∀ m, m ≤ n → ∀ x y, x < n → y < n → fwM n m (dir P) x y = fwM n m (dir Q) x y := by
    intro m
    induction m with
    | zero => intro _ x y hx hy; show dir P x y = dir Q x y; unfold dir; rw [h x y hx hy]
    | succ m ih => intro hm x y hx hy; rw [fwM, fwM]; exact hA m (by omega) n (Nat.le_refl n) _ _ (ih (by omega)) x y hx hy
  exact hM n (Nat.le_refl n)
theorem ms_hop {S : Sx} (hB : Bd S) (hS : Sp S) {a b : Nat} (ha : a < S.1 0 0) (hb : b < S.1 0 0) (hne : a ≠ b) (h : (ms5 S).1 5 (4 * a + b) < 1000) : bh (ms5 S) a b ≠ a ∧ (ms5 S).1 5 (4 * bh (ms5 S) a b + b) < (ms5 S).1 5 (4 * a + b) ∧ bh (ms5 S) a b < S.1 0 0 := by
  have h4 : S.1 0 0 ≤ 4 := B_nodes hB 0
  have hQ : ∀ x y, prF S x y ≤ 9 := fun x y => by unfold prF; split; exact B_price hB _; omega
  have hz : ∀ x, prF S x x = 0 := fun x => by unfold prF; split; (next q => exact hS.2.1 x q.1); rfl
  have he : ∀ x y, x < S.1 0 0 → y < S.1 0 0 → dst (prS S) (S.1 0 0) x y = dst (prF S) (S.1 0 0) x y := dst_ext (fun x y hx hy => (if_pos ⟨by omega, by omega⟩).symm)
  have e5 : ∀ x y, x < S.1 0 0 → y < S.1 0 0 → (ms5 S).1 5 (4 * x + y) = dst (prF S) (S.1 0 0) x y := fun x y hx hy => by rw [ms5, s5_at (by omega) (by omega), he x y hx hy]
  have e3 : (ms5 S).1 3 = S.1 3 := s5_ne (by decide)
  have e0 : (ms5 S).1 0 = S.1 0 := s5_ne (by decide)
  rw [e5 a b ha hb] at h
  obtain ⟨c, c1, c2, c3, c5⟩ := dst_hop hQ hz ha hb hne h
  have c3' : 0 < S.1 3 (4 * a + c) := by have q := c3; unfold prF at q; rw [if_pos ⟨by omega, by omega⟩] at q; exact q
  have c5' : S.1 3 (4 * a + c) + dst (prF S) (S.1 0 0) c b = dst (prF S) (S.1 0 0) a b := by have q := c5; rw [show prF S a c = S.1 3 (4 * a + c) from if_pos ⟨by omega, by omega⟩] at q; exact q
  have hit := bhL_hit (S := ms5 S) (a := a) (b := b) (c := c) ⟨c2, by rw [e3]; exact c3', by rw [e3, e5 c b c1 hb, e5 a b ha hb, fz_id (by omega), fz_id h]; exact c5'⟩ ((ms5 S).1 0 0) 0 (Nat.zero_le _) (by rw [e0]; omega)
  have hlt := bh_lt (S := ms5 S) (a := a) (b := b) (by rw [e0]; exact hb)
  rw [e0] at hlt
  have hh : bhL (ms5 S) a b ((ms5 S).1 0 0) 0 = bh (ms5 S) a b := rfl
  rw [hh] at hit
  obtain ⟨k1, k2, k3⟩ := hit
  refine ⟨k1, ?_, hlt⟩
  rw [e5 _ b hlt hb, e5 a b ha hb] at k3 ⊢
  rw [fz_id h] at k3
  have : fz (dst (prF S) (S.1 0 0) (bh (ms5 S) a b) b) = dst (prF S) (S.1 0 0) (bh (ms5 S) a b) b := by
    refine fz_id ?_
    rcases Nat.lt_or_ge (dst (prF S) (S.1 0 0) (bh (ms5 S) a b) b) 1000 with z | z
    · exact z
    · have : fz (dst (prF S) (S.1 0 0) (bh (ms5 S) a b) b) = 1000000 := if_neg (by omega)
      omega
  rw [this] at k3
  omega
theorem ms_rh {S : Sx} (hB : Bd S) (hS : Sp S) {b : Nat} (hb : b < S.1 0 0) : ∀ k a, a < S.1 0 0 → (ms5 S).1 5 (4 * a + b) < 1000 → rk (fun x y => (ms5 S).1 5 (4 * x + y)) b (S.1 0 0) ((ms5 S).1 5 (4 * a + b)) ≤ k → rhS (ms5 S) b k a := by
  have h4 : S.1 0 0 ≤ 4 := B_nodes hB 0
  have hQ : ∀ x y, prF S x y ≤ 9 := fun x y => by unfold prF; split; exact B_price hB _; omega
  have hbb : (ms5 S).1 5 (4 * b + b) = 0 := by
    rw [ms5, s5_at (by omega) (by omega), dst_ext (P := prS S) (Q := prF S) (fun x y hx hy => (if_pos ⟨by omega, by omega⟩).symm) b b hb hb]
    exact dst_d hQ
  intro k
  induction k with
  | zero =>
    intro a ha h hr
    show a = b
    rcases Nat.decEq a b with e | e
    · have q := rk_0 (D := fun x y => (ms5 S).1 5 (4 * x + y)) (v := (ms5 S).1 5 (4 * a + b)) h4 hb hbb (by omega)
      have := (ms_hop hB hS ha hb e h).2.1
      omega
    · exact e
  | succ k ih =>
    intro a ha h hr
    rcases Nat.decEq a b with e | e
    · obtain ⟨k1, k2, k3⟩ := ms_hop hB hS ha hb e h
      refine Or.inr (ih _ k3 (by omega) ?_)
      have := rk_lt (D := fun x y => (ms5 S).1 5 (4 * x + y)) (b := b) (v := (ms5 S).1 5 (4 * a + b)) h4 k3 k2
      have this' : rk (fun x y => (ms5 S).1 5 (4 * x + y)) b (S.1 0 0) ((ms5 S).1 5 (4 * bh (ms5 S) a b + b)) < rk (fun x y => (ms5 S).1 5 (4 * x + y)) b (S.1 0 0) ((ms5 S).1 5 (4 * a + b)) := this
      omega
    · exact Or.inl e
theorem ms5_fin {S : Sx} (hB : Bd S) (i : Nat) : (ms5 S).1 5 i ≤ 1000 := by
  have h4 : S.1 0 0 ≤ 4 := B_nodes hB 0
  show (if 5 = 5 ∧ i < 16 then dst (prS S) (S.1 0 0) (i / 4) (i % 4) else S.1 5 i) ≤ 1000
  split
  · exact (dst_fin (fun x y => B_price hB _) h4).1
  · exact B_far hB i
theorem Bd_ms5 {S : Sx} (hB : Bd S) : Bd (ms5 S) := by
  intro g i
  by_cases e : g = 5
  · rw [e]; exact ms5_fin hB i
  · rw [show (ms5 S).1 g = S.1 g from s5_ne e]; exact hB g i
theorem Bd_ms {S : Sx} (hB : Bd S) : Bd (msS S) := by
  have h4 : S.1 0 0 ≤ 4 := B_nodes hB 0
  intro g i
  by_cases e : g = 6
  · rw [e]
    show (if 6 = 6 ∧ i < 16 then hpF (ms5 S) (i / 4) (i % 4) else (ms5 S).1 6 i) ≤ 3
    split
    · next q =>
      unfold hpF
      split
      · have : bh (ms5 S) (i / 4) (i % 4) ≤ max (i % 4) 3 := by
          have hx : ∀ k c, c + k ≤ 4 → bhL (ms5 S) (i / 4) (i % 4) k c ≤ 3 := by
            intro k
            induction k with
            | zero => intro c _; show i % 4 ≤ 3; omega
            | succ k ih =>
              intro c hc
              simp only [bhL]
              split
              · omega
              · exact ih (c + 1) (by omega)
          have := hx ((ms5 S).1 0 0) 0 (by rw [show (ms5 S).1 0 = S.1 0 from s5_ne (by decide)]; omega)
          exact Nat.le_trans this (Nat.le_max_right _ _)
        omega
      · omega
    · exact Bd_ms5 hB 6 i
  · rw [show (msS S).1 g = (ms5 S).1 g from s6_ne e]; exact Bd_ms5 hB g i
theorem ms_bh {S : Sx} (a b : Nat) : bh (msS S) a b = bh (ms5 S) a b := bh_eq (s6_ne (by decide)) (s6_ne (by decide)) (s6_ne (by decide)) a b
theorem ms_Iv {S : Sx} (hB : Bd S) (hS : Sp S) (h2 : 2 ≤ S.1 0 0) (hat : ∀ t, S.1 29 t < S.1 0 0) (hl : ∀ p, S.1 24 p ≤ S.1 0 0) : Iv (msS S) ∧ Hp (msS S) := by
  have h4 : S.1 0 0 ≤ 4 := B_nodes hB 0
  have e0 : (msS S).1 0 = S.1 0 := msS_ne (by decide) (by decide)
  have e5 : (msS S).1 5 = (ms5 S).1 5 := s6_ne (by decide)
  refine ⟨⟨Bd_ms hB, by rw [e0]; exact h2, fun t => by rw [e0, msS_ne (by decide) (by decide)]; exact hat t, fun p => by rw [e0, msS_ne (by decide) (by decide)]; exact hl p, fun a b ha hb h => ?_⟩, fun a c ha hc hne h => ?_, fun c hc => ?_⟩
  · rw [e0] at ha hb
    rw [e5] at h
    rw [rhS_eq (S := ms5 S) (S' := msS S) (s6_ne (by decide)) (s6_ne (by decide)) (s6_ne (by decide))]
    exact ms_rh hB hS hb 3 a ha h (rk_3 (D := fun x y => (ms5 S).1 5 (4 * x + y)) h4 ha)
  · rw [e0] at ha hc
    rw [e5] at h
    rw [ms_bh, msS, s6_at (by omega) (by omega), hpF, if_pos ⟨hne, h⟩]
  · rw [e0] at hc
    rw [msS_5 (by omega) (by omega), dst_d (P := prS S) (fun x y => B_price hB _)]
    omega
