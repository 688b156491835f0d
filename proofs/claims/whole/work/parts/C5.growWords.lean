/-! What constructors leave: words. -/
def setL (ν : Nat → Nat → Bool) (a : Nat) (L : List Nat) : Nat → Nat → Bool := fun b k => (decide (b = a) && L.contains k) || ν b k
def ovV (ν : Nat → Nat → Bool) (a c : Nat) : Nat → Nat → Bool := fun b k => decide (a ≤ b ∧ b < a + c) || ν b k
def ovS (σ : Mm) (a c : Nat) (iv : Nat → Nat → Int32) : Mm := (fun b k => if a ≤ b ∧ b < a + c then iv b k else σ.1 b k, σ.2)
/-- all from a to a + m, but for two rows x and y of references: of these the places below p and t -/
def VM (ν : Nat → Nat → Bool) (a x y m p t : Nat) : Nat → Nat → Bool := fun b k => decide ((a ≤ b ∧ b < a + m ∧ b ≠ x ∧ b ≠ y) ∨ (b = x ∧ k < p) ∨ (b = y ∧ k < t)) || ν b k
theorem setL_nil (ν : Nat → Nat → Bool) (a : Nat) : setL ν a [] = ν := by
  funext b k; simp [setL]
theorem VM_nil (ν : Nat → Nat → Bool) (a x y : Nat) : VM ν a x y 0 0 0 = ν := by
  funext b k
  have h : ¬ ((a ≤ b ∧ b < a + 0 ∧ b ≠ x ∧ b ≠ y) ∨ (b = x ∧ k < 0) ∨ (b = y ∧ k < 0)) := by omega
  show (decide ((a ≤ b ∧ b < a + 0 ∧ b ≠ x ∧ b ≠ y) ∨ (b = x ∧ k < 0) ∨ (b = y ∧ k < 0)) || ν b k) = ν b k
  rw [decide_eq_false h, Bool.false_or]
theorem sV_setL (ν : Nat → Nat → Bool) (a k : Nat) (L : List Nat) : sV (setL ν a L) a k = setL ν a (k :: L) := by
  funext b j
  unfold sV setL
  by_cases hb : b = a
  · by_cases hj : j = k
    · simp [hb, hj]
    · simp [hb, hj]
  · simp [hb]
theorem sV_setL2 {ν : Nat → Nat → Bool} {a x k : Nat} {L : List Nat} : sV (setL ν a L) x k = setL (sV ν x k) a L := by
  funext b j
  show (if b = x ∧ j = k then true else ((decide (b = a) && L.contains j) || ν b j)) = ((decide (b = a) && L.contains j) || (if b = x ∧ j = k then true else ν b j))
  by_cases h : b = x ∧ j = k
  · rw [if_pos h, if_pos h, Bool.or_true]
  · rw [if_neg h, if_neg h]
theorem ovV_setL {ν : Nat → Nat → Bool} {a n c : Nat} {L : List Nat} : ovV (setL ν a L) n c = setL (ovV ν n c) a L := by
  funext b j
  show (decide (n ≤ b ∧ b < n + c) || ((decide (b = a) && L.contains j) || ν b j)) = ((decide (b = a) && L.contains j) || (decide (n ≤ b ∧ b < n + c) || ν b j))
  cases decide (n ≤ b ∧ b < n + c) <;> cases (decide (b = a) && L.contains j) <;> rfl
theorem ovV_VM {ν : Nat → Nat → Bool} {a x y m p t c : Nat} (h : ∀ b, a + m ≤ b → b < a + m + c → b ≠ x ∧ b ≠ y) : ovV (VM ν a x y m p t) (a + m) c = VM ν a x y (m + c) p t := by
  funext b k
  unfold ovV VM
  have hh := h b
  cases ν b k
  · rw [Bool.or_false, Bool.or_false, Bool.eq_iff_iff, Bool.or_eq_true, decide_eq_true_eq, decide_eq_true_eq, decide_eq_true_eq]
    constructor
    · rintro (h1 | h1)
      · have := hh h1.1 h1.2; omega
      · omega
    · intro h1
      by_cases h2 : a + m ≤ b ∧ b < a + m + c
      · exact Or.inl h2
      · exact Or.inr (by omega)
  · simp
theorem VM_row {ν : Nat → Nat → Bool} {σ : Mm} {n a x y m p t : Nat} (hF : Fr n ν σ) (hn : n ≤ a + m) (h : ∀ k, isP (a + m) k = false) (hx : a + m ≠ x ∧ a + m ≠ y) : VM ν a x y m p t = VM ν a x y (m + 1) p t := by
  funext b k
  by_cases hb : b = a + m
  · subst hb
    have h1 := (hF (a + m) hn k).1
    rw [h] at h1
    unfold VM
    rw [h1]
    simp
  · unfold VM
    congr 1
    rw [decide_eq_decide]
    omega
theorem VM_x {ν : Nat → Nat → Bool} {a x y m p t : Nat} (h : a + m = x ∨ a + m = y) : VM ν a x y m p t = VM ν a x y (m + 1) p t := by
  funext b k
  unfold VM
  congr 1
  rw [decide_eq_decide]
  omega
theorem VM_sx {ν : Nat → Nat → Bool} {a x y m p t : Nat} (h : x ≠ y) : sV (VM ν a x y m p t) x p = VM ν a x y m (p + 1) t := by
  funext b k
  unfold sV VM
  by_cases hb : b = x ∧ k = p
  · rw [if_pos hb]
    have : ((a ≤ b ∧ b < a + m ∧ b ≠ x ∧ b ≠ y) ∨ (b = x ∧ k < p + 1) ∨ (b = y ∧ k < t)) := by omega
    simp [this]
  · rw [if_neg hb]
    congr 1
    rw [decide_eq_decide]
    omega
theorem VM_sy {ν : Nat → Nat → Bool} {a x y m p t : Nat} (h : x ≠ y) : sV (VM ν a x y m p t) y t = VM ν a x y m p (t + 1) := by
  funext b k
  unfold sV VM
  by_cases hb : b = y ∧ k = t
  · rw [if_pos hb]
    have : ((a ≤ b ∧ b < a + m ∧ b ≠ x ∧ b ≠ y) ∨ (b = x ∧ k < p) ∨ (b = y ∧ k < t + 1)) := by omega
    simp [this]
  · rw [if_neg hb]
    congr 1
    rw [decide_eq_decide]
    omega
/-- one with its rows alone -/
theorem ovV_leaf {ν : Nat → Nat → Bool} {σ : Mm} {a c : Nat} {L : List Nat} (hF : Fr a ν σ) (h1 : ∀ k, isP a k = true → L.contains k = true) (h2 : ∀ b k, a < b → b < a + c → isP b k = false) (hc : 0 < c) : setL ν a L = ovV ν a c := by
  funext b k
  unfold setL ovV
  by_cases hb : a ≤ b ∧ b < a + c
  · rw [show decide (a ≤ b ∧ b < a + c) = true from decide_eq_true hb, Bool.true_or]
    have hf := (hF b hb.1 k).1
    rw [hf]
    by_cases he : b = a
    · subst he
      cases hp : isP b k
      · simp
      · rw [h1 k hp]; simp
    · rw [h2 b k (by omega) hb.2]
      simp
  · rw [show decide (a ≤ b ∧ b < a + c) = false from decide_eq_false hb, Bool.false_or]
    have he : ¬ b = a := by omega
    simp [he]
theorem ovV_VMf {ν : Nat → Nat → Bool} {σ : Mm} {a x y c : Nat} {L : List Nat} (hF : Fr a ν σ) (h1 : ∀ k, isP a k = true → L.contains k = true) (hx : a < x ∧ x < a + c) (hy : a < y ∧ y < a + c) {p t : Nat} (h2 : ∀ k, isP x k = true → k < p) (h3 : ∀ k, isP y k = true → k < t) {m : Nat} (hm : 1 + m = c) : setL (VM ν (a + 1) x y m p t) a L = ovV ν a c := by
  funext b k
  unfold setL ovV VM
  by_cases hb : a ≤ b ∧ b < a + c
  · rw [show decide (a ≤ b ∧ b < a + c) = true from decide_eq_true hb, Bool.true_or]
    have hf := (hF b hb.1 k).1
    by_cases he : b = a
    · subst he
      rw [hf]
      cases hp : isP b k
      · simp
      · rw [h1 k hp]; simp
    · by_cases hbx : b = x
      · subst hbx
        rw [hf]
        cases hp : isP b k
        · simp
        · have := h2 k hp
          simp [this]
      · by_cases hby : b = y
        · subst hby
          rw [hf]
          cases hp : isP b k
          · simp
          · have := h3 k hp
            simp [this]
        · have : ((a + 1 ≤ b ∧ b < a + 1 + m ∧ b ≠ x ∧ b ≠ y) ∨ (b = x ∧ k < p) ∨ (b = y ∧ k < t)) := by omega
          simp [this]
  · rw [show decide (a ≤ b ∧ b < a + c) = false from decide_eq_false hb, Bool.false_or]
    have he : ¬ b = a := by omega
    have : ¬ ((a + 1 ≤ b ∧ b < a + 1 + m ∧ b ≠ x ∧ b ≠ y) ∨ (b = x ∧ k < p) ∨ (b = y ∧ k < t)) := by omega
    simp [he, this]
theorem ovS_eq {σ σ' : Mm} {a c : Nat} {iv : Nat → Nat → Int32} (h2 : σ'.2 = σ.2) (h1 : ∀ b k, a ≤ b → b < a + c → σ'.1 b k = iv b k) (h3 : ∀ b k, ¬ (a ≤ b ∧ b < a + c) → σ'.1 b k = σ.1 b k) : σ' = ovS σ a c iv := by
  refine Prod.ext (funext fun b => funext fun k => ?_) h2
  show σ'.1 b k = if a ≤ b ∧ b < a + c then iv b k else σ.1 b k
  by_cases hb : a ≤ b ∧ b < a + c
  · rw [if_pos hb, h1 b k hb.1 hb.2]
  · rw [if_neg hb, h3 b k hb]
theorem ovS_app {σ : Mm} {a c d : Nat} {iv : Nat → Nat → Int32} : ovS (ovS σ a c iv) (a + c) d iv = ovS σ a (c + d) iv := by
  refine Prod.ext (funext fun b => funext fun k => ?_) rfl
  show (if a + c ≤ b ∧ b < a + c + d then iv b k else if a ≤ b ∧ b < a + c then iv b k else σ.1 b k) = if a ≤ b ∧ b < a + (c + d) then iv b k else σ.1 b k
  by_cases h1 : a + c ≤ b ∧ b < a + c + d
  · rw [if_pos h1, if_pos (by omega)]
  · rw [if_neg h1]
    by_cases h2 : a ≤ b ∧ b < a + c
    · rw [if_pos h2, if_pos (by omega)]
    · rw [if_neg h2, if_neg (by omega)]
theorem ovS_nil {σ : Mm} {a : Nat} {iv : Nat → Nat → Int32} : ovS σ a 0 iv = σ := by
  refine Prod.ext (funext fun b => funext fun k => ?_) rfl
  show (if a ≤ b ∧ b < a + 0 then iv b k else σ.1 b k) = σ.1 b k
  rw [if_neg (by omega)]
theorem ovS_cg {σ : Mm} {a c : Nat} {iv iv' : Nat → Nat → Int32} (h : ∀ b k, a ≤ b → b < a + c → iv b k = iv' b k) : ovS σ a c iv = ovS σ a c iv' := ovS_eq rfl (fun b k h1 h2 => by
  show (if a ≤ b ∧ b < a + c then iv b k else σ.1 b k) = _
  rw [if_pos ⟨h1, h2⟩, h b k h1 h2]) (fun b k h1 => if_neg h1)
theorem ovS_new {σ : Mm} {ν : Nat → Nat → Bool} {a c : Nat} {iv : Nat → Nat → Int32} (hF : Fr (a + c) ν σ) (h : ∀ k, iv (a + c) k = 0) : ovS σ a c iv = ovS σ a (c + 1) iv := ovS_eq rfl (fun b k h1 h2 => by
  show (if a ≤ b ∧ b < a + c then iv b k else σ.1 b k) = _
  by_cases hb : a ≤ b ∧ b < a + c
  · rw [if_pos hb]
  · rw [if_neg hb]
    have he : b = a + c := by omega
    subst he
    rw [h, (hF _ (Nat.le_refl _) k).2.1]) (fun b k h1 => if_neg (by omega))
theorem ovS_wI {σ : Mm} {a c x j : Nat} {v : Int32} {iv : Nat → Nat → Int32} (h : x < a) : wI (ovS σ a c iv) x j v = ovS (wI σ x j v) a c iv := by
  refine ovS_eq rfl (fun b k h1 h2 => ?_) (fun b k h1 => ?_)
  · have hb : b ≠ x := by omega
    show (if b = x then _ else fun k => (if a ≤ b ∧ b < a + c then iv b k else σ.1 b k)) k = _
    rw [if_neg hb]
    exact if_pos ⟨h1, h2⟩
  · show (if b = x then upd (fun k => (if a ≤ x ∧ x < a + c then iv x k else σ.1 x k)) j v else fun k => (if a ≤ b ∧ b < a + c then iv b k else σ.1 b k)) k = (if b = x then upd (σ.1 x) j v else σ.1 b) k
    by_cases hb : b = x
    · rw [if_pos hb, if_pos hb]
      have hx : ¬ (a ≤ x ∧ x < a + c) := by omega
      simp only [if_neg hx]
    · rw [if_neg hb, if_neg hb, if_neg h1]
theorem Fr.sl {n a : Nat} {L : List Nat} {ν : Nat → Nat → Bool} {σ : Mm} (h : Fr n ν σ) (ha : a < n) : Fr n (setL ν a L) σ := fun b hb k => by
  have hne : ¬ b = a := by omega
  have h2 := h b hb k
  exact ⟨by unfold setL; simp [hne, h2.1], h2.2⟩
theorem Fr.ov {n c : Nat} {ν : Nat → Nat → Bool} {σ : Mm} {iv : Nat → Nat → Int32} {a m : Nat} (h : Fr n ν σ) (hn : n ≤ m) (hm : a + c ≤ m) : Fr m (ovV ν a c) (ovS σ a c iv) := fun b hb k => by
  have h2 := h b (by omega) k
  have hne : ¬ (a ≤ b ∧ b < a + c) := by omega
  exact ⟨by unfold ovV; simp only [hne, decide_false, Bool.false_or]; exact h2.1, (if_neg hne).trans h2.2.1, h2.2.2⟩
theorem Fr.vm {n a x y m p t : Nat} {ν : Nat → Nat → Bool} {σ : Mm} (h : Fr n ν σ) {q : Nat} (hn : n ≤ q) (hq : a + m ≤ q ∧ (p = 0 ∨ x < q) ∧ (t = 0 ∨ y < q)) : Fr q (VM ν a x y m p t) σ := fun b hb k => by
  have h2 := h b (by omega) k
  have hne : ¬ ((a ≤ b ∧ b < a + m ∧ b ≠ x ∧ b ≠ y) ∨ (b = x ∧ k < p) ∨ (b = y ∧ k < t)) := by omega
  exact ⟨by unfold VM; simp only [hne, decide_false, Bool.false_or]; exact h2.1, h2.2⟩
theorem Fr.os {n c : Nat} {ν : Nat → Nat → Bool} {σ : Mm} {iv : Nat → Nat → Int32} {a m : Nat} (h : Fr n ν σ) (hn : n ≤ m) (hm : a + c ≤ m) : Fr m ν (ovS σ a c iv) := fun b hb k => by
  have h2 := h b (by omega) k
  have hne : ¬ (a ≤ b ∧ b < a + c) := by omega
  exact ⟨h2.1, (if_neg hne).trans h2.2.1, h2.2.2⟩
section
variable {M : MI} {J : JN} {pc : Nat} {ls : List (Option Value)} {st : List Value} {n : Nat} {ν : Nat → Nat → Bool} {σ : Mm}
theorem ng_putRL {idx a ci nf k r : Nat} {ty : FieldType} {L : List Nat} (d : decode (ic M) pc = .ok (.putfield idx, 3)) (f : FQ (iy M).cls idx ci k ty) (ha : kn n a = (ci, nf)) (hq : ci < 20 ∧ k < nf ∧ isR ci k = true) (hty : (∃ C, ty = .object C) ∨ ∃ t, ty = .array t) (hr : rf a k = r) (k0 : GN M J (pc + 3) ls st (n, setL ν a (k :: L), σ)) : GN M J pc ls (.ref r :: .ref a :: st) (n, setL ν a L, σ) := ng_putR d f ha hq hty hr (by rw [sV_setL]; exact k0)
theorem setL_at {a k : Nat} {L : List Nat} (h : L.contains k = true) : setL ν a L a k = true := by
  unfold setL; rw [h]; simp
end
theorem flI_ne {σ : Mm} {a n b : Nat} {v : Int32} (h : b ≠ a) : (flI σ a n v).1 b = σ.1 b := by
  funext j; rw [flI_at, if_neg (fun q => h q.1)]
theorem wI_ne {σ : Mm} {a j b : Nat} {v : Int32} (h : b ≠ a) : (wI σ a j v).1 b = σ.1 b := if_neg h
theorem wI_self {σ : Mm} {a j k : Nat} {v : Int32} : (wI σ a j v).1 a k = if k = j then v else σ.1 a k := by
  show (if a = a then upd (σ.1 a) j v else σ.1 a) k = _
  rw [if_pos rfl]; rfl
theorem isP_obj {a ci n k : Nat} (h : kd a = (ci, n)) (hc : ci < 20) : isP a k = isR ci k := by unfold isP; rw [h]; exact if_pos hc
theorem isP_row {a c n k : Nat} (h : kd a = (c, n)) (hc : ¬ c < 20 ∧ c < 24) : isP a k = false := by
  unfold isP; rw [h]
  have : ¬ 24 ≤ c := by omega
  show (if c < 20 then _ else _) = false
  rw [if_neg hc.1]
  simp [this]
theorem isP_refs {a c n k : Nat} (h : kd a = (c, n)) (hc : 24 ≤ c) (hp : isP a k = true) : k < n := by
  unfold isP at hp; rw [h] at hp
  have : ¬ c < 20 := by omega
  rw [show (if (c, n).1 < 20 then isR (c, n).1 k else decide (24 ≤ (c, n).1) && decide (k < (c, n).2)) = (decide (24 ≤ c) && decide (k < n)) from if_neg this, Bool.and_eq_true, decide_eq_true_eq, decide_eq_true_eq] at hp
  exact hp.2
theorem isR_in {ci k : Nat} (h : isR ci k = true) : k ∈ refL.getD ci [] := by
  unfold isR at h
  simpa using h
theorem isR_sub {ci k : Nat} {L : List Nat} (hL : (refL.getD ci []).all (fun k => L.contains k) = true) (h : isR ci k = true) : L.contains k = true := List.all_eq_true.mp hL k (isR_in h)
def ivO (a : Nat) (f : Nat → Int32) : Nat → Nat → Int32 := fun b k => if b = a then f k else 0
theorem ovS_obj {σ σ' : Mm} {ν : Nat → Nat → Bool} {a c : Nat} {f : Nat → Int32} (hF : Fr a ν σ) (hc : 0 < c) (h2 : σ'.2 = σ.2) (h1 : ∀ b, b ≠ a → σ'.1 b = σ.1 b) (h3 : ∀ k, σ'.1 a k = f k) : σ' = ovS σ a c (ivO a f) := by
  refine ovS_eq h2 (fun b k g1 g2 => ?_) (fun b k g1 => by rw [h1 b (by omega)])
  unfold ivO
  by_cases hb : b = a
  · subst hb; rw [if_pos rfl]; exact h3 k
  · rw [if_neg hb, h1 b hb]; exact (hF b g1 k).2.1
