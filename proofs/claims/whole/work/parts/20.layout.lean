/-! The layout behind both constructors, and a judgement over it: abstract addresses are offsets from the base B; a memory is its ints (and booleans, bytes) and its longs. -/
abbrev Mm : Type := (Nat → Nat → Int32) × (Nat → Nat → Int64)
abbrev MI : Type := MethodName × ByteArray × Nat × Option FieldType × Nat × Nat
def iy (M : MI) : MethodName := M.1
def ic (M : MI) : ByteArray := M.2.1
def il (M : MI) : Nat := M.2.2.1
def ir (M : MI) : Option FieldType := M.2.2.2.1
def ifr (M : MI) : Nat := M.2.2.2.2.1
def ilw (M : MI) : Nat := M.2.2.2.2.2
def tbG : List Cond := lw_tbl.filter goodWord
theorem tbG_at {w : Cond} (i : Nat) (h : lw_tbl[i]? = some w) (hg : goodWord w = true) : w ∈ tbG := List.mem_filter.mpr ⟨List.mem_of_getElem? h, hg⟩
def wsM (M : MI) : List Cond := .code (iy M) (ic M) (il M) (ir M) :: tbG
def rmM (M : MI) : Room := { frames := ifr M, cells := 0, slots := 0, locals := ilw M }
def kdL : List (Nat × Nat) := [(11, 4), (1, 7), (20, 16), (20, 16), (20, 16), (20, 16), (25, 10), (7, 5), (20, 60), (20, 60), (22, 60), (20, 60), (7, 5), (20, 60), (20, 60), (22, 60), (20, 60), (7, 5), (20, 60), (20, 60), (22, 60), (20, 60), (7, 5), (20, 60), (20, 60), (22, 60), (20, 60), (7, 5), (20, 60), (20, 60), (22, 60), (20, 60), (7, 5), (20, 60), (20, 60), (22, 60), (20, 60), (7, 5), (20, 60), (20, 60), (22, 60), (20, 60), (7, 5), (20, 60), (20, 60), (22, 60), (20, 60), (7, 5), (20, 60), (20, 60), (22, 60), (20, 60), (7, 5), (20, 60), (20, 60), (22, 60), (20, 60), (3, 19), (5, 2), (20, 40), (20, 4), (6, 5), (0, 10), (24, 20), (27, 10), (20, 4), (20, 4), (9, 4), (20, 16), (20, 16), (20, 16), (2, 5), (20, 4), (20, 80), (20, 3300), (4, 9), (20, 4), (20, 4), (4, 9), (20, 4), (20, 4), (4, 9), (20, 4), (20, 4), (4, 9), (20, 4), (20, 4), (4, 9), (20, 4), (20, 4), (4, 9), (20, 4), (20, 4), (4, 9), (20, 4), (20, 4), (4, 9), (20, 4), (20, 4), (4, 9), (20, 4), (20, 4), (4, 9), (20, 4), (20, 4), (4, 9), (20, 4), (20, 4), (4, 9), (20, 4), (20, 4), (4, 9), (20, 4), (20, 4), (4, 9), (20, 4), (20, 4), (4, 9), (20, 4), (20, 4), (4, 9), (20, 4), (20, 4), (4, 9), (20, 4), (20, 4), (4, 9), (20, 4), (20, 4), (4, 9), (20, 4), (20, 4), (4, 9), (20, 4), (20, 4), (10, 8), (10, 8), (10, 8), (10, 8), (10, 8), (10, 8), (10, 8), (10, 8), (10, 8), (10, 8), (3, 19), (5, 2), (20, 40), (20, 4), (6, 5), (0, 10), (24, 20), (27, 10), (20, 4), (20, 4), (9, 4), (20, 16), (20, 16), (20, 16), (2, 5), (20, 4), (20, 80), (20, 0), (4, 9), (20, 4), (20, 4), (4, 9), (20, 4), (20, 4), (4, 9), (20, 4), (20, 4), (4, 9), (20, 4), (20, 4), (4, 9), (20, 4), (20, 4), (4, 9), (20, 4), (20, 4), (4, 9), (20, 4), (20, 4), (4, 9), (20, 4), (20, 4), (4, 9), (20, 4), (20, 4), (4, 9), (20, 4), (20, 4), (4, 9), (20, 4), (20, 4), (4, 9), (20, 4), (20, 4), (4, 9), (20, 4), (20, 4), (4, 9), (20, 4), (20, 4), (4, 9), (20, 4), (20, 4), (4, 9), (20, 4), (20, 4), (4, 9), (20, 4), (20, 4), (4, 9), (20, 4), (20, 4), (4, 9), (20, 4), (20, 4), (4, 9), (20, 4), (20, 4), (10, 8), (10, 8), (10, 8), (10, 8), (10, 8), (10, 8), (10, 8), (10, 8), (10, 8), (10, 8), (26, 8), (8, 8), (23, 60), (20, 60), (8, 8), (23, 60), (20, 60), (8, 8), (23, 60), (20, 60), (8, 8), (23, 60), (20, 60), (8, 8), (23, 60), (20, 60), (8, 8), (23, 60), (20, 60), (8, 8), (23, 60), (20, 60), (8, 8), (23, 60), (20, 60), (12, 65), (20, 16), (20, 16), (20, 16), (20, 20), (20, 10), (20, 600), (20, 600), (22, 600), (20, 600), (20, 2), (20, 2), (20, 2), (20, 2), (20, 2), (20, 2), (21, 2), (20, 2), (20, 2), (20, 2), (20, 2), (20, 40), (20, 40), (22, 40), (20, 40), (20, 160), (20, 40), (21, 40), (20, 160), (20, 20), (20, 20), (20, 20), (20, 20), (20, 20), (22, 20), (20, 20), (21, 20), (20, 20), (22, 20), (21, 8), (20, 32), (20, 32), (20, 32), (20, 3000), (20, 300), (21, 4), (21, 4), (20, 80), (20, 8), (20, 8), (20, 8), (20, 8), (20, 480), (20, 60), (21, 1)]
def N0 : Nat := 313
def kd (a : Nat) : Nat × Nat := kdL.getD a (99, 0)
def kw (Ω : Nat × Nat) (a : Nat) : Nat × Nat := if Ω.1 ≤ a ∧ a < Ω.2 then kd a else (99, 0)
def refL : List (List Nat) := [[], [3, 4, 5, 6], [1, 3, 4], [0, 1, 2, 3, 4, 5, 6, 7, 8, 9], [0, 1], [0, 1], [], [0, 1, 2, 3], [0, 1], [0, 1, 2, 3], [0], [0, 1, 2, 3], [4, 5, 6, 8, 10, 11, 12, 13, 14, 18, 19, 20, 21, 22, 23, 24, 25, 26, 27, 28, 29, 30, 31, 32, 33, 34, 35, 36, 37, 38, 39, 40, 41, 42, 43, 44, 45, 46, 47, 48, 49, 50, 52, 53, 56, 57, 58, 59, 60, 61, 62, 63, 64]]
def isR (ci k : Nat) : Bool := (refL.getD ci []).contains k
def rfMo : List Nat := [0, 0, 0, 0, 259, 260, 261, 0, 262, 0, 263, 264, 265, 266, 267, 0, 0, 0, 268, 269, 270, 271, 272, 273, 274, 275, 276, 277, 278, 279, 280, 281, 282, 283, 284, 285, 286, 287, 288, 289, 290, 291, 292, 293, 294, 295, 296, 297, 298, 299, 300, 0, 301, 302, 0, 0, 303, 304, 305, 306, 307, 308, 309, 310, 311]
/-- a machine at b: what its parts refer to -/
def rfMa (b o k : Nat) : Nat :=
  if o = 0 then ([1, b + 10, b + 1, b + 4, b + 14, b + 5, b + 6, b + 7, b + 8, b + 9].getD k 0)
  else if o = 1 then b + 2 + k
  else if o = 6 then b + 18 + 3 * k
  else if o = 7 then b + 78 + k
  else if o = 10 then (if k = 0 then 1 else b + 10 + k)
  else if o = 14 then (if k = 1 then b + 17 else if k = 3 then b + 15 else b + 16)
  else if o < 78 then b + o + 1 + k
  else 7 + 5 * (o - 78)
def rf (a k : Nat) : Nat :=
  if a = 0 then ([1, 57, 145, 233].getD k 0)
  else if a = 1 then k - 1
  else if a = 6 then 7 + 5 * k
  else if a < 57 then a + 1 + k
  else if a < 145 then rfMa 57 (a - 57) k
  else if a < 233 then rfMa 145 (a - 145) k
  else if a = 233 then 234 + 3 * k
  else if a < 258 then a + 1 + k
  else rfMo.getD k 0
def cv (B : Nat) : Value → Value
  | .ref a => .ref (B + a)
  | v => v
def fval (B : Nat) (σ : Mm) (a ci k : Nat) : Value := if isR ci k = true then .ref (B + rf a k) else .int (σ.1 a k)
def ent (B : Nat) (cA : Nat → ClassId) (σ : Mm) (a : Nat) : va_E :=
  if (kd a).1 < 20 then .inr ((kd a).1, (List.range (kd a).2).map (fval B σ a (kd a).1))
  else if (kd a).1 = 21 then .inl (cA 21, (kd a).2, .inr (.inl (σ.2 a)))
  else if (kd a).1 < 24 then .inl (cA (kd a).1, (kd a).2, .inl (σ.1 a))
  else .inl (cA (kd a).1, (kd a).2, .inr (.inr (.inr (.inr (fun i => some (B + rf a i))))))
def wld (Ω : Nat × Nat) (B : Nat) (cA : Nat → ClassId) (σ : Mm) : va_W := (List.range (Ω.2 - Ω.1)).map (fun i => (B + (Ω.1 + i), ent B cA σ (Ω.1 + i)))
def tysL (cA : Nat → ClassId) : List (ClassId × FieldType) := [(cA 20, .int), (cA 21, .long), (cA 22, .boolean), (cA 23, .byte), (cA 24, .object "FarCells$Page"), (cA 25, .object "FarCells$Script"), (cA 26, .object "FarCells$Shelf"), (cA 27, .object "FarCells$Worker")]
def wI (σ : Mm) (a j : Nat) (v : Int32) : Mm := (fun b => if b = a then upd (σ.1 a) j v else σ.1 b, σ.2)
def wL (σ : Mm) (a j : Nat) (v : Int64) : Mm := (σ.1, fun b => if b = a then vp_updL (σ.2 a) j v else σ.2 b)
theorem kw_in {Ω : Nat × Nat} {a : Nat} {q : Nat × Nat} (h : kw Ω a = q) (hq : q.1 ≠ 99) : Ω.1 ≤ a ∧ a < Ω.2 ∧ kd a = q := by
  unfold kw at h
  split at h
  · next hh => exact ⟨hh.1, hh.2, h⟩
  · exact absurd (by rw [← h]) hq
theorem wld_at {Ω : Nat × Nat} {B : Nat} {cA : Nat → ClassId} {σ : Mm} {a : Nat} (h1 : Ω.1 ≤ a) (h2 : a < Ω.2) : (wld Ω B cA σ)[a - Ω.1]? = some (B + a, ent B cA σ a) := by
  have h3 : a - Ω.1 < Ω.2 - Ω.1 := by omega
  have h4 : Ω.1 + (a - Ω.1) = a := by omega
  simp only [wld, List.getElem?_map, List.getElem?_range h3, Option.map_some, h4]
theorem wld_set {Ω : Nat × Nat} {B : Nat} {cA : Nat → ClassId} {σ σ' : Mm} {a : Nat} {e : va_E} (h1 : Ω.1 ≤ a) (h2 : a < Ω.2) (he : e = ent B cA σ' a) (ho : ∀ b, b ≠ a → ent B cA σ' b = ent B cA σ b) : (wld Ω B cA σ).set (a - Ω.1) (B + a, e) = wld Ω B cA σ' := by
  subst he
  apply List.ext_getElem?
  intro i
  rw [List.getElem?_set]
  by_cases hi : a - Ω.1 = i
  · subst hi
    have h3 : a - Ω.1 < (wld Ω B cA σ).length := by simp only [wld, List.length_map, List.length_range]; omega
    rw [if_pos rfl, if_pos h3, wld_at h1 h2]
  · rw [if_neg hi]
    by_cases hl : i < Ω.2 - Ω.1
    · simp only [wld, List.getElem?_map, List.getElem?_range hl, Option.map_some]
      rw [ho (Ω.1 + i) (by omega)]
    · have hl' : Ω.2 - Ω.1 ≤ i := by omega
      simp only [wld, List.getElem?_map, List.getElem?_eq_none (by simpa using hl' : (List.range (Ω.2 - Ω.1)).length ≤ i), Option.map_none]
theorem wld_D {Ω : Nat × Nat} {B : Nat} {cA : Nat → ClassId} {σ : Mm} : va_D (fun q => B + Ω.1 ≤ q) (wld Ω B cA σ) := by
  refine ⟨fun i j p q hi hj he => ?_, fun k q hk => ?_⟩
  · simp only [wld, List.getElem?_map, Option.map_eq_some_iff] at hi hj
    obtain ⟨x, hx, rfl⟩ := hi
    obtain ⟨y, hy, rfl⟩ := hj
    have hi2 : x = i := by
      have := List.getElem?_eq_some_iff.mp hx
      obtain ⟨h1, h2⟩ := this
      simpa using h2.symm
    have hj2 : y = j := by
      have := List.getElem?_eq_some_iff.mp hy
      obtain ⟨h1, h2⟩ := this
      simpa using h2.symm
    subst hi2; subst hj2
    have : B + (Ω.1 + x) = B + (Ω.1 + y) := he
    omega
  · simp only [wld, List.getElem?_map, Option.map_eq_some_iff] at hk
    obtain ⟨x, hx, rfl⟩ := hk
    show B + Ω.1 ≤ B + (Ω.1 + x)
    omega
theorem ent_obj {B : Nat} {cA : Nat → ClassId} {σ : Mm} {a ci n : Nat} (h : kd a = (ci, n)) (hc : ci < 20) : ent B cA σ a = .inr (ci, (List.range n).map (fval B σ a ci)) := by
  unfold ent; rw [h]; exact if_pos hc
theorem ent_long {B : Nat} {cA : Nat → ClassId} {σ : Mm} {a n : Nat} (h : kd a = (21, n)) : ent B cA σ a = .inl (cA 21, n, .inr (.inl (σ.2 a))) := by
  unfold ent; rw [h]; rfl
theorem ent_int {B : Nat} {cA : Nat → ClassId} {σ : Mm} {a c n : Nat} (h : kd a = (c, n)) (hc : c = 20 ∨ c = 22 ∨ c = 23) : ent B cA σ a = .inl (cA c, n, .inl (σ.1 a)) := by
  unfold ent; rw [h]
  rcases hc with rfl | rfl | rfl <;> rfl
theorem ent_ref {B : Nat} {cA : Nat → ClassId} {σ : Mm} {a c n : Nat} (h : kd a = (c, n)) (hc : 24 ≤ c) : ent B cA σ a = .inl (cA c, n, .inr (.inr (.inr (.inr (fun i => some (B + rf a i)))))) := by
  unfold ent; rw [h]
  have h1 : ¬ c < 20 := by omega
  have h2 : ¬ c = 21 := by omega
  have h3 : ¬ c < 24 := by omega
  simp only [h1, h2, h3, if_false]
theorem ent_wI {B : Nat} {cA : Nat → ClassId} {σ : Mm} {a j b : Nat} {v : Int32} (h : b ≠ a) : ent B cA (wI σ a j v) b = ent B cA σ b := by
  have h1 : (wI σ a j v).1 b = σ.1 b := if_neg h
  have h2 : (wI σ a j v).2 b = σ.2 b := rfl
  unfold ent
  rw [h1, h2]
  have h3 : fval B (wI σ a j v) b (kd b).1 = fval B σ b (kd b).1 := by
    funext k; unfold fval; rw [h1]
  rw [h3]
theorem ent_wL {B : Nat} {cA : Nat → ClassId} {σ : Mm} {a j b : Nat} {v : Int64} (h : b ≠ a) : ent B cA (wL σ a j v) b = ent B cA σ b := by
  have h1 : (wL σ a j v).2 b = σ.2 b := if_neg h
  have h2 : (wL σ a j v).1 b = σ.1 b := rfl
  unfold ent
  rw [h1, h2]
  have h3 : fval B (wL σ a j v) b (kd b).1 = fval B σ b (kd b).1 := by
    funext k; unfold fval; rw [h2]
  rw [h3]
theorem kd_small (a : Nat) : (kd a).2 ≤ 3300 := by
  by_cases h : a < 313
  · have : ∀ a, a < 313 → (kd a).2 ≤ 3300 := by decide +kernel
    exact this a h
  · unfold kd
    have hl : kdL.length ≤ a := by
      have : kdL.length = 313 := by decide +kernel
      omega
    rw [List.getD, List.getElem?_eq_none hl]
    decide
