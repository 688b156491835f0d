/-! The class: where its memory shows the abstract state. A machine lies at b. -/
def mch (b : Nat) : Prop := b = 57 ∨ b = 145
def lzC (v : Nat) : Int32 := if v = 0 then -1 else nI (v - 1)
def encC (g v : Nat) : Int32 := if g = 24 then lzC v else nI v
def cl (b g i : Nat) : Nat × Nat := if g = 0 then (1, 0) else if g = 1 then (1, 1) else if g = 2 then (1, 2) else if g = 3 then (2, i) else if g = 4 then (3, i) else if g = 5 then (4, i) else if g = 6 then (5, i) else if g = 7 then (b, 10) else if g = 8 then (b + 18 + 3 * i, 2) else if g = 9 then (b, 11) else if g = 10 then (7 + 5 * i, 4) else if g = 11 then (8 + 5 * (i / 60), i % 60) else if g = 12 then (9 + 5 * (i / 60), i % 60) else if g = 13 then (10 + 5 * (i / 60), i % 60) else if g = 14 then (b + 4, 3) else if g = 15 then (b + 4, 4) else if g = 20 then (b + 4, 0) else if g = 21 then (b + 4, 1) else if g = 22 then (b + 4, 2) else if g = 23 then (b, 12) else if g = 24 then (b + 18 + 3 * i, 3) else if g = 25 then (b + 18 + 3 * i, 4) else if g = 26 then (b + 18 + 3 * i, 8) else if g = 27 then (b + 18 + 3 * i, 5) else if g = 29 then (b + 78 + i, 1) else if g = 30 then (b + 78 + i, 2) else if g = 31 then (b + 78 + i, 3) else if g = 32 then (b + 78 + i, 7) else if g = 33 then (b + 13, i) else if g = 34 then (b + 14, 2) else if g = 39 then (b + 14, 0) else (999, 0)
def szC (g : Nat) : Nat := if g = 0 then 1 else if g = 1 then 1 else if g = 2 then 1 else if g = 3 then 16 else if g = 4 then 16 else if g = 5 then 16 else if g = 6 then 16 else if g = 7 then 1 else if g = 8 then 20 else if g = 9 then 1 else if g = 10 then 10 else if g = 11 then 600 else if g = 12 then 600 else if g = 13 then 600 else if g = 14 then 1 else if g = 15 then 1 else if g = 20 then 1 else if g = 21 then 1 else if g = 22 then 1 else if g = 23 then 1 else if g = 24 then 20 else if g = 25 then 20 else if g = 26 then 20 else if g = 27 then 20 else if g = 29 then 10 else if g = 30 then 10 else if g = 31 then 10 else if g = 32 then 10 else if g = 33 then 16 else if g = 34 then 1 else if g = 39 then 1 else 0
def dmC (S : Sx) (g i : Nat) : Prop := if g = 3 then (i / 4 < i % 4) else if g = 4 then (i / 4 < i % 4) else if g = 5 then (i / 4 < S.1 0 0 ∧ i % 4 < S.1 0 0) else if g = 6 then (i / 4 < S.1 0 0 ∧ i % 4 < S.1 0 0) else if g = 8 then (i < S.1 7 0) else if g = 24 then (i < S.1 7 0) else if g = 25 then (i < S.1 7 0) else if g = 26 then (i < S.1 7 0) else if g = 27 then (i < S.1 7 0) else if g = 29 then (i < S.1 9 0) else if g = 30 then (i < S.1 9 0) else if g = 31 then (i < S.1 9 0) else if g = 32 then (i < S.1 9 0) else True
def clV (b g i : Nat) : Nat × Nat := if g = 0 then (11 + 5 * (i / 60), i % 60) else if g = 1 then (b, 13) else if g = 2 then (b, 14) else if g = 3 then (b, 15) else if g = 4 then (b, 16) else if g = 5 then (b, 17) else if g = 6 then (b, 18) else if g = 7 then (b + 18 + 3 * i, 6) else if g = 8 then (b + 18 + 3 * i, 7) else if g = 9 then (b + 19 + 3 * (i / 4), i % 4) else if g = 10 then (b + 78 + i, 4) else if g = 11 then (b + 78 + i, 5) else if g = 12 then (b + 78 + i, 6) else if g = 13 then (b + 9, i) else if g = 14 then (b + 11, i) else if g = 15 then (b + 12, i) else if g = 16 then (b + 17, 11 * (i / 10) + i % 10) else if g = 17 then (b + 17, 11 * i + 10) else (999, 0)
def szV (g : Nat) : Nat := if g = 0 then 600 else if g = 1 then 1 else if g = 2 then 1 else if g = 3 then 1 else if g = 4 then 1 else if g = 5 then 1 else if g = 6 then 1 else if g = 7 then 20 else if g = 8 then 20 else if g = 9 then 80 else if g = 10 then 10 else if g = 11 then 10 else if g = 12 then 10 else if g = 13 then 4 else if g = 14 then 16 else if g = 15 then 16 else if g = 16 then 3000 else if g = 17 then 300 else 0
def dmV (S : Sx) (g i : Nat) : Prop := if g = 7 then (i < S.1 7 0) else if g = 8 then (i < S.1 7 0) else if g = 9 then (i < 4 * S.1 7 0) else if g = 10 then (i < S.1 9 0) else if g = 11 then (i < S.1 9 0) else if g = 12 then (i < S.1 9 0) else if g = 16 then (i < 10 * S.1 39 0) else if g = 17 then (i < S.1 39 0) else True
/-- what lies at a place: a component and its index (100 and more: the ints; 200 faults, 201 taken, 202 order, 203 size) -/
def invC (b a j : Nat) : Nat × Nat :=
  if a = 1 then (j, 0)
  else if a = 2 then (3, j) else if a = 3 then (4, j) else if a = 4 then (5, j) else if a = 5 then (6, j)
  else if 7 ≤ a ∧ a < 57 then (if (a - 7) % 5 = 0 then (10, (a - 7) / 5) else if (a - 7) % 5 = 1 then (11, 60 * ((a - 7) / 5) + j) else if (a - 7) % 5 = 2 then (12, 60 * ((a - 7) / 5) + j) else if (a - 7) % 5 = 3 then (13, 60 * ((a - 7) / 5) + j) else (100, 60 * ((a - 7) / 5) + j))
  else if a = b then (if j = 10 then (7, 0) else if j = 11 then (9, 0) else if j = 12 then (23, 0) else if j = 13 then (101, 0) else if j = 14 then (102, 0) else if j = 15 then (103, 0) else if j = 16 then (104, 0) else if j = 17 then (105, 0) else (106, 0))
  else if a = b + 2 then (202, j) else if a = b + 3 then (203, j)
  else if a = b + 4 then (if j = 0 then (20, 0) else if j = 1 then (21, 0) else if j = 2 then (22, 0) else if j = 3 then (14, 0) else (15, 0))
  else if a = b + 8 then (201, j) else if a = b + 9 then (113, j) else if a = b + 11 then (114, j) else if a = b + 12 then (115, j) else if a = b + 13 then (33, j)
  else if a = b + 14 then (if j = 0 then (39, 0) else (34, 0))
  else if a = b + 17 then (if j % 11 = 10 then (117, j / 11) else (116, 10 * (j / 11) + j % 11))
  else if b + 18 ≤ a ∧ a < b + 78 then (if (a - b - 18) % 3 = 0 then ((if j = 2 then 8 else if j = 3 then 24 else if j = 4 then 25 else if j = 5 then 27 else if j = 6 then 107 else if j = 7 then 108 else 26), (a - b - 18) / 3) else if (a - b - 18) % 3 = 1 then (109, 4 * ((a - b - 18) / 3) + j) else (200, 4 * ((a - b - 18) / 3) + j))
  else if b + 78 ≤ a ∧ a < b + 88 then ((if j = 1 then 29 else if j = 2 then 30 else if j = 3 then 31 else if j = 4 then 110 else if j = 5 then 111 else if j = 6 then 112 else 32), a - b - 78)
  else (999, 0)
theorem invN_57 : ((List.range 40).all fun g => (List.range (szC g)).all fun i => invC 57 (cl 57 g i).1 (cl 57 g i).2 == (g, i)) = true := by decide +kernel
theorem invN_145 : ((List.range 40).all fun g => (List.range (szC g)).all fun i => invC 145 (cl 145 g i).1 (cl 145 g i).2 == (g, i)) = true := by decide +kernel
theorem invV_57 : ((List.range 20).all fun g => (List.range (szV g)).all fun i => invC 57 (clV 57 g i).1 (clV 57 g i).2 == (100 + g, i)) = true := by decide +kernel
theorem invV_145 : ((List.range 20).all fun g => (List.range (szV g)).all fun i => invC 145 (clV 145 g i).1 (clV 145 g i).2 == (100 + g, i)) = true := by decide +kernel
theorem szC_lt {g i : Nat} (h : i < szC g) : g < 40 := by
  rcases Nat.lt_or_ge g 40 with q | q
  · exact q
  · exfalso
    unfold szC at h
    revert h
    repeat (rw [if_neg (by omega)])
    omega
theorem szV_lt {g i : Nat} (h : i < szV g) : g < 20 := by
  rcases Nat.lt_or_ge g 20 with q | q
  · exact q
  · exfalso
    unfold szV at h
    revert h
    repeat (rw [if_neg (by omega)])
    omega
theorem inv_N {b g i : Nat} (hb : mch b) (h : i < szC g) : invC b (cl b g i).1 (cl b g i).2 = (g, i) := by
  have hg := szC_lt h
  rcases hb with rfl | rfl
  · exact eq_of_beq (List.all_eq_true.mp (List.all_eq_true.mp invN_57 g (List.mem_range.mpr hg)) i (List.mem_range.mpr h))
  · exact eq_of_beq (List.all_eq_true.mp (List.all_eq_true.mp invN_145 g (List.mem_range.mpr hg)) i (List.mem_range.mpr h))
theorem inv_V {b g i : Nat} (hb : mch b) (h : i < szV g) : invC b (clV b g i).1 (clV b g i).2 = (100 + g, i) := by
  have hg := szV_lt h
  rcases hb with rfl | rfl
  · exact eq_of_beq (List.all_eq_true.mp (List.all_eq_true.mp invV_57 g (List.mem_range.mpr hg)) i (List.mem_range.mpr h))
  · exact eq_of_beq (List.all_eq_true.mp (List.all_eq_true.mp invV_145 g (List.mem_range.mpr hg)) i (List.mem_range.mpr h))
/-- the faults of a page, the latest one first; places taken; the queues -/
def cFa (b : Nat) (σ : Mm) (S : Sx) : Prop := ∀ p k, p < S.1 7 0 → k < S.1 27 p → σ.1 (b + 20 + 3 * p) k = nI (S.1 28 (4 * p + (S.1 27 p - 1 - k)))
def cTk (b : Nat) (σ : Mm) (Tf : Nat → Nat) : Prop := ∀ a, a < 4 → σ.1 (b + 8) a = nI (Tf a)
def cQu (b : Nat) (σ : Mm) (S : Sx) : Prop := ∀ a, a < 4 → (S.2.2 a).length ≤ 10 ∧ σ.1 (b + 3) a = nI (S.2.2 a).length ∧ ∀ i, i < (S.2.2 a).length → σ.1 (b + 2) (10 * a + i) = nI ((S.2.2 a).getD i 0)
def RepC (b : Nat) (σ : Mm) (S : Sx) (Tf : Nat → Nat) : Prop :=
  (∀ g i, i < szC g → dmC S g i → σ.1 (cl b g i).1 (cl b g i).2 = encC g (S.1 g i)) ∧
  (∀ g i, i < szV g → dmV S g i → σ.1 (clV b g i).1 (clV b g i).2 = S.2.1 g i) ∧
  cFa b σ S ∧ cTk b σ Tf ∧ cQu b σ S
theorem C_nodes {b : Nat} {σ : Mm} {S : Sx} {Tf : Nat → Nat} (h : RepC b σ S Tf) : σ.1 (1) 0 = nI (S.1 0 0) := by
  have q := h.1 0 0 (by simp [szC]) (by simp [dmC])
  simpa [cl, encC] using q
theorem C_proc {b : Nat} {σ : Mm} {S : Sx} {Tf : Nat → Nat} (h : RepC b σ S Tf) : σ.1 (1) 1 = nI (S.1 1 0) := by
  have q := h.1 1 0 (by simp [szC]) (by simp [dmC])
  simpa [cl, encC] using q
theorem C_room {b : Nat} {σ : Mm} {S : Sx} {Tf : Nat → Nat} (h : RepC b σ S Tf) : σ.1 (1) 2 = nI (S.1 2 0) := by
  have q := h.1 2 0 (by simp [szC]) (by simp [dmC])
  simpa [cl, encC] using q
theorem C_price {b : Nat} {σ : Mm} {S : Sx} {Tf : Nat → Nat} (h : RepC b σ S Tf) {i : Nat} (hi : i < 16) (hd : i / 4 < i % 4) : σ.1 (2) (i) = nI (S.1 3 i) := by
  have q := h.1 3 i (by simp [szC]; exact hi) (by simp [dmC]; exact hd)
  simpa [cl, encC] using q
theorem C_width {b : Nat} {σ : Mm} {S : Sx} {Tf : Nat → Nat} (h : RepC b σ S Tf) {i : Nat} (hi : i < 16) (hd : i / 4 < i % 4) : σ.1 (3) (i) = nI (S.1 4 i) := by
  have q := h.1 4 i (by simp [szC]; exact hi) (by simp [dmC]; exact hd)
  simpa [cl, encC] using q
theorem C_far {b : Nat} {σ : Mm} {S : Sx} {Tf : Nat → Nat} (h : RepC b σ S Tf) {i : Nat} (hi : i < 16) (hd : i / 4 < S.1 0 0 ∧ i % 4 < S.1 0 0) : σ.1 (4) (i) = nI (S.1 5 i) := by
  have q := h.1 5 i (by simp [szC]; exact hi) (by simp [dmC]; exact hd)
  simpa [cl, encC] using q
theorem C_hop {b : Nat} {σ : Mm} {S : Sx} {Tf : Nat → Nat} (h : RepC b σ S Tf) {i : Nat} (hi : i < 16) (hd : i / 4 < S.1 0 0 ∧ i % 4 < S.1 0 0) : σ.1 (5) (i) = nI (S.1 6 i) := by
  have q := h.1 6 i (by simp [szC]; exact hi) (by simp [dmC]; exact hd)
  simpa [cl, encC] using q
theorem C_P {b : Nat} {σ : Mm} {S : Sx} {Tf : Nat → Nat} (h : RepC b σ S Tf) : σ.1 (b) 10 = nI (S.1 7 0) := by
  have q := h.1 7 0 (by simp [szC]) (by simp [dmC])
  simpa [cl, encC] using q
theorem C_kind {b : Nat} {σ : Mm} {S : Sx} {Tf : Nat → Nat} (h : RepC b σ S Tf) {i : Nat} (hi : i < 20) (hd : i < S.1 7 0) : σ.1 (b + 18 + 3 * i) (2) = nI (S.1 8 i) := by
  have q := h.1 8 i (by simp [szC]; exact hi) (by simp [dmC]; exact hd)
  simpa [cl, encC] using q
theorem C_T {b : Nat} {σ : Mm} {S : Sx} {Tf : Nat → Nat} (h : RepC b σ S Tf) : σ.1 (b) 11 = nI (S.1 9 0) := by
  have q := h.1 9 0 (by simp [szC]) (by simp [dmC])
  simpa [cl, encC] using q
theorem C_told {b : Nat} {σ : Mm} {S : Sx} {Tf : Nat → Nat} (h : RepC b σ S Tf) {i : Nat} (hi : i < 10) : σ.1 (7 + 5 * i) (4) = nI (S.1 10 i) := by
  have q := h.1 10 i (by simp [szC]; exact hi) (by simp [dmC])
  simpa [cl, encC] using q
theorem C_aPage {b : Nat} {σ : Mm} {S : Sx} {Tf : Nat → Nat} (h : RepC b σ S Tf) {i : Nat} (hi : i < 600) : σ.1 (8 + 5 * (i / 60)) (i % 60) = nI (S.1 11 i) := by
  have q := h.1 11 i (by simp [szC]; exact hi) (by simp [dmC])
  simpa [cl, encC] using q
theorem C_aCell {b : Nat} {σ : Mm} {S : Sx} {Tf : Nat → Nat} (h : RepC b σ S Tf) {i : Nat} (hi : i < 600) : σ.1 (9 + 5 * (i / 60)) (i % 60) = nI (S.1 12 i) := by
  have q := h.1 12 i (by simp [szC]; exact hi) (by simp [dmC])
  simpa [cl, encC] using q
theorem C_aWrites {b : Nat} {σ : Mm} {S : Sx} {Tf : Nat → Nat} (h : RepC b σ S Tf) {i : Nat} (hi : i < 600) : σ.1 (10 + 5 * (i / 60)) (i % 60) = nI (S.1 13 i) := by
  have q := h.1 13 i (by simp [szC]; exact hi) (by simp [dmC])
  simpa [cl, encC] using q
theorem C_faultPrice {b : Nat} {σ : Mm} {S : Sx} {Tf : Nat → Nat} (h : RepC b σ S Tf) : σ.1 (b + 4) 3 = nI (S.1 14 0) := by
  have q := h.1 14 0 (by simp [szC]) (by simp [dmC])
  simpa [cl, encC] using q
theorem C_movePrice {b : Nat} {σ : Mm} {S : Sx} {Tf : Nat → Nat} (h : RepC b σ S Tf) : σ.1 (b + 4) 4 = nI (S.1 15 0) := by
  have q := h.1 15 0 (by simp [szC]) (by simp [dmC])
  simpa [cl, encC] using q
theorem C_placing {b : Nat} {σ : Mm} {S : Sx} {Tf : Nat → Nat} (h : RepC b σ S Tf) : σ.1 (b + 4) 0 = nI (S.1 20 0) := by
  have q := h.1 20 0 (by simp [szC]) (by simp [dmC])
  simpa [cl, encC] using q
theorem C_every {b : Nat} {σ : Mm} {S : Sx} {Tf : Nat → Nat} (h : RepC b σ S Tf) : σ.1 (b + 4) 1 = nI (S.1 21 0) := by
  have q := h.1 21 0 (by simp [szC]) (by simp [dmC])
  simpa [cl, encC] using q
theorem C_gain {b : Nat} {σ : Mm} {S : Sx} {Tf : Nat → Nat} (h : RepC b σ S Tf) : σ.1 (b + 4) 2 = nI (S.1 22 0) := by
  have q := h.1 22 0 (by simp [szC]) (by simp [dmC])
  simpa [cl, encC] using q
theorem C_turns {b : Nat} {σ : Mm} {S : Sx} {Tf : Nat → Nat} (h : RepC b σ S Tf) : σ.1 (b) 12 = nI (S.1 23 0) := by
  have q := h.1 23 0 (by simp [szC]) (by simp [dmC])
  simpa [cl, encC] using q
theorem C_lies {b : Nat} {σ : Mm} {S : Sx} {Tf : Nat → Nat} (h : RepC b σ S Tf) {i : Nat} (hi : i < 20) (hd : i < S.1 7 0) : σ.1 (b + 18 + 3 * i) (3) = lzC (S.1 24 i) := by
  have q := h.1 24 i (by simp [szC]; exact hi) (by simp [dmC]; exact hd)
  simpa [cl, encC] using q
theorem C_copies {b : Nat} {σ : Mm} {S : Sx} {Tf : Nat → Nat} (h : RepC b σ S Tf) {i : Nat} (hi : i < 20) (hd : i < S.1 7 0) : σ.1 (b + 18 + 3 * i) (4) = nI (S.1 25 i) := by
  have q := h.1 25 i (by simp [szC]; exact hi) (by simp [dmC]; exact hd)
  simpa [cl, encC] using q
theorem C_hidden {b : Nat} {σ : Mm} {S : Sx} {Tf : Nat → Nat} (h : RepC b σ S Tf) {i : Nat} (hi : i < 20) (hd : i < S.1 7 0) : σ.1 (b + 18 + 3 * i) (8) = nI (S.1 26 i) := by
  have q := h.1 26 i (by simp [szC]; exact hi) (by simp [dmC]; exact hd)
  simpa [cl, encC] using q
theorem C_faultMany {b : Nat} {σ : Mm} {S : Sx} {Tf : Nat → Nat} (h : RepC b σ S Tf) {i : Nat} (hi : i < 20) (hd : i < S.1 7 0) : σ.1 (b + 18 + 3 * i) (5) = nI (S.1 27 i) := by
  have q := h.1 27 i (by simp [szC]; exact hi) (by simp [dmC]; exact hd)
  simpa [cl, encC] using q
theorem C_at {b : Nat} {σ : Mm} {S : Sx} {Tf : Nat → Nat} (h : RepC b σ S Tf) {i : Nat} (hi : i < 10) (hd : i < S.1 9 0) : σ.1 (b + 78 + i) (1) = nI (S.1 29 i) := by
  have q := h.1 29 i (by simp [szC]; exact hi) (by simp [dmC]; exact hd)
  simpa [cl, encC] using q
theorem C_next {b : Nat} {σ : Mm} {S : Sx} {Tf : Nat → Nat} (h : RepC b σ S Tf) {i : Nat} (hi : i < 10) (hd : i < S.1 9 0) : σ.1 (b + 78 + i) (2) = nI (S.1 30 i) := by
  have q := h.1 30 i (by simp [szC]; exact hi) (by simp [dmC]; exact hd)
  simpa [cl, encC] using q
theorem C_toGo {b : Nat} {σ : Mm} {S : Sx} {Tf : Nat → Nat} (h : RepC b σ S Tf) {i : Nat} (hi : i < 10) (hd : i < S.1 9 0) : σ.1 (b + 78 + i) (3) = nI (S.1 31 i) := by
  have q := h.1 31 i (by simp [szC]; exact hi) (by simp [dmC]; exact hd)
  simpa [cl, encC] using q
theorem C_ended {b : Nat} {σ : Mm} {S : Sx} {Tf : Nat → Nat} (h : RepC b σ S Tf) {i : Nat} (hi : i < 10) (hd : i < S.1 9 0) : σ.1 (b + 78 + i) (7) = nI (S.1 32 i) := by
  have q := h.1 32 i (by simp [szC]; exact hi) (by simp [dmC]; exact hd)
  simpa [cl, encC] using q
theorem C_linkNow {b : Nat} {σ : Mm} {S : Sx} {Tf : Nat → Nat} (h : RepC b σ S Tf) {i : Nat} (hi : i < 16) : σ.1 (b + 13) (i) = nI (S.1 33 i) := by
  have q := h.1 33 i (by simp [szC]; exact hi) (by simp [dmC])
  simpa [cl, encC] using q
theorem C_logged {b : Nat} {σ : Mm} {S : Sx} {Tf : Nat → Nat} (h : RepC b σ S Tf) : σ.1 (b + 14) 2 = nI (S.1 34 0) := by
  have q := h.1 34 0 (by simp [szC]) (by simp [dmC])
  simpa [cl, encC] using q
theorem C_cap {b : Nat} {σ : Mm} {S : Sx} {Tf : Nat → Nat} (h : RepC b σ S Tf) : σ.1 (b + 14) 0 = nI (S.1 39 0) := by
  have q := h.1 39 0 (by simp [szC]) (by simp [dmC])
  simpa [cl, encC] using q
theorem CV_aValue {b : Nat} {σ : Mm} {S : Sx} {Tf : Nat → Nat} (h : RepC b σ S Tf) {i : Nat} (hi : i < 600) : σ.1 (11 + 5 * (i / 60)) (i % 60) = S.2.1 0 i := by
  have q := h.2.1 0 i (by simp [szV]; exact hi) (by simp [dmV])
  simpa [clV] using q
theorem CV_tick {b : Nat} {σ : Mm} {S : Sx} {Tf : Nat → Nat} (h : RepC b σ S Tf) : σ.1 (b) 13 = S.2.1 1 0 := by
  have q := h.2.1 1 0 (by simp [szV]) (by simp [dmV])
  simpa [clV] using q
theorem CV_went {b : Nat} {σ : Mm} {S : Sx} {Tf : Nat → Nat} (h : RepC b σ S Tf) : σ.1 (b) 14 = S.2.1 2 0 := by
  have q := h.2.1 2 0 (by simp [szV]) (by simp [dmV])
  simpa [clV] using q
theorem CV_cost {b : Nat} {σ : Mm} {S : Sx} {Tf : Nat → Nat} (h : RepC b σ S Tf) : σ.1 (b) 15 = S.2.1 3 0 := by
  have q := h.2.1 3 0 (by simp [szV]) (by simp [dmV])
  simpa [clV] using q
theorem CV_faults {b : Nat} {σ : Mm} {S : Sx} {Tf : Nat → Nat} (h : RepC b σ S Tf) : σ.1 (b) 16 = S.2.1 4 0 := by
  have q := h.2.1 4 0 (by simp [szV]) (by simp [dmV])
  simpa [clV] using q
theorem CV_moves {b : Nat} {σ : Mm} {S : Sx} {Tf : Nat → Nat} (h : RepC b σ S Tf) : σ.1 (b) 17 = S.2.1 5 0 := by
  have q := h.2.1 5 0 (by simp [szV]) (by simp [dmV])
  simpa [clV] using q
theorem CV_failed {b : Nat} {σ : Mm} {S : Sx} {Tf : Nat → Nat} (h : RepC b σ S Tf) : σ.1 (b) 18 = S.2.1 6 0 := by
  have q := h.2.1 6 0 (by simp [szV]) (by simp [dmV])
  simpa [clV] using q
theorem CV_moved {b : Nat} {σ : Mm} {S : Sx} {Tf : Nat → Nat} (h : RepC b σ S Tf) {i : Nat} (hi : i < 20) (hd : i < S.1 7 0) : σ.1 (b + 18 + 3 * i) (6) = S.2.1 7 i := by
  have q := h.2.1 7 i (by simp [szV]; exact hi) (by simp [dmV]; exact hd)
  simpa [clV] using q
theorem CV_pageBill {b : Nat} {σ : Mm} {S : Sx} {Tf : Nat → Nat} (h : RepC b σ S Tf) {i : Nat} (hi : i < 20) (hd : i < S.1 7 0) : σ.1 (b + 18 + 3 * i) (7) = S.2.1 8 i := by
  have q := h.2.1 8 i (by simp [szV]; exact hi) (by simp [dmV]; exact hd)
  simpa [clV] using q
theorem CV_cell {b : Nat} {σ : Mm} {S : Sx} {Tf : Nat → Nat} (h : RepC b σ S Tf) {i : Nat} (hi : i < 80) (hd : i < 4 * S.1 7 0) : σ.1 (b + 19 + 3 * (i / 4)) (i % 4) = S.2.1 9 i := by
  have q := h.2.1 9 i (by simp [szV]; exact hi) (by simp [dmV]; exact hd)
  simpa [clV] using q
theorem CV_waits {b : Nat} {σ : Mm} {S : Sx} {Tf : Nat → Nat} (h : RepC b σ S Tf) {i : Nat} (hi : i < 10) (hd : i < S.1 9 0) : σ.1 (b + 78 + i) (4) = S.2.1 10 i := by
  have q := h.2.1 10 i (by simp [szV]; exact hi) (by simp [dmV]; exact hd)
  simpa [clV] using q
theorem CV_threadBill {b : Nat} {σ : Mm} {S : Sx} {Tf : Nat → Nat} (h : RepC b σ S Tf) {i : Nat} (hi : i < 10) (hd : i < S.1 9 0) : σ.1 (b + 78 + i) (5) = S.2.1 11 i := by
  have q := h.2.1 11 i (by simp [szV]; exact hi) (by simp [dmV]; exact hd)
  simpa [clV] using q
theorem CV_lastRead {b : Nat} {σ : Mm} {S : Sx} {Tf : Nat → Nat} (h : RepC b σ S Tf) {i : Nat} (hi : i < 10) (hd : i < S.1 9 0) : σ.1 (b + 78 + i) (6) = S.2.1 12 i := by
  have q := h.2.1 12 i (by simp [szV]; exact hi) (by simp [dmV]; exact hd)
  simpa [clV] using q
theorem CV_nodeBill {b : Nat} {σ : Mm} {S : Sx} {Tf : Nat → Nat} (h : RepC b σ S Tf) {i : Nat} (hi : i < 4) : σ.1 (b + 9) (i) = S.2.1 13 i := by
  have q := h.2.1 13 i (by simp [szV]; exact hi) (by simp [dmV])
  simpa [clV] using q
theorem CV_linkWent {b : Nat} {σ : Mm} {S : Sx} {Tf : Nat → Nat} (h : RepC b σ S Tf) {i : Nat} (hi : i < 16) : σ.1 (b + 11) (i) = S.2.1 14 i := by
  have q := h.2.1 14 i (by simp [szV]; exact hi) (by simp [dmV])
  simpa [clV] using q
theorem CV_linkWaits {b : Nat} {σ : Mm} {S : Sx} {Tf : Nat → Nat} (h : RepC b σ S Tf) {i : Nat} (hi : i < 16) : σ.1 (b + 12) (i) = S.2.1 15 i := by
  have q := h.2.1 15 i (by simp [szV]; exact hi) (by simp [dmV])
  simpa [clV] using q
theorem CV_log {b : Nat} {σ : Mm} {S : Sx} {Tf : Nat → Nat} (h : RepC b σ S Tf) {i : Nat} (hi : i < 3000) (hd : i < 10 * S.1 39 0) : σ.1 (b + 17) (11 * (i / 10) + i % 10) = S.2.1 16 i := by
  have q := h.2.1 16 i (by simp [szV]; exact hi) (by simp [dmV]; exact hd)
  simpa [clV] using q
theorem CV_logValue {b : Nat} {σ : Mm} {S : Sx} {Tf : Nat → Nat} (h : RepC b σ S Tf) {i : Nat} (hi : i < 300) (hd : i < S.1 39 0) : σ.1 (b + 17) (11 * i + 10) = S.2.1 17 i := by
  have q := h.2.1 17 i (by simp [szV]; exact hi) (by simp [dmV]; exact hd)
  simpa [clV] using q
