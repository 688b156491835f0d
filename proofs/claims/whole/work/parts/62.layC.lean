/-! The class's layout: machines at b. -/
theorem two {P : Nat → Prop} {b : Nat} (hb : mch b) (h1 : P 57) (h2 : P 145) : P b := by rcases hb with rfl | rfl <;> assumption
theorem kMa {b : Nat} (hb : mch b) : kw W0 b = (3, 19) := two (P := fun b => kw W0 b = (3, 19)) hb (by decide +kernel) (by decide +kernel)
theorem rMa_board {b : Nat} (hb : mch b) : rf b 0 = 1 := two (P := fun b => rf b 0 = 1) hb (by decide +kernel) (by decide +kernel)
theorem rMa_traffic {b : Nat} (hb : mch b) : rf b 1 = b + 10 := two (P := fun b => rf b 1 = b + 10) hb (by decide +kernel) (by decide +kernel)
theorem kMa_traffic {b : Nat} (hb : mch b) : kw W0 (b + 10) = (9, 4) := two (P := fun b => kw W0 (b + 10) = (9, 4)) hb (by decide +kernel) (by decide +kernel)
theorem rMa_queues {b : Nat} (hb : mch b) : rf b 2 = b + 1 := two (P := fun b => rf b 2 = b + 1) hb (by decide +kernel) (by decide +kernel)
theorem kMa_queues {b : Nat} (hb : mch b) : kw W0 (b + 1) = (5, 2) := two (P := fun b => kw W0 (b + 1) = (5, 2)) hb (by decide +kernel) (by decide +kernel)
theorem rMa_rules {b : Nat} (hb : mch b) : rf b 3 = b + 4 := two (P := fun b => rf b 3 = b + 4) hb (by decide +kernel) (by decide +kernel)
theorem kMa_rules {b : Nat} (hb : mch b) : kw W0 (b + 4) = (6, 5) := two (P := fun b => kw W0 (b + 4) = (6, 5)) hb (by decide +kernel) (by decide +kernel)
theorem rMa_journal {b : Nat} (hb : mch b) : rf b 4 = b + 14 := two (P := fun b => rf b 4 = b + 14) hb (by decide +kernel) (by decide +kernel)
theorem kMa_journal {b : Nat} (hb : mch b) : kw W0 (b + 14) = (2, 5) := two (P := fun b => kw W0 (b + 14) = (2, 5)) hb (by decide +kernel) (by decide +kernel)
theorem rMa_attempt {b : Nat} (hb : mch b) : rf b 5 = b + 5 := two (P := fun b => rf b 5 = b + 5) hb (by decide +kernel) (by decide +kernel)
theorem kMa_attempt {b : Nat} (hb : mch b) : kw W0 (b + 5) = (0, 10) := two (P := fun b => kw W0 (b + 5) = (0, 10)) hb (by decide +kernel) (by decide +kernel)
theorem rMa_pages {b : Nat} (hb : mch b) : rf b 6 = b + 6 := two (P := fun b => rf b 6 = b + 6) hb (by decide +kernel) (by decide +kernel)
theorem kMa_pages {b : Nat} (hb : mch b) : kw W0 (b + 6) = (24, 20) := two (P := fun b => kw W0 (b + 6) = (24, 20)) hb (by decide +kernel) (by decide +kernel)
theorem rMa_workers {b : Nat} (hb : mch b) : rf b 7 = b + 7 := two (P := fun b => rf b 7 = b + 7) hb (by decide +kernel) (by decide +kernel)
theorem kMa_workers {b : Nat} (hb : mch b) : kw W0 (b + 7) = (27, 10) := two (P := fun b => kw W0 (b + 7) = (27, 10)) hb (by decide +kernel) (by decide +kernel)
theorem rMa_taken {b : Nat} (hb : mch b) : rf b 8 = b + 8 := two (P := fun b => rf b 8 = b + 8) hb (by decide +kernel) (by decide +kernel)
theorem kMa_taken {b : Nat} (hb : mch b) : kw W0 (b + 8) = (20, 4) := two (P := fun b => kw W0 (b + 8) = (20, 4)) hb (by decide +kernel) (by decide +kernel)
theorem rMa_nodeBills {b : Nat} (hb : mch b) : rf b 9 = b + 9 := two (P := fun b => rf b 9 = b + 9) hb (by decide +kernel) (by decide +kernel)
theorem kMa_nodeBills {b : Nat} (hb : mch b) : kw W0 (b + 9) = (20, 4) := two (P := fun b => kw W0 (b + 9) = (20, 4)) hb (by decide +kernel) (by decide +kernel)
theorem rQu_order {b : Nat} (hb : mch b) : rf (b + 1) 0 = b + 2 := two (P := fun b => rf (b + 1) 0 = b + 2) hb (by decide +kernel) (by decide +kernel)
theorem kQu_order {b : Nat} (hb : mch b) : kw W0 (b + 2) = (20, 40) := two (P := fun b => kw W0 (b + 2) = (20, 40)) hb (by decide +kernel) (by decide +kernel)
theorem rQu_size {b : Nat} (hb : mch b) : rf (b + 1) 1 = b + 3 := two (P := fun b => rf (b + 1) 1 = b + 3) hb (by decide +kernel) (by decide +kernel)
theorem kQu_size {b : Nat} (hb : mch b) : kw W0 (b + 3) = (20, 4) := two (P := fun b => kw W0 (b + 3) = (20, 4)) hb (by decide +kernel) (by decide +kernel)
theorem rTr_board {b : Nat} (hb : mch b) : rf (b + 10) 0 = 1 := two (P := fun b => rf (b + 10) 0 = 1) hb (by decide +kernel) (by decide +kernel)
theorem rTr_carried {b : Nat} (hb : mch b) : rf (b + 10) 1 = b + 11 := two (P := fun b => rf (b + 10) 1 = b + 11) hb (by decide +kernel) (by decide +kernel)
theorem kTr_carried {b : Nat} (hb : mch b) : kw W0 (b + 11) = (20, 16) := two (P := fun b => kw W0 (b + 11) = (20, 16)) hb (by decide +kernel) (by decide +kernel)
theorem rTr_waits {b : Nat} (hb : mch b) : rf (b + 10) 2 = b + 12 := two (P := fun b => rf (b + 10) 2 = b + 12) hb (by decide +kernel) (by decide +kernel)
theorem kTr_waits {b : Nat} (hb : mch b) : kw W0 (b + 12) = (20, 16) := two (P := fun b => kw W0 (b + 12) = (20, 16)) hb (by decide +kernel) (by decide +kernel)
theorem rTr_inTick {b : Nat} (hb : mch b) : rf (b + 10) 3 = b + 13 := two (P := fun b => rf (b + 10) 3 = b + 13) hb (by decide +kernel) (by decide +kernel)
theorem kTr_inTick {b : Nat} (hb : mch b) : kw W0 (b + 13) = (20, 16) := two (P := fun b => kw W0 (b + 13) = (20, 16)) hb (by decide +kernel) (by decide +kernel)
theorem rJo_entries {b : Nat} (hb : mch b) : rf (b + 14) 1 = b + 17 := two (P := fun b => rf (b + 14) 1 = b + 17) hb (by decide +kernel) (by decide +kernel)
theorem rJo_sums {b : Nat} (hb : mch b) : rf (b + 14) 3 = b + 15 := two (P := fun b => rf (b + 14) 3 = b + 15) hb (by decide +kernel) (by decide +kernel)
theorem rJo_memory {b : Nat} (hb : mch b) : rf (b + 14) 4 = b + 16 := two (P := fun b => rf (b + 14) 4 = b + 16) hb (by decide +kernel) (by decide +kernel)
theorem kJo_sums {b : Nat} (hb : mch b) : kw W0 (b + 15) = (20, 4) := two (P := fun b => kw W0 (b + 15) = (20, 4)) hb (by decide +kernel) (by decide +kernel)
theorem kJo_memory {b : Nat} (hb : mch b) : kw W0 (b + 16) = (20, 80) := two (P := fun b => kw W0 (b + 16) = (20, 80)) hb (by decide +kernel) (by decide +kernel)
theorem kJo_entries : kw W0 74 = (20, 3300) := by decide +kernel
theorem rPs {b p : Nat} (hb : mch b) (h : p < 20) : rf (b + 6) p = b + 18 + 3 * p := by
  have h1 : ∀ b, (b = 57 ∨ b = 145) → ∀ p, p < 20 → rf (b + 6) p = b + 18 + 3 * p := by
    intro b hb
    rcases hb with rfl | rfl
    · decide +kernel
    · decide +kernel
  exact h1 b hb p h
theorem kPg {b p : Nat} (hb : mch b) (h : p < 20) : kw W0 (b + 18 + 3 * p) = (4, 9) := by
  have h1 : ∀ b, (b = 57 ∨ b = 145) → ∀ p, p < 20 → kw W0 (b + 18 + 3 * p) = (4, 9) := by
    intro b hb
    rcases hb with rfl | rfl
    · decide +kernel
    · decide +kernel
  exact h1 b hb p h
theorem rPg_cells {b p : Nat} (hb : mch b) (h : p < 20) : rf (b + 18 + 3 * p) 0 = b + 19 + 3 * p := by
  have h1 : ∀ b, (b = 57 ∨ b = 145) → ∀ p, p < 20 → rf (b + 18 + 3 * p) 0 = b + 19 + 3 * p := by
    intro b hb
    rcases hb with rfl | rfl
    · decide +kernel
    · decide +kernel
  exact h1 b hb p h
theorem kPg_cells {b p : Nat} (hb : mch b) (h : p < 20) : kw W0 (b + 19 + 3 * p) = (20, 4) := by
  have h1 : ∀ b, (b = 57 ∨ b = 145) → ∀ p, p < 20 → kw W0 (b + 19 + 3 * p) = (20, 4) := by
    intro b hb
    rcases hb with rfl | rfl
    · decide +kernel
    · decide +kernel
  exact h1 b hb p h
theorem rPg_faults {b p : Nat} (hb : mch b) (h : p < 20) : rf (b + 18 + 3 * p) 1 = b + 20 + 3 * p := by
  have h1 : ∀ b, (b = 57 ∨ b = 145) → ∀ p, p < 20 → rf (b + 18 + 3 * p) 1 = b + 20 + 3 * p := by
    intro b hb
    rcases hb with rfl | rfl
    · decide +kernel
    · decide +kernel
  exact h1 b hb p h
theorem kPg_faults {b p : Nat} (hb : mch b) (h : p < 20) : kw W0 (b + 20 + 3 * p) = (20, 4) := by
  have h1 : ∀ b, (b = 57 ∨ b = 145) → ∀ p, p < 20 → kw W0 (b + 20 + 3 * p) = (20, 4) := by
    intro b hb
    rcases hb with rfl | rfl
    · decide +kernel
    · decide +kernel
  exact h1 b hb p h
theorem rWs {b t : Nat} (hb : mch b) (h : t < 10) : rf (b + 7) t = b + 78 + t := by
  have h1 : ∀ b, (b = 57 ∨ b = 145) → ∀ t, t < 10 → rf (b + 7) t = b + 78 + t := by
    intro b hb
    rcases hb with rfl | rfl
    · decide +kernel
    · decide +kernel
  exact h1 b hb t h
theorem kWk {b t : Nat} (hb : mch b) (h : t < 10) : kw W0 (b + 78 + t) = (10, 8) := by
  have h1 : ∀ b, (b = 57 ∨ b = 145) → ∀ t, t < 10 → kw W0 (b + 78 + t) = (10, 8) := by
    intro b hb
    rcases hb with rfl | rfl
    · decide +kernel
    · decide +kernel
  exact h1 b hb t h
theorem rWk_script {b t : Nat} (hb : mch b) (h : t < 10) : rf (b + 78 + t) 0 = 7 + 5 * t := by
  have h1 : ∀ b, (b = 57 ∨ b = 145) → ∀ t, t < 10 → rf (b + 78 + t) 0 = 7 + 5 * t := by
    intro b hb
    rcases hb with rfl | rfl
    · decide +kernel
    · decide +kernel
  exact h1 b hb t h
theorem kSc {t : Nat} (h : t < 10) : kw W0 (7 + 5 * t) = (7, 5) := by
  have h1 : ∀ t, t < 10 → kw W0 (7 + 5 * t) = (7, 5) := by decide +kernel
  exact h1 t h
theorem rSc_pages {t : Nat} (h : t < 10) : rf (7 + 5 * t) 0 = 8 + 5 * t := by
  have h1 : ∀ t, t < 10 → rf (7 + 5 * t) 0 = 8 + 5 * t := by decide +kernel
  exact h1 t h
theorem kSc_pages {t : Nat} (h : t < 10) : kw W0 (8 + 5 * t) = (20, 60) := by
  have h1 : ∀ t, t < 10 → kw W0 (8 + 5 * t) = (20, 60) := by decide +kernel
  exact h1 t h
theorem rSc_cells {t : Nat} (h : t < 10) : rf (7 + 5 * t) 1 = 9 + 5 * t := by
  have h1 : ∀ t, t < 10 → rf (7 + 5 * t) 1 = 9 + 5 * t := by decide +kernel
  exact h1 t h
theorem kSc_cells {t : Nat} (h : t < 10) : kw W0 (9 + 5 * t) = (20, 60) := by
  have h1 : ∀ t, t < 10 → kw W0 (9 + 5 * t) = (20, 60) := by decide +kernel
  exact h1 t h
theorem rSc_writes {t : Nat} (h : t < 10) : rf (7 + 5 * t) 2 = 10 + 5 * t := by
  have h1 : ∀ t, t < 10 → rf (7 + 5 * t) 2 = 10 + 5 * t := by decide +kernel
  exact h1 t h
theorem kSc_writes {t : Nat} (h : t < 10) : kw W0 (10 + 5 * t) = (22, 60) := by
  have h1 : ∀ t, t < 10 → kw W0 (10 + 5 * t) = (22, 60) := by decide +kernel
  exact h1 t h
theorem rSc_values {t : Nat} (h : t < 10) : rf (7 + 5 * t) 3 = 11 + 5 * t := by
  have h1 : ∀ t, t < 10 → rf (7 + 5 * t) 3 = 11 + 5 * t := by decide +kernel
  exact h1 t h
theorem kSc_values {t : Nat} (h : t < 10) : kw W0 (11 + 5 * t) = (20, 60) := by
  have h1 : ∀ t, t < 10 → kw W0 (11 + 5 * t) = (20, 60) := by decide +kernel
  exact h1 t h
theorem rSh {d : Nat} (h : d < 8) : rf 233 d = 234 + 3 * d := by
  have h1 : ∀ d, d < 8 → rf 233 d = 234 + 3 * d := by decide +kernel
  exact h1 d h
theorem kSh {d : Nat} (h : d < 8) : kw W0 (234 + 3 * d) = (8, 8) := by
  have h1 : ∀ d, d < 8 → kw W0 (234 + 3 * d) = (8, 8) := by decide +kernel
  exact h1 d h
theorem rSh_bytes {d : Nat} (h : d < 8) : rf (234 + 3 * d) 0 = 235 + 3 * d := by
  have h1 : ∀ d, d < 8 → rf (234 + 3 * d) 0 = 235 + 3 * d := by decide +kernel
  exact h1 d h
theorem kSh_bytes {d : Nat} (h : d < 8) : kw W0 (235 + 3 * d) = (23, 60) := by
  have h1 : ∀ d, d < 8 → kw W0 (235 + 3 * d) = (23, 60) := by decide +kernel
  exact h1 d h
theorem rSh_ints {d : Nat} (h : d < 8) : rf (234 + 3 * d) 1 = 236 + 3 * d := by
  have h1 : ∀ d, d < 8 → rf (234 + 3 * d) 1 = 236 + 3 * d := by decide +kernel
  exact h1 d h
theorem kSh_ints {d : Nat} (h : d < 8) : kw W0 (236 + 3 * d) = (20, 60) := by
  have h1 : ∀ d, d < 8 → kw W0 (236 + 3 * d) = (20, 60) := by decide +kernel
  exact h1 d h
theorem kFC : kw W0 0 = (11, 4) := by decide +kernel
theorem kShs : kw W0 233 = (26, 8) := by decide +kernel
theorem rFC_board : rf 0 0 = 1 := by decide +kernel
theorem rFC_machine : rf 0 1 = 57 := by decide +kernel
theorem rFC_trial : rf 0 2 = 145 := by decide +kernel
theorem rFC_shelves : rf 0 3 = 233 := by decide +kernel
def bdW (Ω : Nat × Nat) : Prop := kw Ω 1 = (1, 7) ∧ kw Ω 2 = (20, 16) ∧ kw Ω 3 = (20, 16) ∧ kw Ω 4 = (20, 16) ∧ kw Ω 5 = (20, 16)
theorem bdW0 : bdW W0 := by unfold bdW; decide +kernel
theorem rBd_price : rf 1 3 = 2 := by decide +kernel
theorem rBd_width : rf 1 4 = 3 := by decide +kernel
theorem rBd_sums : rf 1 5 = 4 := by decide +kernel
theorem rBd_hops : rf 1 6 = 5 := by decide +kernel
theorem mmS_min : Cond.static Lib.Math.min.name ∈ tbG := tbG_at 116 (by decide +kernel) (by decide +kernel)
theorem mmC_min : Cond.code Lib.Math.min.name Lib.Math.min.code 2 (some .int) ∈ tbG := tbG_at 117 (by decide +kernel) (by decide +kernel)
theorem mmS_max : Cond.static Lib.Math.max.name ∈ tbG := tbG_at 119 (by decide +kernel) (by decide +kernel)
theorem mmC_max : Cond.code Lib.Math.max.name Lib.Math.max.code 2 (some .int) ∈ tbG := tbG_at 120 (by decide +kernel) (by decide +kernel)
theorem mmI : Cond.initialized "java/lang/Math" ∈ tbG := tbG_at 63 (by decide +kernel) (by decide +kernel)
theorem mmLX1_51 : Cond.methodLink RX1 51 Lib.Math.min.name ∈ tbG := tbG_at 115 (by decide +kernel) (by decide +kernel)
theorem mmLX1_57 : Cond.methodLink RX1 57 Lib.Math.max.name ∈ tbG := tbG_at 118 (by decide +kernel) (by decide +kernel)
theorem mmLX4_51 : Cond.methodLink RX4 51 Lib.Math.min.name ∈ tbG := tbG_at 816 (by decide +kernel) (by decide +kernel)
theorem mmLX2_84 : Cond.methodLink RX2 84 Lib.Math.min.name ∈ tbG := tbG_at 921 (by decide +kernel) (by decide +kernel)
theorem g_mmin {Ω : Nat × Nat} {M : MI} {K : Option Value → Mm → Prop} {pc idx : Nat} {ls : List (Option Value)} {st : List Value} {σ : Mm} {x y v : Int32} (d : decode (ic M) pc = .ok (.invokestatic idx, 3)) (lk : Cond.methodLink (iy M).cls idx Lib.Math.min.name ∈ tbG) (hfr : 1 ≤ ifr M) (hlo : (st.map fun v => v.category).sum + 13 ≤ ilw M) (hv : (if y < x then y else x) = v) (k : G Ω M K (pc + 3) ls (.int v :: st) σ) : G Ω M K pc ls (.int y :: .int x :: st) σ := by
  subst hv
  intro B D cA p l e s m args below meth c H locs la C hP hS hl
  have C0 := C
  obtain ⟨hx, hb, hml, hown, hret, hlocks, hts, hK, hNs⟩ := C
  exact va_mmin hx hb (hml.trans hl.1.symm) hown (hts _ lk) (hts _ mmS_min) (hts _ mmI) (hts _ mmC_min) hfr (by rw [sum_cat]; exact hlo) (Nat.zero_le _) (Nat.zero_le _) d (k B D cA p l e s m args below meth c H locs la C0 hP hS hl)
theorem g_mmax {Ω : Nat × Nat} {M : MI} {K : Option Value → Mm → Prop} {pc idx : Nat} {ls : List (Option Value)} {st : List Value} {σ : Mm} {x y v : Int32} (d : decode (ic M) pc = .ok (.invokestatic idx, 3)) (lk : Cond.methodLink (iy M).cls idx Lib.Math.max.name ∈ tbG) (hfr : 1 ≤ ifr M) (hlo : (st.map fun v => v.category).sum + 13 ≤ ilw M) (hv : (if x < y then y else x) = v) (k : G Ω M K (pc + 3) ls (.int v :: st) σ) : G Ω M K pc ls (.int y :: .int x :: st) σ := by
  subst hv
  intro B D cA p l e s m args below meth c H locs la C hP hS hl
  have C0 := C
  obtain ⟨hx, hb, hml, hown, hret, hlocks, hts, hK, hNs⟩ := C
  exact va_mmax hx hb (hml.trans hl.1.symm) hown (hts _ lk) (hts _ mmS_max) (hts _ mmI) (hts _ mmC_max) hfr (by rw [sum_cat]; exact hlo) (Nat.zero_le _) (Nat.zero_le _) d (k B D cA p l e s m args below meth c H locs la C0 hP hS hl)
theorem nI_min {a b : Nat} (ha : a < 2 ^ 31) (hb : b < 2 ^ 31) : (if nI b < nI a then nI b else nI a) = nI (min a b) := by
  by_cases h : b < a
  · rw [if_pos ((nI_ltI hb ha).mpr h), Nat.min_eq_right (by omega)]
  · rw [if_neg (fun q => h ((nI_ltI hb ha).mp q)), Nat.min_eq_left (by omega)]
theorem nI_max {a b : Nat} (ha : a < 2 ^ 31) (hb : b < 2 ^ 31) : (if nI a < nI b then nI b else nI a) = nI (max a b) := by
  by_cases h : a < b
  · rw [if_pos ((nI_ltI ha hb).mpr h), Nat.max_eq_right (by omega)]
  · rw [if_neg (fun q => h ((nI_ltI ha hb).mp q)), Nat.max_eq_left (by omega)]
theorem s_within {Ω : Nat × Nat} {σ : Mm} (x lo hi : Int32) : RI Ω mX11_within [.int x, .int lo, .int hi] σ (fun r τ => r = bI (decide (lo ≤ x ∧ x ≤ hi)) ∧ τ = σ) := by
  refine G.met (by decide) (Nat.le_of_ble_eq_true rfl) ?_
  show G _ _ _ 0 [some (.int x), some (.int lo), some (.int hi)] [] σ
  refine gs_iload_n dX11_within_0 rfl rfl ?_
  refine gs_iload_n dX11_within_1 rfl rfl ?_
  refine g_icmp_gt (tgt := 14) dX11_within_2 (by decide) (fun c2 => ?_) (fun c2 => ?_)
  · refine g_iconst (v := nI 0) dX11_within_14 (by decide) ?_
    refine g_zreturn dX11_within_15 rfl (by first | exact bI_01 _ | decide) ?_
    exact ⟨_, rfl, by rw [decide_eq_false (fun z => absurd c2 (Int32.not_lt.mpr z.1))]; rfl, rfl⟩
  · refine gs_iload_n dX11_within_5 rfl rfl ?_
    refine gs_iload_n dX11_within_6 rfl rfl ?_
    refine g_icmp_gt (tgt := 14) dX11_within_7 (by decide) (fun c7 => ?_) (fun c7 => ?_)
    · refine g_iconst (v := nI 0) dX11_within_14 (by decide) ?_
      refine g_zreturn dX11_within_15 rfl (by first | exact bI_01 _ | decide) ?_
      exact ⟨_, rfl, by rw [decide_eq_false (fun z => absurd c7 (Int32.not_lt.mpr z.2))]; rfl, rfl⟩
    · refine g_iconst (v := nI 1) dX11_within_10 (by decide) ?_
      refine g_goto (tgt := 15) dX11_within_11 (by decide) ?_
      refine g_zreturn dX11_within_15 rfl (by first | exact bI_01 _ | decide) ?_
      exact ⟨_, rfl, by rw [decide_eq_true ⟨Int32.not_lt.mp c2, Int32.not_lt.mp c7⟩]; rfl, rfl⟩
