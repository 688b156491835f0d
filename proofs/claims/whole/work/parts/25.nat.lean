/-! Rows at the level of natural numbers: what the generator writes. -/
def W0 : Nat × Nat := (0, 313)
theorem kw0 (a : Nat) : kw W0 a = kd a := by
  unfold kw
  by_cases h : a < 313
  · rw [if_pos ⟨Nat.zero_le _, h⟩]
  · rw [if_neg (fun q => h q.2)]
    have hl : kdL.length ≤ a := by
      have : kdL.length = 313 := by decide +kernel
      omega
    unfold kd
    rw [List.getD, List.getElem?_eq_none hl]
    rfl
def bI (b : Bool) : Int32 := if b = true then 1 else 0
theorem bI_01 (b : Bool) : bI b = 0 ∨ bI b = 1 := by cases b <;> decide
theorem bI_t : bI true = 1 := rfl
theorem bI_f : bI false = 0 := rfl
def okS (M : MI) (ls : List (Option Value)) (i : Nat) : Bool := Nat.blt i (il M) && (nl2 ls i && Nat.blt i ls.length)
def okS2 (M : MI) (ls : List (Option Value)) (i : Nat) : Bool := Nat.blt (i + 1) (il M) && (nl2 ls i && Nat.blt i ls.length)
theorem okS_1 {M : MI} {ls : List (Option Value)} {i : Nat} (h : okS M ls i = true) : i < il M ∧ nl2 ls i = true ∧ i < ls.length := by
  simp only [okS, Bool.and_eq_true, Nat.blt_eq] at h
  exact h
theorem okS_2 {M : MI} {ls : List (Option Value)} {i : Nat} (h : okS2 M ls i = true) : i + 1 < il M ∧ nl2 ls i = true ∧ i < ls.length := by
  simp only [okS2, Bool.and_eq_true, Nat.blt_eq] at h
  exact h
section
variable {Ω : Nat × Nat} {M : MI} {K : Option Value → Mm → Prop} {pc : Nat} {ls ls' : List (Option Value)} {st : List Value} {σ : Mm}
theorem gs_istore_n {q : Fin 4} {i : Nat} {x : Int32} (d : decode (ic M) pc = .ok (.istore_n q, 1)) (hi : (q : Nat) = i) (hok : okS M ls i = true) (hs : ls.set i (some (.int x)) = ls') (k : G Ω M K (pc + 1) ls' st σ) : G Ω M K pc ls (.int x :: st) σ := by
  subst hi; subst hs
  obtain ⟨h1, h2, h3⟩ := okS_1 hok
  exact g_istore_n d h1 h2 h3 k
theorem gs_istore {i : Nat} {x : Int32} (d : decode (ic M) pc = .ok (.istore i, 2)) (hok : okS M ls i = true) (hs : ls.set i (some (.int x)) = ls') (k : G Ω M K (pc + 2) ls' st σ) : G Ω M K pc ls (.int x :: st) σ := by
  subst hs
  obtain ⟨h1, h2, h3⟩ := okS_1 hok
  exact g_istore d h1 h2 h3 k
theorem gs_astore_n {q : Fin 4} {i : Nat} {x : Nat} (d : decode (ic M) pc = .ok (.astore_n q, 1)) (hi : (q : Nat) = i) (hok : okS M ls i = true) (hs : ls.set i (some (.ref x)) = ls') (k : G Ω M K (pc + 1) ls' st σ) : G Ω M K pc ls (.ref x :: st) σ := by
  subst hi; subst hs
  obtain ⟨h1, h2, h3⟩ := okS_1 hok
  exact g_astore_n d h1 h2 h3 k
theorem gs_astore {i : Nat} {x : Nat} (d : decode (ic M) pc = .ok (.astore i, 2)) (hok : okS M ls i = true) (hs : ls.set i (some (.ref x)) = ls') (k : G Ω M K (pc + 2) ls' st σ) : G Ω M K pc ls (.ref x :: st) σ := by
  subst hs
  obtain ⟨h1, h2, h3⟩ := okS_1 hok
  exact g_astore d h1 h2 h3 k
theorem gs_lstore_n {q : Fin 4} {i : Nat} {x : Int64} (d : decode (ic M) pc = .ok (.lstore_n q, 1)) (hi : (q : Nat) = i) (hok : okS2 M ls i = true) (hs : (ls.set i (some (.long x))).set (i + 1) none = ls') (k : G Ω M K (pc + 1) ls' st σ) : G Ω M K pc ls (.long x :: st) σ := by
  subst hi; subst hs
  obtain ⟨h1, h2, h3⟩ := okS_2 hok
  exact g_lstore_n d h1 h2 h3 k
theorem gs_lstore {i : Nat} {x : Int64} (d : decode (ic M) pc = .ok (.lstore i, 2)) (hok : okS2 M ls i = true) (hs : (ls.set i (some (.long x))).set (i + 1) none = ls') (k : G Ω M K (pc + 2) ls' st σ) : G Ω M K pc ls (.long x :: st) σ := by
  subst hs
  obtain ⟨h1, h2, h3⟩ := okS_2 hok
  exact g_lstore d h1 h2 h3 k
theorem gs_iinc {i : Nat} {n : Int} {x v : Int32} (d : decode (ic M) pc = .ok (.iinc i n, 3)) (hl0 : ls[i]? = some (some (.int x))) (hv : x + Int32.ofInt n = v) (hok : okS M ls i = true) (hs : ls.set i (some (.int v)) = ls') (k : G Ω M K (pc + 3) ls' st σ) : G Ω M K pc ls st σ := by
  subst hs
  obtain ⟨h1, h2, h3⟩ := okS_1 hok
  exact g_iinc d hl0 hv h1 h2 k
theorem gs_iload_n {q : Fin 4} {i : Nat} {x : Int32} (d : decode (ic M) pc = .ok (.iload_n q, 1)) (hi : (q : Nat) = i) (hl0 : ls[i]? = some (some (.int x))) (k : G Ω M K (pc + 1) ls (.int x :: st) σ) : G Ω M K pc ls st σ := by
  subst hi
  exact g_iload_n d hl0 k
theorem gs_lload_n {q : Fin 4} {i : Nat} {x : Int64} (d : decode (ic M) pc = .ok (.lload_n q, 1)) (hi : (q : Nat) = i) (hl0 : ls[i]? = some (some (.long x))) (k : G Ω M K (pc + 1) ls (.long x :: st) σ) : G Ω M K pc ls st σ := by
  subst hi
  exact g_lload_n d hl0 k
theorem gs_aload_n {q : Fin 4} {i : Nat} {x : Nat} (d : decode (ic M) pc = .ok (.aload_n q, 1)) (hi : (q : Nat) = i) (hl0 : ls[i]? = some (some (.ref x))) (k : G Ω M K (pc + 1) ls (.ref x :: st) σ) : G Ω M K pc ls st σ := by
  subst hi
  exact g_aload_n d hl0 k
theorem gn_icmp_eq {a b : Nat} {off : Int} {tgt : Nat} (d : decode (ic M) pc = .ok (.if_icmp .eq off, 3)) (ht : (pc : Int) + off = (tgt : Int)) (ha : a < 2 ^ 31) (hb : b < 2 ^ 31) (kt : a = b → G Ω M K tgt ls st σ) (kf : ¬ a = b → G Ω M K (pc + 3) ls st σ) : G Ω M K pc ls (.int (nI b) :: .int (nI a) :: st) σ := g_icmp_eq d ht (fun h => kt ((nI_eq ha hb).mp h)) (fun h => kf (fun q => h ((nI_eq ha hb).mpr q)))
theorem gt_icmp_eq {a b : Nat} {off : Int} {tgt : Nat} (d : decode (ic M) pc = .ok (.if_icmp .eq off, 3)) (ht : (pc : Int) + off = (tgt : Int)) (ha : a < 2 ^ 31) (hb : b < 2 ^ 31) (hc : a = b) (kt : G Ω M K tgt ls st σ) : G Ω M K pc ls (.int (nI b) :: .int (nI a) :: st) σ := gn_icmp_eq d ht ha hb (fun _ => kt) (fun h => absurd h (by omega))
theorem gf_icmp_eq {a b : Nat} {off : Int} {tgt : Nat} (d : decode (ic M) pc = .ok (.if_icmp .eq off, 3)) (ht : (pc : Int) + off = (tgt : Int)) (ha : a < 2 ^ 31) (hb : b < 2 ^ 31) (hc : ¬ a = b) (kf : G Ω M K (pc + 3) ls st σ) : G Ω M K pc ls (.int (nI b) :: .int (nI a) :: st) σ := gn_icmp_eq d ht ha hb (fun h => absurd h (by omega)) (fun _ => kf)
theorem gn_icmp_ne {a b : Nat} {off : Int} {tgt : Nat} (d : decode (ic M) pc = .ok (.if_icmp .ne off, 3)) (ht : (pc : Int) + off = (tgt : Int)) (ha : a < 2 ^ 31) (hb : b < 2 ^ 31) (kt : ¬ a = b → G Ω M K tgt ls st σ) (kf : a = b → G Ω M K (pc + 3) ls st σ) : G Ω M K pc ls (.int (nI b) :: .int (nI a) :: st) σ := g_icmp_ne d ht (fun h => kt (fun q => h ((nI_eq ha hb).mpr q))) (fun h => kf ((nI_eq ha hb).mp h))
theorem gt_icmp_ne {a b : Nat} {off : Int} {tgt : Nat} (d : decode (ic M) pc = .ok (.if_icmp .ne off, 3)) (ht : (pc : Int) + off = (tgt : Int)) (ha : a < 2 ^ 31) (hb : b < 2 ^ 31) (hc : ¬ a = b) (kt : G Ω M K tgt ls st σ) : G Ω M K pc ls (.int (nI b) :: .int (nI a) :: st) σ := gn_icmp_ne d ht ha hb (fun _ => kt) (fun h => absurd h (by omega))
theorem gf_icmp_ne {a b : Nat} {off : Int} {tgt : Nat} (d : decode (ic M) pc = .ok (.if_icmp .ne off, 3)) (ht : (pc : Int) + off = (tgt : Int)) (ha : a < 2 ^ 31) (hb : b < 2 ^ 31) (hc : a = b) (kf : G Ω M K (pc + 3) ls st σ) : G Ω M K pc ls (.int (nI b) :: .int (nI a) :: st) σ := gn_icmp_ne d ht ha hb (fun h => absurd h (by omega)) (fun _ => kf)
theorem gn_icmp_lt {a b : Nat} {off : Int} {tgt : Nat} (d : decode (ic M) pc = .ok (.if_icmp .lt off, 3)) (ht : (pc : Int) + off = (tgt : Int)) (ha : a < 2 ^ 31) (hb : b < 2 ^ 31) (kt : a < b → G Ω M K tgt ls st σ) (kf : b ≤ a → G Ω M K (pc + 3) ls st σ) : G Ω M K pc ls (.int (nI b) :: .int (nI a) :: st) σ := g_icmp_lt d ht (fun h => kt ((nI_ltI ha hb).mp h)) (fun h => kf (Nat.not_lt.mp (fun q => h ((nI_ltI ha hb).mpr q))))
theorem gt_icmp_lt {a b : Nat} {off : Int} {tgt : Nat} (d : decode (ic M) pc = .ok (.if_icmp .lt off, 3)) (ht : (pc : Int) + off = (tgt : Int)) (ha : a < 2 ^ 31) (hb : b < 2 ^ 31) (hc : a < b) (kt : G Ω M K tgt ls st σ) : G Ω M K pc ls (.int (nI b) :: .int (nI a) :: st) σ := gn_icmp_lt d ht ha hb (fun _ => kt) (fun h => absurd h (by omega))
theorem gf_icmp_lt {a b : Nat} {off : Int} {tgt : Nat} (d : decode (ic M) pc = .ok (.if_icmp .lt off, 3)) (ht : (pc : Int) + off = (tgt : Int)) (ha : a < 2 ^ 31) (hb : b < 2 ^ 31) (hc : b ≤ a) (kf : G Ω M K (pc + 3) ls st σ) : G Ω M K pc ls (.int (nI b) :: .int (nI a) :: st) σ := gn_icmp_lt d ht ha hb (fun h => absurd h (by omega)) (fun _ => kf)
theorem gn_icmp_ge {a b : Nat} {off : Int} {tgt : Nat} (d : decode (ic M) pc = .ok (.if_icmp .ge off, 3)) (ht : (pc : Int) + off = (tgt : Int)) (ha : a < 2 ^ 31) (hb : b < 2 ^ 31) (kt : b ≤ a → G Ω M K tgt ls st σ) (kf : a < b → G Ω M K (pc + 3) ls st σ) : G Ω M K pc ls (.int (nI b) :: .int (nI a) :: st) σ := g_icmp_ge d ht (fun h => kt ((nI_leI hb ha).mp h)) (fun h => kf (Nat.not_le.mp (fun q => h ((nI_leI hb ha).mpr q))))
theorem gt_icmp_ge {a b : Nat} {off : Int} {tgt : Nat} (d : decode (ic M) pc = .ok (.if_icmp .ge off, 3)) (ht : (pc : Int) + off = (tgt : Int)) (ha : a < 2 ^ 31) (hb : b < 2 ^ 31) (hc : b ≤ a) (kt : G Ω M K tgt ls st σ) : G Ω M K pc ls (.int (nI b) :: .int (nI a) :: st) σ := gn_icmp_ge d ht ha hb (fun _ => kt) (fun h => absurd h (by omega))
theorem gf_icmp_ge {a b : Nat} {off : Int} {tgt : Nat} (d : decode (ic M) pc = .ok (.if_icmp .ge off, 3)) (ht : (pc : Int) + off = (tgt : Int)) (ha : a < 2 ^ 31) (hb : b < 2 ^ 31) (hc : a < b) (kf : G Ω M K (pc + 3) ls st σ) : G Ω M K pc ls (.int (nI b) :: .int (nI a) :: st) σ := gn_icmp_ge d ht ha hb (fun h => absurd h (by omega)) (fun _ => kf)
theorem gn_icmp_gt {a b : Nat} {off : Int} {tgt : Nat} (d : decode (ic M) pc = .ok (.if_icmp .gt off, 3)) (ht : (pc : Int) + off = (tgt : Int)) (ha : a < 2 ^ 31) (hb : b < 2 ^ 31) (kt : b < a → G Ω M K tgt ls st σ) (kf : a ≤ b → G Ω M K (pc + 3) ls st σ) : G Ω M K pc ls (.int (nI b) :: .int (nI a) :: st) σ := g_icmp_gt d ht (fun h => kt ((nI_ltI hb ha).mp h)) (fun h => kf (Nat.not_lt.mp (fun q => h ((nI_ltI hb ha).mpr q))))
theorem gt_icmp_gt {a b : Nat} {off : Int} {tgt : Nat} (d : decode (ic M) pc = .ok (.if_icmp .gt off, 3)) (ht : (pc : Int) + off = (tgt : Int)) (ha : a < 2 ^ 31) (hb : b < 2 ^ 31) (hc : b < a) (kt : G Ω M K tgt ls st σ) : G Ω M K pc ls (.int (nI b) :: .int (nI a) :: st) σ := gn_icmp_gt d ht ha hb (fun _ => kt) (fun h => absurd h (by omega))
theorem gf_icmp_gt {a b : Nat} {off : Int} {tgt : Nat} (d : decode (ic M) pc = .ok (.if_icmp .gt off, 3)) (ht : (pc : Int) + off = (tgt : Int)) (ha : a < 2 ^ 31) (hb : b < 2 ^ 31) (hc : a ≤ b) (kf : G Ω M K (pc + 3) ls st σ) : G Ω M K pc ls (.int (nI b) :: .int (nI a) :: st) σ := gn_icmp_gt d ht ha hb (fun h => absurd h (by omega)) (fun _ => kf)
theorem gn_icmp_le {a b : Nat} {off : Int} {tgt : Nat} (d : decode (ic M) pc = .ok (.if_icmp .le off, 3)) (ht : (pc : Int) + off = (tgt : Int)) (ha : a < 2 ^ 31) (hb : b < 2 ^ 31) (kt : a ≤ b → G Ω M K tgt ls st σ) (kf : b < a → G Ω M K (pc + 3) ls st σ) : G Ω M K pc ls (.int (nI b) :: .int (nI a) :: st) σ := g_icmp_le d ht (fun h => kt ((nI_leI ha hb).mp h)) (fun h => kf (Nat.not_le.mp (fun q => h ((nI_leI ha hb).mpr q))))
theorem gt_icmp_le {a b : Nat} {off : Int} {tgt : Nat} (d : decode (ic M) pc = .ok (.if_icmp .le off, 3)) (ht : (pc : Int) + off = (tgt : Int)) (ha : a < 2 ^ 31) (hb : b < 2 ^ 31) (hc : a ≤ b) (kt : G Ω M K tgt ls st σ) : G Ω M K pc ls (.int (nI b) :: .int (nI a) :: st) σ := gn_icmp_le d ht ha hb (fun _ => kt) (fun h => absurd h (by omega))
theorem gf_icmp_le {a b : Nat} {off : Int} {tgt : Nat} (d : decode (ic M) pc = .ok (.if_icmp .le off, 3)) (ht : (pc : Int) + off = (tgt : Int)) (ha : a < 2 ^ 31) (hb : b < 2 ^ 31) (hc : b < a) (kf : G Ω M K (pc + 3) ls st σ) : G Ω M K pc ls (.int (nI b) :: .int (nI a) :: st) σ := gn_icmp_le d ht ha hb (fun h => absurd h (by omega)) (fun _ => kf)
theorem rt_if_eq {x : Int32} {off : Int} {tgt : Nat} (d : decode (ic M) pc = .ok (.ifCond .eq off, 3)) (ht : (pc : Int) + off = (tgt : Int)) (hc : x = 0) (kt : G Ω M K tgt ls st σ) : G Ω M K pc ls (.int x :: st) σ := g_if_eq d ht (fun _ => kt) (fun h => absurd hc h)
theorem rf_if_eq {x : Int32} {off : Int} {tgt : Nat} (d : decode (ic M) pc = .ok (.ifCond .eq off, 3)) (ht : (pc : Int) + off = (tgt : Int)) (hc : ¬ (x = 0)) (kf : G Ω M K (pc + 3) ls st σ) : G Ω M K pc ls (.int x :: st) σ := g_if_eq d ht (fun h => absurd h hc) (fun _ => kf)
theorem rt_icmp_eq {x y : Int32} {off : Int} {tgt : Nat} (d : decode (ic M) pc = .ok (.if_icmp .eq off, 3)) (ht : (pc : Int) + off = (tgt : Int)) (hc : x = y) (kt : G Ω M K tgt ls st σ) : G Ω M K pc ls (.int y :: .int x :: st) σ := g_icmp_eq d ht (fun _ => kt) (fun h => absurd hc h)
theorem rf_icmp_eq {x y : Int32} {off : Int} {tgt : Nat} (d : decode (ic M) pc = .ok (.if_icmp .eq off, 3)) (ht : (pc : Int) + off = (tgt : Int)) (hc : ¬ (x = y)) (kf : G Ω M K (pc + 3) ls st σ) : G Ω M K pc ls (.int y :: .int x :: st) σ := g_icmp_eq d ht (fun h => absurd h hc) (fun _ => kf)
theorem rt_if_ne {x : Int32} {off : Int} {tgt : Nat} (d : decode (ic M) pc = .ok (.ifCond .ne off, 3)) (ht : (pc : Int) + off = (tgt : Int)) (hc : ¬ x = 0) (kt : G Ω M K tgt ls st σ) : G Ω M K pc ls (.int x :: st) σ := g_if_ne d ht (fun _ => kt) (fun h => absurd h hc)
theorem rf_if_ne {x : Int32} {off : Int} {tgt : Nat} (d : decode (ic M) pc = .ok (.ifCond .ne off, 3)) (ht : (pc : Int) + off = (tgt : Int)) (hc : x = 0) (kf : G Ω M K (pc + 3) ls st σ) : G Ω M K pc ls (.int x :: st) σ := g_if_ne d ht (fun h => absurd hc h) (fun _ => kf)
theorem rt_icmp_ne {x y : Int32} {off : Int} {tgt : Nat} (d : decode (ic M) pc = .ok (.if_icmp .ne off, 3)) (ht : (pc : Int) + off = (tgt : Int)) (hc : ¬ x = y) (kt : G Ω M K tgt ls st σ) : G Ω M K pc ls (.int y :: .int x :: st) σ := g_icmp_ne d ht (fun _ => kt) (fun h => absurd h hc)
theorem rf_icmp_ne {x y : Int32} {off : Int} {tgt : Nat} (d : decode (ic M) pc = .ok (.if_icmp .ne off, 3)) (ht : (pc : Int) + off = (tgt : Int)) (hc : x = y) (kf : G Ω M K (pc + 3) ls st σ) : G Ω M K pc ls (.int y :: .int x :: st) σ := g_icmp_ne d ht (fun h => absurd hc h) (fun _ => kf)
theorem rt_if_lt {x : Int32} {off : Int} {tgt : Nat} (d : decode (ic M) pc = .ok (.ifCond .lt off, 3)) (ht : (pc : Int) + off = (tgt : Int)) (hc : x < 0) (kt : G Ω M K tgt ls st σ) : G Ω M K pc ls (.int x :: st) σ := g_if_lt d ht (fun _ => kt) (fun h => absurd hc h)
theorem rf_if_lt {x : Int32} {off : Int} {tgt : Nat} (d : decode (ic M) pc = .ok (.ifCond .lt off, 3)) (ht : (pc : Int) + off = (tgt : Int)) (hc : ¬ (x < 0)) (kf : G Ω M K (pc + 3) ls st σ) : G Ω M K pc ls (.int x :: st) σ := g_if_lt d ht (fun h => absurd h hc) (fun _ => kf)
theorem rt_icmp_lt {x y : Int32} {off : Int} {tgt : Nat} (d : decode (ic M) pc = .ok (.if_icmp .lt off, 3)) (ht : (pc : Int) + off = (tgt : Int)) (hc : x < y) (kt : G Ω M K tgt ls st σ) : G Ω M K pc ls (.int y :: .int x :: st) σ := g_icmp_lt d ht (fun _ => kt) (fun h => absurd hc h)
theorem rf_icmp_lt {x y : Int32} {off : Int} {tgt : Nat} (d : decode (ic M) pc = .ok (.if_icmp .lt off, 3)) (ht : (pc : Int) + off = (tgt : Int)) (hc : ¬ (x < y)) (kf : G Ω M K (pc + 3) ls st σ) : G Ω M K pc ls (.int y :: .int x :: st) σ := g_icmp_lt d ht (fun h => absurd h hc) (fun _ => kf)
theorem rt_if_ge {x : Int32} {off : Int} {tgt : Nat} (d : decode (ic M) pc = .ok (.ifCond .ge off, 3)) (ht : (pc : Int) + off = (tgt : Int)) (hc : 0 ≤ x) (kt : G Ω M K tgt ls st σ) : G Ω M K pc ls (.int x :: st) σ := g_if_ge d ht (fun _ => kt) (fun h => absurd hc h)
theorem rf_if_ge {x : Int32} {off : Int} {tgt : Nat} (d : decode (ic M) pc = .ok (.ifCond .ge off, 3)) (ht : (pc : Int) + off = (tgt : Int)) (hc : ¬ (0 ≤ x)) (kf : G Ω M K (pc + 3) ls st σ) : G Ω M K pc ls (.int x :: st) σ := g_if_ge d ht (fun h => absurd h hc) (fun _ => kf)
theorem rt_icmp_ge {x y : Int32} {off : Int} {tgt : Nat} (d : decode (ic M) pc = .ok (.if_icmp .ge off, 3)) (ht : (pc : Int) + off = (tgt : Int)) (hc : y ≤ x) (kt : G Ω M K tgt ls st σ) : G Ω M K pc ls (.int y :: .int x :: st) σ := g_icmp_ge d ht (fun _ => kt) (fun h => absurd hc h)
theorem rf_icmp_ge {x y : Int32} {off : Int} {tgt : Nat} (d : decode (ic M) pc = .ok (.if_icmp .ge off, 3)) (ht : (pc : Int) + off = (tgt : Int)) (hc : ¬ (y ≤ x)) (kf : G Ω M K (pc + 3) ls st σ) : G Ω M K pc ls (.int y :: .int x :: st) σ := g_icmp_ge d ht (fun h => absurd h hc) (fun _ => kf)
theorem rt_if_gt {x : Int32} {off : Int} {tgt : Nat} (d : decode (ic M) pc = .ok (.ifCond .gt off, 3)) (ht : (pc : Int) + off = (tgt : Int)) (hc : 0 < x) (kt : G Ω M K tgt ls st σ) : G Ω M K pc ls (.int x :: st) σ := g_if_gt d ht (fun _ => kt) (fun h => absurd hc h)
theorem rf_if_gt {x : Int32} {off : Int} {tgt : Nat} (d : decode (ic M) pc = .ok (.ifCond .gt off, 3)) (ht : (pc : Int) + off = (tgt : Int)) (hc : ¬ (0 < x)) (kf : G Ω M K (pc + 3) ls st σ) : G Ω M K pc ls (.int x :: st) σ := g_if_gt d ht (fun h => absurd h hc) (fun _ => kf)
theorem rt_icmp_gt {x y : Int32} {off : Int} {tgt : Nat} (d : decode (ic M) pc = .ok (.if_icmp .gt off, 3)) (ht : (pc : Int) + off = (tgt : Int)) (hc : y < x) (kt : G Ω M K tgt ls st σ) : G Ω M K pc ls (.int y :: .int x :: st) σ := g_icmp_gt d ht (fun _ => kt) (fun h => absurd hc h)
theorem rf_icmp_gt {x y : Int32} {off : Int} {tgt : Nat} (d : decode (ic M) pc = .ok (.if_icmp .gt off, 3)) (ht : (pc : Int) + off = (tgt : Int)) (hc : ¬ (y < x)) (kf : G Ω M K (pc + 3) ls st σ) : G Ω M K pc ls (.int y :: .int x :: st) σ := g_icmp_gt d ht (fun h => absurd h hc) (fun _ => kf)
theorem rt_if_le {x : Int32} {off : Int} {tgt : Nat} (d : decode (ic M) pc = .ok (.ifCond .le off, 3)) (ht : (pc : Int) + off = (tgt : Int)) (hc : x ≤ 0) (kt : G Ω M K tgt ls st σ) : G Ω M K pc ls (.int x :: st) σ := g_if_le d ht (fun _ => kt) (fun h => absurd hc h)
theorem rf_if_le {x : Int32} {off : Int} {tgt : Nat} (d : decode (ic M) pc = .ok (.ifCond .le off, 3)) (ht : (pc : Int) + off = (tgt : Int)) (hc : ¬ (x ≤ 0)) (kf : G Ω M K (pc + 3) ls st σ) : G Ω M K pc ls (.int x :: st) σ := g_if_le d ht (fun h => absurd h hc) (fun _ => kf)
theorem rt_icmp_le {x y : Int32} {off : Int} {tgt : Nat} (d : decode (ic M) pc = .ok (.if_icmp .le off, 3)) (ht : (pc : Int) + off = (tgt : Int)) (hc : x ≤ y) (kt : G Ω M K tgt ls st σ) : G Ω M K pc ls (.int y :: .int x :: st) σ := g_icmp_le d ht (fun _ => kt) (fun h => absurd hc h)
theorem rf_icmp_le {x y : Int32} {off : Int} {tgt : Nat} (d : decode (ic M) pc = .ok (.if_icmp .le off, 3)) (ht : (pc : Int) + off = (tgt : Int)) (hc : ¬ (x ≤ y)) (kf : G Ω M K (pc + 3) ls st σ) : G Ω M K pc ls (.int y :: .int x :: st) σ := g_icmp_le d ht (fun h => absurd h hc) (fun _ => kf)
theorem gn_if_eq {a : Nat} {off : Int} {tgt : Nat} (d : decode (ic M) pc = .ok (.ifCond .eq off, 3)) (ht : (pc : Int) + off = (tgt : Int)) (ha : a < 2 ^ 31) (kt : a = 0 → G Ω M K tgt ls st σ) (kf : 0 < a → G Ω M K (pc + 3) ls st σ) : G Ω M K pc ls (.int (nI a) :: st) σ := g_if_eq d ht (fun h => kt ((nI_eq ha (by decide)).mp h)) (fun h => kf (Nat.pos_of_ne_zero (fun q => h (by rw [q]; rfl))))
theorem gt_if_eq {a : Nat} {off : Int} {tgt : Nat} (d : decode (ic M) pc = .ok (.ifCond .eq off, 3)) (ht : (pc : Int) + off = (tgt : Int)) (ha : a < 2 ^ 31) (hc : a = 0) (kt : G Ω M K tgt ls st σ) : G Ω M K pc ls (.int (nI a) :: st) σ := gn_if_eq d ht ha (fun _ => kt) (fun h => absurd h (by omega))
theorem gf_if_eq {a : Nat} {off : Int} {tgt : Nat} (d : decode (ic M) pc = .ok (.ifCond .eq off, 3)) (ht : (pc : Int) + off = (tgt : Int)) (ha : a < 2 ^ 31) (hc : 0 < a) (kf : G Ω M K (pc + 3) ls st σ) : G Ω M K pc ls (.int (nI a) :: st) σ := gn_if_eq d ht ha (fun h => absurd h (by omega)) (fun _ => kf)
theorem gn_if_ne {a : Nat} {off : Int} {tgt : Nat} (d : decode (ic M) pc = .ok (.ifCond .ne off, 3)) (ht : (pc : Int) + off = (tgt : Int)) (ha : a < 2 ^ 31) (kt : 0 < a → G Ω M K tgt ls st σ) (kf : a = 0 → G Ω M K (pc + 3) ls st σ) : G Ω M K pc ls (.int (nI a) :: st) σ := g_if_ne d ht (fun h => kt (Nat.pos_of_ne_zero (fun q => h (by rw [q]; rfl)))) (fun h => kf ((nI_eq ha (by decide)).mp h))
theorem gt_if_ne {a : Nat} {off : Int} {tgt : Nat} (d : decode (ic M) pc = .ok (.ifCond .ne off, 3)) (ht : (pc : Int) + off = (tgt : Int)) (ha : a < 2 ^ 31) (hc : 0 < a) (kt : G Ω M K tgt ls st σ) : G Ω M K pc ls (.int (nI a) :: st) σ := gn_if_ne d ht ha (fun _ => kt) (fun h => absurd h (by omega))
theorem gf_if_ne {a : Nat} {off : Int} {tgt : Nat} (d : decode (ic M) pc = .ok (.ifCond .ne off, 3)) (ht : (pc : Int) + off = (tgt : Int)) (ha : a < 2 ^ 31) (hc : a = 0) (kf : G Ω M K (pc + 3) ls st σ) : G Ω M K pc ls (.int (nI a) :: st) σ := gn_if_ne d ht ha (fun h => absurd h (by omega)) (fun _ => kf)
theorem gn_if_gt {a : Nat} {off : Int} {tgt : Nat} (d : decode (ic M) pc = .ok (.ifCond .gt off, 3)) (ht : (pc : Int) + off = (tgt : Int)) (ha : a < 2 ^ 31) (kt : 0 < a → G Ω M K tgt ls st σ) (kf : a = 0 → G Ω M K (pc + 3) ls st σ) : G Ω M K pc ls (.int (nI a) :: st) σ := g_if_gt d ht (fun h => kt ((nI_ltI (by decide) ha).mp h)) (fun h => kf (Nat.eq_zero_of_not_pos (fun q => h ((nI_ltI (a := 0) (by decide) ha).mpr q))))
theorem gt_if_gt {a : Nat} {off : Int} {tgt : Nat} (d : decode (ic M) pc = .ok (.ifCond .gt off, 3)) (ht : (pc : Int) + off = (tgt : Int)) (ha : a < 2 ^ 31) (hc : 0 < a) (kt : G Ω M K tgt ls st σ) : G Ω M K pc ls (.int (nI a) :: st) σ := gn_if_gt d ht ha (fun _ => kt) (fun h => absurd h (by omega))
theorem gf_if_gt {a : Nat} {off : Int} {tgt : Nat} (d : decode (ic M) pc = .ok (.ifCond .gt off, 3)) (ht : (pc : Int) + off = (tgt : Int)) (ha : a < 2 ^ 31) (hc : a = 0) (kf : G Ω M K (pc + 3) ls st σ) : G Ω M K pc ls (.int (nI a) :: st) σ := gn_if_gt d ht ha (fun h => absurd h (by omega)) (fun _ => kf)
theorem gn_if_le {a : Nat} {off : Int} {tgt : Nat} (d : decode (ic M) pc = .ok (.ifCond .le off, 3)) (ht : (pc : Int) + off = (tgt : Int)) (ha : a < 2 ^ 31) (kt : a = 0 → G Ω M K tgt ls st σ) (kf : 0 < a → G Ω M K (pc + 3) ls st σ) : G Ω M K pc ls (.int (nI a) :: st) σ := g_if_le d ht (fun h => kt (Nat.le_zero.mp ((nI_leI ha (by decide)).mp h))) (fun h => kf (Nat.pos_of_ne_zero (fun q => h (by rw [q]; decide))))
theorem gt_if_le {a : Nat} {off : Int} {tgt : Nat} (d : decode (ic M) pc = .ok (.ifCond .le off, 3)) (ht : (pc : Int) + off = (tgt : Int)) (ha : a < 2 ^ 31) (hc : a = 0) (kt : G Ω M K tgt ls st σ) : G Ω M K pc ls (.int (nI a) :: st) σ := gn_if_le d ht ha (fun _ => kt) (fun h => absurd h (by omega))
theorem gf_if_le {a : Nat} {off : Int} {tgt : Nat} (d : decode (ic M) pc = .ok (.ifCond .le off, 3)) (ht : (pc : Int) + off = (tgt : Int)) (ha : a < 2 ^ 31) (hc : 0 < a) (kf : G Ω M K (pc + 3) ls st σ) : G Ω M K pc ls (.int (nI a) :: st) σ := gn_if_le d ht ha (fun h => absurd h (by omega)) (fun _ => kf)
theorem gt_if_ge {a : Nat} {off : Int} {tgt : Nat} (d : decode (ic M) pc = .ok (.ifCond .ge off, 3)) (ht : (pc : Int) + off = (tgt : Int)) (ha : a < 2 ^ 31) (kt : G Ω M K tgt ls st σ) : G Ω M K pc ls (.int (nI a) :: st) σ := g_if_ge d ht (fun _ => kt) (fun h => absurd (nI_pos' ha) h)
theorem gf_if_lt {a : Nat} {off : Int} {tgt : Nat} (d : decode (ic M) pc = .ok (.ifCond .lt off, 3)) (ht : (pc : Int) + off = (tgt : Int)) (ha : a < 2 ^ 31) (kf : G Ω M K (pc + 3) ls st σ) : G Ω M K pc ls (.int (nI a) :: st) σ := g_if_lt d ht (fun h => absurd h (nI_pos ha)) (fun _ => kf)
-- booleans
theorem gb_if_eq {b : Bool} {off : Int} {tgt : Nat} (d : decode (ic M) pc = .ok (.ifCond .eq off, 3)) (ht : (pc : Int) + off = (tgt : Int)) (kt : b = false → G Ω M K tgt ls st σ) (kf : b = true → G Ω M K (pc + 3) ls st σ) : G Ω M K pc ls (.int (bI b) :: st) σ := g_if_eq d ht (fun h => kt (by cases b <;> first | rfl | exact absurd h (by decide))) (fun h => kf (by cases b <;> first | rfl | exact absurd rfl h))
theorem gb_if_ne {b : Bool} {off : Int} {tgt : Nat} (d : decode (ic M) pc = .ok (.ifCond .ne off, 3)) (ht : (pc : Int) + off = (tgt : Int)) (kt : b = true → G Ω M K tgt ls st σ) (kf : b = false → G Ω M K (pc + 3) ls st σ) : G Ω M K pc ls (.int (bI b) :: st) σ := g_if_ne d ht (fun h => kt (by cases b <;> first | rfl | exact absurd rfl h)) (fun h => kf (by cases b <;> first | rfl | exact absurd h (by decide)))
end
theorem kwM : kw W0 258 = (12, 65) := by decide +kernel
theorem kw_price : kw W0 259 = (20, 16) := by decide +kernel
theorem kw_width : kw W0 260 = (20, 16) := by decide +kernel
theorem kw_far : kw W0 261 = (20, 16) := by decide +kernel
theorem kw_kind : kw W0 262 = (20, 20) := by decide +kernel
theorem kw_told : kw W0 263 = (20, 10) := by decide +kernel
theorem kw_aPage : kw W0 264 = (20, 600) := by decide +kernel
theorem kw_aCell : kw W0 265 = (20, 600) := by decide +kernel
theorem kw_aWrites : kw W0 266 = (22, 600) := by decide +kernel
theorem kw_aValue : kw W0 267 = (20, 600) := by decide +kernel
theorem kw_placing : kw W0 268 = (20, 2) := by decide +kernel
theorem kw_every : kw W0 269 = (20, 2) := by decide +kernel
theorem kw_gain : kw W0 270 = (20, 2) := by decide +kernel
theorem kw_tick : kw W0 271 = (20, 2) := by decide +kernel
theorem kw_turns : kw W0 272 = (20, 2) := by decide +kernel
theorem kw_went : kw W0 273 = (20, 2) := by decide +kernel
theorem kw_cost : kw W0 274 = (21, 2) := by decide +kernel
theorem kw_faults : kw W0 275 = (20, 2) := by decide +kernel
theorem kw_moves : kw W0 276 = (20, 2) := by decide +kernel
theorem kw_failed : kw W0 277 = (20, 2) := by decide +kernel
theorem kw_stamps : kw W0 278 = (20, 2) := by decide +kernel
theorem kw_lies : kw W0 279 = (20, 40) := by decide +kernel
theorem kw_copies : kw W0 280 = (20, 40) := by decide +kernel
theorem kw_hidden : kw W0 281 = (22, 40) := by decide +kernel
theorem kw_faultMany : kw W0 282 = (20, 40) := by decide +kernel
theorem kw_faultNode : kw W0 283 = (20, 160) := by decide +kernel
theorem kw_moved : kw W0 284 = (20, 40) := by decide +kernel
theorem kw_pageBill : kw W0 285 = (21, 40) := by decide +kernel
theorem kw_cell : kw W0 286 = (20, 160) := by decide +kernel
theorem kw_at : kw W0 287 = (20, 20) := by decide +kernel
theorem kw_stamp : kw W0 288 = (20, 20) := by decide +kernel
theorem kw_next : kw W0 289 = (20, 20) := by decide +kernel
theorem kw_toGo : kw W0 290 = (20, 20) := by decide +kernel
theorem kw_waits : kw W0 291 = (20, 20) := by decide +kernel
theorem kw_ended : kw W0 292 = (22, 20) := by decide +kernel
theorem kw_threadWent : kw W0 293 = (20, 20) := by decide +kernel
theorem kw_threadBill : kw W0 294 = (21, 20) := by decide +kernel
theorem kw_lastRead : kw W0 295 = (20, 20) := by decide +kernel
theorem kw_tried : kw W0 296 = (22, 20) := by decide +kernel
theorem kw_nodeBill : kw W0 297 = (21, 8) := by decide +kernel
theorem kw_linkNow : kw W0 298 = (20, 32) := by decide +kernel
theorem kw_linkWent : kw W0 299 = (20, 32) := by decide +kernel
theorem kw_linkWaits : kw W0 300 = (20, 32) := by decide +kernel
theorem kw_log : kw W0 301 = (20, 3000) := by decide +kernel
theorem kw_logValue : kw W0 302 = (20, 300) := by decide +kernel
theorem kw_sum : kw W0 303 = (21, 4) := by decide +kernel
theorem kw_then : kw W0 304 = (21, 4) := by decide +kernel
theorem kw_plain : kw W0 305 = (20, 80) := by decide +kernel
theorem kw_shelf : kw W0 306 = (20, 8) := by decide +kernel
theorem kw_shelfSize : kw W0 307 = (20, 8) := by decide +kernel
theorem kw_shelfWeight : kw W0 308 = (20, 8) := by decide +kernel
theorem kw_shelfFailure : kw W0 309 = (20, 8) := by decide +kernel
theorem kw_shelfRow : kw W0 310 = (20, 480) := by decide +kernel
theorem kw_between : kw W0 311 = (20, 60) := by decide +kernel
theorem rM_price : rf 258 4 = 259 := by decide +kernel
theorem rM_width : rf 258 5 = 260 := by decide +kernel
theorem rM_far : rf 258 6 = 261 := by decide +kernel
theorem rM_kind : rf 258 8 = 262 := by decide +kernel
theorem rM_told : rf 258 10 = 263 := by decide +kernel
theorem rM_aPage : rf 258 11 = 264 := by decide +kernel
theorem rM_aCell : rf 258 12 = 265 := by decide +kernel
theorem rM_aWrites : rf 258 13 = 266 := by decide +kernel
theorem rM_aValue : rf 258 14 = 267 := by decide +kernel
theorem rM_placing : rf 258 18 = 268 := by decide +kernel
theorem rM_every : rf 258 19 = 269 := by decide +kernel
theorem rM_gain : rf 258 20 = 270 := by decide +kernel
theorem rM_tick : rf 258 21 = 271 := by decide +kernel
theorem rM_turns : rf 258 22 = 272 := by decide +kernel
theorem rM_went : rf 258 23 = 273 := by decide +kernel
theorem rM_cost : rf 258 24 = 274 := by decide +kernel
theorem rM_faults : rf 258 25 = 275 := by decide +kernel
theorem rM_moves : rf 258 26 = 276 := by decide +kernel
theorem rM_failed : rf 258 27 = 277 := by decide +kernel
theorem rM_stamps : rf 258 28 = 278 := by decide +kernel
theorem rM_lies : rf 258 29 = 279 := by decide +kernel
theorem rM_copies : rf 258 30 = 280 := by decide +kernel
theorem rM_hidden : rf 258 31 = 281 := by decide +kernel
theorem rM_faultMany : rf 258 32 = 282 := by decide +kernel
theorem rM_faultNode : rf 258 33 = 283 := by decide +kernel
theorem rM_moved : rf 258 34 = 284 := by decide +kernel
theorem rM_pageBill : rf 258 35 = 285 := by decide +kernel
theorem rM_cell : rf 258 36 = 286 := by decide +kernel
theorem rM_at : rf 258 37 = 287 := by decide +kernel
theorem rM_stamp : rf 258 38 = 288 := by decide +kernel
theorem rM_next : rf 258 39 = 289 := by decide +kernel
theorem rM_toGo : rf 258 40 = 290 := by decide +kernel
theorem rM_waits : rf 258 41 = 291 := by decide +kernel
theorem rM_ended : rf 258 42 = 292 := by decide +kernel
theorem rM_threadWent : rf 258 43 = 293 := by decide +kernel
theorem rM_threadBill : rf 258 44 = 294 := by decide +kernel
theorem rM_lastRead : rf 258 45 = 295 := by decide +kernel
theorem rM_tried : rf 258 46 = 296 := by decide +kernel
theorem rM_nodeBill : rf 258 47 = 297 := by decide +kernel
theorem rM_linkNow : rf 258 48 = 298 := by decide +kernel
theorem rM_linkWent : rf 258 49 = 299 := by decide +kernel
theorem rM_linkWaits : rf 258 50 = 300 := by decide +kernel
theorem rM_log : rf 258 52 = 301 := by decide +kernel
theorem rM_logValue : rf 258 53 = 302 := by decide +kernel
theorem rM_sum : rf 258 56 = 303 := by decide +kernel
theorem rM_then : rf 258 57 = 304 := by decide +kernel
theorem rM_plain : rf 258 58 = 305 := by decide +kernel
theorem rM_shelf : rf 258 59 = 306 := by decide +kernel
theorem rM_shelfSize : rf 258 60 = 307 := by decide +kernel
theorem rM_shelfWeight : rf 258 61 = 308 := by decide +kernel
theorem rM_shelfFailure : rf 258 62 = 309 := by decide +kernel
theorem rM_shelfRow : rf 258 63 = 310 := by decide +kernel
theorem rM_between : rf 258 64 = 311 := by decide +kernel
