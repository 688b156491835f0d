/-! What both constructors leave shows the first state. -/
def S0 (n p r : Nat) : Sx := msS (S0p n p r)
def H0 : Hx := fun _ _ => 0
theorem S0_ne {n p r g : Nat} (h5 : g ≠ 5) (h6 : g ≠ 6) : (S0 n p r).1 g = (S0p n p r).1 g := msS_ne h5 h6
theorem S0_2 {n p r : Nat} : (S0 n p r).2 = (S0p n p r).2 := rfl
def vv (g : Nat) : Nat := if g = 22 then 1 else if g = 24 then 1 else 0
theorem w1_tab : ((List.range 40).all fun g => decide (mML.getD g 0 = 0) || (decide (vv g ≤ bnd g) && !decide (g = 29 ∧ vv g ≠ 0) && !decide (g = 30 ∧ vv g ≠ 0) && (List.range (mSL.getD g 0)).all fun i => decide (ivR 0 0 0 (mA g) (mK 1 g + i) = encM g (vv g)) && !decide (mA g = 258) && !decide (mA g = 261))) = true := by decide +kernel
theorem mML_lt {g : Nat} (h : mML.getD g 0 ≠ 0) : g < 40 := by
  rcases Nat.lt_or_ge g 40 with q | q
  · exact q
  · exfalso
    rw [List.getD, List.getElem?_eq_none (by show 40 ≤ g; exact q)] at h
    exact h rfl
theorem ini_M {n p r : Nat} {σ τ : Mm} (h : MoI n p r σ τ) : MI_ τ (S0 n p r) H0 := by
  obtain ⟨h1, h2, h3, h4⟩ := h
  refine ⟨h4, ⟨by decide, ?_⟩, ⟨fun d hd => ?_, fun i hi => ?_⟩, fun g i hg hi => ?_⟩
  · rw [h3 258 17 (by decide) (by decide) (by decide)]; rfl
  · rw [h3 306 d (by decide) (by decide) (by decide), h3 307 d (by decide) (by decide) (by decide), h3 308 d (by decide) (by decide) (by decide), h3 309 d (by decide) (by decide) (by decide)]
    exact ⟨rfl, rfl, rfl, rfl⟩
  · rw [h3 310 i (by decide) (by decide) (by decide)]; rfl
  · have q := List.all_eq_true.mp w1_tab g (List.mem_range.mpr (mML_lt hg))
    rw [show decide (mML.getD g 0 = 0) = false from decide_eq_false hg, Bool.false_or, Bool.and_eq_true, Bool.and_eq_true, Bool.and_eq_true] at q
    obtain ⟨⟨⟨q1, q2⟩, q3⟩, q4⟩ := q
    have q5 := List.all_eq_true.mp q4 i (List.mem_range.mpr hi)
    rw [Bool.and_eq_true, Bool.and_eq_true] at q5
    obtain ⟨⟨q6, q7⟩, q8⟩ := q5
    have q7' : ¬ mA g = 258 := by simpa using q7
    have q8' : ¬ mA g = 261 := by simpa using q8
    have hm := mA_ge hi
    refine ⟨vv g, of_decide_eq_true q1, fun z => ?_, fun z _ => ?_, ?_⟩
    · right; subst z; rfl
    · subst z; rfl
    · rw [h3 _ _ hm.1 (by omega) q8', ivR_eq (fun z => q7' z.1)]
      exact of_decide_eq_true q6
def domC : List Nat := [8, 24, 25, 26, 27, 29, 30, 31, 32]
def domV : List Nat := [7, 8, 9, 10, 11, 12]
theorem ivC_tabN : ((List.range 40).all fun g => decide (g < 7) || domC.contains g || (List.range (szC g)).all fun i => decide (6 ≤ (cl 57 g i).1 ∧ (cl 57 g i).1 < 258 ∧ ivC (cl 57 g i).1 (cl 57 g i).2 = encC g ((S0p 0 0 0).1 g i))) = true := by decide +kernel
theorem ivC_tabV : ((List.range 20).all fun g => domV.contains g || (List.range (szV g)).all fun i => decide (6 ≤ (clV 57 g i).1 ∧ (clV 57 g i).1 < 258 ∧ ivC (clV 57 g i).1 (clV 57 g i).2 = (S0p 0 0 0).2.1 g i)) = true := by decide +kernel
def vv2 (g : Nat) : Nat := if g = 22 then 1 else if g = 14 then 2 else if g = 15 then 6 else 0
theorem vv2_le (g : Nat) : vv2 g ≤ bnd g := by
  unfold vv2
  split
  · next h => subst h; decide
  split
  · next h => subst h; decide
  split
  · next h => subst h; decide
  · exact Nat.zero_le _
theorem ini_C {n p r : Nat} {σ τ : Mm} (hn : n ≤ 4) (hp : p ≤ 3) (hr : r ≤ 12) (h : ClI (prS (S0p n p r)) n p r σ τ) : CI τ (S0 n p r) H0 := by
  obtain ⟨h1, h2, h3, h4, h5, h6, h7, h8, h9⟩ := h
  have hB := S0p_bd hn hp hr
  have hz : ∀ b k, 6 ≤ b → b < 258 → (b < 57 ∨ 233 ≤ b) → τ.1 b k = 0 := fun b k g1 g2 g3 => by
    rw [h3 b k g1 g2]; unfold ivC; rw [if_neg (by omega), if_neg (by omega)]
  have hR : RepC 57 (fun b k => if b = 4 ∨ b = 5 then 0 else τ.1 b k, τ.2) (S0p n p r) (fun _ => 0) := by
    refine ⟨fun g i hi hd => ?_, fun g i hi hd => ?_, fun p0 k hp0 => ?_, fun a ha => ?_, fun a ha => ?_⟩
    · have hg := szC_lt hi
      show (if (cl 57 g i).1 = 4 ∨ (cl 57 g i).1 = 5 then (0 : Int32) else τ.1 (cl 57 g i).1 (cl 57 g i).2) = _
      by_cases g7 : g < 7
      · have gg : g = 0 ∨ g = 1 ∨ g = 2 ∨ g = 3 ∨ g = 4 ∨ g = 5 ∨ g = 6 := by omega
        rcases gg with rfl | rfl | rfl | rfl | rfl | rfl | rfl
        · exact h4
        · exact h5
        · exact h6
        · have hi' : i < 16 := hi
          have hd' : i / 4 < i % 4 := hd
          refine (h7 i hi').1.trans ?_
          show nI 2 = nI (if i / 4 = i % 4 then 0 else 2)
          rw [if_neg (by omega)]
        · have hi' : i < 16 := hi
          exact (h7 i hi').2
        · rfl
        · rfl
      · by_cases hdm : domC.contains g = true
        · exfalso
          have hm : g ∈ domC := by simpa using hdm
          have z7 : (S0p n p r).1 7 0 = 0 := rfl
          have z9 : (S0p n p r).1 9 0 = 0 := rfl
          simp only [domC, List.mem_cons, List.not_mem_nil, or_false] at hm
          rcases hm with rfl | rfl | rfl | rfl | rfl | rfl | rfl | rfl | rfl
          all_goals exact absurd hd (Nat.not_lt_zero _)
        · have q := List.all_eq_true.mp ivC_tabN g (List.mem_range.mpr hg)
          rw [show decide (g < 7) = false from decide_eq_false g7, Bool.false_or, show domC.contains g = false by simpa using hdm, Bool.false_or] at q
          have q2 := of_decide_eq_true (List.all_eq_true.mp q i (List.mem_range.mpr hi))
          rw [if_neg (by omega), h3 _ _ q2.1 q2.2.1, q2.2.2]
          have e : (S0p n p r).1 g i = (S0p 0 0 0).1 g i := by
            have hz : ¬ g = 0 ∧ ¬ g = 1 ∧ ¬ g = 2 := by omega
            unfold S0p
            simp only [hz.1, hz.2.1, hz.2.2, if_false]
          rw [e]
    · have hg := szV_lt hi
      show (if (clV 57 g i).1 = 4 ∨ (clV 57 g i).1 = 5 then (0 : Int32) else τ.1 (clV 57 g i).1 (clV 57 g i).2) = _
      by_cases hdm : domV.contains g = true
      · exfalso
        have hm : g ∈ domV := by simpa using hdm
        simp only [domV, List.mem_cons, List.not_mem_nil, or_false] at hm
        rcases hm with rfl | rfl | rfl | rfl | rfl | rfl
        all_goals exact absurd hd (Nat.not_lt_zero _)
      · have q := List.all_eq_true.mp ivC_tabV g (List.mem_range.mpr hg)
        rw [show domV.contains g = false by simpa using hdm, Bool.false_or] at q
        have q2 := of_decide_eq_true (List.all_eq_true.mp q i (List.mem_range.mpr hi))
        rw [if_neg (by omega), h3 _ _ q2.1 q2.2.1, q2.2.2]
        rfl
    · exact absurd hp0 (Nat.not_lt_zero _)
    · show (if 65 = 4 ∨ 65 = 5 then (0 : Int32) else τ.1 65 a) = _
      rw [if_neg (by decide), h3 65 a (by decide) (by decide)]
      rfl
    · refine ⟨Nat.zero_le _, ?_, fun i hi => absurd hi (Nat.not_lt_zero _)⟩
      show (if 60 = 4 ∨ 60 = 5 then (0 : Int32) else τ.1 60 a) = _
      rw [if_neg (by decide), h3 60 a (by decide) (by decide)]
      rfl
  have hf : fr45 (fun b k => if b = 4 ∨ b = 5 then 0 else τ.1 b k, τ.2) τ := ⟨fun a g4 g5 => by
    funext k
    show _ = if a = 4 ∨ a = 5 then (0 : Int32) else τ.1 a k
    rw [if_neg (by omega)], rfl⟩
  refine ⟨⟨fun _ => 0, hR.ms (Or.inl rfl) hB hf h8 h9, fun a ha => ?_⟩, fun d hd => ?_, ?_, ?_, fun g => vv2 g, ?_, ?_, ?_, ?_, ?_, ?_⟩
  · have e7 : (msS (S0p n p r)).1 7 0 = 0 := by rw [msS_ne (by decide) (by decide)]; rfl
    show 0 = tk (msS (S0p n p r)) a ((msS (S0p n p r)).1 7 0)
    rw [e7]; rfl
  · refine ⟨?_, Or.inl rfl, fun z => absurd (show (0 : Int32) = nI 3 from z) (by decide), fun z => absurd (show (0 : Int32) = nI 4 from z) (by decide), fun z => absurd (show (0 : Int32) = nI 1 from z) (by decide)⟩
    rw [hz _ _ (by omega) (by omega) (by omega)]; rfl
  · rw [h3 159 0 (by decide) (by decide)]; rfl
  · rw [h3 159 2 (by decide) (by decide)]; rfl
  · exact vv2_le
  · rw [h3 149 0 (by decide) (by decide)]; rfl
  · rw [h3 149 1 (by decide) (by decide)]; rfl
  · rw [h3 149 2 (by decide) (by decide)]; rfl
  · rw [h3 149 3 (by decide) (by decide)]; rfl
  · rw [h3 149 4 (by decide) (by decide)]; rfl
theorem S0p_Sp {n p r : Nat} : Sp (S0p n p r) := by
  refine ⟨fun a b ha hb => ?_, fun a ha => ?_, fun a b ha hb => rfl⟩
  · show (if (4 * a + b) / 4 = (4 * a + b) % 4 then 0 else 2) = if (4 * b + a) / 4 = (4 * b + a) % 4 then 0 else 2
    by_cases h : a = b
    · subst h; rfl
    · rw [if_neg (by omega), if_neg (by omega)]
  · show (if (4 * a + a) / 4 = (4 * a + a) % 4 then 0 else 2) = 0
    rw [if_pos (by omega)]
theorem ini_P {n p r : Nat} (h2 : 2 ≤ n) (hn : n ≤ 4) (hp : p ≤ 3) (hr : r ≤ 12) : PC 0 (S0 n p r) := by
  have hB := S0p_bd hn hp hr
  have hS := S0p_Sp (n := n) (p := p) (r := r)
  have e : ∀ g, g ≠ 5 → g ≠ 6 → (S0 n p r).1 g = (S0p n p r).1 g := fun g a b => S0_ne a b
  have e0 : (S0 n p r).1 0 0 = n := by rw [e 0 (by decide) (by decide)]; rfl
  have hI := ms_Iv hB hS (show 2 ≤ n from h2) (fun t => show 0 < n by omega) (fun u => show 1 ≤ n by omega)
  have z : ∀ g i, g ≠ 0 → g ≠ 1 → g ≠ 2 → g ≠ 3 → g ≠ 4 → g ≠ 5 → g ≠ 6 → g ≠ 14 → g ≠ 15 → g ≠ 22 → g ≠ 24 → g ≠ 39 → (S0 n p r).1 g i = 0 := fun g i a0 a1 a2 a3 a4 a5 a6 a14 a15 a22 a24 a39 => by
    rw [e g a5 a6]
    unfold S0p
    simp only [a0, a1, a2, a3, a4, a14, a15, a22, a24, a39, if_false]
  have zv : ∀ g i, g ≠ 1 → (S0 n p r).2.1 g i = 0 := fun g i h => if_neg (fun q => h q.1)
  have z' : ∀ g i, g = 7 ∨ g = 8 ∨ g = 9 ∨ g = 10 ∨ g = 25 ∨ g = 26 ∨ g = 27 ∨ g = 28 ∨ g = 29 ∨ g = 30 ∨ g = 31 ∨ g = 32 ∨ g = 33 ∨ g = 34 ∨ g = 35 ∨ g = 36 ∨ g = 23 → (S0 n p r).1 g i = 0 := fun g i h => z g i (by omega) (by omega) (by omega) (by omega) (by omega) (by omega) (by omega) (by omega) (by omega) (by omega) (by omega) (by omega)
  have zq : ∀ a, (S0 n p r).2.2 a = [] := fun a => rfl
  refine ⟨⟨⟨⟨hI.1, hI.2, fun q k hk => ?_, fun q => ?_, fun t => ?_⟩, ⟨fun _ => ?_, fun z => absurd z (by decide)⟩, fun i hi => z' 33 i (by omega), ⟨fun a ha => ⟨fun u => ?_, ?_⟩, fun u hu => ?_⟩, fun a => ?_⟩, ?_, fun i hi => ?_, fun t => ?_, fun a b ha hb hd => ?_, fun q hq => ?_, fun t ht => ?_⟩, ?_, ?_⟩
  · rw [z' 27 q (by omega)] at hk; exact absurd hk (Nat.not_lt_zero _)
  · refine ⟨fun _ => z' 25 q (by omega), fun _ => z' 25 q (by omega), fun _ => ?_⟩
    rw [z' 25 q (by omega), e 24 (by decide) (by decide)]
    show bt 0 0 = 0
    decide
  · rw [z' 30 t (by omega)]; exact Nat.zero_le _
  · rw [e 39 (by decide) (by decide)]; rfl
  · rw [zq, z' 9 0 (by omega)]
    exact ⟨fun h => absurd h (by simp), fun h => absurd h.1 (Nat.not_lt_zero _)⟩
  · rw [zq]; exact List.Pairwise.nil
  · rw [z' 9 0 (by omega)] at hu; exact absurd hu (Nat.not_lt_zero _)
  · rw [z' 9 0 (by omega)]; exact Nat.zero_le _
  · unfold Sp; rw [e 3 (by decide) (by decide), e 4 (by decide) (by decide)]; exact hS
  · rw [z' 34 0 (by omega)] at hi; exact absurd hi (Nat.not_lt_zero _)
  · rw [zv 18 t (by decide), z' 30 t (by omega)]; rfl
  · have l5 : (msS (S0p n p r)).1 5 = (ms5 (S0p n p r)).1 5 := s6_ne (by decide)
    rw [e0] at ha hb ⊢
    have hd' : (ms5 (S0p n p r)).1 5 (4 * a + b) < 1000 := by rw [← l5]; exact hd
    refine (rhS_eq (S := ms5 (S0p n p r)) (s6_ne (by decide)) (s6_ne (by decide)) (s6_ne (by decide)) _ _ _).mpr (ms_rh hB hS (show b < (S0p n p r).1 0 0 from hb) _ a (show a < (S0p n p r).1 0 0 from ha) hd' ?_)
    exact rk_n (D := fun x y => (ms5 (S0p n p r)).1 5 (4 * x + y)) (b := b) (x := a) hn ha
  · exact ⟨z' 25 q (by omega), z' 26 q (by omega), z' 27 q (by omega), zv 7 q (by decide), zv 8 q (by decide), fun c _ => zv 9 _ (by decide)⟩
  · exact ⟨z' 30 t (by omega), z' 31 t (by omega), z' 32 t (by omega), zv 10 t (by decide), zv 11 t (by decide), zv 12 t (by decide)⟩
  · rw [z' 23 0 (by omega)]; exact Nat.zero_le _
  · rw [z' 36 0 (by omega)]; exact Nat.zero_le _
theorem ini_H : Hok H0 := fun d _ => ⟨Or.inl rfl, fun h => by
  rcases h with h | h
  · exact absurd (show (0 : Int32) = nI 3 from h) (by decide)
  · exact absurd (show (0 : Int32) = nI 4 from h) (by decide)⟩
