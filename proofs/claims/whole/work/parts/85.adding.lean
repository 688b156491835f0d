/-! Pages and threads that are added. -/
theorem inv_b10 {b : Nat} (hb : mch b) : invC b b 10 = (7, 0) := by rcases hb with rfl | rfl <;> rfl
theorem inv_b11 {b : Nat} (hb : mch b) : invC b b 11 = (9, 0) := by rcases hb with rfl | rfl <;> rfl
theorem inv_p5 {b p : Nat} (hb : mch b) (hp : p < 20) : invC b (b + 18 + 3 * p) 5 = (27, p) := by
  have h1 : ∀ p, p < 20 → invC 57 (57 + 18 + 3 * p) 5 = (27, p) := by decide +kernel
  have h2 : ∀ p, p < 20 → invC 145 (145 + 18 + 3 * p) 5 = (27, p) := by decide +kernel
  rcases hb with rfl | rfl
  · exact h1 p hp
  · exact h2 p hp
theorem RepC.fm {b : Nat} {σ : Mm} {S : Sx} {Tf : Nat → Nat} (h : RepC b σ S Tf) (hb : mch b) (hB : Bd S) {p v : Nat} (hp : S.1 7 0 ≤ p) (h20 : p < 20) : RepC b (wI σ (b + 18 + 3 * p) 5 (nI v)) (setN S 27 p v) Tf := by
  obtain ⟨h1, h2, h3, h4, h5⟩ := h
  have b7 := B_P hB 0
  refine ⟨fun g i hi hd => ?_, fun g i hi hd => ?_, fun q k hq hk => ?_, fun a ha => ?_, fun a ha => ?_⟩
  · have hd := (dmC_eq (S := S) (by rw [setN_ne (by decide)]) (by rw [setN_ne (by decide)]) (by rw [setN_ne (by decide)]) g i).mp hd
    rw [wI_at, setN_at]
    by_cases e : g = 27 ∧ i = p
    · rw [e.1, e.2] at hd
      exact absurd hd (by simp [dmC]; omega)
    · rw [if_neg e, if_neg (fun z => by
        have q := inv_N hb hi
        rw [z.1, z.2, inv_p5 hb h20] at q
        exact e ⟨(Prod.mk.inj q).1.symm, (Prod.mk.inj q).2.symm⟩)]
      exact h1 g i hi hd
  · have hd := (dmV_eq (S := S) (by rw [setN_ne (by decide)]) (by rw [setN_ne (by decide)]) (by rw [setN_ne (by decide)]) g i).mp hd
    rw [wI_at, if_neg (fun z => by
        have q := inv_V hb hi
        rw [z.1, z.2, inv_p5 hb h20] at q
        have := (Prod.mk.inj q).1
        omega)]
    exact h2 g i hi hd
  · rw [setN_ne (by decide)] at hq
    have e27 : (setN S 27 p v).1 27 q = S.1 27 q := by rw [setN_at, if_neg (by omega)]
    have e28 : (setN S 27 p v).1 28 = S.1 28 := setN_ne (by decide)
    rw [e27] at hk ⊢
    rw [e28, wI_at, if_neg (by omega)]
    exact h3 q k hq hk
  · rw [wI_at, if_neg (by omega)]; exact h4 a ha
  · obtain ⟨q1, q2, q3⟩ := h5 a ha
    refine ⟨q1, ?_, fun i hi => ?_⟩
    · rw [wI_at, if_neg (by omega)]; exact q2
    · rw [wI_at, if_neg (by omega)]; exact q3 i hi
theorem dm7 {S : Sx} {P g i : Nat} (hP : S.1 7 0 = P) (h : dmC (setN S 7 0 (P + 1)) g i) : dmC S g i ∨ ((g = 8 ∨ g = 24 ∨ g = 25 ∨ g = 26 ∨ g = 27) ∧ i = P) := by
  have e0 : (setN S 7 0 (P + 1)).1 0 = S.1 0 := setN_ne (by decide)
  have e9 : (setN S 7 0 (P + 1)).1 9 = S.1 9 := setN_ne (by decide)
  have e7 : (setN S 7 0 (P + 1)).1 7 0 = P + 1 := by rw [setN_at, if_pos ⟨rfl, rfl⟩]
  by_cases hg : g = 8 ∨ g = 24 ∨ g = 25 ∨ g = 26 ∨ g = 27
  · have : i < P + 1 := by
      rcases hg with rfl | rfl | rfl | rfl | rfl <;> (simp only [dmC] at h; rw [e7] at h; simpa using h)
    by_cases hi : i = P
    · exact Or.inr ⟨hg, hi⟩
    · refine Or.inl ?_
      rcases hg with rfl | rfl | rfl | rfl | rfl <;> (simp [dmC]; omega)
  · refine Or.inl ?_
    unfold dmC at h ⊢
    rw [e0, e9] at h
    simp only [show ¬ g = 8 from by omega, show ¬ g = 24 from by omega, show ¬ g = 25 from by omega, show ¬ g = 26 from by omega, show ¬ g = 27 from by omega, if_false] at h ⊢
    exact h
theorem dv7 {S : Sx} {P g i : Nat} (hP : S.1 7 0 = P) (h : dmV (setN S 7 0 (P + 1)) g i) : dmV S g i ∨ ((g = 7 ∨ g = 8) ∧ i = P) ∨ (g = 9 ∧ i / 4 = P) := by
  have e9 : (setN S 7 0 (P + 1)).1 9 = S.1 9 := setN_ne (by decide)
  have e39 : (setN S 7 0 (P + 1)).1 39 = S.1 39 := setN_ne (by decide)
  have e7 : (setN S 7 0 (P + 1)).1 7 0 = P + 1 := by rw [setN_at, if_pos ⟨rfl, rfl⟩]
  by_cases hg : g = 7 ∨ g = 8
  · have : i < P + 1 := by
      rcases hg with rfl | rfl <;> (simp only [dmV] at h; rw [e7] at h; simpa using h)
    by_cases hi : i = P
    · exact Or.inr (Or.inl ⟨hg, hi⟩)
    · refine Or.inl ?_
      rcases hg with rfl | rfl <;> (simp [dmV]; omega)
  · by_cases h9 : g = 9
    · subst h9
      have : i < 4 * (P + 1) := by simp only [dmV] at h; rw [e7] at h; simpa using h
      by_cases hi : i / 4 = P
      · exact Or.inr (Or.inr ⟨rfl, hi⟩)
      · refine Or.inl ?_
        simp [dmV]; omega
    · refine Or.inl ?_
      unfold dmV at h ⊢
      rw [e9, e39] at h
      simp only [show ¬ g = 7 from by omega, show ¬ g = 8 from by omega, h9, if_false] at h ⊢
      exact h
theorem sz7 {i : Nat} (h : i < szC 7) : i = 0 := by simp [szC] at h; exact h
theorem sz9 {i : Nat} (h : i < szC 9) : i = 0 := by simp [szC] at h; exact h
theorem RepC.ext7 {b : Nat} {σ : Mm} {S : Sx} {Tf : Nat → Nat} (h : RepC b σ S Tf) (hb : mch b) (hB : Bd S) {P : Nat} (hP : S.1 7 0 = P) (h20 : P < 20) (hz : S.1 27 P = 0)
    (f2 : σ.1 (b + 18 + 3 * P) 2 = nI (S.1 8 P)) (f3 : σ.1 (b + 18 + 3 * P) 3 = lzC (S.1 24 P)) (f4 : σ.1 (b + 18 + 3 * P) 4 = nI (S.1 25 P)) (f5 : σ.1 (b + 18 + 3 * P) 5 = nI (S.1 27 P)) (f6 : σ.1 (b + 18 + 3 * P) 6 = S.2.1 7 P) (f7 : σ.1 (b + 18 + 3 * P) 7 = S.2.1 8 P) (f8 : σ.1 (b + 18 + 3 * P) 8 = nI (S.1 26 P)) (fc : ∀ c, c < 4 → σ.1 (b + 19 + 3 * P) c = S.2.1 9 (4 * P + c)) : RepC b (wI σ b 10 (nI (P + 1))) (setN S 7 0 (P + 1)) Tf := by
  obtain ⟨h1, h2, h3, h4, h5⟩ := h
  refine ⟨fun g i hi hd => ?_, fun g i hi hd => ?_, fun q k hq hk => ?_, fun a ha => ?_, fun a ha => ?_⟩
  · by_cases e7 : g = 7
    · subst e7
      have := sz7 hi
      subst this
      rw [setN_at, if_pos ⟨rfl, rfl⟩]
      show (wI σ b 10 (nI (P + 1))).1 b 10 = nI (P + 1)
      rw [wI_at, if_pos ⟨rfl, rfl⟩]
    · rw [wI_at, if_neg (fun z => by
        have q := inv_N hb hi
        rw [z.1, z.2, inv_b10 hb] at q
        exact e7 (Prod.mk.inj q).1.symm), setN_ne e7]
      rcases dm7 hP hd with hd | ⟨hg, rfl⟩
      · exact h1 g i hi hd
      · rcases hg with rfl | rfl | rfl | rfl | rfl
        · exact f2
        · exact f3
        · exact f4
        · exact f8
        · exact f5
  · rw [wI_at, if_neg (fun z => by
      have q := inv_V hb hi
      rw [z.1, z.2, inv_b10 hb] at q
      have := (Prod.mk.inj q).1
      omega)]
    rcases dv7 hP hd with hd | ⟨hg, rfl⟩ | ⟨rfl, e4⟩
    · exact h2 g i hi hd
    · rcases hg with rfl | rfl
      · exact f6
      · exact f7
    · have q := fc (i % 4) (by omega)
      rw [← e4, show 4 * (i / 4) + i % 4 = i from by omega] at q
      exact q
  · rw [setN_at, if_pos ⟨rfl, rfl⟩] at hq
    rw [setN_ne (by decide)] at hk
    rw [setN_ne (by decide), setN_ne (by decide), wI_at, if_neg (by omega)]
    rcases Nat.lt_or_ge q P with z | z
    · exact h3 q k (by omega) hk
    · have : q = P := by omega
      subst this
      omega
  · rw [wI_at, if_neg (by omega)]; exact h4 a ha
  · obtain ⟨q1, q2, q3⟩ := h5 a ha
    refine ⟨q1, ?_, fun i hi => ?_⟩
    · rw [wI_at, if_neg (by omega)]; exact q2
    · rw [wI_at, if_neg (by omega)]; exact q3 i hi
theorem dm9 {S : Sx} {P g i : Nat} (hP : S.1 9 0 = P) (h : dmC (setN S 9 0 (P + 1)) g i) : dmC S g i ∨ ((g = 29 ∨ g = 30 ∨ g = 31 ∨ g = 32) ∧ i = P) := by
  have e0 : (setN S 9 0 (P + 1)).1 0 = S.1 0 := setN_ne (by decide)
  have e9 : (setN S 9 0 (P + 1)).1 7 = S.1 7 := setN_ne (by decide)
  have e7 : (setN S 9 0 (P + 1)).1 9 0 = P + 1 := by rw [setN_at, if_pos ⟨rfl, rfl⟩]
  by_cases hg : g = 29 ∨ g = 30 ∨ g = 31 ∨ g = 32
  · have : i < P + 1 := by
      rcases hg with rfl | rfl | rfl | rfl <;> (simp only [dmC] at h; rw [e7] at h; simpa using h)
    by_cases hi : i = P
    · exact Or.inr ⟨hg, hi⟩
    · refine Or.inl ?_
      rcases hg with rfl | rfl | rfl | rfl <;> (simp [dmC]; omega)
  · refine Or.inl ?_
    unfold dmC at h ⊢
    rw [e0, e9] at h
    simp only [show ¬ g = 29 from by omega, show ¬ g = 30 from by omega, show ¬ g = 31 from by omega, show ¬ g = 32 from by omega, if_false] at h ⊢
    exact h
theorem dv9 {S : Sx} {P g i : Nat} (hP : S.1 9 0 = P) (h : dmV (setN S 9 0 (P + 1)) g i) : dmV S g i ∨ ((g = 10 ∨ g = 11 ∨ g = 12) ∧ i = P) := by
  have e9 : (setN S 9 0 (P + 1)).1 7 = S.1 7 := setN_ne (by decide)
  have e39 : (setN S 9 0 (P + 1)).1 39 = S.1 39 := setN_ne (by decide)
  have e7 : (setN S 9 0 (P + 1)).1 9 0 = P + 1 := by rw [setN_at, if_pos ⟨rfl, rfl⟩]
  by_cases hg : g = 10 ∨ g = 11 ∨ g = 12
  · have : i < P + 1 := by
      rcases hg with rfl | rfl | rfl <;> (simp only [dmV] at h; rw [e7] at h; simpa using h)
    by_cases hi : i = P
    · exact Or.inr ⟨hg, hi⟩
    · refine Or.inl ?_
      rcases hg with rfl | rfl | rfl <;> (simp [dmV]; omega)
  · refine Or.inl ?_
    unfold dmV at h ⊢
    rw [e9, e39] at h
    simp only [show ¬ g = 10 from by omega, show ¬ g = 11 from by omega, show ¬ g = 12 from by omega, if_false] at h ⊢
    exact h
theorem RepC.ext9 {b : Nat} {σ : Mm} {S : Sx} {Tf : Nat → Nat} (h : RepC b σ S Tf) (hb : mch b) (hB : Bd S) {P : Nat} (hP : S.1 9 0 = P) (h20 : P < 10)
    (f1 : σ.1 (b + 78 + P) 1 = nI (S.1 29 P)) (f2 : σ.1 (b + 78 + P) 2 = nI (S.1 30 P)) (f3 : σ.1 (b + 78 + P) 3 = nI (S.1 31 P)) (f7 : σ.1 (b + 78 + P) 7 = nI (S.1 32 P)) (f4 : σ.1 (b + 78 + P) 4 = S.2.1 10 P) (f5 : σ.1 (b + 78 + P) 5 = S.2.1 11 P) (f6 : σ.1 (b + 78 + P) 6 = S.2.1 12 P) : RepC b (wI σ b 11 (nI (P + 1))) (setN S 9 0 (P + 1)) Tf := by
  obtain ⟨h1, h2, h3, h4, h5⟩ := h
  refine ⟨fun g i hi hd => ?_, fun g i hi hd => ?_, fun q k hq hk => ?_, fun a ha => ?_, fun a ha => ?_⟩
  · by_cases e7 : g = 9
    · subst e7
      have := sz9 hi
      subst this
      rw [setN_at, if_pos ⟨rfl, rfl⟩]
      show (wI σ b 11 (nI (P + 1))).1 b 11 = nI (P + 1)
      rw [wI_at, if_pos ⟨rfl, rfl⟩]
    · rw [wI_at, if_neg (fun z => by
        have q := inv_N hb hi
        rw [z.1, z.2, inv_b11 hb] at q
        exact e7 (Prod.mk.inj q).1.symm), setN_ne e7]
      rcases dm9 hP hd with hd | ⟨hg, rfl⟩
      · exact h1 g i hi hd
      · rcases hg with rfl | rfl | rfl | rfl
        · exact f1
        · exact f2
        · exact f3
        · exact f7
  · rw [wI_at, if_neg (fun z => by
      have q := inv_V hb hi
      rw [z.1, z.2, inv_b11 hb] at q
      have := (Prod.mk.inj q).1
      omega)]
    rcases dv9 hP hd with hd | ⟨hg, rfl⟩
    · exact h2 g i hi hd
    · rcases hg with rfl | rfl | rfl
      · exact f4
      · exact f5
      · exact f6
  · rw [setN_ne (by decide)] at hq hk
    rw [setN_ne (by decide), setN_ne (by decide), wI_at, if_neg (by omega)]
    exact h3 q k hq hk
  · rw [wI_at, if_neg (by omega)]; exact h4 a ha
  · obtain ⟨q1, q2, q3⟩ := h5 a ha
    refine ⟨q1, ?_, fun i hi => ?_⟩
    · rw [wI_at, if_neg (by omega)]; exact q2
    · rw [wI_at, if_neg (by omega)]; exact q3 i hi
def begP (σ : Mm) (b p k : Nat) : Mm := wI (wI (wI (wI (wI (wI (wI (flI σ (b + 19 + 3 * p) 4 (nI 0)) (b + 18 + 3 * p) 2 (nI k)) (b + 18 + 3 * p) 3 (-1)) (b + 18 + 3 * p) 4 (nI 0)) (b + 18 + 3 * p) 5 (nI 0)) (b + 18 + 3 * p) 6 (nI 0)) (b + 18 + 3 * p) 7 (nI 0)) (b + 18 + 3 * p) 8 (nI 0)
def cl0 (S : Sx) (p : Nat) : Sx := setV (setV (setV (setV S 9 (4 * p) (nI 0)) 9 (4 * p + 1) (nI 0)) 9 (4 * p + 2) (nI 0)) 9 (4 * p + 3) (nI 0)
def bgS (S : Sx) (p k : Nat) : Sx := setN (setV (setV (setN (setN (setN (setN (cl0 S p) 8 p k) 24 p 0) 25 p 0) 27 p 0) 7 p (nI 0)) 8 p (nI 0)) 26 p 0
def pgS (S : Sx) (k : Nat) : Sx := setN (bgS S (S.1 7 0) k) 7 0 (S.1 7 0 + 1)
theorem begP_o {σ : Mm} {b p k a : Nat} (h1 : a ≠ b + 18 + 3 * p) (h2 : a ≠ b + 19 + 3 * p) : (begP σ b p k).1 a = σ.1 a := by
  funext j
  unfold begP
  simp only [wI_at, flI_at, h1, h2, false_and, if_false]
theorem begP_2 {σ : Mm} {b p k : Nat} : (begP σ b p k).2 = σ.2 := rfl
theorem Bd_bg {S : Sx} {p k : Nat} (hB : Bd S) (hk : k ≤ 3) : Bd (bgS S p k) := Bd_setN (Bd_setV (Bd_setV (Bd_setN (Bd_setN (Bd_setN (Bd_setN (Bd_setV (Bd_setV (Bd_setV (Bd_setV hB)))) hk) (Nat.zero_le _)) (Nat.zero_le _)) (Nat.zero_le _)))) (Nat.zero_le _)
theorem DV_c4 {b : Nat} {σ0 σ : Mm} {S : Sx} {Tf : Nat → Nat} {At : Nat → Int32} (h : Cq b σ0 S Tf At σ) (hb : mch b) (hB : Bd S) {p c : Nat} (hp : p < 20) (hc : c < 4) {v : Int32} : Cq b σ0 (setV S 9 (4 * p + c) v) Tf At (wI σ (b + 19 + 3 * p) c v) := D_cellx h hb hB hp hc
theorem Cq.fm {b : Nat} {σ0 σ : Mm} {S : Sx} {Tf : Nat → Nat} {At : Nat → Int32} (h : Cq b σ0 S Tf At σ) (hb : mch b) (hB : Bd S) {p v : Nat} (hp : S.1 7 0 ≤ p) (h20 : p < 20) : Cq b σ0 (setN S 27 p v) Tf At (wI σ (b + 18 + 3 * p) 5 (nI v)) :=
  ⟨h.1.fm hb hB hp h20, h.2.1.wI (by omega) (by omega), (show (wI σ (b + 18 + 3 * p) 5 (nI v)).1 (b + 5) = At from by
    have e : (wI σ (b + 18 + 3 * p) 5 (nI v)).1 (b + 5) = σ.1 (b + 5) := if_neg (by omega)
    rw [e]; exact h.2.2)⟩
theorem beg_cq {b : Nat} {σ0 σ : Mm} {S : Sx} {Tf : Nat → Nat} {At : Nat → Int32} (h : Cq b σ0 S Tf At σ) (hb : mch b) (hB : Bd S) {p k : Nat} (hp : S.1 7 0 ≤ p) (h20 : p < 20) (hk : k ≤ 3) : Cq b σ0 (bgS S p k) Tf At (begP σ b p k) := by
  have c0 := DV_c4 (v := nI 0) h hb hB h20 (show 0 < 4 by decide)
  have c1 := DV_c4 (v := nI 0) c0 hb hB h20 (show 1 < 4 by decide)
  have c2 := DV_c4 (v := nI 0) c1 hb hB h20 (show 2 < 4 by decide)
  have c3 := DV_c4 (v := nI 0) c2 hb hB h20 (show 3 < 4 by decide)
  have ef : flI σ (b + 19 + 3 * p) 4 (nI 0) = wI (wI (wI (wI σ (b + 19 + 3 * p) 0 (nI 0)) (b + 19 + 3 * p) 1 (nI 0)) (b + 19 + 3 * p) 2 (nI 0)) (b + 19 + 3 * p) 3 (nI 0) := by
    rw [← flI_s, ← flI_s, ← flI_s, ← flI_s, flI_0]
  rw [← ef] at c3
  have b1 : Bd (cl0 S p) := Bd_setV (Bd_setV (Bd_setV (Bd_setV hB)))
  have d1 := D_kind (v := k) c3 hb b1 h20
  have b2 : Bd (setN (cl0 S p) 8 p k) := Bd_setN b1 hk
  have d2 := D_lies (v := 0) d1 hb b2 h20
  have b3 := Bd_setN (g := 24) (i := p) (v := 0) b2 (Nat.zero_le _)
  have d3 := D_copies (v := 0) d2 hb b3 h20
  have b4 := Bd_setN (g := 25) (i := p) (v := 0) b3 (Nat.zero_le _)
  have d4 := Cq.fm (v := 0) d3 hb b4 (p := p) (by rw [setN_ne (by decide), setN_ne (by decide), setN_ne (by decide)]; exact hp) h20
  have b5 := Bd_setN (g := 27) (i := p) (v := 0) b4 (Nat.zero_le _)
  have d5 := DV_moved (v := nI 0) d4 hb b5 h20
  have d6 := DV_pageBill (v := nI 0) d5 hb b5 h20
  exact D_hidden (v := 0) d6 hb b5 h20
theorem r_begP {σ : Mm} {b p k : Nat} (hb : mch b) (h20 : p < 20) : RV W0 mX4_begin [.ref (b + 18 + 3 * p), .int (nI k)] σ (fun τ => τ = begP σ b p k) := by
  refine G.met (by decide) (Nat.le_of_ble_eq_true rfl) ?_
  show G _ _ _ 0 [some (.ref (b + 18 + 3 * p)), some (.int (nI k))] [] σ
  refine gs_aload_n dX4_begin_0 rfl rfl ?_
  refine g_getR dX4_begin_1 fX4_9 (kPg hb h20) (by decide) (rPg_cells hb h20) ?_
  refine g_iconst (v := nI 0) dX4_begin_4 (by decide) ?_
  refine g_cSV2 dX4_begin_5 vX4_22 (by decide) (Nat.le_of_ble_eq_true rfl) (s_fill (kPg_cells hb h20) (by decide)) ?_
  rintro _ rfl
  refine gs_aload_n dX4_begin_8 rfl rfl ?_
  refine gs_iload_n dX4_begin_9 rfl rfl ?_
  refine g_putI dX4_begin_10 pX4_28 (kPg hb h20) (by decide) (Or.inl rfl) ?_
  refine gs_aload_n dX4_begin_13 rfl rfl ?_
  refine g_iconst (v := -1) dX4_begin_14 (by decide) ?_
  refine g_putI dX4_begin_15 pX4_18 (kPg hb h20) (by decide) (Or.inl rfl) ?_
  refine gs_aload_n dX4_begin_18 rfl rfl ?_
  refine g_iconst (v := nI 0) dX4_begin_19 (by decide) ?_
  refine g_putI dX4_begin_20 pX4_31 (kPg hb h20) (by decide) (Or.inl rfl) ?_
  refine gs_aload_n dX4_begin_23 rfl rfl ?_
  refine g_iconst (v := nI 0) dX4_begin_24 (by decide) ?_
  refine g_putI dX4_begin_25 pX4_34 (kPg hb h20) (by decide) (Or.inl rfl) ?_
  refine gs_aload_n dX4_begin_28 rfl rfl ?_
  refine g_iconst (v := nI 0) dX4_begin_29 (by decide) ?_
  refine g_putI dX4_begin_30 pX4_37 (kPg hb h20) (by decide) (Or.inl rfl) ?_
  refine gs_aload_n dX4_begin_33 rfl rfl ?_
  refine g_iconst (v := nI 0) dX4_begin_34 (by decide) ?_
  refine g_putI dX4_begin_35 pX4_40 (kPg hb h20) (by decide) (Or.inl rfl) ?_
  refine gs_aload_n dX4_begin_38 rfl rfl ?_
  refine g_iconst (v := nI 0) dX4_begin_39 (by decide) ?_
  refine g_putI dX4_begin_40 pX4_43 (kPg hb h20) (by decide) (Or.inr ⟨rfl, by first | exact bI_01 _ | decide⟩) ?_
  refine g_return dX4_begin_43 rfl ?_
  exact ⟨rfl, rfl⟩
theorem c_addPage {b : Nat} {σ : Mm} {S : Sx} {Tf : Nat → Nat} (hb : mch b) (hR : RepC b σ S Tf) (hB : Bd S) {k : Nat} (hk : k ≤ 3) (hP : S.1 7 0 < 20) : RI W0 mX3_addPage [.ref b, .int (nI k)] σ (fun r τ => r = nI (S.1 7 0) ∧ Cq b σ (pgS S k) Tf (σ.1 (b + 5)) τ) := by
  have hQ := beg_cq (Cq.rf hR) hb hB (p := S.1 7 0) (k := k) (Nat.le_refl _) hP hk
  refine G.met (by decide) (Nat.le_of_ble_eq_true rfl) ?_
  show G _ _ _ 0 [some (.ref b), some (.int (nI k)), none] [] σ
  refine gs_aload_n dX3_addPage_0 rfl rfl ?_
  refine g_getI dX3_addPage_1 fX3_91 (kMa hb) (by decide) (C_P hR) ?_
  refine gs_istore_n (ls' := [_, _, _]) dX3_addPage_4 rfl rfl rfl ?_
  refine gs_aload_n dX3_addPage_5 rfl rfl ?_
  refine g_getR dX3_addPage_6 fX3_34 (kMa hb) (by decide) (rMa_pages hb) ?_
  refine gs_iload_n dX3_addPage_9 rfl rfl ?_
  refine g_aald24 dX3_addPage_10 (kMa_pages hb) hP (rPs hb hP) ?_
  refine gs_iload_n dX3_addPage_11 rfl rfl ?_
  refine g_cVV1 dX3_addPage_12 vX3_142 (by decide) (kPg hb hP) (by decide) (Nat.le_of_ble_eq_true rfl) (r_begP hb hP) ?_
  rintro _ rfl
  refine gs_aload_n dX3_addPage_15 rfl rfl ?_
  refine g_dup dX3_addPage_16 rfl ?_
  refine g_getI dX3_addPage_17 fX3_91 (kMa hb) (by decide) (show (begP σ b (S.1 7 0) k).1 b 10 = nI (S.1 7 0) from by rw [begP_o (by omega) (by omega)]; exact C_P hR) ?_
  refine g_iconst (v := nI 1) dX3_addPage_20 (by decide) ?_
  refine g_iadd dX3_addPage_21 (by first | exact nI_add _ _ | rfl) ?_
  refine g_putI dX3_addPage_22 pX3_91 (kMa hb) (by decide) (Or.inl rfl) ?_
  refine gs_iload_n dX3_addPage_25 rfl rfl ?_
  refine g_ireturn dX3_addPage_26 rfl ?_
  refine ⟨_, rfl, rfl, ?_⟩
  have e7 : (bgS S (S.1 7 0) k).1 7 0 = S.1 7 0 := by simp [bgS, cl0, setN_at, setV_1]
  refine ⟨RepC.ext7 hQ.1 hb (Bd_bg hB hk) e7 hP ?_ ?_ ?_ ?_ ?_ ?_ ?_ ?_ ?_, hQ.2.1.wI (by omega) (by omega), ?_⟩
  · simp [bgS, setN_at, setV_1]
  · simp [begP, bgS, wI_at, setN_at, setV_1]
  · simp [begP, bgS, wI_at, setN_at, setV_1, lzC]
  · simp [begP, bgS, wI_at, setN_at, setV_1]
  · simp [begP, bgS, wI_at, setN_at, setV_1]
  · simp [begP, bgS, wI_at, setV_at, setN_2]
  · simp [begP, bgS, wI_at, setV_at, setN_2]
  · simp [begP, bgS, wI_at, setN_at, setV_1]
  · intro c hc
    rcases (show c = 0 ∨ c = 1 ∨ c = 2 ∨ c = 3 from by omega) with rfl | rfl | rfl | rfl <;> simp [begP, bgS, cl0, wI_at, flI_at, setV_at, setN_2]
  · have e : (wI (begP σ b (S.1 7 0) k) b 10 (nI (S.1 7 0 + 1))).1 (b + 5) = (begP σ b (S.1 7 0) k).1 (b + 5) := if_neg (by omega)
    rw [e, begP_o (by omega) (by omega)]
theorem c_append2 {b : Nat} {σ : Mm} {S : Sx} {Tf : Nat → Nat} (hb : mch b) (hR : RepC b σ S Tf) (hB : Bd S) {a t : Nat} (ha : a < 4) (hl : (S.2.2 a).length < 10) : RV W0 mX5_append [.ref (b + 1), .int (nI a), .int (nI t)] σ (fun τ => Cq b σ (setQ S a (S.2.2 a ++ [t])) Tf (σ.1 (b + 5)) τ ∧ ∀ x, x ≠ b + 2 → x ≠ b + 3 → τ.1 x = σ.1 x) := by
  have hsz := (hR.2.2.2.2 a ha).2.1
  refine G.met (by decide) (Nat.le_of_ble_eq_true rfl) ?_
  show G _ _ _ 0 [some (.ref (b + 1)), some (.int (nI a)), some (.int (nI t))] [] σ
  refine gs_aload_n dX5_append_0 rfl rfl ?_
  refine g_getR dX5_append_1 fX5_9 (kMa_queues hb) (by decide) (rQu_order hb) ?_
  refine gs_iload_n dX5_append_4 rfl rfl ?_
  refine g_bipush (v := nI 10) dX5_append_5 (by decide) ?_
  refine g_imul dX5_append_7 (by first | exact pk_mul _ _ | rfl) ?_
  refine gs_aload_n dX5_append_8 rfl rfl ?_
  refine g_getR dX5_append_9 fX5_15 (kMa_queues hb) (by decide) (rQu_size hb) ?_
  refine gs_iload_n dX5_append_12 rfl rfl ?_
  refine g_iald dX5_append_13 (kQu_size hb) ha hsz ?_
  refine g_iadd dX5_append_14 (by first | exact nI_add _ _ | rfl) ?_
  refine gs_iload_n dX5_append_15 rfl rfl ?_
  refine g_iast dX5_append_16 (kQu_order hb) (by omega) ?_
  refine gs_aload_n dX5_append_17 rfl rfl ?_
  refine g_getR dX5_append_18 fX5_15 (kMa_queues hb) (by decide) (rQu_size hb) ?_
  refine gs_iload_n dX5_append_21 rfl rfl ?_
  refine g_dup2 dX5_append_22 rfl rfl ?_
  refine g_iald dX5_append_23 (kQu_size hb) ha (show _ = nI (S.2.2 a).length from by rw [wI_at, if_neg (by omega)]; exact hsz) ?_
  refine g_iconst (v := nI 1) dX5_append_24 (by decide) ?_
  refine g_iadd dX5_append_25 (by first | exact nI_add _ _ | rfl) ?_
  refine g_iast dX5_append_26 (kQu_size hb) ha ?_
  refine g_return dX5_append_27 rfl ?_
  refine ⟨rfl, (Cq.rf hR).q hb hB (fun x h1 h2 => ?_) (by rfl) ?_, fun x h1 h2 => ?_⟩
  · funext j
    rw [wI_at, if_neg (by omega), wI_at, if_neg (by omega)]
  · intro a' ha'
    obtain ⟨q1, q2, q3⟩ := hR.2.2.2.2 a' ha'
    show ((if a' = a then S.2.2 a ++ [t] else S.2.2 a').length ≤ 10) ∧ _
    by_cases e : a' = a
    · subst e
      rw [if_pos rfl]
      refine ⟨by simp only [List.length_append, List.length_cons, List.length_nil]; omega, ?_, fun i hi => ?_⟩
      · show _ = nI (if a' = a' then S.2.2 a' ++ [t] else S.2.2 a').length
        rw [if_pos rfl, wI_at, if_pos ⟨rfl, rfl⟩, List.length_append]; rfl
      · have hi : i < (if a' = a' then S.2.2 a' ++ [t] else S.2.2 a').length := hi
        rw [if_pos rfl] at hi
        show _ = nI ((if a' = a' then S.2.2 a' ++ [t] else S.2.2 a').getD i 0)
        rw [if_pos rfl, getD_app hi, wI_at, if_neg (by omega), wI_at]
        by_cases ei : i = (S.2.2 a').length
        · rw [if_pos ⟨rfl, by omega⟩, if_pos ei]
        · rw [if_neg (by omega), if_neg ei]
          exact q3 i (by simp only [List.length_append, List.length_cons, List.length_nil] at hi; omega)
    · rw [if_neg e]
      refine ⟨q1, ?_, fun i hi => ?_⟩
      · show _ = nI (if a' = a then S.2.2 a ++ [t] else S.2.2 a').length
        rw [if_neg e, wI_at, if_neg (by omega), wI_at, if_neg (by omega)]; exact q2
      · have hi : i < (if a' = a then S.2.2 a ++ [t] else S.2.2 a').length := hi
        rw [if_neg e] at hi
        show _ = nI ((if a' = a then S.2.2 a ++ [t] else S.2.2 a').getD i 0)
        rw [if_neg e, wI_at, if_neg (by omega), wI_at, if_neg (by omega)]; exact q3 i hi
  · funext j
    rw [wI_at, if_neg (by omega), wI_at, if_neg (by omega)]
def begW (σ : Mm) (b t a : Nat) : Mm := wI (wI (wI (wI (wI (wI (wI σ (b + 78 + t) 1 (nI a)) (b + 78 + t) 2 (nI 0)) (b + 78 + t) 3 (nI 0)) (b + 78 + t) 4 (nI 0)) (b + 78 + t) 5 (nI 0)) (b + 78 + t) 6 (nI 0)) (b + 78 + t) 7 (nI 0)
def bwS (S : Sx) (t a : Nat) : Sx := setN (setV (setV (setV (setN (setN (setN S 29 t a) 30 t 0) 31 t 0) 10 t (nI 0)) 11 t (nI 0)) 12 t (nI 0)) 32 t 0
def wkS (S : Sx) (a : Nat) : Sx := setN (setQ (bwS S (S.1 9 0) a) a (S.2.2 a ++ [S.1 9 0])) 9 0 (S.1 9 0 + 1)
theorem begW_o {σ : Mm} {b t a x : Nat} (h1 : x ≠ b + 78 + t) : (begW σ b t a).1 x = σ.1 x := by
  funext j
  unfold begW
  simp only [wI_at, h1, false_and, if_false]
theorem Bd_bw {S : Sx} {t a : Nat} (hB : Bd S) (ha : a ≤ 3) : Bd (bwS S t a) := Bd_setN (Bd_setV (Bd_setV (Bd_setV (Bd_setN (Bd_setN (Bd_setN hB ha) (Nat.zero_le _)) (Nat.zero_le _))))) (Nat.zero_le _)
theorem begw_cq {b : Nat} {σ0 σ : Mm} {S : Sx} {Tf : Nat → Nat} {At : Nat → Int32} (h : Cq b σ0 S Tf At σ) (hb : mch b) (hB : Bd S) {t a : Nat} (h10 : t < 10) (ha : a ≤ 3) : Cq b σ0 (bwS S t a) Tf At (begW σ b t a) := by
  have d1 := D_at (v := a) h hb hB h10
  have b1 : Bd (setN S 29 t a) := Bd_setN hB ha
  have d2 := D_next (v := 0) d1 hb b1 h10
  have b2 := Bd_setN (g := 30) (i := t) (v := 0) b1 (Nat.zero_le _)
  have d3 := D_toGo (v := 0) d2 hb b2 h10
  have b3 := Bd_setN (g := 31) (i := t) (v := 0) b2 (Nat.zero_le _)
  have d4 := DV_waits (v := nI 0) d3 hb b3 h10
  have d5 := DV_threadBill (v := nI 0) d4 hb b3 h10
  have d6 := DV_lastRead (v := nI 0) d5 hb b3 h10
  exact D_ended (v := 0) d6 hb b3 h10
theorem r_begW {σ : Mm} {b t a : Nat} (hb : mch b) (h10 : t < 10) : RV W0 mX10_begin [.ref (b + 78 + t), .int (nI a)] σ (fun τ => τ = begW σ b t a) := by
  refine G.met (by decide) (Nat.le_of_ble_eq_true rfl) ?_
  show G _ _ _ 0 [some (.ref (b + 78 + t)), some (.int (nI a))] [] σ
  refine gs_aload_n dX10_begin_0 rfl rfl ?_
  refine gs_iload_n dX10_begin_1 rfl rfl ?_
  refine g_putI dX10_begin_2 pX10_13 (kWk hb h10) (by decide) (Or.inl rfl) ?_
  refine gs_aload_n dX10_begin_5 rfl rfl ?_
  refine g_iconst (v := nI 0) dX10_begin_6 (by decide) ?_
  refine g_putI dX10_begin_7 pX10_17 (kWk hb h10) (by decide) (Or.inl rfl) ?_
  refine gs_aload_n dX10_begin_10 rfl rfl ?_
  refine g_iconst (v := nI 0) dX10_begin_11 (by decide) ?_
  refine g_putI dX10_begin_12 pX10_20 (kWk hb h10) (by decide) (Or.inl rfl) ?_
  refine gs_aload_n dX10_begin_15 rfl rfl ?_
  refine g_iconst (v := nI 0) dX10_begin_16 (by decide) ?_
  refine g_putI dX10_begin_17 pX10_23 (kWk hb h10) (by decide) (Or.inl rfl) ?_
  refine gs_aload_n dX10_begin_20 rfl rfl ?_
  refine g_iconst (v := nI 0) dX10_begin_21 (by decide) ?_
  refine g_putI dX10_begin_22 pX10_26 (kWk hb h10) (by decide) (Or.inl rfl) ?_
  refine gs_aload_n dX10_begin_25 rfl rfl ?_
  refine g_iconst (v := nI 0) dX10_begin_26 (by decide) ?_
  refine g_putI dX10_begin_27 pX10_29 (kWk hb h10) (by decide) (Or.inl rfl) ?_
  refine gs_aload_n dX10_begin_30 rfl rfl ?_
  refine g_iconst (v := nI 0) dX10_begin_31 (by decide) ?_
  refine g_putI dX10_begin_32 pX10_32 (kWk hb h10) (by decide) (Or.inr ⟨rfl, by first | exact bI_01 _ | decide⟩) ?_
  refine g_return dX10_begin_35 rfl ?_
  exact ⟨rfl, rfl⟩
theorem c_addWorker {b : Nat} {σ : Mm} {S : Sx} {Tf : Nat → Nat} (hb : mch b) (hR : RepC b σ S Tf) (hB : Bd S) {a : Nat} (ha : a < 4) (hT : S.1 9 0 < 10) (hl : (S.2.2 a).length < 10) : RI W0 mX3_addWorker [.ref b, .int (nI a)] σ (fun r τ => r = nI (S.1 9 0) ∧ Cq b σ (wkS S a) Tf (σ.1 (b + 5)) τ) := by
  have hQ := begw_cq (Cq.rf hR) hb hB (t := S.1 9 0) (a := a) hT (by omega)
  have hBw : Bd (bwS S (S.1 9 0) a) := Bd_bw hB (by omega)
  refine G.met (by decide) (Nat.le_of_ble_eq_true rfl) ?_
  show G _ _ _ 0 [some (.ref b), some (.int (nI a)), none] [] σ
  refine gs_aload_n dX3_addWorker_0 rfl rfl ?_
  refine g_getI dX3_addWorker_1 fX3_94 (kMa hb) (by decide) (C_T hR) ?_
  refine gs_istore_n (ls' := [_, _, _]) dX3_addWorker_4 rfl rfl rfl ?_
  refine gs_aload_n dX3_addWorker_5 rfl rfl ?_
  refine g_getR dX3_addWorker_6 fX3_40 (kMa hb) (by decide) (rMa_workers hb) ?_
  refine gs_iload_n dX3_addWorker_9 rfl rfl ?_
  refine g_aald27 dX3_addWorker_10 (kMa_workers hb) hT (rWs hb hT) ?_
  refine gs_iload_n dX3_addWorker_11 rfl rfl ?_
  refine g_cVV1 dX3_addWorker_12 vX3_144 (by decide) (kWk hb hT) (by decide) (Nat.le_of_ble_eq_true rfl) (r_begW hb hT) ?_
  rintro _ rfl
  refine gs_aload_n dX3_addWorker_15 rfl rfl ?_
  refine g_getR dX3_addWorker_16 fX3_12 (kMa hb) (by decide) (rMa_queues hb) ?_
  refine gs_iload_n dX3_addWorker_19 rfl rfl ?_
  refine gs_iload_n dX3_addWorker_20 rfl rfl ?_
  refine g_cVV2 dX3_addWorker_21 vX3_145 (by decide) (kMa_queues hb) (by decide) (Nat.le_of_ble_eq_true rfl) (c_append2 hb hQ.1 hBw ha (t := S.1 9 0) hl) ?_
  rintro σ2 ⟨hQ9, hfr⟩
  have hQ2 := hQ.tr hQ9
  have e9 : (bwS S (S.1 9 0) a).1 9 0 = S.1 9 0 := by simp [bwS, setN_at, setV_1]
  refine gs_aload_n dX3_addWorker_24 rfl rfl ?_
  refine g_dup dX3_addWorker_25 rfl ?_
  refine g_getI dX3_addWorker_26 fX3_94 (kMa hb) (by decide) (show σ2.1 b 11 = nI (S.1 9 0) from by rw [hfr b (by omega) (by omega), begW_o (by omega)]; exact C_T hR) ?_
  refine g_iconst (v := nI 1) dX3_addWorker_29 (by decide) ?_
  refine g_iadd dX3_addWorker_30 (by first | exact nI_add _ _ | rfl) ?_
  refine g_putI dX3_addWorker_31 pX3_94 (kMa hb) (by decide) (Or.inl rfl) ?_
  refine gs_iload_n dX3_addWorker_34 rfl rfl ?_
  refine g_ireturn dX3_addWorker_35 rfl ?_
  refine ⟨_, rfl, rfl, ?_⟩
  have hw := hfr (b + 78 + S.1 9 0) (by omega) (by omega)
  refine ⟨RepC.ext9 (S := setQ (bwS S (S.1 9 0) a) a (S.2.2 a ++ [S.1 9 0])) hQ2.1 hb hBw e9 hT ?_ ?_ ?_ ?_ ?_ ?_ ?_, hQ2.2.1.wI (by omega) (by omega), ?_⟩
  · rw [hw]; simp [begW, bwS, setQ, wI_at, setN_at, setV_1]
  · rw [hw]; simp [begW, bwS, setQ, wI_at, setN_at, setV_1]
  · rw [hw]; simp [begW, bwS, setQ, wI_at, setN_at, setV_1]
  · rw [hw]; simp [begW, bwS, setQ, wI_at, setN_at, setV_1]
  · rw [hw]; simp [begW, bwS, setQ, wI_at, setV_at, setN_2]
  · rw [hw]; simp [begW, bwS, setQ, wI_at, setV_at, setN_2]
  · rw [hw]; simp [begW, bwS, setQ, wI_at, setV_at, setN_2]
  · have e : (wI σ2 b 11 (nI (S.1 9 0 + 1))).1 (b + 5) = σ2.1 (b + 5) := if_neg (by omega)
    rw [e, hfr (b + 5) (by omega) (by omega), begW_o (by omega)]
