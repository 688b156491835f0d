/-! System.arraycopy over the judgement; shelves. -/
theorem acSt : Cond.static arraycopyName ∈ tbG := tbG_at 991 (by decide +kernel) (by decide +kernel)
theorem acN : Cond.native arraycopyName ∈ tbG := tbG_at 992 (by decide +kernel) (by decide +kernel)
theorem acI : Cond.initialized "java/lang/System" ∈ tbG := tbG_at 81 (by decide +kernel) (by decide +kernel)
theorem acL8 : Cond.methodLink RX8 57 arraycopyName ∈ tbG := tbG_at 990 (by decide +kernel) (by decide +kernel)
theorem acL11 : Cond.methodLink RX11 349 arraycopyName ∈ tbG := tbG_at 1017 (by decide +kernel) (by decide +kernel)
def cpI (σ : Mm) (a0 a1 sp dp n : Nat) : Mm := (fun b => if b = a1 then va_cpy (σ.1 a0) (σ.1 a1) sp dp n else σ.1 b, σ.2)
theorem cpI_at (σ : Mm) (a0 a1 sp dp n b j : Nat) : (cpI σ a0 a1 sp dp n).1 b j = if b = a1 then (if dp ≤ j ∧ j < dp + n then σ.1 a0 (sp + (j - dp)) else σ.1 a1 j) else σ.1 b j := by
  show (if b = a1 then va_cpy (σ.1 a0) (σ.1 a1) sp dp n else σ.1 b) j = _
  split <;> rfl
theorem ent_cp {B : Nat} {cA : Nat → ClassId} {σ : Mm} {a0 a sp dp n b : Nat} (h : b ≠ a) : ent B cA (cpI σ a0 a sp dp n) b = ent B cA σ b := by
  have h1 : (cpI σ a0 a sp dp n).1 b = σ.1 b := if_neg h
  have h2 : (cpI σ a0 a sp dp n).2 b = σ.2 b := rfl
  unfold ent
  rw [h1, h2]
  have h3 : fval B (cpI σ a0 a sp dp n) b (kd b).1 = fval B σ b (kd b).1 := by
    funext k; unfold fval; rw [h1]
  rw [h3]
theorem nI_nneg {n : Nat} (h : n ≤ 4000) : ¬ nI n < 0 := by
  have q : (nI n).toInt = (n : Int) := by
    show (Int32.ofNat n).toInt = _
    rw [← Int32.ofInt_eq_ofNat, Int32.toInt_ofInt_of_le (by omega) (by omega)]
  rw [Int32.lt_iff_toInt_lt, q]
  show ¬ (n : Int) < 0
  omega
theorem g_copyI {Ω : Nat × Nat} {M : MI} {K : Option Value → Mm → Prop} {pc idx : Nat} {ls : List (Option Value)} {st : List Value} {σ : Mm} {a0 a n0 n1 sp dp n : Nat} (d : decode (ic M) pc = .ok (.invokestatic idx, 3)) (lk : Cond.methodLink (iy M).cls idx arraycopyName ∈ tbG) (ha0 : kw Ω a0 = (20, n0)) (ha : kw Ω a = (20, n1)) (h4 : sp + n ≤ n0) (h5 : dp + n ≤ n1) (hn0 : n0 ≤ 4000) (hn1 : n1 ≤ 4000) (hfr : 1 ≤ ifr M) (hlo : (st.map fun v => v.category).sum + (nativeFrameWords "java/lang/System" "arraycopy" 5 + 11) ≤ ilw M) (k : G Ω M K (pc + 3) ls st (cpI σ a0 a sp dp n)) : G Ω M K pc ls (.int (nI n) :: .int (nI dp) :: .ref a :: .int (nI sp) :: .ref a0 :: st) σ := by
  intro B D cA p l e s m args below meth c H locs la C hP hS hl
  have C0 := C
  obtain ⟨hx, hb, hml, hown, hret, hlocks, hts, hK, hNs⟩ := C
  obtain ⟨r1, r2, r3⟩ := kw_in ha0 (by simp)
  obtain ⟨t1, t2, t3⟩ := kw_in ha (by simp)
  have c1 : (nI sp).toNatClampNeg = sp := nI_clamp (by omega)
  have c2 : (nI dp).toNatClampNeg = dp := nI_clamp (by omega)
  have c3 : (nI n).toNatClampNeg = n := nI_clamp (by omega)
  refine va_copyi hx hb (hml.trans hl.1.symm) hown (hts _ lk) (hts _ acN) (hts _ acSt) (hts _ acI) hK hP wld_D hS (a0 - Ω.1) (a - Ω.1) 0 0 (by rw [wld_at r1 r2, ent_int r3 (by decide)]) (by rw [wld_at t1 t2, ent_int t3 (by decide)]) rfl rfl rfl (nI_nneg (by omega)) (nI_nneg (by omega)) (nI_nneg (by omega)) (by rw [c1, c3]; exact h4) (by rw [c2, c3]; exact h5) (by rw [c1, c3]; exact fun i hi => rfl) hfr (by rw [sum_cat]; exact hlo) d (fun H1 locs1 hP1 hD1 hS1 => ?_)
  rw [c1, c2, c3, wld_set (σ' := cpI σ a0 a sp dp n) t1 t2 (by rw [ent_int t3 (by decide)]; simp only [cpI, if_true]) (fun b hb2 => ent_cp hb2)] at hP1
  exact k B D cA p l e s m args below meth c H1 locs1 la C0 hP1 hS1 hl
theorem nI_byte {v : Nat} (h : v ≤ 100) : fits .byte (.int (nI v)) = true := by
  have : ∀ v, v < 101 → fits .byte (.int (nI v)) = true := by decide +kernel
  exact this v (by omega)
theorem g_copyB {Ω : Nat × Nat} {M : MI} {K : Option Value → Mm → Prop} {pc idx : Nat} {ls : List (Option Value)} {st : List Value} {σ : Mm} {a0 a n0 n1 sp dp n : Nat} (d : decode (ic M) pc = .ok (.invokestatic idx, 3)) (lk : Cond.methodLink (iy M).cls idx arraycopyName ∈ tbG) (ha0 : kw Ω a0 = (23, n0)) (ha : kw Ω a = (23, n1)) (h4 : sp + n ≤ n0) (h5 : dp + n ≤ n1) (hn0 : n0 ≤ 4000) (hn1 : n1 ≤ 4000) (hby : ∀ i, i < n → ∃ v, v ≤ 100 ∧ σ.1 a0 (sp + i) = nI v) (hfr : 1 ≤ ifr M) (hlo : (st.map fun v => v.category).sum + (nativeFrameWords "java/lang/System" "arraycopy" 5 + 11) ≤ ilw M) (k : G Ω M K (pc + 3) ls st (cpI σ a0 a sp dp n)) : G Ω M K pc ls (.int (nI n) :: .int (nI dp) :: .ref a :: .int (nI sp) :: .ref a0 :: st) σ := by
  intro B D cA p l e s m args below meth c H locs la C hP hS hl
  have C0 := C
  obtain ⟨hx, hb, hml, hown, hret, hlocks, hts, hK, hNs⟩ := C
  obtain ⟨r1, r2, r3⟩ := kw_in ha0 (by simp)
  obtain ⟨t1, t2, t3⟩ := kw_in ha (by simp)
  have c1 : (nI sp).toNatClampNeg = sp := nI_clamp (by omega)
  have c2 : (nI dp).toNatClampNeg = dp := nI_clamp (by omega)
  have c3 : (nI n).toNatClampNeg = n := nI_clamp (by omega)
  refine va_copyi hx hb (hml.trans hl.1.symm) hown (hts _ lk) (hts _ acN) (hts _ acSt) (hts _ acI) hK hP wld_D hS (a0 - Ω.1) (a - Ω.1) 3 3 (by rw [wld_at r1 r2, ent_int r3 (by decide)]) (by rw [wld_at t1 t2, ent_int t3 (by decide)]) rfl rfl rfl (nI_nneg (by omega)) (nI_nneg (by omega)) (nI_nneg (by omega)) (by rw [c1, c3]; exact h4) (by rw [c2, c3]; exact h5) (by rw [c1, c3]; exact fun i hi => by obtain ⟨v, v1, v2⟩ := hby i hi; rw [v2]; exact nI_byte v1) hfr (by rw [sum_cat]; exact hlo) d (fun H1 locs1 hP1 hD1 hS1 => ?_)
  rw [c1, c2, c3, wld_set (σ' := cpI σ a0 a sp dp n) t1 t2 (by rw [ent_int t3 (by decide)]; simp only [cpI, if_true]) (fun b hb2 => ent_cp hb2)] at hP1
  exact k B D cA p l e s m args below meth c H1 locs1 la C0 hP1 hS1 hl
def hw (H : Hx) (k i : Nat) (v : Int32) : Hx := fun k' i' => if k' = k ∧ i' = i then v else H k' i'
def hrow (H : Hx) (d : Nat) (f : Nat → Int32) (n : Nat) : Hx := fun k x => if k = 4 ∧ 60 * d ≤ x ∧ x < 60 * d + n then f (x - 60 * d) else H k x
def Hok (H : Hx) : Prop := ∀ d, d < 8 → (H 0 d = nI 0 ∨ H 0 d = nI 1 ∨ H 0 d = nI 3 ∨ H 0 d = nI 4) ∧ (H 0 d = nI 3 ∨ H 0 d = nI 4 → ∃ n, n ≤ 60 ∧ H 1 d = nI n)
theorem ShC.ok {σ : Mm} {H : Hx} (h : ShC σ H) : Hok H := by
  intro d hd
  obtain ⟨h1, h2, h3, h4, h5⟩ := h d hd
  refine ⟨h2, fun q => ?_⟩
  rcases q with q | q
  · obtain ⟨n, n1, n2, -⟩ := h3 q; exact ⟨n, n1, n2⟩
  · obtain ⟨n, n1, n2, -⟩ := h4 q; exact ⟨n, n1, n2⟩
theorem ShD.eq {σ τ : Mm} {H H' : Hx} {d : Nat} (h : ShD σ H d) (e1 : τ.1 (234 + 3 * d) = σ.1 (234 + 3 * d)) (e2 : τ.1 (235 + 3 * d) = σ.1 (235 + 3 * d)) (e3 : τ.1 (236 + 3 * d) = σ.1 (236 + 3 * d)) (k : ∀ k, k < 4 → H' k d = H k d) (r : ∀ i, i < 60 → H' 4 (60 * d + i) = H 4 (60 * d + i)) : ShD τ H' d := by
  obtain ⟨h1, h2, h3, h4, h5⟩ := h
  unfold ShD
  rw [e1, e2, e3, k 0 (by decide), k 1 (by decide), k 2 (by decide), k 3 (by decide)]
  refine ⟨h1, h2, fun q => ?_, fun q => ?_, h5⟩
  · obtain ⟨n, n1, n2, n3, n4⟩ := h3 q
    exact ⟨n, n1, n2, n3, fun i hi => by rw [r i (by omega)]; exact n4 i hi⟩
  · obtain ⟨n, n1, n2, n3, n4⟩ := h4 q
    exact ⟨n, n1, n2, n3, fun i hi => by rw [r i (by omega)]; exact n4 i hi⟩
/-- shelf d alone changes -/
theorem ShC.one {σ τ : Mm} {H H' : Hx} {d : Nat} (h : ShC σ H) (he : ∀ a, ¬ (234 + 3 * d ≤ a ∧ a ≤ 236 + 3 * d) → τ.1 a = σ.1 a) (k : ∀ k x, k < 4 → x ≠ d → H' k x = H k x) (r : ∀ x, ¬ (60 * d ≤ x ∧ x < 60 * d + 60) → H' 4 x = H 4 x) (hd : ShD τ H' d) : ShC τ H' := by
  intro x hx
  by_cases e : x = d
  · rw [e]; exact hd
  · exact (h x hx).eq (he _ (by omega)) (he _ (by omega)) (he _ (by omega)) (fun z hz => k z x hz e) (fun i hi => r _ (by omega))
theorem clN_145 : ((List.range 40).all fun g => (List.range (szC g)).all fun i => decide ((cl 57 g i).1 < 145)) = true := by decide +kernel
theorem clV_145 : ((List.range 20).all fun g => (List.range (szV g)).all fun i => decide ((clV 57 g i).1 < 145)) = true := by decide +kernel
theorem RepC.fr1 {σ τ : Mm} {S : Sx} {Tf : Nat → Nat} (h : RepC 57 σ S Tf) (hB : Bd S) (he : ∀ a, a < 145 → τ.1 a = σ.1 a) : RepC 57 τ S Tf := by
  obtain ⟨h1, h2, h3, h4, h5⟩ := h
  have bP := B_P hB 0
  refine ⟨fun g i hi hd => ?_, fun g i hi hd => ?_, fun p k hp hk => ?_, fun a ha => ?_, fun a ha => ?_⟩
  · have q := List.all_eq_true.mp (List.all_eq_true.mp clN_145 g (List.mem_range.mpr (szC_lt hi))) i (List.mem_range.mpr hi)
    rw [he _ (of_decide_eq_true q)]; exact h1 g i hi hd
  · have q := List.all_eq_true.mp (List.all_eq_true.mp clV_145 g (List.mem_range.mpr (szV_lt hi))) i (List.mem_range.mpr hi)
    rw [he _ (of_decide_eq_true q)]; exact h2 g i hi hd
  · rw [he _ (by omega)]; exact h3 p k hp hk
  · rw [he _ (by omega)]; exact h4 a ha
  · rw [he _ (by omega), he _ (by omega)]; exact h5 a ha
theorem CI.sh {σ τ : Mm} {S : Sx} {H H' : Hx} {d : Nat} (h : CI σ S H) (hB : Bd S) (hd : d < 8) (he : ∀ a, ¬ (234 + 3 * d ≤ a ∧ a ≤ 236 + 3 * d) → τ.1 a = σ.1 a) (e2 : τ.2 = σ.2) (k : ∀ k x, k < 4 → x ≠ d → H' k x = H k x) (r : ∀ x, ¬ (60 * d ≤ x ∧ x < 60 * d + 60) → H' 4 x = H 4 x) (hD : ShD τ H' d) : CI τ S H' ∧ frK σ τ := by
  obtain ⟨⟨Tf, h1, h2⟩, h3, h4⟩ := h
  exact ⟨⟨⟨Tf, h1.fr1 hB (fun a ha => he a (by omega)), h2⟩, h3.one he k r hD, Tr.fr h4 (he 159 (by omega)) (he 149 (by omega))⟩, fun a ha => he a (by omega), e2⟩
-- the reference's shelves
theorem RepM.ge {w : Nat} {σ : Mm} {S : Sx} (h : RepM w σ S) {a j : Nat} {v : Int32} (ha : 306 ≤ a) : RepM w (wI σ a j v) S := by
  obtain ⟨h1, h2, h3⟩ := h
  refine ⟨fun g i hi => ?_, fun g i hi hl => ?_, h3⟩
  · have q := mA_ge (mS_lt hi).1
    have e : (wI σ a j v).1 (mA g) = σ.1 (mA g) := if_neg (by omega)
    rw [e]; exact h1 g i hi
  · have q := vA_ge (vS_lt hi).1
    have e : (wI σ a j v).1 (vA g) = σ.1 (vA g) := if_neg (by omega)
    rw [e]; exact h2 g i hi hl
theorem MJ.h {σ0 σ : Mm} {S : Sx} {H H' : Hx} (h : MJ σ0 S H σ) {a j : Nat} {v : Int32} (ha : 306 ≤ a) (hs : ShM (wI σ a j v) H') : MJ σ0 S H' (wI σ a j v) := by
  obtain ⟨⟨h1, h2, h3, h4⟩, h5⟩ := h
  refine ⟨⟨h1.ge ha, ⟨h2.1, ?_⟩, hs, h4.w (Or.inr ha)⟩, h5.w (by omega)⟩
  rw [wI_at, if_neg (by omega)]; exact h2.2
theorem hw_o {H : Hx} {k i : Nat} {v : Int32} {k' i' : Nat} (h : k' ≠ k) : hw H k i v k' i' = H k' i' := if_neg (fun z => h z.1)
theorem hw_s (H : Hx) (k i : Nat) (v : Int32) (i' : Nat) : hw H k i v k i' = if i' = i then v else H k i' := by
  unfold hw
  by_cases e : i' = i
  · rw [if_pos ⟨rfl, e⟩, if_pos e]
  · rw [if_neg (fun z => e z.2), if_neg e]
theorem ZH0 {σ0 σ : Mm} {S : Sx} {H : Hx} (h : MJ σ0 S H σ) {d : Nat} {v : Int32} : MJ σ0 S (hw H 0 d v) (wI σ 306 d v) := by
  refine h.h (by decide) ⟨fun x hx => ?_, fun i hi => ?_⟩
  · obtain ⟨q0, q1, q2, q3⟩ := h.1.2.2.1.1 x hx
    refine ⟨?_, ?_, ?_, ?_⟩
    · rw [hw_s, wI_at]
      by_cases e : x = d
      · rw [if_pos e, if_pos ⟨rfl, e⟩]
      · rw [if_neg e, if_neg (fun z => e z.2)]; exact q0
    · rw [hw_o (by decide), wI_at, if_neg (by omega)]; exact q1
    · rw [hw_o (by decide), wI_at, if_neg (by omega)]; exact q2
    · rw [hw_o (by decide), wI_at, if_neg (by omega)]; exact q3
  · rw [hw_o (by decide), wI_at, if_neg (by omega)]; exact h.1.2.2.1.2 i hi
theorem ZH1 {σ0 σ : Mm} {S : Sx} {H : Hx} (h : MJ σ0 S H σ) {d : Nat} {v : Int32} : MJ σ0 S (hw H 1 d v) (wI σ 307 d v) := by
  refine h.h (by decide) ⟨fun x hx => ?_, fun i hi => ?_⟩
  · obtain ⟨q0, q1, q2, q3⟩ := h.1.2.2.1.1 x hx
    refine ⟨?_, ?_, ?_, ?_⟩
    · rw [hw_o (by decide), wI_at, if_neg (by omega)]; exact q0
    · rw [hw_s, wI_at]
      by_cases e : x = d
      · rw [if_pos e, if_pos ⟨rfl, e⟩]
      · rw [if_neg e, if_neg (fun z => e z.2)]; exact q1
    · rw [hw_o (by decide), wI_at, if_neg (by omega)]; exact q2
    · rw [hw_o (by decide), wI_at, if_neg (by omega)]; exact q3
  · rw [hw_o (by decide), wI_at, if_neg (by omega)]; exact h.1.2.2.1.2 i hi
theorem ZH2 {σ0 σ : Mm} {S : Sx} {H : Hx} (h : MJ σ0 S H σ) {d : Nat} {v : Int32} : MJ σ0 S (hw H 2 d v) (wI σ 308 d v) := by
  refine h.h (by decide) ⟨fun x hx => ?_, fun i hi => ?_⟩
  · obtain ⟨q0, q1, q2, q3⟩ := h.1.2.2.1.1 x hx
    refine ⟨?_, ?_, ?_, ?_⟩
    · rw [hw_o (by decide), wI_at, if_neg (by omega)]; exact q0
    · rw [hw_o (by decide), wI_at, if_neg (by omega)]; exact q1
    · rw [hw_s, wI_at]
      by_cases e : x = d
      · rw [if_pos e, if_pos ⟨rfl, e⟩]
      · rw [if_neg e, if_neg (fun z => e z.2)]; exact q2
    · rw [hw_o (by decide), wI_at, if_neg (by omega)]; exact q3
  · rw [hw_o (by decide), wI_at, if_neg (by omega)]; exact h.1.2.2.1.2 i hi
theorem ZH3 {σ0 σ : Mm} {S : Sx} {H : Hx} (h : MJ σ0 S H σ) {d : Nat} {v : Int32} : MJ σ0 S (hw H 3 d v) (wI σ 309 d v) := by
  refine h.h (by decide) ⟨fun x hx => ?_, fun i hi => ?_⟩
  · obtain ⟨q0, q1, q2, q3⟩ := h.1.2.2.1.1 x hx
    refine ⟨?_, ?_, ?_, ?_⟩
    · rw [hw_o (by decide), wI_at, if_neg (by omega)]; exact q0
    · rw [hw_o (by decide), wI_at, if_neg (by omega)]; exact q1
    · rw [hw_o (by decide), wI_at, if_neg (by omega)]; exact q2
    · rw [hw_s, wI_at]
      by_cases e : x = d
      · rw [if_pos e, if_pos ⟨rfl, e⟩]
      · rw [if_neg e, if_neg (fun z => e z.2)]; exact q3
  · rw [hw_o (by decide), wI_at, if_neg (by omega)]; exact h.1.2.2.1.2 i hi
theorem ZH4 {σ0 σ : Mm} {S : Sx} {H : Hx} (h : MJ σ0 S H σ) {d : Nat} {v : Int32} : MJ σ0 S (hw H 4 d v) (wI σ 310 d v) := by
  refine h.h (by decide) ⟨fun x hx => ?_, fun i hi => ?_⟩
  · obtain ⟨q0, q1, q2, q3⟩ := h.1.2.2.1.1 x hx
    rw [hw_o (by decide), hw_o (by decide), hw_o (by decide), hw_o (by decide), wI_at, if_neg (by omega), wI_at, if_neg (by omega), wI_at, if_neg (by omega), wI_at, if_neg (by omega)]
    exact ⟨q0, q1, q2, q3⟩
  · rw [hw_s, wI_at]
    by_cases e : i = d
    · rw [if_pos e, if_pos ⟨rfl, e⟩]
    · rw [if_neg e, if_neg (fun z => e z.2)]; exact h.1.2.2.1.2 i hi
theorem hrow_0 (H : Hx) (d : Nat) (f : Nat → Int32) : hrow H d f 0 = H := by
  funext k x
  exact if_neg (by omega)
theorem hrow_s (H : Hx) (d : Nat) (f : Nat → Int32) (n : Nat) : hw (hrow H d f n) 4 (60 * d + n) (f n) = hrow H d f (n + 1) := by
  funext k x
  show (if k = 4 ∧ x = 60 * d + n then f n else (if k = 4 ∧ 60 * d ≤ x ∧ x < 60 * d + n then f (x - 60 * d) else H k x)) = (if k = 4 ∧ 60 * d ≤ x ∧ x < 60 * d + (n + 1) then f (x - 60 * d) else H k x)
  by_cases h1 : k = 4 ∧ x = 60 * d + n
  · rw [if_pos h1, if_pos ⟨h1.1, by omega, by omega⟩, h1.2, Nat.add_sub_cancel_left]
  · rw [if_neg h1]
    by_cases h2 : k = 4 ∧ 60 * d ≤ x ∧ x < 60 * d + n
    · rw [if_pos h2, if_pos ⟨h2.1, h2.2.1, by omega⟩]
    · rw [if_neg h2, if_neg (fun z => by omega)]
theorem hrow_k {H : Hx} {d : Nat} {f : Nat → Int32} {n k x : Nat} (h : k ≠ 4) : hrow H d f n k x = H k x := if_neg (fun z => h z.1)
theorem hrow_i {H : Hx} {d : Nat} {f : Nat → Int32} {n i : Nat} (h : i < n) : hrow H d f n 4 (60 * d + i) = f i := by
  show (if 4 = 4 ∧ 60 * d ≤ 60 * d + i ∧ 60 * d + i < 60 * d + n then f (60 * d + i - 60 * d) else _) = _
  rw [if_pos ⟨rfl, by omega, by omega⟩, Nat.add_sub_cancel_left]
theorem hrow_o {H : Hx} {d : Nat} {f : Nat → Int32} {n x : Nat} (hn : n ≤ 60) (h : ¬ (60 * d ≤ x ∧ x < 60 * d + 60)) : hrow H d f n 4 x = H 4 x := if_neg (by omega)
def rwI (σ : Mm) (a : Nat) (f : Nat → Int32) (n : Nat) : Mm := (fun b j => if b = a ∧ j < n then f j else σ.1 b j, σ.2)
theorem rwI_at (σ : Mm) (a : Nat) (f : Nat → Int32) (n b j : Nat) : (rwI σ a f n).1 b j = if b = a ∧ j < n then f j else σ.1 b j := rfl
theorem rwI_0 (σ : Mm) (a : Nat) (f : Nat → Int32) : rwI σ a f 0 = σ := by
  refine Prod.ext ?_ rfl
  funext b j
  exact if_neg (by omega)
theorem rwI_s (σ : Mm) (a : Nat) (f : Nat → Int32) (n : Nat) : wI (rwI σ a f n) a n (f n) = rwI σ a f (n + 1) := by
  refine Prod.ext ?_ rfl
  funext b j
  show (wI (rwI σ a f n) a n (f n)).1 b j = _
  rw [wI_at, rwI_at, rwI_at]
  by_cases h1 : b = a ∧ j = n
  · rw [if_pos h1, if_pos ⟨h1.1, by omega⟩, h1.2]
  · rw [if_neg h1]
    by_cases h2 : b = a ∧ j < n
    · rw [if_pos h2, if_pos ⟨h2.1, by omega⟩]
    · rw [if_neg h2, if_neg (fun z => by omega)]
-- numbers of shelves
theorem c_isShelf {Ω : Nat × Nat} {σ : Mm} (x : Int32) : RI Ω mX11_isShelf [.int x] σ (fun r τ => r = bI (rg x 0 7) ∧ τ = σ) := by
  refine G.met (by decide) (Nat.le_of_ble_eq_true rfl) ?_
  show G _ _ _ 0 [some (.int x)] [] σ
  refine gs_iload_n dX11_isShelf_0 rfl rfl ?_
  refine g_iconst (v := nI 0) dX11_isShelf_1 (by decide) ?_
  refine g_bipush (v := nI 7) dX11_isShelf_2 (by decide) ?_
  refine g_cSI3 dX11_isShelf_4 vX11_50 (by decide) (Nat.le_of_ble_eq_true rfl) (c_within (by decide) (by decide)) ?_
  rintro _ σ ⟨rfl, e9⟩
  subst e9
  refine g_zreturn dX11_isShelf_7 rfl (by first | exact bI_01 _ | decide) ?_
  exact ⟨_, rfl, rfl, rfl⟩
theorem rg_in {x : Int32} : inN x 8 = rg x 0 7 := by
  unfold inN rg
  exact decide_eq_decide.mpr (by omega)
theorem s_isShelf {σ : Mm} (x : Int32) : RI W0 mX12_isShelf [.int x] σ (fun r τ => r = bI (rg x 0 7) ∧ τ = σ) := by
  refine G.met (by decide) (Nat.le_of_ble_eq_true rfl) ?_
  show G _ _ _ 0 [some (.int x)] [] σ
  refine gs_iload_n dX12_isShelf_0 rfl rfl ?_
  refine g_if_lt (tgt := 14) dX12_isShelf_1 (by decide) (fun c1 => ?_) (fun c1 => ?_)
  · refine g_iconst (v := nI 0) dX12_isShelf_14 (by decide) ?_
    refine g_zreturn dX12_isShelf_15 rfl (by first | exact bI_01 _ | decide) ?_
    exact ⟨_, rfl, by rw [← rg_in, inN_lt c1]; rfl, rfl⟩
  · refine gs_iload_n dX12_isShelf_4 rfl rfl ?_
    refine g_bipush (v := nI 8) dX12_isShelf_5 (by decide) ?_
    refine g_icmp_ge (tgt := 14) dX12_isShelf_7 (by decide) (fun c7 => ?_) (fun c7 => ?_)
    · refine g_iconst (v := nI 0) dX12_isShelf_14 (by decide) ?_
      refine g_zreturn dX12_isShelf_15 rfl (by first | exact bI_01 _ | decide) ?_
      exact ⟨_, rfl, by rw [← rg_in, inN_ge (by decide) c7]; rfl, rfl⟩
    · refine g_iconst (v := nI 1) dX12_isShelf_10 (by decide) ?_
      refine g_goto (tgt := 15) dX12_isShelf_11 (by decide) ?_
      refine g_zreturn dX12_isShelf_15 rfl (by first | exact bI_01 _ | decide) ?_
      exact ⟨_, rfl, by rw [← rg_in, inN_t (by decide) c1 c7]; rfl, rfl⟩
