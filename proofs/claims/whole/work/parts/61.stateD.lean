/-! Writes into the class's memory. -/
theorem inv_F {b p k : Nat} (hb : mch b) (hp : p < 20) (hk : k < 4) : invC b (b + 20 + 3 * p) k = (200, 4 * p + k) := by
  have h1 : ∀ p, p < 20 → ∀ k, k < 4 → invC 57 (57 + 20 + 3 * p) k = (200, 4 * p + k) := by decide +kernel
  have h2 : ∀ p, p < 20 → ∀ k, k < 4 → invC 145 (145 + 20 + 3 * p) k = (200, 4 * p + k) := by decide +kernel
  rcases hb with rfl | rfl
  · exact h1 p hp k hk
  · exact h2 p hp k hk
theorem inv_T {b a : Nat} (hb : mch b) : invC b (b + 8) a = (201, a) := by rcases hb with rfl | rfl <;> rfl
theorem inv_O {b a : Nat} (hb : mch b) : invC b (b + 2) a = (202, a) := by rcases hb with rfl | rfl <;> rfl
theorem inv_Z {b a : Nat} (hb : mch b) : invC b (b + 3) a = (203, a) := by rcases hb with rfl | rfl <;> rfl
theorem dmC_eq {S S' : Sx} (h0 : S'.1 0 0 = S.1 0 0) (h7 : S'.1 7 0 = S.1 7 0) (h9 : S'.1 9 0 = S.1 9 0) (g i : Nat) : dmC S' g i ↔ dmC S g i := by
  unfold dmC; rw [h0, h7, h9]
theorem dmV_eq {S S' : Sx} (h7 : S'.1 7 0 = S.1 7 0) (h9 : S'.1 9 0 = S.1 9 0) (h39 : S'.1 39 0 = S.1 39 0) (g i : Nat) : dmV S' g i ↔ dmV S g i := by
  unfold dmV; rw [h7, h9, h39]
/-- components that other parts of the picture hang on -/
def ctl (g : Nat) : Bool := g == 0 || (g == 7 || (g == 9 || (g == 39 || (g == 27 || g == 28))))
theorem ctl_ne {g k : Nat} (h : ctl g = false) (hk : ctl k = true) : k ≠ g := fun e => by rw [← e, hk] at h; cases h
/-- faults, places taken and queues don't see a write elsewhere -/
theorem RepC.rest {b : Nat} {σ : Mm} {S S' : Sx} {Tf : Nat → Nat} (h : RepC b σ S Tf) (hb : mch b) (hB : Bd S) {a j c i : Nat} {v : Int32} (hinv : invC b a j = (c, i)) (hc : c ≠ 200 ∧ c ≠ 201 ∧ c ≠ 202 ∧ c ≠ 203)
    (e7 : S'.1 7 0 = S.1 7 0) (e27 : S'.1 27 = S.1 27) (e28 : S'.1 28 = S.1 28) (eQ : S'.2.2 = S.2.2) : cFa b (wI σ a j v) S' ∧ cTk b (wI σ a j v) Tf ∧ cQu b (wI σ a j v) S' := by
  obtain ⟨h1, h2, h3, h4, h5⟩ := h
  have b7 := B_P hB 0
  refine ⟨fun p k hp hk => ?_, fun a' ha' => ?_, fun a' ha' => ?_⟩
  · rw [e7] at hp
    rw [e27] at hk ⊢
    rw [e28]
    have b27 := B_faultMany hB p
    rw [wI_at, if_neg (fun q => by
      have hi := inv_F hb (show p < 20 by omega) (show k < 4 by omega)
      rw [q.1, q.2, hinv] at hi
      exact hc.1 (Prod.mk.inj hi).1)]
    exact h3 p k hp hk
  · rw [wI_at, if_neg (fun q => by
      have hi := inv_T (a := a') hb
      rw [q.1, q.2, hinv] at hi
      exact hc.2.1 (Prod.mk.inj hi).1)]
    exact h4 a' ha'
  · rw [eQ]
    obtain ⟨q1, q2, q3⟩ := h5 a' ha'
    refine ⟨q1, ?_, fun i2 hi2 => ?_⟩
    · rw [wI_at, if_neg (fun q => by
        have hi := inv_Z (a := a') hb
        rw [q.1, q.2, hinv] at hi
        exact hc.2.2.2 (Prod.mk.inj hi).1)]
      exact q2
    · rw [wI_at, if_neg (fun q => by
        have hi := inv_O (a := 10 * a' + i2) hb
        rw [q.1, q.2, hinv] at hi
        exact hc.2.2.1 (Prod.mk.inj hi).1)]
      exact q3 i2 hi2
theorem RepC.putN {b : Nat} {σ : Mm} {S : Sx} {Tf : Nat → Nat} (h : RepC b σ S Tf) (hb : mch b) (hB : Bd S) {g i v : Nat} (hi : i < szC g) (hg : ctl g = false) : RepC b (wI σ (cl b g i).1 (cl b g i).2 (encC g v)) (setN S g i v) Tf := by
  have hgl := szC_lt hi
  have e : ∀ k, ctl k = true → (setN S g i v).1 k = S.1 k := fun k hk => setN_ne (ctl_ne hg hk)
  have hinv := inv_N hb hi
  obtain ⟨r3, r4, r5⟩ := h.rest (S' := setN S g i v) (v := encC g v) hb hB hinv ⟨by omega, by omega, by omega, by omega⟩ (by rw [e 7 rfl]) (e 27 rfl) (e 28 rfl) rfl
  refine ⟨fun g' i' hd hm => ?_, fun g' i' hd hm => ?_, r3, r4, r5⟩
  · have hm := (dmC_eq (S := S) (by rw [e 0 rfl]) (by rw [e 7 rfl]) (by rw [e 9 rfl]) g' i').mp hm
    rw [wI_at]
    split
    · next q =>
      have hi' := inv_N hb hd
      rw [q.1, q.2, hinv] at hi'
      obtain ⟨e1, e2⟩ := Prod.mk.inj hi'
      subst e1; subst e2
      simp [setN]
    · next q =>
      have : ¬ (g' = g ∧ i' = i) := fun z => q (by rw [z.1, z.2]; exact ⟨rfl, rfl⟩)
      simp only [setN, this, if_false]
      exact h.1 g' i' hd hm
  · have hm := (dmV_eq (S := S) (by rw [e 7 rfl]) (by rw [e 9 rfl]) (by rw [e 39 rfl]) g' i').mp hm
    rw [wI_at, if_neg (fun q => by
      have hi' := inv_V hb hd
      rw [q.1, q.2, hinv] at hi'
      have := (Prod.mk.inj hi').1
      omega)]
    exact h.2.1 g' i' hd hm
theorem RepC.putV {b : Nat} {σ : Mm} {S : Sx} {Tf : Nat → Nat} (h : RepC b σ S Tf) (hb : mch b) (hB : Bd S) {g i : Nat} {v : Int32} (hi : i < szV g) : RepC b (wI σ (clV b g i).1 (clV b g i).2 v) (setV S g i v) Tf := by
  have hgl := szV_lt hi
  have hinv := inv_V hb hi
  obtain ⟨r3, r4, r5⟩ := h.rest (S' := setV S g i v) (v := v) hb hB hinv ⟨by omega, by omega, by omega, by omega⟩ rfl rfl rfl rfl
  refine ⟨fun g' i' hd hm => ?_, fun g' i' hd hm => ?_, r3, r4, r5⟩
  · rw [wI_at, if_neg (fun q => by
      have hi' := inv_N hb hd
      rw [q.1, q.2, hinv] at hi'
      have := (Prod.mk.inj hi').1
      have := szC_lt hd
      omega)]
    exact h.1 g' i' hd hm
  · rw [wI_at]
    split
    · next q =>
      have hi' := inv_V hb hd
      rw [q.1, q.2, hinv] at hi'
      obtain ⟨e1, e2⟩ := Prod.mk.inj hi'
      have e1 : g' = g := by omega
      subst e1; subst e2
      simp [setV]
    · next q =>
      have : ¬ (g' = g ∧ i' = i) := fun z => q (by rw [z.1, z.2]; exact ⟨rfl, rfl⟩)
      simp only [setV, this, if_false]
      exact h.2.1 g' i' hd hm
theorem RepC.off {b : Nat} {σ : Mm} {S : Sx} {Tf : Nat → Nat} (h : RepC b σ S Tf) (hb : mch b) (hB : Bd S) {a j : Nat} {v : Int32} (ho : (invC b a j).1 = 999) : RepC b (wI σ a j v) S Tf := by
  obtain ⟨r3, r4, r5⟩ := h.rest (S' := S) (v := v) hb hB (c := 999) (i := (invC b a j).2) (by rw [← ho]) ⟨by decide, by decide, by decide, by decide⟩ rfl rfl rfl rfl
  refine ⟨fun g' i' hd hm => ?_, fun g' i' hd hm => ?_, r3, r4, r5⟩
  · rw [wI_at, if_neg (fun q => by
      have hi' := inv_N hb hd
      rw [q.1, q.2] at hi'
      rw [hi'] at ho
      have := szC_lt hd
      have ho : g' = 999 := ho
      omega)]
    exact h.1 g' i' hd hm
  · rw [wI_at, if_neg (fun q => by
      have hi' := inv_V hb hd
      rw [q.1, q.2] at hi'
      rw [hi'] at ho
      have := szV_lt hd
      have ho : 100 + g' = 999 := ho
      omega)]
    exact h.2.1 g' i' hd hm
def upT (Tf : Nat → Nat) (a v : Nat) : Nat → Nat := fun x => if x = a then v else Tf x
theorem RepC.putT {b : Nat} {σ : Mm} {S : Sx} {Tf : Nat → Nat} (h : RepC b σ S Tf) (hb : mch b) (hB : Bd S) {a v : Nat} : RepC b (wI σ (b + 8) a (nI v)) S (upT Tf a v) := by
  obtain ⟨h1, h2, h3, h4, h5⟩ := h
  have b7 := B_P hB 0
  refine ⟨fun g' i' hd hm => ?_, fun g' i' hd hm => ?_, fun p k hp hk => ?_, fun a' ha' => ?_, fun a' ha' => ?_⟩
  · rw [wI_at, if_neg (fun q => by
      have hi' := inv_N hb hd
      rw [q.1, q.2, inv_T hb] at hi'
      have := (Prod.mk.inj hi').1
      have := szC_lt hd
      omega)]
    exact h1 g' i' hd hm
  · rw [wI_at, if_neg (fun q => by
      have hi' := inv_V hb hd
      rw [q.1, q.2, inv_T hb] at hi'
      have := (Prod.mk.inj hi').1
      have := szV_lt hd
      omega)]
    exact h2 g' i' hd hm
  · have b27 := B_faultMany hB p
    rw [wI_at, if_neg (by omega)]
    exact h3 p k hp hk
  · rw [wI_at, upT]
    split
    · next q => rw [if_pos q.2]
    · next q => rw [if_neg (fun z => q ⟨rfl, z⟩)]; exact h4 a' ha'
  · obtain ⟨q1, q2, q3⟩ := h5 a' ha'
    refine ⟨q1, ?_, fun i2 hi2 => ?_⟩
    · rw [wI_at, if_neg (by omega)]; exact q2
    · rw [wI_at, if_neg (by omega)]; exact q3 i2 hi2
def frC (b : Nat) (σ τ : Mm) : Prop := τ.2 = σ.2 ∧ ∀ a, ¬ (b ≤ a ∧ a < b + 88) → τ.1 a = σ.1 a
theorem frC.rf (b : Nat) (σ : Mm) : frC b σ σ := ⟨rfl, fun _ _ => rfl⟩
theorem frC.tr {b : Nat} {x y z : Mm} (h : frC b x y) (k : frC b y z) : frC b x z := ⟨k.1.trans h.1, fun a ha => (k.2 a ha).trans (h.2 a ha)⟩
theorem frC.wI {b : Nat} {σ0 σ : Mm} {a j : Nat} {v : Int32} (h : frC b σ0 σ) (h1 : b ≤ a) (h2 : a < b + 88) : frC b σ0 (wI σ a j v) := by
  refine h.tr ⟨rfl, fun q hq => ?_⟩
  funext k
  rw [wI_at, if_neg (fun z => hq (by rw [z.1]; exact ⟨h1, h2⟩))]
/-- the machine at b shows S; of the rest nothing has changed; the attempt holds At -/
def Cq (b : Nat) (σ0 : Mm) (S : Sx) (Tf : Nat → Nat) (At : Nat → Int32) (τ : Mm) : Prop := RepC b τ S Tf ∧ frC b σ0 τ ∧ τ.1 (b + 5) = At
theorem Cq.tr {b : Nat} {σ0 σ τ : Mm} {S S' : Sx} {Tf Tf' : Nat → Nat} {At At' : Nat → Int32} (h : Cq b σ0 S Tf At σ) (k : Cq b σ S' Tf' At' τ) : Cq b σ0 S' Tf' At' τ := ⟨k.1, h.2.1.tr k.2.1, k.2.2⟩
theorem Cq.rf {b : Nat} {σ : Mm} {S : Sx} {Tf : Nat → Nat} (h : RepC b σ S Tf) : Cq b σ S Tf (σ.1 (b + 5)) σ := ⟨h, frC.rf b σ, rfl⟩
theorem Cq.putN {b : Nat} {σ0 σ : Mm} {S : Sx} {Tf : Nat → Nat} {At : Nat → Int32} (h : Cq b σ0 S Tf At σ) (hb : mch b) (hB : Bd S) {g i v : Nat} (hi : i < szC g) (hg : ctl g = false) (h1 : b ≤ (cl b g i).1) (h2 : (cl b g i).1 < b + 88) (h3 : (cl b g i).1 ≠ b + 5) : Cq b σ0 (setN S g i v) Tf At (wI σ (cl b g i).1 (cl b g i).2 (encC g v)) :=
  ⟨h.1.putN hb hB hi hg, h.2.1.wI h1 h2, by rw [← h.2.2]; funext k; rw [wI_at, if_neg (fun z => h3 z.1.symm)]⟩
theorem Cq.putV {b : Nat} {σ0 σ : Mm} {S : Sx} {Tf : Nat → Nat} {At : Nat → Int32} (h : Cq b σ0 S Tf At σ) (hb : mch b) (hB : Bd S) {g i : Nat} {v : Int32} (hi : i < szV g) (h1 : b ≤ (clV b g i).1) (h2 : (clV b g i).1 < b + 88) (h3 : (clV b g i).1 ≠ b + 5) : Cq b σ0 (setV S g i v) Tf At (wI σ (clV b g i).1 (clV b g i).2 v) :=
  ⟨h.1.putV hb hB hi, h.2.1.wI h1 h2, by rw [← h.2.2]; funext k; rw [wI_at, if_neg (fun z => h3 z.1.symm)]⟩
theorem Cq.putT {b : Nat} {σ0 σ : Mm} {S : Sx} {Tf : Nat → Nat} {At : Nat → Int32} (h : Cq b σ0 S Tf At σ) (hb : mch b) (hB : Bd S) {a v : Nat} : Cq b σ0 S (upT Tf a v) At (wI σ (b + 8) a (nI v)) :=
  ⟨h.1.putT hb hB, h.2.1.wI (by omega) (by omega), by rw [← h.2.2]; funext k; rw [wI_at, if_neg (by omega)]⟩
theorem Cq.putA {b : Nat} {σ0 σ : Mm} {S : Sx} {Tf : Nat → Nat} {At : Nat → Int32} (h : Cq b σ0 S Tf At σ) (hb : mch b) (hB : Bd S) {k : Nat} {v : Int32} : Cq b σ0 S Tf (upd At k v) (wI σ (b + 5) k v) := by
  refine ⟨h.1.off hb hB (by rcases hb with rfl | rfl <;> rfl), h.2.1.wI (by omega) (by omega), ?_⟩
  funext j
  rw [wI_at, ← h.2.2]
  by_cases e : j = k
  · rw [if_pos ⟨rfl, e⟩, e]; simp [upd]
  · rw [if_neg (fun z => e z.2)]; simp [upd, e]
section
variable {Ω : Nat × Nat} {M : MI} {K : Option Value → Mm → Prop} {pc : Nat} {ls : List (Option Value)} {st : List Value} {σ : Mm}
theorem gc_iast {a n j : Nat} {x : Int32} (d : decode (ic M) pc = .ok (.iastore, 1)) (ha : kw Ω a = (20, n)) (hj : j < n) {b : Nat} {σ0 : Mm} {S' : Sx} {Tf : Nat → Nat} {At : Nat → Int32} (hR : Cq b σ0 S' Tf At (wI σ a j x)) (k : ∀ τ, Cq b σ0 S' Tf At τ → G Ω M K (pc + 1) ls st τ) : G Ω M K pc ls (.int x :: .int (nI j) :: .ref a :: st) σ := g_iast d ha hj (k _ hR)
theorem gc_putI {idx a ci n k0 : Nat} {x : Int32} {ty : FieldType} (d : decode (ic M) pc = .ok (.putfield idx, 3)) (f : FP (iy M).cls idx ci k0 ty) (ha : kw Ω a = (ci, n)) (hq : ci < 20 ∧ k0 < n ∧ isR ci k0 = false) (hty : ty = .int ∨ (ty = .boolean ∧ (x = 0 ∨ x = 1))) {b : Nat} {σ0 : Mm} {S' : Sx} {Tf : Nat → Nat} {At : Nat → Int32} (hR : Cq b σ0 S' Tf At (wI σ a k0 x)) (k : ∀ τ, Cq b σ0 S' Tf At τ → G Ω M K (pc + 3) ls st τ) : G Ω M K pc ls (.int x :: .ref a :: st) σ := g_putI d f ha hq hty (k _ hR)
end
theorem D_kind {b : Nat} {σ0 σ : Mm} {S : Sx} {Tf : Nat → Nat} {At : Nat → Int32} (h : Cq b σ0 S Tf At σ) (hb : mch b) (hB : Bd S) {i : Nat} (hi : i < 20) {v : Nat} : Cq b σ0 (setN S 8 i v) Tf At (wI σ (b + 18 + 3 * i) 2 (nI v)) := by
  have q := h.putN hb hB (g := 8) (i := i) (v := v) (by simp [szC]; exact hi) rfl (by simp [cl]; try omega) (by simp [cl]; try omega) (by simp [cl]; try omega)
  simpa [cl, encC] using q
theorem D_faultPrice {b : Nat} {σ0 σ : Mm} {S : Sx} {Tf : Nat → Nat} {At : Nat → Int32} (h : Cq b σ0 S Tf At σ) (hb : mch b) (hB : Bd S) {v : Nat} : Cq b σ0 (setN S 14 0 v) Tf At (wI σ (b + 4) 3 (nI v)) := by
  have q := h.putN hb hB (g := 14) (i := 0) (v := v) (by simp [szC]) rfl (by simp [cl]; try omega) (by simp [cl]; try omega) (by simp [cl]; try omega)
  simpa [cl, encC] using q
theorem D_movePrice {b : Nat} {σ0 σ : Mm} {S : Sx} {Tf : Nat → Nat} {At : Nat → Int32} (h : Cq b σ0 S Tf At σ) (hb : mch b) (hB : Bd S) {v : Nat} : Cq b σ0 (setN S 15 0 v) Tf At (wI σ (b + 4) 4 (nI v)) := by
  have q := h.putN hb hB (g := 15) (i := 0) (v := v) (by simp [szC]) rfl (by simp [cl]; try omega) (by simp [cl]; try omega) (by simp [cl]; try omega)
  simpa [cl, encC] using q
theorem D_placing {b : Nat} {σ0 σ : Mm} {S : Sx} {Tf : Nat → Nat} {At : Nat → Int32} (h : Cq b σ0 S Tf At σ) (hb : mch b) (hB : Bd S) {v : Nat} : Cq b σ0 (setN S 20 0 v) Tf At (wI σ (b + 4) 0 (nI v)) := by
  have q := h.putN hb hB (g := 20) (i := 0) (v := v) (by simp [szC]) rfl (by simp [cl]; try omega) (by simp [cl]; try omega) (by simp [cl]; try omega)
  simpa [cl, encC] using q
theorem D_every {b : Nat} {σ0 σ : Mm} {S : Sx} {Tf : Nat → Nat} {At : Nat → Int32} (h : Cq b σ0 S Tf At σ) (hb : mch b) (hB : Bd S) {v : Nat} : Cq b σ0 (setN S 21 0 v) Tf At (wI σ (b + 4) 1 (nI v)) := by
  have q := h.putN hb hB (g := 21) (i := 0) (v := v) (by simp [szC]) rfl (by simp [cl]; try omega) (by simp [cl]; try omega) (by simp [cl]; try omega)
  simpa [cl, encC] using q
theorem D_gain {b : Nat} {σ0 σ : Mm} {S : Sx} {Tf : Nat → Nat} {At : Nat → Int32} (h : Cq b σ0 S Tf At σ) (hb : mch b) (hB : Bd S) {v : Nat} : Cq b σ0 (setN S 22 0 v) Tf At (wI σ (b + 4) 2 (nI v)) := by
  have q := h.putN hb hB (g := 22) (i := 0) (v := v) (by simp [szC]) rfl (by simp [cl]; try omega) (by simp [cl]; try omega) (by simp [cl]; try omega)
  simpa [cl, encC] using q
theorem D_turns {b : Nat} {σ0 σ : Mm} {S : Sx} {Tf : Nat → Nat} {At : Nat → Int32} (h : Cq b σ0 S Tf At σ) (hb : mch b) (hB : Bd S) {v : Nat} : Cq b σ0 (setN S 23 0 v) Tf At (wI σ (b) 12 (nI v)) := by
  have q := h.putN hb hB (g := 23) (i := 0) (v := v) (by simp [szC]) rfl (by simp [cl]; try omega) (by simp [cl]; try omega) (by simp [cl]; try omega)
  simpa [cl, encC] using q
theorem D_lies {b : Nat} {σ0 σ : Mm} {S : Sx} {Tf : Nat → Nat} {At : Nat → Int32} (h : Cq b σ0 S Tf At σ) (hb : mch b) (hB : Bd S) {i : Nat} (hi : i < 20) {v : Nat} : Cq b σ0 (setN S 24 i v) Tf At (wI σ (b + 18 + 3 * i) 3 (lzC v)) := by
  have q := h.putN hb hB (g := 24) (i := i) (v := v) (by simp [szC]; exact hi) rfl (by simp [cl]; try omega) (by simp [cl]; try omega) (by simp [cl]; try omega)
  simpa [cl, encC] using q
theorem D_copies {b : Nat} {σ0 σ : Mm} {S : Sx} {Tf : Nat → Nat} {At : Nat → Int32} (h : Cq b σ0 S Tf At σ) (hb : mch b) (hB : Bd S) {i : Nat} (hi : i < 20) {v : Nat} : Cq b σ0 (setN S 25 i v) Tf At (wI σ (b + 18 + 3 * i) 4 (nI v)) := by
  have q := h.putN hb hB (g := 25) (i := i) (v := v) (by simp [szC]; exact hi) rfl (by simp [cl]; try omega) (by simp [cl]; try omega) (by simp [cl]; try omega)
  simpa [cl, encC] using q
theorem D_hidden {b : Nat} {σ0 σ : Mm} {S : Sx} {Tf : Nat → Nat} {At : Nat → Int32} (h : Cq b σ0 S Tf At σ) (hb : mch b) (hB : Bd S) {i : Nat} (hi : i < 20) {v : Nat} : Cq b σ0 (setN S 26 i v) Tf At (wI σ (b + 18 + 3 * i) 8 (nI v)) := by
  have q := h.putN hb hB (g := 26) (i := i) (v := v) (by simp [szC]; exact hi) rfl (by simp [cl]; try omega) (by simp [cl]; try omega) (by simp [cl]; try omega)
  simpa [cl, encC] using q
theorem D_at {b : Nat} {σ0 σ : Mm} {S : Sx} {Tf : Nat → Nat} {At : Nat → Int32} (h : Cq b σ0 S Tf At σ) (hb : mch b) (hB : Bd S) {i : Nat} (hi : i < 10) {v : Nat} : Cq b σ0 (setN S 29 i v) Tf At (wI σ (b + 78 + i) 1 (nI v)) := by
  have q := h.putN hb hB (g := 29) (i := i) (v := v) (by simp [szC]; exact hi) rfl (by simp [cl]; try omega) (by simp [cl]; try omega) (by simp [cl]; try omega)
  simpa [cl, encC] using q
theorem D_next {b : Nat} {σ0 σ : Mm} {S : Sx} {Tf : Nat → Nat} {At : Nat → Int32} (h : Cq b σ0 S Tf At σ) (hb : mch b) (hB : Bd S) {i : Nat} (hi : i < 10) {v : Nat} : Cq b σ0 (setN S 30 i v) Tf At (wI σ (b + 78 + i) 2 (nI v)) := by
  have q := h.putN hb hB (g := 30) (i := i) (v := v) (by simp [szC]; exact hi) rfl (by simp [cl]; try omega) (by simp [cl]; try omega) (by simp [cl]; try omega)
  simpa [cl, encC] using q
theorem D_toGo {b : Nat} {σ0 σ : Mm} {S : Sx} {Tf : Nat → Nat} {At : Nat → Int32} (h : Cq b σ0 S Tf At σ) (hb : mch b) (hB : Bd S) {i : Nat} (hi : i < 10) {v : Nat} : Cq b σ0 (setN S 31 i v) Tf At (wI σ (b + 78 + i) 3 (nI v)) := by
  have q := h.putN hb hB (g := 31) (i := i) (v := v) (by simp [szC]; exact hi) rfl (by simp [cl]; try omega) (by simp [cl]; try omega) (by simp [cl]; try omega)
  simpa [cl, encC] using q
theorem D_ended {b : Nat} {σ0 σ : Mm} {S : Sx} {Tf : Nat → Nat} {At : Nat → Int32} (h : Cq b σ0 S Tf At σ) (hb : mch b) (hB : Bd S) {i : Nat} (hi : i < 10) {v : Nat} : Cq b σ0 (setN S 32 i v) Tf At (wI σ (b + 78 + i) 7 (nI v)) := by
  have q := h.putN hb hB (g := 32) (i := i) (v := v) (by simp [szC]; exact hi) rfl (by simp [cl]; try omega) (by simp [cl]; try omega) (by simp [cl]; try omega)
  simpa [cl, encC] using q
theorem D_linkNow {b : Nat} {σ0 σ : Mm} {S : Sx} {Tf : Nat → Nat} {At : Nat → Int32} (h : Cq b σ0 S Tf At σ) (hb : mch b) (hB : Bd S) {i : Nat} (hi : i < 16) {v : Nat} : Cq b σ0 (setN S 33 i v) Tf At (wI σ (b + 13) i (nI v)) := by
  have q := h.putN hb hB (g := 33) (i := i) (v := v) (by simp [szC]; exact hi) rfl (by simp [cl]; try omega) (by simp [cl]; try omega) (by simp [cl]; try omega)
  simpa [cl, encC] using q
theorem D_logged {b : Nat} {σ0 σ : Mm} {S : Sx} {Tf : Nat → Nat} {At : Nat → Int32} (h : Cq b σ0 S Tf At σ) (hb : mch b) (hB : Bd S) {v : Nat} : Cq b σ0 (setN S 34 0 v) Tf At (wI σ (b + 14) 2 (nI v)) := by
  have q := h.putN hb hB (g := 34) (i := 0) (v := v) (by simp [szC]) rfl (by simp [cl]; try omega) (by simp [cl]; try omega) (by simp [cl]; try omega)
  simpa [cl, encC] using q
theorem DV_tick {b : Nat} {σ0 σ : Mm} {S : Sx} {Tf : Nat → Nat} {At : Nat → Int32} (h : Cq b σ0 S Tf At σ) (hb : mch b) (hB : Bd S) {v : Int32} : Cq b σ0 (setV S 1 0 v) Tf At (wI σ (b) (13) v) := by
  have q := h.putV hb hB (g := 1) (i := 0) (v := v) (by simp [szV]) (by simp [clV]; try omega) (by simp [clV]; try omega) (by simp [clV]; try omega)
  simpa [clV] using q
theorem DV_went {b : Nat} {σ0 σ : Mm} {S : Sx} {Tf : Nat → Nat} {At : Nat → Int32} (h : Cq b σ0 S Tf At σ) (hb : mch b) (hB : Bd S) {v : Int32} : Cq b σ0 (setV S 2 0 v) Tf At (wI σ (b) (14) v) := by
  have q := h.putV hb hB (g := 2) (i := 0) (v := v) (by simp [szV]) (by simp [clV]; try omega) (by simp [clV]; try omega) (by simp [clV]; try omega)
  simpa [clV] using q
theorem DV_cost {b : Nat} {σ0 σ : Mm} {S : Sx} {Tf : Nat → Nat} {At : Nat → Int32} (h : Cq b σ0 S Tf At σ) (hb : mch b) (hB : Bd S) {v : Int32} : Cq b σ0 (setV S 3 0 v) Tf At (wI σ (b) (15) v) := by
  have q := h.putV hb hB (g := 3) (i := 0) (v := v) (by simp [szV]) (by simp [clV]; try omega) (by simp [clV]; try omega) (by simp [clV]; try omega)
  simpa [clV] using q
theorem DV_faults {b : Nat} {σ0 σ : Mm} {S : Sx} {Tf : Nat → Nat} {At : Nat → Int32} (h : Cq b σ0 S Tf At σ) (hb : mch b) (hB : Bd S) {v : Int32} : Cq b σ0 (setV S 4 0 v) Tf At (wI σ (b) (16) v) := by
  have q := h.putV hb hB (g := 4) (i := 0) (v := v) (by simp [szV]) (by simp [clV]; try omega) (by simp [clV]; try omega) (by simp [clV]; try omega)
  simpa [clV] using q
theorem DV_moves {b : Nat} {σ0 σ : Mm} {S : Sx} {Tf : Nat → Nat} {At : Nat → Int32} (h : Cq b σ0 S Tf At σ) (hb : mch b) (hB : Bd S) {v : Int32} : Cq b σ0 (setV S 5 0 v) Tf At (wI σ (b) (17) v) := by
  have q := h.putV hb hB (g := 5) (i := 0) (v := v) (by simp [szV]) (by simp [clV]; try omega) (by simp [clV]; try omega) (by simp [clV]; try omega)
  simpa [clV] using q
theorem DV_failed {b : Nat} {σ0 σ : Mm} {S : Sx} {Tf : Nat → Nat} {At : Nat → Int32} (h : Cq b σ0 S Tf At σ) (hb : mch b) (hB : Bd S) {v : Int32} : Cq b σ0 (setV S 6 0 v) Tf At (wI σ (b) (18) v) := by
  have q := h.putV hb hB (g := 6) (i := 0) (v := v) (by simp [szV]) (by simp [clV]; try omega) (by simp [clV]; try omega) (by simp [clV]; try omega)
  simpa [clV] using q
theorem DV_moved {b : Nat} {σ0 σ : Mm} {S : Sx} {Tf : Nat → Nat} {At : Nat → Int32} (h : Cq b σ0 S Tf At σ) (hb : mch b) (hB : Bd S) {i : Nat} (hi : i < 20) {v : Int32} : Cq b σ0 (setV S 7 i v) Tf At (wI σ (b + 18 + 3 * i) (6) v) := by
  have q := h.putV hb hB (g := 7) (i := i) (v := v) (by simp [szV]; exact hi) (by simp [clV]; try omega) (by simp [clV]; try omega) (by simp [clV]; try omega)
  simpa [clV] using q
theorem DV_pageBill {b : Nat} {σ0 σ : Mm} {S : Sx} {Tf : Nat → Nat} {At : Nat → Int32} (h : Cq b σ0 S Tf At σ) (hb : mch b) (hB : Bd S) {i : Nat} (hi : i < 20) {v : Int32} : Cq b σ0 (setV S 8 i v) Tf At (wI σ (b + 18 + 3 * i) (7) v) := by
  have q := h.putV hb hB (g := 8) (i := i) (v := v) (by simp [szV]; exact hi) (by simp [clV]; try omega) (by simp [clV]; try omega) (by simp [clV]; try omega)
  simpa [clV] using q
theorem DV_cell {b : Nat} {σ0 σ : Mm} {S : Sx} {Tf : Nat → Nat} {At : Nat → Int32} (h : Cq b σ0 S Tf At σ) (hb : mch b) (hB : Bd S) {i : Nat} (hi : i < 80) {v : Int32} : Cq b σ0 (setV S 9 i v) Tf At (wI σ (b + 19 + 3 * (i / 4)) (i % 4) v) := by
  have q := h.putV hb hB (g := 9) (i := i) (v := v) (by simp [szV]; exact hi) (by simp [clV]; try omega) (by simp [clV]; try omega) (by simp [clV]; try omega)
  simpa [clV] using q
theorem DV_waits {b : Nat} {σ0 σ : Mm} {S : Sx} {Tf : Nat → Nat} {At : Nat → Int32} (h : Cq b σ0 S Tf At σ) (hb : mch b) (hB : Bd S) {i : Nat} (hi : i < 10) {v : Int32} : Cq b σ0 (setV S 10 i v) Tf At (wI σ (b + 78 + i) (4) v) := by
  have q := h.putV hb hB (g := 10) (i := i) (v := v) (by simp [szV]; exact hi) (by simp [clV]; try omega) (by simp [clV]; try omega) (by simp [clV]; try omega)
  simpa [clV] using q
theorem DV_threadBill {b : Nat} {σ0 σ : Mm} {S : Sx} {Tf : Nat → Nat} {At : Nat → Int32} (h : Cq b σ0 S Tf At σ) (hb : mch b) (hB : Bd S) {i : Nat} (hi : i < 10) {v : Int32} : Cq b σ0 (setV S 11 i v) Tf At (wI σ (b + 78 + i) (5) v) := by
  have q := h.putV hb hB (g := 11) (i := i) (v := v) (by simp [szV]; exact hi) (by simp [clV]; try omega) (by simp [clV]; try omega) (by simp [clV]; try omega)
  simpa [clV] using q
theorem DV_lastRead {b : Nat} {σ0 σ : Mm} {S : Sx} {Tf : Nat → Nat} {At : Nat → Int32} (h : Cq b σ0 S Tf At σ) (hb : mch b) (hB : Bd S) {i : Nat} (hi : i < 10) {v : Int32} : Cq b σ0 (setV S 12 i v) Tf At (wI σ (b + 78 + i) (6) v) := by
  have q := h.putV hb hB (g := 12) (i := i) (v := v) (by simp [szV]; exact hi) (by simp [clV]; try omega) (by simp [clV]; try omega) (by simp [clV]; try omega)
  simpa [clV] using q
theorem DV_nodeBill {b : Nat} {σ0 σ : Mm} {S : Sx} {Tf : Nat → Nat} {At : Nat → Int32} (h : Cq b σ0 S Tf At σ) (hb : mch b) (hB : Bd S) {i : Nat} (hi : i < 4) {v : Int32} : Cq b σ0 (setV S 13 i v) Tf At (wI σ (b + 9) (i) v) := by
  have q := h.putV hb hB (g := 13) (i := i) (v := v) (by simp [szV]; exact hi) (by simp [clV]; try omega) (by simp [clV]; try omega) (by simp [clV]; try omega)
  simpa [clV] using q
theorem DV_linkWent {b : Nat} {σ0 σ : Mm} {S : Sx} {Tf : Nat → Nat} {At : Nat → Int32} (h : Cq b σ0 S Tf At σ) (hb : mch b) (hB : Bd S) {i : Nat} (hi : i < 16) {v : Int32} : Cq b σ0 (setV S 14 i v) Tf At (wI σ (b + 11) (i) v) := by
  have q := h.putV hb hB (g := 14) (i := i) (v := v) (by simp [szV]; exact hi) (by simp [clV]; try omega) (by simp [clV]; try omega) (by simp [clV]; try omega)
  simpa [clV] using q
theorem DV_linkWaits {b : Nat} {σ0 σ : Mm} {S : Sx} {Tf : Nat → Nat} {At : Nat → Int32} (h : Cq b σ0 S Tf At σ) (hb : mch b) (hB : Bd S) {i : Nat} (hi : i < 16) {v : Int32} : Cq b σ0 (setV S 15 i v) Tf At (wI σ (b + 12) (i) v) := by
  have q := h.putV hb hB (g := 15) (i := i) (v := v) (by simp [szV]; exact hi) (by simp [clV]; try omega) (by simp [clV]; try omega) (by simp [clV]; try omega)
  simpa [clV] using q
theorem DV_log {b : Nat} {σ0 σ : Mm} {S : Sx} {Tf : Nat → Nat} {At : Nat → Int32} (h : Cq b σ0 S Tf At σ) (hb : mch b) (hB : Bd S) {i : Nat} (hi : i < 3000) {v : Int32} : Cq b σ0 (setV S 16 i v) Tf At (wI σ (b + 17) (11 * (i / 10) + i % 10) v) := by
  have q := h.putV hb hB (g := 16) (i := i) (v := v) (by simp [szV]; exact hi) (by simp [clV]; try omega) (by simp [clV]; try omega) (by simp [clV]; try omega)
  simpa [clV] using q
theorem DV_logValue {b : Nat} {σ0 σ : Mm} {S : Sx} {Tf : Nat → Nat} {At : Nat → Int32} (h : Cq b σ0 S Tf At σ) (hb : mch b) (hB : Bd S) {i : Nat} (hi : i < 300) {v : Int32} : Cq b σ0 (setV S 17 i v) Tf At (wI σ (b + 17) (11 * i + 10) v) := by
  have q := h.putV hb hB (g := 17) (i := i) (v := v) (by simp [szV]; exact hi) (by simp [clV]; try omega) (by simp [clV]; try omega) (by simp [clV]; try omega)
  simpa [clV] using q
