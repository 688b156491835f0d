/-! The calls from outside: ranges, the two sides' invariants, their frames. -/
def rg (x : Int32) (lo hi : Nat) : Bool := decide ((lo : Int) ≤ x.toInt ∧ x.toInt ≤ (hi : Int))
theorem rg_of {x : Int32} {lo hi : Nat} (h : rg x lo hi = true) : ∃ a : Nat, lo ≤ a ∧ a ≤ hi ∧ x = nI a := by
  rw [rg, decide_eq_true_eq] at h
  refine ⟨x.toInt.toNat, by omega, by omega, ?_⟩
  have h0 : (x.toInt.toNat : Int) = x.toInt := Int.toNat_of_nonneg (by omega)
  have h1 := x.toInt_lt
  show x = Int32.ofNat x.toInt.toNat
  rw [← Int32.ofInt_eq_ofNat, h0, Int32.ofInt_toInt]
theorem rg_n {a lo hi : Nat} (h : a ≤ 300) : rg (nI a) lo hi = decide (lo ≤ a ∧ a ≤ hi) := by
  rw [rg, toInt_nI h]
  by_cases q : lo ≤ a ∧ a ≤ hi
  · rw [decide_eq_true q, decide_eq_true (by omega)]
  · rw [decide_eq_false q, decide_eq_false (by omega)]
theorem c_within {Ω : Nat × Nat} {σ : Mm} {x : Int32} {lo hi : Nat} (h1 : lo ≤ 300) (h2 : hi ≤ 300) : RI Ω mX11_within [.int x, .int (nI lo), .int (nI hi)] σ (fun r τ => r = bI (rg x lo hi) ∧ τ = σ) := by
  have h := s_within (Ω := Ω) (σ := σ) x (nI lo) (nI hi)
  rw [within_c h1 h2] at h
  exact h
theorem nb1 {a b : Bool} (h : a = false) : ¬ (a && b) = true := by rw [h]; exact Bool.false_ne_true
theorem nb2 {a b : Bool} (h : ¬ b = true) : ¬ (a && b) = true := by cases a <;> simp_all
theorem nbf {b : Bool} (h : b = false) : ¬ b = true := by rw [h]; exact Bool.false_ne_true
theorem yb {a b : Bool} (h1 : a = true) (h2 : b = true) : (a && b) = true := by rw [h1, h2]; rfl
def nN (x : Int32) : Nat := x.toInt.toNat
theorem nN_n {a : Nat} (h : a ≤ 300) : nN (nI a) = a := by rw [nN, toInt_nI h]; exact Int.toNat_natCast a
-- a switch's answers
def swA (x : Int32) (l : List Int32) : Int32 := if 0 ≤ x.toInt ∧ x.toInt < l.length then l.getD x.toInt.toNat (-1) else -1
theorem swA_n {k : Nat} {l : List Int32} (h : k ≤ 300) (hk : k < l.length) : swA (nI k) l = l.getD k (-1) := by
  rw [swA, toInt_nI h, if_pos ⟨by omega, by omega⟩]; rfl
theorem swA_o {x : Int32} {l : List Int32} {hi : Int} (h : x.toInt < 0 ∨ hi < x.toInt) (hl : (l.length : Int) = hi + 1) : swA x l = -1 := by
  rw [swA, if_neg (by omega)]
theorem sw4 (x : Int32) : x = nI 0 ∨ x = nI 1 ∨ x = nI 2 ∨ x = nI 3 ∨ (x.toInt < 0 ∨ 3 < x.toInt) := by
  by_cases h : x.toInt < 0 ∨ 3 < x.toInt
  · exact Or.inr (Or.inr (Or.inr (Or.inr (h))))
  · have h9 : rg x 0 3 = true := by rw [rg, decide_eq_true_eq]; omega
    obtain ⟨a, h1, h2, rfl⟩ := rg_of h9
    rcases (show a = 0 ∨ a = 1 ∨ a = 2 ∨ a = 3 from by omega) with rfl | rfl | rfl | rfl
    · exact Or.inl rfl
    · exact Or.inr (Or.inl rfl)
    · exact Or.inr (Or.inr (Or.inl rfl))
    · exact Or.inr (Or.inr (Or.inr (Or.inl rfl)))
theorem sw5 (x : Int32) : x = nI 0 ∨ x = nI 1 ∨ x = nI 2 ∨ x = nI 3 ∨ x = nI 4 ∨ (x.toInt < 0 ∨ 4 < x.toInt) := by
  by_cases h : x.toInt < 0 ∨ 4 < x.toInt
  · exact Or.inr (Or.inr (Or.inr (Or.inr (Or.inr (h)))))
  · have h9 : rg x 0 4 = true := by rw [rg, decide_eq_true_eq]; omega
    obtain ⟨a, h1, h2, rfl⟩ := rg_of h9
    rcases (show a = 0 ∨ a = 1 ∨ a = 2 ∨ a = 3 ∨ a = 4 from by omega) with rfl | rfl | rfl | rfl | rfl
    · exact Or.inl rfl
    · exact Or.inr (Or.inl rfl)
    · exact Or.inr (Or.inr (Or.inl rfl))
    · exact Or.inr (Or.inr (Or.inr (Or.inl rfl)))
    · exact Or.inr (Or.inr (Or.inr (Or.inr (Or.inl rfl))))
theorem sw7 (x : Int32) : x = nI 0 ∨ x = nI 1 ∨ x = nI 2 ∨ x = nI 3 ∨ x = nI 4 ∨ x = nI 5 ∨ x = nI 6 ∨ (x.toInt < 0 ∨ 6 < x.toInt) := by
  by_cases h : x.toInt < 0 ∨ 6 < x.toInt
  · exact Or.inr (Or.inr (Or.inr (Or.inr (Or.inr (Or.inr (Or.inr (h)))))))
  · have h9 : rg x 0 6 = true := by rw [rg, decide_eq_true_eq]; omega
    obtain ⟨a, h1, h2, rfl⟩ := rg_of h9
    rcases (show a = 0 ∨ a = 1 ∨ a = 2 ∨ a = 3 ∨ a = 4 ∨ a = 5 ∨ a = 6 from by omega) with rfl | rfl | rfl | rfl | rfl | rfl | rfl
    · exact Or.inl rfl
    · exact Or.inr (Or.inl rfl)
    · exact Or.inr (Or.inr (Or.inl rfl))
    · exact Or.inr (Or.inr (Or.inr (Or.inl rfl)))
    · exact Or.inr (Or.inr (Or.inr (Or.inr (Or.inl rfl))))
    · exact Or.inr (Or.inr (Or.inr (Or.inr (Or.inr (Or.inl rfl)))))
    · exact Or.inr (Or.inr (Or.inr (Or.inr (Or.inr (Or.inr (Or.inl rfl))))))
theorem sw8 (x : Int32) : x = nI 0 ∨ x = nI 1 ∨ x = nI 2 ∨ x = nI 3 ∨ x = nI 4 ∨ x = nI 5 ∨ x = nI 6 ∨ x = nI 7 ∨ (x.toInt < 0 ∨ 7 < x.toInt) := by
  by_cases h : x.toInt < 0 ∨ 7 < x.toInt
  · exact Or.inr (Or.inr (Or.inr (Or.inr (Or.inr (Or.inr (Or.inr (Or.inr (h))))))))
  · have h9 : rg x 0 7 = true := by rw [rg, decide_eq_true_eq]; omega
    obtain ⟨a, h1, h2, rfl⟩ := rg_of h9
    rcases (show a = 0 ∨ a = 1 ∨ a = 2 ∨ a = 3 ∨ a = 4 ∨ a = 5 ∨ a = 6 ∨ a = 7 from by omega) with rfl | rfl | rfl | rfl | rfl | rfl | rfl | rfl
    · exact Or.inl rfl
    · exact Or.inr (Or.inl rfl)
    · exact Or.inr (Or.inr (Or.inl rfl))
    · exact Or.inr (Or.inr (Or.inr (Or.inl rfl)))
    · exact Or.inr (Or.inr (Or.inr (Or.inr (Or.inl rfl))))
    · exact Or.inr (Or.inr (Or.inr (Or.inr (Or.inr (Or.inl rfl)))))
    · exact Or.inr (Or.inr (Or.inr (Or.inr (Or.inr (Or.inr (Or.inl rfl))))))
    · exact Or.inr (Or.inr (Or.inr (Or.inr (Or.inr (Or.inr (Or.inr (Or.inl rfl)))))))
theorem sw11 (x : Int32) : x = nI 0 ∨ x = nI 1 ∨ x = nI 2 ∨ x = nI 3 ∨ x = nI 4 ∨ x = nI 5 ∨ x = nI 6 ∨ x = nI 7 ∨ x = nI 8 ∨ x = nI 9 ∨ x = nI 10 ∨ (x.toInt < 0 ∨ 10 < x.toInt) := by
  by_cases h : x.toInt < 0 ∨ 10 < x.toInt
  · exact Or.inr (Or.inr (Or.inr (Or.inr (Or.inr (Or.inr (Or.inr (Or.inr (Or.inr (Or.inr (Or.inr (h)))))))))))
  · have h9 : rg x 0 10 = true := by rw [rg, decide_eq_true_eq]; omega
    obtain ⟨a, h1, h2, rfl⟩ := rg_of h9
    rcases (show a = 0 ∨ a = 1 ∨ a = 2 ∨ a = 3 ∨ a = 4 ∨ a = 5 ∨ a = 6 ∨ a = 7 ∨ a = 8 ∨ a = 9 ∨ a = 10 from by omega) with rfl | rfl | rfl | rfl | rfl | rfl | rfl | rfl | rfl | rfl | rfl
    · exact Or.inl rfl
    · exact Or.inr (Or.inl rfl)
    · exact Or.inr (Or.inr (Or.inl rfl))
    · exact Or.inr (Or.inr (Or.inr (Or.inl rfl)))
    · exact Or.inr (Or.inr (Or.inr (Or.inr (Or.inl rfl))))
    · exact Or.inr (Or.inr (Or.inr (Or.inr (Or.inr (Or.inl rfl)))))
    · exact Or.inr (Or.inr (Or.inr (Or.inr (Or.inr (Or.inr (Or.inl rfl))))))
    · exact Or.inr (Or.inr (Or.inr (Or.inr (Or.inr (Or.inr (Or.inr (Or.inl rfl)))))))
    · exact Or.inr (Or.inr (Or.inr (Or.inr (Or.inr (Or.inr (Or.inr (Or.inr (Or.inl rfl))))))))
    · exact Or.inr (Or.inr (Or.inr (Or.inr (Or.inr (Or.inr (Or.inr (Or.inr (Or.inr (Or.inl rfl)))))))))
    · exact Or.inr (Or.inr (Or.inr (Or.inr (Or.inr (Or.inr (Or.inr (Or.inr (Or.inr (Or.inr (Or.inl rfl))))))))))
theorem cmp_gt (x y : Int64) : 0 < lg_cmp x y ↔ y < x := by
  unfold lg_cmp
  split
  · next h => exact ⟨fun _ => h, fun _ => by decide⟩
  · next h => split <;> exact ⟨fun z => absurd z (by decide), fun z => absurd z h⟩
theorem cmp_lt (x y : Int64) : lg_cmp x y < 0 ↔ x < y := by
  unfold lg_cmp
  split
  · next h => exact ⟨fun z => absurd z (by decide), fun z => absurd (Int64.lt_trans h z) (Int64.lt_irrefl)⟩
  · next h =>
    split
    · next h2 => exact ⟨fun z => absurd z (by decide), fun z => by rw [h2] at z; exact absurd z (Int64.lt_irrefl)⟩
    · next h2 => exact ⟨fun _ => by
        have h' : ¬ y < x := h
        rw [Int64.lt_iff_toInt_lt] at h' ⊢
        rcases Int.lt_trichotomy x.toInt y.toInt with q | q | q
        · exact q
        · exact absurd (Int64.toInt_inj.mp q) h2
        · exact absurd q h', fun _ => by decide⟩
theorem s_isIn {σ : Mm} (v lo hi : Int64) : RI W0 mX12_isIn [.long v, .long lo, .long hi] σ (fun r τ => r = bI (decide (lo ≤ v ∧ v ≤ hi)) ∧ τ = σ) := by
  refine G.met (by decide) (Nat.le_of_ble_eq_true rfl) ?_
  show G _ _ _ 0 [some (.long v), none, some (.long lo), none, some (.long hi), none] [] σ
  refine gs_lload_n dX12_isIn_0 rfl rfl ?_
  refine gs_lload_n dX12_isIn_1 rfl rfl ?_
  refine g_lcmp dX12_isIn_2 rfl ?_
  refine g_if_lt (tgt := 17) dX12_isIn_3 (by decide) (fun c3 => ?_) (fun c3 => ?_)
  · refine g_iconst (v := nI 0) dX12_isIn_17 (by decide) ?_
    refine g_zreturn dX12_isIn_18 rfl (by first | exact bI_01 _ | decide) ?_
    have h := (cmp_lt _ _).mp c3
    exact ⟨_, rfl, by rw [decide_eq_false (fun z => absurd (Int64.not_lt.mpr z.1) (fun q => q h))]; rfl, rfl⟩
  · refine gs_lload_n dX12_isIn_6 rfl rfl ?_
    refine g_lload dX12_isIn_7 rfl ?_
    refine g_lcmp dX12_isIn_9 rfl ?_
    refine g_if_gt (tgt := 17) dX12_isIn_10 (by decide) (fun c10 => ?_) (fun c10 => ?_)
    · refine g_iconst (v := nI 0) dX12_isIn_17 (by decide) ?_
      refine g_zreturn dX12_isIn_18 rfl (by first | exact bI_01 _ | decide) ?_
      have h := (cmp_gt _ _).mp c10
      exact ⟨_, rfl, by rw [decide_eq_false (fun z => absurd (Int64.not_lt.mpr z.2) (fun q => q h))]; rfl, rfl⟩
    · refine g_iconst (v := nI 1) dX12_isIn_13 (by decide) ?_
      refine g_goto (tgt := 18) dX12_isIn_14 (by decide) ?_
      refine g_zreturn dX12_isIn_18 rfl (by first | exact bI_01 _ | decide) ?_
      have h1 : lo ≤ v := Int64.not_lt.mp (fun q => c3 ((cmp_lt _ _).mpr q))
      have h2 : v ≤ hi := Int64.not_lt.mp (fun q => c10 ((cmp_gt _ _).mpr q))
      exact ⟨_, rfl, by rw [decide_eq_true ⟨h1, h2⟩]; rfl, rfl⟩
theorem m_isIn {σ : Mm} {x : Int32} {lo hi : Int64} {a b : Nat} (h1 : lo.toInt = (a : Int)) (h2 : hi.toInt = (b : Int)) : RI W0 mX12_isIn [.long x.toInt64, .long lo, .long hi] σ (fun r τ => r = bI (rg x a b) ∧ τ = σ) := by
  have h := s_isIn (σ := σ) x.toInt64 lo hi
  have e : decide (lo ≤ x.toInt64 ∧ x.toInt64 ≤ hi) = rg x a b := by
    rw [rg]
    exact decide_eq_decide.mpr (by rw [Int64.le_iff_toInt_le, Int64.le_iff_toInt_le, Int32.toInt_toInt64, h1, h2])
  rw [e] at h
  exact h
abbrev Hx : Type := Nat → Nat → Int32
def ShM (σ : Mm) (H : Hx) : Prop := (∀ d, d < 8 → σ.1 306 d = H 0 d ∧ σ.1 307 d = H 1 d ∧ σ.1 308 d = H 2 d ∧ σ.1 309 d = H 3 d) ∧ ∀ i, i < 480 → σ.1 310 i = H 4 i
def wgt (k kd cp hm : Nat) : Int32 := if kd = 0 then nI (k + 1) else if kd = 1 then nI (k + 1 + 10 * cp) else if kd = 2 then nI (2 * (k + 1) + (hm - 1)) else nI (k + 1 + 300)
def ShD (σ : Mm) (H : Hx) (d : Nat) : Prop := σ.1 (234 + 3 * d) 2 = H 0 d ∧ (H 0 d = nI 0 ∨ H 0 d = nI 1 ∨ H 0 d = nI 3 ∨ H 0 d = nI 4) ∧
  (H 0 d = nI 3 → ∃ n, n ≤ 60 ∧ H 1 d = nI n ∧ σ.1 (234 + 3 * d) 3 = nI n ∧ ∀ i, i < n → σ.1 (235 + 3 * d) i = H 4 (60 * d + i) ∧ ∃ v, v ≤ 100 ∧ H 4 (60 * d + i) = nI v) ∧
  (H 0 d = nI 4 → ∃ n, n ≤ 60 ∧ H 1 d = nI n ∧ σ.1 (234 + 3 * d) 3 = nI n ∧ ∀ i, i < n → σ.1 (236 + 3 * d) i = H 4 (60 * d + i)) ∧
  (H 0 d = nI 1 → ∃ k kd cp hm, k < 20 ∧ kd ≤ 3 ∧ cp ≤ 4 ∧ hm ≤ 4 ∧ σ.1 (234 + 3 * d) 4 = nI k ∧ σ.1 (234 + 3 * d) 5 = nI kd ∧ σ.1 (234 + 3 * d) 6 = nI cp ∧ σ.1 (234 + 3 * d) 7 = lzC hm ∧ H 2 d = wgt k kd cp hm ∧ H 3 d = (if kd = 0 then -15 else nI k))
def ShC (σ : Mm) (H : Hx) : Prop := ∀ d, d < 8 → ShD σ H d
def Tr (σ : Mm) : Prop := σ.1 159 0 = nI 0 ∧ σ.1 159 2 = nI 0 ∧ ∃ r : Nat → Nat, (∀ g, r g ≤ bnd g) ∧ σ.1 149 0 = nI (r 20) ∧ σ.1 149 1 = nI (r 21) ∧ σ.1 149 2 = nI (r 22) ∧ σ.1 149 3 = nI (r 14) ∧ σ.1 149 4 = nI (r 15)
theorem Tr.fr {σ τ : Mm} (h : Tr σ) (e1 : τ.1 159 = σ.1 159) (e2 : τ.1 149 = σ.1 149) : Tr τ := by
  unfold Tr
  rw [e1, e2]
  exact h
def CI (σ : Mm) (S : Sx) (H : Hx) : Prop := (∃ Tf, RepC 57 σ S Tf ∧ Tk S Tf) ∧ ShC σ H ∧ Tr σ
def frK (σ τ : Mm) : Prop := (∀ a, 258 ≤ a → τ.1 a = σ.1 a) ∧ τ.2 = σ.2
def frL (σ τ : Mm) : Prop := ∀ a, a < 258 → τ.1 a = σ.1 a
theorem ShC.fr {σ τ : Mm} {H : Hx} (h : ShC σ H) (he : ∀ a, 233 ≤ a → a < 258 → τ.1 a = σ.1 a) : ShC τ H := by
  intro d hd
  have e1 := he (234 + 3 * d) (by omega) (by omega)
  have e2 := he (235 + 3 * d) (by omega) (by omega)
  have e3 := he (236 + 3 * d) (by omega) (by omega)
  have q := h d hd
  unfold ShD at q ⊢
  rw [e1, e2, e3]
  exact q
theorem clN_lt : ((List.range 40).all fun g => (List.range (szC g)).all fun i => decide ((cl 57 g i).1 < 258)) = true := by decide +kernel
theorem clV_lt : ((List.range 20).all fun g => (List.range (szV g)).all fun i => decide ((clV 57 g i).1 < 258)) = true := by decide +kernel
theorem RepC.fr {σ τ : Mm} {S : Sx} {Tf : Nat → Nat} (h : RepC 57 σ S Tf) (hB : Bd S) (he : ∀ a, a < 258 → τ.1 a = σ.1 a) : RepC 57 τ S Tf := by
  obtain ⟨h1, h2, h3, h4, h5⟩ := h
  have bP := B_P hB 0
  refine ⟨fun g i hi hd => ?_, fun g i hi hd => ?_, fun p k hp hk => ?_, fun a ha => ?_, fun a ha => ?_⟩
  · have q := List.all_eq_true.mp (List.all_eq_true.mp clN_lt g (List.mem_range.mpr (szC_lt hi))) i (List.mem_range.mpr hi)
    rw [he _ (of_decide_eq_true q)]; exact h1 g i hi hd
  · have q := List.all_eq_true.mp (List.all_eq_true.mp clV_lt g (List.mem_range.mpr (szV_lt hi))) i (List.mem_range.mpr hi)
    rw [he _ (of_decide_eq_true q)]; exact h2 g i hi hd
  · rw [he _ (by omega)]; exact h3 p k hp hk
  · rw [he _ (by omega)]; exact h4 a ha
  · rw [he _ (by omega), he _ (by omega)]; exact h5 a ha
theorem CI.fr {σ τ : Mm} {S : Sx} {H : Hx} (h : CI σ S H) (hB : Bd S) (he : frL σ τ) : CI τ S H := by
  obtain ⟨⟨Tf, h1, h2⟩, h3, h4⟩ := h
  exact ⟨⟨Tf, h1.fr hB he, h2⟩, h3.fr (fun a _ h => he a h), Tr.fr h4 (he 159 (by decide)) (he 149 (by decide))⟩
theorem CI.cq {σ τ : Mm} {S S' : Sx} {H : Hx} {Tf' : Nat → Nat} {A : Nat → Int32} (h : CI σ S H) (hQ : Cq 57 σ S' Tf' A τ) (hT : Tk S' Tf') : CI τ S' H ∧ frK σ τ := by
  obtain ⟨-, h3, h4⟩ := h
  obtain ⟨k1, ⟨k2, k3⟩, k4⟩ := hQ
  refine ⟨⟨⟨Tf', k1, hT⟩, h3.fr (fun a h1 h2 => k3 a (by omega)), Tr.fr h4 (k3 159 (by omega)) (k3 149 (by omega))⟩, fun a ha => k3 a (by omega), k2⟩
def W1 (n T : Nat) (σ : Mm) : Prop := ∀ g i, mML.getD g 0 ≠ 0 → i < mSL.getD g 0 → ∃ v, v ≤ bnd g ∧ (g = 29 → v < n ∨ v = 0) ∧ (g = 30 → T ≤ i → v = 0) ∧ σ.1 (mA g) (mK 1 g + i) = encM g v
theorem W1.mono {n T T' : Nat} {σ : Mm} (h : W1 n T σ) (hT : T ≤ T') : W1 n T' σ := fun g i h0 hi => by
  obtain ⟨v, v1, v2, v3, v4⟩ := h g i h0 hi
  exact ⟨v, v1, v2, fun z z2 => v3 z (Nat.le_trans hT z2), v4⟩
def MI_ (σ : Mm) (S : Sx) (H : Hx) : Prop := RepM 0 σ S ∧ hC 0 σ ∧ ShM σ H ∧ W1 (S.1 0 0) (S.1 9 0) σ
def MJ (σ0 : Mm) (S : Sx) (H : Hx) (τ : Mm) : Prop := MI_ τ S H ∧ frL σ0 τ
theorem tabM_ge : ((List.range 40).all fun g => decide (mSL.getD g 0 = 0) || (decide (258 ≤ mA g) && decide (mA g < 306))) = true := by decide +kernel
theorem tabV_ge : ((List.range 20).all fun g => decide (vSL.getD g 0 = 0) || (decide (258 ≤ vA g) && decide (vA g < 306))) = true := by decide +kernel
theorem mA_ge {g i : Nat} (h : i < mSL.getD g 0) : 258 ≤ mA g ∧ mA g < 306 := by
  have hg : g < 40 := by
    rcases Nat.lt_or_ge g 40 with q | q
    · exact q
    · rw [List.getD, List.getElem?_eq_none (by exact q)] at h; exact absurd h (by simp)
  have q := List.all_eq_true.mp tabM_ge g (List.mem_range.mpr hg)
  simp only [Bool.or_eq_true, Bool.and_eq_true, decide_eq_true_eq] at q
  omega
theorem vA_ge {g i : Nat} (h : i < vSL.getD g 0) : 258 ≤ vA g ∧ vA g < 306 := by
  have hg : g < 20 := by
    rcases Nat.lt_or_ge g 20 with q | q
    · exact q
    · rw [List.getD, List.getElem?_eq_none (by exact q)] at h; exact absurd h (by simp)
  have q := List.all_eq_true.mp tabV_ge g (List.mem_range.mpr hg)
  simp only [Bool.or_eq_true, Bool.and_eq_true, decide_eq_true_eq] at q
  omega
theorem MI_.fr {σ τ : Mm} {S : Sx} {H : Hx} (h : MI_ σ S H) (he : frK σ τ) : MI_ τ S H := by
  obtain ⟨⟨h1, h2, h3⟩, hc, hs, hw⟩ := h
  obtain ⟨k1, k2⟩ := he
  refine ⟨⟨fun g i hi => ?_, fun g i hi hl => ?_, fun g i hi hl => ?_⟩, ⟨hc.1, by rw [k1 258 (by decide)]; exact hc.2⟩, ?_, fun g i hm hi => ?_⟩
  · rw [k1 _ (mA_ge (mS_lt hi).1).1]; exact h1 g i hi
  · rw [k1 _ (vA_ge (vS_lt hi).1).1]; exact h2 g i hi hl
  · rw [k2]; exact h3 g i hi hl
  · unfold ShM
    rw [k1 306 (by decide), k1 307 (by decide), k1 308 (by decide), k1 309 (by decide), k1 310 (by decide)]
    exact hs
  · rw [k1 _ (mA_ge hi).1]; exact hw g i hm hi
theorem mS_0 (g : Nat) : mS 0 g = mSL.getD g 0 := if_pos (Or.inl rfl)
theorem W1_rep {σ : Mm} {S : Sx} (hM : RepM 0 σ S) (hB : Bd S) (h : W1 (S.1 0 0) (S.1 9 0) σ) : ∃ S1, RepM 1 σ S1 ∧ Bd S1 ∧ (∀ g i, mML.getD g 0 = 0 → S1.1 g i = S.1 g i) ∧ S1.2.1 0 = (fun i => σ.1 267 i) ∧ (∀ t, S1.1 29 t < S.1 0 0 ∨ S1.1 29 t = 0) ∧ (∀ t, t < 10 → S.1 9 0 ≤ t → S1.1 30 t = 0) := by
  have h' : ∀ g i, ∃ v, v ≤ bnd g ∧ (mML.getD g 0 ≠ 0 → i < mSL.getD g 0 → σ.1 (mA g) (mK 1 g + i) = encM g v) ∧ (mML.getD g 0 = 0 → v = S.1 g i) ∧ (g = 29 → v < S.1 0 0 ∨ v = 0) ∧ (g = 30 → i < mSL.getD g 0 → S.1 9 0 ≤ i → v = 0) := fun g i => by
    by_cases h0 : mML.getD g 0 = 0
    · refine ⟨S.1 g i, hB g i, fun z => absurd h0 z, fun _ => rfl, fun z => ?_, fun z => ?_⟩
      · rw [z] at h0; exact absurd h0 (by decide)
      · rw [z] at h0; exact absurd h0 (by decide)
    · by_cases hi : i < mSL.getD g 0
      · obtain ⟨v, v1, v2, v3, v4⟩ := h g i h0 hi
        exact ⟨v, v1, fun _ _ => v4, fun z => absurd z h0, v2, fun z _ z2 => v3 z z2⟩
      · exact ⟨0, Nat.zero_le _, fun _ z => absurd z hi, fun z => absurd z h0, fun _ => Or.inr rfl, fun _ _ _ => rfl⟩
  refine ⟨(fun g i => Classical.choose (h' g i), fun g i => if vLg g = true then (σ.2 (vA g) (vK 1 g + i)).toInt32 else σ.1 (vA g) (vK 1 g + i), S.2.2), ⟨fun g i hi => ?_, fun g i hi hl => ?_, fun g i hi hl => ?_⟩, fun g i => (Classical.choose_spec (h' g i)).1, fun g i h0 => (Classical.choose_spec (h' g i)).2.2.1 h0, ?_, fun t => (Classical.choose_spec (h' 29 t)).2.2.2.1 rfl, fun t ht hT => (Classical.choose_spec (h' 30 t)).2.2.2.2 rfl ht hT⟩
  · obtain ⟨c1, c2, c3, -, -⟩ := Classical.choose_spec (h' g i)
    have hi' := (mS_lt hi).1
    show σ.1 (mA g) (mK 1 g + i) = encM g (Classical.choose (h' g i))
    by_cases h0 : mML.getD g 0 = 0
    · rw [c3 h0]
      have q := hM.1 g i (by rw [mS_0]; exact hi')
      rw [show mK 1 g = mK 0 g from by unfold mK; rw [h0]]
      exact q
    · exact c2 h0 hi'
  · show σ.1 (vA g) (vK 1 g + i) = if vLg g = true then _ else _
    rw [hl]; rfl
  · show (σ.2 (vA g) (vK 1 g + i)).toInt32 = if vLg g = true then _ else _
    rw [hl]; rfl
  · funext i
    show (if vLg 0 = true then (σ.2 (vA 0) (vK 1 0 + i)).toInt32 else σ.1 (vA 0) (vK 1 0 + i)) = σ.1 267 i
    simp [vLg, vLL, vA, vAL, vK, vML]
theorem tab_nJ : ((List.range 40).all fun g => decide (mML.getD g 0 = 0) || (decide (nJL.getD g false = false) && decide (0 < mSL.getD g 0))) = true := by decide +kernel
theorem W1_of {σ : Mm} {S1 : Sx} {n T : Nat} (hM : RepM 1 σ S1) (hB : Bd S1) (h29 : ∀ t, S1.1 29 t < n ∨ S1.1 29 t = 0) (h30 : ∀ t, t < 10 → T ≤ t → S1.1 30 t = 0) : W1 n T σ := by
  intro g i h0 hi
  have hg : g < 40 := by
    rcases Nat.lt_or_ge g 40 with q | q
    · exact q
    · rw [List.getD, List.getElem?_eq_none (by exact q)] at hi; exact absurd hi (by simp)
  have q := List.all_eq_true.mp tab_nJ g (List.mem_range.mpr hg)
  simp only [Bool.or_eq_true, Bool.and_eq_true, decide_eq_true_eq] at q
  have hn : nJL.getD g false = false := (q.resolve_left h0).1
  exact ⟨S1.1 g i, hB g i, fun z => by rw [z]; exact h29 i, fun z z2 => by rw [z] at hi ⊢; exact h30 i hi z2, hM.1 g i (by unfold mS; rw [if_pos (Or.inr hn)]; exact hi)⟩
theorem MJ.mw {σ0 σ τ : Mm} {S S' : Sx} {H : Hx} (h : MJ σ0 S H σ) (hB : Bd S) (hW : Mw 0 σ S' τ) (e0 : S'.1 0 0 = S.1 0 0) (e9 : S'.1 9 0 = S.1 9 0) : MJ σ0 S' H τ := by
  obtain ⟨⟨h1, h2, h3, h4⟩, h5⟩ := h
  obtain ⟨k1, k2, ⟨k3, k4, k5⟩, k6⟩ := hW
  obtain ⟨S1, r1, r2, -, -, r5, r6⟩ := W1_rep h1 hB h4
  refine ⟨⟨k1, k2, ?_, by rw [e0, e9]; exact W1_of (k6 S1 r1) r2 r5 r6⟩, fun a ha => (k3 a ha).1.trans (h5 a ha)⟩
  unfold ShM
  rw [(k5 306 (by decide)).1, (k5 307 (by decide)).1, (k5 308 (by decide)).1, (k5 309 (by decide)).1, (k5 310 (by decide)).1]
  exact h3
theorem MJ.mq {σ0 σ τ : Mm} {S S' : Sx} {H : Hx} (h : MJ σ0 S H σ) (hB : Bd S) (hW : Mq 0 σ S' τ) (e0 : S'.1 0 0 = S.1 0 0) (e9 : S'.1 9 0 = S.1 9 0) : MJ σ0 S' H τ := h.mw hB hW.weak e0 e9
theorem MJ.rf {σ : Mm} {S : Sx} {H : Hx} (h : MI_ σ S H) : MJ σ S H σ := ⟨h, fun _ _ => rfl⟩
theorem ShM.w {σ : Mm} {H : Hx} (h : ShM σ H) {a j : Nat} {v : Int32} (ha : a < 306) : ShM (wI σ a j v) H := by
  have e : ∀ x, 306 ≤ x → (wI σ a j v).1 x = σ.1 x := fun x hx => if_neg (by omega)
  unfold ShM
  rw [e 306 (by decide), e 307 (by decide), e 308 (by decide), e 309 (by decide), e 310 (by decide)]
  exact h
theorem frL.w {σ0 σ : Mm} (h : frL σ0 σ) {a j : Nat} {v : Int32} (ha : 258 ≤ a) : frL σ0 (wI σ a j v) := by
  intro x hx
  have e : (wI σ a j v).1 x = σ.1 x := if_neg (by omega)
  rw [e]; exact h x hx
theorem tab_own : ((List.range 40).all fun g => decide (mML.getD g 0 = 0) || decide (268 ≤ mA g)) = true := by decide +kernel
theorem own_ge {g i : Nat} (h0 : mML.getD g 0 ≠ 0) (hi : i < mSL.getD g 0) : 268 ≤ mA g := by
  have hg : g < 40 := by
    rcases Nat.lt_or_ge g 40 with q | q
    · exact q
    · rw [List.getD, List.getElem?_eq_none (by exact q)] at hi; exact absurd hi (by simp)
  have q := List.all_eq_true.mp tab_own g (List.mem_range.mpr hg)
  simp only [Bool.or_eq_true, decide_eq_true_eq] at q
  exact q.resolve_left h0
theorem W1.w {n T : Nat} {σ : Mm} (h : W1 n T σ) {a j : Nat} {v : Int32} (ha : a < 268 ∨ 306 ≤ a) : W1 n T (wI σ a j v) := by
  intro g i h0 hi
  have h1 := own_ge h0 hi
  have h2 := mA_ge hi
  have e : (wI σ a j v).1 (mA g) = σ.1 (mA g) := if_neg (by omega)
  rw [e]; exact h g i h0 hi
/-- a place of the reference that is neither in the state nor on a shelf -/
theorem MJ.off {σ0 σ : Mm} {S : Sx} {H : Hx} (h : MJ σ0 S H σ) {j : Nat} {v : Int32} (ho : offM 258 j = true) (hj : j ≠ 17) : MJ σ0 S H (wI σ 258 j v) := by
  obtain ⟨⟨h1, h2, h3, h4⟩, h5⟩ := h
  refine ⟨⟨h1.off ho, ⟨h2.1, ?_⟩, h3.w (by decide), h4.w (Or.inl (by decide))⟩, h5.w (by decide)⟩
  rw [wI_at, if_neg (fun z => hj z.2.symm)]; exact h2.2
theorem off0 : offM 258 0 = true := by decide +kernel
/-- shared places -/
theorem MJ.sh {σ0 σ : Mm} {S : Sx} {H : Hx} (h : MJ σ0 S H σ) {g i v : Nat} (hi : i < mSL.getD g 0) (ha : mA g < 268) (hk : mA g = 258 → mK 0 g + i ≠ 17) (h0 : g ≠ 0) (h9 : g = 9 → S.1 9 0 ≤ v) : MJ σ0 (setN S g i v) H (wI σ (mA g) (mK 0 g + i) (encM g v)) := by
  obtain ⟨⟨h1, h2, h3, h4⟩, h5⟩ := h
  have hge := mA_ge hi
  have hT : S.1 9 0 ≤ (setN S g i v).1 9 0 := by
    rw [setN_at]
    split
    · next z => exact h9 z.1.symm
    · exact Nat.le_refl _
  refine ⟨⟨h1.putN hi, ⟨h2.1, ?_⟩, h3.w (by omega), by rw [setN_ne (Ne.symm h0)]; exact (h4.mono hT).w (Or.inl ha)⟩, h5.w hge.1⟩
  rw [wI_at, if_neg (fun z => hk z.1.symm z.2.symm)]; exact h2.2
theorem MJ.av {σ0 σ : Mm} {S : Sx} {H : Hx} (h : MJ σ0 S H σ) {i : Nat} {v : Int32} (hi : i < 600) : MJ σ0 (setV S 0 i v) H (wI σ 267 i v) := by
  obtain ⟨⟨h1, h2, h3, h4⟩, h5⟩ := h
  have q := h1.putV (g := 0) (i := i) (v := v) hi (by decide)
  refine ⟨⟨by simpa [vA, vAL, vK, vML] using q, ⟨h2.1, ?_⟩, h3.w (by decide), h4.w (Or.inl (by decide))⟩, h5.w (by decide)⟩
  rw [wI_at, if_neg (fun z => absurd z.1 (by decide))]; exact h2.2
theorem MJ.ow {σ0 σ : Mm} {S : Sx} {H : Hx} (h : MJ σ0 S H σ) (hB : Bd S) {g i v : Nat} (hi : i < mSL.getD g 0) (hm : mML.getD g 0 ≠ 0) : MJ σ0 (setN S g i v) H (wI σ (mA g) (mK 0 g + i) (encM g v)) :=
  h.mq hB ((Mq.rf h.1.1 h.1.2.1).putN hi hm) (by rw [setN_ne (fun z => hm (by rw [← z]; rfl))]) (by rw [setN_ne (fun z => hm (by rw [← z]; rfl))])
theorem Z_price {σ0 σ : Mm} {S : Sx} {H : Hx} (h : MJ σ0 S H σ) {i v : Nat} (hi : i < 16) : MJ σ0 (setN S 3 i v) H (wI σ 259 i (nI v)) := by
  have q := h.sh (g := 3) (i := i) (v := v) hi (by decide) (fun z => absurd z (by decide)) (by decide) (fun z => absurd z (by decide))
  simpa [mA, mAL, mK, mKL, mML, encM] using q
theorem Z_width {σ0 σ : Mm} {S : Sx} {H : Hx} (h : MJ σ0 S H σ) {i v : Nat} (hi : i < 16) : MJ σ0 (setN S 4 i v) H (wI σ 260 i (nI v)) := by
  have q := h.sh (g := 4) (i := i) (v := v) hi (by decide) (fun z => absurd z (by decide)) (by decide) (fun z => absurd z (by decide))
  simpa [mA, mAL, mK, mKL, mML, encM] using q
theorem Z_kind {σ0 σ : Mm} {S : Sx} {H : Hx} (h : MJ σ0 S H σ) {i v : Nat} (hi : i < 20) : MJ σ0 (setN S 8 i v) H (wI σ 262 i (nI v)) := by
  have q := h.sh (g := 8) (i := i) (v := v) hi (by decide) (fun z => absurd z (by decide)) (by decide) (fun z => absurd z (by decide))
  simpa [mA, mAL, mK, mKL, mML, encM] using q
theorem Z_told {σ0 σ : Mm} {S : Sx} {H : Hx} (h : MJ σ0 S H σ) {i v : Nat} (hi : i < 10) : MJ σ0 (setN S 10 i v) H (wI σ 263 i (nI v)) := by
  have q := h.sh (g := 10) (i := i) (v := v) hi (by decide) (fun z => absurd z (by decide)) (by decide) (fun z => absurd z (by decide))
  simpa [mA, mAL, mK, mKL, mML, encM] using q
theorem Z_aPage {σ0 σ : Mm} {S : Sx} {H : Hx} (h : MJ σ0 S H σ) {i v : Nat} (hi : i < 600) : MJ σ0 (setN S 11 i v) H (wI σ 264 i (nI v)) := by
  have q := h.sh (g := 11) (i := i) (v := v) hi (by decide) (fun z => absurd z (by decide)) (by decide) (fun z => absurd z (by decide))
  simpa [mA, mAL, mK, mKL, mML, encM] using q
theorem Z_aCell {σ0 σ : Mm} {S : Sx} {H : Hx} (h : MJ σ0 S H σ) {i v : Nat} (hi : i < 600) : MJ σ0 (setN S 12 i v) H (wI σ 265 i (nI v)) := by
  have q := h.sh (g := 12) (i := i) (v := v) hi (by decide) (fun z => absurd z (by decide)) (by decide) (fun z => absurd z (by decide))
  simpa [mA, mAL, mK, mKL, mML, encM] using q
theorem Z_aWrites {σ0 σ : Mm} {S : Sx} {H : Hx} (h : MJ σ0 S H σ) {i v : Nat} (hi : i < 600) : MJ σ0 (setN S 13 i v) H (wI σ 266 i (nI v)) := by
  have q := h.sh (g := 13) (i := i) (v := v) hi (by decide) (fun z => absurd z (by decide)) (by decide) (fun z => absurd z (by decide))
  simpa [mA, mAL, mK, mKL, mML, encM] using q
theorem Z_P {σ0 σ : Mm} {S : Sx} {H : Hx} (h : MJ σ0 S H σ) {v : Nat} : MJ σ0 (setN S 7 0 v) H (wI σ 258 7 (nI v)) := by
  have q := h.sh (g := 7) (i := 0) (v := v) (by decide) (by decide) (by decide) (by decide) (fun z => absurd z (by decide))
  simpa [mA, mAL, mK, mKL, mML, encM] using q
theorem Z_T {σ0 σ : Mm} {S : Sx} {H : Hx} (h : MJ σ0 S H σ) {v : Nat} (hv : S.1 9 0 ≤ v) : MJ σ0 (setN S 9 0 v) H (wI σ 258 9 (nI v)) := by
  have q := h.sh (g := 9) (i := 0) (v := v) (by decide) (by decide) (by decide) (by decide) (fun _ => hv)
  simpa [mA, mAL, mK, mKL, mML, encM] using q
theorem Z_faultPrice {σ0 σ : Mm} {S : Sx} {H : Hx} (h : MJ σ0 S H σ) {v : Nat} : MJ σ0 (setN S 14 0 v) H (wI σ 258 15 (nI v)) := by
  have q := h.sh (g := 14) (i := 0) (v := v) (by decide) (by decide) (by decide) (by decide) (fun z => absurd z (by decide))
  simpa [mA, mAL, mK, mKL, mML, encM] using q
theorem Z_movePrice {σ0 σ : Mm} {S : Sx} {H : Hx} (h : MJ σ0 S H σ) {v : Nat} : MJ σ0 (setN S 15 0 v) H (wI σ 258 16 (nI v)) := by
  have q := h.sh (g := 15) (i := 0) (v := v) (by decide) (by decide) (by decide) (by decide) (fun z => absurd z (by decide))
  simpa [mA, mAL, mK, mKL, mML, encM] using q
theorem Z_placing {σ0 σ : Mm} {S : Sx} {H : Hx} (h : MJ σ0 S H σ) (hB : Bd S) {v : Nat} : MJ σ0 (setN S 20 0 v) H (wI σ 268 0 (nI v)) := by
  have q := h.ow hB (g := 20) (i := 0) (v := v) (by decide) (by decide)
  simpa [mA, mAL, mK, mKL, mML, encM] using q
theorem Z_every {σ0 σ : Mm} {S : Sx} {H : Hx} (h : MJ σ0 S H σ) (hB : Bd S) {v : Nat} : MJ σ0 (setN S 21 0 v) H (wI σ 269 0 (nI v)) := by
  have q := h.ow hB (g := 21) (i := 0) (v := v) (by decide) (by decide)
  simpa [mA, mAL, mK, mKL, mML, encM] using q
theorem Z_gain {σ0 σ : Mm} {S : Sx} {H : Hx} (h : MJ σ0 S H σ) (hB : Bd S) {v : Nat} : MJ σ0 (setN S 22 0 v) H (wI σ 270 0 (nI v)) := by
  have q := h.ow hB (g := 22) (i := 0) (v := v) (by decide) (by decide)
  simpa [mA, mAL, mK, mKL, mML, encM] using q
theorem Z_stamps {σ0 σ : Mm} {S : Sx} {H : Hx} (h : MJ σ0 S H σ) (hB : Bd S) {v : Nat} : MJ σ0 (setN S 36 0 v) H (wI σ 278 0 (nI v)) := by
  have q := h.ow hB (g := 36) (i := 0) (v := v) (by decide) (by decide)
  simpa [mA, mAL, mK, mKL, mML, encM] using q
theorem Z_at {σ0 σ : Mm} {S : Sx} {H : Hx} (h : MJ σ0 S H σ) (hB : Bd S) {i v : Nat} (hi : i < 10) : MJ σ0 (setN S 29 i v) H (wI σ 287 i (nI v)) := by
  have q := h.ow hB (g := 29) (i := i) (v := v) hi (by decide)
  simpa [mA, mAL, mK, mKL, mML, encM] using q
theorem Z_stamp {σ0 σ : Mm} {S : Sx} {H : Hx} (h : MJ σ0 S H σ) (hB : Bd S) {i v : Nat} (hi : i < 10) : MJ σ0 (setN S 35 i v) H (wI σ 288 i (nI v)) := by
  have q := h.ow hB (g := 35) (i := i) (v := v) hi (by decide)
  simpa [mA, mAL, mK, mKL, mML, encM] using q
theorem Z_lies {σ0 σ : Mm} {S : Sx} {H : Hx} (h : MJ σ0 S H σ) (hB : Bd S) {i v : Nat} (hi : i < 20) : MJ σ0 (setN S 24 i v) H (wI σ 279 i (lzM v)) := by
  have q := h.ow hB (g := 24) (i := i) (v := v) hi (by decide)
  simpa [mA, mAL, mK, mKL, mML, encM] using q
section
variable {Ω : Nat × Nat} {M : MI} {K : Option Value → Mm → Prop} {pc : Nat} {ls : List (Option Value)} {st : List Value} {σ : Mm}
theorem gp_iast {a n j : Nat} {x : Int32} (d : decode (ic M) pc = .ok (.iastore, 1)) (ha : kw Ω a = (20, n)) (hj : j < n) {P : Mm → Prop} (hR : P (wI σ a j x)) (k : ∀ τ, P τ → G Ω M K (pc + 1) ls st τ) : G Ω M K pc ls (.int x :: .int (nI j) :: .ref a :: st) σ := g_iast d ha hj (k _ hR)
theorem gp_zast {a n j : Nat} {x : Int32} (d : decode (ic M) pc = .ok (.bastore, 1)) (ha : kw Ω a = (22, n)) (hj : j < n) (hx1 : x = 0 ∨ x = 1) {P : Mm → Prop} (hR : P (wI σ a j x)) (k : ∀ τ, P τ → G Ω M K (pc + 1) ls st τ) : G Ω M K pc ls (.int x :: .int (nI j) :: .ref a :: st) σ := g_zast d ha hj hx1 (k _ hR)
theorem gp_last {a n j : Nat} {x : Int64} (d : decode (ic M) pc = .ok (.lastore, 1)) (ha : kw Ω a = (21, n)) (hj : j < n) {P : Mm → Prop} (hR : P (wL σ a j x)) (k : ∀ τ, P τ → G Ω M K (pc + 1) ls st τ) : G Ω M K pc ls (.long x :: .int (nI j) :: .ref a :: st) σ := g_last d ha hj (k _ hR)
theorem gp_putI {idx a ci n k0 : Nat} {x : Int32} {ty : FieldType} (d : decode (ic M) pc = .ok (.putfield idx, 3)) (f : FP (iy M).cls idx ci k0 ty) (ha : kw Ω a = (ci, n)) (hq : ci < 20 ∧ k0 < n ∧ isR ci k0 = false) (hty : ty = .int ∨ (ty = .boolean ∧ (x = 0 ∨ x = 1))) {P : Mm → Prop} (hR : P (wI σ a k0 x)) (k : ∀ τ, P τ → G Ω M K (pc + 3) ls st τ) : G Ω M K pc ls (.int x :: .ref a :: st) σ := g_putI d f ha hq hty (k _ hR)
end
theorem M0_lies {σ : Mm} {S : Sx} (h : RepM 0 σ S) {i : Nat} (hi : i < 20) : σ.1 279 i = lzM (S.1 24 i) := by have q := M_lies h hi; simpa using q
