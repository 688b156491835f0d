/-! Shelves: copy, weight; the reference's toss. -/
def strB (n : Nat) (i m : Int32) : Bool := decide (0 ≤ m.toInt ∧ 0 ≤ i.toInt ∧ i.toInt + m.toInt ≤ (n : Int))
theorem sub_nn {n : Nat} {m : Int32} (hn : n ≤ 60) (h : 0 ≤ m.toInt) : (nI n - m).toInt = (n : Int) - m.toInt := by
  rw [Int32.toInt_sub, toInt_nI (by omega)]
  have h1 := m.toInt_lt
  exact Int.bmod_eq_of_le_mul_two (by omega) (by omega)
theorem lt0 {x : Int32} : x < 0 ↔ x.toInt < 0 := Int32.lt_iff_toInt_lt
theorem r_hasStretch {σ : Mm} {d n : Nat} {i m : Int32} (hd : d < 8) (hn : n ≤ 60) (hs : σ.1 (234 + 3 * d) 3 = nI n) : RI W0 mX8_hasStretch [.ref (234 + 3 * d), .int i, .int m] σ (fun r τ => r = bI (strB n i m) ∧ τ = σ) := by
  refine G.met (by decide) (Nat.le_of_ble_eq_true rfl) ?_
  show G _ _ _ 0 [some (.ref (234 + 3 * d)), some (.int i), some (.int m)] [] σ
  refine gs_iload_n dX8_hasStretch_0 rfl rfl ?_
  refine g_if_lt (tgt := 22) dX8_hasStretch_1 (by decide) (fun c1 => ?_) (fun c1 => ?_)
  · refine g_iconst (v := nI 0) dX8_hasStretch_22 (by decide) ?_
    refine g_zreturn dX8_hasStretch_23 rfl (by first | exact bI_01 _ | decide) ?_
    have h := lt0.mp c1
    exact ⟨_, rfl, by rw [strB, decide_eq_false (by omega)]; rfl, rfl⟩
  · refine gs_iload_n dX8_hasStretch_4 rfl rfl ?_
    refine g_if_lt (tgt := 22) dX8_hasStretch_5 (by decide) (fun c5 => ?_) (fun c5 => ?_)
    · refine g_iconst (v := nI 0) dX8_hasStretch_22 (by decide) ?_
      refine g_zreturn dX8_hasStretch_23 rfl (by first | exact bI_01 _ | decide) ?_
      have h := lt0.mp c5
      exact ⟨_, rfl, by rw [strB, decide_eq_false (by omega)]; rfl, rfl⟩
    · refine gs_iload_n dX8_hasStretch_8 rfl rfl ?_
      refine gs_aload_n dX8_hasStretch_9 rfl rfl ?_
      refine g_getI dX8_hasStretch_10 fX8_46 (kSh hd) (by decide) hs ?_
      refine gs_iload_n dX8_hasStretch_13 rfl rfl ?_
      refine g_isub dX8_hasStretch_14 rfl ?_
      refine g_icmp_gt (tgt := 22) dX8_hasStretch_15 (by decide) (fun c15 => ?_) (fun c15 => ?_)
      · refine g_iconst (v := nI 0) dX8_hasStretch_22 (by decide) ?_
        refine g_zreturn dX8_hasStretch_23 rfl (by first | exact bI_01 _ | decide) ?_
        have h1 : ¬ i.toInt < 0 := fun z => c1 (lt0.mpr z)
        have h5 : ¬ m.toInt < 0 := fun z => c5 (lt0.mpr z)
        have h := Int32.lt_iff_toInt_lt.mp c15
        rw [sub_nn hn (by omega)] at h
        exact ⟨_, rfl, by rw [strB, decide_eq_false (by omega)]; rfl, rfl⟩
      · refine g_iconst (v := nI 1) dX8_hasStretch_18 (by decide) ?_
        refine g_goto (tgt := 23) dX8_hasStretch_19 (by decide) ?_
        refine g_zreturn dX8_hasStretch_23 rfl (by first | exact bI_01 _ | decide) ?_
        have h1 : ¬ i.toInt < 0 := fun z => c1 (lt0.mpr z)
        have h5 : ¬ m.toInt < 0 := fun z => c5 (lt0.mpr z)
        have h : ¬ (nI n - m).toInt < i.toInt := fun z => c15 (Int32.lt_iff_toInt_lt.mpr z)
        rw [sub_nn hn (by omega)] at h
        exact ⟨_, rfl, by rw [strB, decide_eq_true (by omega)]; rfl, rfl⟩
theorem s_hasPlaces {σ : Mm} {d n : Nat} {i m : Int32} (hd : d < 8) (hn : n ≤ 60) (hs : σ.1 307 d = nI n) : RI W0 mX12_hasPlaces [.ref 258, .int (nI d), .int i, .int m] σ (fun r τ => r = bI (strB n i m) ∧ τ = σ) := by
  refine G.met (by decide) (Nat.le_of_ble_eq_true rfl) ?_
  show G _ _ _ 0 [some (.ref 258), some (.int (nI d)), some (.int i), some (.int m)] [] σ
  refine gs_iload_n dX12_hasPlaces_0 rfl rfl ?_
  refine g_if_lt (tgt := 34) dX12_hasPlaces_1 (by decide) (fun c1 => ?_) (fun c1 => ?_)
  · refine g_iconst (v := nI 0) dX12_hasPlaces_34 (by decide) ?_
    refine g_zreturn dX12_hasPlaces_35 rfl (by first | exact bI_01 _ | decide) ?_
    have h := lt0.mp c1
    exact ⟨_, rfl, by rw [strB, decide_eq_false (by omega)]; rfl, rfl⟩
  · refine gs_iload_n dX12_hasPlaces_4 rfl rfl ?_
    refine g_if_lt (tgt := 34) dX12_hasPlaces_5 (by decide) (fun c5 => ?_) (fun c5 => ?_)
    · refine g_iconst (v := nI 0) dX12_hasPlaces_34 (by decide) ?_
      refine g_zreturn dX12_hasPlaces_35 rfl (by first | exact bI_01 _ | decide) ?_
      have h := lt0.mp c5
      exact ⟨_, rfl, by rw [strB, decide_eq_false (by omega)]; rfl, rfl⟩
    · refine gs_iload_n dX12_hasPlaces_8 rfl rfl ?_
      refine gs_aload_n dX12_hasPlaces_9 rfl rfl ?_
      refine g_getR dX12_hasPlaces_10 fX12_163 kwM (by decide) rM_shelfSize ?_
      refine gs_iload_n dX12_hasPlaces_13 rfl rfl ?_
      refine g_iald dX12_hasPlaces_14 kw_shelfSize (by omega) hs ?_
      refine g_icmp_gt (tgt := 34) dX12_hasPlaces_15 (by decide) (fun c15 => ?_) (fun c15 => ?_)
      · refine g_iconst (v := nI 0) dX12_hasPlaces_34 (by decide) ?_
        refine g_zreturn dX12_hasPlaces_35 rfl (by first | exact bI_01 _ | decide) ?_
        have h1 : ¬ m.toInt < 0 := fun z => c1 (lt0.mpr z)
        have h := Int32.lt_iff_toInt_lt.mp c15
        rw [toInt_nI (by omega)] at h
        exact ⟨_, rfl, by rw [strB, decide_eq_false (by omega)]; rfl, rfl⟩
      · refine gs_iload_n dX12_hasPlaces_18 rfl rfl ?_
        refine gs_aload_n dX12_hasPlaces_19 rfl rfl ?_
        refine g_getR dX12_hasPlaces_20 fX12_163 kwM (by decide) rM_shelfSize ?_
        refine gs_iload_n dX12_hasPlaces_23 rfl rfl ?_
        refine g_iald dX12_hasPlaces_24 kw_shelfSize (by omega) hs ?_
        refine gs_iload_n dX12_hasPlaces_25 rfl rfl ?_
        refine g_isub dX12_hasPlaces_26 rfl ?_
        refine g_icmp_gt (tgt := 34) dX12_hasPlaces_27 (by decide) (fun c27 => ?_) (fun c27 => ?_)
        · refine g_iconst (v := nI 0) dX12_hasPlaces_34 (by decide) ?_
          refine g_zreturn dX12_hasPlaces_35 rfl (by first | exact bI_01 _ | decide) ?_
          have h5 : ¬ i.toInt < 0 := fun z => c5 (lt0.mpr z)
          have h := Int32.lt_iff_toInt_lt.mp c27
          rw [sub_nn hn (by omega)] at h
          exact ⟨_, rfl, by rw [strB, decide_eq_false (by omega)]; rfl, rfl⟩
        · refine g_iconst (v := nI 1) dX12_hasPlaces_30 (by decide) ?_
          refine g_goto (tgt := 35) dX12_hasPlaces_31 (by decide) ?_
          refine g_zreturn dX12_hasPlaces_35 rfl (by first | exact bI_01 _ | decide) ?_
          have h1 : ¬ m.toInt < 0 := fun z => c1 (lt0.mpr z)
          have h5 : ¬ i.toInt < 0 := fun z => c5 (lt0.mpr z)
          have h : ¬ (nI n - i).toInt < m.toInt := fun z => c27 (Int32.lt_iff_toInt_lt.mpr z)
          rw [sub_nn hn (by omega)] at h
          exact ⟨_, rfl, by rw [strB, decide_eq_true (by omega)]; rfl, rfl⟩
theorem strB_of {n : Nat} {i m : Int32} (h : strB n i m = true) : ∃ a c, i = nI a ∧ m = nI c ∧ a + c ≤ n ∧ nN i = a ∧ nN m = c := by
  rw [strB, decide_eq_true_eq] at h
  obtain ⟨h1, h2, h3⟩ := h
  obtain ⟨a, a1, a2, a3⟩ := nI_nn (x := i) (Int32.le_iff_toInt_le.mpr h2)
  obtain ⟨c, c1, c2, c3⟩ := nI_nn (x := m) (Int32.le_iff_toInt_le.mpr h1)
  refine ⟨a, c, a2, c2, ?_, a3, c3⟩
  unfold nN at a3 c3
  omega
def hcp (H : Hx) (d i e j n : Nat) : Hx := fun k x => if k = 4 ∧ 60 * e + j ≤ x ∧ x < 60 * e + j + n then H 4 (60 * d + i + (x - (60 * e + j))) else H k x
def szH (H : Hx) (d : Nat) : Nat := nN (H 1 d)
abbrev okCp (x y : Int32) : Bool := rg x 0 7 && rg y 0 7
def aCopy (H : Hx) (x i y j n : Int32) : Int32 := if okCp x y = true then (if H 0 (nN x) = nI 0 ∨ H 0 (nN y) = nI 0 then -11 else if H 0 (nN x) = nI 1 ∨ H 0 (nN x) ≠ H 0 (nN y) then -12 else if (strB (szH H (nN x)) i n && strB (szH H (nN y)) j n) = true then n else -13) else -1
def nCopy (H : Hx) (x i y j n : Int32) : Hx := if okCp x y = true then (if H 0 (nN x) = nI 0 ∨ H 0 (nN y) = nI 0 then H else if H 0 (nN x) = nI 1 ∨ H 0 (nN x) ≠ H 0 (nN y) then H else if (strB (szH H (nN x)) i n && strB (szH H (nN y)) j n) = true then hcp H (nN x) (nN i) (nN y) (nN j) (nN n) else H) else H
theorem r_isRow {σ : Mm} {d : Nat} {v : Int32} (hd : d < 8) (hs : σ.1 (234 + 3 * d) 2 = v) : RI W0 mX8_isRow [.ref (234 + 3 * d)] σ (fun r τ => r = bI (decide (v = nI 3 ∨ v = nI 4)) ∧ τ = σ) := by
  refine G.met (by decide) (Nat.le_of_ble_eq_true rfl) ?_
  show G _ _ _ 0 [some (.ref (234 + 3 * d))] [] σ
  refine gs_aload_n dX8_isRow_0 rfl rfl ?_
  refine g_getI dX8_isRow_1 fX8_19 (kSh hd) (by decide) hs ?_
  refine g_iconst (v := nI 3) dX8_isRow_4 (by decide) ?_
  refine g_icmp_eq (tgt := 16) dX8_isRow_5 (by decide) (fun c5 => ?_) (fun c5 => ?_)
  · refine g_iconst (v := nI 1) dX8_isRow_16 (by decide) ?_
    refine g_goto (tgt := 21) dX8_isRow_17 (by decide) ?_
    refine g_zreturn dX8_isRow_21 rfl (by first | exact bI_01 _ | decide) ?_
    exact ⟨_, rfl, by rw [decide_eq_true (Or.inl c5)]; rfl, rfl⟩
  · refine gs_aload_n dX8_isRow_8 rfl rfl ?_
    refine g_getI dX8_isRow_9 fX8_19 (kSh hd) (by decide) hs ?_
    refine g_iconst (v := nI 4) dX8_isRow_12 (by decide) ?_
    refine g_icmp_ne (tgt := 20) dX8_isRow_13 (by decide) (fun c13 => ?_) (fun c13 => ?_)
    · refine g_iconst (v := nI 0) dX8_isRow_20 (by decide) ?_
      refine g_zreturn dX8_isRow_21 rfl (by first | exact bI_01 _ | decide) ?_
      exact ⟨_, rfl, by rw [decide_eq_false (fun z => z.elim c5 c13)]; rfl, rfl⟩
    · refine g_iconst (v := nI 1) dX8_isRow_16 (by decide) ?_
      refine g_goto (tgt := 21) dX8_isRow_17 (by decide) ?_
      refine g_zreturn dX8_isRow_21 rfl (by first | exact bI_01 _ | decide) ?_
      exact ⟨_, rfl, by rw [decide_eq_true (Or.inr c13)]; rfl, rfl⟩
theorem hcp_k {H : Hx} {d i e j n k x : Nat} (h : k ≠ 4) : hcp H d i e j n k x = H k x := if_neg (fun z => h z.1)
theorem cp_C {σ : Mm} {S : Sx} {H : Hx} (h : CI σ S H) (hB : Bd S) {d i e j n n1 n2 : Nat} (hd : d < 8) (he : e < 8) (hw : H 0 d = nI 3 ∨ H 0 d = nI 4) (hde : H 0 d = H 0 e) (h1 : H 1 d = nI n1) (h2 : H 1 e = nI n2) (l1 : n1 ≤ 60) (l2 : n2 ≤ 60) (q1 : i + n ≤ n1) (q2 : j + n ≤ n2) : ∀ τ, ((H 0 d = nI 3 ∧ τ = cpI σ (235 + 3 * d) (235 + 3 * e) i j n) ∨ (H 0 d = nI 4 ∧ τ = cpI σ (236 + 3 * d) (236 + 3 * e) i j n)) → CI τ S (hcp H d i e j n) ∧ frK σ τ := by
  have er : ∀ (τ : Mm) (a0 a sp dp n x : Nat), x ≠ a → (cpI τ a0 a sp dp n).1 x = τ.1 x := fun τ a0 a sp dp n x hx => if_neg hx
  have nid : ∀ m m' : Nat, m ≤ 60 → m' ≤ 60 → nI m = nI m' → m = m' := fun m m' a b z => by
    have := congrArg Int32.toInt z
    rw [toInt_nI (by omega), toInt_nI (by omega)] at this
    omega
  have ho : ∀ x, ¬ (60 * e ≤ x ∧ x < 60 * e + 60) → hcp H d i e j n 4 x = H 4 x := fun x hx => if_neg (by omega)
  obtain ⟨g1, g2, g3, g4, g5⟩ := h.2.1 e he
  obtain ⟨f1, f2, f3, f4, f5⟩ := h.2.1 d hd
  rintro τ (⟨hw, rfl⟩ | ⟨hw, rfl⟩)
  · have hwe : H 0 e = nI 3 := by rw [← hde]; exact hw
    obtain ⟨m, m1, m2, m3, m4⟩ := f3 hw
    obtain ⟨k, k1, k2, k3, k4⟩ := g3 hwe
    have em : m = n1 := nid m n1 m1 l1 (by rw [← m2, h1])
    have ek : k = n2 := nid k n2 k1 l2 (by rw [← k2, h2])
    subst em; subst ek
    refine h.sh hB he (fun a ha => er _ _ _ _ _ _ _ (by omega)) rfl (fun k x hk hx => hcp_k (by omega)) ho ⟨?_, ?_, ?_, ?_, ?_⟩
    · rw [hcp_k (by decide), er _ _ _ _ _ _ _ (by omega)]; exact g1
    · rw [hcp_k (by decide)]; exact g2
    · intro _
      refine ⟨k, k1, by rw [hcp_k (by decide)]; exact k2, by rw [er _ _ _ _ _ _ _ (by omega)]; exact k3, fun x hx => ?_⟩
      rw [cpI_at, if_pos rfl]
      by_cases z : j ≤ x ∧ x < j + n
      · have ev : hcp H d i e j n 4 (60 * e + x) = H 4 (60 * d + (i + (x - j))) := by
          show (if 4 = 4 ∧ 60 * e + j ≤ 60 * e + x ∧ 60 * e + x < 60 * e + j + n then H 4 (60 * d + i + (60 * e + x - (60 * e + j))) else _) = _
          rw [if_pos ⟨rfl, by omega, by omega⟩, show 60 * d + i + (60 * e + x - (60 * e + j)) = 60 * d + (i + (x - j)) from by omega]
        rw [if_pos z, ev]
        exact m4 (i + (x - j)) (by omega)
      · have ev : hcp H d i e j n 4 (60 * e + x) = H 4 (60 * e + x) := if_neg (by omega)
        rw [if_neg z, ev]
        exact k4 x hx
    · rw [hcp_k (by decide), hwe]; intro q; exact absurd q (by decide)
    · rw [hcp_k (by decide), hwe]; intro q; exact absurd q (by decide)
  · have hwe : H 0 e = nI 4 := by rw [← hde]; exact hw
    obtain ⟨m, m1, m2, m3, m4⟩ := f4 hw
    obtain ⟨k, k1, k2, k3, k4⟩ := g4 hwe
    have em : m = n1 := nid m n1 m1 l1 (by rw [← m2, h1])
    have ek : k = n2 := nid k n2 k1 l2 (by rw [← k2, h2])
    subst em; subst ek
    refine h.sh hB he (fun a ha => er _ _ _ _ _ _ _ (by omega)) rfl (fun k x hk hx => hcp_k (by omega)) ho ⟨?_, ?_, ?_, ?_, ?_⟩
    · rw [hcp_k (by decide), er _ _ _ _ _ _ _ (by omega)]; exact g1
    · rw [hcp_k (by decide)]; exact g2
    · rw [hcp_k (by decide), hwe]; intro q; exact absurd q (by decide)
    · intro _
      refine ⟨k, k1, by rw [hcp_k (by decide)]; exact k2, by rw [er _ _ _ _ _ _ _ (by omega)]; exact k3, fun x hx => ?_⟩
      rw [cpI_at, if_pos rfl]
      by_cases z : j ≤ x ∧ x < j + n
      · have ev : hcp H d i e j n 4 (60 * e + x) = H 4 (60 * d + (i + (x - j))) := by
          show (if 4 = 4 ∧ 60 * e + j ≤ 60 * e + x ∧ 60 * e + x < 60 * e + j + n then H 4 (60 * d + i + (60 * e + x - (60 * e + j))) else _) = _
          rw [if_pos ⟨rfl, by omega, by omega⟩, show 60 * d + i + (60 * e + x - (60 * e + j)) = 60 * d + (i + (x - j)) from by omega]
        rw [if_pos z, ev]
        exact m4 (i + (x - j)) (by omega)
      · have ev : hcp H d i e j n 4 (60 * e + x) = H 4 (60 * e + x) := if_neg (by omega)
        rw [if_neg z, ev]
        exact k4 x hx
    · rw [hcp_k (by decide), hwe]; intro q; exact absurd q (by decide)
theorem a_copy {σ : Mm} {S : Sx} {H : Hx} (hJ : CI σ S H) (hPI : PI S) (x i y j n : Int32) : RI W0 mX11_copy [.ref 0, .int x, .int i, .int y, .int j, .int n] σ (fun r τ => r = aCopy H x i y j n ∧ CI τ S (nCopy H x i y j n) ∧ frK σ τ) := by
  have hJ0 := hJ
  obtain ⟨⟨Tf, hR, hTk⟩, hSh, hTr1, hTr2⟩ := hJ
  have hb : mch 57 := Or.inl rfl
  have hB : Bd S := hPI.1.1.1.1
  have b0 := B_nodes hB 0
  have bP := B_P hB 0
  have bT := B_T hB 0
  refine G.met (by decide) (Nat.le_of_ble_eq_true rfl) ?_
  show G _ _ _ 0 [some (.ref 0), some (.int x), some (.int i), some (.int y), some (.int j), some (.int n), none, none] [] σ
  refine gs_iload_n dX11_copy_0 rfl rfl ?_
  refine g_cSI1 dX11_copy_1 vX11_306 (by decide) (Nat.le_of_ble_eq_true rfl) (c_isShelf _) ?_
  rintro _ σ ⟨rfl, e9⟩
  subst e9
  refine gb_if_eq (tgt := 14) dX11_copy_4 (by decide) (fun c4 => ?_) (fun c4 => ?_)
  · refine g_iconst (v := -1) dX11_copy_14 (by decide) ?_
    refine g_ireturn dX11_copy_15 rfl ?_
    exact ⟨_, rfl, by rw [aCopy, if_neg (nb1 c4)], by rw [nCopy, if_neg (nb1 c4)]; exact ⟨hJ0, frK.rf _⟩⟩
  · refine gs_iload_n dX11_copy_7 rfl rfl ?_
    refine g_cSI1 dX11_copy_8 vX11_306 (by decide) (Nat.le_of_ble_eq_true rfl) (c_isShelf _) ?_
    rintro _ σ ⟨rfl, e9⟩
    subst e9
    refine gb_if_ne (tgt := 16) dX11_copy_11 (by decide) (fun c11 => ?_) (fun c11 => ?_)
    · have ok : okCp x y = true := yb c4 c11
      obtain ⟨d, hdll, hdl, rfl⟩ := rg_of c4
      obtain ⟨e, hell, hel, rfl⟩ := rg_of c11
      have hd : d < 8 := by omega
      have he : e < 8 := by omega
      have hok := hSh.ok
      refine gs_aload_n dX11_copy_16 rfl rfl ?_
      refine g_getR dX11_copy_17 fX11_41 kFC (by decide) rFC_shelves ?_
      refine gs_iload_n dX11_copy_20 rfl rfl ?_
      refine g_aald26 dX11_copy_21 kShs hd (rSh hd) ?_
      refine gs_astore (ls' := [_, _, _, _, _, _, _, _]) dX11_copy_22 rfl rfl ?_
      refine gs_aload_n dX11_copy_24 rfl rfl ?_
      refine g_getR dX11_copy_25 fX11_41 kFC (by decide) rFC_shelves ?_
      refine gs_iload_n dX11_copy_28 rfl rfl ?_
      refine g_aald26 dX11_copy_29 kShs he (rSh he) ?_
      refine gs_astore (ls' := [_, _, _, _, _, _, _, _]) dX11_copy_30 rfl rfl ?_
      refine g_aload dX11_copy_32 rfl ?_
      refine g_getI dX11_copy_34 fX11_309 (kSh hd) (by decide) (hSh d hd).1 ?_
      refine g_if_eq (tgt := 48) dX11_copy_37 (by decide) (fun c37 => ?_) (fun c37 => ?_)
      · refine g_bipush (v := -11) dX11_copy_48 (by decide) ?_
        refine g_ireturn dX11_copy_50 rfl ?_
        exact ⟨_, rfl, by rw [aCopy, if_pos ok, nN_n (by omega), nN_n (by omega), if_pos (show H 0 d = nI 0 ∨ H 0 e = nI 0 from Or.inl c37)], by rw [nCopy, if_pos ok, nN_n (by omega), nN_n (by omega), if_pos (show H 0 d = nI 0 ∨ H 0 e = nI 0 from Or.inl c37)]; exact ⟨hJ0, frK.rf _⟩⟩
      · refine g_aload dX11_copy_40 rfl ?_
        refine g_getI dX11_copy_42 fX11_309 (kSh he) (by decide) (hSh e he).1 ?_
        refine g_if_ne (tgt := 51) dX11_copy_45 (by decide) (fun c45 => ?_) (fun c45 => ?_)
        · refine g_aload dX11_copy_51 rfl ?_
          refine g_cVI0 dX11_copy_53 vX11_329 (by decide) (kSh hd) (by decide) (Nat.le_of_ble_eq_true rfl) (r_isRow hd (hSh d hd).1) ?_
          rintro _ σ ⟨rfl, e9⟩
          subst e9
          refine gb_if_eq (tgt := 72) dX11_copy_56 (by decide) (fun c56 => ?_) (fun c56 => ?_)
          · refine g_bipush (v := -12) dX11_copy_72 (by decide) ?_
            refine g_ireturn dX11_copy_74 rfl ?_
            have hn1 : H 0 d = nI 1 := by
              have := of_decide_eq_false c56
              rcases (hok d hd).1 with q | q | q | q
              · exact absurd q c37
              · exact q
              · exact absurd (Or.inl q) this
              · exact absurd (Or.inr q) this
            exact ⟨_, rfl, by rw [aCopy, if_pos ok, nN_n (by omega), nN_n (by omega), if_neg (fun z => z.elim c37 c45), if_pos (Or.inl hn1)], by rw [nCopy, if_pos ok, nN_n (by omega), nN_n (by omega), if_neg (fun z => z.elim c37 c45), if_pos (Or.inl hn1)]; exact ⟨hJ0, frK.rf _⟩⟩
          · refine g_aload dX11_copy_59 rfl ?_
            refine g_getI dX11_copy_61 fX11_309 (kSh hd) (by decide) (hSh d hd).1 ?_
            refine g_aload dX11_copy_64 rfl ?_
            refine g_getI dX11_copy_66 fX11_309 (kSh he) (by decide) (hSh e he).1 ?_
            refine g_icmp_eq (tgt := 75) dX11_copy_69 (by decide) (fun c69 => ?_) (fun c69 => ?_)
            · have hwd : H 0 d = nI 3 ∨ H 0 d = nI 4 := of_decide_eq_true c56
              have hn1 : ¬ (H 0 d = nI 1 ∨ H 0 d ≠ H 0 e) := fun z => z.elim (fun q => by rw [q] at hwd; exact absurd hwd (by decide)) (fun q => q c69)
              obtain ⟨n1, l1, h1⟩ := (hok d hd).2 hwd
              obtain ⟨n2, l2, h2⟩ := (hok e he).2 (by rw [← c69]; exact hwd)
              have z1 : szH H d = n1 := by rw [szH, h1, nN_n (by omega)]
              have z2 : szH H e = n2 := by rw [szH, h2, nN_n (by omega)]
              have s1 : σ.1 (234 + 3 * d) 3 = nI n1 := by
                rcases hwd with q | q
                · obtain ⟨m, -, m2, m3, -⟩ := (hSh d hd).2.2.1 q; rw [m3, ← m2, h1]
                · obtain ⟨m, -, m2, m3, -⟩ := (hSh d hd).2.2.2.1 q; rw [m3, ← m2, h1]
              have s2 : σ.1 (234 + 3 * e) 3 = nI n2 := by
                rcases hwd with q | q
                · obtain ⟨m, -, m2, m3, -⟩ := (hSh e he).2.2.1 (by rw [← c69]; exact q); rw [m3, ← m2, h2]
                · obtain ⟨m, -, m2, m3, -⟩ := (hSh e he).2.2.2.1 (by rw [← c69]; exact q); rw [m3, ← m2, h2]
              refine g_aload dX11_copy_75 rfl ?_
              refine gs_iload_n dX11_copy_77 rfl rfl ?_
              refine g_iload dX11_copy_78 rfl ?_
              refine g_cVI2 dX11_copy_80 vX11_346 (by decide) (kSh hd) (by decide) (Nat.le_of_ble_eq_true rfl) (r_hasStretch hd l1 s1) ?_
              rintro _ σ ⟨rfl, e9⟩
              subst e9
              refine gb_if_eq (tgt := 98) dX11_copy_83 (by decide) (fun c83 => ?_) (fun c83 => ?_)
              · refine g_bipush (v := -13) dX11_copy_98 (by decide) ?_
                refine g_ireturn dX11_copy_100 rfl ?_
                exact ⟨_, rfl, by rw [aCopy, if_pos ok, nN_n (by omega), nN_n (by omega), if_neg (fun z => z.elim c37 c45), if_neg hn1, if_neg (by rw [z1, z2]; exact nb1 c83)], by rw [nCopy, if_pos ok, nN_n (by omega), nN_n (by omega), if_neg (fun z => z.elim c37 c45), if_neg hn1, if_neg (by rw [z1, z2]; exact nb1 c83)]; exact ⟨hJ0, frK.rf _⟩⟩
              · refine g_aload dX11_copy_86 rfl ?_
                refine g_iload dX11_copy_88 rfl ?_
                refine g_iload dX11_copy_90 rfl ?_
                refine g_cVI2 dX11_copy_92 vX11_346 (by decide) (kSh he) (by decide) (Nat.le_of_ble_eq_true rfl) (r_hasStretch he l2 s2) ?_
                rintro _ σ ⟨rfl, e9⟩
                subst e9
                refine gb_if_ne (tgt := 101) dX11_copy_95 (by decide) (fun c95 => ?_) (fun c95 => ?_)
                · have h13 : (strB (szH H d) i n && strB (szH H e) j n) = true := by rw [z1, z2]; exact yb c83 c95
                  have eA : aCopy H (nI d) i (nI e) j n = n := by rw [aCopy, if_pos ok, nN_n (by omega), nN_n (by omega), if_neg (fun z => z.elim c37 c45), if_neg hn1, if_pos h13]
                  have eN : nCopy H (nI d) i (nI e) j n = hcp H d (nN i) e (nN j) (nN n) := by rw [nCopy, if_pos ok, nN_n (by omega), nN_n (by omega), if_neg (fun z => z.elim c37 c45), if_neg hn1, if_pos h13]
                  obtain ⟨i1, m1, rfl, rfl, k1, k2, k3⟩ := strB_of c83
                  obtain ⟨j1, m2, rfl, em, k4, k5, k6⟩ := strB_of c95
                  have emm : m2 = m1 := by rw [← k6, k3]
                  subst emm
                  rw [k2, k3, k5] at eN
                  have hby : H 0 d = nI 3 → ∀ x, x < m2 → ∃ v, v ≤ 100 ∧ σ.1 (235 + 3 * d) (i1 + x) = nI v := fun q x hx => by
                    obtain ⟨m, g1, g2, g3, g4⟩ := (hSh d hd).2.2.1 q
                    have e1 : m = n1 := by
                      have := congrArg Int32.toInt (g2.symm.trans h1)
                      rw [toInt_nI (by omega), toInt_nI (by omega)] at this
                      omega
                    obtain ⟨w1, w2⟩ := g4 (i1 + x) (by omega)
                    rw [w1]; exact w2
                  refine g_aload dX11_copy_101 rfl ?_
                  refine g_getI dX11_copy_103 fX11_309 (kSh hd) (by decide) (hSh d hd).1 ?_
                  refine g_iconst (v := nI 3) dX11_copy_106 (by decide) ?_
                  refine g_icmp_ne (tgt := 131) dX11_copy_107 (by decide) (fun c107 => ?_) (fun c107 => ?_)
                  · refine g_aload dX11_copy_131 rfl ?_
                    refine g_getR dX11_copy_133 fX11_343 (kSh hd) (by decide) (rSh_ints hd) ?_
                    refine gs_iload_n dX11_copy_136 rfl rfl ?_
                    refine g_aload dX11_copy_137 rfl ?_
                    refine g_getR dX11_copy_139 fX11_343 (kSh he) (by decide) (rSh_ints he) ?_
                    refine g_iload dX11_copy_142 rfl ?_
                    refine g_iload dX11_copy_144 rfl ?_
                    refine g_copyI dX11_copy_146 acL11 (kSh_ints hd) (kSh_ints he) (by omega) (by omega) (by decide) (by decide) (by decide) (Nat.le_of_ble_eq_true rfl) ?_
                    refine g_iload dX11_copy_149 rfl ?_
                    refine g_ireturn dX11_copy_151 rfl ?_
                    exact ⟨_, rfl, by rw [eA], by rw [eN]; exact cp_C hJ0 hB hd he hwd c69 h1 h2 l1 l2 (by omega) (by omega) _ (Or.inr ⟨hwd.resolve_left c107, rfl⟩)⟩
                  · refine g_aload dX11_copy_110 rfl ?_
                    refine g_getR dX11_copy_112 fX11_339 (kSh hd) (by decide) (rSh_bytes hd) ?_
                    refine gs_iload_n dX11_copy_115 rfl rfl ?_
                    refine g_aload dX11_copy_116 rfl ?_
                    refine g_getR dX11_copy_118 fX11_339 (kSh he) (by decide) (rSh_bytes he) ?_
                    refine g_iload dX11_copy_121 rfl ?_
                    refine g_iload dX11_copy_123 rfl ?_
                    refine g_copyB dX11_copy_125 acL11 (kSh_bytes hd) (kSh_bytes he) (by omega) (by omega) (by decide) (by decide) (hby c107) (by decide) (Nat.le_of_ble_eq_true rfl) ?_
                    refine g_goto (tgt := 149) dX11_copy_128 (by decide) ?_
                    refine g_iload dX11_copy_149 rfl ?_
                    refine g_ireturn dX11_copy_151 rfl ?_
                    exact ⟨_, rfl, by rw [eA], by rw [eN]; exact cp_C hJ0 hB hd he hwd c69 h1 h2 l1 l2 (by omega) (by omega) _ (Or.inl ⟨c107, rfl⟩)⟩
                · refine g_bipush (v := -13) dX11_copy_98 (by decide) ?_
                  refine g_ireturn dX11_copy_100 rfl ?_
                  exact ⟨_, rfl, by rw [aCopy, if_pos ok, nN_n (by omega), nN_n (by omega), if_neg (fun z => z.elim c37 c45), if_neg hn1, if_neg (by rw [z1, z2]; exact nb2 (nbf c95))], by rw [nCopy, if_pos ok, nN_n (by omega), nN_n (by omega), if_neg (fun z => z.elim c37 c45), if_neg hn1, if_neg (by rw [z1, z2]; exact nb2 (nbf c95))]; exact ⟨hJ0, frK.rf _⟩⟩
            · refine g_bipush (v := -12) dX11_copy_72 (by decide) ?_
              refine g_ireturn dX11_copy_74 rfl ?_
              exact ⟨_, rfl, by rw [aCopy, if_pos ok, nN_n (by omega), nN_n (by omega), if_neg (fun z => z.elim c37 c45), if_pos (Or.inr c69)], by rw [nCopy, if_pos ok, nN_n (by omega), nN_n (by omega), if_neg (fun z => z.elim c37 c45), if_pos (Or.inr c69)]; exact ⟨hJ0, frK.rf _⟩⟩
        · refine g_bipush (v := -11) dX11_copy_48 (by decide) ?_
          refine g_ireturn dX11_copy_50 rfl ?_
          exact ⟨_, rfl, by rw [aCopy, if_pos ok, nN_n (by omega), nN_n (by omega), if_pos (show H 0 d = nI 0 ∨ H 0 e = nI 0 from Or.inr c45)], by rw [nCopy, if_pos ok, nN_n (by omega), nN_n (by omega), if_pos (show H 0 d = nI 0 ∨ H 0 e = nI 0 from Or.inr c45)]; exact ⟨hJ0, frK.rf _⟩⟩
    · refine g_iconst (v := -1) dX11_copy_14 (by decide) ?_
      refine g_ireturn dX11_copy_15 rfl ?_
      exact ⟨_, rfl, by rw [aCopy, if_neg (nb2 (nbf c11))], by rw [nCopy, if_neg (nb2 (nbf c11))]; exact ⟨hJ0, frK.rf _⟩⟩
theorem MJ.btw {σ0 σ : Mm} {S : Sx} {H : Hx} (h : MJ σ0 S H σ) {j : Nat} {v : Int32} : MJ σ0 S H (wI σ 311 j v) := by
  refine h.h (by decide) ?_
  have hs := h.1.2.2.1
  have e : ∀ x, x ≠ 311 → (wI σ 311 j v).1 x = σ.1 x := fun x hx => if_neg hx
  unfold ShM
  rw [e 306 (by decide), e 307 (by decide), e 308 (by decide), e 309 (by decide), e 310 (by decide)]
  exact hs
def Btw (H : Hx) (b n : Nat) (σ : Mm) : Prop := ∀ x, x < n → σ.1 311 x = H 4 (b + x)
theorem l_cp1 {σ0 : Mm} {S : Sx} {H : Hx} {K : Option Value → Mm → Prop} {d i e j n : Nat} (hd : d < 8) (he : e < 8) (h1 : i + n ≤ 60) (h2 : j + n ≤ 60) (hK : ∀ τ, MJ σ0 S H τ → Btw H (60 * d + i) n τ → G W0 mX12_copy K 133 [some (.ref 258), some (.int (nI d)), some (.int (nI i)), some (.int (nI e)), some (.int (nI j)), some (.int (nI n)), none] [] τ) : ∀ k x σ, x + k = n → MJ σ0 S H σ → Btw H (60 * d + i) x σ → G W0 mX12_copy K 99 [some (.ref 258), some (.int (nI d)), some (.int (nI i)), some (.int (nI e)), some (.int (nI j)), some (.int (nI n)), some (.int (nI x))] [] σ := by
  intro k
  induction k with
  | zero =>
    intro x σ hx hQ hb
    have e9 : x = n := by omega
    refine g_iload dX12_copy_99 rfl ?_
    refine g_iload dX12_copy_101 rfl ?_
    refine gt_icmp_ge (tgt := 133) dX12_copy_103 (by decide) (by omega) (by omega) (by omega) ?_
    refine G.drop 6 (ls' := [_, _, _, _, _, _, none]) rfl ?_
    rw [e9] at hb
    exact hK σ hQ hb
  | succ k ih =>
    intro x σ hx hQ hb
    have hs := hQ.1.2.2.1.2 (60 * d + i + x) (by omega)
    refine g_iload dX12_copy_99 rfl ?_
    refine g_iload dX12_copy_101 rfl ?_
    refine gf_icmp_ge (tgt := 133) dX12_copy_103 (by decide) (by omega) (by omega) (by omega) ?_
    refine gs_aload_n dX12_copy_106 rfl rfl ?_
    refine g_getR dX12_copy_107 fX12_175 kwM (by decide) rM_between ?_
    refine g_iload dX12_copy_110 rfl ?_
    refine gs_aload_n dX12_copy_112 rfl rfl ?_
    refine g_getR dX12_copy_113 fX12_172 kwM (by decide) rM_shelfRow ?_
    refine g_bipush (v := nI 60) dX12_copy_116 (by decide) ?_
    refine gs_iload_n dX12_copy_118 rfl rfl ?_
    refine g_imul dX12_copy_119 (by first | exact pk_mul _ _ | rfl) ?_
    refine gs_iload_n dX12_copy_120 rfl rfl ?_
    refine g_iadd dX12_copy_121 (by first | exact nI_add _ _ | rfl) ?_
    refine g_iload dX12_copy_122 rfl ?_
    refine g_iadd dX12_copy_124 (by first | exact nI_add _ _ | rfl) ?_
    refine g_iald dX12_copy_125 kw_shelfRow (by omega) hs ?_
    refine g_iast dX12_copy_126 kw_between (by omega) ?_
    refine gs_iinc (ls' := [_, _, _, _, _, _, _]) dX12_copy_127 rfl (nI_add _ 1) rfl rfl ?_
    refine g_goto (tgt := 99) dX12_copy_130 (by decide) ?_
    refine ih (x + 1) _ (by omega) hQ.btw (fun y hy => ?_)
    rw [wI_at]
    by_cases z : y = x
    · rw [if_pos ⟨rfl, z⟩, z]
    · rw [if_neg (fun q => z q.2)]; exact hb y (by omega)
def hcx (H : Hx) (b c n : Nat) : Hx := fun k x => if k = 4 ∧ c ≤ x ∧ x < c + n then H 4 (b + (x - c)) else H k x
theorem hcx_0 (H : Hx) (b c : Nat) : hcx H b c 0 = H := by
  funext k x
  exact if_neg (by omega)
theorem hcx_s (H : Hx) (b c n : Nat) : hw (hcx H b c n) 4 (c + n) (H 4 (b + n)) = hcx H b c (n + 1) := by
  funext k x
  show (if k = 4 ∧ x = c + n then H 4 (b + n) else (if k = 4 ∧ c ≤ x ∧ x < c + n then H 4 (b + (x - c)) else H k x)) = (if k = 4 ∧ c ≤ x ∧ x < c + (n + 1) then H 4 (b + (x - c)) else H k x)
  by_cases h1 : k = 4 ∧ x = c + n
  · rw [if_pos h1, if_pos ⟨h1.1, by omega, by omega⟩, h1.2, Nat.add_sub_cancel_left]
  · rw [if_neg h1]
    by_cases h2 : k = 4 ∧ c ≤ x ∧ x < c + n
    · rw [if_pos h2, if_pos ⟨h2.1, h2.2.1, by omega⟩]
    · rw [if_neg h2, if_neg (fun z => by omega)]
theorem l_cp2 {σ0 : Mm} {S : Sx} {H : Hx} {K : Option Value → Mm → Prop} {d i e j n : Nat} (hd : d < 8) (he : e < 8) (h1 : i + n ≤ 60) (h2 : j + n ≤ 60) (hK : ∀ τ, MJ σ0 S (hcx H (60 * d + i) (60 * e + j) n) τ → K (some (.int (nI n))) τ) : ∀ k x σ, x + k = n → MJ σ0 S (hcx H (60 * d + i) (60 * e + j) x) σ → Btw H (60 * d + i) n σ → G W0 mX12_copy K 136 [some (.ref 258), some (.int (nI d)), some (.int (nI i)), some (.int (nI e)), some (.int (nI j)), some (.int (nI n)), some (.int (nI x))] [] σ := by
  intro k
  induction k with
  | zero =>
    intro x σ hx hQ hb
    have e9 : x = n := by omega
    refine g_iload dX12_copy_136 rfl ?_
    refine g_iload dX12_copy_138 rfl ?_
    refine gt_icmp_ge (tgt := 171) dX12_copy_140 (by decide) (by omega) (by omega) (by omega) ?_
    refine g_iload dX12_copy_171 rfl ?_
    refine g_ireturn dX12_copy_173 rfl ?_
    rw [e9] at hQ
    exact hK σ hQ
  | succ k ih =>
    intro x σ hx hQ hb
    have hs := hb x (by omega)
    refine g_iload dX12_copy_136 rfl ?_
    refine g_iload dX12_copy_138 rfl ?_
    refine gf_icmp_ge (tgt := 171) dX12_copy_140 (by decide) (by omega) (by omega) (by omega) ?_
    refine gs_aload_n dX12_copy_143 rfl rfl ?_
    refine g_getR dX12_copy_144 fX12_172 kwM (by decide) rM_shelfRow ?_
    refine g_bipush (v := nI 60) dX12_copy_147 (by decide) ?_
    refine gs_iload_n dX12_copy_149 rfl rfl ?_
    refine g_imul dX12_copy_150 (by first | exact pk_mul _ _ | rfl) ?_
    refine g_iload dX12_copy_151 rfl ?_
    refine g_iadd dX12_copy_153 (by first | exact nI_add _ _ | rfl) ?_
    refine g_iload dX12_copy_154 rfl ?_
    refine g_iadd dX12_copy_156 (by first | exact nI_add _ _ | rfl) ?_
    refine gs_aload_n dX12_copy_157 rfl rfl ?_
    refine g_getR dX12_copy_158 fX12_175 kwM (by decide) rM_between ?_
    refine g_iload dX12_copy_161 rfl ?_
    refine g_iald dX12_copy_163 kw_between (by omega) hs ?_
    refine g_iast dX12_copy_164 kw_shelfRow (by omega) ?_
    refine gs_iinc (ls' := [_, _, _, _, _, _, _]) dX12_copy_165 rfl (nI_add _ 1) rfl rfl ?_
    refine g_goto (tgt := 136) dX12_copy_168 (by decide) ?_
    refine ih (x + 1) _ (by omega) ?_ (fun y hy => ?_)
    · rw [← hcx_s]; exact ZH4 hQ
    · rw [wI_at, if_neg (by omega)]; exact hb y hy
theorem n_copy {σ : Mm} {S : Sx} {H : Hx} (hJ : MI_ σ S H) (hPI : PI S) (x i y j n : Int32) (hok : Hok H) : RI W0 mX12_copy [.ref 258, .int x, .int i, .int y, .int j, .int n] σ (fun r τ => r = aCopy H x i y j n ∧ MJ σ S (nCopy H x i y j n) τ) := by
  have hB : Bd S := hPI.1.1.1.1
  have b0 := B_nodes hB 0
  have bP := B_P hB 0
  have bT := B_T hB 0
  refine G.met (by decide) (Nat.le_of_ble_eq_true rfl) ?_
  show G _ _ _ 0 [some (.ref 258), some (.int x), some (.int i), some (.int y), some (.int j), some (.int n), none] [] σ
  refine gs_aload_n dX12_copy_0 rfl rfl ?_
  refine g_iconst (v := nI 0) dX12_copy_1 (by decide) ?_
  refine gp_putI dX12_copy_2 pX12_194 kwM (by decide) (Or.inl rfl) ((MJ.rf hJ).off off0 (by decide)) (fun σ hQ => ?_)
  have hM := hQ.1.1
  have hC0 := hQ.1.2.1
  refine gs_iload_n dX12_copy_5 rfl rfl ?_
  refine g_cSI1 dX12_copy_6 vX12_343 (by decide) (Nat.le_of_ble_eq_true rfl) (s_isShelf _) ?_
  rintro _ σ ⟨rfl, e9⟩
  subst e9
  refine gb_if_eq (tgt := 19) dX12_copy_9 (by decide) (fun c9 => ?_) (fun c9 => ?_)
  · refine g_iconst (v := -1) dX12_copy_19 (by decide) ?_
    refine g_ireturn dX12_copy_20 rfl ?_
    exact ⟨_, rfl, by rw [aCopy, if_neg (nb1 c9)], by rw [nCopy, if_neg (nb1 c9)]; exact hQ⟩
  · refine gs_iload_n dX12_copy_12 rfl rfl ?_
    refine g_cSI1 dX12_copy_13 vX12_343 (by decide) (Nat.le_of_ble_eq_true rfl) (s_isShelf _) ?_
    rintro _ σ ⟨rfl, e9⟩
    subst e9
    refine gb_if_ne (tgt := 21) dX12_copy_16 (by decide) (fun c16 => ?_) (fun c16 => ?_)
    · have ok : okCp x y = true := yb c9 c16
      obtain ⟨d, hdll, hdl, rfl⟩ := rg_of c9
      obtain ⟨e, hell, hel, rfl⟩ := rg_of c16
      have hd : d < 8 := by omega
      have he : e < 8 := by omega
      refine gs_aload_n dX12_copy_21 rfl rfl ?_
      refine g_getR dX12_copy_22 fX12_160 kwM (by decide) rM_shelf ?_
      refine gs_iload_n dX12_copy_25 rfl rfl ?_
      refine g_iald dX12_copy_26 kw_shelf (by omega) (MH0 hQ hd) ?_
      refine g_if_eq (tgt := 39) dX12_copy_27 (by decide) (fun c27 => ?_) (fun c27 => ?_)
      · refine g_bipush (v := -11) dX12_copy_39 (by decide) ?_
        refine g_ireturn dX12_copy_41 rfl ?_
        exact ⟨_, rfl, by rw [aCopy, if_pos ok, nN_n (by omega), nN_n (by omega), if_pos (show H 0 d = nI 0 ∨ H 0 e = nI 0 from Or.inl c27)], by rw [nCopy, if_pos ok, nN_n (by omega), nN_n (by omega), if_pos (show H 0 d = nI 0 ∨ H 0 e = nI 0 from Or.inl c27)]; exact hQ⟩
      · refine gs_aload_n dX12_copy_30 rfl rfl ?_
        refine g_getR dX12_copy_31 fX12_160 kwM (by decide) rM_shelf ?_
        refine gs_iload_n dX12_copy_34 rfl rfl ?_
        refine g_iald dX12_copy_35 kw_shelf (by omega) (MH0 hQ he) ?_
        refine g_if_ne (tgt := 42) dX12_copy_36 (by decide) (fun c36 => ?_) (fun c36 => ?_)
        · refine gs_aload_n dX12_copy_42 rfl rfl ?_
          refine g_getR dX12_copy_43 fX12_160 kwM (by decide) rM_shelf ?_
          refine gs_iload_n dX12_copy_46 rfl rfl ?_
          refine g_iald dX12_copy_47 kw_shelf (by omega) (MH0 hQ hd) ?_
          refine g_iconst (v := nI 3) dX12_copy_48 (by decide) ?_
          refine g_icmp_lt (tgt := 67) dX12_copy_49 (by decide) (fun c49 => ?_) (fun c49 => ?_)
          · refine g_bipush (v := -12) dX12_copy_67 (by decide) ?_
            refine g_ireturn dX12_copy_69 rfl ?_
            have hn1 : H 0 d = nI 1 := by
              rcases (hok d hd).1 with q | q | q | q
              · exact absurd q c27
              · exact q
              · rw [q] at c49; exact absurd c49 (by decide)
              · rw [q] at c49; exact absurd c49 (by decide)
            exact ⟨_, rfl, by rw [aCopy, if_pos ok, nN_n (by omega), nN_n (by omega), if_neg (fun z => z.elim c27 c36), if_pos (Or.inl hn1)], by rw [nCopy, if_pos ok, nN_n (by omega), nN_n (by omega), if_neg (fun z => z.elim c27 c36), if_pos (Or.inl hn1)]; exact hQ⟩
          · refine gs_aload_n dX12_copy_52 rfl rfl ?_
            refine g_getR dX12_copy_53 fX12_160 kwM (by decide) rM_shelf ?_
            refine gs_iload_n dX12_copy_56 rfl rfl ?_
            refine g_iald dX12_copy_57 kw_shelf (by omega) (MH0 hQ hd) ?_
            refine gs_aload_n dX12_copy_58 rfl rfl ?_
            refine g_getR dX12_copy_59 fX12_160 kwM (by decide) rM_shelf ?_
            refine gs_iload_n dX12_copy_62 rfl rfl ?_
            refine g_iald dX12_copy_63 kw_shelf (by omega) (MH0 hQ he) ?_
            refine g_icmp_eq (tgt := 70) dX12_copy_64 (by decide) (fun c64 => ?_) (fun c64 => ?_)
            · have hwd : H 0 d = nI 3 ∨ H 0 d = nI 4 := by
                rcases (hok d hd).1 with q | q | q | q
                · exact absurd q c27
                · exact absurd (show H 0 d < nI 3 from by rw [q]; decide) c49
                · exact Or.inl q
                · exact Or.inr q
              have hn1 : ¬ (H 0 d = nI 1 ∨ H 0 d ≠ H 0 e) := fun z => z.elim (fun q => by rw [q] at hwd; exact absurd hwd (by decide)) (fun q => q c64)
              obtain ⟨n1, l1, h1⟩ := (hok d hd).2 hwd
              obtain ⟨n2, l2, h2⟩ := (hok e he).2 (by rw [← c64]; exact hwd)
              have z1 : szH H d = n1 := by rw [szH, h1, nN_n (by omega)]
              have z2 : szH H e = n2 := by rw [szH, h2, nN_n (by omega)]
              have s1 : σ.1 307 d = nI n1 := (MH1 hQ hd).trans h1
              have s2 : σ.1 307 e = nI n2 := (MH1 hQ he).trans h2
              refine gs_aload_n dX12_copy_70 rfl rfl ?_
              refine gs_iload_n dX12_copy_71 rfl rfl ?_
              refine gs_iload_n dX12_copy_72 rfl rfl ?_
              refine g_iload dX12_copy_73 rfl ?_
              refine g_cVI3 dX12_copy_75 vX12_349 (by decide) kwM (by decide) (Nat.le_of_ble_eq_true rfl) (s_hasPlaces hd l1 s1) ?_
              rintro _ σ ⟨rfl, e9⟩
              subst e9
              refine gb_if_eq (tgt := 93) dX12_copy_78 (by decide) (fun c78 => ?_) (fun c78 => ?_)
              · refine g_bipush (v := -13) dX12_copy_93 (by decide) ?_
                refine g_ireturn dX12_copy_95 rfl ?_
                exact ⟨_, rfl, by rw [aCopy, if_pos ok, nN_n (by omega), nN_n (by omega), if_neg (fun z => z.elim c27 c36), if_neg hn1, if_neg (by rw [z1, z2]; exact nb1 c78)], by rw [nCopy, if_pos ok, nN_n (by omega), nN_n (by omega), if_neg (fun z => z.elim c27 c36), if_neg hn1, if_neg (by rw [z1, z2]; exact nb1 c78)]; exact hQ⟩
              · refine gs_aload_n dX12_copy_81 rfl rfl ?_
                refine gs_iload_n dX12_copy_82 rfl rfl ?_
                refine g_iload dX12_copy_83 rfl ?_
                refine g_iload dX12_copy_85 rfl ?_
                refine g_cVI3 dX12_copy_87 vX12_349 (by decide) kwM (by decide) (Nat.le_of_ble_eq_true rfl) (s_hasPlaces he l2 s2) ?_
                rintro _ σ ⟨rfl, e9⟩
                subst e9
                refine gb_if_ne (tgt := 96) dX12_copy_90 (by decide) (fun c90 => ?_) (fun c90 => ?_)
                · have h13 : (strB (szH H d) i n && strB (szH H e) j n) = true := by rw [z1, z2]; exact yb c78 c90
                  have eA : aCopy H (nI d) i (nI e) j n = n := by rw [aCopy, if_pos ok, nN_n (by omega), nN_n (by omega), if_neg (fun z => z.elim c27 c36), if_neg hn1, if_pos h13]
                  have eN : nCopy H (nI d) i (nI e) j n = hcp H d (nN i) e (nN j) (nN n) := by rw [nCopy, if_pos ok, nN_n (by omega), nN_n (by omega), if_neg (fun z => z.elim c27 c36), if_neg hn1, if_pos h13]
                  obtain ⟨i1, m1, rfl, rfl, k1, k2, k3⟩ := strB_of c78
                  obtain ⟨j1, m2, rfl, em, k4, k5, k6⟩ := strB_of c90
                  have emm : m2 = m1 := by rw [← k6, k3]
                  subst emm
                  rw [k2, k3, k5] at eN
                  refine g_iconst (v := nI 0) dX12_copy_96 (by decide) ?_
                  refine gs_istore (ls' := [_, _, _, _, _, _, _]) dX12_copy_97 rfl rfl ?_
                  refine l_cp1 (d := d) (i := i1) (e := e) (j := j1) (n := m2) hd he (by omega) (by omega) (fun σ hQ hb => ?_) m2 0 _ (by omega) hQ (fun x hx => absurd hx (by omega))
                  refine g_iconst (v := nI 0) dX12_copy_133 (by decide) ?_
                  refine gs_istore (ls' := [_, _, _, _, _, _, _]) dX12_copy_134 rfl rfl ?_
                  exact l_cp2 (d := d) (i := i1) (e := e) (j := j1) (n := m2) hd he (by omega) (by omega) (fun τ hQ => ⟨_, rfl, by rw [eA], by rw [eN]; exact hQ⟩) m2 0 _ (by omega) (by rw [hcx_0]; exact hQ) hb
                · refine g_bipush (v := -13) dX12_copy_93 (by decide) ?_
                  refine g_ireturn dX12_copy_95 rfl ?_
                  exact ⟨_, rfl, by rw [aCopy, if_pos ok, nN_n (by omega), nN_n (by omega), if_neg (fun z => z.elim c27 c36), if_neg hn1, if_neg (by rw [z1, z2]; exact nb2 (nbf c90))], by rw [nCopy, if_pos ok, nN_n (by omega), nN_n (by omega), if_neg (fun z => z.elim c27 c36), if_neg hn1, if_neg (by rw [z1, z2]; exact nb2 (nbf c90))]; exact hQ⟩
            · refine g_bipush (v := -12) dX12_copy_67 (by decide) ?_
              refine g_ireturn dX12_copy_69 rfl ?_
              exact ⟨_, rfl, by rw [aCopy, if_pos ok, nN_n (by omega), nN_n (by omega), if_neg (fun z => z.elim c27 c36), if_pos (Or.inr c64)], by rw [nCopy, if_pos ok, nN_n (by omega), nN_n (by omega), if_neg (fun z => z.elim c27 c36), if_pos (Or.inr c64)]; exact hQ⟩
        · refine g_bipush (v := -11) dX12_copy_39 (by decide) ?_
          refine g_ireturn dX12_copy_41 rfl ?_
          exact ⟨_, rfl, by rw [aCopy, if_pos ok, nN_n (by omega), nN_n (by omega), if_pos (show H 0 d = nI 0 ∨ H 0 e = nI 0 from Or.inr c36)], by rw [nCopy, if_pos ok, nN_n (by omega), nN_n (by omega), if_pos (show H 0 d = nI 0 ∨ H 0 e = nI 0 from Or.inr c36)]; exact hQ⟩
    · refine g_iconst (v := -1) dX12_copy_19 (by decide) ?_
      refine g_ireturn dX12_copy_20 rfl ?_
      exact ⟨_, rfl, by rw [aCopy, if_neg (nb2 (nbf c16))], by rw [nCopy, if_neg (nb2 (nbf c16))]; exact hQ⟩
def refR (H : Hx) (x : Int32) : Int32 := if rg x 0 7 = true then (if H 0 (nN x) = nI 0 then -11 else if H 0 (nN x) = nI 1 then nI 0 else -12) else -1
def aWeight (H : Hx) (x : Int32) : Int32 := if refR H x = nI 0 then H 2 (nN x) else refR H x
def aToss (H : Hx) (x : Int32) : Int32 := if refR H x = nI 0 then H 3 (nN x) else refR H x
theorem refR_0 {H : Hx} {x : Int32} (h : refR H x = nI 0) : ∃ d, d < 8 ∧ x = nI d ∧ H 0 d = nI 1 := by
  unfold refR at h
  by_cases h1 : rg x 0 7 = true
  · rw [if_pos h1] at h
    obtain ⟨d, d1, d2, rfl⟩ := rg_of h1
    rw [nN_n (by omega)] at h
    by_cases h2 : H 0 d = nI 0
    · rw [if_pos h2] at h; exact absurd h (by decide)
    · rw [if_neg h2] at h
      by_cases h3 : H 0 d = nI 1
      · exact ⟨d, by omega, rfl, h3⟩
      · rw [if_neg h3] at h; exact absurd h (by decide)
  · rw [if_neg h1] at h; exact absurd h (by decide)
theorem refR_n {H : Hx} {x : Int32} : refR H x = nI 0 ∨ refR H x < 0 := by
  unfold refR
  split
  · split
    · exact Or.inr (by decide)
    · split
      · exact Or.inl rfl
      · exact Or.inr (by decide)
  · exact Or.inr (by decide)
theorem r_refusal {σ : Mm} {H : Hx} (hSh : ShC σ H) (x : Int32) : RI W0 mX11_refusalOfPageOn [.ref 0, .int x] σ (fun r τ => r = refR H x ∧ τ = σ) := by
  refine G.met (by decide) (Nat.le_of_ble_eq_true rfl) ?_
  show G _ _ _ 0 [some (.ref 0), some (.int x)] [] σ
  refine gs_iload_n dX11_refusalOfPageOn_0 rfl rfl ?_
  refine g_cSI1 dX11_refusalOfPageOn_1 vX11_306 (by decide) (Nat.le_of_ble_eq_true rfl) (c_isShelf _) ?_
  rintro _ σ ⟨rfl, e9⟩
  subst e9
  refine gb_if_ne (tgt := 9) dX11_refusalOfPageOn_4 (by decide) (fun c4 => ?_) (fun c4 => ?_)
  · obtain ⟨d, hdll, hdl, rfl⟩ := rg_of c4
    have hd : d < 8 := by omega
    refine gs_aload_n dX11_refusalOfPageOn_9 rfl rfl ?_
    refine g_getR dX11_refusalOfPageOn_10 fX11_41 kFC (by decide) rFC_shelves ?_
    refine gs_iload_n dX11_refusalOfPageOn_13 rfl rfl ?_
    refine g_aald26 dX11_refusalOfPageOn_14 kShs hd (rSh hd) ?_
    refine g_getI dX11_refusalOfPageOn_15 fX11_309 (kSh hd) (by decide) (hSh d hd).1 ?_
    refine g_if_ne (tgt := 24) dX11_refusalOfPageOn_18 (by decide) (fun c18 => ?_) (fun c18 => ?_)
    · refine gs_aload_n dX11_refusalOfPageOn_24 rfl rfl ?_
      refine g_getR dX11_refusalOfPageOn_25 fX11_41 kFC (by decide) rFC_shelves ?_
      refine gs_iload_n dX11_refusalOfPageOn_28 rfl rfl ?_
      refine g_aald26 dX11_refusalOfPageOn_29 kShs hd (rSh hd) ?_
      refine g_getI dX11_refusalOfPageOn_30 fX11_309 (kSh hd) (by decide) (hSh d hd).1 ?_
      refine g_iconst (v := nI 1) dX11_refusalOfPageOn_33 (by decide) ?_
      refine g_icmp_ne (tgt := 41) dX11_refusalOfPageOn_34 (by decide) (fun c34 => ?_) (fun c34 => ?_)
      · refine g_bipush (v := -12) dX11_refusalOfPageOn_41 (by decide) ?_
        refine g_ireturn dX11_refusalOfPageOn_43 rfl ?_
        exact ⟨_, rfl, by rw [refR, if_pos c4, nN_n (by omega), if_neg (show ¬ H 0 d = nI 0 from c18), if_neg c34], rfl⟩
      · refine g_iconst (v := nI 0) dX11_refusalOfPageOn_37 (by decide) ?_
        refine g_goto (tgt := 43) dX11_refusalOfPageOn_38 (by decide) ?_
        refine g_ireturn dX11_refusalOfPageOn_43 rfl ?_
        exact ⟨_, rfl, by rw [refR, if_pos c4, nN_n (by omega), if_neg (show ¬ H 0 d = nI 0 from c18), if_pos c34], rfl⟩
    · refine g_bipush (v := -11) dX11_refusalOfPageOn_21 (by decide) ?_
      refine g_ireturn dX11_refusalOfPageOn_23 rfl ?_
      exact ⟨_, rfl, by rw [refR, if_pos c4, nN_n (by omega), if_pos (show H 0 d = nI 0 from c18)], rfl⟩
  · refine g_iconst (v := -1) dX11_refusalOfPageOn_7 (by decide) ?_
    refine g_ireturn dX11_refusalOfPageOn_8 rfl ?_
    exact ⟨_, rfl, by rw [refR, if_neg (nbf c4)], rfl⟩
theorem r_heavy {σ : Mm} {d k kd cp hm : Nat} (hd : d < 8) (hkd : kd ≤ 3) (hcp : cp ≤ 4) (hk : k < 20) (hhm : hm ≤ 4) (f1 : σ.1 (234 + 3 * d) 4 = nI k) (f2 : σ.1 (234 + 3 * d) 5 = nI kd) (f3 : σ.1 (234 + 3 * d) 6 = nI cp) (f4 : σ.1 (234 + 3 * d) 7 = lzC hm) : RI W0 mX8_heaviness [.ref (234 + 3 * d)] σ (fun r τ => r = wgt k kd cp hm ∧ τ = σ) := by
  refine G.met (by decide) (Nat.le_of_ble_eq_true rfl) ?_
  show G _ _ _ 0 [some (.ref (234 + 3 * d)), none] [] σ
  rcases (show kd = 0 ∨ kd = 1 ∨ kd = 2 ∨ kd = 3 from by omega) with rfl | rfl | rfl | rfl
  · refine gs_aload_n dX8_heaviness_0 rfl rfl ?_
    refine g_getI dX8_heaviness_1 fX8_23 (kSh hd) (by decide) f1 ?_
    refine g_iconst (v := nI 1) dX8_heaviness_4 (by decide) ?_
    refine g_iadd dX8_heaviness_5 (by first | exact nI_add _ _ | rfl) ?_
    refine gs_istore_n (ls' := [_, _]) dX8_heaviness_6 rfl rfl rfl ?_
    refine gs_aload_n dX8_heaviness_7 rfl rfl ?_
    refine g_getI dX8_heaviness_8 fX8_31 (kSh hd) (by decide) f2 ?_
    refine g_tableOut (tgt := 73) dX8_heaviness_11 (by decide) (by decide) ?_
    · refine gs_iload_n dX8_heaviness_73 rfl rfl ?_
      refine g_ireturn dX8_heaviness_74 rfl ?_
      exact ⟨_, rfl, by rw [wgt, if_pos rfl], rfl⟩
  · refine gs_aload_n dX8_heaviness_0 rfl rfl ?_
    refine g_getI dX8_heaviness_1 fX8_23 (kSh hd) (by decide) f1 ?_
    refine g_iconst (v := nI 1) dX8_heaviness_4 (by decide) ?_
    refine g_iadd dX8_heaviness_5 (by first | exact nI_add _ _ | rfl) ?_
    refine gs_istore_n (ls' := [_, _]) dX8_heaviness_6 rfl rfl rfl ?_
    refine gs_aload_n dX8_heaviness_7 rfl rfl ?_
    refine g_getI dX8_heaviness_8 fX8_31 (kSh hd) (by decide) f2 ?_
    refine g_tableIn (off := 25) (tgt := 36) dX8_heaviness_11 (by decide) (by decide) (by decide) (by decide) ?_
    · refine gs_iload_n dX8_heaviness_36 rfl rfl ?_
      refine g_bipush (v := nI 10) dX8_heaviness_37 (by decide) ?_
      refine gs_aload_n dX8_heaviness_39 rfl rfl ?_
      refine g_getI dX8_heaviness_40 fX8_41 (kSh hd) (by decide) f3 ?_
      refine g_imul dX8_heaviness_43 (by first | exact pk_mul _ _ | rfl) ?_
      refine g_iadd dX8_heaviness_44 (by first | exact nI_add _ _ | rfl) ?_
      refine g_ireturn dX8_heaviness_45 rfl ?_
      exact ⟨_, rfl, by rw [wgt, if_neg (by decide), if_pos rfl], rfl⟩
  · by_cases hz : hm = 0
    · refine gs_aload_n dX8_heaviness_0 rfl rfl ?_
      refine g_getI dX8_heaviness_1 fX8_23 (kSh hd) (by decide) f1 ?_
      refine g_iconst (v := nI 1) dX8_heaviness_4 (by decide) ?_
      refine g_iadd dX8_heaviness_5 (by first | exact nI_add _ _ | rfl) ?_
      refine gs_istore_n (ls' := [_, _]) dX8_heaviness_6 rfl rfl rfl ?_
      refine gs_aload_n dX8_heaviness_7 rfl rfl ?_
      refine g_getI dX8_heaviness_8 fX8_31 (kSh hd) (by decide) f2 ?_
      refine g_tableIn (off := 35) (tgt := 46) dX8_heaviness_11 (by decide) (by decide) (by decide) (by decide) ?_
      · refine g_iconst (v := nI 2) dX8_heaviness_46 (by decide) ?_
        refine gs_iload_n dX8_heaviness_47 rfl rfl ?_
        refine g_imul dX8_heaviness_48 (by first | exact pk_mul _ _ | rfl) ?_
        refine gs_aload_n dX8_heaviness_49 rfl rfl ?_
        refine g_getI dX8_heaviness_50 fX8_45 (kSh hd) (by decide) (f4.trans (show lzC hm = -1 from by rw [hz]; rfl)) ?_
        refine g_iconst (v := -1) dX8_heaviness_53 (by decide) ?_
        refine rf_icmp_ne (tgt := 61) dX8_heaviness_54 (by decide) rfl ?_
        refine g_iconst (v := nI 0) dX8_heaviness_57 (by decide) ?_
        refine g_goto (tgt := 65) dX8_heaviness_58 (by decide) ?_
        refine g_iadd dX8_heaviness_65 (by first | exact nI_add _ _ | rfl) ?_
        refine g_ireturn dX8_heaviness_66 rfl ?_
        exact ⟨_, rfl, by rw [wgt, if_neg (by decide), if_neg (by decide), if_pos rfl, hz], rfl⟩
    · refine gs_aload_n dX8_heaviness_0 rfl rfl ?_
      refine g_getI dX8_heaviness_1 fX8_23 (kSh hd) (by decide) f1 ?_
      refine g_iconst (v := nI 1) dX8_heaviness_4 (by decide) ?_
      refine g_iadd dX8_heaviness_5 (by first | exact nI_add _ _ | rfl) ?_
      refine gs_istore_n (ls' := [_, _]) dX8_heaviness_6 rfl rfl rfl ?_
      refine gs_aload_n dX8_heaviness_7 rfl rfl ?_
      refine g_getI dX8_heaviness_8 fX8_31 (kSh hd) (by decide) f2 ?_
      refine g_tableIn (off := 35) (tgt := 46) dX8_heaviness_11 (by decide) (by decide) (by decide) (by decide) ?_
      · refine g_iconst (v := nI 2) dX8_heaviness_46 (by decide) ?_
        refine gs_iload_n dX8_heaviness_47 rfl rfl ?_
        refine g_imul dX8_heaviness_48 (by first | exact pk_mul _ _ | rfl) ?_
        refine gs_aload_n dX8_heaviness_49 rfl rfl ?_
        refine g_getI dX8_heaviness_50 fX8_45 (kSh hd) (by decide) (f4.trans (lzC_s (by omega))) ?_
        refine g_iconst (v := -1) dX8_heaviness_53 (by decide) ?_
        refine rt_icmp_ne (tgt := 61) dX8_heaviness_54 (by decide) (nI_ne1 (by omega)) ?_
        refine gs_aload_n dX8_heaviness_61 rfl rfl ?_
        refine g_getI dX8_heaviness_62 fX8_45 (kSh hd) (by decide) (f4.trans (lzC_s (by omega))) ?_
        refine g_iadd dX8_heaviness_65 (by first | exact nI_add _ _ | rfl) ?_
        refine g_ireturn dX8_heaviness_66 rfl ?_
        exact ⟨_, rfl, by rw [wgt, if_neg (by decide), if_neg (by decide), if_pos rfl], rfl⟩
  · refine gs_aload_n dX8_heaviness_0 rfl rfl ?_
    refine g_getI dX8_heaviness_1 fX8_23 (kSh hd) (by decide) f1 ?_
    refine g_iconst (v := nI 1) dX8_heaviness_4 (by decide) ?_
    refine g_iadd dX8_heaviness_5 (by first | exact nI_add _ _ | rfl) ?_
    refine gs_istore_n (ls' := [_, _]) dX8_heaviness_6 rfl rfl rfl ?_
    refine gs_aload_n dX8_heaviness_7 rfl rfl ?_
    refine g_getI dX8_heaviness_8 fX8_31 (kSh hd) (by decide) f2 ?_
    refine g_tableIn (off := 56) (tgt := 67) dX8_heaviness_11 (by decide) (by decide) (by decide) (by decide) ?_
    · refine gs_iload_n dX8_heaviness_67 rfl rfl ?_
      refine g_sipush (v := nI 300) dX8_heaviness_68 (by decide) ?_
      refine g_iadd dX8_heaviness_71 (by first | exact nI_add _ _ | rfl) ?_
      refine g_ireturn dX8_heaviness_72 rfl ?_
      exact ⟨_, rfl, by rw [wgt, if_neg (by decide), if_neg (by decide), if_neg (by decide)], rfl⟩
theorem a_weight {σ : Mm} {S : Sx} {H : Hx} (hJ : CI σ S H) (hPI : PI S) (x : Int32) : RI W0 mX11_weight [.ref 0, .int x] σ (fun r τ => r = aWeight H x ∧ τ = σ) := by
  have hJ0 := hJ
  obtain ⟨⟨Tf, hR, hTk⟩, hSh, hTr1, hTr2⟩ := hJ
  have hb : mch 57 := Or.inl rfl
  have hB : Bd S := hPI.1.1.1.1
  have b0 := B_nodes hB 0
  have bP := B_P hB 0
  have bT := B_T hB 0
  refine G.met (by decide) (Nat.le_of_ble_eq_true rfl) ?_
  show G _ _ _ 0 [some (.ref 0), some (.int x), none] [] σ
  refine gs_aload_n dX11_weight_0 rfl rfl ?_
  refine gs_iload_n dX11_weight_1 rfl rfl ?_
  refine g_cVI1 dX11_weight_2 vX11_355 (by decide) kFC (by decide) (Nat.le_of_ble_eq_true rfl) (r_refusal hSh x) ?_
  rintro _ σ ⟨rfl, e9⟩
  subst e9
  refine gs_istore_n (ls' := [_, _, _]) dX11_weight_5 rfl rfl rfl ?_
  refine gs_iload_n dX11_weight_6 rfl rfl ?_
  refine g_if_eq (tgt := 14) dX11_weight_7 (by decide) (fun c7 => ?_) (fun c7 => ?_)
  · obtain ⟨d, hd, rfl, hw⟩ := refR_0 c7
    obtain ⟨k, kd, cp, hm, k1, k2, k3, k4, f1, f2, f3, f4, f5, f6⟩ := (hSh d hd).2.2.2.2 hw
    refine gs_aload_n dX11_weight_14 rfl rfl ?_
    refine g_getR dX11_weight_15 fX11_41 kFC (by decide) rFC_shelves ?_
    refine gs_iload_n dX11_weight_18 rfl rfl ?_
    refine g_aald26 dX11_weight_19 kShs hd (rSh hd) ?_
    refine g_cVI0 dX11_weight_20 vX11_358 (by decide) (kSh hd) (by decide) (Nat.le_of_ble_eq_true rfl) (r_heavy hd k2 k3 k1 k4 f1 f2 f3 f4) ?_
    rintro _ σ ⟨rfl, e9⟩
    subst e9
    refine g_ireturn dX11_weight_23 rfl ?_
    exact ⟨_, rfl, by rw [aWeight, if_pos (show refR H (nI d) = nI 0 from c7), nN_n (by omega), f5], rfl⟩
  · refine gs_iload_n dX11_weight_10 rfl rfl ?_
    refine g_goto (tgt := 23) dX11_weight_11 (by decide) ?_
    refine g_ireturn dX11_weight_23 rfl ?_
    exact ⟨_, rfl, by rw [aWeight, if_neg (show ¬ refR H x = nI 0 from c7)], rfl⟩
theorem s_denied {σ0 σ : Mm} {S : Sx} {H : Hx} (hQ : MJ σ0 S H σ) (hok : Hok H) (x : Int32) : RI W0 mX12_denied [.ref 258, .int x] σ (fun r τ => r = refR H x ∧ τ = σ) := by
  refine G.met (by decide) (Nat.le_of_ble_eq_true rfl) ?_
  show G _ _ _ 0 [some (.ref 258), some (.int x)] [] σ
  refine gs_iload_n dX12_denied_0 rfl rfl ?_
  refine g_cSI1 dX12_denied_1 vX12_343 (by decide) (Nat.le_of_ble_eq_true rfl) (s_isShelf _) ?_
  rintro _ σ ⟨rfl, e9⟩
  subst e9
  refine gb_if_ne (tgt := 11) dX12_denied_4 (by decide) (fun c4 => ?_) (fun c4 => ?_)
  · obtain ⟨d, hdll, hdl, rfl⟩ := rg_of c4
    have hd : d < 8 := by omega
    refine gs_aload_n dX12_denied_11 rfl rfl ?_
    refine g_getR dX12_denied_12 fX12_160 kwM (by decide) rM_shelf ?_
    refine gs_iload_n dX12_denied_15 rfl rfl ?_
    refine g_iald dX12_denied_16 kw_shelf (by omega) (MH0 hQ hd) ?_
    refine g_if_ne (tgt := 25) dX12_denied_17 (by decide) (fun c17 => ?_) (fun c17 => ?_)
    · refine gs_aload_n dX12_denied_25 rfl rfl ?_
      refine g_getR dX12_denied_26 fX12_160 kwM (by decide) rM_shelf ?_
      refine gs_iload_n dX12_denied_29 rfl rfl ?_
      refine g_iald dX12_denied_30 kw_shelf (by omega) (MH0 hQ hd) ?_
      refine g_iconst (v := nI 1) dX12_denied_31 (by decide) ?_
      refine g_icmp_le (tgt := 40) dX12_denied_32 (by decide) (fun c32 => ?_) (fun c32 => ?_)
      · refine g_iconst (v := nI 0) dX12_denied_40 (by decide) ?_
        refine g_ireturn dX12_denied_41 rfl ?_
        have h1 : H 0 d = nI 1 := by
          rcases (hok d hd).1 with q | q | q | q
          · exact absurd q c17
          · exact q
          · rw [q] at c32; exact absurd c32 (by decide)
          · rw [q] at c32; exact absurd c32 (by decide)
        exact ⟨_, rfl, by rw [refR, if_pos c4, nN_n (by omega), if_neg (show ¬ H 0 d = nI 0 from c17), if_pos h1], rfl⟩
      · refine g_bipush (v := -12) dX12_denied_35 (by decide) ?_
        refine g_goto (tgt := 41) dX12_denied_37 (by decide) ?_
        refine g_ireturn dX12_denied_41 rfl ?_
        have h1 : ¬ H 0 d = nI 1 := fun q => c32 (by rw [q]; decide)
        exact ⟨_, rfl, by rw [refR, if_pos c4, nN_n (by omega), if_neg (show ¬ H 0 d = nI 0 from c17), if_neg h1], rfl⟩
    · refine g_bipush (v := -11) dX12_denied_20 (by decide) ?_
      refine g_goto (tgt := 41) dX12_denied_22 (by decide) ?_
      refine g_ireturn dX12_denied_41 rfl ?_
      exact ⟨_, rfl, by rw [refR, if_pos c4, nN_n (by omega), if_pos (show H 0 d = nI 0 from c17)], rfl⟩
  · refine g_iconst (v := -1) dX12_denied_7 (by decide) ?_
    refine g_goto (tgt := 41) dX12_denied_8 (by decide) ?_
    refine g_ireturn dX12_denied_41 rfl ?_
    exact ⟨_, rfl, by rw [refR, if_neg (nbf c4)], rfl⟩
theorem n_weight {σ : Mm} {S : Sx} {H : Hx} (hJ : MI_ σ S H) (hPI : PI S) (x : Int32) (hok : Hok H) : RI W0 mX12_weight [.ref 258, .int x] σ (fun r τ => r = aWeight H x ∧ MJ σ S H τ) := by
  have hB : Bd S := hPI.1.1.1.1
  have b0 := B_nodes hB 0
  have bP := B_P hB 0
  have bT := B_T hB 0
  refine G.met (by decide) (Nat.le_of_ble_eq_true rfl) ?_
  show G _ _ _ 0 [some (.ref 258), some (.int x), none] [] σ
  refine gs_aload_n dX12_weight_0 rfl rfl ?_
  refine g_iconst (v := nI 0) dX12_weight_1 (by decide) ?_
  refine gp_putI dX12_weight_2 pX12_194 kwM (by decide) (Or.inl rfl) ((MJ.rf hJ).off off0 (by decide)) (fun σ hQ => ?_)
  have hM := hQ.1.1
  have hC0 := hQ.1.2.1
  refine gs_aload_n dX12_weight_5 rfl rfl ?_
  refine gs_iload_n dX12_weight_6 rfl rfl ?_
  refine g_cVI1 dX12_weight_7 vX12_353 (by decide) kwM (by decide) (Nat.le_of_ble_eq_true rfl) (s_denied hQ hok x) ?_
  rintro _ σ ⟨rfl, e9⟩
  subst e9
  refine gs_istore_n (ls' := [_, _, _]) dX12_weight_10 rfl rfl rfl ?_
  refine gs_iload_n dX12_weight_11 rfl rfl ?_
  refine g_if_ge (tgt := 19) dX12_weight_12 (by decide) (fun c12 => ?_) (fun c12 => ?_)
  · have c0 : refR H x = nI 0 := refR_n.resolve_right (Int32.not_lt.mpr c12)
    obtain ⟨d, hd, rfl, hw⟩ := refR_0 c0
    refine gs_aload_n dX12_weight_19 rfl rfl ?_
    refine g_getR dX12_weight_20 fX12_166 kwM (by decide) rM_shelfWeight ?_
    refine gs_iload_n dX12_weight_23 rfl rfl ?_
    refine g_iald dX12_weight_24 kw_shelfWeight (by omega) ((hQ.1.2.2.1.1 d hd).2.2.1) ?_
    refine g_ireturn dX12_weight_25 rfl ?_
    exact ⟨_, rfl, by rw [aWeight, if_pos c0, nN_n (by omega)], hQ⟩
  · refine gs_iload_n dX12_weight_15 rfl rfl ?_
    refine g_goto (tgt := 25) dX12_weight_16 (by decide) ?_
    refine g_ireturn dX12_weight_25 rfl ?_
    have c0 : ¬ refR H x = nI 0 := fun z => c12 (by rw [z]; decide)
    exact ⟨_, rfl, by rw [aWeight, if_neg c0], hQ⟩
theorem n_toss {σ : Mm} {S : Sx} {H : Hx} (hJ : MI_ σ S H) (hPI : PI S) (x : Int32) (hok : Hok H) : RI W0 mX12_toss [.ref 258, .int x] σ (fun r τ => r = aToss H x ∧ MJ σ S H τ) := by
  have hB : Bd S := hPI.1.1.1.1
  have b0 := B_nodes hB 0
  have bP := B_P hB 0
  have bT := B_T hB 0
  refine G.met (by decide) (Nat.le_of_ble_eq_true rfl) ?_
  show G _ _ _ 0 [some (.ref 258), some (.int x), none] [] σ
  refine gs_aload_n dX12_toss_0 rfl rfl ?_
  refine g_iconst (v := nI 0) dX12_toss_1 (by decide) ?_
  refine gp_putI dX12_toss_2 pX12_194 kwM (by decide) (Or.inl rfl) ((MJ.rf hJ).off off0 (by decide)) (fun σ hQ => ?_)
  have hM := hQ.1.1
  have hC0 := hQ.1.2.1
  refine gs_aload_n dX12_toss_5 rfl rfl ?_
  refine gs_iload_n dX12_toss_6 rfl rfl ?_
  refine g_cVI1 dX12_toss_7 vX12_353 (by decide) kwM (by decide) (Nat.le_of_ble_eq_true rfl) (s_denied hQ hok x) ?_
  rintro _ σ ⟨rfl, e9⟩
  subst e9
  refine gs_istore_n (ls' := [_, _, _]) dX12_toss_10 rfl rfl rfl ?_
  refine gs_iload_n dX12_toss_11 rfl rfl ?_
  refine g_if_ge (tgt := 19) dX12_toss_12 (by decide) (fun c12 => ?_) (fun c12 => ?_)
  · have c0 : refR H x = nI 0 := refR_n.resolve_right (Int32.not_lt.mpr c12)
    obtain ⟨d, hd, rfl, hw⟩ := refR_0 c0
    refine gs_aload_n dX12_toss_19 rfl rfl ?_
    refine g_getR dX12_toss_20 fX12_169 kwM (by decide) rM_shelfFailure ?_
    refine gs_iload_n dX12_toss_23 rfl rfl ?_
    refine g_iald dX12_toss_24 kw_shelfFailure (by omega) ((hQ.1.2.2.1.1 d hd).2.2.2) ?_
    refine g_ireturn dX12_toss_25 rfl ?_
    exact ⟨_, rfl, by rw [aToss, if_pos c0, nN_n (by omega)], hQ⟩
  · refine gs_iload_n dX12_toss_15 rfl rfl ?_
    refine g_goto (tgt := 25) dX12_toss_16 (by decide) ?_
    refine g_ireturn dX12_toss_25 rfl ?_
    have c0 : ¬ refR H x = nI 0 := fun z => c12 (by rw [z]; decide)
    exact ⟨_, rfl, by rw [aToss, if_neg c0], hQ⟩
