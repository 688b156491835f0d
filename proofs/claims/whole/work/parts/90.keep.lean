/-! Shelves: keep, make, copy, weight. -/
def swH (y : Int32) (l : List Hx) (H : Hx) : Hx := if 0 ≤ y.toInt ∧ y.toInt < l.length then l.getD y.toInt.toNat H else H
theorem swH_n {k : Nat} {l : List Hx} {H : Hx} (h : k ≤ 300) (hk : k < l.length) : swH (nI k) l H = l.getD k H := by
  rw [swH, toInt_nI h, if_pos ⟨by omega, by omega⟩]; rfl
theorem swH_o {x : Int32} {l : List Hx} {H : Hx} {hi : Int} (h : x.toInt < 0 ∨ hi < x.toInt) (hl : (l.length : Int) = hi + 1) : swH x l H = H := by
  rw [swH, if_neg (by omega)]
def h0K (H : Hx) (d : Nat) : Hx := hw (hw H 0 d (nI 0)) 1 d (nI 0)
def wtK (S : Sx) (p : Nat) : Int32 := wgt p (S.1 8 p) (pc4 (S.1 25 p)) (S.1 24 p)
def flK (S : Sx) (p : Nat) : Int32 := if S.1 8 p = 0 then -15 else nI p
def h1K (S : Sx) (H : Hx) (d p : Nat) : Hx := hw (hw (hw (hw H 0 d (nI 1)) 1 d (nI 0)) 2 d (wtK S p)) 3 d (flK S p)
def h3K (S : Sx) (H : Hx) (d : Nat) : Hx := hrow (hw (hw H 0 d (nI 3)) 1 d (nI (S.1 9 0))) d (fun i => nI (S.1 29 i)) (S.1 9 0)
def h4K (S : Sx) (H : Hx) (d p : Nat) : Hx := hrow (hw (hw H 0 d (nI 4)) 1 d (nI 4)) d (fun i => S.2.1 9 (4 * p + i)) 4
def aKeep (S : Sx) (x y z : Int32) : Int32 := if rg x 0 7 = true then swA y [nI 0, if inN z (S.1 7 0) = true then nI 0 else -1, -1, nI 0, if inN z (S.1 7 0) = true then nI 0 else -1] else -1
def nKeep (S : Sx) (H : Hx) (x y z : Int32) : Hx := if rg x 0 7 = true then swH y [h0K H (nN x), if inN z (S.1 7 0) = true then h1K S H (nN x) (nN z) else H, H, h3K S H (nN x), if inN z (S.1 7 0) = true then h4K S H (nN x) (nN z) else H] H else H
theorem pc4_le {c : Nat} : pc4 c ≤ 4 := by
  have b0 := bt_le c 0
  have b1 := bt_le c 1
  have b2 := bt_le c 2
  have b3 := bt_le c 3
  unfold pc4; omega
theorem wI_o (σ : Mm) (a j : Nat) (v : Int32) {x : Nat} (h : x ≠ a) : (wI σ a j v).1 x = σ.1 x := if_neg h
theorem hw_ne {H : Hx} {k i : Nat} {v : Int32} {k' x : Nat} (h : x ≠ i) : hw H k i v k' x = H k' x := if_neg (fun z => h z.2)
theorem r_holdPage {σ : Mm} {S : Sx} {Tf : Nat → Nat} (hR : RepC 57 σ S Tf) (hB : Bd S) {d p : Nat} (hd : d < 8) (hp : p < S.1 7 0) : RV W0 mX8_holdPage [.ref (234 + 3 * d), .int (nI p), .ref (57 + 18 + 3 * p)] σ (fun τ => τ = wI (wI (wI (wI (wI σ (234 + 3 * d) 2 (nI 1)) (234 + 3 * d) 4 (nI p)) (234 + 3 * d) 5 (nI (S.1 8 p))) (234 + 3 * d) 6 (nI (pc4 (S.1 25 p)))) (234 + 3 * d) 7 (lzC (S.1 24 p))) := by
  have hb : mch 57 := Or.inl rfl
  have bP := B_P hB 0
  have h20 : p < 20 := by omega
  have b25 := B_copies hB p
  refine G.met (by decide) (Nat.le_of_ble_eq_true rfl) ?_
  show G _ _ _ 0 [some (.ref (234 + 3 * d)), some (.int (nI p)), some (.ref (57 + 18 + 3 * p))] [] σ
  refine gs_aload_n dX8_holdPage_0 rfl rfl ?_
  refine g_iconst (v := nI 1) dX8_holdPage_1 (by decide) ?_
  refine g_putI dX8_holdPage_2 pX8_19 (kSh hd) (by decide) (Or.inl rfl) ?_
  refine gs_aload_n dX8_holdPage_5 rfl rfl ?_
  refine gs_iload_n dX8_holdPage_6 rfl rfl ?_
  refine g_putI dX8_holdPage_7 pX8_23 (kSh hd) (by decide) (Or.inl rfl) ?_
  refine gs_aload_n dX8_holdPage_10 rfl rfl ?_
  refine gs_aload_n dX8_holdPage_11 rfl rfl ?_
  refine g_getI dX8_holdPage_12 fX8_26 (kPg hb h20) (by decide) (show _ = nI (S.1 8 p) from by rw [wI_o _ _ _ _ (by omega), wI_o _ _ _ _ (by omega)]; exact C_kind hR h20 hp) ?_
  refine g_putI dX8_holdPage_15 pX8_31 (kSh hd) (by decide) (Or.inl rfl) ?_
  refine gs_aload_n dX8_holdPage_18 rfl rfl ?_
  refine gs_aload_n dX8_holdPage_19 rfl rfl ?_
  refine g_getI dX8_holdPage_20 fX8_32 (kPg hb h20) (by decide) (show _ = nI (S.1 25 p) from by rw [wI_o _ _ _ _ (by omega), wI_o _ _ _ _ (by omega), wI_o _ _ _ _ (by omega)]; exact C_copies hR h20 hp) ?_
  refine g_cSI1 dX8_holdPage_23 vX8_35 (by decide) (Nat.le_of_ble_eq_true rfl) (s_bitCount (c := S.1 25 p) (by omega)) ?_
  rintro _ _ ⟨rfl, rfl⟩
  refine g_putI dX8_holdPage_26 pX8_41 (kSh hd) (by decide) (Or.inl rfl) ?_
  refine gs_aload_n dX8_holdPage_29 rfl rfl ?_
  refine gs_aload_n dX8_holdPage_30 rfl rfl ?_
  refine g_getI dX8_holdPage_31 fX8_42 (kPg hb h20) (by decide) (show _ = lzC (S.1 24 p) from by rw [wI_o _ _ _ _ (by omega), wI_o _ _ _ _ (by omega), wI_o _ _ _ _ (by omega), wI_o _ _ _ _ (by omega)]; exact C_lies hR h20 hp) ?_
  refine g_putI dX8_holdPage_34 pX8_45 (kSh hd) (by decide) (Or.inl rfl) ?_
  refine g_return dX8_holdPage_37 rfl ?_
  exact ⟨rfl, rfl⟩
theorem i2b3 {v : Nat} (h : v ≤ 3) : (nI v).toInt8.toInt32 = nI v := by
  have : ∀ v, v < 4 → (nI v).toInt8.toInt32 = nI v := by decide +kernel
  exact this v (by omega)
theorem nar3 {v : Nat} (h : v ≤ 3) : vp_nar .byte (nI v) = nI v := by
  have : ∀ v, v < 4 → vp_nar .byte (nI v) = nI v := by decide +kernel
  exact this v (by omega)
theorem cl_holdNodes {σ : Mm} {S : Sx} {Tf : Nat → Nat} {K : Option Value → Mm → Prop} (hR : RepC 57 σ S Tf) (hB : Bd S) {d : Nat} (hd : d < 8) (hK : K none (rwI σ (235 + 3 * d) (fun i => nI (S.1 29 i)) (S.1 9 0))) : ∀ k t, t + k = S.1 9 0 → G W0 mX8_holdNodes K 12 [some (.ref (234 + 3 * d)), some (.ref (57 + 7)), some (.int (nI (S.1 9 0))), some (.int (nI t))] [] (rwI σ (235 + 3 * d) (fun i => nI (S.1 29 i)) t) := by
  intro k
  induction k with
  | zero =>
    intro t ht
    have hb : mch 57 := Or.inl rfl
    have bT := B_T hB 0
    refine gs_iload_n dX8_holdNodes_12 rfl rfl ?_
    refine gs_iload_n dX8_holdNodes_13 rfl rfl ?_
    refine gt_icmp_ge (tgt := 36) dX8_holdNodes_14 (by decide) (by omega) (by omega) (by omega) ?_
    refine g_return dX8_holdNodes_36 rfl ?_
    have e : t = S.1 9 0 := by omega
    rw [e]
    exact hK
  | succ k ih =>
    intro t ht
    have h10 : t < 10 := by have := B_T hB 0; omega
    have b29 := B_at hB t
    have hb : mch 57 := Or.inl rfl
    have bT := B_T hB 0
    refine gs_iload_n dX8_holdNodes_12 rfl rfl ?_
    refine gs_iload_n dX8_holdNodes_13 rfl rfl ?_
    refine gf_icmp_ge (tgt := 36) dX8_holdNodes_14 (by decide) (by omega) (by omega) (by omega) ?_
    refine gs_aload_n dX8_holdNodes_17 rfl rfl ?_
    refine g_getR dX8_holdNodes_18 fX8_9 (kSh hd) (by decide) (rSh_bytes hd) ?_
    refine gs_iload_n dX8_holdNodes_21 rfl rfl ?_
    refine gs_aload_n dX8_holdNodes_22 rfl rfl ?_
    refine gs_iload_n dX8_holdNodes_23 rfl rfl ?_
    refine g_aald27 dX8_holdNodes_24 (kMa_workers hb) h10 (rWs hb h10) ?_
    refine g_getI dX8_holdNodes_25 fX8_49 (kWk hb h10) (by decide) (show _ = nI (S.1 29 t) from Eq.trans (show (rwI σ (235 + 3 * d) (fun i => nI (S.1 29 i)) t).1 (57 + 78 + t) 1 = σ.1 (57 + 78 + t) 1 from if_neg (by omega)) (C_at hR h10 (by omega))) ?_
    refine g_i2b dX8_holdNodes_28 (i2b3 b29) ?_
    refine g_bast dX8_holdNodes_29 (kSh_bytes hd) (by omega) (nar3 b29) ?_
    refine gs_iinc (ls' := [_, _, _, _]) dX8_holdNodes_30 rfl (nI_add _ 1) rfl rfl ?_
    refine g_goto (tgt := 12) dX8_holdNodes_33 (by decide) ?_
    have q := ih (t + 1) (by omega)
    rw [← rwI_s] at q
    exact q
theorem r_holdNodes {σ : Mm} {S : Sx} {Tf : Nat → Nat} (hR : RepC 57 σ S Tf) (hB : Bd S) {d : Nat} (hd : d < 8) : RV W0 mX8_holdNodes [.ref (234 + 3 * d), .ref (57 + 7), .int (nI (S.1 9 0))] σ (fun τ => τ = rwI (wI (wI σ (234 + 3 * d) 2 (nI 3)) (234 + 3 * d) 3 (nI (S.1 9 0))) (235 + 3 * d) (fun i => nI (S.1 29 i)) (S.1 9 0)) := by
  have hb : mch 57 := Or.inl rfl
  have hR1 : RepC 57 (wI (wI σ (234 + 3 * d) 2 (nI 3)) (234 + 3 * d) 3 (nI (S.1 9 0))) S Tf := hR.fr1 hB (fun a ha => by rw [wI_o _ _ _ _ (by omega), wI_o _ _ _ _ (by omega)])
  refine G.met (by decide) (Nat.le_of_ble_eq_true rfl) ?_
  show G _ _ _ 0 [some (.ref (234 + 3 * d)), some (.ref (57 + 7)), some (.int (nI (S.1 9 0))), none] [] σ
  refine gs_aload_n dX8_holdNodes_0 rfl rfl ?_
  refine g_iconst (v := nI 3) dX8_holdNodes_1 (by decide) ?_
  refine g_putI dX8_holdNodes_2 pX8_19 (kSh hd) (by decide) (Or.inl rfl) ?_
  refine gs_aload_n dX8_holdNodes_5 rfl rfl ?_
  refine gs_iload_n dX8_holdNodes_6 rfl rfl ?_
  refine g_putI dX8_holdNodes_7 pX8_46 (kSh hd) (by decide) (Or.inl rfl) ?_
  refine g_iconst (v := nI 0) dX8_holdNodes_10 (by decide) ?_
  refine gs_istore_n (ls' := [_, _, _, _]) dX8_holdNodes_11 rfl rfl rfl ?_
  have q := cl_holdNodes hR1 hB hd (K := fun v τ => v = none ∧ τ = rwI (wI (wI σ (234 + 3 * d) 2 (nI 3)) (234 + 3 * d) 3 (nI (S.1 9 0))) (235 + 3 * d) (fun i => nI (S.1 29 i)) (S.1 9 0)) ⟨rfl, rfl⟩ (S.1 9 0) 0 (by omega)
  rw [rwI_0] at q
  exact q
theorem r_holdCells {σ : Mm} {d p : Nat} (hd : d < 8) (h20 : p < 20) : RV W0 mX8_holdCells [.ref (234 + 3 * d), .ref (57 + 18 + 3 * p)] σ (fun τ => τ = cpI (wI (wI σ (234 + 3 * d) 2 (nI 4)) (234 + 3 * d) 3 (nI 4)) (57 + 19 + 3 * p) (236 + 3 * d) 0 0 4) := by
  have hb : mch 57 := Or.inl rfl
  refine G.met (by decide) (Nat.le_of_ble_eq_true rfl) ?_
  show G _ _ _ 0 [some (.ref (234 + 3 * d)), some (.ref (57 + 18 + 3 * p))] [] σ
  refine gs_aload_n dX8_holdCells_0 rfl rfl ?_
  refine g_iconst (v := nI 4) dX8_holdCells_1 (by decide) ?_
  refine g_putI dX8_holdCells_2 pX8_19 (kSh hd) (by decide) (Or.inl rfl) ?_
  refine gs_aload_n dX8_holdCells_5 rfl rfl ?_
  refine g_iconst (v := nI 4) dX8_holdCells_6 (by decide) ?_
  refine g_putI dX8_holdCells_7 pX8_46 (kSh hd) (by decide) (Or.inl rfl) ?_
  refine gs_aload_n dX8_holdCells_10 rfl rfl ?_
  refine g_getR dX8_holdCells_11 fX8_54 (kPg hb h20) (by decide) (rPg_cells hb h20) ?_
  refine g_iconst (v := nI 0) dX8_holdCells_14 (by decide) ?_
  refine gs_aload_n dX8_holdCells_15 rfl rfl ?_
  refine g_getR dX8_holdCells_16 fX8_15 (kSh hd) (by decide) (rSh_ints hd) ?_
  refine g_iconst (v := nI 0) dX8_holdCells_19 (by decide) ?_
  refine g_iconst (v := nI 4) dX8_holdCells_20 (by decide) ?_
  refine g_copyI dX8_holdCells_21 acL8 (kPg_cells hb h20) (kSh_ints hd) (by decide) (by decide) (by decide) (by decide) (by decide) (Nat.le_of_ble_eq_true rfl) ?_
  refine g_return dX8_holdCells_24 rfl ?_
  exact ⟨rfl, rfl⟩
theorem r_holdZeros {σ : Mm} {d : Nat} {y : Int32} {n : Nat} (hd : d < 8) : RV W0 mX8_holdZeros [.ref (234 + 3 * d), .int y, .int (nI n)] σ (fun τ => τ = flI (flI (wI (wI σ (234 + 3 * d) 2 y) (234 + 3 * d) 3 (nI n)) (235 + 3 * d) 60 (nI 0)) (236 + 3 * d) 60 (nI 0)) := by
  refine G.met (by decide) (Nat.le_of_ble_eq_true rfl) ?_
  show G _ _ _ 0 [some (.ref (234 + 3 * d)), some (.int y), some (.int (nI n))] [] σ
  refine gs_aload_n dX8_holdZeros_0 rfl rfl ?_
  refine gs_iload_n dX8_holdZeros_1 rfl rfl ?_
  refine g_putI dX8_holdZeros_2 pX8_19 (kSh hd) (by decide) (Or.inl rfl) ?_
  refine gs_aload_n dX8_holdZeros_5 rfl rfl ?_
  refine gs_iload_n dX8_holdZeros_6 rfl rfl ?_
  refine g_putI dX8_holdZeros_7 pX8_46 (kSh hd) (by decide) (Or.inl rfl) ?_
  refine gs_aload_n dX8_holdZeros_10 rfl rfl ?_
  refine g_getR dX8_holdZeros_11 fX8_9 (kSh hd) (by decide) (rSh_bytes hd) ?_
  refine g_iconst (v := nI 0) dX8_holdZeros_14 (by decide) ?_
  refine g_cSV2 dX8_holdZeros_15 vX8_63 (by decide) (Nat.le_of_ble_eq_true rfl) (s_fillB (kSh_bytes hd) (by decide) (by decide)) ?_
  rintro _ rfl
  refine gs_aload_n dX8_holdZeros_18 rfl rfl ?_
  refine g_getR dX8_holdZeros_19 fX8_15 (kSh hd) (by decide) (rSh_ints hd) ?_
  refine g_iconst (v := nI 0) dX8_holdZeros_22 (by decide) ?_
  refine g_cSV2 dX8_holdZeros_23 vX8_69 (by decide) (Nat.le_of_ble_eq_true rfl) (s_fill (kSh_ints hd) (by decide)) ?_
  rintro _ rfl
  refine g_return dX8_holdZeros_26 rfl ?_
  exact ⟨rfl, rfl⟩
theorem k0_C {σ : Mm} {S : Sx} {H : Hx} (h : CI σ S H) (hB : Bd S) {d : Nat} (hd : d < 8) : CI (wI σ (234 + 3 * d) 2 (nI 0)) S (h0K H d) ∧ frK σ (wI σ (234 + 3 * d) 2 (nI 0)) := by
  have e0 : h0K H d 0 d = nI 0 := by rw [h0K, hw_o (by decide), hw_s, if_pos rfl]
  refine h.sh hB hd (fun a ha => wI_o _ _ _ _ (by omega)) rfl (fun k x hk hx => by rw [h0K, hw_ne hx, hw_ne hx]) (fun x _ => by rw [h0K, hw_o (by decide), hw_o (by decide)]) ⟨?_, ?_, ?_, ?_, ?_⟩
  · rw [e0, wI_at, if_pos ⟨rfl, rfl⟩]
  · exact Or.inl e0
  · rw [e0]; intro q; exact absurd q (by decide)
  · rw [e0]; intro q; exact absurd q (by decide)
  · rw [e0]; intro q; exact absurd q (by decide)
theorem k1_C {σ : Mm} {S : Sx} {H : Hx} (h : CI σ S H) (hB : Bd S) {d p : Nat} (hd : d < 8) (hp : p < S.1 7 0) : CI (wI (wI (wI (wI (wI σ (234 + 3 * d) 2 (nI 1)) (234 + 3 * d) 4 (nI p)) (234 + 3 * d) 5 (nI (S.1 8 p))) (234 + 3 * d) 6 (nI (pc4 (S.1 25 p)))) (234 + 3 * d) 7 (lzC (S.1 24 p))) S (h1K S H d p) ∧ frK σ (wI (wI (wI (wI (wI σ (234 + 3 * d) 2 (nI 1)) (234 + 3 * d) 4 (nI p)) (234 + 3 * d) 5 (nI (S.1 8 p))) (234 + 3 * d) 6 (nI (pc4 (S.1 25 p)))) (234 + 3 * d) 7 (lzC (S.1 24 p))) := by
  have bP := B_P hB 0
  have e0 : h1K S H d p 0 d = nI 1 := by rw [h1K, hw_o (by decide), hw_o (by decide), hw_o (by decide), hw_s, if_pos rfl]
  refine h.sh hB hd (fun a ha => by rw [wI_o _ _ _ _ (by omega), wI_o _ _ _ _ (by omega), wI_o _ _ _ _ (by omega), wI_o _ _ _ _ (by omega), wI_o _ _ _ _ (by omega)]) rfl (fun k x hk hx => by rw [h1K, hw_ne hx, hw_ne hx, hw_ne hx, hw_ne hx]) (fun x _ => by rw [h1K, hw_o (by decide), hw_o (by decide), hw_o (by decide), hw_o (by decide)]) ⟨?_, ?_, ?_, ?_, ?_⟩
  · rw [e0]; simp [wI_at]
  · exact Or.inr (Or.inl e0)
  · rw [e0]; intro q; exact absurd q (by decide)
  · rw [e0]; intro q; exact absurd q (by decide)
  · intro _
    refine ⟨p, S.1 8 p, pc4 (S.1 25 p), S.1 24 p, by omega, B_kind hB p, pc4_le, B_lies hB p, by simp [wI_at], by simp [wI_at], by simp [wI_at], by simp [wI_at], ?_, ?_⟩
    · rw [h1K, hw_o (by decide), hw_s, if_pos rfl]; rfl
    · rw [h1K, hw_s, if_pos rfl]; rfl
theorem k3_C {σ : Mm} {S : Sx} {H : Hx} (h : CI σ S H) (hB : Bd S) {d : Nat} (hd : d < 8) : CI (rwI (wI (wI σ (234 + 3 * d) 2 (nI 3)) (234 + 3 * d) 3 (nI (S.1 9 0))) (235 + 3 * d) (fun i => nI (S.1 29 i)) (S.1 9 0)) S (h3K S H d) ∧ frK σ (rwI (wI (wI σ (234 + 3 * d) 2 (nI 3)) (234 + 3 * d) 3 (nI (S.1 9 0))) (235 + 3 * d) (fun i => nI (S.1 29 i)) (S.1 9 0)) := by
  have bT := B_T hB 0
  have e0 : h3K S H d 0 d = nI 3 := by rw [h3K, hrow_k (by decide), hw_o (by decide), hw_s, if_pos rfl]
  have e1 : h3K S H d 1 d = nI (S.1 9 0) := by rw [h3K, hrow_k (by decide), hw_s, if_pos rfl]
  have er : ∀ (τ : Mm) (f : Nat → Int32) (n a x : Nat), x ≠ a → (rwI τ a f n).1 x = τ.1 x := fun τ f n a x hx => by funext j; exact if_neg (fun z => hx z.1)
  refine h.sh hB hd (fun a ha => by rw [er _ _ _ _ _ (by omega), wI_o _ _ _ _ (by omega), wI_o _ _ _ _ (by omega)]) rfl (fun k x hk hx => by rw [h3K, hrow_k (by omega), hw_ne hx, hw_ne hx]) (fun x hx => by rw [h3K, hrow_o (by omega) hx, hw_o (by decide), hw_o (by decide)]) ⟨?_, ?_, ?_, ?_, ?_⟩
  · rw [e0, er _ _ _ _ _ (by omega)]; simp [wI_at]
  · exact Or.inr (Or.inr (Or.inl e0))
  · intro _
    refine ⟨S.1 9 0, by omega, e1, by rw [er _ _ _ _ _ (by omega)]; simp [wI_at], fun i hi => ?_⟩
    rw [h3K, hrow_i hi, rwI_at, if_pos ⟨rfl, hi⟩]
    exact ⟨rfl, S.1 29 i, by have := B_at hB i; omega, rfl⟩
  · rw [e0]; intro q; exact absurd q (by decide)
  · rw [e0]; intro q; exact absurd q (by decide)
theorem k4_C {σ : Mm} {S : Sx} {H : Hx} (h : CI σ S H) (hB : Bd S) {d p : Nat} (hd : d < 8) (hp : p < S.1 7 0) : CI (cpI (wI (wI σ (234 + 3 * d) 2 (nI 4)) (234 + 3 * d) 3 (nI 4)) (57 + 19 + 3 * p) (236 + 3 * d) 0 0 4) S (h4K S H d p) ∧ frK σ (cpI (wI (wI σ (234 + 3 * d) 2 (nI 4)) (234 + 3 * d) 3 (nI 4)) (57 + 19 + 3 * p) (236 + 3 * d) 0 0 4) := by
  have bP := B_P hB 0
  obtain ⟨Tf, hR, -⟩ := h.1
  have e0 : h4K S H d p 0 d = nI 4 := by rw [h4K, hrow_k (by decide), hw_o (by decide), hw_s, if_pos rfl]
  have e1 : h4K S H d p 1 d = nI 4 := by rw [h4K, hrow_k (by decide), hw_s, if_pos rfl]
  have er : ∀ (τ : Mm) (a0 a sp dp n x : Nat), x ≠ a → (cpI τ a0 a sp dp n).1 x = τ.1 x := fun τ a0 a sp dp n x hx => if_neg hx
  refine h.sh hB hd (fun a ha => by rw [er _ _ _ _ _ _ _ (by omega), wI_o _ _ _ _ (by omega), wI_o _ _ _ _ (by omega)]) rfl (fun k x hk hx => by rw [h4K, hrow_k (by omega), hw_ne hx, hw_ne hx]) (fun x hx => by rw [h4K, hrow_o (by omega) hx, hw_o (by decide), hw_o (by decide)]) ⟨?_, ?_, ?_, ?_, ?_⟩
  · rw [e0, er _ _ _ _ _ _ _ (by omega)]; simp [wI_at]
  · exact Or.inr (Or.inr (Or.inr e0))
  · rw [e0]; intro q; exact absurd q (by decide)
  · intro _
    refine ⟨4, by decide, e1, by rw [er _ _ _ _ _ _ _ (by omega)]; simp [wI_at], fun i hi => ?_⟩
    rw [h4K, hrow_i hi, cpI_at, if_pos rfl, if_pos ⟨by omega, by omega⟩, wI_o _ _ _ _ (by omega), wI_o _ _ _ _ (by omega), Nat.zero_add, Nat.sub_zero]
    exact C_cellx hR (by omega) hp hi
  · rw [e0]; intro q; exact absurd q (by decide)
theorem a_keep {σ : Mm} {S : Sx} {H : Hx} (hJ : CI σ S H) (hPI : PI S) (x y z : Int32) : RI W0 mX11_keep [.ref 0, .int x, .int y, .int z] σ (fun r τ => r = aKeep S x y z ∧ CI τ S (nKeep S H x y z) ∧ frK σ τ) := by
  have hJ0 := hJ
  obtain ⟨⟨Tf, hR, hTk⟩, hSh, hTr1, hTr2⟩ := hJ
  have hb : mch 57 := Or.inl rfl
  have hB : Bd S := hPI.1.1.1.1
  have b0 := B_nodes hB 0
  have bP := B_P hB 0
  have bT := B_T hB 0
  refine G.met (by decide) (Nat.le_of_ble_eq_true rfl) ?_
  show G _ _ _ 0 [some (.ref 0), some (.int x), some (.int y), some (.int z)] [] σ
  refine gs_iload_n dX11_keep_0 rfl rfl ?_
  refine g_cSI1 dX11_keep_1 vX11_306 (by decide) (Nat.le_of_ble_eq_true rfl) (c_isShelf _) ?_
  rintro _ σ ⟨rfl, e9⟩
  subst e9
  refine gb_if_ne (tgt := 9) dX11_keep_4 (by decide) (fun c4 => ?_) (fun c4 => ?_)
  · obtain ⟨d, hdl, hd, rfl⟩ := rg_of c4
    have hd : d < 8 := by omega
    rcases sw5 y with h9 | h9 | h9 | h9 | h9 | h9
    · subst h9
      refine gs_iload_n dX11_keep_9 rfl rfl ?_
      refine g_iconst (v := nI 1) dX11_keep_10 (by decide) ?_
      refine gf_icmp_eq (tgt := 19) dX11_keep_11 (by decide) (by omega) (by omega) (by omega) ?_
      refine gs_iload_n dX11_keep_14 rfl rfl ?_
      refine g_iconst (v := nI 4) dX11_keep_15 (by decide) ?_
      refine gt_icmp_ne (tgt := 32) dX11_keep_16 (by decide) (by omega) (by omega) (by omega) ?_
      refine gs_iload_n dX11_keep_32 rfl rfl ?_
      · refine g_tableIn (off := 35) (tgt := 68) dX11_keep_33 (by decide) (by decide) (by decide) (by decide) ?_
        refine gs_aload_n dX11_keep_68 rfl rfl ?_
        refine g_getR dX11_keep_69 fX11_41 kFC (by decide) rFC_shelves ?_
        refine gs_iload_n dX11_keep_72 rfl rfl ?_
        refine g_aald26 dX11_keep_73 kShs hd (rSh hd) ?_
        refine g_iconst (v := nI 0) dX11_keep_74 (by decide) ?_
        refine g_putI dX11_keep_75 pX11_309 (kSh hd) (by decide) (Or.inl rfl) ?_
        refine g_iconst (v := nI 0) dX11_keep_78 (by decide) ?_
        refine g_ireturn dX11_keep_79 rfl ?_
        exact ⟨_, rfl, by rw [aKeep, if_pos c4, swA_n (by decide) (Nat.le_of_ble_eq_true rfl)] <;> rfl, by rw [nKeep, if_pos c4, swH_n (by decide) (Nat.le_of_ble_eq_true rfl), nN_n (by omega)]; exact k0_C hJ0 hB hd⟩
    · subst h9
      refine gs_iload_n dX11_keep_9 rfl rfl ?_
      refine g_iconst (v := nI 1) dX11_keep_10 (by decide) ?_
      refine gt_icmp_eq (tgt := 19) dX11_keep_11 (by decide) (by omega) (by omega) (by omega) ?_
      refine gs_aload_n dX11_keep_19 rfl rfl ?_
      refine g_getR dX11_keep_20 fX11_32 kFC (by decide) rFC_machine ?_
      refine gs_iload_n dX11_keep_23 rfl rfl ?_
      refine g_cVI1 dX11_keep_24 vX11_138 (by decide) (kMa hb) (by decide) (Nat.le_of_ble_eq_true rfl) (c_hasPage hb hR hB _) ?_
      rintro _ σ ⟨rfl, e9⟩
      subst e9
      refine gb_if_ne (tgt := 32) dX11_keep_27 (by decide) (fun c27 => ?_) (fun c27 => ?_)
      · obtain ⟨p, hp, rfl⟩ := inN_of c27 (by omega)
        have h20 : p < 20 := by omega
        refine gs_iload_n dX11_keep_32 rfl rfl ?_
        · refine g_tableIn (off := 47) (tgt := 80) dX11_keep_33 (by decide) (by decide) (by decide) (by decide) ?_
          refine gs_aload_n dX11_keep_80 rfl rfl ?_
          refine g_getR dX11_keep_81 fX11_41 kFC (by decide) rFC_shelves ?_
          refine gs_iload_n dX11_keep_84 rfl rfl ?_
          refine g_aald26 dX11_keep_85 kShs hd (rSh hd) ?_
          refine gs_iload_n dX11_keep_86 rfl rfl ?_
          refine gs_aload_n dX11_keep_87 rfl rfl ?_
          refine g_getR dX11_keep_88 fX11_32 kFC (by decide) rFC_machine ?_
          refine g_getR dX11_keep_91 fX11_141 (kMa hb) (by decide) (rMa_pages hb) ?_
          refine gs_iload_n dX11_keep_94 rfl rfl ?_
          refine g_aald24 dX11_keep_95 (kMa_pages hb) h20 (rPs hb h20) ?_
          refine g_cVV2 dX11_keep_96 vX11_312 (by decide) (kSh hd) (by decide) (Nat.le_of_ble_eq_true rfl) (r_holdPage hR hB hd hp) ?_
          rintro _ rfl
          refine g_iconst (v := nI 0) dX11_keep_99 (by decide) ?_
          refine g_ireturn dX11_keep_100 rfl ?_
          exact ⟨_, rfl, by rw [aKeep, if_pos c4, swA_n (by decide) (Nat.le_of_ble_eq_true rfl)]; exact (if_pos c27).symm, by rw [nKeep, if_pos c4, swH_n (by decide) (Nat.le_of_ble_eq_true rfl), nN_n (by omega)]; show CI _ S (if inN (nI p) (S.1 7 0) = true then h1K S H d (nN (nI p)) else H) ∧ _; rw [if_pos c27, nN_n (by omega)]; exact k1_C hJ0 hB hd hp⟩
      · refine g_iconst (v := -1) dX11_keep_30 (by decide) ?_
        refine g_ireturn dX11_keep_31 rfl ?_
        exact ⟨_, rfl, by rw [aKeep, if_pos c4, swA_n (by decide) (Nat.le_of_ble_eq_true rfl)]; exact (if_neg (nbf c27)).symm, by rw [nKeep, if_pos c4, swH_n (by decide) (Nat.le_of_ble_eq_true rfl)]; show CI _ S (if inN z (S.1 7 0) = true then h1K S H (nN (nI d)) (nN z) else H) ∧ _; rw [if_neg (nbf c27)]; exact ⟨hJ0, frK.rf _⟩⟩
    · subst h9
      refine gs_iload_n dX11_keep_9 rfl rfl ?_
      refine g_iconst (v := nI 1) dX11_keep_10 (by decide) ?_
      refine gf_icmp_eq (tgt := 19) dX11_keep_11 (by decide) (by omega) (by omega) (by omega) ?_
      refine gs_iload_n dX11_keep_14 rfl rfl ?_
      refine g_iconst (v := nI 4) dX11_keep_15 (by decide) ?_
      refine gt_icmp_ne (tgt := 32) dX11_keep_16 (by decide) (by omega) (by omega) (by omega) ?_
      refine gs_iload_n dX11_keep_32 rfl rfl ?_
      · refine g_tableIn (off := 113) (tgt := 146) dX11_keep_33 (by decide) (by decide) (by decide) (by decide) ?_
        refine g_iconst (v := -1) dX11_keep_146 (by decide) ?_
        refine g_ireturn dX11_keep_147 rfl ?_
        exact ⟨_, rfl, by rw [aKeep, if_pos c4, swA_n (by decide) (Nat.le_of_ble_eq_true rfl)] <;> rfl, by rw [nKeep, if_pos c4, swH_n (by decide) (Nat.le_of_ble_eq_true rfl), nN_n (by omega)]; exact ⟨hJ0, frK.rf _⟩⟩
    · subst h9
      refine gs_iload_n dX11_keep_9 rfl rfl ?_
      refine g_iconst (v := nI 1) dX11_keep_10 (by decide) ?_
      refine gf_icmp_eq (tgt := 19) dX11_keep_11 (by decide) (by omega) (by omega) (by omega) ?_
      refine gs_iload_n dX11_keep_14 rfl rfl ?_
      refine g_iconst (v := nI 4) dX11_keep_15 (by decide) ?_
      refine gt_icmp_ne (tgt := 32) dX11_keep_16 (by decide) (by omega) (by omega) (by omega) ?_
      refine gs_iload_n dX11_keep_32 rfl rfl ?_
      · refine g_tableIn (off := 68) (tgt := 101) dX11_keep_33 (by decide) (by decide) (by decide) (by decide) ?_
        refine gs_aload_n dX11_keep_101 rfl rfl ?_
        refine g_getR dX11_keep_102 fX11_41 kFC (by decide) rFC_shelves ?_
        refine gs_iload_n dX11_keep_105 rfl rfl ?_
        refine g_aald26 dX11_keep_106 kShs hd (rSh hd) ?_
        refine gs_aload_n dX11_keep_107 rfl rfl ?_
        refine g_getR dX11_keep_108 fX11_32 kFC (by decide) rFC_machine ?_
        refine g_getR dX11_keep_111 fX11_101 (kMa hb) (by decide) (rMa_workers hb) ?_
        refine gs_aload_n dX11_keep_114 rfl rfl ?_
        refine g_getR dX11_keep_115 fX11_32 kFC (by decide) rFC_machine ?_
        refine g_getI dX11_keep_118 fX11_92 (kMa hb) (by decide) (C_T hR) ?_
        refine g_cVV2 dX11_keep_121 vX11_316 (by decide) (kSh hd) (by decide) (Nat.le_of_ble_eq_true rfl) (r_holdNodes hR hB hd) ?_
        rintro _ rfl
        refine g_iconst (v := nI 0) dX11_keep_124 (by decide) ?_
        refine g_ireturn dX11_keep_125 rfl ?_
        exact ⟨_, rfl, by rw [aKeep, if_pos c4, swA_n (by decide) (Nat.le_of_ble_eq_true rfl)] <;> rfl, by rw [nKeep, if_pos c4, swH_n (by decide) (Nat.le_of_ble_eq_true rfl), nN_n (by omega)]; exact k3_C hJ0 hB hd⟩
    · subst h9
      refine gs_iload_n dX11_keep_9 rfl rfl ?_
      refine g_iconst (v := nI 1) dX11_keep_10 (by decide) ?_
      refine gf_icmp_eq (tgt := 19) dX11_keep_11 (by decide) (by omega) (by omega) (by omega) ?_
      refine gs_iload_n dX11_keep_14 rfl rfl ?_
      refine g_iconst (v := nI 4) dX11_keep_15 (by decide) ?_
      refine gf_icmp_ne (tgt := 32) dX11_keep_16 (by decide) (by omega) (by omega) (by omega) ?_
      refine gs_aload_n dX11_keep_19 rfl rfl ?_
      refine g_getR dX11_keep_20 fX11_32 kFC (by decide) rFC_machine ?_
      refine gs_iload_n dX11_keep_23 rfl rfl ?_
      refine g_cVI1 dX11_keep_24 vX11_138 (by decide) (kMa hb) (by decide) (Nat.le_of_ble_eq_true rfl) (c_hasPage hb hR hB _) ?_
      rintro _ σ ⟨rfl, e9⟩
      subst e9
      refine gb_if_ne (tgt := 32) dX11_keep_27 (by decide) (fun c27 => ?_) (fun c27 => ?_)
      · obtain ⟨p, hp, rfl⟩ := inN_of c27 (by omega)
        have h20 : p < 20 := by omega
        refine gs_iload_n dX11_keep_32 rfl rfl ?_
        · refine g_tableIn (off := 93) (tgt := 126) dX11_keep_33 (by decide) (by decide) (by decide) (by decide) ?_
          refine gs_aload_n dX11_keep_126 rfl rfl ?_
          refine g_getR dX11_keep_127 fX11_41 kFC (by decide) rFC_shelves ?_
          refine gs_iload_n dX11_keep_130 rfl rfl ?_
          refine g_aald26 dX11_keep_131 kShs hd (rSh hd) ?_
          refine gs_aload_n dX11_keep_132 rfl rfl ?_
          refine g_getR dX11_keep_133 fX11_32 kFC (by decide) rFC_machine ?_
          refine g_getR dX11_keep_136 fX11_141 (kMa hb) (by decide) (rMa_pages hb) ?_
          refine gs_iload_n dX11_keep_139 rfl rfl ?_
          refine g_aald24 dX11_keep_140 (kMa_pages hb) h20 (rPs hb h20) ?_
          refine g_cVV1 dX11_keep_141 vX11_320 (by decide) (kSh hd) (by decide) (Nat.le_of_ble_eq_true rfl) (r_holdCells hd h20) ?_
          rintro _ rfl
          refine g_iconst (v := nI 0) dX11_keep_144 (by decide) ?_
          refine g_ireturn dX11_keep_145 rfl ?_
          exact ⟨_, rfl, by rw [aKeep, if_pos c4, swA_n (by decide) (Nat.le_of_ble_eq_true rfl)]; exact (if_pos c27).symm, by rw [nKeep, if_pos c4, swH_n (by decide) (Nat.le_of_ble_eq_true rfl), nN_n (by omega)]; show CI _ S (if inN (nI p) (S.1 7 0) = true then h4K S H d (nN (nI p)) else H) ∧ _; rw [if_pos c27, nN_n (by omega)]; exact k4_C hJ0 hB hd hp⟩
      · refine g_iconst (v := -1) dX11_keep_30 (by decide) ?_
        refine g_ireturn dX11_keep_31 rfl ?_
        exact ⟨_, rfl, by rw [aKeep, if_pos c4, swA_n (by decide) (Nat.le_of_ble_eq_true rfl)]; exact (if_neg (nbf c27)).symm, by rw [nKeep, if_pos c4, swH_n (by decide) (Nat.le_of_ble_eq_true rfl)]; show CI _ S (if inN z (S.1 7 0) = true then h4K S H (nN (nI d)) (nN z) else H) ∧ _; rw [if_neg (nbf c27)]; exact ⟨hJ0, frK.rf _⟩⟩
    · refine gs_iload_n dX11_keep_9 rfl rfl ?_
      refine g_iconst (v := nI 1) dX11_keep_10 (by decide) ?_
      refine rf_icmp_eq (tgt := 19) dX11_keep_11 (by decide) (fun e => by rw [e] at h9; revert h9; decide) ?_
      refine gs_iload_n dX11_keep_14 rfl rfl ?_
      refine g_iconst (v := nI 4) dX11_keep_15 (by decide) ?_
      refine rt_icmp_ne (tgt := 32) dX11_keep_16 (by decide) (fun e => by rw [e] at h9; revert h9; decide) ?_
      refine gs_iload_n dX11_keep_32 rfl rfl ?_
      · refine g_tableOut (tgt := 146) dX11_keep_33 h9 (by decide) ?_
        refine g_iconst (v := -1) dX11_keep_146 (by decide) ?_
        refine g_ireturn dX11_keep_147 rfl ?_
        exact ⟨_, rfl, by rw [aKeep, if_pos c4, swA_o h9 rfl], by rw [nKeep, if_pos c4, swH_o h9 rfl]; exact ⟨hJ0, frK.rf _⟩⟩
  · refine g_iconst (v := -1) dX11_keep_7 (by decide) ?_
    refine g_ireturn dX11_keep_8 rfl ?_
    exact ⟨_, rfl, by rw [aKeep, if_neg (nbf c4)], by rw [nKeep, if_neg (nbf c4)]; exact ⟨hJ0, frK.rf _⟩⟩
