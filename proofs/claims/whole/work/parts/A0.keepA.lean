/-! What the calls keep, pure: from one call to the next. -/
theorem PI_of {S S' : Sx} (h : PI S) (hB : Bd S') (hg : ∀ g, g ≤ 9 ∨ 24 ≤ g → S'.1 g = S.1 g) (h10 : ∀ t, S.1 10 t ≤ S'.1 10 t) (hv : ∀ g, 7 ≤ g → S'.2.1 g = S.2.1 g) (hq : S'.2.2 = S.2.2) : PI S' := by
  obtain ⟨⟨⟨hIv, hHp, hFn, hCv, h30⟩, hcap, hLz, hQi, hUw⟩, hSp, hLg, hGw, hRn, hZp, hZt⟩ := h
  have e0 := hg 0 (by omega)
  have e1 := hg 1 (by omega)
  have e3 := hg 3 (by omega)
  have e4 := hg 4 (by omega)
  have e5 := hg 5 (by omega)
  have e7 := hg 7 (by omega)
  have e9 := hg 9 (by omega)
  have e30 := hg 30 (by omega)
  have hj := Jv_of (S' := S') ⟨hFn, hCv⟩ e0 (hg 8 (by omega)) (hg 24 (by omega)) (hg 25 (by omega)) (hg 27 (by omega)) (hg 28 (by omega))
  refine ⟨⟨⟨Iv_of hIv hB e0 e3 e5 (hg 29 (by omega)) (hg 24 (by omega)), Hp_of hHp e0 e3 e5 (hg 6 (by omega)), hj.1, hj.2, fun t => ?_⟩, cCap_of hcap (hg 39 (by omega)) (hg 34 (by omega)), fun i hi => by rw [hg 33 (by omega)]; exact hLz i hi, Qi_of hQi e9 (hg 29 (by omega)) (hg 35 (by omega)) (hg 36 (by omega)) hq, fun a => ?_⟩, ?_, ?_, ?_, ?_, ?_, ?_⟩
  · rw [e30]; exact Nat.le_trans (h30 t) (h10 t)
  · rw [e9, e1, uwS_cong (S := S) (hg 29 (by omega)) (fun u _ => by rw [hg 31 (by omega)])]; exact hUw a
  · unfold Sp; rw [e3, e4]; exact hSp
  · unfold Lg; rw [hg 34 (by omega), e0, e7, hv 16 (by omega)]; exact hLg
  · unfold Gw; rw [hv 18 (by omega), e30]; exact hGw
  · intro a b ha hb hr
    rw [e0] at ha hb ⊢
    rw [e5] at hr
    rw [rhS_eq e0 e3 e5]; exact hRn a b ha hb hr
  · unfold Zp; rw [e7, hg 25 (by omega), hg 26 (by omega), hg 27 (by omega), hv 7 (by omega), hv 8 (by omega), hv 9 (by omega)]; exact hZp
  · unfold Zt; rw [e9, e30, hg 31 (by omega), hg 32 (by omega), hv 10 (by omega), hv 11 (by omega), hv 12 (by omega)]; exact hZt
theorem PI_rule {S : Sx} (h : PI S) (x y z : Int32) : PI (nRule S x y z) := by
  unfold nRule
  split
  · next q =>
    obtain ⟨c1, c2⟩ := Bool.and_eq_true_iff.mp q
    obtain ⟨c2, c3⟩ := Bool.and_eq_true_iff.mp c2
    obtain ⟨p, -, hp, rfl⟩ := rg_of c1
    obtain ⟨e, -, he, rfl⟩ := rg_of c2
    obtain ⟨g, -, hg, rfl⟩ := rg_of c3
    rw [nN_n (by omega), nN_n (by omega), nN_n (by omega)]
    refine PI_of h (Bd_setN (Bd_setN (Bd_setN h.1.1.1.1 hp) he) hg) (fun g hg => ?_) (fun t => ?_) (fun _ _ => rfl) rfl
    · unfold rl1; rw [setN_ne (by omega), setN_ne (by omega), setN_ne (by omega)]
    · unfold rl1; rw [setN_ne (by decide), setN_ne (by decide), setN_ne (by decide)]; exact Nat.le_refl _
  · exact h
theorem PI_prices {S : Sx} (h : PI S) (x y : Int32) : PI (nPrices S x y) := by
  unfold nPrices
  split
  · next q =>
    obtain ⟨c1, c2⟩ := Bool.and_eq_true_iff.mp q
    obtain ⟨p, -, hp, rfl⟩ := rg_of c1
    obtain ⟨e, -, he, rfl⟩ := rg_of c2
    rw [nN_n (by omega), nN_n (by omega)]
    refine PI_of h (Bd_setN (Bd_setN h.1.1.1.1 hp) he) (fun g hg => ?_) (fun t => ?_) (fun _ _ => rfl) rfl
    · unfold pr1; rw [setN_ne (by omega), setN_ne (by omega)]
    · unfold pr1; rw [setN_ne (by decide), setN_ne (by decide)]; exact Nat.le_refl _
  · exact h
theorem PI_access {S : Sx} (h : PI S) (x y z : Int32) (wb : Bool) (v : Int32) : PI (nAccess S x y z wb v) := by
  unfold nAccess
  split
  · next q =>
    obtain ⟨c1, c2⟩ := Bool.and_eq_true_iff.mp q
    obtain ⟨c2, c3⟩ := Bool.and_eq_true_iff.mp c2
    obtain ⟨c3, c4⟩ := Bool.and_eq_true_iff.mp c3
    obtain ⟨p, -, hp, rfl⟩ := rg_of c3
    obtain ⟨c, -, hc, rfl⟩ := rg_of c4
    rw [nN_n (a := p) (by omega), nN_n (a := c) (by omega)]
    split
    · exact h
    · next hne =>
      have b10 := B_told h.1.1.1.1 (nN x)
      refine PI_of h (Bd_setN (Bd_setV (Bd_setN (Bd_setN (Bd_setN h.1.1.1.1 hp) hc) (bN_le wb))) (show _ ≤ 60 by omega)) (fun g hg => ?_) (fun t => ?_) (fun g hg => ?_) rfl
      · unfold ac1; rw [setN_ne (by omega), setV_1, setN_ne (by omega), setN_ne (by omega), setN_ne (by omega)]
      · unfold ac1
        rw [setN_at, setV_1, setN_ne (by decide), setN_ne (by decide), setN_ne (by decide)]
        split
        · next z => rw [z.2]; omega
        · exact Nat.le_refl _
      · unfold ac1; rw [setN_2, setV_vne (by omega)]; rfl
  · exact h
theorem PI_page {S : Sx} (h : PI S) (x : Int32) : PI (nPage S x) := by
  unfold nPage
  split
  · next q =>
    obtain ⟨k, -, hk, rfl⟩ := rg_of q
    rw [nN_n (by omega)]
    split
    · exact h
    · next hne =>
      obtain ⟨⟨⟨⟨hB, h2, hat, hl, hrh⟩, hHp, hFn, hCv, h30⟩, hcap, hLz, hQi, hUw⟩, hSp, hLg, hGw, hRn, hZp, hZt⟩ := h
      have bP := B_P hB 0
      have e : ∀ g, g ≠ 7 → g ≠ 8 → g ≠ 24 → (pg1 S k).1 g = S.1 g := fun g a b c => by unfold pg1; rw [setN_ne a, setN_ne c, setN_ne b]
      have e7 : (pg1 S k).1 7 0 = S.1 7 0 + 1 := by unfold pg1; rw [setN_at, if_pos ⟨rfl, rfl⟩]
      have e24 : ∀ p, (pg1 S k).1 24 p = if p = S.1 7 0 then 0 else S.1 24 p := fun p => by
        unfold pg1
        rw [setN_ne (by decide), setN_at]
        by_cases z : p = S.1 7 0
        · rw [if_pos ⟨rfl, z⟩, if_pos z]
        · rw [if_neg (fun y => z y.2), if_neg z, setN_ne (by decide)]
      have e8 : ∀ p, p ≠ S.1 7 0 → (pg1 S k).1 8 p = S.1 8 p := fun p hp => by
        unfold pg1
        rw [setN_ne (by decide), setN_ne (by decide), setN_at, if_neg (fun y => hp y.2)]
      have e0 := e 0 (by decide) (by decide) (by decide)
      have e1 := e 1 (by decide) (by decide) (by decide)
      have e3 := e 3 (by decide) (by decide) (by decide)
      have e4 := e 4 (by decide) (by decide) (by decide)
      have e5 := e 5 (by decide) (by decide) (by decide)
      have e9 := e 9 (by decide) (by decide) (by decide)
      have e25 := e 25 (by decide) (by decide) (by decide)
      have e29 := e 29 (by decide) (by decide) (by decide)
      have e30 := e 30 (by decide) (by decide) (by decide)
      refine ⟨⟨⟨⟨Bd_setN (Bd_setN (Bd_setN hB hk) (Nat.zero_le _)) (show _ ≤ 20 by omega), by rw [e0]; exact h2, fun t => by rw [e0, e29]; exact hat t, fun p => ?_, fun a b ha hb hr => ?_⟩, Hp_of hHp e0 e3 e5 (e 6 (by decide) (by decide) (by decide)), fun p j hj => ?_, fun p => ?_, fun t => by rw [e30, e 10 (by decide) (by decide) (by decide)]; exact h30 t⟩, cCap_of hcap (e 39 (by decide) (by decide) (by decide)) (e 34 (by decide) (by decide) (by decide)), fun i hi => by rw [e 33 (by decide) (by decide) (by decide)]; exact hLz i hi, Qi_of hQi e9 e29 (e 35 (by decide) (by decide) (by decide)) (e 36 (by decide) (by decide) (by decide)) rfl, fun a => ?_⟩, ?_, fun i hi => ?_, ?_, fun a b ha hb hr => ?_, fun p hp => ?_, ?_⟩
      · rw [e0, e24]; split
        · exact Nat.zero_le _
        · exact hl p
      · rw [e0] at ha hb; rw [e5] at hr; rw [rhS_eq e0 e3 e5]; exact hrh a b ha hb hr
      · rw [e0, e 28 (by decide) (by decide) (by decide)]
        rw [e 27 (by decide) (by decide) (by decide)] at hj
        exact hFn p j hj
      · rw [e25, e24]
        by_cases z : p = S.1 7 0
        · have z0 := (hZp p (by omega)).1
          rw [if_pos z, z0]
          exact ⟨fun _ => rfl, fun _ => rfl, fun y => absurd y (by decide)⟩
        · rw [if_neg z, e8 p z]; exact hCv p
      · rw [e9, e1, uwS_cong (S := S) e29 (fun u _ => by rw [e 31 (by decide) (by decide) (by decide)])]; exact hUw a
      · unfold Sp; rw [e3, e4]; exact hSp
      · rw [e 34 (by decide) (by decide) (by decide)] at hi
        obtain ⟨a, p, c, q1, q2, q3, q4⟩ := hLg i hi
        exact ⟨a, p, c, by rw [e0]; exact q1, by rw [e7]; omega, q3, q4⟩
      · unfold Gw; rw [e30]; exact hGw
      · rw [e0] at ha hb ⊢; rw [e5] at hr; rw [rhS_eq e0 e3 e5]; exact hRn a b ha hb hr
      · rw [e7] at hp
        rw [e25, e 26 (by decide) (by decide) (by decide), e 27 (by decide) (by decide) (by decide)]
        exact hZp p (by omega)
      · unfold Zt; rw [e9, e30, e 31 (by decide) (by decide) (by decide), e 32 (by decide) (by decide) (by decide)]; exact hZt
  · exact h
theorem PI_place {S : Sx} (h : PI S) (x y : Int32) : PI (nPlace S x y) := by
  unfold nPlace
  split
  · next q =>
    obtain ⟨c1, c2⟩ := Bool.and_eq_true_iff.mp q
    have bn := B_nodes h.1.1.1.1 0
    have bP := B_P h.1.1.1.1 0
    obtain ⟨p, hp, rfl⟩ := inN_of c1 (by omega)
    obtain ⟨a, ha, rfl⟩ := inN_of c2 (by omega)
    rw [nN_n (by omega), nN_n (by omega)]
    split
    · split
      · next hz =>
        obtain ⟨⟨⟨⟨hB, h2, hat, hl, hrh⟩, hHp, hFn, hCv, h30⟩, hcap, hLz, hQi, hUw⟩, hSp, hLg, hGw, hRn, hZp, hZt⟩ := h
        have e : ∀ g, g ≠ 24 → (setN S 24 p (a + 1)).1 g = S.1 g := fun g z => setN_ne z
        have hj := Ic_pl (S := S) (p := p) (nd := a) ⟨⟨hB, h2, hat, hl, hrh⟩, hHp, hFn, hCv, h30⟩ hz ha
        have hB' : Bd (setN S 24 p (a + 1)) := Bd_setN hB (show a + 1 ≤ 4 by omega)
        refine ⟨⟨⟨⟨hB', by rw [e 0 (by decide)]; exact h2, fun t => by rw [e 0 (by decide), e 29 (by decide)]; exact hat t, fun u => ?_, fun x1 x2 ha hb hr => ?_⟩, Hp_of hHp (e 0 (by decide)) (e 3 (by decide)) (e 5 (by decide)) (e 6 (by decide)), ?_, fun u => ?_, ?_⟩, cCap_of hcap (e 39 (by decide)) (e 34 (by decide)), ?_, Qi_of hQi (e 9 (by decide)) (e 29 (by decide)) (e 35 (by decide)) (e 36 (by decide)) rfl, ?_⟩, ?_, ?_, ?_, ?_, ?_, ?_⟩
        · rw [e 0 (by decide), setN_at]; split
          · omega
          · exact hl u
        · rw [e 0 (by decide)] at ha hb; rw [e 5 (by decide)] at hr; rw [rhS_eq (e 0 (by decide)) (e 3 (by decide)) (e 5 (by decide))]; exact hrh x1 x2 ha hb hr
        · unfold Fn; rw [e 0 (by decide), e 27 (by decide), e 28 (by decide)]; exact hFn
        · rw [e 8 (by decide), e 25 (by decide), setN_at]
          by_cases z : u = p
          · have z0 := (hCv p).2.1 hz
            rw [if_pos ⟨rfl, z⟩, z, z0]
            exact ⟨fun _ => rfl, fun _ => rfl, fun _ => bt_0 _⟩
          · rw [if_neg (fun q => z q.2)]; exact hCv u
        · intro t; rw [e 30 (by decide), e 10 (by decide)]; exact h30 t
        · intro i hi; rw [e 33 (by decide)]; exact hLz i hi
        · intro b; rw [e 9 (by decide), e 1 (by decide), uwS_cong (S := S) (e 29 (by decide)) (fun u _ => by rw [e 31 (by decide)])]; exact hUw b
        · unfold Sp; rw [e 3 (by decide), e 4 (by decide)]; exact hSp
        · unfold Lg; rw [e 34 (by decide), e 0 (by decide), e 7 (by decide)]; exact hLg
        · unfold Gw; rw [e 30 (by decide)]; exact hGw
        · intro x1 x2 ha hb hr
          rw [e 0 (by decide)] at ha hb ⊢; rw [e 5 (by decide)] at hr; rw [rhS_eq (e 0 (by decide)) (e 3 (by decide)) (e 5 (by decide))]; exact hRn x1 x2 ha hb hr
        · unfold Zp; rw [e 7 (by decide), e 25 (by decide), e 26 (by decide), e 27 (by decide)]; exact hZp
        · unfold Zt; rw [e 9 (by decide), e 30 (by decide), e 31 (by decide), e 32 (by decide)]; exact hZt
      · exact h
    · exact h
  · exact h
-- threads
theorem uw_of {S S' : Sx} {a : Nat} : ∀ n, (∀ u, u < n → ((S'.1 29 u = a ∧ 0 < S'.1 31 u) ↔ (S.1 29 u = a ∧ 0 < S.1 31 u))) → uwS S' a n = uwS S a n := by
  intro n
  induction n with
  | zero => intro _; rfl
  | succ n ih =>
    intro h
    rw [uwS, uwS, ih (fun u hu => h u (by omega))]
    by_cases z : S.1 29 n = a ∧ 0 < S.1 31 n
    · rw [if_pos z, if_pos ((h n (by omega)).mpr z)]
    · rw [if_neg z, if_neg (fun q => z ((h n (by omega)).mp q))]
/-- threads, their nodes, stamps and queues alone change -/
theorem PI_th {S S' : Sx} (h : PI S) (hB : Bd S') (hg : ∀ g, g ≠ 9 → g ≠ 29 → g ≠ 35 → g ≠ 36 → S'.1 g = S.1 g) (hv : S'.2.1 = S.2.1) (h9 : S.1 9 0 ≤ S'.1 9 0) (hat : ∀ t, S'.1 29 t < S.1 0 0) (hq : Qi S') (hu : Uw S') : PI S' := by
  obtain ⟨⟨⟨⟨hB0, h2, -, hl, hrh⟩, hHp, hFn, hCv, h30⟩, hcap, hLz, hQi, hUw⟩, hSp, hLg, hGw, hRn, hZp, hZt⟩ := h
  have e0 := hg 0 (by decide) (by decide) (by decide) (by decide)
  have e3 := hg 3 (by decide) (by decide) (by decide) (by decide)
  have e5 := hg 5 (by decide) (by decide) (by decide) (by decide)
  have hj := Jv_of (S' := S') ⟨hFn, hCv⟩ e0 (hg 8 (by decide) (by decide) (by decide) (by decide)) (hg 24 (by decide) (by decide) (by decide) (by decide)) (hg 25 (by decide) (by decide) (by decide) (by decide)) (hg 27 (by decide) (by decide) (by decide) (by decide)) (hg 28 (by decide) (by decide) (by decide) (by decide))
  refine ⟨⟨⟨⟨hB, by rw [e0]; exact h2, fun t => by rw [e0]; exact hat t, fun p => by rw [e0, hg 24 (by decide) (by decide) (by decide) (by decide)]; exact hl p, fun a b ha hb hr => ?_⟩, Hp_of hHp e0 e3 e5 (hg 6 (by decide) (by decide) (by decide) (by decide)), hj.1, hj.2, fun t => by rw [hg 30 (by decide) (by decide) (by decide) (by decide), hg 10 (by decide) (by decide) (by decide) (by decide)]; exact h30 t⟩, cCap_of hcap (hg 39 (by decide) (by decide) (by decide) (by decide)) (hg 34 (by decide) (by decide) (by decide) (by decide)), fun i hi => by rw [hg 33 (by decide) (by decide) (by decide) (by decide)]; exact hLz i hi, hq, hu⟩, ?_, ?_, ?_, fun a b ha hb hr => ?_, ?_, fun t ht => ?_⟩
  · rw [e0] at ha hb; rw [e5] at hr; rw [rhS_eq e0 e3 e5]; exact hrh a b ha hb hr
  · unfold Sp; rw [e3, hg 4 (by decide) (by decide) (by decide) (by decide)]; exact hSp
  · unfold Lg; rw [hg 34 (by decide) (by decide) (by decide) (by decide), e0, hg 7 (by decide) (by decide) (by decide) (by decide), hv]; exact hLg
  · unfold Gw; rw [hv, hg 30 (by decide) (by decide) (by decide) (by decide)]; exact hGw
  · rw [e0] at ha hb ⊢; rw [e5] at hr; rw [rhS_eq e0 e3 e5]; exact hRn a b ha hb hr
  · unfold Zp; rw [hg 7 (by decide) (by decide) (by decide) (by decide), hg 25 (by decide) (by decide) (by decide) (by decide), hg 26 (by decide) (by decide) (by decide) (by decide), hg 27 (by decide) (by decide) (by decide) (by decide), hv]; exact hZp
  · rw [hg 30 (by decide) (by decide) (by decide) (by decide), hg 31 (by decide) (by decide) (by decide) (by decide), hg 32 (by decide) (by decide) (by decide) (by decide), hv]
    exact hZt t (by omega)
theorem PI_thread {S : Sx} (h : PI S) (hc : Cn 200 S) (x : Int32) : PI (nThread S x) := by
  unfold nThread
  split
  · next q =>
    have hB := h.1.1.1.1
    have bn := B_nodes hB 0
    have bT := B_T hB 0
    have h36 := hc.2
    obtain ⟨a, ha, rfl⟩ := inN_of q (by omega)
    rw [nN_n (by omega)]
    split
    · exact h
    · next hne =>
      have hQi := h.1.2.2.2.1
      have e : ∀ g, g ≠ 9 → g ≠ 29 → g ≠ 35 → g ≠ 36 → (th1 S a).1 g = S.1 g := fun g a1 a2 a3 a4 => by unfold th1; rw [setN_ne a1, setN_ne a4, setN_ne a3, setN_ne a2]; rfl
      have e9 : (th1 S a).1 9 0 = S.1 9 0 + 1 := by unfold th1; rw [setN_at, if_pos ⟨rfl, rfl⟩]
      have e36 : (th1 S a).1 36 0 = S.1 36 0 + 1 := by unfold th1; rw [setN_ne (by decide), setN_at, if_pos ⟨rfl, rfl⟩]
      have e29 : ∀ t, (th1 S a).1 29 t = if t = S.1 9 0 then a else S.1 29 t := fun t => by
        unfold th1
        rw [setN_ne (by decide), setN_ne (by decide), setN_ne (by decide), setN_at]
        by_cases z : t = S.1 9 0
        · rw [if_pos ⟨rfl, z⟩, if_pos z]
        · rw [if_neg (fun y => z y.2), if_neg z]; rfl
      have e35 : ∀ t, (th1 S a).1 35 t = if t = S.1 9 0 then S.1 36 0 else S.1 35 t := fun t => by
        unfold th1
        rw [setN_ne (by decide), setN_ne (by decide), setN_at]
        by_cases z : t = S.1 9 0
        · rw [if_pos ⟨rfl, z⟩, if_pos z]
        · rw [if_neg (fun y => z y.2), if_neg z, setN_ne (by decide)]; rfl
      have eq : ∀ b, (th1 S a).2.2 b = if b = a then S.2.2 a ++ [S.1 9 0] else S.2.2 b := fun b => rfl
      refine PI_th h (Bd_setN (Bd_setN (Bd_setN (Bd_setN hB (show a ≤ 3 by omega)) (show _ ≤ 1073741824 from B_stamps hB 0)) (show _ ≤ 1073741824 by omega)) (show _ ≤ 10 by omega)) e rfl (by rw [e9]; omega) (fun t => ?_) ⟨fun b hb => ?_, fun u hu => ?_⟩ (fun b => ?_)
      · rw [e29]; split
        · exact ha
        · exact h.1.1.1.2.2.1 t
      · obtain ⟨m1, m2⟩ := hQi.1 b hb
        rw [eq, e9]
        have hlt : ∀ u, u ∈ S.2.2 b → u ≠ S.1 9 0 := fun u hu z => by have := ((m1 u).mp hu).1; omega
        have pw : (S.2.2 b).Pairwise (fun u v => (th1 S a).1 35 u < (th1 S a).1 35 v) := List.Pairwise.imp_of_mem (fun {u v} hu hv q => by rw [e35, e35, if_neg (hlt u hu), if_neg (hlt v hv)]; exact q) m2
        by_cases z : b = a
        · subst z
          rw [if_pos rfl]
          refine ⟨fun u => ?_, List.pairwise_append.mpr ⟨pw, List.pairwise_singleton _ _, fun u hu v hv => ?_⟩⟩
          · rw [List.mem_append, List.mem_singleton, e29]
            constructor
            · rintro (q | q)
              · rw [if_neg (hlt u q)]; exact ⟨by have := ((m1 u).mp q).1; omega, ((m1 u).mp q).2⟩
              · rw [if_pos q]; exact ⟨by omega, rfl⟩
            · rintro ⟨q1, q2⟩
              by_cases y : u = S.1 9 0
              · exact Or.inr y
              · rw [if_neg y] at q2; exact Or.inl ((m1 u).mpr ⟨by omega, q2⟩)
          · rw [List.mem_singleton] at hv
            rw [e35, e35, if_neg (hlt u hu), if_pos hv]
            exact hQi.2 u ((m1 u).mp hu).1
        · rw [if_neg z]
          refine ⟨fun u => ?_, pw⟩
          rw [m1 u, e29]
          constructor
          · rintro ⟨q1, q2⟩; rw [if_neg (by omega)]; exact ⟨by omega, q2⟩
          · rintro ⟨q1, q2⟩
            by_cases y : u = S.1 9 0
            · rw [if_pos y] at q2; exact absurd q2.symm z
            · rw [if_neg y] at q2; exact ⟨by omega, q2⟩
      · rw [e9] at hu
        rw [e35, e36]
        split
        · omega
        · have := hQi.2 u (by omega); omega
      · have z31 : (th1 S a).1 31 (S.1 9 0) = 0 := by rw [e 31 (by decide) (by decide) (by decide) (by decide)]; exact (h.2.2.2.2.2.2 _ (Nat.le_refl _)).2.1
        rw [e9, e 1 (by decide) (by decide) (by decide) (by decide), uwS, z31, if_neg (fun q => absurd q.2 (by decide)), Nat.add_zero, uw_of (S := S) (S.1 9 0) (fun u hu => by rw [e29, if_neg (by omega), e 31 (by decide) (by decide) (by decide) (by decide)])]
        exact h.1.2.2.2.2 b
  · exact h
