/-! What the calls keep, pure: settle, swap, link. -/
theorem PI_settle {S : Sx} (h : PI S) (hc : Cn 200 S) (x y : Int32) : PI (nSettle S x y) := by
  unfold nSettle
  split
  · next q =>
    obtain ⟨c1, c2⟩ := Bool.and_eq_true_iff.mp q
    have hB := h.1.1.1.1
    have bn := B_nodes hB 0
    have bT := B_T hB 0
    have h36 := hc.2
    obtain ⟨t, ht, rfl⟩ := inN_of c1 (by omega)
    obtain ⟨c, hcn, rfl⟩ := inN_of c2 (by omega)
    rw [nN_n (by omega), nN_n (by omega)]
    split
    · exact h
    · next hne =>
      have hQi := h.1.2.2.2.1
      have e : ∀ g, g ≠ 9 → g ≠ 29 → g ≠ 35 → g ≠ 36 → (st1 S t c).1 g = S.1 g := fun g a1 a2 a3 a4 => by unfold st1; rw [setN_ne a4, setN_ne a3, setN_ne a2]; rfl
      have e9 : (st1 S t c).1 9 = S.1 9 := by unfold st1; rw [setN_ne (by decide), setN_ne (by decide), setN_ne (by decide)]; rfl
      have e36 : (st1 S t c).1 36 0 = S.1 36 0 + 1 := by unfold st1; rw [setN_at, if_pos ⟨rfl, rfl⟩]
      have e29 : ∀ u, (st1 S t c).1 29 u = if u = t then c else S.1 29 u := fun u => by
        unfold st1
        rw [setN_ne (by decide), setN_ne (by decide), setN_at]
        by_cases z : u = t
        · rw [if_pos ⟨rfl, z⟩, if_pos z]
        · rw [if_neg (fun y => z y.2), if_neg z]; rfl
      have e35 : ∀ u, (st1 S t c).1 35 u = if u = t then S.1 36 0 else S.1 35 u := fun u => by
        unfold st1
        rw [setN_ne (by decide), setN_at]
        by_cases z : u = t
        · rw [if_pos ⟨rfl, z⟩, if_pos z]
        · rw [if_neg (fun y => z y.2), if_neg z, setN_ne (by decide)]; rfl
      let Eq : Nat → List Nat := fun b => if b = S.1 29 t then (S.2.2 (S.1 29 t)).erase t else S.2.2 b
      have eq : ∀ b, (st1 S t c).2.2 b = if b = c then Eq c ++ [t] else Eq b := fun b => rfl
      have hE : ∀ b, b < 4 → (∀ u, u ∈ Eq b ↔ (u < S.1 9 0 ∧ S.1 29 u = b ∧ u ≠ t)) ∧ (Eq b).Pairwise (fun u v => S.1 35 u < S.1 35 v) := by
        intro b hb
        obtain ⟨m1, m2⟩ := hQi.1 b hb
        show (∀ u, u ∈ (if b = S.1 29 t then (S.2.2 (S.1 29 t)).erase t else S.2.2 b) ↔ _) ∧ (if b = S.1 29 t then (S.2.2 (S.1 29 t)).erase t else S.2.2 b).Pairwise _
        by_cases z : b = S.1 29 t
        · rw [if_pos z, ← z]
          refine ⟨fun u => ?_, m2.sublist List.erase_sublist⟩
          rw [(Qi_nodup hQi hb).mem_erase_iff, m1 u]
          exact ⟨fun q => ⟨q.2.1, q.2.2, q.1⟩, fun q => ⟨q.2.2, q.1, q.2.1⟩⟩
        · rw [if_neg z]
          refine ⟨fun u => ?_, m2⟩
          rw [m1 u]
          exact ⟨fun q => ⟨q.1, q.2, fun y => z (by rw [← q.2, y])⟩, fun q => ⟨q.1, q.2.1⟩⟩
      refine PI_th h (Bd_setN (Bd_setN (Bd_setN hB (show c ≤ 3 by omega)) (show _ ≤ 1073741824 from B_stamps hB 0)) (show _ ≤ 1073741824 by omega)) e rfl (by rw [e9]; omega) (fun u => ?_) ⟨fun b hb => ?_, fun u hu => ?_⟩ (fun b => ?_)
      · rw [e29]; split
        · exact hcn
        · exact h.1.1.1.2.2.1 u
      · obtain ⟨m1, m2⟩ := hE b hb
        rw [eq, e9]
        have pw : (Eq b).Pairwise (fun u v => (st1 S t c).1 35 u < (st1 S t c).1 35 v) := List.Pairwise.imp_of_mem (fun {u v} hu hv q => by rw [e35, e35, if_neg ((m1 u).mp hu).2.2, if_neg ((m1 v).mp hv).2.2]; exact q) m2
        by_cases z : b = c
        · subst z
          rw [if_pos rfl]
          refine ⟨fun u => ?_, List.pairwise_append.mpr ⟨pw, List.pairwise_singleton _ _, fun u hu v hv => ?_⟩⟩
          · rw [List.mem_append, List.mem_singleton, e29]
            constructor
            · rintro (q | q)
              · obtain ⟨q1, q2, q3⟩ := (m1 u).mp q
                rw [if_neg q3]; exact ⟨q1, q2⟩
              · rw [if_pos q]; exact ⟨by omega, rfl⟩
            · rintro ⟨q1, q2⟩
              by_cases y : u = t
              · exact Or.inr y
              · rw [if_neg y] at q2; exact Or.inl ((m1 u).mpr ⟨q1, q2, y⟩)
          · rw [List.mem_singleton] at hv
            obtain ⟨q1, q2, q3⟩ := (m1 u).mp hu
            rw [e35, e35, if_neg q3, if_pos hv]
            exact hQi.2 u q1
        · rw [if_neg z]
          refine ⟨fun u => ?_, pw⟩
          rw [m1 u, e29]
          constructor
          · rintro ⟨q1, q2, q3⟩; rw [if_neg q3]; exact ⟨q1, q2⟩
          · rintro ⟨q1, q2⟩
            by_cases y : u = t
            · rw [if_pos y] at q2; exact absurd q2.symm z
            · rw [if_neg y] at q2; exact ⟨q1, q2, y⟩
      · rw [e9] at hu
        rw [e35, e36]
        split
        · omega
        · have := hQi.2 u hu; omega
      · rw [e9, e 1 (by decide) (by decide) (by decide) (by decide), uw_of (S := S) (S.1 9 0) (fun u hu => ?_)]
        · exact h.1.2.2.2.2 b
        · rw [e29, e 31 (by decide) (by decide) (by decide) (by decide)]
          by_cases y : u = t
          · rw [y]; exact ⟨fun q => absurd q.2 hne, fun q => absurd q.2 hne⟩
          · rw [if_neg y]
  · exact h
-- two threads change places
def tp (u v w : Nat) : Nat := if w = u then v else if w = v then u else w
theorem tp_tp (u v w : Nat) : tp u v (tp u v w) = w := by unfold tp; split <;> (try split) <;> (try split) <;> (try split) <;> omega
theorem tp_u (u v : Nat) : tp u v u = v := if_pos rfl
theorem tp_v (u v : Nat) : tp u v v = u := by unfold tp; split <;> (try rw [if_pos rfl]); assumption
theorem tp_o {u v w : Nat} (h1 : w ≠ u) (h2 : w ≠ v) : tp u v w = w := by rw [tp, if_neg h1, if_neg h2]
theorem getD_q {l : List Nat} {p t : Nat} (h : p < l.length ∧ l.getD p 0 = t) : l[p]? = some t := by
  rw [List.getElem?_eq_getElem h.1]
  have := h.2
  rw [List.getD_eq_getElem?_getD, List.getElem?_eq_getElem h.1] at this
  exact congrArg some this
theorem nd_q {l : List Nat} (hd : l.Nodup) {p i t : Nat} (h : l[p]? = some t) (h2 : l[i]? = some t) : i = p := by
  obtain ⟨a1, a2⟩ := List.getElem?_eq_some_iff.mp h
  obtain ⟨b1, b2⟩ := List.getElem?_eq_some_iff.mp h2
  have hp := List.pairwise_iff_getElem.mp hd
  rcases Nat.lt_trichotomy i p with z | z | z
  · exact absurd (b2.trans a2.symm) (hp i p b1 a1 z)
  · exact z
  · exact absurd (a2.trans b2.symm) (hp p i a1 b1 z)
theorem tp_id {l : List Nat} {u v i : Nat} (h1 : l[i]? ≠ some u) (h2 : l[i]? ≠ some v) : l[i]? = (l[i]?).map (tp u v) := by
  cases e : l[i]? with
  | none => rfl
  | some w => rw [Option.map_some, tp_o (fun z => h1 (by rw [e, z])) (fun z => h2 (by rw [e, z]))]
theorem q_in {l : List Nat} {i u : Nat} (h : l[i]? = some u) : u ∈ l := List.mem_of_getElem? h
theorem xq_map {S : Sx} (hQ : Qi S) (hat : ∀ t, S.1 29 t < 4) {u v : Nat} (hu : u < S.1 9 0) (hv : v < S.1 9 0) (huv : u ≠ v) (b : Nat) (hb : b < 4) : (sp1 S u v).2.2 b = (S.2.2 b).map (tp u v) := by
  have pu := getD_q (And.intro (poS_some (q_place hQ hu (hat u))).1 (poS_some (q_place hQ hu (hat u))).2.1)
  have pv := getD_q (And.intro (poS_some (q_place hQ hv (hat v))).1 (poS_some (q_place hQ hv (hat v))).2.1)
  have lu := (poS_some (q_place hQ hu (hat u))).1
  have lv := (poS_some (q_place hQ hv (hat v))).1
  have nn := Qi_nodup hQ hb
  have mb := (hQ.1 b hb).1
  have e : (sp1 S u v).2.2 b = if b = S.1 29 v then (if S.1 29 v = S.1 29 u then (S.2.2 (S.1 29 u)).set (cntB (bfN S u) (S.1 9 0)) v else S.2.2 (S.1 29 v)).set (cntB (bfN S v) (S.1 9 0)) u else if b = S.1 29 u then (S.2.2 (S.1 29 u)).set (cntB (bfN S u) (S.1 9 0)) v else S.2.2 b := rfl
  rw [e]
  generalize cntB (bfN S u) (S.1 9 0) = pa at pu lu
  generalize cntB (bfN S v) (S.1 9 0) = pb at pv lv
  refine List.ext_getElem? (fun i => ?_)
  rw [List.getElem?_map]
  by_cases z1 : b = S.1 29 v
  · rw [if_pos z1]
    rw [← z1] at pv lv
    by_cases z2 : S.1 29 v = S.1 29 u
    · rw [if_pos z2]
      rw [← z2, ← z1] at pu lu ⊢
      rw [List.getElem?_set, List.length_set]
      by_cases y1 : pb = i
      · rw [if_pos y1, if_pos lv, ← y1, pv, Option.map_some, tp_v]
      · rw [if_neg y1, List.getElem?_set]
        by_cases y2 : pa = i
        · rw [if_pos y2, if_pos lu, ← y2, pu, Option.map_some, tp_u]
        · rw [if_neg y2]
          exact tp_id (fun z => y2 (nd_q nn pu z).symm) (fun z => y1 (nd_q nn pv z).symm)
    · rw [if_neg z2, ← z1, List.getElem?_set]
      by_cases y1 : pb = i
      · rw [if_pos y1, if_pos lv, ← y1, pv, Option.map_some, tp_v]
      · rw [if_neg y1]
        exact tp_id (fun z => z2 (by rw [((mb u).mp (q_in z)).2, z1])) (fun z => y1 (nd_q nn pv z).symm)
  · rw [if_neg z1]
    have nv : (S.2.2 b)[i]? ≠ some v := fun z => z1 ((mb v).mp (q_in z)).2.symm
    by_cases z2 : b = S.1 29 u
    · rw [if_pos z2]
      rw [← z2] at pu lu ⊢
      rw [List.getElem?_set]
      by_cases y2 : pa = i
      · rw [if_pos y2, if_pos lu, ← y2, pu, Option.map_some, tp_u]
      · rw [if_neg y2]
        exact tp_id (fun z => y2 (nd_q nn pu z).symm) nv
    · rw [if_neg z2]
      exact tp_id (fun z => z2 ((mb u).mp (q_in z)).2.symm) nv
theorem PI_swap {S : Sx} (h : PI S) (x y : Int32) : PI (nSwap S x y) := by
  unfold nSwap
  split
  · next q =>
    obtain ⟨c1, c2⟩ := Bool.and_eq_true_iff.mp q
    obtain ⟨c6, c3⟩ := Bool.and_eq_true_iff.mp c2
    have hB := h.1.1.1.1
    have bn := B_nodes hB 0
    have bT := B_T hB 0
    obtain ⟨u, hu, rfl⟩ := inN_of c1 (by omega)
    obtain ⟨v, hv, rfl⟩ := inN_of c6 (by omega)
    rw [nN_n (by omega), nN_n (by omega)]
    have huv : u ≠ v := fun z => of_decide_eq_true c3 (by rw [z])
    split
    · exact h
    · next hne =>
      have hQi := h.1.2.2.2.1
      have hat := h.1.1.1.2.2.1
      have hat4 : ∀ t, S.1 29 t < 4 := fun t => by have := hat t; omega
      have e : ∀ g, g ≠ 29 → g ≠ 35 → (sp1 S u v).1 g = S.1 g := fun g a2 a3 => by unfold sp1; rw [setN_ne a3, setN_ne a3, setN_ne a2, setN_ne a2]; rfl
      have e9 := e 9 (by decide) (by decide)
      have e29 : ∀ w, (sp1 S u v).1 29 w = S.1 29 (tp u v w) := fun w => by
        unfold sp1 tp
        rw [setN_ne (by decide), setN_ne (by decide), setN_at, setN_at]
        by_cases z : w = v
        · rw [if_pos ⟨rfl, z⟩, if_neg (fun y => huv (by omega)), if_pos z]
        · rw [if_neg (fun y => z y.2), if_neg z]
          by_cases z2 : w = u
          · rw [if_pos ⟨rfl, z2⟩, if_pos z2]
          · rw [if_neg (fun y => z2 y.2), if_neg z2]; rfl
      have e35 : ∀ w, (sp1 S u v).1 35 w = S.1 35 (tp u v w) := fun w => by
        unfold sp1 tp
        rw [setN_at, setN_at]
        by_cases z : w = v
        · rw [if_pos ⟨rfl, z⟩, if_neg (fun y => huv (by omega)), if_pos z]
        · rw [if_neg (fun y => z y.2), if_neg z]
          by_cases z2 : w = u
          · rw [if_pos ⟨rfl, z2⟩, if_pos z2]
          · rw [if_neg (fun y => z2 y.2), if_neg z2, setN_ne (by decide), setN_ne (by decide)]; rfl
      have tpl : ∀ w, w < S.1 9 0 ↔ tp u v w < S.1 9 0 := fun w => by unfold tp; split <;> (try split) <;> omega
      refine PI_th h (Bd_setN (Bd_setN (Bd_setN (Bd_setN hB (B_at hB v)) (B_at hB u)) (B_stamp hB v)) (B_stamp hB u)) (fun g _ a2 a3 _ => e g a2 a3) rfl (by rw [e9]; omega) (fun w => by rw [e29]; exact hat _) ⟨fun b hb => ?_, fun w hw => ?_⟩ (fun b => ?_)
      · obtain ⟨m1, m2⟩ := hQi.1 b hb
        rw [xq_map hQi hat4 hu hv huv b hb, e9]
        refine ⟨fun w => ?_, ?_⟩
        · rw [List.mem_map, e29]
          constructor
          · rintro ⟨w', hw', rfl⟩
            rw [tp_tp, ← tpl]
            exact (m1 w').mp hw'
          · intro hw
            exact ⟨tp u v w, (m1 _).mpr ⟨(tpl w).mp hw.1, hw.2⟩, tp_tp u v w⟩
        · rw [List.pairwise_map]
          refine List.Pairwise.imp (fun {w1 w2} q => ?_) m2
          rw [e35, e35, tp_tp, tp_tp]; exact q
      · rw [e9] at hw
        rw [e35, e 36 (by decide) (by decide)]
        exact hQi.2 _ ((tpl w).mp hw)
      · rw [e9, e 1 (by decide) (by decide), uw_of (S := S) (S.1 9 0) (fun w hw => ?_)]
        · exact h.1.2.2.2.2 b
        · rw [e29, e 31 (by decide) (by decide)]
          by_cases y1 : w = u
          · rw [y1]; exact ⟨fun q => absurd (Or.inl q.2) hne, fun q => absurd (Or.inl q.2) hne⟩
          · by_cases y2 : w = v
            · rw [y2]; exact ⟨fun q => absurd (Or.inr q.2) hne, fun q => absurd (Or.inr q.2) hne⟩
            · rw [tp_o y1 y2]
  · exact h
-- a way
theorem rk_n {D : Dm} {b n x : Nat} (hn : n ≤ 4) (hx : x < n) : rk D b n (D x b) ≤ n - 1 := by
  have m0 := tz_le (D := D) (b := b) (n := n) (v := D x b) (z := 0)
  have m1 := tz_le (D := D) (b := b) (n := n) (v := D x b) (z := 1)
  have m2 := tz_le (D := D) (b := b) (n := n) (v := D x b) (z := 2)
  have m3 := tz_le (D := D) (b := b) (n := n) (v := D x b) (z := 3)
  have k0 : n ≤ 0 → tz D b n (D x b) 0 = 0 := fun z => if_neg (by omega)
  have k1 : n ≤ 1 → tz D b n (D x b) 1 = 0 := fun z => if_neg (by omega)
  have k2 : n ≤ 2 → tz D b n (D x b) 2 = 0 := fun z => if_neg (by omega)
  have k3 : n ≤ 3 → tz D b n (D x b) 3 = 0 := fun z => if_neg (by omega)
  have z0 := tz_0 (D := D) (b := b) (n := n) (z := x) (Nat.le_refl (D x b))
  unfold rk
  rcases c4 hx hn with rfl | rfl | rfl | rfl <;> omega
theorem PI_link {S : Sx} (h : PI S) (x y z t : Int32) : PI (nLink S x y z t) := by
  unfold nLink
  split
  · next q =>
    obtain ⟨c1, c4⟩ := Bool.and_eq_true_iff.mp q
    obtain ⟨c1, c2⟩ := Bool.and_eq_true_iff.mp c1
    obtain ⟨c6, c3⟩ := Bool.and_eq_true_iff.mp c2
    obtain ⟨c4, c5⟩ := Bool.and_eq_true_iff.mp c4
    have bn := B_nodes h.1.1.1.1 0
    obtain ⟨a, ha, rfl⟩ := inN_of c1 (by omega)
    obtain ⟨c, hc, rfl⟩ := inN_of c6 (by omega)
    obtain ⟨p, -, hp, rfl⟩ := rg_of c4
    obtain ⟨wd, -, hw, rfl⟩ := rg_of c5
    have hac : a ≠ c := fun z => of_decide_eq_true c3 (by rw [z])
    rw [nN_n (by omega), nN_n (by omega), nN_n (by omega), nN_n (by omega)]
    split
    · exact h
    · obtain ⟨⟨⟨⟨hB, h2, hat, hl, hrh⟩, hHp, hFn, hCv, h30⟩, hcap, hLz, hQi, hUw⟩, hSp, hLg, hGw, hRn, hZp, hZt⟩ := h
      have hB1 : Bd (lnkS S a c p wd) := Bd_lk hB hp hw
      have hS1 : Sp (lnkS S a c p wd) := Sp_lk hSp (by omega) (by omega) hac
      have e : ∀ g, g ≠ 3 → g ≠ 4 → g ≠ 5 → g ≠ 6 → (msS (lnkS S a c p wd)).1 g = S.1 g := fun g a1 a2 a3 a4 => by rw [msS_ne a3 a4, lnkS_ne a1 a2]
      have e0 := e 0 (by decide) (by decide) (by decide) (by decide)
      have hj := Jv_of (S' := msS (lnkS S a c p wd)) ⟨hFn, hCv⟩ e0 (e 8 (by decide) (by decide) (by decide) (by decide)) (e 24 (by decide) (by decide) (by decide) (by decide)) (e 25 (by decide) (by decide) (by decide) (by decide)) (e 27 (by decide) (by decide) (by decide) (by decide)) (e 28 (by decide) (by decide) (by decide) (by decide))
      have l0 : (lnkS S a c p wd).1 0 = S.1 0 := lnkS_ne (by decide) (by decide)
      have hI := ms_Iv hB1 hS1 (by rw [l0]; exact h2) (fun t => by rw [l0, lnkS_ne (by decide) (by decide)]; exact hat t) (fun u => by rw [l0, lnkS_ne (by decide) (by decide)]; exact hl u)
      refine ⟨⟨⟨hI.1, hI.2, hj.1, hj.2, fun t => by rw [e 30 (by decide) (by decide) (by decide) (by decide), e 10 (by decide) (by decide) (by decide) (by decide)]; exact h30 t⟩, cCap_of hcap (e 39 (by decide) (by decide) (by decide) (by decide)) (e 34 (by decide) (by decide) (by decide) (by decide)), fun i hi => by rw [e 33 (by decide) (by decide) (by decide) (by decide)]; exact hLz i hi, Qi_of hQi (e 9 (by decide) (by decide) (by decide) (by decide)) (e 29 (by decide) (by decide) (by decide) (by decide)) (e 35 (by decide) (by decide) (by decide) (by decide)) (e 36 (by decide) (by decide) (by decide) (by decide)) rfl, fun b => ?_⟩, ?_, ?_, ?_, fun x1 x2 ha hb hr => ?_, ?_, ?_⟩
      · rw [e 9 (by decide) (by decide) (by decide) (by decide), e 1 (by decide) (by decide) (by decide) (by decide), uwS_cong (S := S) (e 29 (by decide) (by decide) (by decide) (by decide)) (fun u _ => by rw [e 31 (by decide) (by decide) (by decide) (by decide)])]; exact hUw b
      · unfold Sp; rw [msS_ne (by decide) (by decide), msS_ne (by decide) (by decide)]; exact hS1
      · unfold Lg; rw [e 34 (by decide) (by decide) (by decide) (by decide), e0, e 7 (by decide) (by decide) (by decide) (by decide)]; exact hLg
      · unfold Gw; rw [e 30 (by decide) (by decide) (by decide) (by decide)]; exact hGw
      · have l5 : (msS (lnkS S a c p wd)).1 5 = (ms5 (lnkS S a c p wd)).1 5 := s6_ne (by decide)
        rw [msS_ne (by decide) (by decide)] at ha hb ⊢
        rw [l5] at hr
        have b0 : (lnkS S a c p wd).1 0 0 ≤ 4 := B_nodes hB1 0
        refine (rhS_eq (S := ms5 (lnkS S a c p wd)) (s6_ne (by decide)) (s6_ne (by decide)) (s6_ne (by decide)) _ _ _).mpr (ms_rh hB1 hS1 hb _ x1 ha hr ?_)
        exact rk_n (D := fun x y => (ms5 (lnkS S a c p wd)).1 5 (4 * x + y)) (b := x2) (x := x1) b0 ha
      · unfold Zp; rw [e 7 (by decide) (by decide) (by decide) (by decide), e 25 (by decide) (by decide) (by decide) (by decide), e 26 (by decide) (by decide) (by decide) (by decide), e 27 (by decide) (by decide) (by decide) (by decide)]; exact hZp
      · unfold Zt; rw [e 9 (by decide) (by decide) (by decide) (by decide), e 30 (by decide) (by decide) (by decide) (by decide), e 31 (by decide) (by decide) (by decide) (by decide), e 32 (by decide) (by decide) (by decide) (by decide)]; exact hZt
  · exact h
