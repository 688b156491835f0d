/-! Calls that change: access, settle, swap, link, run. -/
def PA (σ0 : Mm) (S : Sx) (Tf : Nat → Nat) (τ : Mm) : Prop := RepC 57 τ S Tf ∧ (∀ a, ¬ (7 ≤ a ∧ a < 57) → τ.1 a = σ0.1 a) ∧ τ.2 = σ0.2
theorem PA.rf {σ : Mm} {S : Sx} {Tf : Nat → Nat} (h : RepC 57 σ S Tf) : PA σ S Tf σ := ⟨h, fun _ _ => rfl, rfl⟩
theorem PA.w {σ0 σ : Mm} {S S' : Sx} {Tf : Nat → Nat} (h : PA σ0 S Tf σ) {a j : Nat} {v : Int32} (hr : RepC 57 (wI σ a j v) S' Tf) (h1 : 7 ≤ a) (h2 : a < 57) : PA σ0 S' Tf (wI σ a j v) := by
  refine ⟨hr, fun x hx => ?_, h.2.2⟩
  have e : (wI σ a j v).1 x = σ.1 x := if_neg (by omega)
  rw [e]; exact h.2.1 x hx
theorem CI.sc {σ τ : Mm} {S S' : Sx} {H : Hx} {Tf' : Nat → Nat} (h : CI σ S H) (hQ : PA σ S' Tf' τ) (hT : Tk S' Tf') : CI τ S' H ∧ frK σ τ := by
  obtain ⟨-, h3, h4⟩ := h
  obtain ⟨k1, k3, k2⟩ := hQ
  refine ⟨⟨⟨Tf', k1, hT⟩, h3.fr (fun a h1 h2 => k3 a (by omega)), Tr.fr h4 (k3 159 (by omega)) (k3 149 (by omega))⟩, fun a ha => k3 a (by omega), k2⟩
theorem hb57 : mch 57 := Or.inl rfl
theorem E_told {σ0 σ : Mm} {S : Sx} {Tf : Nat → Nat} (h : PA σ0 S Tf σ) (hB : Bd S) {t v : Nat} (ht : t < 10) : PA σ0 (setN S 10 t v) Tf (wI σ (7 + 5 * t) 4 (nI v)) := h.w (h.1.putN hb57 hB (g := 10) (i := t) (v := v) ht rfl) (by omega) (by omega)
theorem E_aPage {σ0 σ : Mm} {S : Sx} {Tf : Nat → Nat} (h : PA σ0 S Tf σ) (hB : Bd S) {t k v : Nat} (ht : t < 10) (hk : k < 60) : PA σ0 (setN S 11 (60 * t + k) v) Tf (wI σ (8 + 5 * t) k (nI v)) := by
  have q := h.1.putN hb57 hB (g := 11) (i := 60 * t + k) (v := v) (show 60 * t + k < 600 by omega) rfl
  have e : cl 57 11 (60 * t + k) = (8 + 5 * t, k) := by
    show (8 + 5 * ((60 * t + k) / 60), (60 * t + k) % 60) = _
    rw [(sc_div hk).1, (sc_div hk).2]
  rw [e] at q
  exact h.w q (by omega) (by omega)
theorem E_aCell {σ0 σ : Mm} {S : Sx} {Tf : Nat → Nat} (h : PA σ0 S Tf σ) (hB : Bd S) {t k v : Nat} (ht : t < 10) (hk : k < 60) : PA σ0 (setN S 12 (60 * t + k) v) Tf (wI σ (9 + 5 * t) k (nI v)) := by
  have q := h.1.putN hb57 hB (g := 12) (i := 60 * t + k) (v := v) (show 60 * t + k < 600 by omega) rfl
  have e : cl 57 12 (60 * t + k) = (9 + 5 * t, k) := by
    show (9 + 5 * ((60 * t + k) / 60), (60 * t + k) % 60) = _
    rw [(sc_div hk).1, (sc_div hk).2]
  rw [e] at q
  exact h.w q (by omega) (by omega)
theorem E_aWrites {σ0 σ : Mm} {S : Sx} {Tf : Nat → Nat} (h : PA σ0 S Tf σ) (hB : Bd S) {t k v : Nat} (ht : t < 10) (hk : k < 60) : PA σ0 (setN S 13 (60 * t + k) v) Tf (wI σ (10 + 5 * t) k (nI v)) := by
  have q := h.1.putN hb57 hB (g := 13) (i := 60 * t + k) (v := v) (show 60 * t + k < 600 by omega) rfl
  have e : cl 57 13 (60 * t + k) = (10 + 5 * t, k) := by
    show (10 + 5 * ((60 * t + k) / 60), (60 * t + k) % 60) = _
    rw [(sc_div hk).1, (sc_div hk).2]
  rw [e] at q
  exact h.w q (by omega) (by omega)
theorem E_aValue {σ0 σ : Mm} {S : Sx} {Tf : Nat → Nat} (h : PA σ0 S Tf σ) (hB : Bd S) {t k : Nat} {v : Int32} (ht : t < 10) (hk : k < 60) : PA σ0 (setV S 0 (60 * t + k) v) Tf (wI σ (11 + 5 * t) k v) := by
  have q := h.1.putV hb57 hB (g := 0) (i := 60 * t + k) (v := v) (show 60 * t + k < 600 by omega)
  have e : clV 57 0 (60 * t + k) = (11 + 5 * t, k) := by
    show (11 + 5 * ((60 * t + k) / 60), (60 * t + k) % 60) = _
    rw [(sc_div hk).1, (sc_div hk).2]
  rw [e] at q
  exact h.w q (by omega) (by omega)
def bN (b : Bool) : Nat := if b = true then 1 else 0
theorem bN_I (b : Bool) : nI (bN b) = bI b := by cases b <;> rfl
theorem bN_le (b : Bool) : bN b ≤ 1 := by cases b <;> decide
def ac1 (S : Sx) (t p c : Nat) (wb : Bool) (v : Int32) : Sx := setN (setV (setN (setN (setN S 11 (60 * t + S.1 10 t) p) 12 (60 * t + S.1 10 t) c) 13 (60 * t + S.1 10 t) (bN wb)) 0 (60 * t + S.1 10 t) v) 10 t (S.1 10 t + 1)
theorem r_tell {σ : Mm} {S : Sx} {Tf : Nat → Nat} (hR : RepC 57 σ S Tf) (hB : Bd S) {t p c : Nat} {wb : Bool} {v : Int32} (h10 : t < 10) (hk : S.1 10 t < 60) (hp : p ≤ 30) (hc : c ≤ 7) : RI W0 mX7_tell [.ref (7 + 5 * t), .int (nI p), .int (nI c), .int (bI wb), .int v] σ (fun r τ => r = nI (S.1 10 t + 1) ∧ PA σ (ac1 S t p c wb v) Tf τ) := by
  have hB1 : Bd (setN S 11 (60 * t + S.1 10 t) p) := Bd_setN hB hp
  have hB2 : Bd (setN (setN S 11 (60 * t + S.1 10 t) p) 12 (60 * t + S.1 10 t) c) := Bd_setN hB1 hc
  have hB3 : Bd (setN (setN (setN S 11 (60 * t + S.1 10 t) p) 12 (60 * t + S.1 10 t) c) 13 (60 * t + S.1 10 t) (bN wb)) := Bd_setN hB2 (bN_le wb)
  refine G.met (by decide) (Nat.le_of_ble_eq_true rfl) ?_
  show G _ _ _ 0 [some (.ref (7 + 5 * t)), some (.int (nI p)), some (.int (nI c)), some (.int (bI wb)), some (.int v)] [] σ
  refine gs_aload_n dX7_tell_0 rfl rfl ?_
  refine g_getR dX7_tell_1 fX7_9 (kSc h10) (by decide) (rSc_pages h10) ?_
  refine gs_aload_n dX7_tell_4 rfl rfl ?_
  refine g_getI dX7_tell_5 fX7_25 (kSc h10) (by decide) (C_told hR h10) ?_
  refine gs_iload_n dX7_tell_8 rfl rfl ?_
  refine gp_iast dX7_tell_9 (kSc_pages h10) (by omega) (E_aPage (PA.rf hR) hB h10 hk) (fun σ hQ => ?_)
  have hR := hQ.1
  refine gs_aload_n dX7_tell_10 rfl rfl ?_
  refine g_getR dX7_tell_11 fX7_15 (kSc h10) (by decide) (rSc_cells h10) ?_
  refine gs_aload_n dX7_tell_14 rfl rfl ?_
  refine g_getI dX7_tell_15 fX7_25 (kSc h10) (by decide) (show _ = nI (S.1 10 t) from by have q := C_told hR h10; rw [setN_ne (by decide)] at q; exact q) ?_
  refine gs_iload_n dX7_tell_18 rfl rfl ?_
  refine gp_iast dX7_tell_19 (kSc_cells h10) (by omega) (E_aCell hQ hB1 h10 hk) (fun σ hQ => ?_)
  have hR := hQ.1
  refine gs_aload_n dX7_tell_20 rfl rfl ?_
  refine g_getR dX7_tell_21 fX7_18 (kSc h10) (by decide) (rSc_writes h10) ?_
  refine gs_aload_n dX7_tell_24 rfl rfl ?_
  refine g_getI dX7_tell_25 fX7_25 (kSc h10) (by decide) (show _ = nI (S.1 10 t) from by have q := C_told hR h10; rw [setN_ne (by decide), setN_ne (by decide)] at q; exact q) ?_
  refine gs_iload_n dX7_tell_28 rfl rfl ?_
  refine gp_zast dX7_tell_29 (kSc_writes h10) (by omega) (by first | exact bI_01 _ | decide) (show PA _ (setN (setN (setN S 11 (60 * t + S.1 10 t) p) 12 (60 * t + S.1 10 t) c) 13 (60 * t + S.1 10 t) (bN wb)) Tf _ from by rw [← bN_I]; exact E_aWrites hQ hB2 h10 hk) (fun σ hQ => ?_)
  have hR := hQ.1
  refine gs_aload_n dX7_tell_30 rfl rfl ?_
  refine g_getR dX7_tell_31 fX7_22 (kSc h10) (by decide) (rSc_values h10) ?_
  refine gs_aload_n dX7_tell_34 rfl rfl ?_
  refine g_getI dX7_tell_35 fX7_25 (kSc h10) (by decide) (show _ = nI (S.1 10 t) from by have q := C_told hR h10; rw [setN_ne (by decide), setN_ne (by decide), setN_ne (by decide)] at q; exact q) ?_
  refine g_iload dX7_tell_38 rfl ?_
  refine gp_iast dX7_tell_40 (kSc_values h10) (by omega) (E_aValue hQ hB3 h10 hk) (fun σ hQ => ?_)
  have hR := hQ.1
  refine gs_aload_n dX7_tell_41 rfl rfl ?_
  refine g_dup dX7_tell_42 rfl ?_
  refine g_getI dX7_tell_43 fX7_25 (kSc h10) (by decide) (show _ = nI (S.1 10 t) from by have q := C_told hR h10; rw [setV_1, setN_ne (by decide), setN_ne (by decide), setN_ne (by decide)] at q; exact q) ?_
  refine g_iconst (v := nI 1) dX7_tell_46 (by decide) ?_
  refine g_iadd dX7_tell_47 (by first | exact nI_add _ _ | rfl) ?_
  refine gp_putI dX7_tell_48 pX7_25 (kSc h10) (by decide) (Or.inl rfl) (E_told hQ hB3 h10) (fun σ hQ => ?_)
  have hR := hQ.1
  refine gs_aload_n dX7_tell_51 rfl rfl ?_
  refine g_getI dX7_tell_52 fX7_25 (kSc h10) (by decide) (show _ = nI (S.1 10 t + 1) from by have q := C_told hR h10; rw [setN_at, if_pos ⟨rfl, rfl⟩] at q; exact q) ?_
  refine g_ireturn dX7_tell_55 rfl ?_
  exact ⟨_, rfl, rfl, hQ⟩
abbrev okAc (S : Sx) (x y z : Int32) : Bool := inN x (S.1 9 0) && (decide (S.1 32 (nN x) = 0) && (rg y 0 30 && rg z 0 7))
def aAccess (S : Sx) (x y z : Int32) : Int32 := if okAc S x y z = true then (if S.1 10 (nN x) = 60 then -2 else nI (S.1 10 (nN x) + 1)) else -1
def nAccess (S : Sx) (x y z : Int32) (wb : Bool) (v : Int32) : Sx := if okAc S x y z = true then (if S.1 10 (nN x) = 60 then S else ac1 S (nN x) (nN y) (nN z) wb v) else S
theorem Tk_ac {S : Sx} {Tf : Nat → Nat} (h : Tk S Tf) {t p c : Nat} {wb : Bool} {v : Int32} : Tk (ac1 S t p c wb v) Tf := by
  refine Tk_of h ?_ ?_ ?_ ?_ ?_ <;> (unfold ac1; rw [setN_ne (by decide), setV_1, setN_ne (by decide), setN_ne (by decide), setN_ne (by decide)])
theorem a_access {σ : Mm} {S : Sx} {H : Hx} (hJ : CI σ S H) (hPI : PI S) (x y z : Int32) (wb : Bool) (v : Int32) : RI W0 mX11_access [.ref 0, .int x, .int y, .int z, .int (bI wb), .int v] σ (fun r τ => r = aAccess S x y z ∧ CI τ (nAccess S x y z wb v) H ∧ frK σ τ) := by
  have hJ0 := hJ
  obtain ⟨⟨Tf, hR, hTk⟩, hSh, hTr1, hTr2⟩ := hJ
  have hb : mch 57 := Or.inl rfl
  have hB : Bd S := hPI.1.1.1.1
  have b0 := B_nodes hB 0
  have bP := B_P hB 0
  have bT := B_T hB 0
  refine G.met (by decide) (Nat.le_of_ble_eq_true rfl) ?_
  show G _ _ _ 0 [some (.ref 0), some (.int x), some (.int y), some (.int z), some (.int (bI wb)), some (.int v), none] [] σ
  refine gs_aload_n dX11_access_0 rfl rfl ?_
  refine g_getR dX11_access_1 fX11_32 kFC (by decide) rFC_machine ?_
  refine gs_iload_n dX11_access_4 rfl rfl ?_
  refine g_cVI1 dX11_access_5 vX11_98 (by decide) (kMa hb) (by decide) (Nat.le_of_ble_eq_true rfl) (c_hasWorker hb hR hB _) ?_
  rintro _ σ ⟨rfl, e9⟩
  subst e9
  refine gb_if_eq (tgt := 31) dX11_access_8 (by decide) (fun c8 => ?_) (fun c8 => ?_)
  · refine g_iconst (v := -1) dX11_access_31 (by decide) ?_
    refine g_ireturn dX11_access_32 rfl ?_
    exact ⟨_, rfl, by rw [aAccess, if_neg (nb1 c8)], by rw [nAccess, if_neg (nb1 c8)]; exact ⟨hJ0, frK.rf _⟩⟩
  · refine gs_iload_n dX11_access_11 rfl rfl ?_
    refine g_iconst (v := nI 0) dX11_access_12 (by decide) ?_
    refine g_bipush (v := nI 30) dX11_access_13 (by decide) ?_
    refine g_cSI3 dX11_access_15 vX11_50 (by decide) (Nat.le_of_ble_eq_true rfl) (c_within (by decide) (by decide)) ?_
    rintro _ σ ⟨rfl, e9⟩
    subst e9
    refine gb_if_eq (tgt := 31) dX11_access_18 (by decide) (fun c18 => ?_) (fun c18 => ?_)
    · refine g_iconst (v := -1) dX11_access_31 (by decide) ?_
      refine g_ireturn dX11_access_32 rfl ?_
      exact ⟨_, rfl, by rw [aAccess, if_neg (nb2 (nb2 (nb1 c18)))], by rw [nAccess, if_neg (nb2 (nb2 (nb1 c18)))]; exact ⟨hJ0, frK.rf _⟩⟩
    · refine gs_iload_n dX11_access_21 rfl rfl ?_
      refine g_iconst (v := nI 0) dX11_access_22 (by decide) ?_
      refine g_bipush (v := nI 7) dX11_access_23 (by decide) ?_
      refine g_cSI3 dX11_access_25 vX11_50 (by decide) (Nat.le_of_ble_eq_true rfl) (c_within (by decide) (by decide)) ?_
      rintro _ σ ⟨rfl, e9⟩
      subst e9
      refine gb_if_ne (tgt := 33) dX11_access_28 (by decide) (fun c28 => ?_) (fun c28 => ?_)
      · obtain ⟨t, ht, rfl⟩ := inN_of c8 (by omega)
        obtain ⟨p, hpl, hp, rfl⟩ := rg_of c18
        obtain ⟨c, hcl, hc, rfl⟩ := rg_of c28
        have h10 : t < 10 := by omega
        have b32 := B_ended hB t
        have b10 := B_told hB t
        refine gs_aload_n dX11_access_33 rfl rfl ?_
        refine g_getR dX11_access_34 fX11_32 kFC (by decide) rFC_machine ?_
        refine g_getR dX11_access_37 fX11_101 (kMa hb) (by decide) (rMa_workers hb) ?_
        refine gs_iload_n dX11_access_40 rfl rfl ?_
        refine g_aald27 dX11_access_41 (kMa_workers hb) h10 (rWs hb h10) ?_
        refine gs_astore (ls' := [_, _, _, _, _, _, _]) dX11_access_42 rfl rfl ?_
        refine g_aload dX11_access_44 rfl ?_
        refine g_getI dX11_access_46 fX11_105 (kWk hb h10) (by decide) (C_ended hR (by omega) (by omega)) ?_
        refine gn_if_eq (tgt := 54) dX11_access_49 (by decide) (by omega) (fun c49 => ?_) (fun c49 => ?_)
        · refine g_aload dX11_access_54 rfl ?_
          refine g_getR dX11_access_56 fX11_111 (kWk hb h10) (by decide) (rWk_script hb h10) ?_
          refine g_getI dX11_access_59 fX11_115 (kSc h10) (by decide) (C_told hR h10) ?_
          refine g_bipush (v := nI 60) dX11_access_62 (by decide) ?_
          refine gn_icmp_ne (tgt := 70) dX11_access_64 (by decide) (by omega) (by omega) (fun c64 => ?_) (fun c64 => ?_)
          · refine g_aload dX11_access_70 rfl ?_
            refine g_getR dX11_access_72 fX11_111 (kWk hb h10) (by decide) (rWk_script hb h10) ?_
            refine gs_iload_n dX11_access_75 rfl rfl ?_
            refine gs_iload_n dX11_access_76 rfl rfl ?_
            refine g_iload dX11_access_77 rfl ?_
            refine g_iload dX11_access_79 rfl ?_
            refine g_cVI4 dX11_access_81 vX11_118 (by decide) (kSc h10) (by decide) (Nat.le_of_ble_eq_true rfl) (r_tell hR hB (p := p) (c := c) h10 (by omega) hp hc) ?_
            rintro _ τ ⟨rfl, hQ⟩
            refine g_ireturn dX11_access_84 rfl ?_
            have ok : okAc S (nI t) (nI p) (nI c) = true := yb c8 (yb (by rw [nN_n (by omega)]; exact decide_eq_true c49) (yb c18 c28))
            exact ⟨_, rfl, by rw [aAccess, if_pos ok, nN_n (by omega), if_neg c64], by rw [nAccess, if_pos ok, nN_n (by omega), if_neg c64, nN_n (by omega), nN_n (by omega)]; exact hJ0.sc hQ (Tk_ac hTk)⟩
          · refine g_bipush (v := -2) dX11_access_67 (by decide) ?_
            refine g_ireturn dX11_access_69 rfl ?_
            have ok : okAc S (nI t) (nI p) (nI c) = true := yb c8 (yb (by rw [nN_n (by omega)]; exact decide_eq_true c49) (yb c18 c28))
            exact ⟨_, rfl, by rw [aAccess, if_pos ok, nN_n (by omega), if_pos c64], by rw [nAccess, if_pos ok, nN_n (by omega), if_pos c64]; exact ⟨hJ0, frK.rf _⟩⟩
        · refine g_iconst (v := -1) dX11_access_52 (by decide) ?_
          refine g_ireturn dX11_access_53 rfl ?_
          exact ⟨_, rfl, by rw [aAccess, if_neg (nb2 (nb1 (by rw [nN_n (by omega)]; exact decide_eq_false (by omega))))], by rw [nAccess, if_neg (nb2 (nb1 (by rw [nN_n (by omega)]; exact decide_eq_false (by omega))))]; exact ⟨hJ0, frK.rf _⟩⟩
      · refine g_iconst (v := -1) dX11_access_31 (by decide) ?_
        refine g_ireturn dX11_access_32 rfl ?_
        exact ⟨_, rfl, by rw [aAccess, if_neg (nb2 (nb2 (nb2 (nbf c28))))], by rw [nAccess, if_neg (nb2 (nb2 (nb2 (nbf c28))))]; exact ⟨hJ0, frK.rf _⟩⟩
theorem n_access {σ : Mm} {S : Sx} {H : Hx} (hJ : MI_ σ S H) (hPI : PI S) (x y z : Int32) (wb : Bool) (v : Int32) : RI W0 mX12_access [.ref 258, .int x, .int y, .int z, .int (bI wb), .int v] σ (fun r τ => r = aAccess S x y z ∧ MJ σ (nAccess S x y z wb v) H τ) := by
  have hB : Bd S := hPI.1.1.1.1
  have b0 := B_nodes hB 0
  have bP := B_P hB 0
  have bT := B_T hB 0
  refine G.met (by decide) (Nat.le_of_ble_eq_true rfl) ?_
  show G _ _ _ 0 [some (.ref 258), some (.int x), some (.int y), some (.int z), some (.int (bI wb)), some (.int v), none] [] σ
  refine gs_aload_n dX12_access_0 rfl rfl ?_
  refine g_iconst (v := nI 0) dX12_access_1 (by decide) ?_
  refine gp_putI dX12_access_2 pX12_194 kwM (by decide) (Or.inl rfl) ((MJ.rf hJ).off off0 (by decide)) (fun σ hQ => ?_)
  have hM := hQ.1.1
  have hC0 := hQ.1.2.1
  refine gs_aload_n dX12_access_5 rfl rfl ?_
  refine gs_iload_n dX12_access_6 rfl rfl ?_
  refine g_cVI1 dX12_access_7 vX12_228 (by decide) kwM (by decide) (Nat.le_of_ble_eq_true rfl) (s_isThread (M_T hM) (by omega) _) ?_
  rintro _ σ ⟨rfl, e9⟩
  subst e9
  refine gb_if_eq (tgt := 46) dX12_access_10 (by decide) (fun c10 => ?_) (fun c10 => ?_)
  · refine g_iconst (v := -1) dX12_access_46 (by decide) ?_
    refine g_ireturn dX12_access_47 rfl ?_
    exact ⟨_, rfl, by rw [aAccess, if_neg (nb1 c10)], by rw [nAccess, if_neg (nb1 c10)]; exact hQ⟩
  · obtain ⟨t, ht, rfl⟩ := inN_of c10 (by omega)
    have h10 : t < 10 := by omega
    have b32 := B_ended hB t
    have b10 := B_told hB t
    refine gs_aload_n dX12_access_13 rfl rfl ?_
    refine g_getR dX12_access_14 fX12_118 kwM (by decide) rM_ended ?_
    refine gs_iload_n dX12_access_17 rfl rfl ?_
    refine g_zald dX12_access_18 kw_ended (by omega) (M0_ended hM (by omega)) ?_
    refine gn_if_ne (tgt := 46) dX12_access_19 (by decide) (by omega) (fun c19 => ?_) (fun c19 => ?_)
    · refine g_iconst (v := -1) dX12_access_46 (by decide) ?_
      refine g_ireturn dX12_access_47 rfl ?_
      exact ⟨_, rfl, by rw [aAccess, if_neg (nb2 (nb1 (by rw [nN_n (by omega)]; exact decide_eq_false (by omega))))], by rw [nAccess, if_neg (nb2 (nb1 (by rw [nN_n (by omega)]; exact decide_eq_false (by omega))))]; exact hQ⟩
    · refine gs_iload_n dX12_access_22 rfl rfl ?_
      refine g_i2l dX12_access_23 rfl ?_
      refine g_lconst (v := 0) dX12_access_24 (by decide) ?_
      refine g_ldc2 dX12_access_25 qX12_231 ?_
      refine g_cSI3 dX12_access_28 vX12_214 (by decide) (Nat.le_of_ble_eq_true rfl) (m_isIn (a := 0) (b := 30) (by decide) (by decide)) ?_
      rintro _ σ ⟨rfl, e9⟩
      subst e9
      refine gb_if_eq (tgt := 46) dX12_access_31 (by decide) (fun c31 => ?_) (fun c31 => ?_)
      · refine g_iconst (v := -1) dX12_access_46 (by decide) ?_
        refine g_ireturn dX12_access_47 rfl ?_
        exact ⟨_, rfl, by rw [aAccess, if_neg (nb2 (nb2 (nb1 c31)))], by rw [nAccess, if_neg (nb2 (nb2 (nb1 c31)))]; exact hQ⟩
      · refine gs_iload_n dX12_access_34 rfl rfl ?_
        refine g_i2l dX12_access_35 rfl ?_
        refine g_lconst (v := 0) dX12_access_36 (by decide) ?_
        refine g_ldc2 dX12_access_37 qX12_233 ?_
        refine g_cSI3 dX12_access_40 vX12_214 (by decide) (Nat.le_of_ble_eq_true rfl) (m_isIn (a := 0) (b := 7) (by decide) (by decide)) ?_
        rintro _ σ ⟨rfl, e9⟩
        subst e9
        refine gb_if_ne (tgt := 48) dX12_access_43 (by decide) (fun c43 => ?_) (fun c43 => ?_)
        · obtain ⟨p, hpl, hp, rfl⟩ := rg_of c31
          obtain ⟨c, hcl, hc, rfl⟩ := rg_of c43
          have ok : okAc S (nI t) (nI p) (nI c) = true := yb c10 (yb (by rw [nN_n (by omega)]; exact decide_eq_true c19) (yb c31 c43))
          refine gs_aload_n dX12_access_48 rfl rfl ?_
          refine g_getR dX12_access_49 fX12_22 kwM (by decide) rM_told ?_
          refine gs_iload_n dX12_access_52 rfl rfl ?_
          refine g_iald dX12_access_53 kw_told (by omega) (M_told hM h10) ?_
          refine g_bipush (v := nI 60) dX12_access_54 (by decide) ?_
          refine gn_icmp_ne (tgt := 62) dX12_access_56 (by decide) (by omega) (by omega) (fun c56 => ?_) (fun c56 => ?_)
          · have hB1 : Bd (setN S 11 (60 * t + S.1 10 t) p) := Bd_setN hB hp
            have hB2 : Bd (setN (setN S 11 (60 * t + S.1 10 t) p) 12 (60 * t + S.1 10 t) c) := Bd_setN hB1 hc
            refine g_bipush (v := nI 60) dX12_access_62 (by decide) ?_
            refine gs_iload_n dX12_access_64 rfl rfl ?_
            refine g_imul dX12_access_65 (by first | exact pk_mul _ _ | rfl) ?_
            refine gs_aload_n dX12_access_66 rfl rfl ?_
            refine g_getR dX12_access_67 fX12_22 kwM (by decide) rM_told ?_
            refine gs_iload_n dX12_access_70 rfl rfl ?_
            refine g_iald dX12_access_71 kw_told (by omega) (M_told hM h10) ?_
            refine g_iadd dX12_access_72 (by first | exact nI_add _ _ | rfl) ?_
            refine gs_istore (ls' := [_, _, _, _, _, _, _]) dX12_access_73 rfl rfl ?_
            refine gs_aload_n dX12_access_75 rfl rfl ?_
            refine g_getR dX12_access_76 fX12_25 kwM (by decide) rM_aPage ?_
            refine g_iload dX12_access_79 rfl ?_
            refine gs_iload_n dX12_access_81 rfl rfl ?_
            refine gp_iast dX12_access_82 kw_aPage (by omega) (Z_aPage hQ (by omega)) (fun σ hQ => ?_)
            have hM := hQ.1.1
            have hC0 := hQ.1.2.1
            refine gs_aload_n dX12_access_83 rfl rfl ?_
            refine g_getR dX12_access_84 fX12_28 kwM (by decide) rM_aCell ?_
            refine g_iload dX12_access_87 rfl ?_
            refine gs_iload_n dX12_access_89 rfl rfl ?_
            refine gp_iast dX12_access_90 kw_aCell (by omega) (Z_aCell hQ (by omega)) (fun σ hQ => ?_)
            have hM := hQ.1.1
            have hC0 := hQ.1.2.1
            refine gs_aload_n dX12_access_91 rfl rfl ?_
            refine g_getR dX12_access_92 fX12_31 kwM (by decide) rM_aWrites ?_
            refine g_iload dX12_access_95 rfl ?_
            refine g_iload dX12_access_97 rfl ?_
            refine gp_zast dX12_access_99 kw_aWrites (by omega) (by first | exact bI_01 _ | decide) (show MJ _ (setN (setN (setN S 11 (60 * t + S.1 10 t) p) 12 (60 * t + S.1 10 t) c) 13 (60 * t + S.1 10 t) (bN wb)) H _ from by rw [← bN_I]; exact Z_aWrites hQ (by omega)) (fun σ hQ => ?_)
            have hM := hQ.1.1
            have hC0 := hQ.1.2.1
            refine gs_aload_n dX12_access_100 rfl rfl ?_
            refine g_getR dX12_access_101 fX12_35 kwM (by decide) rM_aValue ?_
            refine g_iload dX12_access_104 rfl ?_
            refine g_iload dX12_access_106 rfl ?_
            refine gp_iast dX12_access_108 kw_aValue (by omega) (MJ.av hQ (by omega)) (fun σ hQ => ?_)
            have hM := hQ.1.1
            have hC0 := hQ.1.2.1
            refine gs_aload_n dX12_access_109 rfl rfl ?_
            refine g_getR dX12_access_110 fX12_22 kwM (by decide) rM_told ?_
            refine gs_iload_n dX12_access_113 rfl rfl ?_
            refine g_dup2 dX12_access_114 rfl rfl ?_
            refine g_iald dX12_access_115 kw_told (by omega) (show _ = nI (S.1 10 t) from by have q := M_told hM h10; rw [setV_1, setN_ne (by decide), setN_ne (by decide), setN_ne (by decide)] at q; exact q) ?_
            refine g_iconst (v := nI 1) dX12_access_116 (by decide) ?_
            refine g_iadd dX12_access_117 (by first | exact nI_add _ _ | rfl) ?_
            refine gp_iast dX12_access_118 kw_told (by omega) (Z_told hQ h10) (fun σ hQ => ?_)
            have hM := hQ.1.1
            have hC0 := hQ.1.2.1
            refine gs_aload_n dX12_access_119 rfl rfl ?_
            refine g_getR dX12_access_120 fX12_22 kwM (by decide) rM_told ?_
            refine gs_iload_n dX12_access_123 rfl rfl ?_
            refine g_iald dX12_access_124 kw_told (by omega) (show _ = nI (S.1 10 t + 1) from by have q := M_told hM h10; rw [setN_at, if_pos ⟨rfl, rfl⟩] at q; exact q) ?_
            refine g_ireturn dX12_access_125 rfl ?_
            exact ⟨_, rfl, by rw [aAccess, if_pos ok, nN_n (by omega), if_neg c56], by rw [nAccess, if_pos ok, nN_n (by omega), if_neg c56, nN_n (by omega), nN_n (by omega)]; exact hQ⟩
          · refine g_bipush (v := -2) dX12_access_59 (by decide) ?_
            refine g_ireturn dX12_access_61 rfl ?_
            exact ⟨_, rfl, by rw [aAccess, if_pos ok, nN_n (by omega), if_pos c56], by rw [nAccess, if_pos ok, nN_n (by omega), if_pos c56]; exact hQ⟩
        · refine g_iconst (v := -1) dX12_access_46 (by decide) ?_
          refine g_ireturn dX12_access_47 rfl ?_
          exact ⟨_, rfl, by rw [aAccess, if_neg (nb2 (nb2 (nb2 (nbf c43))))], by rw [nAccess, if_neg (nb2 (nb2 (nb2 (nbf c43))))]; exact hQ⟩
def st1 (S : Sx) (t c : Nat) : Sx := setN (setN (setN (setQ (setQ S (S.1 29 t) ((S.2.2 (S.1 29 t)).erase t)) c ((setQ S (S.1 29 t) ((S.2.2 (S.1 29 t)).erase t)).2.2 c ++ [t])) 29 t c) 35 t (S.1 36 0)) 36 0 (S.1 36 0 + 1)
abbrev okSe (S : Sx) (x y : Int32) : Bool := inN x (S.1 9 0) && inN y (S.1 0 0)
def aSettle (S : Sx) (x y : Int32) : Int32 := if okSe S x y = true then (if 0 < S.1 31 (nN x) then -3 else nI (S.1 29 (nN x))) else -1
def nSettle (S : Sx) (x y : Int32) : Sx := if okSe S x y = true then (if 0 < S.1 31 (nN x) then S else st1 S (nN x) (nN y)) else S
theorem se_len {S : Sx} (h : Qi S) (hB : Bd S) {t c : Nat} (ht : t < S.1 9 0) (ha : S.1 29 t < 4) (hc : c < 4) : ((setQ S (S.1 29 t) ((S.2.2 (S.1 29 t)).erase t)).2.2 c).length < 10 := by
  have bT := B_T hB 0
  show (if c = S.1 29 t then (S.2.2 (S.1 29 t)).erase t else S.2.2 c).length < 10
  by_cases e : c = S.1 29 t
  · rw [if_pos e]
    have hm : t ∈ S.2.2 (S.1 29 t) := ((h.1 _ ha).1 t).mpr ⟨ht, rfl⟩
    have z1 := List.length_erase_of_mem hm
    have z2 := List.length_pos_of_mem hm
    have z3 := q_len h ha
    have z4 := cnt_le (onN S (S.1 29 t)) (S.1 9 0)
    omega
  · rw [if_neg e, q_len h hc]
    have := cnt_lt (p := onN S c) (t := t) (decide_eq_false (fun z => e z.symm)) (S.1 9 0) ht
    omega
theorem Tk_st {S : Sx} {Tf : Nat → Nat} (h : Tk S Tf) {t c : Nat} : Tk (st1 S t c) Tf := by
  refine Tk_of h ?_ ?_ ?_ ?_ ?_ <;> (unfold st1; rw [setN_ne (by decide), setN_ne (by decide), setN_ne (by decide)]; rfl)
theorem a_settle {σ : Mm} {S : Sx} {H : Hx} (hJ : CI σ S H) (hPI : PI S) (x y : Int32) : RI W0 mX11_settle [.ref 0, .int x, .int y] σ (fun r τ => r = aSettle S x y ∧ CI τ (nSettle S x y) H ∧ frK σ τ) := by
  have hJ0 := hJ
  obtain ⟨⟨Tf, hR, hTk⟩, hSh, hTr1, hTr2⟩ := hJ
  have hb : mch 57 := Or.inl rfl
  have hB : Bd S := hPI.1.1.1.1
  have b0 := B_nodes hB 0
  have bP := B_P hB 0
  have bT := B_T hB 0
  refine G.met (by decide) (Nat.le_of_ble_eq_true rfl) ?_
  show G _ _ _ 0 [some (.ref 0), some (.int x), some (.int y), none, none] [] σ
  refine gs_aload_n dX11_settle_0 rfl rfl ?_
  refine g_getR dX11_settle_1 fX11_32 kFC (by decide) rFC_machine ?_
  refine gs_iload_n dX11_settle_4 rfl rfl ?_
  refine g_cVI1 dX11_settle_5 vX11_98 (by decide) (kMa hb) (by decide) (Nat.le_of_ble_eq_true rfl) (c_hasWorker hb hR hB _) ?_
  rintro _ σ ⟨rfl, e9⟩
  subst e9
  refine gb_if_eq (tgt := 22) dX11_settle_8 (by decide) (fun c8 => ?_) (fun c8 => ?_)
  · refine g_iconst (v := -1) dX11_settle_22 (by decide) ?_
    refine g_ireturn dX11_settle_23 rfl ?_
    exact ⟨_, rfl, by rw [aSettle, if_neg (nb1 c8)], by rw [nSettle, if_neg (nb1 c8)]; exact ⟨hJ0, frK.rf _⟩⟩
  · refine gs_aload_n dX11_settle_11 rfl rfl ?_
    refine g_getR dX11_settle_12 fX11_18 kFC (by decide) rFC_board ?_
    refine gs_iload_n dX11_settle_15 rfl rfl ?_
    refine g_cVI1 dX11_settle_16 vX11_69 (by decide) bdW0.1 (by decide) (Nat.le_of_ble_eq_true rfl) (c_has hb hR hB _) ?_
    rintro _ σ ⟨rfl, e9⟩
    subst e9
    refine gb_if_ne (tgt := 24) dX11_settle_19 (by decide) (fun c19 => ?_) (fun c19 => ?_)
    · obtain ⟨t, ht, rfl⟩ := inN_of c8 (by omega)
      obtain ⟨c, hc, rfl⟩ := inN_of c19 (by omega)
      have h10 : t < 10 := by omega
      have b29 := B_at hB t
      have b31 := B_toGo hB t
      refine gs_aload_n dX11_settle_24 rfl rfl ?_
      refine g_getR dX11_settle_25 fX11_32 kFC (by decide) rFC_machine ?_
      refine g_getR dX11_settle_28 fX11_101 (kMa hb) (by decide) (rMa_workers hb) ?_
      refine gs_iload_n dX11_settle_31 rfl rfl ?_
      refine g_aald27 dX11_settle_32 (kMa_workers hb) h10 (rWs hb h10) ?_
      refine gs_astore_n (ls' := [_, _, _, _, _]) dX11_settle_33 rfl rfl rfl ?_
      refine gs_aload_n dX11_settle_34 rfl rfl ?_
      refine g_getI dX11_settle_35 fX11_158 (kWk hb h10) (by decide) (C_toGo hR (by omega) (by omega)) ?_
      refine gn_if_le (tgt := 44) dX11_settle_38 (by decide) (by omega) (fun c38 => ?_) (fun c38 => ?_)
      · refine gs_aload_n dX11_settle_44 rfl rfl ?_
        refine g_getI dX11_settle_45 fX11_161 (kWk hb h10) (by decide) (C_at hR (by omega) (by omega)) ?_
        refine gs_istore (ls' := [_, _, _, _, _]) dX11_settle_48 rfl rfl ?_
        refine gs_aload_n dX11_settle_50 rfl rfl ?_
        refine g_getR dX11_settle_51 fX11_32 kFC (by decide) rFC_machine ?_
        refine g_getR dX11_settle_54 fX11_164 (kMa hb) (by decide) (rMa_queues hb) ?_
        refine g_iload dX11_settle_57 rfl ?_
        refine gs_iload_n dX11_settle_59 rfl rfl ?_
        refine g_cVV2 dX11_settle_60 vX11_168 (by decide) (kMa_queues hb) (by decide) (Nat.le_of_ble_eq_true rfl) (c_drop hb hR hB (a := S.1 29 t) (t := t) (by omega) (by omega) (fun i => Qi_lt hPI.1.2.2.2.1 hB (by omega) i)) ?_
        rintro σ hQ
        have hR := hQ.1
        refine gs_aload_n dX11_settle_63 rfl rfl ?_
        refine g_getR dX11_settle_64 fX11_32 kFC (by decide) rFC_machine ?_
        refine g_getR dX11_settle_67 fX11_164 (kMa hb) (by decide) (rMa_queues hb) ?_
        refine gs_iload_n dX11_settle_70 rfl rfl ?_
        refine gs_iload_n dX11_settle_71 rfl rfl ?_
        refine g_cVV2 dX11_settle_72 vX11_173 (by decide) (kMa_queues hb) (by decide) (Nat.le_of_ble_eq_true rfl) (c_append (S := setQ S (S.1 29 t) ((S.2.2 (S.1 29 t)).erase t)) hb hR hB (a := c) (t := t) (by omega) (se_len hPI.1.2.2.2.1 hB ht (by omega) (by omega))) ?_
        rintro σ hQ9
        rw [hQ.2.2] at hQ9
        have hQ := hQ.tr hQ9
        have hR := hQ.1
        refine gs_aload_n dX11_settle_75 rfl rfl ?_
        refine gs_iload_n dX11_settle_76 rfl rfl ?_
        refine gc_putI dX11_settle_77 pX11_161 (kWk hb h10) (by decide) (Or.inl rfl) (D_at (v := c) hQ hb hB h10) (fun σ hQ => ?_)
        have hR := hQ.1
        refine g_iload dX11_settle_80 rfl ?_
        refine g_ireturn dX11_settle_82 rfl ?_
        have hQ := (hQ.ghost (g := 35) (i := t) (v := S.1 36 0) sz35 rfl).ghost (g := 36) (i := 0) (v := S.1 36 0 + 1) sz36 rfl
        exact ⟨_, rfl, by rw [aSettle, if_pos (yb c8 c19), nN_n (by omega), if_neg (by omega)], by rw [nSettle, if_pos (yb c8 c19), nN_n (by omega), if_neg (by omega), nN_n (by omega)]; exact hJ0.cq hQ (Tk_st hTk)⟩
      · refine g_bipush (v := -3) dX11_settle_41 (by decide) ?_
        refine g_ireturn dX11_settle_43 rfl ?_
        exact ⟨_, rfl, by rw [aSettle, if_pos (yb c8 c19), nN_n (by omega), if_pos c38], by rw [nSettle, if_pos (yb c8 c19), nN_n (by omega), if_pos c38]; exact ⟨hJ0, frK.rf _⟩⟩
    · refine g_iconst (v := -1) dX11_settle_22 (by decide) ?_
      refine g_ireturn dX11_settle_23 rfl ?_
      exact ⟨_, rfl, by rw [aSettle, if_neg (nb2 (nbf c19))], by rw [nSettle, if_neg (nb2 (nbf c19))]; exact ⟨hJ0, frK.rf _⟩⟩
theorem n_settle {σ : Mm} {S : Sx} {H : Hx} (hJ : MI_ σ S H) (hPI : PI S) (x y : Int32) : RI W0 mX12_settle [.ref 258, .int x, .int y] σ (fun r τ => r = aSettle S x y ∧ MJ σ (nSettle S x y) H τ) := by
  have hB : Bd S := hPI.1.1.1.1
  have b0 := B_nodes hB 0
  have bP := B_P hB 0
  have bT := B_T hB 0
  refine G.met (by decide) (Nat.le_of_ble_eq_true rfl) ?_
  show G _ _ _ 0 [some (.ref 258), some (.int x), some (.int y), none] [] σ
  refine gs_aload_n dX12_settle_0 rfl rfl ?_
  refine g_iconst (v := nI 0) dX12_settle_1 (by decide) ?_
  refine gp_putI dX12_settle_2 pX12_194 kwM (by decide) (Or.inl rfl) ((MJ.rf hJ).off off0 (by decide)) (fun σ hQ => ?_)
  have hM := hQ.1.1
  have hC0 := hQ.1.2.1
  refine gs_aload_n dX12_settle_5 rfl rfl ?_
  refine gs_iload_n dX12_settle_6 rfl rfl ?_
  refine g_cVI1 dX12_settle_7 vX12_228 (by decide) kwM (by decide) (Nat.le_of_ble_eq_true rfl) (s_isThread (M_T hM) (by omega) _) ?_
  rintro _ σ ⟨rfl, e9⟩
  subst e9
  refine gb_if_eq (tgt := 21) dX12_settle_10 (by decide) (fun c10 => ?_) (fun c10 => ?_)
  · refine g_iconst (v := -1) dX12_settle_21 (by decide) ?_
    refine g_ireturn dX12_settle_22 rfl ?_
    exact ⟨_, rfl, by rw [aSettle, if_neg (nb1 c10)], by rw [nSettle, if_neg (nb1 c10)]; exact hQ⟩
  · refine gs_aload_n dX12_settle_13 rfl rfl ?_
    refine gs_iload_n dX12_settle_14 rfl rfl ?_
    refine g_cVI1 dX12_settle_15 vX12_204 (by decide) kwM (by decide) (Nat.le_of_ble_eq_true rfl) (s_isNode (M_nodes hM) (by omega) _) ?_
    rintro _ σ ⟨rfl, e9⟩
    subst e9
    refine gb_if_ne (tgt := 23) dX12_settle_18 (by decide) (fun c18 => ?_) (fun c18 => ?_)
    · obtain ⟨t, ht, rfl⟩ := inN_of c10 (by omega)
      obtain ⟨c, hc, rfl⟩ := inN_of c18 (by omega)
      have h10 : t < 10 := by omega
      have b29 := B_at hB t
      have b31 := B_toGo hB t
      refine gs_aload_n dX12_settle_23 rfl rfl ?_
      refine g_getR dX12_settle_24 fX12_112 kwM (by decide) rM_toGo ?_
      refine gs_iload_n dX12_settle_27 rfl rfl ?_
      refine g_iald dX12_settle_28 kw_toGo (by omega) (M0_toGo hM (by omega)) ?_
      refine gn_if_le (tgt := 35) dX12_settle_29 (by decide) (by omega) (fun c29 => ?_) (fun c29 => ?_)
      · have hB1 : Bd (setN S 29 t c) := Bd_setN hB (show c ≤ 3 by omega)
        have hB2 : Bd (setN (setN S 29 t c) 35 t (S.1 36 0)) := Bd_setN hB1 (B_stamps hB 0)
        refine gs_aload_n dX12_settle_35 rfl rfl ?_
        refine g_getR dX12_settle_36 fX12_103 kwM (by decide) rM_at ?_
        refine gs_iload_n dX12_settle_39 rfl rfl ?_
        refine g_iald dX12_settle_40 kw_at (by omega) (M0_at hM (by omega)) ?_
        refine gs_istore_n (ls' := [_, _, _, _]) dX12_settle_41 rfl rfl rfl ?_
        refine gs_aload_n dX12_settle_42 rfl rfl ?_
        refine g_getR dX12_settle_43 fX12_103 kwM (by decide) rM_at ?_
        refine gs_iload_n dX12_settle_46 rfl rfl ?_
        refine gs_iload_n dX12_settle_47 rfl rfl ?_
        refine gp_iast dX12_settle_48 kw_at (by omega) (Z_at hQ hB h10) (fun σ hQ => ?_)
        have hM := hQ.1.1
        have hC0 := hQ.1.2.1
        refine gs_aload_n dX12_settle_49 rfl rfl ?_
        refine g_getR dX12_settle_50 fX12_106 kwM (by decide) rM_stamp ?_
        refine gs_iload_n dX12_settle_53 rfl rfl ?_
        refine gs_aload_n dX12_settle_54 rfl rfl ?_
        refine g_getR dX12_settle_55 fX12_76 kwM (by decide) rM_stamps ?_
        refine g_iconst (v := nI 0) dX12_settle_58 (by decide) ?_
        refine g_iald dX12_settle_59 kw_stamps (by omega) (show _ = nI (S.1 36 0) from by have q := M_stamps hM; rw [setN_ne (by decide)] at q; exact q) ?_
        refine gp_iast dX12_settle_60 kw_stamp (by omega) (Z_stamp (v := S.1 36 0) hQ hB1 h10) (fun σ hQ => ?_)
        have hM := hQ.1.1
        have hC0 := hQ.1.2.1
        refine gs_aload_n dX12_settle_61 rfl rfl ?_
        refine g_getR dX12_settle_62 fX12_76 kwM (by decide) rM_stamps ?_
        refine g_iconst (v := nI 0) dX12_settle_65 (by decide) ?_
        refine g_dup2 dX12_settle_66 rfl rfl ?_
        refine g_iald dX12_settle_67 kw_stamps (by omega) (show _ = nI (S.1 36 0) from by have q := M_stamps hM; rw [setN_ne (by decide), setN_ne (by decide)] at q; exact q) ?_
        refine g_iconst (v := nI 1) dX12_settle_68 (by decide) ?_
        refine g_iadd dX12_settle_69 (by first | exact nI_add _ _ | rfl) ?_
        refine gp_iast dX12_settle_70 kw_stamps (by omega) (Z_stamps (v := S.1 36 0 + 1) hQ hB2) (fun σ hQ => ?_)
        have hM := hQ.1.1
        have hC0 := hQ.1.2.1
        refine gs_iload_n dX12_settle_71 rfl rfl ?_
        refine g_ireturn dX12_settle_72 rfl ?_
        exact ⟨_, rfl, by rw [aSettle, if_pos (yb c10 c18), nN_n (by omega), if_neg (by omega)], by rw [nSettle, if_pos (yb c10 c18), nN_n (by omega), if_neg (by omega), nN_n (by omega)]; exact hQ⟩
      · refine g_bipush (v := -3) dX12_settle_32 (by decide) ?_
        refine g_ireturn dX12_settle_34 rfl ?_
        exact ⟨_, rfl, by rw [aSettle, if_pos (yb c10 c18), nN_n (by omega), if_pos (by omega)], by rw [nSettle, if_pos (yb c10 c18), nN_n (by omega), if_pos (by omega)]; exact hQ⟩
    · refine g_iconst (v := -1) dX12_settle_21 (by decide) ?_
      refine g_ireturn dX12_settle_22 rfl ?_
      exact ⟨_, rfl, by rw [aSettle, if_neg (nb2 (nbf c18))], by rw [nSettle, if_neg (nb2 (nbf c18))]; exact hQ⟩
def sp1 (S : Sx) (u v : Nat) : Sx := setN (setN (setN (setN (xqS S (S.1 29 u) (cntB (bfN S u) (S.1 9 0)) (S.1 29 v) (cntB (bfN S v) (S.1 9 0)) u v) 29 u (S.1 29 v)) 29 v (S.1 29 u)) 35 u (S.1 35 v)) 35 v (S.1 35 u)
abbrev okSw (S : Sx) (x y : Int32) : Bool := inN x (S.1 9 0) && (inN y (S.1 9 0) && decide (x ≠ y))
def aSwap (S : Sx) (x y : Int32) : Int32 := if okSw S x y = true then (if 0 < S.1 31 (nN x) ∨ 0 < S.1 31 (nN y) then -3 else nI 0) else -1
def nSwap (S : Sx) (x y : Int32) : Sx := if okSw S x y = true then (if 0 < S.1 31 (nN x) ∨ 0 < S.1 31 (nN y) then S else sp1 S (nN x) (nN y)) else S
theorem Tk_sp {S : Sx} {Tf : Nat → Nat} (h : Tk S Tf) {u v : Nat} : Tk (sp1 S u v) Tf := by
  refine Tk_of h ?_ ?_ ?_ ?_ ?_ <;> (unfold sp1; rw [setN_ne (by decide), setN_ne (by decide), setN_ne (by decide), setN_ne (by decide)]; rfl)
theorem a_swap {σ : Mm} {S : Sx} {H : Hx} (hJ : CI σ S H) (hPI : PI S) (x y : Int32) : RI W0 mX11_swap [.ref 0, .int x, .int y] σ (fun r τ => r = aSwap S x y ∧ CI τ (nSwap S x y) H ∧ frK σ τ) := by
  have hJ0 := hJ
  obtain ⟨⟨Tf, hR, hTk⟩, hSh, hTr1, hTr2⟩ := hJ
  have hb : mch 57 := Or.inl rfl
  have hB : Bd S := hPI.1.1.1.1
  have b0 := B_nodes hB 0
  have bP := B_P hB 0
  have bT := B_T hB 0
  refine G.met (by decide) (Nat.le_of_ble_eq_true rfl) ?_
  show G _ _ _ 0 [some (.ref 0), some (.int x), some (.int y), none, none, none] [] σ
  refine gs_aload_n dX11_swap_0 rfl rfl ?_
  refine g_getR dX11_swap_1 fX11_32 kFC (by decide) rFC_machine ?_
  refine gs_iload_n dX11_swap_4 rfl rfl ?_
  refine g_cVI1 dX11_swap_5 vX11_98 (by decide) (kMa hb) (by decide) (Nat.le_of_ble_eq_true rfl) (c_hasWorker hb hR hB _) ?_
  rintro _ σ ⟨rfl, e9⟩
  subst e9
  refine gb_if_eq (tgt := 27) dX11_swap_8 (by decide) (fun c8 => ?_) (fun c8 => ?_)
  · refine g_iconst (v := -1) dX11_swap_27 (by decide) ?_
    refine g_ireturn dX11_swap_28 rfl ?_
    exact ⟨_, rfl, by rw [aSwap, if_neg (nb1 c8)], by rw [nSwap, if_neg (nb1 c8)]; exact ⟨hJ0, frK.rf _⟩⟩
  · refine gs_aload_n dX11_swap_11 rfl rfl ?_
    refine g_getR dX11_swap_12 fX11_32 kFC (by decide) rFC_machine ?_
    refine gs_iload_n dX11_swap_15 rfl rfl ?_
    refine g_cVI1 dX11_swap_16 vX11_98 (by decide) (kMa hb) (by decide) (Nat.le_of_ble_eq_true rfl) (c_hasWorker hb hR hB _) ?_
    rintro _ σ ⟨rfl, e9⟩
    subst e9
    refine gb_if_eq (tgt := 27) dX11_swap_19 (by decide) (fun c19 => ?_) (fun c19 => ?_)
    · refine g_iconst (v := -1) dX11_swap_27 (by decide) ?_
      refine g_ireturn dX11_swap_28 rfl ?_
      exact ⟨_, rfl, by rw [aSwap, if_neg (nb2 (nb1 c19))], by rw [nSwap, if_neg (nb2 (nb1 c19))]; exact ⟨hJ0, frK.rf _⟩⟩
    · refine gs_iload_n dX11_swap_22 rfl rfl ?_
      refine gs_iload_n dX11_swap_23 rfl rfl ?_
      refine g_icmp_ne (tgt := 29) dX11_swap_24 (by decide) (fun c24 => ?_) (fun c24 => ?_)
      · have ok : okSw S x y = true := yb c8 (yb c19 (decide_eq_true c24))
        obtain ⟨u, hu, rfl⟩ := inN_of c8 (by omega)
        obtain ⟨v, hv, rfl⟩ := inN_of c19 (by omega)
        have h10 : u < 10 := by omega
        have g10 : v < 10 := by omega
        have b29 := B_at hB u
        have c29 := B_at hB v
        have b31 := B_toGo hB u
        have d31 := B_toGo hB v
        have hB1 : Bd (setN (xqS S (S.1 29 u) (cntB (bfN S u) (S.1 9 0)) (S.1 29 v) (cntB (bfN S v) (S.1 9 0)) u v) 29 u (S.1 29 v)) := Bd_setN (show Bd S from hB) c29
        refine gs_aload_n dX11_swap_29 rfl rfl ?_
        refine g_getR dX11_swap_30 fX11_32 kFC (by decide) rFC_machine ?_
        refine g_getR dX11_swap_33 fX11_101 (kMa hb) (by decide) (rMa_workers hb) ?_
        refine gs_iload_n dX11_swap_36 rfl rfl ?_
        refine g_aald27 dX11_swap_37 (kMa_workers hb) h10 (rWs hb h10) ?_
        refine gs_astore_n (ls' := [_, _, _, _, _, _]) dX11_swap_38 rfl rfl rfl ?_
        refine gs_aload_n dX11_swap_39 rfl rfl ?_
        refine g_getR dX11_swap_40 fX11_32 kFC (by decide) rFC_machine ?_
        refine g_getR dX11_swap_43 fX11_101 (kMa hb) (by decide) (rMa_workers hb) ?_
        refine gs_iload_n dX11_swap_46 rfl rfl ?_
        refine g_aald27 dX11_swap_47 (kMa_workers hb) g10 (rWs hb g10) ?_
        refine gs_astore (ls' := [_, _, _, _, _, _]) dX11_swap_48 rfl rfl ?_
        refine gs_aload_n dX11_swap_50 rfl rfl ?_
        refine g_getI dX11_swap_51 fX11_158 (kWk hb h10) (by decide) (C_toGo hR (by omega) (by omega)) ?_
        refine gn_if_gt (tgt := 65) dX11_swap_54 (by decide) (by omega) (fun c54 => ?_) (fun c54 => ?_)
        · refine g_bipush (v := -3) dX11_swap_65 (by decide) ?_
          refine g_ireturn dX11_swap_67 rfl ?_
          exact ⟨_, rfl, by rw [aSwap, if_pos ok, nN_n (by omega), nN_n (by omega), if_pos (Or.inl c54)], by rw [nSwap, if_pos ok, nN_n (by omega), nN_n (by omega), if_pos (Or.inl c54)]; exact ⟨hJ0, frK.rf _⟩⟩
        · refine g_aload dX11_swap_57 rfl ?_
          refine g_getI dX11_swap_59 fX11_158 (kWk hb g10) (by decide) (C_toGo hR (by omega) (by omega)) ?_
          refine gn_if_le (tgt := 68) dX11_swap_62 (by decide) (by omega) (fun c62 => ?_) (fun c62 => ?_)
          · refine gs_aload_n dX11_swap_68 rfl rfl ?_
            refine g_getR dX11_swap_69 fX11_32 kFC (by decide) rFC_machine ?_
            refine g_getR dX11_swap_72 fX11_164 (kMa hb) (by decide) (rMa_queues hb) ?_
            refine gs_aload_n dX11_swap_75 rfl rfl ?_
            refine g_getI dX11_swap_76 fX11_161 (kWk hb h10) (by decide) (C_at hR (by omega) (by omega)) ?_
            refine gs_iload_n dX11_swap_79 rfl rfl ?_
            refine g_aload dX11_swap_80 rfl ?_
            refine g_getI dX11_swap_82 fX11_161 (kWk hb g10) (by decide) (C_at hR (by omega) (by omega)) ?_
            refine gs_iload_n dX11_swap_85 rfl rfl ?_
            refine g_cVV4 dX11_swap_86 vX11_176 (by decide) (kMa_queues hb) (by decide) (Nat.le_of_ble_eq_true rfl) (c_exchange hb hR hB (na := S.1 29 u) (nb := S.1 29 v) (u := u) (v := v) (by omega) (by omega) (by omega) (by omega) (fun i => Qi_lt hPI.1.2.2.2.1 hB (by omega) i) (fun i => Qi_lt hPI.1.2.2.2.1 hB (by omega) i) (q_place hPI.1.2.2.2.1 hu (by omega)) (q_place hPI.1.2.2.2.1 hv (by omega))) ?_
            rintro σ hQ
            have hR := hQ.1
            refine gs_aload_n dX11_swap_89 rfl rfl ?_
            refine g_getI dX11_swap_90 fX11_161 (kWk hb h10) (by decide) (show _ = nI (S.1 29 u) from C_at hR h10 hu) ?_
            refine gs_istore (ls' := [_, _, _, _, _, _]) dX11_swap_93 rfl rfl ?_
            refine gs_aload_n dX11_swap_95 rfl rfl ?_
            refine g_aload dX11_swap_96 rfl ?_
            refine g_getI dX11_swap_98 fX11_161 (kWk hb g10) (by decide) (show _ = nI (S.1 29 v) from C_at hR g10 hv) ?_
            refine gc_putI dX11_swap_101 pX11_161 (kWk hb h10) (by decide) (Or.inl rfl) (D_at (v := S.1 29 v) hQ hb hB h10) (fun σ hQ => ?_)
            have hR := hQ.1
            refine g_aload dX11_swap_104 rfl ?_
            refine g_iload dX11_swap_106 rfl ?_
            refine gc_putI dX11_swap_108 pX11_161 (kWk hb g10) (by decide) (Or.inl rfl) (D_at (v := S.1 29 u) hQ hb hB1 g10) (fun σ hQ => ?_)
            have hR := hQ.1
            refine g_iconst (v := nI 0) dX11_swap_111 (by decide) ?_
            refine g_ireturn dX11_swap_112 rfl ?_
            have hQ := (hQ.ghost (g := 35) (i := u) (v := S.1 35 v) sz35 rfl).ghost (g := 35) (i := v) (v := S.1 35 u) sz35 rfl
            exact ⟨_, rfl, by rw [aSwap, if_pos ok, nN_n (by omega), nN_n (by omega), if_neg (by omega)], by rw [nSwap, if_pos ok, nN_n (by omega), nN_n (by omega), if_neg (by omega)]; exact hJ0.cq hQ (Tk_sp hTk)⟩
          · refine g_bipush (v := -3) dX11_swap_65 (by decide) ?_
            refine g_ireturn dX11_swap_67 rfl ?_
            exact ⟨_, rfl, by rw [aSwap, if_pos ok, nN_n (by omega), nN_n (by omega), if_pos (Or.inr c62)], by rw [nSwap, if_pos ok, nN_n (by omega), nN_n (by omega), if_pos (Or.inr c62)]; exact ⟨hJ0, frK.rf _⟩⟩
      · refine g_iconst (v := -1) dX11_swap_27 (by decide) ?_
        refine g_ireturn dX11_swap_28 rfl ?_
        exact ⟨_, rfl, by rw [aSwap, if_neg (nb2 (nb2 (nbf (decide_eq_false (fun z => z c24)))))], by rw [nSwap, if_neg (nb2 (nb2 (nbf (decide_eq_false (fun z => z c24)))))]; exact ⟨hJ0, frK.rf _⟩⟩
theorem n_swap {σ : Mm} {S : Sx} {H : Hx} (hJ : MI_ σ S H) (hPI : PI S) (x y : Int32) : RI W0 mX12_swap [.ref 258, .int x, .int y] σ (fun r τ => r = aSwap S x y ∧ MJ σ (nSwap S x y) H τ) := by
  have hB : Bd S := hPI.1.1.1.1
  have b0 := B_nodes hB 0
  have bP := B_P hB 0
  have bT := B_T hB 0
  refine G.met (by decide) (Nat.le_of_ble_eq_true rfl) ?_
  show G _ _ _ 0 [some (.ref 258), some (.int x), some (.int y), none, none] [] σ
  refine gs_aload_n dX12_swap_0 rfl rfl ?_
  refine g_iconst (v := nI 0) dX12_swap_1 (by decide) ?_
  refine gp_putI dX12_swap_2 pX12_194 kwM (by decide) (Or.inl rfl) ((MJ.rf hJ).off off0 (by decide)) (fun σ hQ => ?_)
  have hM := hQ.1.1
  have hC0 := hQ.1.2.1
  refine gs_aload_n dX12_swap_5 rfl rfl ?_
  refine gs_iload_n dX12_swap_6 rfl rfl ?_
  refine g_cVI1 dX12_swap_7 vX12_228 (by decide) kwM (by decide) (Nat.le_of_ble_eq_true rfl) (s_isThread (M_T hM) (by omega) _) ?_
  rintro _ σ ⟨rfl, e9⟩
  subst e9
  refine gb_if_eq (tgt := 26) dX12_swap_10 (by decide) (fun c10 => ?_) (fun c10 => ?_)
  · refine g_iconst (v := -1) dX12_swap_26 (by decide) ?_
    refine g_ireturn dX12_swap_27 rfl ?_
    exact ⟨_, rfl, by rw [aSwap, if_neg (nb1 c10)], by rw [nSwap, if_neg (nb1 c10)]; exact hQ⟩
  · refine gs_aload_n dX12_swap_13 rfl rfl ?_
    refine gs_iload_n dX12_swap_14 rfl rfl ?_
    refine g_cVI1 dX12_swap_15 vX12_228 (by decide) kwM (by decide) (Nat.le_of_ble_eq_true rfl) (s_isThread (M_T hM) (by omega) _) ?_
    rintro _ σ ⟨rfl, e9⟩
    subst e9
    refine gb_if_eq (tgt := 26) dX12_swap_18 (by decide) (fun c18 => ?_) (fun c18 => ?_)
    · refine g_iconst (v := -1) dX12_swap_26 (by decide) ?_
      refine g_ireturn dX12_swap_27 rfl ?_
      exact ⟨_, rfl, by rw [aSwap, if_neg (nb2 (nb1 c18))], by rw [nSwap, if_neg (nb2 (nb1 c18))]; exact hQ⟩
    · refine gs_iload_n dX12_swap_21 rfl rfl ?_
      refine gs_iload_n dX12_swap_22 rfl rfl ?_
      refine g_icmp_ne (tgt := 28) dX12_swap_23 (by decide) (fun c23 => ?_) (fun c23 => ?_)
      · have ok : okSw S x y = true := yb c10 (yb c18 (decide_eq_true c23))
        obtain ⟨u, hu, rfl⟩ := inN_of c10 (by omega)
        obtain ⟨v, hv, rfl⟩ := inN_of c18 (by omega)
        have h10 : u < 10 := by omega
        have g10 : v < 10 := by omega
        have b29 := B_at hB u
        have c29 := B_at hB v
        have b31 := B_toGo hB u
        have d31 := B_toGo hB v
        refine gs_aload_n dX12_swap_28 rfl rfl ?_
        refine g_getR dX12_swap_29 fX12_112 kwM (by decide) rM_toGo ?_
        refine gs_iload_n dX12_swap_32 rfl rfl ?_
        refine g_iald dX12_swap_33 kw_toGo (by omega) (M0_toGo hM (by omega)) ?_
        refine gn_if_gt (tgt := 46) dX12_swap_34 (by decide) (by omega) (fun c34 => ?_) (fun c34 => ?_)
        · refine g_bipush (v := -3) dX12_swap_46 (by decide) ?_
          refine g_ireturn dX12_swap_48 rfl ?_
          exact ⟨_, rfl, by rw [aSwap, if_pos ok, nN_n (by omega), nN_n (by omega), if_pos (Or.inl c34)], by rw [nSwap, if_pos ok, nN_n (by omega), nN_n (by omega), if_pos (Or.inl c34)]; exact hQ⟩
        · refine gs_aload_n dX12_swap_37 rfl rfl ?_
          refine g_getR dX12_swap_38 fX12_112 kwM (by decide) rM_toGo ?_
          refine gs_iload_n dX12_swap_41 rfl rfl ?_
          refine g_iald dX12_swap_42 kw_toGo (by omega) (M0_toGo hM (by omega)) ?_
          refine gn_if_le (tgt := 49) dX12_swap_43 (by decide) (by omega) (fun c43 => ?_) (fun c43 => ?_)
          · have huv : u ≠ v := fun z => c23 (by rw [z])
            have hB1 : Bd (setN S 29 u (S.1 29 v)) := Bd_setN hB c29
            have hB2 : Bd (setN (setN S 29 u (S.1 29 v)) 29 v (S.1 29 u)) := Bd_setN hB1 b29
            have hB3 : Bd (setN (setN (setN S 29 u (S.1 29 v)) 29 v (S.1 29 u)) 35 u (S.1 35 v)) := Bd_setN hB2 (B_stamp hB v)
            refine gs_aload_n dX12_swap_49 rfl rfl ?_
            refine g_getR dX12_swap_50 fX12_103 kwM (by decide) rM_at ?_
            refine gs_iload_n dX12_swap_53 rfl rfl ?_
            refine g_iald dX12_swap_54 kw_at (by omega) (M0_at hM h10) ?_
            refine gs_istore_n (ls' := [_, _, _, _, _]) dX12_swap_55 rfl rfl rfl ?_
            refine gs_aload_n dX12_swap_56 rfl rfl ?_
            refine g_getR dX12_swap_57 fX12_103 kwM (by decide) rM_at ?_
            refine gs_iload_n dX12_swap_60 rfl rfl ?_
            refine gs_aload_n dX12_swap_61 rfl rfl ?_
            refine g_getR dX12_swap_62 fX12_103 kwM (by decide) rM_at ?_
            refine gs_iload_n dX12_swap_65 rfl rfl ?_
            refine g_iald dX12_swap_66 kw_at (by omega) (M0_at hM g10) ?_
            refine gp_iast dX12_swap_67 kw_at (by omega) (Z_at hQ hB h10) (fun σ hQ => ?_)
            have hM := hQ.1.1
            have hC0 := hQ.1.2.1
            refine gs_aload_n dX12_swap_68 rfl rfl ?_
            refine g_getR dX12_swap_69 fX12_103 kwM (by decide) rM_at ?_
            refine gs_iload_n dX12_swap_72 rfl rfl ?_
            refine gs_iload_n dX12_swap_73 rfl rfl ?_
            refine gp_iast dX12_swap_74 kw_at (by omega) (Z_at hQ hB1 g10) (fun σ hQ => ?_)
            have hM := hQ.1.1
            have hC0 := hQ.1.2.1
            refine gs_aload_n dX12_swap_75 rfl rfl ?_
            refine g_getR dX12_swap_76 fX12_106 kwM (by decide) rM_stamp ?_
            refine gs_iload_n dX12_swap_79 rfl rfl ?_
            refine g_iald dX12_swap_80 kw_stamp (by omega) (show _ = nI (S.1 35 u) from by have q := M0_stamp hM h10; rw [setN_ne (by decide), setN_ne (by decide)] at q; exact q) ?_
            refine gs_istore (ls' := [_, _, _, _, _]) dX12_swap_81 rfl rfl ?_
            refine gs_aload_n dX12_swap_83 rfl rfl ?_
            refine g_getR dX12_swap_84 fX12_106 kwM (by decide) rM_stamp ?_
            refine gs_iload_n dX12_swap_87 rfl rfl ?_
            refine gs_aload_n dX12_swap_88 rfl rfl ?_
            refine g_getR dX12_swap_89 fX12_106 kwM (by decide) rM_stamp ?_
            refine gs_iload_n dX12_swap_92 rfl rfl ?_
            refine g_iald dX12_swap_93 kw_stamp (by omega) (show _ = nI (S.1 35 v) from by have q := M0_stamp hM g10; rw [setN_ne (by decide), setN_ne (by decide)] at q; exact q) ?_
            refine gp_iast dX12_swap_94 kw_stamp (by omega) (Z_stamp hQ hB2 h10) (fun σ hQ => ?_)
            have hM := hQ.1.1
            have hC0 := hQ.1.2.1
            refine gs_aload_n dX12_swap_95 rfl rfl ?_
            refine g_getR dX12_swap_96 fX12_106 kwM (by decide) rM_stamp ?_
            refine gs_iload_n dX12_swap_99 rfl rfl ?_
            refine g_iload dX12_swap_100 rfl ?_
            refine gp_iast dX12_swap_102 kw_stamp (by omega) (Z_stamp hQ hB3 g10) (fun σ hQ => ?_)
            have hM := hQ.1.1
            have hC0 := hQ.1.2.1
            refine g_iconst (v := nI 0) dX12_swap_103 (by decide) ?_
            refine g_ireturn dX12_swap_104 rfl ?_
            exact ⟨_, rfl, by rw [aSwap, if_pos ok, nN_n (by omega), nN_n (by omega), if_neg (by omega)], by rw [nSwap, if_pos ok, nN_n (by omega), nN_n (by omega), if_neg (by omega)]; exact hQ⟩
          · refine g_bipush (v := -3) dX12_swap_46 (by decide) ?_
            refine g_ireturn dX12_swap_48 rfl ?_
            exact ⟨_, rfl, by rw [aSwap, if_pos ok, nN_n (by omega), nN_n (by omega), if_pos (Or.inr c43)], by rw [nSwap, if_pos ok, nN_n (by omega), nN_n (by omega), if_pos (Or.inr c43)]; exact hQ⟩
      · refine g_iconst (v := -1) dX12_swap_26 (by decide) ?_
        refine g_ireturn dX12_swap_27 rfl ?_
        exact ⟨_, rfl, by rw [aSwap, if_neg (nb2 (nb2 (nbf (decide_eq_false (fun z => z c23)))))], by rw [nSwap, if_neg (nb2 (nb2 (nbf (decide_eq_false (fun z => z c23)))))]; exact hQ⟩
def otN : Nat → Sx → Sx
  | 0, S => S
  | k + 1, S => otS (otN k S)
def Cn (n : Nat) (S : Sx) : Prop := S.1 23 0 + 40 * n + 200 < 1073741824 ∧ S.1 36 0 + 10 * n + 20 ≤ 1073741824
theorem otN_inv {b : Nat} {S : Sx} (hb : mch b) (h : Tw b S) {n : Nat} (hc : Cn n S) : ∀ k, k ≤ n → Tw b (otN k S) ∧ (otN k S).1 23 0 ≤ S.1 23 0 + 40 * k ∧ (otN k S).1 36 0 ≤ S.1 36 0 + 10 * k ∧ (∀ g, tg g = false → g ≠ 38 → g ≠ 35 → g ≠ 36 → (otN k S).1 g = S.1 g) := by
  intro k
  induction k with
  | zero => intro _; exact ⟨h, Nat.le_refl _, Nat.le_refl _, fun _ _ _ _ _ => rfl⟩
  | succ k ih =>
    intro hk
    obtain ⟨i1, i2, i3, i4⟩ := ih (by omega)
    obtain ⟨c1, c2⟩ := hc
    obtain ⟨o1, o2, o3, o4⟩ := otS_inv hb i1 (by omega) (by omega)
    exact ⟨o1, by rw [otN]; omega, by rw [otN]; omega, fun g g1 g2 g3 g4 => by rw [otN, o4 g g1 g2 g3 g4, i4 g g1 g2 g3 g4]⟩
def aRun (S : Sx) (x : Int32) : Int32 := if rg x 1 200 = true then (otN (nN x) S).2.1 2 0 - S.2.1 2 0 else -1
def nRun (S : Sx) (x : Int32) : Sx := if rg x 1 200 = true then otN (nN x) S else S
theorem cl_run {σ0 : Mm} {S : Sx} {n : Nat} {v : Int32} {K : Option Value → Mm → Prop} (hn : n ≤ 200) (hTw : Tw 57 S) (hc : Cn n S) (hK : ∀ τ Tf A, Cq 57 σ0 (otN n S) Tf A τ → Tk (otN n S) Tf → K (some (.int ((otN n S).2.1 2 0 - v))) τ) : ∀ k i σ Tf A, i + k = n → Cq 57 σ0 (otN i S) Tf A σ → Tk (otN i S) Tf → G W0 mX11_run K 23 [some (.ref 0), some (.int (nI n)), some (.int v), some (.int (nI i))] [] σ := by
  have hb : mch 57 := Or.inl rfl
  intro k
  induction k with
  | zero =>
    intro i σ Tf A hi hQ hTk
    have hR := hQ.1
    have e : i = n := by omega
    rw [e] at hQ hTk hR
    refine gs_iload_n dX11_run_23 rfl rfl ?_
    refine gs_iload_n dX11_run_24 rfl rfl ?_
    refine gt_icmp_ge (tgt := 41) dX11_run_25 (by decide) (by omega) (by omega) (by omega) ?_
    refine gs_aload_n dX11_run_41 rfl rfl ?_
    refine g_getR dX11_run_42 fX11_32 kFC (by decide) rFC_machine ?_
    refine g_getI dX11_run_45 fX11_179 (kMa hb) (by decide) (CV_went hR) ?_
    refine gs_iload_n dX11_run_48 rfl rfl ?_
    refine g_isub dX11_run_49 rfl ?_
    refine g_ireturn dX11_run_50 rfl ?_
    exact hK σ Tf A hQ hTk
  | succ k ih =>
    intro i σ Tf A hi hQ hTk
    have hR := hQ.1
    obtain ⟨i1, i2, i3, i4⟩ := otN_inv hb hTw hc i (by omega)
    have h1 : (otN i S).1 23 0 + 100 < 1073741824 := by have := hc.1; omega
    have h2 : (otN i S).1 36 0 + 10 ≤ 1073741824 := by have := hc.2; omega
    refine gs_iload_n dX11_run_23 rfl rfl ?_
    refine gs_iload_n dX11_run_24 rfl rfl ?_
    refine gf_icmp_ge (tgt := 41) dX11_run_25 (by decide) (by omega) (by omega) (by omega) ?_
    refine gs_aload_n dX11_run_28 rfl rfl ?_
    refine g_getR dX11_run_29 fX11_32 kFC (by decide) rFC_machine ?_
    refine g_cVV0 dX11_run_32 vX11_182 (by decide) (kMa hb) (by decide) (Nat.le_of_ble_eq_true rfl) (c_doTick hb hR i1.1.1.1 hTk i1 h1 h2) ?_
    rintro σ ⟨Tf9, A9, hQ9, hT9⟩
    have hQ := hQ.tr hQ9
    refine gs_iinc (ls' := [_, _, _, _]) dX11_run_35 rfl (nI_add _ 1) rfl rfl ?_
    refine g_goto (tgt := 23) dX11_run_38 (by decide) ?_
    exact ih (i + 1) σ Tf9 A9 (by omega) hQ hT9
theorem a_run {σ : Mm} {S : Sx} {H : Hx} (hJ : CI σ S H) (hPI : PI S) (x : Int32) (hc : Cn 200 S) : RI W0 mX11_run [.ref 0, .int x] σ (fun r τ => r = aRun S x ∧ CI τ (nRun S x) H ∧ frK σ τ) := by
  have hJ0 := hJ
  obtain ⟨⟨Tf, hR, hTk⟩, hSh, hTr1, hTr2⟩ := hJ
  have hb : mch 57 := Or.inl rfl
  have hB : Bd S := hPI.1.1.1.1
  have b0 := B_nodes hB 0
  have bP := B_P hB 0
  have bT := B_T hB 0
  refine G.met (by decide) (Nat.le_of_ble_eq_true rfl) ?_
  show G _ _ _ 0 [some (.ref 0), some (.int x), none, none] [] σ
  refine gs_iload_n dX11_run_0 rfl rfl ?_
  refine g_iconst (v := nI 1) dX11_run_1 (by decide) ?_
  refine g_sipush (v := nI 200) dX11_run_2 (by decide) ?_
  refine g_cSI3 dX11_run_5 vX11_50 (by decide) (Nat.le_of_ble_eq_true rfl) (c_within (by decide) (by decide)) ?_
  rintro _ σ ⟨rfl, e9⟩
  subst e9
  refine gb_if_ne (tgt := 13) dX11_run_8 (by decide) (fun c8 => ?_) (fun c8 => ?_)
  · obtain ⟨n, hnl, hn, rfl⟩ := rg_of c8
    have hcn : Cn n S := ⟨by have := hc.1; omega, by have := hc.2; omega⟩
    refine gs_aload_n dX11_run_13 rfl rfl ?_
    refine g_getR dX11_run_14 fX11_32 kFC (by decide) rFC_machine ?_
    refine g_getI dX11_run_17 fX11_179 (kMa hb) (by decide) (CV_went hR) ?_
    refine gs_istore_n (ls' := [_, _, _, _]) dX11_run_20 rfl rfl rfl ?_
    refine g_iconst (v := nI 0) dX11_run_21 (by decide) ?_
    refine gs_istore_n (ls' := [_, _, _, _]) dX11_run_22 rfl rfl rfl ?_
    exact cl_run hn hPI.1 hcn (fun τ Tf9 A9 hQ hT => ⟨_, rfl, by rw [aRun, if_pos c8, nN_n (by omega)], by rw [nRun, if_pos c8, nN_n (by omega)]; exact hJ0.cq hQ hT⟩) n 0 _ Tf _ (by omega) (Cq.rf hR) hTk
  · refine g_iconst (v := -1) dX11_run_11 (by decide) ?_
    refine g_ireturn dX11_run_12 rfl ?_
    exact ⟨_, rfl, by rw [aRun, if_neg (nbf c8)], by rw [nRun, if_neg (nbf c8)]; exact ⟨hJ0, frK.rf _⟩⟩
theorem hCap_of {S : Sx} (h : cCap 57 S) : hCap 0 S := ⟨fun _ => h.1 rfl, fun e => absurd e (by decide)⟩
theorem l_run {σ0 : Mm} {S : Sx} {H : Hx} {n : Nat} {v : Int32} {K : Option Value → Mm → Prop} (hn : n ≤ 200) (hTw : Tw 57 S) (hc : Cn n S) (hK : ∀ τ, MJ σ0 (otN n S) H τ → K (some (.int ((otN n S).2.1 2 0 - v))) τ) : ∀ k i σ, i + k = n → MJ σ0 (otN i S) H σ → G W0 mX12_run K 28 [some (.ref 258), some (.int (nI n)), some (.int v), some (.int (nI i))] [] σ := by
  have hb : mch 57 := Or.inl rfl
  intro k
  induction k with
  | zero =>
    intro i σ hi hQ
    have e : i = n := by omega
    rw [e] at hQ
    have hM := hQ.1.1
    refine gs_iload_n dX12_run_28 rfl rfl ?_
    refine gs_iload_n dX12_run_29 rfl rfl ?_
    refine gt_icmp_ge (tgt := 43) dX12_run_30 (by decide) (by omega) (by omega) (by omega) ?_
    refine gs_aload_n dX12_run_43 rfl rfl ?_
    refine g_getR dX12_run_44 fX12_60 kwM (by decide) rM_went ?_
    refine g_iconst (v := nI 0) dX12_run_47 (by decide) ?_
    refine g_iald dX12_run_48 kw_went (by omega) (M0_went hM) ?_
    refine gs_iload_n dX12_run_49 rfl rfl ?_
    refine g_isub dX12_run_50 rfl ?_
    refine g_ireturn dX12_run_51 rfl ?_
    exact hK σ hQ
  | succ k ih =>
    intro i σ hi hQ
    have hM := hQ.1.1
    have hC0 := hQ.1.2.1
    obtain ⟨i1, i2, i3, i4⟩ := otN_inv hb hTw hc i (by omega)
    obtain ⟨-, -, -, j4⟩ := otN_inv hb hTw hc (i + 1) (by omega)
    have h1 : (otN i S).1 23 0 + 100 < 1073741824 := by have := hc.1; omega
    have h2 : (otN i S).1 36 0 + 10 ≤ 1073741824 := by have := hc.2; omega
    refine gs_iload_n dX12_run_28 rfl rfl ?_
    refine gs_iload_n dX12_run_29 rfl rfl ?_
    refine gf_icmp_ge (tgt := 43) dX12_run_30 (by decide) (by omega) (by omega) (by omega) ?_
    refine gs_aload_n dX12_run_33 rfl rfl ?_
    refine g_cVV0 dX12_run_34 vX12_332 (by decide) kwM (by decide) (Nat.le_of_ble_eq_true rfl) (s_oneTick hM i1.1.1.1 hC0 i1.1.1 (hCap_of i1.2.1) i1.2.2.1 h1 h2) ?_
    rintro σ hW
    have hQ := hQ.mw i1.1.1.1 hW (by rw [← show otN (i + 1) S = otS (otN i S) from rfl, j4 0 rfl (by decide) (by decide) (by decide), i4 0 rfl (by decide) (by decide) (by decide)]) (by rw [← show otN (i + 1) S = otS (otN i S) from rfl, j4 9 rfl (by decide) (by decide) (by decide), i4 9 rfl (by decide) (by decide) (by decide)])
    refine gs_iinc (ls' := [_, _, _, _]) dX12_run_37 rfl (nI_add _ 1) rfl rfl ?_
    refine g_goto (tgt := 28) dX12_run_40 (by decide) ?_
    exact ih (i + 1) σ (by omega) hQ
theorem n_run {σ : Mm} {S : Sx} {H : Hx} (hJ : MI_ σ S H) (hPI : PI S) (x : Int32) (hc : Cn 200 S) : RI W0 mX12_run [.ref 258, .int x] σ (fun r τ => r = aRun S x ∧ MJ σ (nRun S x) H τ) := by
  have hB : Bd S := hPI.1.1.1.1
  have b0 := B_nodes hB 0
  have bP := B_P hB 0
  have bT := B_T hB 0
  refine G.met (by decide) (Nat.le_of_ble_eq_true rfl) ?_
  show G _ _ _ 0 [some (.ref 258), some (.int x), none, none] [] σ
  refine gs_aload_n dX12_run_0 rfl rfl ?_
  refine g_iconst (v := nI 0) dX12_run_1 (by decide) ?_
  refine gp_putI dX12_run_2 pX12_194 kwM (by decide) (Or.inl rfl) ((MJ.rf hJ).off off0 (by decide)) (fun σ hQ => ?_)
  have hM := hQ.1.1
  have hC0 := hQ.1.2.1
  refine gs_iload_n dX12_run_5 rfl rfl ?_
  refine g_i2l dX12_run_6 rfl ?_
  refine g_lconst (v := 1) dX12_run_7 (by decide) ?_
  refine g_ldc2 dX12_run_8 qX12_330 ?_
  refine g_cSI3 dX12_run_11 vX12_214 (by decide) (Nat.le_of_ble_eq_true rfl) (m_isIn (a := 1) (b := 200) (by decide) (by decide)) ?_
  rintro _ σ ⟨rfl, e9⟩
  subst e9
  refine gb_if_ne (tgt := 19) dX12_run_14 (by decide) (fun c14 => ?_) (fun c14 => ?_)
  · obtain ⟨n, hnl, hn, rfl⟩ := rg_of c14
    have hcn : Cn n S := ⟨by have := hc.1; omega, by have := hc.2; omega⟩
    refine gs_aload_n dX12_run_19 rfl rfl ?_
    refine g_getR dX12_run_20 fX12_60 kwM (by decide) rM_went ?_
    refine g_iconst (v := nI 0) dX12_run_23 (by decide) ?_
    refine g_iald dX12_run_24 kw_went (by omega) (M0_went hM) ?_
    refine gs_istore_n (ls' := [_, _, _, _]) dX12_run_25 rfl rfl rfl ?_
    refine g_iconst (v := nI 0) dX12_run_26 (by decide) ?_
    refine gs_istore_n (ls' := [_, _, _, _]) dX12_run_27 rfl rfl rfl ?_
    exact l_run hn hPI.1 hcn (fun τ hQ => ⟨_, rfl, by rw [aRun, if_pos c14, nN_n (by omega)], by rw [nRun, if_pos c14, nN_n (by omega)]; exact hQ⟩) n 0 _ (by omega) hQ
  · refine g_iconst (v := -1) dX12_run_17 (by decide) ?_
    refine g_ireturn dX12_run_18 rfl ?_
    exact ⟨_, rfl, by rw [aRun, if_neg (nbf c14)], by rw [nRun, if_neg (nbf c14)]; exact hQ⟩
