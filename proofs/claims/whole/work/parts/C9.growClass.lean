/-! The class's constructor. -/
def ivC (b k : Nat) : Int32 := if 57 ≤ b ∧ b < 145 then ivMa 57 300 b k else if 145 ≤ b ∧ b < 233 then ivMa 145 0 b k else 0
def ivX (τ : Mm) (b k : Nat) : Int32 := if b < 6 then τ.1 b k else ivC b k
theorem ivX_0 {τ : Mm} {b k : Nat} (h : 6 ≤ b) (h2 : b < 57 ∨ 233 ≤ b) : ivX τ b k = 0 := by
  unfold ivX ivC; rw [if_neg (by omega), if_neg (by omega), if_neg (by omega)]
theorem ks_t : ∀ t, t < 10 → kd (0 + 1 + (6 + 5 * t)) = (7, 5) ∧ kd (0 + 1 + (6 + 5 * t) + 1) = (20, 60) ∧ kd (0 + 1 + (6 + 5 * t) + 2) = (20, 60) ∧ kd (0 + 1 + (6 + 5 * t) + 3) = (22, 60) ∧ kd (0 + 1 + (6 + 5 * t) + 4) = (20, 60) ∧ rf 6 t = 0 + 1 + (6 + 5 * t) ∧ rf (0 + 1 + (6 + 5 * t)) 0 = 0 + 1 + (6 + 5 * t) + 1 ∧ rf (0 + 1 + (6 + 5 * t)) 1 = 0 + 1 + (6 + 5 * t) + 2 ∧ rf (0 + 1 + (6 + 5 * t)) 2 = 0 + 1 + (6 + 5 * t) + 3 ∧ rf (0 + 1 + (6 + 5 * t)) 3 = 0 + 1 + (6 + 5 * t) + 4 := by decide +kernel
theorem kh_d : ∀ d, d < 8 → kd (0 + 1 + (233 + 3 * d)) = (8, 8) ∧ kd (0 + 1 + (233 + 3 * d) + 1) = (23, 60) ∧ kd (0 + 1 + (233 + 3 * d) + 2) = (20, 60) ∧ rf 233 d = 0 + 1 + (233 + 3 * d) ∧ rf (0 + 1 + (233 + 3 * d)) 0 = 0 + 1 + (233 + 3 * d) + 1 ∧ rf (0 + 1 + (233 + 3 * d)) 1 = 0 + 1 + (233 + 3 * d) + 2 := by decide +kernel
theorem kd_0 : kd 0 = (11, 4) := by decide +kernel
theorem kd_1 : kd 1 = (1, 7) := by decide +kernel
theorem kd_57 : kd 57 = (3, 19) := by decide +kernel
theorem kd_145 : kd 145 = (3, 19) := by decide +kernel
theorem kd_233 : kd 233 = (26, 8) := by decide +kernel
theorem rf_00 : rf 0 0 = 1 := by decide +kernel
theorem rf_01 : rf 0 1 = 57 := by decide +kernel
theorem rf_02 : rf 0 2 = 145 := by decide +kernel
theorem rf_03 : rf 0 3 = 233 := by decide +kernel
theorem c_cs {ν : Nat → Nat → Bool} {τ : Mm} {K : Nw → Prop} {x y z : Int32} (hF : Fr 6 ν τ) (hK : K (0 + 1 + 257, setL (VM ν (0 + 1) 6 233 257 10 8) 0 [3, 2, 1, 0], ovS τ (0 + 1) 257 (ivX τ))) :
    ∀ j d, d + j = 8 → GN mX11_init (((257, 8221), (233 + 3 * d, 7197 + 128 * d)), 1, K) 122 [some (.ref 0), some (.int x), some (.int y), some (.int z), some (.ref 6), some (.int (nI d))] [] (0 + 1 + (233 + 3 * d), setL (VM ν (0 + 1) 6 233 (233 + 3 * d) 10 d) 0 [3, 2, 1, 0], ovS τ (0 + 1) (233 + 3 * d) (ivX τ)) := by
  intro j
  induction j with
  | zero =>
    intro d hd
    have e : d = 8 := by omega
    subst e
    refine ng_iload dX11_init_122 rfl ?_
    refine ng_bipush (v := nI 8) dX11_init_124 (by decide) ?_
    refine ngt_icmp_ge (tgt := 149) dX11_init_126 (by decide) (by omega) (by omega) (by omega) ?_
    refine ng_ret dX11_init_149 rfl ⟨by decide, by decide⟩ ?_
    exact hK
  | succ j ih =>
    intro d hd
    have hd8 : d < 8 := by omega
    refine ng_iload dX11_init_122 rfl ?_
    refine ng_bipush (v := nI 8) dX11_init_124 (by decide) ?_
    refine ngf_icmp_ge (tgt := 149) dX11_init_126 (by decide) (by omega) (by omega) (by omega) ?_
    refine ngs_aload_n dX11_init_129 rfl rfl ?_
    refine ng_getR dX11_init_130 fX11_41 (kn_of (by omega) kd_0) (by decide) rf_03 (setL_at (by decide)) ?_
    refine ng_iload dX11_init_133 rfl ?_
    refine ng_newO dX11_init_135 nX11_39 (by decide) (kh_d d hd8).1 (by omega) (by omega) ⟨by show 233 + 3 * d + 1 ≤ 257; omega, by show 7197 + 128 * d + 8 ≤ 8221; omega⟩ (FrM hF (by omega) ⟨Or.inr (by omega), by omega⟩) ?_
    refine ng_dup dX11_init_138 rfl ?_
    refine ng_i0 dX11_init_139 ivX11_45 (by decide) (Nat.le_of_ble_eq_true rfl) (by omega) (by omega) ⟨by show 233 + 3 * d + 1 + 2 ≤ 257; omega, by show 7197 + 128 * d + 8 + 120 ≤ 8221; omega⟩ (c_shelf (kh_d d hd8).1 (kh_d d hd8).2.1 (kh_d d hd8).2.2.1 (kh_d d hd8).2.2.2.2.1 (kh_d d hd8).2.2.2.2.2 (FrM hF (by omega) ⟨Or.inr (by omega), by omega⟩)) ?_
    rintro _ rfl
    refine st_ch (iv := ivX τ) (fun b _ _ => by omega) (fun b k g1 g2 => by rw [ivO_0, ivX_0 (by omega) (by omega)]) ?_
    refine ng_aast26 dX11_init_142 (kn_of (by omega) kd_233) (by omega) (kh_d d hd8).2.2.2.1 (kn_of (by omega) (kh_d d hd8).1) ?_
    refine GN.st (z' := (0 + 1 + (233 + 3 * (d + 1)), setL (VM ν (0 + 1) 6 233 (233 + 3 * (d + 1)) 10 (d + 1)) 0 [3, 2, 1, 0], ovS τ (0 + 1) (233 + 3 * (d + 1)) (ivX τ))) (nw_eq (by omega) (by rw [sV_setL2, VM_sy (by omega)]; rfl) rfl) ?_
    refine ngs_iinc (ls' := [_, _, _, _, _, _]) dX11_init_143 rfl (nI_add _ 1) rfl rfl ?_
    refine ng_goto (tgt := 122) dX11_init_146 (by decide) ?_
    exact GN.use (ih (d + 1) (by omega)) (by show 233 + 3 * d + 1 + 2 = 233 + 3 * (d + 1); omega) (by show 7197 + 128 * d + 8 + 120 = 7197 + 128 * (d + 1); omega)
theorem c_ct {ν : Nat → Nat → Bool} {τ : Mm} {K : Nw → Prop} {x y z : Int32} (hF : Fr 6 ν τ) (hX : GN mX11_init (((257, 8221), (6 + 5 * 10, 81 + 245 * 10)), 1, K) 72 [some (.ref 0), some (.int x), some (.int y), some (.int z), some (.ref 6), some (.int (nI 10))] [] (0 + 1 + (6 + 5 * 10), setL (VM ν (0 + 1) 6 233 (6 + 5 * 10) 10 0) 0 [0], ovS τ (0 + 1) (6 + 5 * 10) (ivX τ))) :
    ∀ j t, t + j = 10 → GN mX11_init (((257, 8221), (6 + 5 * t, 81 + 245 * t)), 1, K) 47 [some (.ref 0), some (.int x), some (.int y), some (.int z), some (.ref 6), some (.int (nI t))] [] (0 + 1 + (6 + 5 * t), setL (VM ν (0 + 1) 6 233 (6 + 5 * t) t 0) 0 [0], ovS τ (0 + 1) (6 + 5 * t) (ivX τ)) := by
  intro j
  induction j with
  | zero =>
    intro t ht
    have e : t = 10 := by omega
    subst e
    refine ng_iload dX11_init_47 rfl ?_
    refine ng_bipush (v := nI 10) dX11_init_49 (by decide) ?_
    refine ngt_icmp_ge (tgt := 72) dX11_init_51 (by decide) (by omega) (by omega) (by omega) ?_
    exact hX
  | succ j ih =>
    intro t ht
    have ht10 : t < 10 := by omega
    refine ng_iload dX11_init_47 rfl ?_
    refine ng_bipush (v := nI 10) dX11_init_49 (by decide) ?_
    refine ngf_icmp_ge (tgt := 72) dX11_init_51 (by decide) (by omega) (by omega) (by omega) ?_
    refine ng_aload dX11_init_54 rfl ?_
    refine ng_iload dX11_init_56 rfl ?_
    refine ng_newO dX11_init_58 nX11_24 (by decide) (ks_t t ht10).1 (by omega) (by omega) ⟨by show 6 + 5 * t + 1 ≤ 257; omega, by show 81 + 245 * t + 5 ≤ 8221; omega⟩ (FrM hF (by omega) ⟨Or.inr (by omega), Or.inl rfl⟩) ?_
    refine ng_dup dX11_init_61 rfl ?_
    refine ng_i0 dX11_init_62 ivX11_26 (by decide) (Nat.le_of_ble_eq_true rfl) (by omega) (by omega) ⟨by show 6 + 5 * t + 1 + 4 ≤ 257; omega, by show 81 + 245 * t + 5 + 240 ≤ 8221; omega⟩ (c_script (ks_t t ht10).1 (ks_t t ht10).2.1 (ks_t t ht10).2.2.1 (ks_t t ht10).2.2.2.1 (ks_t t ht10).2.2.2.2.1 (ks_t t ht10).2.2.2.2.2.2.1 (ks_t t ht10).2.2.2.2.2.2.2.1 (ks_t t ht10).2.2.2.2.2.2.2.2.1 (ks_t t ht10).2.2.2.2.2.2.2.2.2 (FrM hF (by omega) ⟨Or.inr (by omega), Or.inl rfl⟩)) ?_
    rintro _ rfl
    refine st_ch (iv := ivX τ) (fun b _ _ => by omega) (fun b k g1 g2 => by rw [ivO_0, ivX_0 (by omega) (by omega)]) ?_
    refine ng_aast25 dX11_init_65 (kn_of (by omega) kd_6) (by omega) (ks_t t ht10).2.2.2.2.2.1 (kn_of (by omega) (ks_t t ht10).1) ?_
    refine GN.st (z' := (0 + 1 + (6 + 5 * (t + 1)), setL (VM ν (0 + 1) 6 233 (6 + 5 * (t + 1)) (t + 1) 0) 0 [0], ovS τ (0 + 1) (6 + 5 * (t + 1)) (ivX τ))) (nw_eq (by omega) (by rw [sV_setL2, VM_sx (by omega)]; rfl) rfl) ?_
    refine ngs_iinc (ls' := [_, _, _, _, _, _]) dX11_init_66 rfl (nI_add _ 1) rfl rfl ?_
    refine ng_goto (tgt := 47) dX11_init_69 (by decide) ?_
    exact GN.use (ih (t + 1) (by omega)) (by show 6 + 5 * t + 1 + 4 = 6 + 5 * (t + 1); omega) (by show 81 + 245 * t + 5 + 240 = 81 + 245 * (t + 1); omega)
/-- what the class's constructor leaves -/
def ClI (P : Dm) (n p r : Nat) (σ τ : Mm) : Prop := τ.2 = σ.2 ∧ (∀ b, 258 ≤ b → τ.1 b = σ.1 b) ∧ (∀ b k, 6 ≤ b → b < 258 → τ.1 b k = ivC b k) ∧ τ.1 1 0 = nI n ∧ τ.1 1 1 = nI p ∧ τ.1 1 2 = nI r ∧ (∀ k, k < 16 → τ.1 2 k = nI 2 ∧ τ.1 3 k = nI 2) ∧ Sm n (dst P n) τ ∧ Hmp n n 0 (lhF P (dst P n) n) τ
theorem c_class {P : Dm} {ν : Nat → Nat → Bool} {σ : Mm} {x y z : Int32} {cn cp cr : Nat} (hF : Fr 0 ν σ) (hx : fmv x (nI 3) = nI cn) (hy : fmv y (nI 3) = nI cp) (hz : fmv z (nI 9) = nI cr) (hn : cn < 3) (hP : ∀ a b, a < 2 + cn → b < 2 + cn → a ≠ b → P a b = 2) (hP9 : ∀ a b, P a b ≤ 9) : MetN mX11_init [.ref 0, .int x, .int y, .int z] (1, ν, σ) (257, 8221) (fun w => ∃ τ : Mm, w = (258, ovV ν 0 258, τ) ∧ ClI P (2 + cn) (1 + cp) (4 + cr) σ τ) := by
  refine GN.met (by decide) rfl (Nat.le_of_ble_eq_true rfl) ?_
  show GN _ _ 0 [some (.ref 0), some (.int x), some (.int y), some (.int z), none, none] [] (1, ν, σ)
  refine ngs_aload_n dX11_init_0 rfl rfl ?_
  refine ng_objI dX11_init_1 oX11 ⟨by decide, by decide⟩ ?_
  refine ngs_aload_n dX11_init_4 rfl rfl ?_
  refine ng_newO dX11_init_5 nX11_7 (by decide) kd_1 (by omega) (by omega) ⟨by decide, by decide⟩ (hF.up (by omega)) ?_
  refine ng_dup dX11_init_8 rfl ?_
  refine ng_iconst (v := nI 2) dX11_init_9 (by decide) ?_
  refine ngs_iload_n dX11_init_10 rfl rfl ?_
  refine ng_iconst (v := nI 3) dX11_init_11 (by decide) ?_
  refine ng_cSI2 (lo := 1 + 1) dX11_init_12 vX11_9 (by decide) ⟨by decide, by decide⟩ (Nat.le_of_ble_eq_true rfl) (fun b k g1 g2 => by omega) (r_floorMod (Ω := (1 + 1, 1 + 1)) (by decide)) ?_
  rintro r _ ⟨hr, rfl⟩
  have hr2 := hr.trans hx
  clear hr
  subst hr2
  refine ⟨fun b _ => ⟨rfl, rfl⟩, ?_⟩
  refine ng_iadd dX11_init_15 (nI_add _ _) ?_
  refine ng_iconst (v := nI 1) dX11_init_16 (by decide) ?_
  refine ngs_iload_n dX11_init_17 rfl rfl ?_
  refine ng_iconst (v := nI 3) dX11_init_18 (by decide) ?_
  refine ng_cSI2 (lo := 1 + 1) dX11_init_19 vX11_9 (by decide) ⟨by decide, by decide⟩ (Nat.le_of_ble_eq_true rfl) (fun b k g1 g2 => by omega) (r_floorMod (Ω := (1 + 1, 1 + 1)) (by decide)) ?_
  rintro r _ ⟨hr, rfl⟩
  have hr2 := hr.trans hy
  clear hr
  subst hr2
  refine ⟨fun b _ => ⟨rfl, rfl⟩, ?_⟩
  refine ng_iadd dX11_init_22 (nI_add _ _) ?_
  refine ng_iconst (v := nI 4) dX11_init_23 (by decide) ?_
  refine ngs_iload_n dX11_init_24 rfl rfl ?_
  refine ng_bipush (v := nI 9) dX11_init_25 (by decide) ?_
  refine ng_cSI2 (lo := 1 + 1) dX11_init_27 vX11_9 (by decide) ⟨by decide, by decide⟩ (Nat.le_of_ble_eq_true rfl) (fun b k g1 g2 => by omega) (r_floorMod (Ω := (1 + 1, 1 + 1)) (by decide)) ?_
  rintro r _ ⟨hr, rfl⟩
  have hr2 := hr.trans hz
  clear hr
  subst hr2
  refine ⟨fun b _ => ⟨rfl, rfl⟩, ?_⟩
  refine ng_iadd dX11_init_30 (nI_add _ _) ?_
  refine ng_i3 dX11_init_31 ivX11_15 (by decide) (Nat.le_of_ble_eq_true rfl) (by omega) (by omega) ⟨by decide, by decide⟩ (c_board (P := P) (n := 2 + cn) (by omega) hP hP9 (hF.up (by omega))) ?_
  rintro _ ⟨τ, rfl, hB⟩
  obtain ⟨b1, b2, b3, b4, b5, b6, b7, b8⟩ := hB
  have hT : Fr 6 ν τ := fun b hb k => by
    have q := hF b (by omega) k
    exact ⟨q.1, by rw [b2 b (by omega)]; exact q.2.1, by rw [b1]; exact q.2.2⟩
  have hV0 : VM ν (0 + 1) 6 233 5 0 0 = ovV ν 1 5 := by
    have q := ovV_VM (ν := ν) (a := 0 + 1) (x := 6) (y := 233) (m := 0) (p := 0) (t := 0) (c := 5) (fun b _ _ => by omega)
    rw [VM_nil] at q
    exact q.symm
  refine GN.st (z' := (0 + 1 + 5, setL (VM ν (0 + 1) 6 233 5 0 0) 0 [], ovS τ (0 + 1) 5 (ivX τ))) (nw_eq rfl (by rw [setL_nil, hV0]) (ovS_eq rfl (fun b k g1 g2 => (if_pos (by omega)).symm) (fun _ _ _ => rfl)).symm) ?_
  refine ng_putRL dX11_init_34 pqX11_18 (kn_of (by omega) kd_0) (by decide) (Or.inl ⟨_, rfl⟩) rf_00 ?_
  refine ng_bipush (v := nI 10) dX11_init_37 (by decide) ?_
  refine ng_anew25 dX11_init_39 anX11_24 kd_6 (by omega) (by omega) ⟨by decide, by decide⟩ (FrM hT (by omega) ⟨Or.inl rfl, Or.inl rfl⟩) ?_
  refine st_ref (m := 5) hT (by omega) (by omega) (fun k => ivX_0 (by omega) (by omega)) ?_
  refine ngs_astore (ls' := [_, _, _, _, _, _]) dX11_init_42 rfl rfl ?_
  refine ng_iconst (v := nI 0) dX11_init_44 (by decide) ?_
  refine ngs_istore (ls' := [_, _, _, _, _, _]) dX11_init_45 rfl rfl ?_
  refine GN.use (c_ct hT ?_ 10 0 (by omega)) (by decide) (by decide)
  refine ngs_aload_n dX11_init_72 rfl rfl ?_
  refine ng_newO dX11_init_73 nX11_27 (by decide) kd_57 (by omega) (by omega) ⟨by decide, by decide⟩ (FrM hT (by omega) ⟨Or.inr (by omega), Or.inl rfl⟩) ?_
  refine ng_dup dX11_init_76 rfl ?_
  refine ngs_aload_n dX11_init_77 rfl rfl ?_
  refine ng_getR dX11_init_78 fX11_18 (kn_of (by omega) kd_0) (by decide) rf_00 (setL_at (by decide)) ?_
  refine ng_aload dX11_init_81 rfl ?_
  refine ng_sipush (v := nI 300) dX11_init_83 (by decide) ?_
  refine ng_i3 dX11_init_86 ivX11_29 (by decide) (Nat.le_of_ble_eq_true rfl) (by omega) (by omega) ⟨by decide, by decide⟩ (c_machine (a := 57) (cap := 300) (Or.inl ⟨rfl, rfl⟩) (FrM (a := 0) (m := 56) (x := 6) (y := 233) (p := 10) (t := 0) hT (by omega) ⟨Or.inr (by omega), Or.inl rfl⟩) (fun t ht => by unfold setL VM; simp [ht])) ?_
  rintro _ rfl
  refine st_ch (m := 56) (c := 88) (iv := ivX τ) (fun b _ _ => by omega) (fun b k g1 g2 => ?_) ?_
  · unfold ivX ivC
    rw [if_neg (by omega), if_pos (by omega)]
  refine ng_putRL dX11_init_89 pqX11_32 (kn_of (by omega) kd_0) (by decide) (Or.inl ⟨_, rfl⟩) rf_01 ?_
  refine ngs_aload_n dX11_init_92 rfl rfl ?_
  refine ng_newO dX11_init_93 nX11_27 (by decide) kd_145 (by omega) (by omega) ⟨by decide, by decide⟩ (FrM hT (by omega) ⟨Or.inr (by omega), Or.inl rfl⟩) ?_
  refine ng_dup dX11_init_96 rfl ?_
  refine ngs_aload_n dX11_init_97 rfl rfl ?_
  refine ng_getR dX11_init_98 fX11_18 (kn_of (by omega) kd_0) (by decide) rf_00 (setL_at (by decide)) ?_
  refine ng_aload dX11_init_101 rfl ?_
  refine ng_iconst (v := nI 0) dX11_init_103 (by decide) ?_
  refine ng_i3 dX11_init_104 ivX11_29 (by decide) (Nat.le_of_ble_eq_true rfl) (by omega) (by omega) ⟨by decide, by decide⟩ (c_machine (a := 145) (cap := 0) (Or.inr ⟨rfl, rfl⟩) (FrM (a := 0) (m := 144) (x := 6) (y := 233) (p := 10) (t := 0) hT (by omega) ⟨Or.inr (by omega), Or.inl rfl⟩) (fun t ht => by unfold setL VM; simp [ht])) ?_
  rintro _ rfl
  refine st_ch (m := 144) (c := 88) (iv := ivX τ) (fun b _ _ => by omega) (fun b k g1 g2 => ?_) ?_
  · unfold ivX ivC
    rw [if_neg (by omega), if_neg (by omega), if_pos (by omega)]
  refine ng_putRL dX11_init_107 pqX11_36 (kn_of (by omega) kd_0) (by decide) (Or.inl ⟨_, rfl⟩) rf_02 ?_
  refine ngs_aload_n dX11_init_110 rfl rfl ?_
  refine ng_bipush (v := nI 8) dX11_init_111 (by decide) ?_
  refine ng_anew26 dX11_init_113 anX11_39 kd_233 (by omega) (by omega) ⟨by decide, by decide⟩ (FrM hT (by omega) ⟨Or.inr (by omega), Or.inl rfl⟩) ?_
  refine st_ref (m := 232) hT (by omega) (by omega) (fun k => ivX_0 (by omega) (by omega)) ?_
  refine ng_putRL dX11_init_116 pqX11_41 (kn_of (by omega) kd_0) (by decide) (Or.inr ⟨_, rfl⟩) rf_03 ?_
  refine ng_iconst (v := nI 0) dX11_init_119 (by decide) ?_
  refine ngs_istore (ls' := [_, _, _, _, _, _]) dX11_init_120 rfl rfl ?_
  refine GN.use (c_cs hT ?_ 8 0 (by omega)) (by decide) (by decide)
  refine ⟨_, nw_eq rfl (ovV_VMf (a := 0) (c := 258) hF (fun k hk => isR_sub (by decide) ((isP_obj kd_0 (by decide)).symm.trans hk)) (by omega) (by omega) (fun k hk => isP_refs kd_6 (by decide) hk) (fun k hk => isP_refs kd_233 (by decide) hk) (by omega)) rfl, ?_⟩
  have eA : ∀ b k, 6 ≤ b → b < 258 → (ovS τ (0 + 1) 257 (ivX τ)).1 b k = ivC b k := fun b k g1 g2 => by
    show (if 0 + 1 ≤ b ∧ b < 0 + 1 + 257 then ivX τ b k else _) = _
    rw [if_pos (by omega)]
    exact if_neg (by omega)
  have eB : ∀ b, b < 6 → (ovS τ (0 + 1) 257 (ivX τ)).1 b = τ.1 b := fun b g1 => by
    funext k
    show (if 0 + 1 ≤ b ∧ b < 0 + 1 + 257 then ivX τ b k else τ.1 b k) = _
    split
    · exact if_pos g1
    · rfl
  refine ⟨b1, fun b hb => ?_, eA, ?_, ?_, ?_, fun k hk => ?_, fun u v hu hv => ?_, fun u v hu hv hw => ?_⟩
  · funext k
    show (if 0 + 1 ≤ b ∧ b < 0 + 1 + 257 then ivX τ b k else τ.1 b k) = _
    rw [if_neg (by omega), b2 b (by omega)]
  · rw [eB 1 (by decide)]; exact b3
  · rw [eB 1 (by decide)]; exact b4
  · rw [eB 1 (by decide)]; exact b5
  · rw [eB 2 (by decide), eB 3 (by decide)]; exact b6 k hk
  · rw [eB 4 (by decide)]; exact b7 u v hu hv
  · rw [eB 5 (by decide)]; exact b8 u v hu hv hw
