/-! A machine's constructor. -/
def mcap (a cap : Nat) : Prop := (a = 57 ∧ cap = 300) ∨ (a = 145 ∧ cap = 0)
def ivMa (a cap : Nat) (b k : Nat) : Int32 :=
  if b = a then (if k = 13 then nI 1 else 0)
  else if b = a + 4 then (if k = 4 then nI 6 else if k = 3 then nI 2 else if k = 2 then nI 1 else 0)
  else if b = a + 14 then (if k = 0 then nI cap else 0)
  else if a + 18 ≤ b ∧ b < a + 78 ∧ (b - (a + 18)) % 3 = 0 then (if k = 3 then -1 else 0) else 0
theorem ivMa_0 {a cap b k : Nat} (h1 : b ≠ a) (h2 : b ≠ a + 4) (h3 : b ≠ a + 14) (h4 : ¬ (a + 18 ≤ b ∧ b < a + 78 ∧ (b - (a + 18)) % 3 = 0)) : ivMa a cap b k = 0 := by
  unfold ivMa; rw [if_neg h1, if_neg h2, if_neg h3, if_neg h4]
theorem ivMa_pg {a cap b k : Nat} (h4 : a + 18 ≤ b ∧ b < a + 78 ∧ (b - (a + 18)) % 3 = 0) : ivMa a cap b k = if k = 3 then -1 else 0 := by
  unfold ivMa; rw [if_neg (show ¬ b = a by omega), if_neg (show ¬ b = a + 4 by omega), if_neg (show ¬ b = a + 14 by omega), if_pos h4]
theorem ivMa_4 {a cap k : Nat} : ivMa a cap (a + 4) k = (if k = 4 then nI 6 else if k = 3 then nI 2 else if k = 2 then nI 1 else 0) := by
  unfold ivMa; rw [if_neg (show ¬ a + 4 = a by omega), if_pos rfl]
theorem ivMa_14 {a cap k : Nat} : ivMa a cap (a + 14) k = (if k = 0 then nI cap else 0) := by
  unfold ivMa; rw [if_neg (show ¬ a + 14 = a by omega), if_neg (show ¬ a + 14 = a + 4 by omega), if_pos rfl]
theorem ivMa_a {a cap k : Nat} : ivMa a cap a k = (if k = 13 then nI 1 else 0) := by
  unfold ivMa; rw [if_pos rfl]
theorem ivO_0 {a b k : Nat} : ivO a (fun _ => 0) b k = 0 := by unfold ivO; split <;> rfl
theorem ivO_self {a k : Nat} {f : Nat → Int32} : ivO a f a k = f k := if_pos rfl
theorem ivO_ne {a b k : Nat} {f : Nat → Int32} (h : b ≠ a) : ivO a f b k = 0 := if_neg h
section
variable {M : MI} {J : JN} {pc : Nat} {ls : List (Option Value)} {st : List Value} {ν : Nat → Nat → Bool} {σ : Mm} {a x y m p t c q : Nat} {L : List Nat} {iv iw : Nat → Nat → Int32}
theorem st_ch (hxy : ∀ b, a + 1 + m ≤ b → b < a + 1 + m + c → b ≠ x ∧ b ≠ y) (hiv : ∀ b k, a + 1 + m ≤ b → b < a + 1 + m + c → iw b k = iv b k) (k : GN M J pc ls st (a + 1 + (m + c), setL (VM ν (a + 1) x y (m + c) p t) a L, ovS σ (a + 1) (m + c) iv)) : GN M J pc ls st (a + 1 + m + c, ovV (setL (VM ν (a + 1) x y m p t) a L) (a + 1 + m) c, ovS (ovS σ (a + 1) m iv) (a + 1 + m) c iw) :=
  GN.st (nw_eq (by omega) (by rw [ovV_setL, ovV_VM hxy]) (by rw [ovS_cg hiv, ovS_app])) k
theorem st_row (hF : Fr q ν σ) (hq : q ≤ a + 1 + m) (hp : ∀ k, isP (a + 1 + m) k = false) (hx : a + 1 + m ≠ x ∧ a + 1 + m ≠ y) (hiv : ∀ k, iv (a + 1 + m) k = 0) (k : GN M J pc ls st (a + 1 + (m + 1), setL (VM ν (a + 1) x y (m + 1) p t) a L, ovS σ (a + 1) (m + 1) iv)) : GN M J pc ls st (a + 1 + m + 1, setL (VM ν (a + 1) x y m p t) a L, ovS σ (a + 1) m iv) :=
  GN.st (nw_eq (by omega) (by rw [VM_row hF hq hp hx]) (by rw [ovS_new (hF.up hq) hiv])) k
theorem st_ref (hF : Fr q ν σ) (hq : q ≤ a + 1 + m) (hx : a + 1 + m = x ∨ a + 1 + m = y) (hiv : ∀ k, iv (a + 1 + m) k = 0) (k : GN M J pc ls st (a + 1 + (m + 1), setL (VM ν (a + 1) x y (m + 1) p t) a L, ovS σ (a + 1) (m + 1) iv)) : GN M J pc ls st (a + 1 + m + 1, setL (VM ν (a + 1) x y m p t) a L, ovS σ (a + 1) m iv) :=
  GN.st (nw_eq (by omega) (by rw [VM_x hx]) (by rw [ovS_new (hF.up hq) hiv])) k
theorem FrM (hF : Fr q ν σ) (hq : q ≤ a + 1 + m) (hx : (p = 0 ∨ x < a + 1 + m) ∧ (t = 0 ∨ y < a + 1 + m)) : Fr (a + 1 + m) (setL (VM ν (a + 1) x y m p t) a L) (ovS σ (a + 1) m iv) := ((hF.vm (q := a + 1 + m) hq ⟨Nat.le_refl _, hx⟩).os (Nat.le_refl _) (Nat.le_refl _)).sl (by omega)
end
theorem km_0 {a cap : Nat} (h : mcap a cap) : kd (a) = (3, 19) := by
  rcases h with ⟨rfl, rfl⟩ | ⟨rfl, rfl⟩ <;> decide +kernel
theorem km_1 {a cap : Nat} (h : mcap a cap) : kd (a + 1) = (5, 2) := by
  rcases h with ⟨rfl, rfl⟩ | ⟨rfl, rfl⟩ <;> decide +kernel
theorem km_2 {a cap : Nat} (h : mcap a cap) : kd (a + 2) = (20, 40) := by
  rcases h with ⟨rfl, rfl⟩ | ⟨rfl, rfl⟩ <;> decide +kernel
theorem km_3 {a cap : Nat} (h : mcap a cap) : kd (a + 3) = (20, 4) := by
  rcases h with ⟨rfl, rfl⟩ | ⟨rfl, rfl⟩ <;> decide +kernel
theorem km_4 {a cap : Nat} (h : mcap a cap) : kd (a + 4) = (6, 5) := by
  rcases h with ⟨rfl, rfl⟩ | ⟨rfl, rfl⟩ <;> decide +kernel
theorem km_5 {a cap : Nat} (h : mcap a cap) : kd (a + 5) = (0, 10) := by
  rcases h with ⟨rfl, rfl⟩ | ⟨rfl, rfl⟩ <;> decide +kernel
theorem km_6 {a cap : Nat} (h : mcap a cap) : kd (a + 6) = (24, 20) := by
  rcases h with ⟨rfl, rfl⟩ | ⟨rfl, rfl⟩ <;> decide +kernel
theorem km_7 {a cap : Nat} (h : mcap a cap) : kd (a + 7) = (27, 10) := by
  rcases h with ⟨rfl, rfl⟩ | ⟨rfl, rfl⟩ <;> decide +kernel
theorem km_8 {a cap : Nat} (h : mcap a cap) : kd (a + 8) = (20, 4) := by
  rcases h with ⟨rfl, rfl⟩ | ⟨rfl, rfl⟩ <;> decide +kernel
theorem km_9 {a cap : Nat} (h : mcap a cap) : kd (a + 9) = (20, 4) := by
  rcases h with ⟨rfl, rfl⟩ | ⟨rfl, rfl⟩ <;> decide +kernel
theorem km_10 {a cap : Nat} (h : mcap a cap) : kd (a + 10) = (9, 4) := by
  rcases h with ⟨rfl, rfl⟩ | ⟨rfl, rfl⟩ <;> decide +kernel
theorem km_11 {a cap : Nat} (h : mcap a cap) : kd (a + 11) = (20, 16) := by
  rcases h with ⟨rfl, rfl⟩ | ⟨rfl, rfl⟩ <;> decide +kernel
theorem km_12 {a cap : Nat} (h : mcap a cap) : kd (a + 12) = (20, 16) := by
  rcases h with ⟨rfl, rfl⟩ | ⟨rfl, rfl⟩ <;> decide +kernel
theorem km_13 {a cap : Nat} (h : mcap a cap) : kd (a + 13) = (20, 16) := by
  rcases h with ⟨rfl, rfl⟩ | ⟨rfl, rfl⟩ <;> decide +kernel
theorem km_14 {a cap : Nat} (h : mcap a cap) : kd (a + 14) = (2, 5) := by
  rcases h with ⟨rfl, rfl⟩ | ⟨rfl, rfl⟩ <;> decide +kernel
theorem km_15 {a cap : Nat} (h : mcap a cap) : kd (a + 15) = (20, 4) := by
  rcases h with ⟨rfl, rfl⟩ | ⟨rfl, rfl⟩ <;> decide +kernel
theorem km_16 {a cap : Nat} (h : mcap a cap) : kd (a + 16) = (20, 80) := by
  rcases h with ⟨rfl, rfl⟩ | ⟨rfl, rfl⟩ <;> decide +kernel
theorem km_17 {a cap : Nat} (h : mcap a cap) : kd (a + 17) = (20, cap * 11) := by
  rcases h with ⟨rfl, rfl⟩ | ⟨rfl, rfl⟩ <;> decide +kernel
theorem rm_r0 {a cap : Nat} (h : mcap a cap) : rf (a) 0 = 1 := by
  rcases h with ⟨rfl, rfl⟩ | ⟨rfl, rfl⟩ <;> decide +kernel
theorem rm_r1 {a cap : Nat} (h : mcap a cap) : rf (a) 1 = a + 10 := by
  rcases h with ⟨rfl, rfl⟩ | ⟨rfl, rfl⟩ <;> decide +kernel
theorem rm_r2 {a cap : Nat} (h : mcap a cap) : rf (a) 2 = a + 1 := by
  rcases h with ⟨rfl, rfl⟩ | ⟨rfl, rfl⟩ <;> decide +kernel
theorem rm_r3 {a cap : Nat} (h : mcap a cap) : rf (a) 3 = a + 4 := by
  rcases h with ⟨rfl, rfl⟩ | ⟨rfl, rfl⟩ <;> decide +kernel
theorem rm_r4 {a cap : Nat} (h : mcap a cap) : rf (a) 4 = a + 14 := by
  rcases h with ⟨rfl, rfl⟩ | ⟨rfl, rfl⟩ <;> decide +kernel
theorem rm_r5 {a cap : Nat} (h : mcap a cap) : rf (a) 5 = a + 5 := by
  rcases h with ⟨rfl, rfl⟩ | ⟨rfl, rfl⟩ <;> decide +kernel
theorem rm_r6 {a cap : Nat} (h : mcap a cap) : rf (a) 6 = a + 6 := by
  rcases h with ⟨rfl, rfl⟩ | ⟨rfl, rfl⟩ <;> decide +kernel
theorem rm_r7 {a cap : Nat} (h : mcap a cap) : rf (a) 7 = a + 7 := by
  rcases h with ⟨rfl, rfl⟩ | ⟨rfl, rfl⟩ <;> decide +kernel
theorem rm_r8 {a cap : Nat} (h : mcap a cap) : rf (a) 8 = a + 8 := by
  rcases h with ⟨rfl, rfl⟩ | ⟨rfl, rfl⟩ <;> decide +kernel
theorem rm_r9 {a cap : Nat} (h : mcap a cap) : rf (a) 9 = a + 9 := by
  rcases h with ⟨rfl, rfl⟩ | ⟨rfl, rfl⟩ <;> decide +kernel
theorem rm_s10 {a cap : Nat} (h : mcap a cap) : rf (a + 1) 0 = a + 2 := by
  rcases h with ⟨rfl, rfl⟩ | ⟨rfl, rfl⟩ <;> decide +kernel
theorem rm_s11 {a cap : Nat} (h : mcap a cap) : rf (a + 1) 1 = a + 3 := by
  rcases h with ⟨rfl, rfl⟩ | ⟨rfl, rfl⟩ <;> decide +kernel
theorem rm_t0 {a cap : Nat} (h : mcap a cap) : rf (a + 10) 0 = 1 := by
  rcases h with ⟨rfl, rfl⟩ | ⟨rfl, rfl⟩ <;> decide +kernel
theorem rm_t1 {a cap : Nat} (h : mcap a cap) : rf (a + 10) 1 = a + 11 := by
  rcases h with ⟨rfl, rfl⟩ | ⟨rfl, rfl⟩ <;> decide +kernel
theorem rm_t2 {a cap : Nat} (h : mcap a cap) : rf (a + 10) 2 = a + 12 := by
  rcases h with ⟨rfl, rfl⟩ | ⟨rfl, rfl⟩ <;> decide +kernel
theorem rm_t3 {a cap : Nat} (h : mcap a cap) : rf (a + 10) 3 = a + 13 := by
  rcases h with ⟨rfl, rfl⟩ | ⟨rfl, rfl⟩ <;> decide +kernel
theorem rm_u3 {a cap : Nat} (h : mcap a cap) : rf (a + 14) 3 = a + 15 := by
  rcases h with ⟨rfl, rfl⟩ | ⟨rfl, rfl⟩ <;> decide +kernel
theorem rm_u4 {a cap : Nat} (h : mcap a cap) : rf (a + 14) 4 = a + 16 := by
  rcases h with ⟨rfl, rfl⟩ | ⟨rfl, rfl⟩ <;> decide +kernel
theorem rm_u1 {a cap : Nat} (h : mcap a cap) : rf (a + 14) 1 = a + 17 := by
  rcases h with ⟨rfl, rfl⟩ | ⟨rfl, rfl⟩ <;> decide +kernel
theorem kp_q0 {a cap : Nat} (h : mcap a cap) : ∀ p, p < 20 → kd (a + 1 + (17 + 3 * p)) = (4, 9) := by
  rcases h with ⟨rfl, rfl⟩ | ⟨rfl, rfl⟩ <;> decide +kernel
theorem kp_q1 {a cap : Nat} (h : mcap a cap) : ∀ p, p < 20 → kd (a + 1 + (17 + 3 * p) + 1) = (20, 4) := by
  rcases h with ⟨rfl, rfl⟩ | ⟨rfl, rfl⟩ <;> decide +kernel
theorem kp_q2 {a cap : Nat} (h : mcap a cap) : ∀ p, p < 20 → kd (a + 1 + (17 + 3 * p) + 2) = (20, 4) := by
  rcases h with ⟨rfl, rfl⟩ | ⟨rfl, rfl⟩ <;> decide +kernel
theorem kp_qr {a cap : Nat} (h : mcap a cap) : ∀ p, p < 20 → rf (a + 6) p = a + 1 + (17 + 3 * p) := by
  rcases h with ⟨rfl, rfl⟩ | ⟨rfl, rfl⟩ <;> decide +kernel
theorem kp_qr0 {a cap : Nat} (h : mcap a cap) : ∀ p, p < 20 → rf (a + 1 + (17 + 3 * p)) 0 = a + 1 + (17 + 3 * p) + 1 := by
  rcases h with ⟨rfl, rfl⟩ | ⟨rfl, rfl⟩ <;> decide +kernel
theorem kp_qr1 {a cap : Nat} (h : mcap a cap) : ∀ p, p < 20 → rf (a + 1 + (17 + 3 * p)) 1 = a + 1 + (17 + 3 * p) + 2 := by
  rcases h with ⟨rfl, rfl⟩ | ⟨rfl, rfl⟩ <;> decide +kernel
theorem kt_kt {a cap : Nat} (h : mcap a cap) : ∀ t, t < 10 → kd (a + 1 + (77 + t)) = (10, 8) := by
  rcases h with ⟨rfl, rfl⟩ | ⟨rfl, rfl⟩ <;> decide +kernel
theorem kt_rt {a cap : Nat} (h : mcap a cap) : ∀ t, t < 10 → rf (a + 7) t = a + 1 + (77 + t) := by
  rcases h with ⟨rfl, rfl⟩ | ⟨rfl, rfl⟩ <;> decide +kernel
theorem kt_rt0 {a cap : Nat} (h : mcap a cap) : ∀ t, t < 10 → rf (a + 1 + (77 + t)) 0 = 7 + 5 * t := by
  rcases h with ⟨rfl, rfl⟩ | ⟨rfl, rfl⟩ <;> decide +kernel
theorem kt_rs {a cap : Nat} (h : mcap a cap) : ∀ t, t < 10 → rf 6 t = 7 + 5 * t := by
  rcases h with ⟨rfl, rfl⟩ | ⟨rfl, rfl⟩ <;> decide +kernel
theorem kd_6 : kd 6 = (25, 10) := by decide +kernel
theorem c_mw {a cap : Nat} {ν : Nat → Nat → Bool} {σ : Mm} {K : Nw → Prop} (h : mcap a cap) (hF : Fr (a + 1) ν σ) (hsc : ∀ t, t < 10 → ν 6 t = true) (hK : K (a + 1 + 87, setL (VM ν (a + 1) (a + 6) (a + 7) 87 20 10) a [4, 1, 0, 9, 8, 7, 6, 5, 3, 2], ovS σ (a + 1) 87 (ivMa a cap))) :
    ∀ j t, t + j = 10 → GN mX3_init (((87, 660 + 11 * cap), (77 + t, 580 + 11 * cap + 8 * t)), a + 1, K) 136 [some (.ref a), some (.ref 1), some (.ref 6), some (.int (nI cap)), some (.int (nI t))] [] (a + 1 + (77 + t), setL (VM ν (a + 1) (a + 6) (a + 7) (77 + t) 20 t) a [4, 1, 0, 9, 8, 7, 6, 5, 3, 2], ovS σ (a + 1) (77 + t) (ivMa a cap)) := by
  have ha6 : 6 < a := by rcases h with h | h <;> omega
  intro j
  induction j with
  | zero =>
    intro t ht
    have e : t = 10 := by omega
    subst e
    refine ng_iload dX3_init_136 rfl ?_
    refine ng_bipush (v := nI 10) dX3_init_138 (by decide) ?_
    refine ngt_icmp_ge (tgt := 167) dX3_init_140 (by decide) (by omega) (by omega) (by omega) ?_
    refine ng_ret dX3_init_167 rfl ⟨by show 77 + 10 ≤ 87; omega, by show 580 + 11 * cap + 8 * 10 ≤ 660 + 11 * cap; omega⟩ ?_
    exact hK
  | succ j ih =>
    intro t ht
    have ht10 : t < 10 := by omega
    refine ng_iload dX3_init_136 rfl ?_
    refine ng_bipush (v := nI 10) dX3_init_138 (by decide) ?_
    refine ngf_icmp_ge (tgt := 167) dX3_init_140 (by decide) (by omega) (by omega) (by omega) ?_
    refine ngs_aload_n dX3_init_143 rfl rfl ?_
    refine ng_getR dX3_init_144 fX3_40 (kn_of (by omega) (km_0 h)) (by decide) (rm_r7 h) (setL_at (by decide)) ?_
    refine ng_iload dX3_init_147 rfl ?_
    refine ng_newO dX3_init_149 nX3_38 (by decide) (kt_kt h t ht10) (by omega) (by omega) ⟨by show 77 + t + 1 ≤ 87; omega, by show 580 + 11 * cap + 8 * t + 8 ≤ 660 + 11 * cap; omega⟩ (FrM hF (by omega) ⟨Or.inr (by omega), by omega⟩) ?_
    refine ng_dup dX3_init_152 rfl ?_
    refine ngs_aload_n dX3_init_153 rfl rfl ?_
    refine ng_iload dX3_init_154 rfl ?_
    refine ng_aald25 dX3_init_156 (kn_of (by omega) kd_6) (by omega) (kt_rs h t ht10) (by unfold setL VM; rw [hsc t ht10]; simp) ?_
    refine ng_i1 dX3_init_157 ivX3_78 (by decide) (Nat.le_of_ble_eq_true rfl) (by omega) (by omega) ⟨by show 77 + t + 1 + 0 ≤ 87; omega, by show 580 + 11 * cap + 8 * t + 8 + 0 ≤ 660 + 11 * cap; omega⟩ (c_worker (kt_kt h t ht10) (kt_rt0 h t ht10) (FrM hF (by omega) ⟨Or.inr (by omega), by omega⟩)) ?_
    rintro _ rfl
    refine st_ch (iv := ivMa a cap) (fun b _ _ => by omega) (fun b k g1 g2 => by rw [ivO_0, ivMa_0 (by omega) (by omega) (by omega) (by omega)]) ?_
    refine ng_aast27 dX3_init_160 (kn_of (by omega) (km_7 h)) (by omega) (kt_rt h t ht10) (kn_of (by omega) (kt_kt h t ht10)) ?_
    refine GN.st (z' := (a + 1 + (77 + t + 1), setL (VM ν (a + 1) (a + 6) (a + 7) (77 + t + 1) 20 (t + 1)) a [4, 1, 0, 9, 8, 7, 6, 5, 3, 2], ovS σ (a + 1) (77 + t + 1) (ivMa a cap))) (nw_eq rfl (by rw [sV_setL2, VM_sy (by omega)]) rfl) ?_
    refine ngs_iinc (ls' := [_, _, _, _, _]) dX3_init_161 rfl (nI_add _ 1) rfl rfl ?_
    refine ng_goto (tgt := 136) dX3_init_164 (by decide) ?_
    exact GN.use (ih (t + 1) (by omega)) (by show 77 + t + 1 + 0 = 77 + (t + 1); omega) (by show 580 + 11 * cap + 8 * t + 8 + 0 = 580 + 11 * cap + 8 * (t + 1); omega)
theorem c_mp {a cap : Nat} {ν : Nat → Nat → Bool} {σ : Mm} {K : Nw → Prop} (h : mcap a cap) (hF : Fr (a + 1) ν σ) (hsc : ∀ t, t < 10 → ν 6 t = true) (hK : K (a + 1 + 87, setL (VM ν (a + 1) (a + 6) (a + 7) 87 20 10) a [4, 1, 0, 9, 8, 7, 6, 5, 3, 2], ovS σ (a + 1) 87 (ivMa a cap))) :
    ∀ j p, p + j = 20 → GN mX3_init (((87, 660 + 11 * cap), (17 + 3 * p, 240 + 11 * cap + 17 * p)), a + 1, K) 106 [some (.ref a), some (.ref 1), some (.ref 6), some (.int (nI cap)), some (.int (nI p))] [] (a + 1 + (17 + 3 * p), setL (VM ν (a + 1) (a + 6) (a + 7) (17 + 3 * p) p 0) a [4, 1, 0, 9, 8, 7, 6, 5, 3, 2], ovS σ (a + 1) (17 + 3 * p) (ivMa a cap)) := by
  have ha6 : 6 < a := by rcases h with h | h <;> omega
  intro j
  induction j with
  | zero =>
    intro p hp
    have e : p = 20 := by omega
    subst e
    refine ng_iload dX3_init_106 rfl ?_
    refine ng_bipush (v := nI 20) dX3_init_108 (by decide) ?_
    refine ngt_icmp_ge (tgt := 133) dX3_init_110 (by decide) (by omega) (by omega) (by omega) ?_
    refine ng_iconst (v := nI 0) dX3_init_133 (by decide) ?_
    refine ngs_istore (ls' := [_, _, _, _, _]) dX3_init_134 rfl rfl ?_
    exact GN.use (c_mw h hF hsc hK 10 0 (by omega)) (by omega) (by omega)
  | succ j ih =>
    intro p hp
    have hp20 : p < 20 := by omega
    refine ng_iload dX3_init_106 rfl ?_
    refine ng_bipush (v := nI 20) dX3_init_108 (by decide) ?_
    refine ngf_icmp_ge (tgt := 133) dX3_init_110 (by decide) (by omega) (by omega) (by omega) ?_
    refine ngs_aload_n dX3_init_113 rfl rfl ?_
    refine ng_getR dX3_init_114 fX3_34 (kn_of (by omega) (km_0 h)) (by decide) (rm_r6 h) (setL_at (by decide)) ?_
    refine ng_iload dX3_init_117 rfl ?_
    refine ng_newO dX3_init_119 nX3_32 (by decide) (kp_q0 h p hp20) (by omega) (by omega) ⟨by show 17 + 3 * p + 1 ≤ 87; omega, by show 240 + 11 * cap + 17 * p + 9 ≤ 660 + 11 * cap; omega⟩ (FrM hF (by omega) ⟨Or.inr (by omega), Or.inl rfl⟩) ?_
    refine ng_dup dX3_init_122 rfl ?_
    refine ng_i0 dX3_init_123 ivX3_77 (by decide) (Nat.le_of_ble_eq_true rfl) (by omega) (by omega) ⟨by show 17 + 3 * p + 1 + 2 ≤ 87; omega, by show 240 + 11 * cap + 17 * p + 9 + 8 ≤ 660 + 11 * cap; omega⟩ (c_page (kp_q0 h p hp20) (kp_q1 h p hp20) (kp_q2 h p hp20) (kp_qr0 h p hp20) (kp_qr1 h p hp20) (FrM hF (by omega) ⟨Or.inr (by omega), Or.inl rfl⟩)) ?_
    rintro _ rfl
    refine st_ch (iv := ivMa a cap) (fun b _ _ => by omega) (fun b k g1 g2 => ?_) ?_
    · by_cases hb : b = a + 1 + (17 + 3 * p)
      · subst hb
        rw [ivO_self, ivMa_pg (by omega)]
      · rw [ivO_ne hb, ivMa_0 (by omega) (by omega) (by omega) (by omega)]
    refine ng_aast24 dX3_init_126 (kn_of (by omega) (km_6 h)) (by omega) (kp_qr h p hp20) (kn_of (by omega) (kp_q0 h p hp20)) ?_
    refine GN.st (z' := (a + 1 + (17 + 3 * (p + 1)), setL (VM ν (a + 1) (a + 6) (a + 7) (17 + 3 * (p + 1)) (p + 1) 0) a [4, 1, 0, 9, 8, 7, 6, 5, 3, 2], ovS σ (a + 1) (17 + 3 * (p + 1)) (ivMa a cap))) (nw_eq (by omega) (by rw [sV_setL2, VM_sx (by omega)]; rfl) rfl) ?_
    refine ngs_iinc (ls' := [_, _, _, _, _]) dX3_init_127 rfl (nI_add _ 1) rfl rfl ?_
    refine ng_goto (tgt := 106) dX3_init_130 (by decide) ?_
    exact GN.use (ih (p + 1) (by omega)) (by show 17 + 3 * p + 1 + 2 = 17 + 3 * (p + 1); omega) (by show 240 + 11 * cap + 17 * p + 9 + 8 = 240 + 11 * cap + 17 * (p + 1); omega)
theorem c_mA {a cap : Nat} {ν : Nat → Nat → Bool} {σ : Mm} {K : Nw → Prop} (h : mcap a cap) (hF2 : Fr (a + 1) ν σ) (hsc : ∀ t, t < 10 → ν 6 t = true) (hK : K (a + 1 + 87, setL (VM ν (a + 1) (a + 6) (a + 7) 87 20 10) a [4, 1, 0, 9, 8, 7, 6, 5, 3, 2], ovS σ (a + 1) 87 (ivMa a cap))) : GN mX3_init (((87, 660 + 11 * cap), (9, 99)), a + 1, K) 79 [some (.ref a), some (.ref 1), some (.ref 6), some (.int (nI cap)), none] [] (a + 1 + 9, setL (VM ν (a + 1) (a + 6) (a + 7) 9 0 0) a [0, 9, 8, 7, 6, 5, 3, 2], ovS σ (a + 1) 9 (ivMa a cap)) := by
  refine ngs_aload_n dX3_init_79 rfl rfl ?_
  refine ng_newO dX3_init_80 nX3_59 (by decide) (km_10 h) (by omega) (by omega) ⟨by first | decide | omega, by first | decide | omega⟩ (FrM hF2 (by omega) ⟨Or.inl rfl, Or.inl rfl⟩) ?_
  refine ng_dup dX3_init_83 rfl ?_
  refine ngs_aload_n dX3_init_84 rfl rfl ?_
  refine ng_i1 dX3_init_85 ivX3_61 (by decide) (Nat.le_of_ble_eq_true rfl) (by omega) (by omega) ⟨by first | decide | omega, by first | decide | omega⟩ (c_traffic (km_10 h) (km_11 h) (km_12 h) (km_13 h) (rm_t1 h) (rm_t2 h) (rm_t3 h) (rm_t0 h) (FrM hF2 (by omega) ⟨Or.inl rfl, Or.inl rfl⟩)) ?_
  rintro _ rfl
  refine st_ch (m := 9) (c := 4) (iv := ivMa a cap) (fun b _ _ => by omega) (fun b k g1 g2 => ?_) ?_
  · rw [ivO_0, ivMa_0 (by omega) (by omega) (by omega) (by omega)]
  refine ng_putRL dX3_init_88 pqX3_64 (kn_of (by omega) (km_0 h)) (by decide) (Or.inl ⟨_, rfl⟩) (rm_r1 h) ?_
  refine ngs_aload_n dX3_init_91 rfl rfl ?_
  refine ng_newO dX3_init_92 nX3_68 (by decide) (km_14 h) (by omega) (by omega) ⟨by first | decide | omega, by first | decide | omega⟩ (FrM hF2 (by omega) ⟨Or.inl rfl, Or.inl rfl⟩) ?_
  refine ng_dup dX3_init_95 rfl ?_
  refine ngs_iload_n dX3_init_96 rfl rfl ?_
  refine ng_i1 dX3_init_97 ivX3_70 (by decide) (Nat.le_of_ble_eq_true rfl) (by omega) (by omega) ⟨by first | decide | omega, by first | decide | omega⟩ (c_journal (km_14 h) (km_15 h) (km_16 h) (km_17 h) (rm_u3 h) (rm_u4 h) (rm_u1 h) (FrM hF2 (by omega) ⟨Or.inl rfl, Or.inl rfl⟩)) ?_
  rintro _ rfl
  refine st_ch (m := 13) (c := 4) (iv := ivMa a cap) (fun b _ _ => by omega) (fun b k g1 g2 => ?_) ?_
  · by_cases hb : b = a + 14
    · subst hb
      exact ivO_self.trans ivMa_14.symm
    · rw [ivO_ne (show b ≠ a + 1 + 13 by omega), ivMa_0 (by omega) (by omega) (by omega) (by omega)]
  refine ng_putRL dX3_init_100 pqX3_73 (kn_of (by omega) (km_0 h)) (by decide) (Or.inl ⟨_, rfl⟩) (rm_r4 h) ?_
  refine ng_iconst (v := nI 0) dX3_init_103 (by decide) ?_
  refine ngs_istore (ls' := [_, _, _, _, _]) dX3_init_104 rfl rfl ?_
  exact GN.use (c_mp h hF2 hsc hK 20 0 (by omega)) (by omega) (by omega)
theorem c_mB {a cap : Nat} {ν : Nat → Nat → Bool} {σ : Mm} {K : Nw → Prop} (h : mcap a cap) (hF1 : Fr (a + 1) ν σ) (hX : GN mX3_init (((87, 660 + 11 * cap), (9, 99)), a + 1, K) 69 [some (.ref a), some (.ref 1), some (.ref 6), some (.int (nI cap)), none] [] (a + 1 + 9, setL (VM ν (a + 1) (a + 6) (a + 7) 9 0 0) a [9, 8, 7, 6, 5, 3, 2], ovS σ (a + 1) 9 (ivMa a cap))) : GN mX3_init (((87, 660 + 11 * cap), (5, 61)), a + 1, K) 37 [some (.ref a), some (.ref 1), some (.ref 6), some (.int (nI cap)), none] [] (a + 1 + 5, setL (VM ν (a + 1) (a + 6) (a + 7) 5 0 0) a [5, 3, 2], ovS σ (a + 1) 5 (ivMa a cap)) := by
  refine ngs_aload_n dX3_init_37 rfl rfl ?_
  refine ng_bipush (v := nI 20) dX3_init_38 (by decide) ?_
  refine ng_anew24 dX3_init_40 anX3_32 (km_6 h) (by omega) (by omega) ⟨by first | decide | omega, by first | decide | omega⟩ (FrM hF1 (by omega) ⟨Or.inl rfl, Or.inl rfl⟩) ?_
  refine st_ref (m := 5) hF1 (by omega) (by omega) (fun k => ivMa_0 (by omega) (by omega) (by omega) (by omega)) ?_
  refine ng_putRL dX3_init_43 pqX3_34 (kn_of (by omega) (km_0 h)) (by decide) (Or.inr ⟨_, rfl⟩) (rm_r6 h) ?_
  refine ngs_aload_n dX3_init_46 rfl rfl ?_
  refine ng_bipush (v := nI 10) dX3_init_47 (by decide) ?_
  refine ng_anew27 dX3_init_49 anX3_38 (km_7 h) (by omega) (by omega) ⟨by first | decide | omega, by first | decide | omega⟩ (FrM hF1 (by omega) ⟨Or.inl rfl, Or.inl rfl⟩) ?_
  refine st_ref (m := 6) hF1 (by omega) (by omega) (fun k => ivMa_0 (by omega) (by omega) (by omega) (by omega)) ?_
  refine ng_putRL dX3_init_52 pqX3_40 (kn_of (by omega) (km_0 h)) (by decide) (Or.inr ⟨_, rfl⟩) (rm_r7 h) ?_
  refine ngs_aload_n dX3_init_55 rfl rfl ?_
  refine ng_iconst (v := nI 4) dX3_init_56 (by decide) ?_
  refine ng_new20 dX3_init_57 (km_8 h) (by omega) (by omega) ⟨by first | decide | omega, by first | decide | omega⟩ (FrM hF1 (by omega) ⟨Or.inl rfl, Or.inl rfl⟩) ?_
  refine st_row (m := 7) hF1 (by omega) (fun k => isP_row (km_8 h) (by decide)) (by omega) (fun k => ivMa_0 (by omega) (by omega) (by omega) (by omega)) ?_
  refine ng_putRL dX3_init_59 pqX3_44 (kn_of (by omega) (km_0 h)) (by decide) (Or.inr ⟨_, rfl⟩) (rm_r8 h) ?_
  refine ngs_aload_n dX3_init_62 rfl rfl ?_
  refine ng_iconst (v := nI 4) dX3_init_63 (by decide) ?_
  refine ng_new20 dX3_init_64 (km_9 h) (by omega) (by omega) ⟨by first | decide | omega, by first | decide | omega⟩ (FrM hF1 (by omega) ⟨Or.inl rfl, Or.inl rfl⟩) ?_
  refine st_row (m := 8) hF1 (by omega) (fun k => isP_row (km_9 h) (by decide)) (by omega) (fun k => ivMa_0 (by omega) (by omega) (by omega) (by omega)) ?_
  refine ng_putRL dX3_init_66 pqX3_48 (kn_of (by omega) (km_0 h)) (by decide) (Or.inr ⟨_, rfl⟩) (rm_r9 h) ?_
  exact GN.use hX (by omega) (by omega)
theorem c_machine {a cap : Nat} {ν : Nat → Nat → Bool} {σ : Mm} (h : mcap a cap) (hF : Fr a ν σ) (hsc : ∀ t, t < 10 → ν 6 t = true) : MetN mX3_init [.ref a, .ref 1, .ref 6, .int (nI cap)] (a + 1, ν, σ) (87, 660 + 11 * cap) (fun z => z = (a + 88, ovV ν a 88, ovS σ a 88 (ivMa a cap))) := by
  have hF1 : Fr (a + 1) ν σ := hF.up (by omega)
  refine GN.met (by decide) rfl (Nat.le_of_ble_eq_true rfl) ?_
  show GN _ _ 0 [some (.ref a), some (.ref 1), some (.ref 6), some (.int (nI cap)), none] [] (a + 1, ν, σ)
  refine GN.st (z' := (a + 1 + 0, setL (VM ν (a + 1) (a + 6) (a + 7) 0 0 0) a [], ovS σ (a + 1) 0 (ivMa a cap))) (nw_eq rfl (by rw [VM_nil, setL_nil]) (by rw [ovS_nil])) ?_
  refine ngs_aload_n dX3_init_0 rfl rfl ?_
  refine ng_objI dX3_init_1 oX3 ⟨by decide, by decide⟩ ?_
  refine ngs_aload_n dX3_init_4 rfl rfl ?_
  refine ng_newO dX3_init_5 nX3_9 (by decide) (km_1 h) (by omega) (by omega) ⟨by first | decide | omega, by first | decide | omega⟩ (FrM hF1 (by omega) ⟨Or.inl rfl, Or.inl rfl⟩) ?_
  refine ng_dup dX3_init_8 rfl ?_
  refine ng_i0 dX3_init_9 ivX3_11 (by decide) (Nat.le_of_ble_eq_true rfl) (by omega) (by omega) ⟨by first | decide | omega, by first | decide | omega⟩ (c_queues (km_1 h) (km_2 h) (km_3 h) (rm_s10 h) (rm_s11 h) (FrM hF1 (by omega) ⟨Or.inl rfl, Or.inl rfl⟩)) ?_
  rintro _ rfl
  refine st_ch (m := 0) (c := 3) (iv := ivMa a cap) (fun b _ _ => by omega) (fun b k g1 g2 => ?_) ?_
  · rw [ivO_0, ivMa_0 (by omega) (by omega) (by omega) (by omega)]
  refine ng_putRL dX3_init_12 pqX3_12 (kn_of (by omega) (km_0 h)) (by decide) (Or.inl ⟨_, rfl⟩) (rm_r2 h) ?_
  refine ngs_aload_n dX3_init_15 rfl rfl ?_
  refine ng_newO dX3_init_16 nX3_18 (by decide) (km_4 h) (by omega) (by omega) ⟨by first | decide | omega, by first | decide | omega⟩ (FrM hF1 (by omega) ⟨Or.inl rfl, Or.inl rfl⟩) ?_
  refine ng_dup dX3_init_19 rfl ?_
  refine ng_i0 dX3_init_20 ivX3_20 (by decide) (Nat.le_of_ble_eq_true rfl) (by omega) (by omega) ⟨by first | decide | omega, by first | decide | omega⟩ (c_rules (km_4 h) (FrM hF1 (by omega) ⟨Or.inl rfl, Or.inl rfl⟩)) ?_
  rintro _ rfl
  refine st_ch (m := 3) (c := 1) (iv := ivMa a cap) (fun b _ _ => by omega) (fun b k g1 g2 => ?_) ?_
  · have hb : b = a + 4 := by omega
    subst hb
    exact ivO_self.trans ivMa_4.symm
  refine ng_putRL dX3_init_23 pqX3_21 (kn_of (by omega) (km_0 h)) (by decide) (Or.inl ⟨_, rfl⟩) (rm_r3 h) ?_
  refine ngs_aload_n dX3_init_26 rfl rfl ?_
  refine ng_newO dX3_init_27 nX3_25 (by decide) (km_5 h) (by omega) (by omega) ⟨by first | decide | omega, by first | decide | omega⟩ (FrM hF1 (by omega) ⟨Or.inl rfl, Or.inl rfl⟩) ?_
  refine ng_dup dX3_init_30 rfl ?_
  refine ng_i0 dX3_init_31 ivX3_27 (by decide) (Nat.le_of_ble_eq_true rfl) (by omega) (by omega) ⟨by first | decide | omega, by first | decide | omega⟩ (c_attempt (km_5 h) (FrM hF1 (by omega) ⟨Or.inl rfl, Or.inl rfl⟩)) ?_
  rintro _ rfl
  refine st_ch (m := 4) (c := 1) (iv := ivMa a cap) (fun b _ _ => by omega) (fun b k g1 g2 => ?_) ?_
  · rw [ivO_0, ivMa_0 (by omega) (by omega) (by omega) (by omega)]
  refine ng_putRL dX3_init_34 pqX3_28 (kn_of (by omega) (km_0 h)) (by decide) (Or.inl ⟨_, rfl⟩) (rm_r5 h) ?_
  refine GN.use (c_mB h hF1 ?_) (by omega) (by omega)
  refine ngs_aload_n dX3_init_69 rfl rfl ?_
  refine ng_iconst (v := nI 1) dX3_init_70 (by decide) ?_
  refine ng_putI dX3_init_71 pqX3_51 (kn_of (by omega) (km_0 h)) (by decide) ?_
  refine GN.st (z' := (a + 1 + 9, setL (VM ν (a + 1) (a + 6) (a + 7) 9 0 0) a [9, 8, 7, 6, 5, 3, 2], ovS (wI σ a 13 (nI 1)) (a + 1) 9 (ivMa a cap))) (nw_eq rfl rfl (by rw [ovS_wI (by omega)])) ?_
  have hF2 : Fr (a + 1) ν (wI σ a 13 (nI 1)) := hF1.pi (by omega)
  refine ngs_aload_n dX3_init_74 rfl rfl ?_
  refine ngs_aload_n dX3_init_75 rfl rfl ?_
  refine ng_putRL dX3_init_76 pqX3_55 (kn_of (by omega) (km_0 h)) (by decide) (Or.inl ⟨_, rfl⟩) (rm_r0 h) ?_
  refine c_mA h hF2 hsc ?_
  refine nw_eq rfl (ovV_VMf (c := 88) hF (fun k hk => isR_sub (by decide) ((isP_obj (km_0 h) (by decide)).symm.trans hk)) (by omega) (by omega) (fun k hk => isP_refs (km_6 h) (by decide) hk) (fun k hk => isP_refs (km_7 h) (by decide) hk) (by omega)) (ovS_eq rfl (fun b k g1 g2 => ?_) (fun b k g1 => ?_))
  · show (if a + 1 ≤ b ∧ b < a + 1 + 87 then ivMa a cap b k else (wI σ a 13 (nI 1)).1 b k) = _
    by_cases hb : b = a
    · subst hb
      rw [if_neg (by omega), wI_self, (hF b (Nat.le_refl _) k).2.1, ivMa_a]
    · rw [if_pos (by omega)]
  · show (if a + 1 ≤ b ∧ b < a + 1 + 87 then ivMa a cap b k else (wI σ a 13 (nI 1)).1 b k) = _
    rw [if_neg (by omega), wI_ne (by omega)]
