/-! same. -/
theorem clN_x : ((List.range 40).all fun g => (List.range (szC g)).all fun i => decide ((cl 57 g i).1 ≠ 72 ∧ (cl 57 g i).1 ≠ 73)) = true := by decide +kernel
theorem clV_x : ((List.range 20).all fun g => (List.range (szV g)).all fun i => decide ((clV 57 g i).1 ≠ 72 ∧ (clV 57 g i).1 ≠ 73)) = true := by decide +kernel
def fx (σ0 τ : Mm) : Prop := (∀ a, a ≠ 72 → a ≠ 73 → τ.1 a = σ0.1 a) ∧ τ.2 = σ0.2
theorem fx.rf (σ : Mm) : fx σ σ := ⟨fun _ _ _ => rfl, rfl⟩
theorem fx.w {σ0 σ : Mm} (h : fx σ0 σ) {a j : Nat} {v : Int32} (ha : a = 72 ∨ a = 73) : fx σ0 (wI σ a j v) := by
  refine ⟨fun x h1 h2 => ?_, h.2⟩
  have e : (wI σ a j v).1 x = σ.1 x := if_neg (by omega)
  rw [e]; exact h.1 x h1 h2
theorem fx.tr {a b c : Mm} (h : fx a b) (k : fx b c) : fx a c := ⟨fun x h1 h2 => (k.1 x h1 h2).trans (h.1 x h1 h2), k.2.trans h.2⟩
theorem RepC.fx {σ τ : Mm} {S : Sx} {Tf : Nat → Nat} (h : RepC 57 σ S Tf) (hB : Bd S) (he : fx σ τ) : RepC 57 τ S Tf := by
  obtain ⟨h1, h2, h3, h4, h5⟩ := h
  have bP := B_P hB 0
  refine ⟨fun g i hi hd => ?_, fun g i hi hd => ?_, fun p k hp hk => ?_, fun a ha => ?_, fun a ha => ?_⟩
  · have q := of_decide_eq_true (List.all_eq_true.mp (List.all_eq_true.mp clN_x g (List.mem_range.mpr (szC_lt hi))) i (List.mem_range.mpr hi))
    rw [he.1 _ q.1 q.2]; exact h1 g i hi hd
  · have q := of_decide_eq_true (List.all_eq_true.mp (List.all_eq_true.mp clV_x g (List.mem_range.mpr (szV_lt hi))) i (List.mem_range.mpr hi))
    rw [he.1 _ q.1 q.2]; exact h2 g i hi hd
  · rw [he.1 _ (by omega) (by omega)]; exact h3 p k hp hk
  · rw [he.1 _ (by omega) (by omega)]; exact h4 a ha
  · rw [he.1 _ (by omega) (by omega), he.1 _ (by omega) (by omega)]; exact h5 a ha
theorem CI.fx {σ τ : Mm} {S : Sx} {H : Hx} (h : CI σ S H) (hB : Bd S) (he : fx σ τ) : CI τ S H ∧ frK σ τ := by
  obtain ⟨⟨Tf, h1, h2⟩, h3, h4⟩ := h
  exact ⟨⟨⟨Tf, h1.fx hB he, h2⟩, h3.fr (fun a h1 h2 => he.1 a (by omega) (by omega)), Tr.fr h4 (he.1 159 (by omega) (by omega)) (he.1 149 (by omega) (by omega))⟩, fun a ha => he.1 a (by omega) (by omega), he.2⟩
def plF (S : Sx) : Nat → Nat → Int32
  | 0 => fun _ => nI 0
  | i + 1 => if S.2.1 16 (10 * i + 5) = nI 1 then upd (plF S i) (4 * nN (S.2.1 16 (10 * i + 3)) + nN (S.2.1 16 (10 * i + 4))) (S.2.1 17 i) else plF S i
def smB (S : Sx) : Nat → Bool
  | 0 => true
  | k + 1 => smB S k && decide (plF S (S.1 34 0) k = S.2.1 9 k)
theorem smB_f {S : Sx} {k : Nat} (h : smB S k = false) : ∀ n, k ≤ n → smB S n = false := by
  intro n
  induction n with
  | zero => intro z; rw [show k = 0 from by omega] at h; exact h
  | succ n ih =>
    intro z
    rcases Nat.lt_or_ge k (n + 1) with q | q
    · rw [smB, ih (by omega), Bool.false_and]
    · rw [show k = n + 1 from by omega] at h; exact h
def aSame (S : Sx) : Int32 := if S.2.1 2 0 ≤ nI (S.1 34 0) then bI (smB S (4 * S.1 7 0)) else -2
theorem r_entryV {σ : Mm} {S : Sx} {Tf : Nat → Nat} (hR : RepC 57 σ S Tf) (hcap : S.1 39 0 = 300) {i : Nat} (hi : i < 300) : RI W0 mX2_entry [.ref (57 + 14), .int (nI i), .int (nI 10)] σ (fun r τ => r = S.2.1 17 i ∧ τ = σ) := by
  have hb : mch 57 := Or.inl rfl
  have q := CV_logValue hR (i := i) hi (by omega)
  rw [show 11 * i + 10 = i * 11 + 10 from by omega] at q
  refine G.met (by decide) (Nat.le_of_ble_eq_true rfl) ?_
  show G _ _ _ 0 [some (.ref (57 + 14)), some (.int (nI i)), some (.int (nI 10))] [] σ
  refine gs_aload_n dX2_entry_0 rfl rfl ?_
  refine g_getR dX2_entry_1 fX2_22 (kMa_journal hb) (by decide) (rJo_entries hb) ?_
  refine gs_iload_n dX2_entry_4 rfl rfl ?_
  refine g_bipush (v := nI 11) dX2_entry_5 (by decide) ?_
  refine g_imul dX2_entry_7 (by first | exact pk_mul _ _ | rfl) ?_
  refine gs_iload_n dX2_entry_8 rfl rfl ?_
  refine g_iadd dX2_entry_9 (by first | exact nI_add _ _ | rfl) ?_
  refine g_iald dX2_entry_10 kJo_entries (by omega) q ?_
  refine g_ireturn dX2_entry_11 rfl ?_
  exact ⟨_, rfl, rfl, rfl⟩
def Pm (S : Sx) (i : Nat) (τ : Mm) : Prop := ∀ k, k < 80 → τ.1 73 k = plF S i k
theorem cl_replay {σ0 : Mm} {S : Sx} {Tf : Nat → Nat} {K : Option Value → Mm → Prop} (hR0 : RepC 57 σ0 S Tf) (hB : Bd S) (hLg : Lg S) (hcap : S.1 39 0 = 300) (hK : ∀ τ, fx σ0 τ → Pm S (S.1 34 0) τ → K none τ) : ∀ k i σ, i + k = S.1 34 0 → fx σ0 σ → Pm S i σ → G W0 mX2_replay K 10 [some (.ref (57 + 14)), some (.int (nI i))] [] σ := by
  have hb : mch 57 := Or.inl rfl
  have b34 := B_logged hB 0
  have bP := B_P hB 0
  intro k
  induction k with
  | zero =>
    intro i σ hi hf hm
    have hR := hR0.fx hB hf
    have e : i = S.1 34 0 := by omega
    refine gs_iload_n dX2_replay_10 rfl rfl ?_
    refine gs_aload_n dX2_replay_11 rfl rfl ?_
    refine g_getI dX2_replay_12 fX2_25 (kMa_journal hb) (by decide) (C_logged hR) ?_
    refine gt_icmp_ge (tgt := 61) dX2_replay_15 (by decide) (by omega) (by omega) (by omega) ?_
    refine g_return dX2_replay_61 rfl ?_
    rw [e] at hm
    exact hK σ hf hm
  | succ k ih =>
    intro i σ hi hf hm
    have hR := hR0.fx hB hf
    obtain ⟨a, p, c, ha, hp, hc, l2, l3, l4⟩ := hLg i (by omega)
    have n3 : nN (S.2.1 16 (10 * i + 3)) = p := by rw [l3, nN_n (by omega)]
    have n4 : nN (S.2.1 16 (10 * i + 4)) = c := by rw [l4, nN_n (by omega)]
    have h3 := r_entry hR hcap (i := i) (k := 3) (by omega) (by omega)
    rw [l3] at h3
    have h4 := r_entry hR hcap (i := i) (k := 4) (by omega) (by omega)
    rw [l4] at h4
    refine gs_iload_n dX2_replay_10 rfl rfl ?_
    refine gs_aload_n dX2_replay_11 rfl rfl ?_
    refine g_getI dX2_replay_12 fX2_25 (kMa_journal hb) (by decide) (C_logged hR) ?_
    refine gf_icmp_ge (tgt := 61) dX2_replay_15 (by decide) (by omega) (by omega) (by omega) ?_
    refine gs_aload_n dX2_replay_18 rfl rfl ?_
    refine gs_iload_n dX2_replay_19 rfl rfl ?_
    refine g_iconst (v := nI 5) dX2_replay_20 (by decide) ?_
    refine g_cVI2 dX2_replay_21 vX2_61 (by decide) (kMa_journal hb) (by decide) (Nat.le_of_ble_eq_true rfl) (r_entry hR hcap (i := i) (k := 5) (by omega) (by omega)) ?_
    rintro _ _ ⟨rfl, rfl⟩
    refine g_iconst (v := nI 1) dX2_replay_24 (by decide) ?_
    refine g_icmp_ne (tgt := 55) dX2_replay_25 (by decide) (fun c25 => ?_) (fun c25 => ?_)
    · refine gs_iinc (ls' := [_, _]) dX2_replay_55 rfl (nI_add _ 1) rfl rfl ?_
      refine g_goto (tgt := 10) dX2_replay_58 (by decide) ?_
      exact ih (i + 1) _ (by omega) hf (fun k hk => by rw [plF, if_neg c25]; exact hm k hk)
    · refine gs_aload_n dX2_replay_28 rfl rfl ?_
      refine g_getR dX2_replay_29 fX2_15 (kMa_journal hb) (by decide) (rJo_memory hb) ?_
      refine gs_aload_n dX2_replay_32 rfl rfl ?_
      refine gs_iload_n dX2_replay_33 rfl rfl ?_
      refine g_iconst (v := nI 3) dX2_replay_34 (by decide) ?_
      refine g_cVI2 dX2_replay_35 vX2_61 (by decide) (kMa_journal hb) (by decide) (Nat.le_of_ble_eq_true rfl) h3 ?_
      rintro _ _ ⟨rfl, rfl⟩
      refine g_iconst (v := nI 4) dX2_replay_38 (by decide) ?_
      refine g_imul dX2_replay_39 (by first | exact pk_mul _ _ | rfl) ?_
      refine gs_aload_n dX2_replay_40 rfl rfl ?_
      refine gs_iload_n dX2_replay_41 rfl rfl ?_
      refine g_iconst (v := nI 4) dX2_replay_42 (by decide) ?_
      refine g_cVI2 dX2_replay_43 vX2_61 (by decide) (kMa_journal hb) (by decide) (Nat.le_of_ble_eq_true rfl) h4 ?_
      rintro _ _ ⟨rfl, rfl⟩
      refine g_iadd dX2_replay_46 (by first | exact nI_add _ _ | rfl) ?_
      refine gs_aload_n dX2_replay_47 rfl rfl ?_
      refine gs_iload_n dX2_replay_48 rfl rfl ?_
      refine g_bipush (v := nI 10) dX2_replay_49 (by decide) ?_
      refine g_cVI2 dX2_replay_51 vX2_61 (by decide) (kMa_journal hb) (by decide) (Nat.le_of_ble_eq_true rfl) (r_entryV hR hcap (i := i) (by omega)) ?_
      rintro _ _ ⟨rfl, rfl⟩
      refine g_iast dX2_replay_54 (kJo_memory hb) (by omega) ?_
      refine gs_iinc (ls' := [_, _]) dX2_replay_55 rfl (nI_add _ 1) rfl rfl ?_
      refine g_goto (tgt := 10) dX2_replay_58 (by decide) ?_
      refine ih (i + 1) _ (by omega) (hf.w (Or.inr rfl)) (fun k hk => ?_)
      rw [plF, if_pos c25, n3, n4]
      show (wI _ 73 (p * 4 + c) (S.2.1 17 i)).1 73 k = upd (plF S i) (4 * p + c) (S.2.1 17 i) k
      rw [wI_at]
      by_cases e : k = 4 * p + c
      · rw [if_pos ⟨rfl, by omega⟩, e, upd_e]
      · rw [if_neg (by omega), upd_n _ _ e]; exact hm k hk
theorem fx_fl {σ : Mm} {n : Nat} {v : Int32} : fx σ (flI σ 73 n v) := ⟨fun a h1 h2 => by funext j; exact if_neg (fun z => h2 z.1), rfl⟩
theorem r_replay {σ : Mm} {S : Sx} {Tf : Nat → Nat} (hR : RepC 57 σ S Tf) (hB : Bd S) (hLg : Lg S) (hcap : S.1 39 0 = 300) : RV W0 mX2_replay [.ref (57 + 14)] σ (fun τ => fx σ τ ∧ Pm S (S.1 34 0) τ) := by
  have hb : mch 57 := Or.inl rfl
  refine G.met (by decide) (Nat.le_of_ble_eq_true rfl) ?_
  show G _ _ _ 0 [some (.ref (57 + 14)), none] [] σ
  refine gs_aload_n dX2_replay_0 rfl rfl ?_
  refine g_getR dX2_replay_1 fX2_15 (kMa_journal hb) (by decide) (rJo_memory hb) ?_
  refine g_iconst (v := nI 0) dX2_replay_4 (by decide) ?_
  refine g_cSV2 dX2_replay_5 vX2_65 (by decide) (Nat.le_of_ble_eq_true rfl) (s_fill (kJo_memory hb) (by decide)) ?_
  rintro _ rfl
  refine g_iconst (v := nI 0) dX2_replay_8 (by decide) ?_
  refine gs_istore_n (ls' := [_, _]) dX2_replay_9 rfl rfl rfl ?_
  exact cl_replay hR hB hLg hcap (fun τ h1 h2 => ⟨rfl, h1, h2⟩) (S.1 34 0) 0 _ (by omega) fx_fl (fun k hk => if_pos ⟨rfl, hk⟩)
theorem cl_ea1 {σ : Mm} {S : Sx} {Tf : Nat → Nat} {K : Option Value → Mm → Prop} (hR : RepC 57 σ S Tf) (hB : Bd S) (hm : Pm S (S.1 34 0) σ) (hK : K (some (.int (bI (smB S (4 * S.1 7 0))))) σ) {p : Nat} (hp : p < S.1 7 0) (hX : smB S (4 * (p + 1)) = true → G W0 mX2_endsAlike K 51 [some (.ref (57 + 14)), some (.ref (57 + 6)), some (.int (nI (S.1 7 0))), some (.int (nI p)), none] [] σ) : ∀ k c, c + k = 4 → smB S (4 * p + c) = true → G W0 mX2_endsAlike K 14 [some (.ref (57 + 14)), some (.ref (57 + 6)), some (.int (nI (S.1 7 0))), some (.int (nI p)), some (.int (nI c))] [] σ := by
  have hb : mch 57 := Or.inl rfl
  have bP := B_P hB 0
  have h20 : p < 20 := by omega
  intro k
  induction k with
  | zero =>
    intro c hc hs
    have e : 4 * p + c = 4 * (p + 1) := by omega
    refine g_iload dX2_endsAlike_14 rfl ?_
    refine g_iconst (v := nI 4) dX2_endsAlike_16 (by decide) ?_
    refine gt_icmp_ge (tgt := 51) dX2_endsAlike_17 (by decide) (by omega) (by omega) (by omega) ?_
    refine G.drop 4 (ls' := [_, _, _, _, none]) rfl ?_
    rw [e] at hs
    exact hX hs
  | succ k ih =>
    intro c hc hs
    have hq := hm (p * 4 + c) (by omega)
    rw [show p * 4 + c = 4 * p + c from by omega] at hq
    refine g_iload dX2_endsAlike_14 rfl ?_
    refine g_iconst (v := nI 4) dX2_endsAlike_16 (by decide) ?_
    refine gf_icmp_ge (tgt := 51) dX2_endsAlike_17 (by decide) (by omega) (by omega) (by omega) ?_
    refine gs_aload_n dX2_endsAlike_20 rfl rfl ?_
    refine g_getR dX2_endsAlike_21 fX2_15 (kMa_journal hb) (by decide) (rJo_memory hb) ?_
    refine gs_iload_n dX2_endsAlike_24 rfl rfl ?_
    refine g_iconst (v := nI 4) dX2_endsAlike_25 (by decide) ?_
    refine g_imul dX2_endsAlike_26 (by first | exact pk_mul _ _ | rfl) ?_
    refine g_iload dX2_endsAlike_27 rfl ?_
    refine g_iadd dX2_endsAlike_29 (by first | exact nI_add _ _ | rfl) ?_
    refine g_iald dX2_endsAlike_30 (kJo_memory hb) (by omega) (show σ.1 73 (p * 4 + c) = plF S (S.1 34 0) (4 * p + c) from by rw [show p * 4 + c = 4 * p + c from by omega]; exact hq) ?_
    refine gs_aload_n dX2_endsAlike_31 rfl rfl ?_
    refine gs_iload_n dX2_endsAlike_32 rfl rfl ?_
    refine g_aald24 dX2_endsAlike_33 (kMa_pages hb) h20 (rPs hb h20) ?_
    refine g_getR dX2_endsAlike_34 fX2_100 (kPg hb h20) (by decide) (rPg_cells hb h20) ?_
    refine g_iload dX2_endsAlike_37 rfl ?_
    refine g_iald dX2_endsAlike_39 (kPg_cells hb h20) (by omega) (C_cellx hR h20 hp (by omega)) ?_
    refine g_icmp_eq (tgt := 45) dX2_endsAlike_40 (by decide) (fun c40 => ?_) (fun c40 => ?_)
    · refine gs_iinc (ls' := [_, _, _, _, _]) dX2_endsAlike_45 rfl (nI_add _ 1) rfl rfl ?_
      refine g_goto (tgt := 14) dX2_endsAlike_48 (by decide) ?_
      exact ih (c + 1) (by omega) (by rw [← Nat.add_assoc, smB, hs, decide_eq_true c40]; rfl)
    · refine g_iconst (v := nI 0) dX2_endsAlike_43 (by decide) ?_
      refine g_zreturn dX2_endsAlike_44 rfl (by first | exact bI_01 _ | decide) ?_
      have hf : smB S (4 * p + c + 1) = false := by rw [smB, decide_eq_false c40, Bool.and_false]
      rw [smB_f hf (4 * S.1 7 0) (by omega)] at hK
      exact hK
theorem cl_ea2 {σ : Mm} {S : Sx} {Tf : Nat → Nat} {K : Option Value → Mm → Prop} (hR : RepC 57 σ S Tf) (hB : Bd S) (hm : Pm S (S.1 34 0) σ) (hK : K (some (.int (bI (smB S (4 * S.1 7 0))))) σ) : ∀ k p, p + k = S.1 7 0 → smB S (4 * p) = true → G W0 mX2_endsAlike K 6 [some (.ref (57 + 14)), some (.ref (57 + 6)), some (.int (nI (S.1 7 0))), some (.int (nI p)), none] [] σ := by
  have hb : mch 57 := Or.inl rfl
  have bP := B_P hB 0
  intro k
  induction k with
  | zero =>
    intro p hp hs
    have e : p = S.1 7 0 := by omega
    refine gs_iload_n dX2_endsAlike_6 rfl rfl ?_
    refine gs_iload_n dX2_endsAlike_7 rfl rfl ?_
    refine gt_icmp_ge (tgt := 57) dX2_endsAlike_8 (by decide) (by omega) (by omega) (by omega) ?_
    refine g_iconst (v := nI 1) dX2_endsAlike_57 (by decide) ?_
    refine g_zreturn dX2_endsAlike_58 rfl (by first | exact bI_01 _ | decide) ?_
    rw [e] at hs
    rw [hs] at hK
    exact hK
  | succ k ih =>
    intro p hp hs
    refine gs_iload_n dX2_endsAlike_6 rfl rfl ?_
    refine gs_iload_n dX2_endsAlike_7 rfl rfl ?_
    refine gf_icmp_ge (tgt := 57) dX2_endsAlike_8 (by decide) (by omega) (by omega) (by omega) ?_
    refine g_iconst (v := nI 0) dX2_endsAlike_11 (by decide) ?_
    refine gs_istore (ls' := [_, _, _, _, _]) dX2_endsAlike_12 rfl rfl ?_
    refine cl_ea1 hR hB hm hK (p := p) (by omega) (fun hs2 => ?_) 4 0 (by omega) hs
    refine gs_iinc (ls' := [_, _, _, _, _]) dX2_endsAlike_51 rfl (nI_add _ 1) rfl rfl ?_
    refine g_goto (tgt := 6) dX2_endsAlike_54 (by decide) ?_
    exact ih (p + 1) (by omega) hs2
theorem r_endsAlike {σ : Mm} {S : Sx} {Tf : Nat → Nat} (hR : RepC 57 σ S Tf) (hB : Bd S) (hLg : Lg S) (hcap : S.1 39 0 = 300) : RI W0 mX2_endsAlike [.ref (57 + 14), .ref (57 + 6), .int (nI (S.1 7 0))] σ (fun r τ => r = bI (smB S (4 * S.1 7 0)) ∧ fx σ τ) := by
  have hb : mch 57 := Or.inl rfl
  refine G.met (by decide) (Nat.le_of_ble_eq_true rfl) ?_
  show G _ _ _ 0 [some (.ref (57 + 14)), some (.ref (57 + 6)), some (.int (nI (S.1 7 0))), none, none] [] σ
  refine gs_aload_n dX2_endsAlike_0 rfl rfl ?_
  refine g_cVV0 dX2_endsAlike_1 vX2_97 (by decide) (kMa_journal hb) (by decide) (Nat.le_of_ble_eq_true rfl) (r_replay hR hB hLg hcap) ?_
  rintro τ ⟨hf, hm⟩
  refine g_iconst (v := nI 0) dX2_endsAlike_4 (by decide) ?_
  refine gs_istore_n (ls' := [_, _, _, _, _]) dX2_endsAlike_5 rfl rfl rfl ?_
  exact cl_ea2 (hR.fx hB hf) hB hm ⟨_, rfl, rfl, hf⟩ (S.1 7 0) 0 (by omega) rfl
theorem a_same {σ : Mm} {S : Sx} {H : Hx} (hJ : CI σ S H) (hPI : PI S) : RI W0 mX11_same [.ref 0] σ (fun r τ => r = aSame S ∧ CI τ (S) H ∧ frK σ τ) := by
  have hJ0 := hJ
  obtain ⟨⟨Tf, hR, hTk⟩, hSh, hTr1, hTr2⟩ := hJ
  have hb : mch 57 := Or.inl rfl
  have hB : Bd S := hPI.1.1.1.1
  have b0 := B_nodes hB 0
  have bP := B_P hB 0
  have bT := B_T hB 0
  refine G.met (by decide) (Nat.le_of_ble_eq_true rfl) ?_
  show G _ _ _ 0 [some (.ref 0)] [] σ
  have hcap : S.1 39 0 = 300 := hPI.1.2.1.1 rfl
  refine gs_aload_n dX11_same_0 rfl rfl ?_
  refine g_getR dX11_same_1 fX11_32 kFC (by decide) rFC_machine ?_
  refine g_getI dX11_same_4 fX11_179 (kMa hb) (by decide) (CV_went hR) ?_
  refine gs_aload_n dX11_same_7 rfl rfl ?_
  refine g_getR dX11_same_8 fX11_32 kFC (by decide) rFC_machine ?_
  refine g_getR dX11_same_11 fX11_261 (kMa hb) (by decide) (rMa_journal hb) ?_
  refine g_getI dX11_same_14 fX11_265 (kMa_journal hb) (by decide) (C_logged hR) ?_
  refine g_icmp_le (tgt := 23) dX11_same_17 (by decide) (fun c17 => ?_) (fun c17 => ?_)
  · refine gs_aload_n dX11_same_23 rfl rfl ?_
    refine g_getR dX11_same_24 fX11_32 kFC (by decide) rFC_machine ?_
    refine g_getR dX11_same_27 fX11_261 (kMa hb) (by decide) (rMa_journal hb) ?_
    refine gs_aload_n dX11_same_30 rfl rfl ?_
    refine g_getR dX11_same_31 fX11_32 kFC (by decide) rFC_machine ?_
    refine g_getR dX11_same_34 fX11_141 (kMa hb) (by decide) (rMa_pages hb) ?_
    refine gs_aload_n dX11_same_37 rfl rfl ?_
    refine g_getR dX11_same_38 fX11_32 kFC (by decide) rFC_machine ?_
    refine g_getI dX11_same_41 fX11_85 (kMa hb) (by decide) (C_P hR) ?_
    refine g_cVI2 dX11_same_44 vX11_290 (by decide) (kMa_journal hb) (by decide) (Nat.le_of_ble_eq_true rfl) (r_endsAlike hR hB hPI.2.2.1 hcap) ?_
    rintro _ τ ⟨rfl, hf⟩
    refine gb_if_eq (tgt := 54) dX11_same_47 (by decide) (fun c47 => ?_) (fun c47 => ?_)
    · refine g_iconst (v := nI 0) dX11_same_54 (by decide) ?_
      refine g_ireturn dX11_same_55 rfl ?_
      exact ⟨_, rfl, by rw [aSame, if_pos c17, c47]; rfl, hJ0.fx hB hf⟩
    · refine g_iconst (v := nI 1) dX11_same_50 (by decide) ?_
      refine g_goto (tgt := 55) dX11_same_51 (by decide) ?_
      refine g_ireturn dX11_same_55 rfl ?_
      exact ⟨_, rfl, by rw [aSame, if_pos c17, c47]; rfl, hJ0.fx hB hf⟩
  · refine g_bipush (v := -2) dX11_same_20 (by decide) ?_
    refine g_ireturn dX11_same_22 rfl ?_
    exact ⟨_, rfl, by rw [aSame, if_neg c17], hJ0, frK.rf _⟩
theorem tabM_x : ((List.range 40).all fun g => decide (mSL.getD g 0 = 0) || decide (mA g < 303)) = true := by decide +kernel
theorem tabV_x : ((List.range 20).all fun g => decide (vSL.getD g 0 = 0) || decide (vA g < 303)) = true := by decide +kernel
theorem mA_x {g i : Nat} (h : i < mSL.getD g 0) : mA g < 303 := by
  have hg : g < 40 := by
    rcases Nat.lt_or_ge g 40 with q | q
    · exact q
    · rw [List.getD, List.getElem?_eq_none (by exact q)] at h; exact absurd h (by simp)
  have q := List.all_eq_true.mp tabM_x g (List.mem_range.mpr hg)
  simp only [Bool.or_eq_true, decide_eq_true_eq] at q
  omega
theorem vA_x {g i : Nat} (h : i < vSL.getD g 0) : vA g < 303 := by
  have hg : g < 20 := by
    rcases Nat.lt_or_ge g 20 with q | q
    · exact q
    · rw [List.getD, List.getElem?_eq_none (by exact q)] at h; exact absurd h (by simp)
  have q := List.all_eq_true.mp tabV_x g (List.mem_range.mpr hg)
  simp only [Bool.or_eq_true, decide_eq_true_eq] at q
  omega
/-- what lies at 303 to 305 matters to nobody -/
theorem MJ.x {σ0 σ τ : Mm} {S : Sx} {H : Hx} (h : MJ σ0 S H σ) (e1 : ∀ a, ¬ (303 ≤ a ∧ a ≤ 305) → τ.1 a = σ.1 a) (e2 : ∀ a, ¬ (303 ≤ a ∧ a ≤ 305) → τ.2 a = σ.2 a) : MJ σ0 S H τ := by
  obtain ⟨⟨⟨h1, h2, h3⟩, hc, hs, hw⟩, h5⟩ := h
  refine ⟨⟨⟨fun g i hi => ?_, fun g i hi hl => ?_, fun g i hi hl => ?_⟩, ⟨hc.1, by rw [e1 258 (by omega)]; exact hc.2⟩, ?_, fun g i hm hi => ?_⟩, fun a ha => by rw [e1 a (by omega)]; exact h5 a ha⟩
  · have q := mA_x (mS_lt hi).1
    rw [e1 _ (by omega)]; exact h1 g i hi
  · have q := vA_x (vS_lt hi).1
    rw [e1 _ (by omega)]; exact h2 g i hi hl
  · have q := vA_x (vS_lt hi).1
    rw [e2 _ (by omega)]; exact h3 g i hi hl
  · unfold ShM
    rw [e1 306 (by omega), e1 307 (by omega), e1 308 (by omega), e1 309 (by omega), e1 310 (by omega)]
    exact hs
  · have q := mA_x hi
    rw [e1 _ (by omega)]; exact hw g i hm hi
theorem MJ.p {σ0 σ : Mm} {S : Sx} {H : Hx} (h : MJ σ0 S H σ) {j : Nat} {v : Int32} : MJ σ0 S H (wI σ 305 j v) := h.x (fun a ha => if_neg (by omega)) (fun _ _ => rfl)
def Pr (S : Sx) (i : Nat) (τ : Mm) : Prop := ∀ k, k < 80 → τ.1 305 k = plF S i k
theorem l_sm0 {σ0 : Mm} {S : Sx} {H : Hx} {K : Option Value → Mm → Prop} (hX : ∀ σ, MJ σ0 S H σ → Pr S 0 σ → G W0 mX12_same K 42 [some (.ref 258), none, none] [] σ) : ∀ j k σ, k + j = 80 → MJ σ0 S H σ → (∀ x, x < k → σ.1 305 x = nI 0) → G W0 mX12_same K 23 [some (.ref 258), some (.int (nI k)), none] [] σ := by
  intro j
  induction j with
  | zero =>
    intro k σ hk hQ hz
    have e : k = 80 := by omega
    refine gs_iload_n dX12_same_23 rfl rfl ?_
    refine g_bipush (v := nI 80) dX12_same_24 (by decide) ?_
    refine gt_icmp_ge (tgt := 42) dX12_same_26 (by decide) (by omega) (by omega) (by omega) ?_
    refine G.drop 1 (ls' := [_, none, _]) rfl ?_
    rw [e] at hz
    exact hX σ hQ hz
  | succ j ih =>
    intro k σ hk hQ hz
    refine gs_iload_n dX12_same_23 rfl rfl ?_
    refine g_bipush (v := nI 80) dX12_same_24 (by decide) ?_
    refine gf_icmp_ge (tgt := 42) dX12_same_26 (by decide) (by omega) (by omega) (by omega) ?_
    refine gs_aload_n dX12_same_29 rfl rfl ?_
    refine g_getR dX12_same_30 fX12_157 kwM (by decide) rM_plain ?_
    refine gs_iload_n dX12_same_33 rfl rfl ?_
    refine g_iconst (v := nI 0) dX12_same_34 (by decide) ?_
    refine g_iast dX12_same_35 kw_plain (by omega) ?_
    refine gs_iinc (ls' := [_, _, _]) dX12_same_36 rfl (nI_add _ 1) rfl rfl ?_
    refine g_goto (tgt := 23) dX12_same_39 (by decide) ?_
    refine ih (k + 1) _ (by omega) hQ.p (fun x hx => ?_)
    rw [wI_at]
    by_cases e : x = k
    · rw [if_pos ⟨rfl, e⟩]
    · rw [if_neg (fun z => e z.2)]; exact hz x (by omega)
theorem l_sm1 {σ0 : Mm} {S : Sx} {H : Hx} {K : Option Value → Mm → Prop} (hB : Bd S) (hLg : Lg S) (hX : ∀ σ, MJ σ0 S H σ → Pr S (S.1 34 0) σ → G W0 mX12_same K 120 [some (.ref 258), none, none] [] σ) : ∀ j i σ, i + j = S.1 34 0 → MJ σ0 S H σ → Pr S i σ → G W0 mX12_same K 44 [some (.ref 258), some (.int (nI i)), none] [] σ := by
  have b34 := B_logged hB 0
  have bP := B_P hB 0
  intro j
  induction j with
  | zero =>
    intro i σ hi hQ hp9
    have hM := hQ.1.1
    have e : i = S.1 34 0 := by omega
    refine gs_iload_n dX12_same_44 rfl rfl ?_
    refine gs_aload_n dX12_same_45 rfl rfl ?_
    refine g_getI dX12_same_46 fX12_284 kwM (by decide) (M_logged hM) ?_
    refine gt_icmp_ge (tgt := 120) dX12_same_49 (by decide) (by omega) (by omega) (by omega) ?_
    refine G.drop 1 (ls' := [_, none, _]) rfl ?_
    rw [e] at hp9
    exact hX σ hQ hp9
  | succ j ih =>
    intro i σ hi hQ hp9
    have hM := hQ.1.1
    obtain ⟨a, p, c, ha, hp, hc, l2, l3, l4⟩ := hLg i (by omega)
    have n3 : nN (S.2.1 16 (10 * i + 3)) = p := by rw [l3, nN_n (by omega)]
    have n4 : nN (S.2.1 16 (10 * i + 4)) = c := by rw [l4, nN_n (by omega)]
    refine gs_iload_n dX12_same_44 rfl rfl ?_
    refine gs_aload_n dX12_same_45 rfl rfl ?_
    refine g_getI dX12_same_46 fX12_284 kwM (by decide) (M_logged hM) ?_
    refine gf_icmp_ge (tgt := 120) dX12_same_49 (by decide) (by omega) (by omega) (by omega) ?_
    refine g_iconst (v := nI 4) dX12_same_52 (by decide) ?_
    refine gs_aload_n dX12_same_53 rfl rfl ?_
    refine g_getR dX12_same_54 fX12_145 kwM (by decide) rM_log ?_
    refine g_bipush (v := nI 10) dX12_same_57 (by decide) ?_
    refine gs_iload_n dX12_same_59 rfl rfl ?_
    refine g_imul dX12_same_60 (by first | exact pk_mul _ _ | rfl) ?_
    refine g_iconst (v := nI 3) dX12_same_61 (by decide) ?_
    refine g_iadd dX12_same_62 (by first | exact nI_add _ _ | rfl) ?_
    refine g_iald dX12_same_63 kw_log (by omega) ((M0_log hM (by omega)).trans l3) ?_
    refine g_imul dX12_same_64 (by first | exact pk_mul _ _ | rfl) ?_
    refine gs_aload_n dX12_same_65 rfl rfl ?_
    refine g_getR dX12_same_66 fX12_145 kwM (by decide) rM_log ?_
    refine g_bipush (v := nI 10) dX12_same_69 (by decide) ?_
    refine gs_iload_n dX12_same_71 rfl rfl ?_
    refine g_imul dX12_same_72 (by first | exact pk_mul _ _ | rfl) ?_
    refine g_iconst (v := nI 4) dX12_same_73 (by decide) ?_
    refine g_iadd dX12_same_74 (by first | exact nI_add _ _ | rfl) ?_
    refine g_iald dX12_same_75 kw_log (by omega) ((M0_log hM (by omega)).trans l4) ?_
    refine g_iadd dX12_same_76 (by first | exact nI_add _ _ | rfl) ?_
    refine gs_istore_n (ls' := [_, _, _]) dX12_same_77 rfl rfl rfl ?_
    refine gs_aload_n dX12_same_78 rfl rfl ?_
    refine g_getR dX12_same_79 fX12_157 kwM (by decide) rM_plain ?_
    refine gs_iload_n dX12_same_82 rfl rfl ?_
    refine gs_aload_n dX12_same_83 rfl rfl ?_
    refine g_getR dX12_same_84 fX12_145 kwM (by decide) rM_log ?_
    refine g_bipush (v := nI 10) dX12_same_87 (by decide) ?_
    refine gs_iload_n dX12_same_89 rfl rfl ?_
    refine g_imul dX12_same_90 (by first | exact pk_mul _ _ | rfl) ?_
    refine g_iconst (v := nI 5) dX12_same_91 (by decide) ?_
    refine g_iadd dX12_same_92 (by first | exact nI_add _ _ | rfl) ?_
    refine g_iald dX12_same_93 kw_log (by omega) (M0_log hM (by omega)) ?_
    refine g_iconst (v := nI 1) dX12_same_94 (by decide) ?_
    refine g_icmp_ne (tgt := 107) dX12_same_95 (by decide) (fun c95 => ?_) (fun c95 => ?_)
    · refine gs_aload_n dX12_same_107 rfl rfl ?_
      refine g_getR dX12_same_108 fX12_157 kwM (by decide) rM_plain ?_
      refine gs_iload_n dX12_same_111 rfl rfl ?_
      refine g_iald dX12_same_112 kw_plain (by omega) (hp9 (4 * p + c) (by omega)) ?_
      refine g_iast dX12_same_113 kw_plain (by omega) ?_
      refine gs_iinc (ls' := [_, _, _]) dX12_same_114 rfl (nI_add _ 1) rfl rfl ?_
      refine g_goto (tgt := 44) dX12_same_117 (by decide) ?_
      refine G.drop 2 (ls' := [_, _, none]) rfl ?_
      refine ih (i + 1) _ (by omega) hQ.p (fun k hk => ?_)
      rw [plF, if_neg c95, wI_at]
      by_cases e : k = 4 * p + c
      · rw [if_pos ⟨rfl, e⟩, e]
      · rw [if_neg (fun z => e z.2)]; exact hp9 k hk
    · refine gs_aload_n dX12_same_98 rfl rfl ?_
      refine g_getR dX12_same_99 fX12_148 kwM (by decide) rM_logValue ?_
      refine gs_iload_n dX12_same_102 rfl rfl ?_
      refine g_iald dX12_same_103 kw_logValue (by omega) (M0_logValue hM (by omega)) ?_
      refine g_goto (tgt := 113) dX12_same_104 (by decide) ?_
      refine g_iast dX12_same_113 kw_plain (by omega) ?_
      refine gs_iinc (ls' := [_, _, _]) dX12_same_114 rfl (nI_add _ 1) rfl rfl ?_
      refine g_goto (tgt := 44) dX12_same_117 (by decide) ?_
      refine G.drop 2 (ls' := [_, _, none]) rfl ?_
      refine ih (i + 1) _ (by omega) hQ.p (fun k hk => ?_)
      rw [plF, if_pos c95, n3, n4, wI_at]
      by_cases e : k = 4 * p + c
      · rw [if_pos ⟨rfl, e⟩, e, upd_e]
      · rw [if_neg (fun z => e z.2), upd_n _ _ e]; exact hp9 k hk
theorem l_sm2 {σ : Mm} {S : Sx} {K : Option Value → Mm → Prop} (hM : RepM 0 σ S) (hB : Bd S) (hp9 : Pr S (S.1 34 0) σ) (hK : K (some (.int (bI (smB S (4 * S.1 7 0))))) σ) : ∀ j k, k + j = 4 * S.1 7 0 → G W0 mX12_same K 124 [some (.ref 258), some (.int (bI (smB S k))), some (.int (nI k))] [] σ := by
  have bP := B_P hB 0
  intro j
  induction j with
  | zero =>
    intro k hk
    have e : k = 4 * S.1 7 0 := by omega
    refine gs_iload_n dX12_same_124 rfl rfl ?_
    refine g_iconst (v := nI 4) dX12_same_125 (by decide) ?_
    refine gs_aload_n dX12_same_126 rfl rfl ?_
    refine g_getI dX12_same_127 fX12_197 kwM (by decide) (M_P hM) ?_
    refine g_imul dX12_same_130 (by first | exact pk_mul _ _ | rfl) ?_
    refine gt_icmp_ge (tgt := 165) dX12_same_131 (by decide) (by omega) (by omega) (by omega) ?_
    refine gs_iload_n dX12_same_165 rfl rfl ?_
    refine gb_if_eq (tgt := 173) dX12_same_166 (by decide) (fun c166 => ?_) (fun c166 => ?_)
    · refine g_iconst (v := nI 0) dX12_same_173 (by decide) ?_
      refine g_ireturn dX12_same_174 rfl ?_
      rw [← e, c166] at hK
      exact hK
    · refine g_iconst (v := nI 1) dX12_same_169 (by decide) ?_
      refine g_goto (tgt := 174) dX12_same_170 (by decide) ?_
      refine g_ireturn dX12_same_174 rfl ?_
      rw [← e, c166] at hK
      exact hK
  | succ j ih =>
    intro k hk
    refine gs_iload_n dX12_same_124 rfl rfl ?_
    refine g_iconst (v := nI 4) dX12_same_125 (by decide) ?_
    refine gs_aload_n dX12_same_126 rfl rfl ?_
    refine g_getI dX12_same_127 fX12_197 kwM (by decide) (M_P hM) ?_
    refine g_imul dX12_same_130 (by first | exact pk_mul _ _ | rfl) ?_
    refine gf_icmp_ge (tgt := 165) dX12_same_131 (by decide) (by omega) (by omega) (by omega) ?_
    refine gs_iload_n dX12_same_134 rfl rfl ?_
    refine gb_if_eq (tgt := 157) dX12_same_135 (by decide) (fun c135 => ?_) (fun c135 => ?_)
    · refine g_iconst (v := nI 0) dX12_same_157 (by decide) ?_
      refine gs_istore_n (ls' := [_, _, _]) dX12_same_158 rfl rfl rfl ?_
      refine gs_iinc (ls' := [_, _, _]) dX12_same_159 rfl (nI_add _ 1) rfl rfl ?_
      refine g_goto (tgt := 124) dX12_same_162 (by decide) ?_
      have q := ih (k + 1) (by omega)
      rw [smB, c135, Bool.false_and] at q
      exact q
    · refine gs_aload_n dX12_same_138 rfl rfl ?_
      refine g_getR dX12_same_139 fX12_157 kwM (by decide) rM_plain ?_
      refine gs_iload_n dX12_same_142 rfl rfl ?_
      refine g_iald dX12_same_143 kw_plain (by omega) (hp9 k (by omega)) ?_
      refine gs_aload_n dX12_same_144 rfl rfl ?_
      refine g_getR dX12_same_145 fX12_100 kwM (by decide) rM_cell ?_
      refine gs_iload_n dX12_same_148 rfl rfl ?_
      refine g_iald dX12_same_149 kw_cell (by omega) (M0_cell hM (by omega)) ?_
      refine g_icmp_ne (tgt := 157) dX12_same_150 (by decide) (fun c150 => ?_) (fun c150 => ?_)
      · refine g_iconst (v := nI 0) dX12_same_157 (by decide) ?_
        refine gs_istore_n (ls' := [_, _, _]) dX12_same_158 rfl rfl rfl ?_
        refine gs_iinc (ls' := [_, _, _]) dX12_same_159 rfl (nI_add _ 1) rfl rfl ?_
        refine g_goto (tgt := 124) dX12_same_162 (by decide) ?_
        have q := ih (k + 1) (by omega)
        rw [smB, decide_eq_false c150, Bool.and_false] at q
        exact q
      · refine g_iconst (v := nI 1) dX12_same_153 (by decide) ?_
        refine g_goto (tgt := 158) dX12_same_154 (by decide) ?_
        refine gs_istore_n (ls' := [_, _, _]) dX12_same_158 rfl rfl rfl ?_
        refine gs_iinc (ls' := [_, _, _]) dX12_same_159 rfl (nI_add _ 1) rfl rfl ?_
        refine g_goto (tgt := 124) dX12_same_162 (by decide) ?_
        have q := ih (k + 1) (by omega)
        rw [smB, c135, decide_eq_true c150, Bool.and_true] at q
        exact q
theorem n_same {σ : Mm} {S : Sx} {H : Hx} (hJ : MI_ σ S H) (hPI : PI S) : RI W0 mX12_same [.ref 258] σ (fun r τ => r = aSame S ∧ MJ σ (S) H τ) := by
  have hB : Bd S := hPI.1.1.1.1
  have b0 := B_nodes hB 0
  have bP := B_P hB 0
  have bT := B_T hB 0
  refine G.met (by decide) (Nat.le_of_ble_eq_true rfl) ?_
  show G _ _ _ 0 [some (.ref 258), none, none] [] σ
  refine gs_aload_n dX12_same_0 rfl rfl ?_
  refine g_iconst (v := nI 0) dX12_same_1 (by decide) ?_
  refine gp_putI dX12_same_2 pX12_194 kwM (by decide) (Or.inl rfl) ((MJ.rf hJ).off off0 (by decide)) (fun σ hQ => ?_)
  have hM := hQ.1.1
  have hC0 := hQ.1.2.1
  refine gs_aload_n dX12_same_5 rfl rfl ?_
  refine g_getR dX12_same_6 fX12_60 kwM (by decide) rM_went ?_
  refine g_iconst (v := nI 0) dX12_same_9 (by decide) ?_
  refine g_iald dX12_same_10 kw_went (by omega) (M0_went hM) ?_
  refine gs_aload_n dX12_same_11 rfl rfl ?_
  refine g_getI dX12_same_12 fX12_284 kwM (by decide) (M_logged hM) ?_
  refine g_icmp_le (tgt := 21) dX12_same_15 (by decide) (fun c15 => ?_) (fun c15 => ?_)
  · refine g_iconst (v := nI 0) dX12_same_21 (by decide) ?_
    refine gs_istore_n (ls' := [_, _, _]) dX12_same_22 rfl rfl rfl ?_
    refine l_sm0 (fun σ hQ hp0 => ?_) 80 0 _ (by omega) hQ (fun x hx => absurd hx (by omega))
    refine g_iconst (v := nI 0) dX12_same_42 (by decide) ?_
    refine gs_istore_n (ls' := [_, _, _]) dX12_same_43 rfl rfl rfl ?_
    refine l_sm1 hB hPI.2.2.1 (fun σ hQ hp9 => ?_) (S.1 34 0) 0 _ (by omega) hQ hp0
    refine g_iconst (v := nI 1) dX12_same_120 (by decide) ?_
    refine gs_istore_n (ls' := [_, _, _]) dX12_same_121 rfl rfl rfl ?_
    refine g_iconst (v := nI 0) dX12_same_122 (by decide) ?_
    refine gs_istore_n (ls' := [_, _, _]) dX12_same_123 rfl rfl rfl ?_
    exact l_sm2 hQ.1.1 hB hp9 ⟨_, rfl, by rw [aSame, if_pos c15], hQ⟩ (4 * S.1 7 0) 0 (by omega)
  · refine g_bipush (v := -2) dX12_same_18 (by decide) ?_
    refine g_ireturn dX12_same_20 rfl ?_
    exact ⟨_, rfl, by rw [aSame, if_neg c15], hQ⟩
