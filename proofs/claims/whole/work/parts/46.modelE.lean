/-! The reference: constants as naturals; counters that the second world never sets back; isWay, behind, crowded, useLinks. -/
theorem qnJ6_265 : Cond.constant RJ6 265 (nI 1431655765) ∈ tbG := qJ6_265
theorem qnJ6_266 : Cond.constant RJ6 266 (nI 858993459) ∈ tbG := qJ6_266
theorem qnJ6_267 : Cond.constant RJ6 267 (nI 252645135) ∈ tbG := qJ6_267
theorem qnX2_93 : Cond.constant RX2 93 (nI 536870912) ∈ tbG := qX2_93
theorem qnX11_279 : Cond.constant RX11 279 (nI 536870912) ∈ tbG := qX11_279
theorem qnX12_203 : Cond.constant RX12 203 (nI 1000000) ∈ tbG := qX12_203
theorem RepM.junkV {w : Nat} {σ : Mm} {S : Sx} (h : RepM w σ S) (hw : w ≠ 0) {g i : Nat} {v : Int32} (hj : vJL.getD g false = true) : RepM w σ (setV S g i v) := by
  have hz : vS w g = 0 := by unfold vS; rw [if_neg (by rintro (q | q); exact hw q; rw [hj] at q; cases q)]
  refine ⟨h.1, fun g' i' hd hl => ?_, fun g' i' hd hl => ?_⟩
  · have : ¬ (g' = g ∧ i' = i) := fun q => by rw [q.1, hz] at hd; omega
    simp only [setV, this, if_false]
    exact h.2.1 g' i' hd hl
  · have : ¬ (g' = g ∧ i' = i) := fun q => by rw [q.1, hz] at hd; omega
    simp only [setV, this, if_false]
    exact h.2.2 g' i' hd hl
theorem setV_setV (S : Sx) (g i : Nat) (v v' : Int32) : setV (setV S g i v) g i v' = setV S g i v' := by
  simp only [setV]
  congr 1
  congr 1
  funext g' i'
  split <;> rfl
theorem Mq.junk {w : Nat} {σ0 τ : Mm} {S : Sx} {g i : Nat} {v v' : Int32} (h : Mq w σ0 (setV S g i v) τ) (hw : w ≠ 0) (hj : vJL.getD g false = true) : Mq w σ0 (setV S g i v') τ := by
  have q := h.1.junkV hw (i := i) (v := v') hj
  rw [setV_setV] at q
  exact ⟨q, h.2⟩
theorem toI_add (x y : Int64) : (x + y).toInt32 = x.toInt32 + y.toInt32 := by
  apply Int32.toBitVec_inj.mp
  simp
theorem QJ_faults {w : Nat} {σ0 σ : Mm} {S : Sx} (h : Mq w σ0 S σ) {d : Int32} : Mq w σ0 (setV S 4 0 (S.2.1 4 0 + d)) (wI σ 275 w (σ.1 275 w + d)) := by
  have q := QV_faults h (v := σ.1 275 w + d)
  by_cases hw : w = 0
  · have e := MV_faults h.1 hw
    rw [e] at q
    rw [e]
    exact q
  · exact q.junk hw rfl
theorem QJ_moves {w : Nat} {σ0 σ : Mm} {S : Sx} (h : Mq w σ0 S σ) {d : Int32} : Mq w σ0 (setV S 5 0 (S.2.1 5 0 + d)) (wI σ 276 w (σ.1 276 w + d)) := by
  have q := QV_moves h (v := σ.1 276 w + d)
  by_cases hw : w = 0
  · have e := MV_moves h.1 hw
    rw [e] at q
    rw [e]
    exact q
  · exact q.junk hw rfl
theorem QJ_failed {w : Nat} {σ0 σ : Mm} {S : Sx} (h : Mq w σ0 S σ) {d : Int32} : Mq w σ0 (setV S 6 0 (S.2.1 6 0 + d)) (wI σ 277 w (σ.1 277 w + d)) := by
  have q := QV_failed h (v := σ.1 277 w + d)
  by_cases hw : w = 0
  · have e := MV_failed h.1 hw
    rw [e] at q
    rw [e]
    exact q
  · exact q.junk hw rfl
theorem QJ_moved {w : Nat} {σ0 σ : Mm} {S : Sx} (h : Mq w σ0 S σ) {i : Nat} (hi : i < 20) {d : Int32} : Mq w σ0 (setV S 7 i (S.2.1 7 i + d)) (wI σ 284 (20 * w + i) (σ.1 284 (20 * w + i) + d)) := by
  have q := QV_moved h hi (v := σ.1 284 (20 * w + i) + d)
  by_cases hw : w = 0
  · have e := MV_moved h.1 hi hw
    rw [e] at q
    rw [e]
    exact q
  · exact q.junk hw rfl
theorem QJ_waits {w : Nat} {σ0 σ : Mm} {S : Sx} (h : Mq w σ0 S σ) {i : Nat} (hi : i < 10) {d : Int32} : Mq w σ0 (setV S 10 i (S.2.1 10 i + d)) (wI σ 291 (10 * w + i) (σ.1 291 (10 * w + i) + d)) := by
  have q := QV_waits h hi (v := σ.1 291 (10 * w + i) + d)
  by_cases hw : w = 0
  · have e := MV_waits h.1 hi hw
    rw [e] at q
    rw [e]
    exact q
  · exact q.junk hw rfl
theorem QJ_linkWent {w : Nat} {σ0 σ : Mm} {S : Sx} (h : Mq w σ0 S σ) {i : Nat} (hi : i < 16) {d : Int32} : Mq w σ0 (setV S 14 i (S.2.1 14 i + d)) (wI σ 299 (16 * w + i) (σ.1 299 (16 * w + i) + d)) := by
  have q := QV_linkWent h hi (v := σ.1 299 (16 * w + i) + d)
  by_cases hw : w = 0
  · have e := MV_linkWent h.1 hi hw
    rw [e] at q
    rw [e]
    exact q
  · exact q.junk hw rfl
theorem QJ_linkWaits {w : Nat} {σ0 σ : Mm} {S : Sx} (h : Mq w σ0 S σ) {i : Nat} (hi : i < 16) {d : Int32} : Mq w σ0 (setV S 15 i (S.2.1 15 i + d)) (wI σ 300 (16 * w + i) (σ.1 300 (16 * w + i) + d)) := by
  have q := QV_linkWaits h hi (v := σ.1 300 (16 * w + i) + d)
  by_cases hw : w = 0
  · have e := MV_linkWaits h.1 hi hw
    rw [e] at q
    rw [e]
    exact q
  · exact q.junk hw rfl
theorem QJ_threadWent {w : Nat} {σ0 σ : Mm} {S : Sx} (h : Mq w σ0 S σ) {i : Nat} (hi : i < 10) {d : Int32} : Mq w σ0 (setV S 18 i (S.2.1 18 i + d)) (wI σ 293 (10 * w + i) (σ.1 293 (10 * w + i) + d)) := by
  have q := QV_threadWent h hi (v := σ.1 293 (10 * w + i) + d)
  by_cases hw : w = 0
  · have e := MV_threadWent h.1 hi hw
    rw [e] at q
    rw [e]
    exact q
  · exact q.junk hw rfl
theorem QJ_threadBill {w : Nat} {σ0 σ : Mm} {S : Sx} (h : Mq w σ0 S σ) {i : Nat} (hi : i < 10) {d : Int64} : Mq w σ0 (setV S 11 i (S.2.1 11 i + d.toInt32)) (wL σ 294 (10 * w + i) (σ.2 294 (10 * w + i) + d)) := by
  have q := QV_threadBill h hi (v := σ.2 294 (10 * w + i) + d)
  by_cases hw : w = 0
  · rw [toI_add, MV_threadBill h.1 hi hw] at q
    exact q
  · exact q.junk hw rfl
theorem QJ_nodeBill {w : Nat} {σ0 σ : Mm} {S : Sx} (h : Mq w σ0 S σ) {i : Nat} (hi : i < 4) {d : Int64} : Mq w σ0 (setV S 13 i (S.2.1 13 i + d.toInt32)) (wL σ 297 (4 * w + i) (σ.2 297 (4 * w + i) + d)) := by
  have q := QV_nodeBill h hi (v := σ.2 297 (4 * w + i) + d)
  by_cases hw : w = 0
  · rw [toI_add, MV_nodeBill h.1 hi hw] at q
    exact q
  · exact q.junk hw rfl
def fz (v : Nat) : Nat := if v < 1000 then v else 1000000
theorem fzM_nI (v : Nat) : fzM v = nI (fz v) := by unfold fzM fz; split <;> rfl
theorem fz_le {v : Nat} (h : v ≤ 1000) : fz v ≤ 1000000 := by unfold fz; split <;> omega
theorem fz_lt {v : Nat} : fz v < 1000000 ↔ v < 1000 := by unfold fz; split <;> omega
def rcS (S : Sx) (a b : Nat) : Bool := decide (S.1 5 (4 * a + b) < 1000)
def hcS (S : Sx) (a b c : Nat) : Prop := c ≠ a ∧ 0 < S.1 3 (4 * a + c) ∧ S.1 3 (4 * a + c) + fz (S.1 5 (4 * c + b)) = fz (S.1 5 (4 * a + b))
def bhL (S : Sx) (a b : Nat) : Nat → Nat → Nat
  | 0, _ => b
  | k + 1, c => if c ≠ a ∧ 0 < S.1 3 (4 * a + c) ∧ S.1 3 (4 * a + c) + fz (S.1 5 (4 * c + b)) = fz (S.1 5 (4 * a + b)) then c else bhL S a b k (c + 1)
def bh (S : Sx) (a b : Nat) : Nat := bhL S a b (S.1 0 0) 0
theorem bhL_lt {S : Sx} {a b n : Nat} (hb : b < n) : ∀ k c, c + k ≤ n → bhL S a b k c < n := by
  intro k
  induction k with
  | zero => intro c h; exact hb
  | succ k ih =>
    intro c h
    simp only [bhL]
    split
    · omega
    · exact ih _ (by omega)
theorem bh_lt {S : Sx} {a b : Nat} (hb : b < S.1 0 0) : bh S a b < S.1 0 0 := bhL_lt hb _ _ (by omega)
def ed (h c : Nat) : Nat := if h < c then 4 * h + c else 4 * c + h
theorem ed_lt {h c : Nat} (h1 : h < 4) (h2 : c < 4) : ed h c < 16 := by unfold ed; split <;> omega
theorem s_isWay {w : Nat} {σ : Mm} {S : Sx} (hM : RepM w σ S) (hB : Bd S) (hC0 : hC w σ) {a b : Nat} (ha : a < 4) (hb : b < 4) : RI W0 mX12_isWay [.ref 258, .int (nI a), .int (nI b)] σ (fun r τ => r = bI (rcS S a b) ∧ τ = σ) := by
  have b1 := fz_le (B_far hB (4 * a + b))
  have b2 := @fz_lt (S.1 5 (4 * a + b))
  refine G.met (by decide) (Nat.le_of_ble_eq_true rfl) ?_
  show G _ _ _ 0 [some (.ref 258), some (.int (nI a)), some (.int (nI b))] [] σ
  refine gs_aload_n dX12_isWay_0 rfl rfl ?_
  refine g_getR dX12_isWay_1 fX12_16 kwM (by decide) rM_far ?_
  refine g_iconst (v := nI 4) dX12_isWay_4 (by decide) ?_
  refine gs_iload_n dX12_isWay_5 rfl rfl ?_
  refine g_imul dX12_isWay_6 (by first | exact pk_mul _ _ | rfl) ?_
  refine gs_iload_n dX12_isWay_7 rfl rfl ?_
  refine g_iadd dX12_isWay_8 (by first | exact nI_add _ _ | rfl) ?_
  refine g_iald dX12_isWay_9 kw_far (by omega) ((M_far hM (by omega)).trans (fzM_nI _)) ?_
  refine g_ldc dX12_isWay_10 qnX12_203 ?_
  refine gn_icmp_ge (tgt := 19) dX12_isWay_12 (by decide) (by omega) (by omega) (fun c12 => ?_) (fun c12 => ?_)
  · refine g_iconst (v := nI 0) dX12_isWay_19 (by decide) ?_
    refine g_zreturn dX12_isWay_20 rfl (by first | exact bI_01 _ | decide) ?_
    exact ⟨_, rfl, by rw [rcS, decide_eq_false (by omega)]; rfl, rfl⟩
  · refine g_iconst (v := nI 1) dX12_isWay_15 (by decide) ?_
    refine g_goto (tgt := 20) dX12_isWay_16 (by decide) ?_
    refine g_zreturn dX12_isWay_20 rfl (by first | exact bI_01 _ | decide) ?_
    exact ⟨_, rfl, by rw [rcS, decide_eq_true (by omega)]; rfl, rfl⟩
theorem l_behind {w : Nat} {σ : Mm} {S : Sx} {K : Option Value → Mm → Prop} (hM : RepM w σ S) (hB : Bd S) (hC0 : hC w σ) {a b : Nat} (ha : a < 4) (hb : b < 4) (hK : K (some (.int (nI (bh S a b)))) σ) : ∀ k c, c + k = S.1 0 0 → bhL S a b k c = bh S a b → G W0 mX12_behind K 2 [some (.ref 258), some (.int (nI a)), some (.int (nI b)), some (.int (nI c))] [] σ := by
  intro k
  induction k with
  | zero =>
    intro c hc hk
    have b0 := B_nodes hB 0
    have b1 := B_price hB (4 * a + c)
    have b2 := fz_le (B_far hB (4 * c + b))
    have b3 := fz_le (B_far hB (4 * a + b))
    refine gs_iload_n dX12_behind_2 rfl rfl ?_
    refine gs_aload_n dX12_behind_3 rfl rfl ?_
    refine g_getI dX12_behind_4 fX12_182 kwM (by decide) (M_nodes hM) ?_
    refine gt_icmp_ge (tgt := 70) dX12_behind_7 (by decide) (by omega) (by omega) (by omega) ?_
    refine gs_iload_n dX12_behind_70 rfl rfl ?_
    refine g_ireturn dX12_behind_71 rfl ?_
    have e : bh S a b = b := hk.symm
    rw [e] at hK
    exact hK
  | succ k ih =>
    intro c hc hk
    have b0 := B_nodes hB 0
    have b1 := B_price hB (4 * a + c)
    have b2 := fz_le (B_far hB (4 * c + b))
    have b3 := fz_le (B_far hB (4 * a + b))
    refine gs_iload_n dX12_behind_2 rfl rfl ?_
    refine gs_aload_n dX12_behind_3 rfl rfl ?_
    refine g_getI dX12_behind_4 fX12_182 kwM (by decide) (M_nodes hM) ?_
    refine gf_icmp_ge (tgt := 70) dX12_behind_7 (by decide) (by omega) (by omega) (by omega) ?_
    refine gs_iload_n dX12_behind_10 rfl rfl ?_
    refine gs_iload_n dX12_behind_11 rfl rfl ?_
    refine gn_icmp_eq (tgt := 64) dX12_behind_12 (by decide) (by omega) (by omega) (fun c12 => ?_) (fun c12 => ?_)
    · refine gs_iinc (ls' := [_, _, _, _]) dX12_behind_64 rfl (nI_add _ 1) rfl rfl ?_
      refine g_goto (tgt := 2) dX12_behind_67 (by decide) ?_
      exact ih (c + 1) (by omega) (by rw [← hk]; exact (if_neg (fun q => q.1 c12)).symm)
    · refine gs_aload_n dX12_behind_15 rfl rfl ?_
      refine g_getR dX12_behind_16 fX12_7 kwM (by decide) rM_price ?_
      refine g_iconst (v := nI 4) dX12_behind_19 (by decide) ?_
      refine gs_iload_n dX12_behind_20 rfl rfl ?_
      refine g_imul dX12_behind_21 (by first | exact pk_mul _ _ | rfl) ?_
      refine gs_iload_n dX12_behind_22 rfl rfl ?_
      refine g_iadd dX12_behind_23 (by first | exact nI_add _ _ | rfl) ?_
      refine g_iald dX12_behind_24 kw_price (by omega) (M_price hM (by omega)) ?_
      refine gn_if_le (tgt := 64) dX12_behind_25 (by decide) (by omega) (fun c25 => ?_) (fun c25 => ?_)
      · refine gs_iinc (ls' := [_, _, _, _]) dX12_behind_64 rfl (nI_add _ 1) rfl rfl ?_
        refine g_goto (tgt := 2) dX12_behind_67 (by decide) ?_
        exact ih (c + 1) (by omega) (by rw [← hk]; exact (if_neg (fun q => absurd q.2.1 (by omega))).symm)
      · refine gs_aload_n dX12_behind_28 rfl rfl ?_
        refine g_getR dX12_behind_29 fX12_7 kwM (by decide) rM_price ?_
        refine g_iconst (v := nI 4) dX12_behind_32 (by decide) ?_
        refine gs_iload_n dX12_behind_33 rfl rfl ?_
        refine g_imul dX12_behind_34 (by first | exact pk_mul _ _ | rfl) ?_
        refine gs_iload_n dX12_behind_35 rfl rfl ?_
        refine g_iadd dX12_behind_36 (by first | exact nI_add _ _ | rfl) ?_
        refine g_iald dX12_behind_37 kw_price (by omega) (M_price hM (by omega)) ?_
        refine gs_aload_n dX12_behind_38 rfl rfl ?_
        refine g_getR dX12_behind_39 fX12_16 kwM (by decide) rM_far ?_
        refine g_iconst (v := nI 4) dX12_behind_42 (by decide) ?_
        refine gs_iload_n dX12_behind_43 rfl rfl ?_
        refine g_imul dX12_behind_44 (by first | exact pk_mul _ _ | rfl) ?_
        refine gs_iload_n dX12_behind_45 rfl rfl ?_
        refine g_iadd dX12_behind_46 (by first | exact nI_add _ _ | rfl) ?_
        refine g_iald dX12_behind_47 kw_far (by omega) ((M_far hM (by omega)).trans (fzM_nI _)) ?_
        refine g_iadd dX12_behind_48 (by first | exact nI_add _ _ | rfl) ?_
        refine gs_aload_n dX12_behind_49 rfl rfl ?_
        refine g_getR dX12_behind_50 fX12_16 kwM (by decide) rM_far ?_
        refine g_iconst (v := nI 4) dX12_behind_53 (by decide) ?_
        refine gs_iload_n dX12_behind_54 rfl rfl ?_
        refine g_imul dX12_behind_55 (by first | exact pk_mul _ _ | rfl) ?_
        refine gs_iload_n dX12_behind_56 rfl rfl ?_
        refine g_iadd dX12_behind_57 (by first | exact nI_add _ _ | rfl) ?_
        refine g_iald dX12_behind_58 kw_far (by omega) ((M_far hM (by omega)).trans (fzM_nI _)) ?_
        refine gn_icmp_ne (tgt := 64) dX12_behind_59 (by decide) (by omega) (by omega) (fun c59 => ?_) (fun c59 => ?_)
        · refine gs_iinc (ls' := [_, _, _, _]) dX12_behind_64 rfl (nI_add _ 1) rfl rfl ?_
          refine g_goto (tgt := 2) dX12_behind_67 (by decide) ?_
          exact ih (c + 1) (by omega) (by rw [← hk]; exact (if_neg (fun q => c59 q.2.2)).symm)
        · refine gs_iload_n dX12_behind_62 rfl rfl ?_
          refine g_ireturn dX12_behind_63 rfl ?_
          have e : bh S a b = c := by rw [← hk]; exact if_pos ⟨c12, c25, c59⟩
          rw [e] at hK
          exact hK
theorem s_behind {w : Nat} {σ : Mm} {S : Sx} (hM : RepM w σ S) (hB : Bd S) (hC0 : hC w σ) {a b : Nat} (ha : a < 4) (hb : b < 4) : RI W0 mX12_behind [.ref 258, .int (nI a), .int (nI b)] σ (fun r τ => r = nI (bh S a b) ∧ τ = σ) := by
  refine G.met (by decide) (Nat.le_of_ble_eq_true rfl) ?_
  show G _ _ _ 0 [some (.ref 258), some (.int (nI a)), some (.int (nI b)), none] [] σ
  refine g_iconst (v := nI 0) dX12_behind_0 (by decide) ?_
  refine gs_istore_n (ls' := [_, _, _, _]) dX12_behind_1 rfl rfl rfl ?_
  exact l_behind hM hB hC0 ha hb ⟨_, rfl, rfl, rfl⟩ (S.1 0 0) 0 (by omega) rfl
/-- b is reached from h over at most k links -/
def rhS (S : Sx) (b : Nat) : Nat → Nat → Prop
  | 0, h => h = b
  | k + 1, h => h = b ∨ rhS S b k (bh S h b)
/-- the first full link of the way -/
def crS (S : Sx) (b : Nat) : Nat → Nat → Option Nat
  | 0, _ => none
  | k + 1, h => if h = b then none else if S.1 4 (ed h (bh S h b)) ≤ S.1 33 (ed h (bh S h b)) then some (ed h (bh S h b)) else crS S b k (bh S h b)
def ulS (b : Nat) : Nat → Sx → Nat → Sx
  | 0, S, _ => S
  | k + 1, S, h => if h = b then S else ulS b k (setV (setN S 33 (ed h (bh S h b)) (S.1 33 (ed h (bh S h b)) + 1)) 14 (ed h (bh S h b)) (S.2.1 14 (ed h (bh S h b)) + nI 1)) (bh S h b)
theorem l_crowded {w : Nat} {σ : Mm} {S : Sx} {K : Option Value → Mm → Prop} (hM : RepM w σ S) (hB : Bd S) (hC0 : hC w σ) {a b : Nat} (hbn : b < S.1 0 0) {o : Option Nat} (hK0 : o = none → K (some (.int (-1))) σ) (hK1 : ∀ l, o = some l → K (some (.int (nI l))) σ) : ∀ k h, h < S.1 0 0 → rhS S b k h → crS S b k h = o → G W0 mX12_crowded K 2 [some (.ref 258), some (.int (nI a)), some (.int (nI b)), some (.int (nI h)), none, none] [] σ := by
  have b0 := B_nodes hB 0
  have hw := hC0.1
  intro k
  induction k with
  | zero =>
    intro h hh hr hk
    have hr : h = b := hr
    refine gs_iload_n dX12_crowded_2 rfl rfl ?_
    refine gs_iload_n dX12_crowded_3 rfl rfl ?_
    refine gt_icmp_eq (tgt := 72) dX12_crowded_4 (by decide) (by omega) (by omega) (by omega) ?_
    refine g_iconst (v := -1) dX12_crowded_72 (by decide) ?_
    refine g_ireturn dX12_crowded_73 rfl ?_
    exact hK0 hk.symm
  | succ k ih =>
    intro h hh hr hk
    have hr : h = b ∨ rhS S b k (bh S h b) := hr
    have b1 := bh_lt (S := S) (a := h) hbn
    have b2 := B_linkNow hB (4 * h + bh S h b)
    have b3 := B_width hB (4 * h + bh S h b)
    have b4 := B_linkNow hB (4 * bh S h b + h)
    have b5 := B_width hB (4 * bh S h b + h)
    refine gs_iload_n dX12_crowded_2 rfl rfl ?_
    refine gs_iload_n dX12_crowded_3 rfl rfl ?_
    refine gn_icmp_eq (tgt := 72) dX12_crowded_4 (by decide) (by omega) (by omega) (fun c4 => ?_) (fun c4 => ?_)
    · refine g_iconst (v := -1) dX12_crowded_72 (by decide) ?_
      refine g_ireturn dX12_crowded_73 rfl ?_
      exact hK0 (hk.symm.trans (if_pos c4))
    · refine gs_aload_n dX12_crowded_7 rfl rfl ?_
      refine gs_iload_n dX12_crowded_8 rfl rfl ?_
      refine gs_iload_n dX12_crowded_9 rfl rfl ?_
      refine g_cVI2 dX12_crowded_10 vX12_223 (by decide) kwM (by decide) (Nat.le_of_ble_eq_true rfl) (s_behind hM hB hC0 (by omega) (by omega)) ?_
      rintro _ _ ⟨rfl, rfl⟩
      refine gs_istore (ls' := [_, _, _, _, _, _]) dX12_crowded_13 rfl rfl ?_
      refine gs_iload_n dX12_crowded_15 rfl rfl ?_
      refine g_iload dX12_crowded_16 rfl ?_
      refine gn_icmp_ge (tgt := 30) dX12_crowded_18 (by decide) (by omega) (by omega) (fun c18 => ?_) (fun c18 => ?_)
      · refine g_iconst (v := nI 4) dX12_crowded_30 (by decide) ?_
        refine g_iload dX12_crowded_31 rfl ?_
        refine g_imul dX12_crowded_33 (by first | exact pk_mul _ _ | rfl) ?_
        refine gs_iload_n dX12_crowded_34 rfl rfl ?_
        refine g_iadd dX12_crowded_35 (by first | exact nI_add _ _ | rfl) ?_
        refine gs_istore (ls' := [_, _, _, _, _, _]) dX12_crowded_36 rfl rfl ?_
        refine gs_aload_n dX12_crowded_38 rfl rfl ?_
        refine g_getR dX12_crowded_39 fX12_136 kwM (by decide) rM_linkNow ?_
        refine g_bipush (v := nI 16) dX12_crowded_42 (by decide) ?_
        refine gs_aload_n dX12_crowded_44 rfl rfl ?_
        refine g_getI dX12_crowded_45 fX12_243 kwM (by decide) hC0.2 ?_
        refine g_imul dX12_crowded_48 (by first | exact pk_mul _ _ | rfl) ?_
        refine g_iload dX12_crowded_49 rfl ?_
        refine g_iadd dX12_crowded_51 (by first | exact nI_add _ _ | rfl) ?_
        refine g_iald dX12_crowded_52 kw_linkNow (by omega) (M_linkNow hM (by omega)) ?_
        refine gs_aload_n dX12_crowded_53 rfl rfl ?_
        refine g_getR dX12_crowded_54 fX12_13 kwM (by decide) rM_width ?_
        refine g_iload dX12_crowded_57 rfl ?_
        refine g_iald dX12_crowded_59 kw_width (by omega) (M_width hM (by omega)) ?_
        refine gn_icmp_lt (tgt := 66) dX12_crowded_60 (by decide) (by omega) (by omega) (fun c60 => ?_) (fun c60 => ?_)
        · refine g_iload dX12_crowded_66 rfl ?_
          refine gs_istore_n (ls' := [_, _, _, _, _, _]) dX12_crowded_68 rfl rfl rfl ?_
          refine g_goto (tgt := 2) dX12_crowded_69 (by decide) ?_
          have e : ed h (bh S h b) = 4 * bh S h b + h := if_neg (by omega)
          refine G.drop 4 (ls' := [_, _, _, _, none, _]) rfl ?_
          refine G.drop 5 (ls' := [_, _, _, _, none, none]) rfl ?_
          refine ih _ (bh_lt hbn) (hr.resolve_left c4) ?_
          rw [← hk, crS, if_neg c4, if_neg (by rw [e]; omega)]
        · refine g_iload dX12_crowded_63 rfl ?_
          refine g_ireturn dX12_crowded_65 rfl ?_
          have e : ed h (bh S h b) = 4 * bh S h b + h := if_neg (by omega)
          have q : crS S b (k + 1) h = some (ed h (bh S h b)) := by rw [crS, if_neg c4, if_pos (by rw [e]; exact c60)]
          rw [e] at q
          exact hK1 _ (hk.symm.trans q)
      · refine g_iconst (v := nI 4) dX12_crowded_21 (by decide) ?_
        refine gs_iload_n dX12_crowded_22 rfl rfl ?_
        refine g_imul dX12_crowded_23 (by first | exact pk_mul _ _ | rfl) ?_
        refine g_iload dX12_crowded_24 rfl ?_
        refine g_iadd dX12_crowded_26 (by first | exact nI_add _ _ | rfl) ?_
        refine g_goto (tgt := 36) dX12_crowded_27 (by decide) ?_
        refine gs_istore (ls' := [_, _, _, _, _, _]) dX12_crowded_36 rfl rfl ?_
        refine gs_aload_n dX12_crowded_38 rfl rfl ?_
        refine g_getR dX12_crowded_39 fX12_136 kwM (by decide) rM_linkNow ?_
        refine g_bipush (v := nI 16) dX12_crowded_42 (by decide) ?_
        refine gs_aload_n dX12_crowded_44 rfl rfl ?_
        refine g_getI dX12_crowded_45 fX12_243 kwM (by decide) hC0.2 ?_
        refine g_imul dX12_crowded_48 (by first | exact pk_mul _ _ | rfl) ?_
        refine g_iload dX12_crowded_49 rfl ?_
        refine g_iadd dX12_crowded_51 (by first | exact nI_add _ _ | rfl) ?_
        refine g_iald dX12_crowded_52 kw_linkNow (by omega) (M_linkNow hM (by omega)) ?_
        refine gs_aload_n dX12_crowded_53 rfl rfl ?_
        refine g_getR dX12_crowded_54 fX12_13 kwM (by decide) rM_width ?_
        refine g_iload dX12_crowded_57 rfl ?_
        refine g_iald dX12_crowded_59 kw_width (by omega) (M_width hM (by omega)) ?_
        refine gn_icmp_lt (tgt := 66) dX12_crowded_60 (by decide) (by omega) (by omega) (fun c60 => ?_) (fun c60 => ?_)
        · refine g_iload dX12_crowded_66 rfl ?_
          refine gs_istore_n (ls' := [_, _, _, _, _, _]) dX12_crowded_68 rfl rfl rfl ?_
          refine g_goto (tgt := 2) dX12_crowded_69 (by decide) ?_
          have e : ed h (bh S h b) = 4 * h + bh S h b := if_pos c18
          refine G.drop 4 (ls' := [_, _, _, _, none, _]) rfl ?_
          refine G.drop 5 (ls' := [_, _, _, _, none, none]) rfl ?_
          refine ih _ (bh_lt hbn) (hr.resolve_left c4) ?_
          rw [← hk, crS, if_neg c4, if_neg (by rw [e]; omega)]
        · refine g_iload dX12_crowded_63 rfl ?_
          refine g_ireturn dX12_crowded_65 rfl ?_
          have e : ed h (bh S h b) = 4 * h + bh S h b := if_pos c18
          have q : crS S b (k + 1) h = some (ed h (bh S h b)) := by rw [crS, if_neg c4, if_pos (by rw [e]; exact c60)]
          rw [e] at q
          exact hK1 _ (hk.symm.trans q)
/-- crowded: the first full link, -1 without one -/
def crI (o : Option Nat) : Int32 := match o with
  | none => -1
  | some l => nI l
theorem s_crowded {w : Nat} {σ : Mm} {S : Sx} (hM : RepM w σ S) (hB : Bd S) (hC0 : hC w σ) {a b : Nat} (ha : a < S.1 0 0) (hb : b < S.1 0 0) (hr : rhS S b 3 a) : RI W0 mX12_crowded [.ref 258, .int (nI a), .int (nI b)] σ (fun r τ => r = crI (crS S b 3 a) ∧ τ = σ) := by
  refine G.met (by decide) (Nat.le_of_ble_eq_true rfl) ?_
  show G _ _ _ 0 [some (.ref 258), some (.int (nI a)), some (.int (nI b)), none, none, none] [] σ
  refine gs_iload_n dX12_crowded_0 rfl rfl ?_
  refine gs_istore_n (ls' := [_, _, _, _, _, _]) dX12_crowded_1 rfl rfl rfl ?_
  exact l_crowded hM hB hC0 hb (o := crS S b 3 a) (fun h => ⟨_, rfl, by rw [h]; rfl, rfl⟩) (fun l h => ⟨_, rfl, by rw [h]; rfl, rfl⟩) 3 a ha hr rfl
