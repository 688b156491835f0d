/-! Methods that throw, or catch: what they are, their links, the row that throws. -/
def mX11_cell : MI := (yX11_cell, cX11_cell, 3, (some .int), 6, 100)
def mX11_read : MI := (yX11_read, cX11_read, 2, (some .int), 6, 100)
def mX11_element : MI := (yX11_element, cX11_element, 4, (some .long), 6, 100)
def mX8_throwFailure : MI := (yX8_throwFailure, cX8_throwFailure, 1, none, 6, 100)
def mX11_toss : MI := (yX11_toss, cX11_toss, 5, (some .int), 7, 130)
def mL_cell_ : MI := (yL_cell_, cL_cell_, 5, (some .int), 7, 130)
def mL_read : MI := (yL_read, cL_read, 4, (some .int), 7, 130)
def mL_element : MI := (yL_element, cL_element, 5, (some .int), 7, 130)
theorem fX11_213 : FL RX11 213 4 0 := ⟨RX4, TX4, 9, rfl, by decide, inX4, tbG_at 361 (by decide +kernel) (by decide +kernel)⟩
theorem fX11_232 : FL RX11 232 10 6 := ⟨RX10, TX10, 8, rfl, by decide, inX10, tbG_at 434 (by decide +kernel) (by decide +kernel)⟩
theorem fX11_333 : FL RX11 333 8 3 := ⟨RX8, TX8, 8, rfl, by decide, inX8, tbG_at 544 (by decide +kernel) (by decide +kernel)⟩
theorem fX11_364 : FL RX11 364 8 4 := ⟨RX8, TX8, 8, rfl, by decide, inX8, tbG_at 546 (by decide +kernel) (by decide +kernel)⟩
def strX : List (String × Nat × String) := [(RX8, 74, "the failure of a page"), (RX11, 208, "no such cell"), (RX11, 230, "no such thread"), (RX11, 327, "no such shelf"), (RX11, 336, "no such element")]
def dcX : List MethodName := [Bundle.initS "java/lang/RuntimeException", Bundle.initS "java/lang/Exception", Bundle.initS Bundle.tN]
def nbX (cls : String) : List Cond := Cond.castable cls cls :: dcX.map Cond.declares
/-- what a throw needs of the start -/
def TK (B : Nat) (U : State) : Prop := (∀ x ∈ dcX, va_Nw (.declares x) U) ∧ va_Nw (.castable xIA xIA) U ∧ va_Nw (.castable xIS xIS) U ∧ va_Nc xIS xIA U ∧ vx_Zq Bundle.tN "UNASSIGNED_STACK" Bundle.steD (fun q => B ≤ q) U U.heap ∧ vx_Zq Bundle.tN "SUPPRESSED_SENTINEL" Bundle.listD (fun q => B ≤ q) U U.heap ∧ ∀ q ∈ strX, ∃ sa, vk_R q.1 q.2.1 q.2.2 sa U
theorem ca_warm {a b : String} {s U : State} (hW : s.WarmedH U.vm) (h : va_Nw (.castable a b) s) : va_Nw (.castable a b) U := va_tabs rfl (rfl : (s.setVm U.vm).vm = U.vm) (by rw [Cond.castable_setVm hW.alike]; exact h)
theorem TK.moved {B : Nat} {s U : State} (hW : s.WarmedH U.vm) (hk : ∀ a : Nat, a < s.heap.size → ¬ B ≤ a → U.heap[a]? = s.heap[a]?) (h : TK B s) : TK B U := by
  obtain ⟨h1, h2, h3, h4, h5, h6, h7⟩ := h
  exact ⟨fun x hx => va_Nw.warmD hW (h1 x hx), ca_warm hW h2, ca_warm hW h3, va_Nc.moved hW.alike h4, vx_Zq.moved hW.alike (h5.kept hk), vx_Zq.moved hW.alike (h6.kept hk), fun q hq => by obtain ⟨sa, hs⟩ := h7 q hq; exact ⟨sa, vk_R.warm hW hs⟩⟩
theorem tn_0 : ∀ w ∈ (vx_atS RX11 210 xIA xN).filter (fun w => !goodWord w), w ∈ nbX xIA := by decide +kernel
theorem tn_1 : ∀ w ∈ (vx_atS RX11 338 xIS xN).filter (fun w => !goodWord w), w ∈ nbX xIS := by decide +kernel
theorem tn_2 : ∀ w ∈ (vx_atS RX8 76 xIS xN).filter (fun w => !goodWord w), w ∈ nbX xIS := by decide +kernel
theorem TK.nb {B : Nat} {s : State} {args : Array Value} (h : TK B s) {cls : String} (hc : cls = xIA ∨ cls = xIS) : ∀ w ∈ nbX cls, w.before args s = true := by
  intro w hw
  rcases List.mem_cons.mp hw with rfl | hw
  · rcases hc with rfl | rfl
    · exact va_Nw.use rfl h.2.1
    · exact va_Nw.use rfl h.2.2.1
  · obtain ⟨x, hx, rfl⟩ := List.mem_map.mp hw
    exact va_Nw.use rfl (h.1 x hx)
theorem fit_X {cls : String} (hc : cls = xIA ∨ cls = xIS) : Bundle.fit cls = true := by rcases hc with rfl | rfl <;> decide
/-- the words of a throw: at the tables -/
def thW (own : String) (ik ic : Nat) (cls : String) : Prop := (cls = xIA ∨ cls = xIS) ∧ Cond.classLink own ik cls ∈ tbG ∧ Cond.initialized cls ∈ tbG ∧ (∀ w ∈ vx_atS own ic cls xN, w ∈ lw_tbl) ∧ (∀ w ∈ Cond.classLink own ik cls :: Cond.initialized cls :: vx_atS own ic cls xN, vx_ot w = true) ∧ ∀ w ∈ (vx_atS own ic cls xN).filter (fun w => !goodWord w), w ∈ nbX cls
theorem tb_in {w : Cond} (h : w ∈ lw_tbl) (g : goodWord w = true) : w ∈ tbG := List.mem_filter.mpr ⟨h, g⟩
theorem th_0 : thW RX11 206 210 xIA := ⟨Or.inl rfl, tb_in (ti_0 _ (by simp)) rfl, tb_in (ti_0 _ (by simp)) rfl, tx_0, tg_0, tn_0⟩
theorem th_1 : thW RX11 334 338 xIS := ⟨Or.inr rfl, tb_in (ti_0 _ (by simp)) rfl, tb_in (ti_0 _ (by simp)) rfl, tx_1, tg_1, tn_1⟩
theorem th_2 : thW RX8 72 76 xIS := ⟨Or.inr rfl, tb_in (ti_0 _ (by simp)) rfl, tb_in (ti_0 _ (by simp)) rfl, tx_2, tg_2, tn_2⟩
theorem th_hat {own cls : String} {ik ic : Nat} {args : Array Value} {s : State} {B : Nat} (h : thW own ik ic cls) (hts : ∀ w ∈ tbG, w.before args s = true) (hT : TK B s) : ∀ w ∈ vx_atS own ic cls xN, w.before args s = true :=
  vx_hat (B := nbX cls) (fun w hw => hts w (tb_in (h.2.2.2.1 w (List.mem_filter.mp hw).1) (List.mem_filter.mp hw).2)) h.2.2.2.2.2 (hT.nb h.1)
/-- no traces, no table, the throw's needs -/
def EX (B : Nat) (l : Launch) (s : State) (c : Code) (_ : Array Value) : Prop := l.stackTraces = false ∧ (∀ x ∈ c.exceptionTable.toList, False) ∧ TK B s
section
variable {Ω : Nat × Nat} {M : MI} {K : Option Value → Mm → Prop} {X : String → Mm → Prop} {pc : Nat} {ls : List (Option Value)} {σ : Mm}
theorem xg_throw {cls text : String} {ik is ic9 : Nat} (hw : thW (iy M).cls ik ic9 cls) (hs : ((iy M).cls, is, text) ∈ strX) (d0 : decode (ic M) pc = .ok (.new ik, 3)) (d3 : decode (ic M) (pc + 3) = .ok (.dup, 1)) (d4 : decode (ic M) (pc + 4) = .ok (.ldc is, 2)) (d6 : decode (ic M) (pc + 6) = .ok (.invokespecial ic9, 3)) (d9 : decode (ic M) (pc + 9) = .ok (.athrow, 1)) (hr : 5 < ifr M ∧ 82 ≤ ilw M) (k : X cls σ) : GX Ω M (((1, 6), (0, 0)), EX, K, X) pc ls [] σ := by
  intro B D cA p l e s m args below meth c H locs la C hE hP hS hl
  obtain ⟨hx, hb, hml, hown, hret, hlocks, hts, hK, hNs⟩ := C
  obtain ⟨e1, e2, e3⟩ := hE
  obtain ⟨sa, hsa⟩ := e3.2.2.2.2.2.2 _ hs
  have hS2 : va_S (fun q => B ≤ q) s.heap H locs := ⟨hS.1, fun q h1 h2 => hS.2.1 q h1 (fun h3 => h2 (Nat.le_trans (Nat.le_add_right _ _) h3)), fun l hl => Nat.le_trans (Nat.le_add_right _ _) (hS.2.2 l hl)⟩
  exact vx_throwS (rest := []) hx hb e1 (names := xN) hown (fit_X hw.1) (by decide) (hts _ hw.2.1) (hts _ hw.2.2.1) hsa (th_hat hw hts e3) hw.2.2.2.2.1 e3.2.2.2.2.1 e3.2.2.2.2.2.1 hS2 (hl.1.trans hml.symm) d0 d3 d4 d6 d9 (fun x hx => (e2 x hx).elim) hr.1 hr.2 (Nat.le_refl _) (Nat.le_refl _) hlocks
    (fun t ha hz hq => ⟨σ, k, hP.kept (fun k q hk => hq _ (hP k q hk).lt), Nat.le_trans hS.1 hz, fun q h1 h2 => by rw [hq q (Nat.lt_of_lt_of_le h1 hS.1)]; exact hS.2.1 q h1 h2⟩) hS.2.2 (Nat.le_refl _) (Nat.le_refl _)
theorem xg_throwW {cls text : String} {ik is ic9 : Nat} (hw : thW (iy M).cls ik ic9 cls) (hs : ((iy M).cls, is, text) ∈ strX) (d0 : decode (ic M) pc = .ok (.new ik, 3)) (d3 : decode (ic M) (pc + 3) = .ok (.dup, 1)) (d4 : decode (ic M) (pc + 4) = .ok (.ldc_w is, 3)) (d6 : decode (ic M) (pc + 7) = .ok (.invokespecial ic9, 3)) (d9 : decode (ic M) (pc + 10) = .ok (.athrow, 1)) (hr : 5 < ifr M ∧ 82 ≤ ilw M) (k : X cls σ) : GX Ω M (((1, 6), (0, 0)), EX, K, X) pc ls [] σ := by
  intro B D cA p l e s m args below meth c H locs la C hE hP hS hl
  obtain ⟨hx, hb, hml, hown, hret, hlocks, hts, hK, hNs⟩ := C
  obtain ⟨e1, e2, e3⟩ := hE
  obtain ⟨sa, hsa⟩ := e3.2.2.2.2.2.2 _ hs
  have hS2 : va_S (fun q => B ≤ q) s.heap H locs := ⟨hS.1, fun q h1 h2 => hS.2.1 q h1 (fun h3 => h2 (Nat.le_trans (Nat.le_add_right _ _) h3)), fun l hl => Nat.le_trans (Nat.le_add_right _ _) (hS.2.2 l hl)⟩
  exact vx_throwSW (rest := []) hx hb e1 (names := xN) hown (fit_X hw.1) (by decide) (hts _ hw.2.1) (hts _ hw.2.2.1) hsa (th_hat hw hts e3) hw.2.2.2.2.1 e3.2.2.2.2.1 e3.2.2.2.2.2.1 hS2 (hl.1.trans hml.symm) d0 d3 d4 d6 d9 (fun x hx => (e2 x hx).elim) hr.1 hr.2 (Nat.le_refl _) (Nat.le_refl _) hlocks
    (fun t ha hz hq => ⟨σ, k, hP.kept (fun k q hk => hq _ (hP k q hk).lt), Nat.le_trans hS.1 hz, fun q h1 h2 => by rw [hq q (Nat.lt_of_lt_of_le h1 hS.1)]; exact hS.2.1 q h1 h2⟩) hS.2.2 (Nat.le_refl _) (Nat.le_refl _)
end
