/-! What the calls keep, pure: the counts, and both together. -/
def Cg (j : Nat) (S : Sx) : Prop := S.1 23 0 ≤ 8000 * j ∧ S.1 36 0 ≤ 2001 * j
theorem Cg_of {j : Nat} {S S' : Sx} (h : Cg j S) (h23 : S'.1 23 0 ≤ S.1 23 0 + 8000) (h36 : S'.1 36 0 ≤ S.1 36 0 + 2001) : Cg (j + 1) S' := ⟨by have := h.1; omega, by have := h.2; omega⟩
theorem Cg_rf {j : Nat} {S : Sx} (h : Cg j S) : Cg (j + 1) S := Cg_of h (by omega) (by omega)
theorem Cg_ne {j : Nat} {S S' : Sx} (h : Cg j S) (h23 : S'.1 23 = S.1 23) (h36 : S'.1 36 = S.1 36) : Cg (j + 1) S' := Cg_of h (by rw [h23]; omega) (by rw [h36]; omega)
theorem Cg_Cn {j : Nat} {S : Sx} (h : Cg j S) (hj : j ≤ 1000) : Cn 200 S := ⟨by have := h.1; omega, by have := h.2; omega⟩
theorem Cg_rule {j : Nat} {S : Sx} (h : Cg j S) (x y z : Int32) : Cg (j + 1) (nRule S x y z) := by
  unfold nRule
  split
  · exact Cg_ne h (by unfold rl1; rw [setN_ne (by decide), setN_ne (by decide), setN_ne (by decide)]) (by unfold rl1; rw [setN_ne (by decide), setN_ne (by decide), setN_ne (by decide)])
  · exact Cg_rf h
theorem Cg_prices {j : Nat} {S : Sx} (h : Cg j S) (x y : Int32) : Cg (j + 1) (nPrices S x y) := by
  unfold nPrices
  split
  · exact Cg_ne h (by unfold pr1; rw [setN_ne (by decide), setN_ne (by decide)]) (by unfold pr1; rw [setN_ne (by decide), setN_ne (by decide)])
  · exact Cg_rf h
theorem Cg_access {j : Nat} {S : Sx} (h : Cg j S) (x y z : Int32) (wb : Bool) (v : Int32) : Cg (j + 1) (nAccess S x y z wb v) := by
  unfold nAccess
  split
  · split
    · exact Cg_rf h
    · exact Cg_ne h (by unfold ac1; rw [setN_ne (by decide), setV_1, setN_ne (by decide), setN_ne (by decide), setN_ne (by decide)]) (by unfold ac1; rw [setN_ne (by decide), setV_1, setN_ne (by decide), setN_ne (by decide), setN_ne (by decide)])
  · exact Cg_rf h
theorem Cg_page {j : Nat} {S : Sx} (h : Cg j S) (x : Int32) : Cg (j + 1) (nPage S x) := by
  unfold nPage
  split
  · split
    · exact Cg_rf h
    · exact Cg_ne h (by unfold pg1; rw [setN_ne (by decide), setN_ne (by decide), setN_ne (by decide)]) (by unfold pg1; rw [setN_ne (by decide), setN_ne (by decide), setN_ne (by decide)])
  · exact Cg_rf h
theorem Cg_place {j : Nat} {S : Sx} (h : Cg j S) (x y : Int32) : Cg (j + 1) (nPlace S x y) := by
  unfold nPlace
  split
  · split
    · split
      · exact Cg_ne h (setN_ne (by decide)) (setN_ne (by decide))
      · exact Cg_rf h
    · exact Cg_rf h
  · exact Cg_rf h
theorem Cg_thread {j : Nat} {S : Sx} (h : Cg j S) (x : Int32) : Cg (j + 1) (nThread S x) := by
  unfold nThread
  split
  · split
    · exact Cg_rf h
    · refine Cg_of h ?_ ?_
      · unfold th1; rw [setN_ne (by decide), setN_ne (by decide), setN_ne (by decide), setN_ne (by decide)]; show S.1 23 0 ≤ _; omega
      · unfold th1; rw [setN_ne (by decide), setN_at, if_pos ⟨rfl, rfl⟩]; omega
  · exact Cg_rf h
theorem Cg_settle {j : Nat} {S : Sx} (h : Cg j S) (x y : Int32) : Cg (j + 1) (nSettle S x y) := by
  unfold nSettle
  split
  · split
    · exact Cg_rf h
    · refine Cg_of h ?_ ?_
      · unfold st1; rw [setN_ne (by decide), setN_ne (by decide), setN_ne (by decide)]; show S.1 23 0 ≤ _; omega
      · unfold st1; rw [setN_at, if_pos ⟨rfl, rfl⟩]; omega
  · exact Cg_rf h
theorem Cg_swap {j : Nat} {S : Sx} (h : Cg j S) (x y : Int32) : Cg (j + 1) (nSwap S x y) := by
  unfold nSwap
  split
  · split
    · exact Cg_rf h
    · exact Cg_ne h (by unfold sp1; rw [setN_ne (by decide), setN_ne (by decide), setN_ne (by decide), setN_ne (by decide)]; rfl) (by unfold sp1; rw [setN_ne (by decide), setN_ne (by decide), setN_ne (by decide), setN_ne (by decide)]; rfl)
  · exact Cg_rf h
theorem Cg_link {j : Nat} {S : Sx} (h : Cg j S) (x y z t : Int32) : Cg (j + 1) (nLink S x y z t) := by
  unfold nLink
  split
  · split
    · exact Cg_rf h
    · exact Cg_ne h (by rw [msS_ne (by decide) (by decide), lnkS_ne (by decide) (by decide)]) (by rw [msS_ne (by decide) (by decide), lnkS_ne (by decide) (by decide)])
  · exact Cg_rf h
theorem Cg_run {j : Nat} {S : Sx} (h : Cg j S) (hPI : PI S) (hj : j ≤ 1000) (x : Int32) : Cg (j + 1) (nRun S x) := by
  unfold nRun
  split
  · next q =>
    obtain ⟨n, -, hn, rfl⟩ := rg_of q
    rw [nN_n (by omega)]
    obtain ⟨-, i2, i3, -⟩ := otN_inv (Or.inl rfl) hPI.1 (Cg_Cn h hj) n (by omega)
    exact Cg_of h (by omega) (by omega)
  · exact Cg_rf h
def PC (j : Nat) (S : Sx) : Prop := PI S ∧ Cg j S
theorem PC_rf {j : Nat} {S : Sx} (h : PC j S) : PC (j + 1) S := ⟨h.1, Cg_rf h.2⟩
theorem PC.cn {j : Nat} {S : Sx} (h : PC j S) (hj : j ≤ 1000) : Cn 200 S := Cg_Cn h.2 hj
theorem PC_rule {j : Nat} {S : Sx} (h : PC j S) (x y z : Int32) : PC (j + 1) (nRule S x y z) := ⟨PI_rule h.1 x y z, Cg_rule h.2 x y z⟩
theorem PC_prices {j : Nat} {S : Sx} (h : PC j S) (x y : Int32) : PC (j + 1) (nPrices S x y) := ⟨PI_prices h.1 x y, Cg_prices h.2 x y⟩
theorem PC_access {j : Nat} {S : Sx} (h : PC j S) (x y z : Int32) (wb : Bool) (v : Int32) : PC (j + 1) (nAccess S x y z wb v) := ⟨PI_access h.1 x y z wb v, Cg_access h.2 x y z wb v⟩
theorem PC_page {j : Nat} {S : Sx} (h : PC j S) (x : Int32) : PC (j + 1) (nPage S x) := ⟨PI_page h.1 x, Cg_page h.2 x⟩
theorem PC_place {j : Nat} {S : Sx} (h : PC j S) (x y : Int32) : PC (j + 1) (nPlace S x y) := ⟨PI_place h.1 x y, Cg_place h.2 x y⟩
theorem PC_thread {j : Nat} {S : Sx} (h : PC j S) (hj : j ≤ 1000) (x : Int32) : PC (j + 1) (nThread S x) := ⟨PI_thread h.1 (h.cn hj) x, Cg_thread h.2 x⟩
theorem PC_settle {j : Nat} {S : Sx} (h : PC j S) (hj : j ≤ 1000) (x y : Int32) : PC (j + 1) (nSettle S x y) := ⟨PI_settle h.1 (h.cn hj) x y, Cg_settle h.2 x y⟩
theorem PC_swap {j : Nat} {S : Sx} (h : PC j S) (x y : Int32) : PC (j + 1) (nSwap S x y) := ⟨PI_swap h.1 x y, Cg_swap h.2 x y⟩
theorem PC_link {j : Nat} {S : Sx} (h : PC j S) (x y z t : Int32) : PC (j + 1) (nLink S x y z t) := ⟨PI_link h.1 x y z t, Cg_link h.2 x y z t⟩
theorem PC_run {j : Nat} {S : Sx} (h : PC j S) (hj : j ≤ 1000) (x : Int32) : PC (j + 1) (nRun S x) := ⟨PI_run h.1 (h.cn hj) x, Cg_run h.2 h.1 hj x⟩
