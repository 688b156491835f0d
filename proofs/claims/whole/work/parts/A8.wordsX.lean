/-! Throws: the words. -/
def xN : List String := ["java/lang/RuntimeException", "java/lang/Exception"]
def xIA : String := "java/lang/IllegalArgumentException"
def xIS : String := "java/lang/IllegalStateException"
theorem tx_0 : ∀ w ∈ vx_atS RX11 210 xIA xN, w ∈ lw_tbl := by decide +kernel
theorem tx_1 : ∀ w ∈ vx_atS RX11 338 xIS xN, w ∈ lw_tbl := by decide +kernel
theorem tx_2 : ∀ w ∈ vx_atS RX8 76 xIS xN, w ∈ lw_tbl := by decide +kernel
theorem tg_0 : ∀ w ∈ Cond.classLink RX11 206 xIA :: Cond.initialized xIA :: vx_atS RX11 210 xIA xN, vx_ot w = true := by decide +kernel
theorem tg_1 : ∀ w ∈ Cond.classLink RX11 334 xIS :: Cond.initialized xIS :: vx_atS RX11 338 xIS xN, vx_ot w = true := by decide +kernel
theorem tg_2 : ∀ w ∈ Cond.classLink RX8 72 xIS :: Cond.initialized xIS :: vx_atS RX8 76 xIS xN, vx_ot w = true := by decide +kernel
theorem ti_0 : ∀ w ∈ [Cond.classLink RX11 206 xIA, Cond.initialized xIA, Cond.classLink RX11 334 xIS, Cond.initialized xIS, Cond.classLink RX8 72 xIS], w ∈ lw_tbl := by decide +kernel
