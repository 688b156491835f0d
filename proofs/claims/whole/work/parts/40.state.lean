/-! The abstract state: naturals (component, place), ints, and the queues; the reference's memory shows it. -/
abbrev Sx : Type := (Nat → Nat → Nat) × (Nat → Nat → Int32) × (Nat → List Nat)
def setN (S : Sx) (g i v : Nat) : Sx := (fun g' i' => if g' = g ∧ i' = i then v else S.1 g' i', S.2)
def setV (S : Sx) (g i : Nat) (v : Int32) : Sx := (S.1, fun g' i' => if g' = g ∧ i' = i then v else S.2.1 g' i', S.2.2)
def setQ (S : Sx) (a : Nat) (q : List Nat) : Sx := (S.1, S.2.1, fun a' => if a' = a then q else S.2.2 a')
def lzM (v : Nat) : Int32 := if v = 0 then -2 else nI (v - 1)
def fzM (v : Nat) : Int32 := if v < 1000 then nI v else nI 1000000
def encM (g v : Nat) : Int32 := if g = 24 then lzM v else if g = 5 then fzM v else nI v
def bndL : List Nat := [4, 3, 12, 9, 4, 1000, 3, 20, 3, 10, 60, 30, 7, 1, 20, 50, 0, 0, 0, 0, 2, 50, 10, 1073741824, 4, 15, 1, 4, 3, 3, 60, 5000, 1, 1000, 300, 1073741824, 1073741824, 100, 1, 300]
def bnd (g : Nat) : Nat := bndL.getD g 0
def Bd (S : Sx) : Prop := ∀ g i, S.1 g i ≤ bnd g
def mAL : List Nat := [258, 258, 258, 259, 260, 261, 0, 258, 262, 258, 263, 264, 265, 266, 258, 258, 0, 0, 0, 0, 268, 269, 270, 272, 279, 280, 281, 282, 283, 287, 289, 290, 292, 298, 258, 288, 278, 0, 296, 0]
def mKL : List Nat := [1, 2, 3, 0, 0, 0, 0, 7, 0, 9, 0, 0, 0, 0, 15, 16, 0, 0, 0, 0, 0, 0, 0, 0, 0, 0, 0, 0, 0, 0, 0, 0, 0, 0, 51, 0, 0, 0, 0, 0]
def mML : List Nat := [0, 0, 0, 0, 0, 0, 0, 0, 0, 0, 0, 0, 0, 0, 0, 0, 0, 0, 0, 0, 1, 1, 1, 1, 20, 20, 20, 20, 80, 10, 10, 10, 10, 16, 0, 10, 1, 0, 10, 0]
def mSL : List Nat := [1, 1, 1, 16, 16, 16, 0, 1, 20, 1, 10, 600, 600, 600, 1, 1, 0, 0, 0, 0, 1, 1, 1, 1, 20, 20, 20, 20, 80, 10, 10, 10, 10, 16, 1, 10, 1, 0, 10, 0]
def vAL : List Nat := [267, 271, 273, 274, 275, 276, 277, 284, 285, 286, 291, 294, 295, 297, 299, 300, 301, 302, 293, 0]
def vML : List Nat := [0, 1, 1, 1, 1, 1, 1, 20, 20, 80, 10, 10, 10, 4, 16, 16, 0, 0, 10, 0]
def vSL : List Nat := [600, 1, 1, 1, 1, 1, 1, 20, 20, 80, 10, 10, 10, 4, 16, 16, 3000, 300, 10, 0]
def vLL : List Bool := [false, false, false, true, false, false, false, false, true, false, false, true, false, true, false, false, false, false, false, false]
/-- what the reference never sets back for its second world -/
def vJL : List Bool := [false, false, false, false, true, true, true, true, false, false, true, true, true, true, true, true, true, true, true, false]
def nJL : List Bool := [false, false, false, false, false, false, false, false, false, false, false, false, false, false, false, false, false, false, false, false, false, false, false, false, false, false, false, false, false, false, false, false, false, false, true, false, false, false, false, false]
def mA (g : Nat) : Nat := mAL.getD g 0
def mK (w g : Nat) : Nat := mKL.getD g 0 + mML.getD g 0 * w
def mS (w g : Nat) : Nat := if w = 0 ∨ nJL.getD g false = false then mSL.getD g 0 else 0
def vA (g : Nat) : Nat := vAL.getD g 0
def vK (w g : Nat) : Nat := vML.getD g 0 * w
def vS (w g : Nat) : Nat := if w = 0 ∨ vJL.getD g false = false then vSL.getD g 0 else 0
def vLg (g : Nat) : Bool := vLL.getD g false
/-- the reference's memory, world w, shows S -/
def RepM (w : Nat) (σ : Mm) (S : Sx) : Prop :=
  (∀ g i, i < mS w g → σ.1 (mA g) (mK w g + i) = encM g (S.1 g i)) ∧
  (∀ g i, i < vS w g → vLg g = false → σ.1 (vA g) (vK w g + i) = S.2.1 g i) ∧
  (∀ g i, i < vS w g → vLg g = true → (σ.2 (vA g) (vK w g + i)).toInt32 = S.2.1 g i)
theorem B_nodes {S : Sx} (h : Bd S) (i : Nat) : S.1 0 i ≤ 4 := h 0 i
theorem M_nodes {w : Nat} {σ : Mm} {S : Sx} (h : RepM w σ S) : σ.1 258 1 = nI (S.1 0 0) := by
  have q := h.1 0 0 (by simp [mS, mSL, nJL])
  simpa [mA, mAL, mK, mKL, mML, encM] using q
theorem B_proc {S : Sx} (h : Bd S) (i : Nat) : S.1 1 i ≤ 3 := h 1 i
theorem M_proc {w : Nat} {σ : Mm} {S : Sx} (h : RepM w σ S) : σ.1 258 2 = nI (S.1 1 0) := by
  have q := h.1 1 0 (by simp [mS, mSL, nJL])
  simpa [mA, mAL, mK, mKL, mML, encM] using q
theorem B_room {S : Sx} (h : Bd S) (i : Nat) : S.1 2 i ≤ 12 := h 2 i
theorem M_room {w : Nat} {σ : Mm} {S : Sx} (h : RepM w σ S) : σ.1 258 3 = nI (S.1 2 0) := by
  have q := h.1 2 0 (by simp [mS, mSL, nJL])
  simpa [mA, mAL, mK, mKL, mML, encM] using q
theorem B_price {S : Sx} (h : Bd S) (i : Nat) : S.1 3 i ≤ 9 := h 3 i
theorem M_price {w : Nat} {σ : Mm} {S : Sx} (h : RepM w σ S) {i : Nat} (hi : i < 16) : σ.1 259 i = nI (S.1 3 i) := by
  have q := h.1 3 i (by simp [mS, mSL, nJL]; exact hi)
  simpa [mA, mAL, mK, mKL, mML, encM] using q
theorem B_width {S : Sx} (h : Bd S) (i : Nat) : S.1 4 i ≤ 4 := h 4 i
theorem M_width {w : Nat} {σ : Mm} {S : Sx} (h : RepM w σ S) {i : Nat} (hi : i < 16) : σ.1 260 i = nI (S.1 4 i) := by
  have q := h.1 4 i (by simp [mS, mSL, nJL]; exact hi)
  simpa [mA, mAL, mK, mKL, mML, encM] using q
theorem B_far {S : Sx} (h : Bd S) (i : Nat) : S.1 5 i ≤ 1000 := h 5 i
theorem M_far {w : Nat} {σ : Mm} {S : Sx} (h : RepM w σ S) {i : Nat} (hi : i < 16) : σ.1 261 i = fzM (S.1 5 i) := by
  have q := h.1 5 i (by simp [mS, mSL, nJL]; exact hi)
  simpa [mA, mAL, mK, mKL, mML, encM] using q
theorem B_hop {S : Sx} (h : Bd S) (i : Nat) : S.1 6 i ≤ 3 := h 6 i
theorem B_P {S : Sx} (h : Bd S) (i : Nat) : S.1 7 i ≤ 20 := h 7 i
theorem M_P {w : Nat} {σ : Mm} {S : Sx} (h : RepM w σ S) : σ.1 258 7 = nI (S.1 7 0) := by
  have q := h.1 7 0 (by simp [mS, mSL, nJL])
  simpa [mA, mAL, mK, mKL, mML, encM] using q
theorem B_kind {S : Sx} (h : Bd S) (i : Nat) : S.1 8 i ≤ 3 := h 8 i
theorem M_kind {w : Nat} {σ : Mm} {S : Sx} (h : RepM w σ S) {i : Nat} (hi : i < 20) : σ.1 262 i = nI (S.1 8 i) := by
  have q := h.1 8 i (by simp [mS, mSL, nJL]; exact hi)
  simpa [mA, mAL, mK, mKL, mML, encM] using q
theorem B_T {S : Sx} (h : Bd S) (i : Nat) : S.1 9 i ≤ 10 := h 9 i
theorem M_T {w : Nat} {σ : Mm} {S : Sx} (h : RepM w σ S) : σ.1 258 9 = nI (S.1 9 0) := by
  have q := h.1 9 0 (by simp [mS, mSL, nJL])
  simpa [mA, mAL, mK, mKL, mML, encM] using q
theorem B_told {S : Sx} (h : Bd S) (i : Nat) : S.1 10 i ≤ 60 := h 10 i
theorem M_told {w : Nat} {σ : Mm} {S : Sx} (h : RepM w σ S) {i : Nat} (hi : i < 10) : σ.1 263 i = nI (S.1 10 i) := by
  have q := h.1 10 i (by simp [mS, mSL, nJL]; exact hi)
  simpa [mA, mAL, mK, mKL, mML, encM] using q
theorem B_aPage {S : Sx} (h : Bd S) (i : Nat) : S.1 11 i ≤ 30 := h 11 i
theorem M_aPage {w : Nat} {σ : Mm} {S : Sx} (h : RepM w σ S) {i : Nat} (hi : i < 600) : σ.1 264 i = nI (S.1 11 i) := by
  have q := h.1 11 i (by simp [mS, mSL, nJL]; exact hi)
  simpa [mA, mAL, mK, mKL, mML, encM] using q
theorem B_aCell {S : Sx} (h : Bd S) (i : Nat) : S.1 12 i ≤ 7 := h 12 i
theorem M_aCell {w : Nat} {σ : Mm} {S : Sx} (h : RepM w σ S) {i : Nat} (hi : i < 600) : σ.1 265 i = nI (S.1 12 i) := by
  have q := h.1 12 i (by simp [mS, mSL, nJL]; exact hi)
  simpa [mA, mAL, mK, mKL, mML, encM] using q
theorem B_aWrites {S : Sx} (h : Bd S) (i : Nat) : S.1 13 i ≤ 1 := h 13 i
theorem M_aWrites {w : Nat} {σ : Mm} {S : Sx} (h : RepM w σ S) {i : Nat} (hi : i < 600) : σ.1 266 i = nI (S.1 13 i) := by
  have q := h.1 13 i (by simp [mS, mSL, nJL]; exact hi)
  simpa [mA, mAL, mK, mKL, mML, encM] using q
theorem B_faultPrice {S : Sx} (h : Bd S) (i : Nat) : S.1 14 i ≤ 20 := h 14 i
theorem M_faultPrice {w : Nat} {σ : Mm} {S : Sx} (h : RepM w σ S) : σ.1 258 15 = nI (S.1 14 0) := by
  have q := h.1 14 0 (by simp [mS, mSL, nJL])
  simpa [mA, mAL, mK, mKL, mML, encM] using q
theorem B_movePrice {S : Sx} (h : Bd S) (i : Nat) : S.1 15 i ≤ 50 := h 15 i
theorem M_movePrice {w : Nat} {σ : Mm} {S : Sx} (h : RepM w σ S) : σ.1 258 16 = nI (S.1 15 0) := by
  have q := h.1 15 0 (by simp [mS, mSL, nJL])
  simpa [mA, mAL, mK, mKL, mML, encM] using q
theorem B_placing {S : Sx} (h : Bd S) (i : Nat) : S.1 20 i ≤ 2 := h 20 i
theorem M_placing {w : Nat} {σ : Mm} {S : Sx} (h : RepM w σ S) : σ.1 268 w = nI (S.1 20 0) := by
  have q := h.1 20 0 (by simp [mS, mSL, nJL])
  simpa [mA, mAL, mK, mKL, mML, encM] using q
theorem B_every {S : Sx} (h : Bd S) (i : Nat) : S.1 21 i ≤ 50 := h 21 i
theorem M_every {w : Nat} {σ : Mm} {S : Sx} (h : RepM w σ S) : σ.1 269 w = nI (S.1 21 0) := by
  have q := h.1 21 0 (by simp [mS, mSL, nJL])
  simpa [mA, mAL, mK, mKL, mML, encM] using q
theorem B_gain {S : Sx} (h : Bd S) (i : Nat) : S.1 22 i ≤ 10 := h 22 i
theorem M_gain {w : Nat} {σ : Mm} {S : Sx} (h : RepM w σ S) : σ.1 270 w = nI (S.1 22 0) := by
  have q := h.1 22 0 (by simp [mS, mSL, nJL])
  simpa [mA, mAL, mK, mKL, mML, encM] using q
theorem B_turns {S : Sx} (h : Bd S) (i : Nat) : S.1 23 i ≤ 1073741824 := h 23 i
theorem M_turns {w : Nat} {σ : Mm} {S : Sx} (h : RepM w σ S) : σ.1 272 w = nI (S.1 23 0) := by
  have q := h.1 23 0 (by simp [mS, mSL, nJL])
  simpa [mA, mAL, mK, mKL, mML, encM] using q
theorem B_lies {S : Sx} (h : Bd S) (i : Nat) : S.1 24 i ≤ 4 := h 24 i
theorem M_lies {w : Nat} {σ : Mm} {S : Sx} (h : RepM w σ S) {i : Nat} (hi : i < 20) : σ.1 279 (20 * w + i) = lzM (S.1 24 i) := by
  have q := h.1 24 i (by simp [mS, mSL, nJL]; exact hi)
  simpa [mA, mAL, mK, mKL, mML, encM] using q
theorem B_copies {S : Sx} (h : Bd S) (i : Nat) : S.1 25 i ≤ 15 := h 25 i
theorem M_copies {w : Nat} {σ : Mm} {S : Sx} (h : RepM w σ S) {i : Nat} (hi : i < 20) : σ.1 280 (20 * w + i) = nI (S.1 25 i) := by
  have q := h.1 25 i (by simp [mS, mSL, nJL]; exact hi)
  simpa [mA, mAL, mK, mKL, mML, encM] using q
theorem B_hidden {S : Sx} (h : Bd S) (i : Nat) : S.1 26 i ≤ 1 := h 26 i
theorem M_hidden {w : Nat} {σ : Mm} {S : Sx} (h : RepM w σ S) {i : Nat} (hi : i < 20) : σ.1 281 (20 * w + i) = nI (S.1 26 i) := by
  have q := h.1 26 i (by simp [mS, mSL, nJL]; exact hi)
  simpa [mA, mAL, mK, mKL, mML, encM] using q
theorem B_faultMany {S : Sx} (h : Bd S) (i : Nat) : S.1 27 i ≤ 4 := h 27 i
theorem M_faultMany {w : Nat} {σ : Mm} {S : Sx} (h : RepM w σ S) {i : Nat} (hi : i < 20) : σ.1 282 (20 * w + i) = nI (S.1 27 i) := by
  have q := h.1 27 i (by simp [mS, mSL, nJL]; exact hi)
  simpa [mA, mAL, mK, mKL, mML, encM] using q
theorem B_faultNode {S : Sx} (h : Bd S) (i : Nat) : S.1 28 i ≤ 3 := h 28 i
theorem M_faultNode {w : Nat} {σ : Mm} {S : Sx} (h : RepM w σ S) {i : Nat} (hi : i < 80) : σ.1 283 (80 * w + i) = nI (S.1 28 i) := by
  have q := h.1 28 i (by simp [mS, mSL, nJL]; exact hi)
  simpa [mA, mAL, mK, mKL, mML, encM] using q
theorem B_at {S : Sx} (h : Bd S) (i : Nat) : S.1 29 i ≤ 3 := h 29 i
theorem M_at {w : Nat} {σ : Mm} {S : Sx} (h : RepM w σ S) {i : Nat} (hi : i < 10) : σ.1 287 (10 * w + i) = nI (S.1 29 i) := by
  have q := h.1 29 i (by simp [mS, mSL, nJL]; exact hi)
  simpa [mA, mAL, mK, mKL, mML, encM] using q
theorem B_next {S : Sx} (h : Bd S) (i : Nat) : S.1 30 i ≤ 60 := h 30 i
theorem M_next {w : Nat} {σ : Mm} {S : Sx} (h : RepM w σ S) {i : Nat} (hi : i < 10) : σ.1 289 (10 * w + i) = nI (S.1 30 i) := by
  have q := h.1 30 i (by simp [mS, mSL, nJL]; exact hi)
  simpa [mA, mAL, mK, mKL, mML, encM] using q
theorem B_toGo {S : Sx} (h : Bd S) (i : Nat) : S.1 31 i ≤ 5000 := h 31 i
theorem M_toGo {w : Nat} {σ : Mm} {S : Sx} (h : RepM w σ S) {i : Nat} (hi : i < 10) : σ.1 290 (10 * w + i) = nI (S.1 31 i) := by
  have q := h.1 31 i (by simp [mS, mSL, nJL]; exact hi)
  simpa [mA, mAL, mK, mKL, mML, encM] using q
theorem B_ended {S : Sx} (h : Bd S) (i : Nat) : S.1 32 i ≤ 1 := h 32 i
theorem M_ended {w : Nat} {σ : Mm} {S : Sx} (h : RepM w σ S) {i : Nat} (hi : i < 10) : σ.1 292 (10 * w + i) = nI (S.1 32 i) := by
  have q := h.1 32 i (by simp [mS, mSL, nJL]; exact hi)
  simpa [mA, mAL, mK, mKL, mML, encM] using q
theorem B_linkNow {S : Sx} (h : Bd S) (i : Nat) : S.1 33 i ≤ 1000 := h 33 i
theorem M_linkNow {w : Nat} {σ : Mm} {S : Sx} (h : RepM w σ S) {i : Nat} (hi : i < 16) : σ.1 298 (16 * w + i) = nI (S.1 33 i) := by
  have q := h.1 33 i (by simp [mS, mSL, nJL]; exact hi)
  simpa [mA, mAL, mK, mKL, mML, encM] using q
theorem B_logged {S : Sx} (h : Bd S) (i : Nat) : S.1 34 i ≤ 300 := h 34 i
theorem B_stamp {S : Sx} (h : Bd S) (i : Nat) : S.1 35 i ≤ 1073741824 := h 35 i
theorem M_stamp {w : Nat} {σ : Mm} {S : Sx} (h : RepM w σ S) {i : Nat} (hi : i < 10) : σ.1 288 (10 * w + i) = nI (S.1 35 i) := by
  have q := h.1 35 i (by simp [mS, mSL, nJL]; exact hi)
  simpa [mA, mAL, mK, mKL, mML, encM] using q
theorem B_stamps {S : Sx} (h : Bd S) (i : Nat) : S.1 36 i ≤ 1073741824 := h 36 i
theorem M_stamps {w : Nat} {σ : Mm} {S : Sx} (h : RepM w σ S) : σ.1 278 w = nI (S.1 36 0) := by
  have q := h.1 36 0 (by simp [mS, mSL, nJL])
  simpa [mA, mAL, mK, mKL, mML, encM] using q
theorem B_taken {S : Sx} (h : Bd S) (i : Nat) : S.1 37 i ≤ 100 := h 37 i
theorem B_tried {S : Sx} (h : Bd S) (i : Nat) : S.1 38 i ≤ 1 := h 38 i
theorem M_tried {w : Nat} {σ : Mm} {S : Sx} (h : RepM w σ S) {i : Nat} (hi : i < 10) : σ.1 296 (10 * w + i) = nI (S.1 38 i) := by
  have q := h.1 38 i (by simp [mS, mSL, nJL]; exact hi)
  simpa [mA, mAL, mK, mKL, mML, encM] using q
theorem B_cap {S : Sx} (h : Bd S) (i : Nat) : S.1 39 i ≤ 300 := h 39 i
theorem MV_aValue {w : Nat} {σ : Mm} {S : Sx} (h : RepM w σ S) {i : Nat} (hi : i < 600) : σ.1 267 i = S.2.1 0 i := by
  have q := h.2.1 0 i (by simp [vS, vSL, vJL]; exact hi) rfl
  simpa [vA, vAL, vK, vML] using q
theorem MV_tick {w : Nat} {σ : Mm} {S : Sx} (h : RepM w σ S) : σ.1 271 w = S.2.1 1 0 := by
  have q := h.2.1 1 0 (by simp [vS, vSL, vJL]) rfl
  simpa [vA, vAL, vK, vML] using q
theorem MV_went {w : Nat} {σ : Mm} {S : Sx} (h : RepM w σ S) : σ.1 273 w = S.2.1 2 0 := by
  have q := h.2.1 2 0 (by simp [vS, vSL, vJL]) rfl
  simpa [vA, vAL, vK, vML] using q
theorem MV_cost {w : Nat} {σ : Mm} {S : Sx} (h : RepM w σ S) : (σ.2 274 w).toInt32 = S.2.1 3 0 := by
  have q := h.2.2 3 0 (by simp [vS, vSL, vJL]) rfl
  simpa [vA, vAL, vK, vML] using q
theorem MV_faults {w : Nat} {σ : Mm} {S : Sx} (h : RepM w σ S) (hw : w = 0) : σ.1 275 w = S.2.1 4 0 := by
  subst hw; have q := h.2.1 4 0 (by simp [vS, vSL, vJL]) rfl
  simpa [vA, vAL, vK, vML] using q
theorem MV_moves {w : Nat} {σ : Mm} {S : Sx} (h : RepM w σ S) (hw : w = 0) : σ.1 276 w = S.2.1 5 0 := by
  subst hw; have q := h.2.1 5 0 (by simp [vS, vSL, vJL]) rfl
  simpa [vA, vAL, vK, vML] using q
theorem MV_failed {w : Nat} {σ : Mm} {S : Sx} (h : RepM w σ S) (hw : w = 0) : σ.1 277 w = S.2.1 6 0 := by
  subst hw; have q := h.2.1 6 0 (by simp [vS, vSL, vJL]) rfl
  simpa [vA, vAL, vK, vML] using q
theorem MV_moved {w : Nat} {σ : Mm} {S : Sx} (h : RepM w σ S) {i : Nat} (hi : i < 20) (hw : w = 0) : σ.1 284 (20 * w + i) = S.2.1 7 i := by
  subst hw; have q := h.2.1 7 i (by simp [vS, vSL, vJL]; exact hi) rfl
  simpa [vA, vAL, vK, vML] using q
theorem MV_pageBill {w : Nat} {σ : Mm} {S : Sx} (h : RepM w σ S) {i : Nat} (hi : i < 20) : (σ.2 285 (20 * w + i)).toInt32 = S.2.1 8 i := by
  have q := h.2.2 8 i (by simp [vS, vSL, vJL]; exact hi) rfl
  simpa [vA, vAL, vK, vML] using q
theorem MV_cell {w : Nat} {σ : Mm} {S : Sx} (h : RepM w σ S) {i : Nat} (hi : i < 80) : σ.1 286 (80 * w + i) = S.2.1 9 i := by
  have q := h.2.1 9 i (by simp [vS, vSL, vJL]; exact hi) rfl
  simpa [vA, vAL, vK, vML] using q
theorem MV_waits {w : Nat} {σ : Mm} {S : Sx} (h : RepM w σ S) {i : Nat} (hi : i < 10) (hw : w = 0) : σ.1 291 (10 * w + i) = S.2.1 10 i := by
  subst hw; have q := h.2.1 10 i (by simp [vS, vSL, vJL]; exact hi) rfl
  simpa [vA, vAL, vK, vML] using q
theorem MV_threadBill {w : Nat} {σ : Mm} {S : Sx} (h : RepM w σ S) {i : Nat} (hi : i < 10) (hw : w = 0) : (σ.2 294 (10 * w + i)).toInt32 = S.2.1 11 i := by
  subst hw; have q := h.2.2 11 i (by simp [vS, vSL, vJL]; exact hi) rfl
  simpa [vA, vAL, vK, vML] using q
theorem MV_lastRead {w : Nat} {σ : Mm} {S : Sx} (h : RepM w σ S) {i : Nat} (hi : i < 10) (hw : w = 0) : σ.1 295 (10 * w + i) = S.2.1 12 i := by
  subst hw; have q := h.2.1 12 i (by simp [vS, vSL, vJL]; exact hi) rfl
  simpa [vA, vAL, vK, vML] using q
theorem MV_nodeBill {w : Nat} {σ : Mm} {S : Sx} (h : RepM w σ S) {i : Nat} (hi : i < 4) (hw : w = 0) : (σ.2 297 (4 * w + i)).toInt32 = S.2.1 13 i := by
  subst hw; have q := h.2.2 13 i (by simp [vS, vSL, vJL]; exact hi) rfl
  simpa [vA, vAL, vK, vML] using q
theorem MV_linkWent {w : Nat} {σ : Mm} {S : Sx} (h : RepM w σ S) {i : Nat} (hi : i < 16) (hw : w = 0) : σ.1 299 (16 * w + i) = S.2.1 14 i := by
  subst hw; have q := h.2.1 14 i (by simp [vS, vSL, vJL]; exact hi) rfl
  simpa [vA, vAL, vK, vML] using q
theorem MV_linkWaits {w : Nat} {σ : Mm} {S : Sx} (h : RepM w σ S) {i : Nat} (hi : i < 16) (hw : w = 0) : σ.1 300 (16 * w + i) = S.2.1 15 i := by
  subst hw; have q := h.2.1 15 i (by simp [vS, vSL, vJL]; exact hi) rfl
  simpa [vA, vAL, vK, vML] using q
theorem MV_log {w : Nat} {σ : Mm} {S : Sx} (h : RepM w σ S) {i : Nat} (hi : i < 3000) (hw : w = 0) : σ.1 301 i = S.2.1 16 i := by
  subst hw; have q := h.2.1 16 i (by simp [vS, vSL, vJL]; exact hi) rfl
  simpa [vA, vAL, vK, vML] using q
theorem MV_logValue {w : Nat} {σ : Mm} {S : Sx} (h : RepM w σ S) {i : Nat} (hi : i < 300) (hw : w = 0) : σ.1 302 i = S.2.1 17 i := by
  subst hw; have q := h.2.1 17 i (by simp [vS, vSL, vJL]; exact hi) rfl
  simpa [vA, vAL, vK, vML] using q
theorem MV_threadWent {w : Nat} {σ : Mm} {S : Sx} (h : RepM w σ S) {i : Nat} (hi : i < 10) (hw : w = 0) : σ.1 293 (10 * w + i) = S.2.1 18 i := by
  subst hw; have q := h.2.1 18 i (by simp [vS, vSL, vJL]; exact hi) rfl
  simpa [vA, vAL, vK, vML] using q
