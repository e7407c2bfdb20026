def WR (t : Int) (S : MS) : Prop :=
  (0 ≤ t ∧ t ≤ 600 ∧ 0 ≤ mf S 3 ∧ mf S 3 ≤ 8 ∧ 0 ≤ mf S 7 ∧ mf S 7 ≤ 158 ∧ 0 ≤ mf S 29 ∧ mf S 29 ≤ 150 ∧ 0 ≤ mf S 30 ∧ mf S 30 ≤ 150) ∧
  (∀ z, 0 ≤ z → z < 3 → (-12 ≤ ma S 0 z ∧ ma S 0 z ≤ 12) ∧ (ma S 1 z = -1 ∨ (0 ≤ ma S 1 z ∧ ma S 1 z < 60 ∧ ma S 1 z < ma S 2 z ∧ ma S 2 z ≤ 60))) ∧
  (∀ i, 0 ≤ i → i < mf S 3 → (0 ≤ ma S 4 i ∧ ma S 4 i < 5) ∧ (0 ≤ ma S 5 i ∧ ma S 5 i < mf S 7) ∧ (0 ≤ ma S 6 i ∧ ma S 6 i < 32)) ∧
  (∀ v, 0 ≤ v → v < mf S 7 → (ma S 8 v = 0 ∨ ma S 8 v = 1) ∧ (0 ≤ ma S 9 v ∧ ma S 9 v ≤ t) ∧ (0 ≤ ma S 10 v ∧ ma S 10 v < 3) ∧ (0 ≤ ma S 11 v ∧ ma S 11 v < 60) ∧ (0 ≤ ma S 12 v ∧ ma S 12 v < 24) ∧ (1 ≤ ma S 13 v ∧ ma S 13 v ≤ 23) ∧ (1 ≤ ma S 14 v ∧ ma S 14 v ≤ 28) ∧ (1 ≤ ma S 15 v ∧ ma S 15 v ≤ 127) ∧ (1 ≤ ma S 16 v ∧ ma S 16 v ≤ 10) ∧ (0 ≤ ma S 17 v ∧ ma S 17 v < 32) ∧ (0 ≤ ma S 18 v ∧ ma S 18 v < 32) ∧ (ma S 19 v = 0 ∨ ma S 19 v = 1)) ∧
  (∀ v, 0 ≤ v → v < mf S 7 → ∀ d, 0 ≤ d → d < 60 → 0 ≤ ma S 24 (60 * v + d) ∧ ma S 24 (60 * v + d) % 2048 < 1440 ∧ ma S 24 (60 * v + d) < 2048 * (t + 1)) ∧
  (∀ p i, 0 ≤ p → p < 5 → 0 ≤ i → i < 8 → (ma S 25 (8 * p + i) = -1 ∨ (0 ≤ ma S 25 (8 * p + i) ∧ ma S 25 (8 * p + i) < mf S 7)) ∧ (0 ≤ ma S 26 (8 * p + i) ∧ ma S 26 (8 * p + i) ≤ ma S 27 p)) ∧
  (∀ p, 0 ≤ p → p < 5 → (0 ≤ ma S 27 p ∧ ma S 27 p ≤ 2 * t) ∧ (0 ≤ ma S 28 p ∧ ma S 28 p ≤ ma S 27 p)) ∧
  (∀ k, 0 ≤ k → k < mf S 29 → (0 ≤ ma S 31 k ∧ ma S 31 k ≤ 2) ∧ (0 ≤ ma S 32 k ∧ ma S 32 k < 5) ∧ (0 ≤ ma S 33 k ∧ ma S 33 k < 5) ∧ (0 ≤ ma S 34 k ∧ ma S 34 k < mf S 3) ∧ (-1 ≤ ma S 35 k ∧ ma S 35 k < mf S 7) ∧ (0 ≤ ma S 36 k ∧ ma S 36 k ≤ t) ∧ (-1 ≤ ma S 37 k ∧ ma S 37 k < 60) ∧ (0 ≤ ma S 38 k ∧ ma S 38 k ≤ 4) ∧ (0 ≤ ma S 39 k ∧ ma S 39 k ≤ 150) ∧ (0 ≤ ma S 40 k ∧ ma S 40 k < 5) ∧ (0 ≤ ma S 41 k ∧ ma S 41 k < 1440) ∧ (ma S 42 k = 0 ∨ ma S 42 k = 1) ∧ (ma S 43 k = 0 ∨ ma S 43 k = 1))
section WR0
variable {t : Int} {S : MS}
theorem WR.nn (h : WR t S) : 0 ≤ t ∧ t ≤ 600 ∧ 0 ≤ mf S 3 ∧ mf S 3 ≤ 8 ∧ 0 ≤ mf S 7 ∧ mf S 7 ≤ 158 ∧ 0 ≤ mf S 29 ∧ mf S 29 ≤ 150 ∧ 0 ≤ mf S 30 ∧ mf S 30 ≤ 150 := h.1
theorem WR.zn (h : WR t S) {z : Int} (h0 : 0 ≤ z) (h1 : z < 3) : (-12 ≤ ma S 0 z ∧ ma S 0 z ≤ 12) ∧ (ma S 1 z = -1 ∨ (0 ≤ ma S 1 z ∧ ma S 1 z < 60 ∧ ma S 1 z < ma S 2 z ∧ ma S 2 z ≤ 60)) := h.2.1 z h0 h1
theorem WR.mt (h : WR t S) {i : Int} (h0 : 0 ≤ i) (h1 : i < mf S 3) : (0 ≤ ma S 4 i ∧ ma S 4 i < 5) ∧ (0 ≤ ma S 5 i ∧ ma S 5 i < mf S 7) ∧ (0 ≤ ma S 6 i ∧ ma S 6 i < 32) := h.2.2.1 i h0 h1
theorem WR.vs (h : WR t S) {v : Int} (h0 : 0 ≤ v) (h1 : v < mf S 7) : (ma S 8 v = 0 ∨ ma S 8 v = 1) ∧ (0 ≤ ma S 9 v ∧ ma S 9 v ≤ t) ∧ (0 ≤ ma S 10 v ∧ ma S 10 v < 3) ∧ (0 ≤ ma S 11 v ∧ ma S 11 v < 60) ∧ (0 ≤ ma S 12 v ∧ ma S 12 v < 24) ∧ (1 ≤ ma S 13 v ∧ ma S 13 v ≤ 23) ∧ (1 ≤ ma S 14 v ∧ ma S 14 v ≤ 28) ∧ (1 ≤ ma S 15 v ∧ ma S 15 v ≤ 127) ∧ (1 ≤ ma S 16 v ∧ ma S 16 v ≤ 10) ∧ (0 ≤ ma S 17 v ∧ ma S 17 v < 32) ∧ (0 ≤ ma S 18 v ∧ ma S 18 v < 32) ∧ (ma S 19 v = 0 ∨ ma S 19 v = 1) := h.2.2.2.1 v h0 h1
theorem WR.dl (h : WR t S) {v d : Int} (h0 : 0 ≤ v) (h1 : v < mf S 7) (h2 : 0 ≤ d) (h3 : d < 60) : 0 ≤ ma S 24 (60 * v + d) ∧ ma S 24 (60 * v + d) % 2048 < 1440 ∧ ma S 24 (60 * v + d) < 2048 * (t + 1) := h.2.2.2.2.1 v h0 h1 d h2 h3
theorem WR.cp (h : WR t S) {p i : Int} (h0 : 0 ≤ p) (h1 : p < 5) (h2 : 0 ≤ i) (h3 : i < 8) : (ma S 25 (8 * p + i) = -1 ∨ (0 ≤ ma S 25 (8 * p + i) ∧ ma S 25 (8 * p + i) < mf S 7)) ∧ (0 ≤ ma S 26 (8 * p + i) ∧ ma S 26 (8 * p + i) ≤ ma S 27 p) := h.2.2.2.2.2.1 p i h0 h1 h2 h3
theorem WR.ps (h : WR t S) {p : Int} (h0 : 0 ≤ p) (h1 : p < 5) : (0 ≤ ma S 27 p ∧ ma S 27 p ≤ 2 * t) ∧ (0 ≤ ma S 28 p ∧ ma S 28 p ≤ ma S 27 p) := h.2.2.2.2.2.2.1 p h0 h1
theorem WR.ms (h : WR t S) {k : Int} (h0 : 0 ≤ k) (h1 : k < mf S 29) : (0 ≤ ma S 31 k ∧ ma S 31 k ≤ 2) ∧ (0 ≤ ma S 32 k ∧ ma S 32 k < 5) ∧ (0 ≤ ma S 33 k ∧ ma S 33 k < 5) ∧ (0 ≤ ma S 34 k ∧ ma S 34 k < mf S 3) ∧ (-1 ≤ ma S 35 k ∧ ma S 35 k < mf S 7) ∧ (0 ≤ ma S 36 k ∧ ma S 36 k ≤ t) ∧ (-1 ≤ ma S 37 k ∧ ma S 37 k < 60) ∧ (0 ≤ ma S 38 k ∧ ma S 38 k ≤ 4) ∧ (0 ≤ ma S 39 k ∧ ma S 39 k ≤ 150) ∧ (0 ≤ ma S 40 k ∧ ma S 40 k < 5) ∧ (0 ≤ ma S 41 k ∧ ma S 41 k < 1440) ∧ (ma S 42 k = 0 ∨ ma S 42 k = 1) ∧ (ma S 43 k = 0 ∨ ma S 43 k = 1) := h.2.2.2.2.2.2.2 k h0 h1
end WR0
def gc (a b c : Bool) : Int := if a = false then 1 else if b = false then 2 else if c = false then 3 else 0
def sSum (S : MS) (z w : Int) : Bool := decide (ma S 1 z ≠ -1 ∧ 24 * ma S 1 z + 2 ≤ w + ma S 0 z ∧ w + ma S 0 z ≤ 24 * ma S 2 z + 1)
def sLoc (S : MS) (z w : Int) : Int := w + ma S 0 z + (if sSum S z w then 1 else 0)
def sCom (S : MS) (z c : Int) : Int := if sSum S z (c - ma S 0 z - 1) then c - ma S 0 z - 1 else c - ma S 0 z
def isHere (S : MS) (p i : Int) : Bool := if ma S 4 i = p then decide (ma S 19 (ma S 5 i) = 0) else decide (ma S 25 (8 * p + i) ≠ -1 ∧ ma S 19 (ma S 25 (8 * p + i)) = 0 ∧ hb (ma S 18 (ma S 25 (8 * p + i))) p = false)
def goneTo (S : MS) (p : Int) : Nat → Int × Int
  | 0 => (0, -1)
  | j + 1 => if 0 < ma S 26 (8 * p + j) ∧ isHere S p j = false then ((goneTo S p j).1 + 1, if (goneTo S p j).2 = -1 ∨ ma S 26 (8 * p + j) < ma S 26 (8 * p + (goneTo S p j).2) then (j : Int) else (goneTo S p j).2) else goneTo S p j
theorem goneTo_r (S : MS) (p : Int) : ∀ j, (0 ≤ (goneTo S p j).1 ∧ (goneTo S p j).1 ≤ j) ∧ (((goneTo S p j).2 = -1 ∧ (goneTo S p j).1 = 0) ∨ (0 ≤ (goneTo S p j).2 ∧ (goneTo S p j).2 < j)) := by
  intro j
  induction j with
  | zero => exact ⟨⟨Int.le_refl _, Int.le_refl _⟩, Or.inl ⟨rfl, rfl⟩⟩
  | succ j ih =>
    unfold goneTo
    by_cases c : 0 < ma S 26 (8 * p + j) ∧ isHere S p j = false
    · rw [if_pos c]
      refine ⟨by simp only; omega, Or.inr ?_⟩
      simp only
      split <;> omega
    · rw [if_neg c]
      omega
def marked1 (S : MS) (p i : Int) : MS := seta (seta S 27 p (ma S 27 p + 1)) 26 (8 * p + i) (ma S 27 p + 1)
def sMarks (S : MS) (p i : Int) : MS :=
  if 3 < (goneTo (marked1 S p i) p (mf S 3).toNat).1 then seta (seta (marked1 S p i) 28 p (ma (marked1 S p i) 26 (8 * p + (goneTo (marked1 S p i) p (mf S 3).toNat).2))) 26 (8 * p + (goneTo (marked1 S p i) p (mf S 3).toNat).2) 0 else marked1 S p i
