def opC (S : MS) (i : Int) (k : Int) : Bool := decide (ma S 34 k = i) && isOpenB S k
theorem opens_cnt (S : MS) (i : Int) : ∀ j, cntO S i j = cnt (opC S i) j := by
  intro j
  induction j with
  | zero => rfl
  | succ j ih => unfold cntO cnt; rw [ih]; rfl
def rkOf (x : Int) : Int := if x = 1 then 2 else if x = 2 then 1 else 0
def rankFor (S : MS) (p i d : Int) : Int := rkOf (ownOf S p i d)
theorem rank_r (S : MS) (p i d : Int) : 0 ≤ rankFor S p i d ∧ rankFor S p i d ≤ 2 := by
  unfold rankFor rkOf
  split
  · omega
  · split <;> omega
theorem ownOf_r {t p i d : Int} {S : MS} (h : WR t S) : 0 ≤ ownOf S p i d ∧ ownOf S p i d ≤ 4 := by
  unfold ownOf
  split
  · omega
  · exact answers_r h
theorem sCom_r {t z c : Int} {S : MS} (h : WR t S) (h0 : 0 ≤ z) (h1 : z < 3) : c - 13 ≤ sCom S z c ∧ sCom S z c ≤ c + 12 := by
  have := h.zn h0 h1
  unfold sCom
  split <;> omega
theorem begOf_r {t v d : Int} {S : MS} (h : WR t S) (h0 : 0 ≤ v) (h1 : v < mf S 7) (h2 : 0 ≤ d) (h3 : d < 60) : -13 ≤ begOf S v d ∧ begOf S v d ≤ 1451 := by
  have hv := h.vs h0 h1
  have hd := h.dl h0 h1 h2 h3
  unfold begOf
  split
  · have := sCom_r (c := goalOf S v d) h hv.2.2.1.1 hv.2.2.1.2
    unfold goalOf at this ⊢
    omega
  · have := sCom_r (c := 24 * d + ma S 12 v) h hv.2.2.1.1 hv.2.2.1.2
    omega
def takesH (S : MS) (p i d w : Int) : Bool := decide (begOf S (verOf S p i) d ≤ w ∧ w < begOf S (verOf S p i) d + ma S 13 (verOf S p i))
def rkD (S : MS) (p i w m : Int) : Nat → Int
  | 0 => m
  | j + 1 => if hl (datOf S p i) j = true then (if rkD S p i w m j < (if takesH S p i j w = true then rankFor S p i j else 0) then (if takesH S p i j w = true then rankFor S p i j else 0) else rkD S p i w m j) else rkD S p i w m j
def rkM (S : MS) (p w : Int) : Nat → Int
  | 0 => 0
  | i + 1 => rkD S p i w (rkM S p w i) 60
theorem rkD_r {S : MS} {p i w m : Int} (h0 : 0 ≤ m) (h1 : m ≤ 2) : ∀ j, 0 ≤ rkD S p i w m j ∧ rkD S p i w m j ≤ 2 := by
  intro j
  induction j with
  | zero => exact ⟨h0, h1⟩
  | succ j ih =>
    have hr := rank_r S p i j
    unfold rkD
    split
    · split <;> split <;> omega
    · exact ih
theorem rkM_r {S : MS} {p w : Int} : ∀ j, 0 ≤ rkM S p w j ∧ rkM S p w j ≤ 2 := by
  intro j
  induction j with
  | zero => exact ⟨Int.le_refl _, show (0 : Int) ≤ 2 by decide⟩
  | succ j ih => exact rkD_r ih.1 ih.2 60
theorem dat_here {S : MS} {p i d : Int} (h0 : 0 ≤ d) (h1 : d < 60) (g : hl (datOf S p i) d = true) : isHere S p i = true := by
  unfold datOf at g
  by_cases c : isHere S p i = true
  · exact c
  · rw [if_neg c] at g
    exfalso
    unfold hl at g
    have g := of_decide_eq_true g
    obtain ⟨a, rfl⟩ := Int.eq_ofNat_of_zero_le h0
    exact (by decide +kernel : ∀ a, a < 60 → ¬ ((0 : Int64) >>> ((I ((a : Nat) : Int)).toInt64 &&& 63)) &&& 1 = 1) a (by omega) g
def gW (w : Int) : Bool := decide (-48 ≤ w ∧ w ≤ 1600)
def abC (S : MS) (p a : Int) (k : Int) : Bool := decide (a < ma S 26 (8 * p + k))
def gMk (S : MS) (p a : Int) : Bool := gP p && decide (0 ≤ a ∧ a ≤ ma S 27 p)
def gFl (S : MS) (p a : Int) : Bool := gMk S p a && decide (ma S 28 p ≤ a)
theorem gFl_p {S : MS} {p a : Int} (g : gFl S p a = true) : (0 ≤ p ∧ p < 5) ∧ 0 ≤ a ∧ a ≤ ma S 27 p := by
  unfold gFl gMk at g
  simp only [Bool.and_eq_true] at g
  have g1 : 0 ≤ p ∧ p ≤ 4 := of_decide_eq_true g.1.1
  have g2 : 0 ≤ a ∧ a ≤ ma S 27 p := of_decide_eq_true g.1.2
  omega
def lastTo (c : Int → Bool) : Nat → Int
  | 0 => -1
  | j + 1 => if c j = true then (j : Int) else lastTo c j
def aheadC (S : MS) (p a k : Int) (n : Int) : Bool := decide (a < ma S 26 (8 * p + n)) && decide (ma S 26 (8 * p + n) < ma S 26 (8 * p + k))
def chgC (S : MS) (p a place : Int) (k : Int) : Bool := decide (a < ma S 26 (8 * p + k)) && decide (cnt (aheadC S p a k) (mf S 3).toNat = place)
