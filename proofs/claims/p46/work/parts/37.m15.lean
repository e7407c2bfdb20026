def becB (S : MS) (k : Int) : Bool := decide (ma S 25 (8 * ma S 33 k + ma S 34 k) = -1) || decide (ma S 9 (ma S 25 (8 * ma S 33 k + ma S 34 k)) < ma S 36 k)
def sBec1 (S : MS) (k : Int) : MS := seta S 25 (8 * ma S 33 k + ma S 34 k) (ma S 35 k)
def sBec (S : MS) (k : Int) : MS := if becB S k = true then sMarks (sBec1 S k) (ma S 33 k) (ma S 34 k) else S
theorem wr_bec1 {t k : Int} {S : MS} (h : WR t S) (h0 : 0 ≤ k) (h1 : k < mf S 29) : WR t (sBec1 S k) := by
  have hn := h.nn
  have hk := h.ms h0 h1
  unfold sBec1
  refine ⟨h.nn, fun z g0 g1 => ?_, fun j g0 g1 => ?_, fun v g0 g1 => ?_, fun v g0 g1 d g2 g3 => ?_, fun q j g0 g1 g2 g3 => ?_, fun q g0 g1 => ?_, fun k g0 g1 => ?_⟩
  · have := h.zn g0 g1; simp [ma_setf, ml_setf, mf_setf, ma_seta, ml_seta, mf_seta, ma_setl, ml_setl, mf_setl]; omega
  · have := h.mt g0 g1; simp [ma_setf, ml_setf, mf_setf, ma_seta, ml_seta, mf_seta, ma_setl, ml_setl, mf_setl]; omega
  · have := h.vs g0 g1; simp [ma_setf, ml_setf, mf_setf, ma_seta, ml_seta, mf_seta, ma_setl, ml_setl, mf_setl]; exact this
  · have := h.dl g0 g1 g2 g3; simp [ma_setf, ml_setf, mf_setf, ma_seta, ml_seta, mf_seta, ma_setl, ml_setl, mf_setl]; exact this
  · have := h.cp g0 g1 g2 g3; simp [ma_setf, ml_setf, mf_setf, ma_seta, ml_seta, mf_seta, ma_setl, ml_setl, mf_setl]; split <;> omega
  · have := h.ps g0 g1; simp [ma_setf, ml_setf, mf_setf, ma_seta, ml_seta, mf_seta, ma_setl, ml_setl, mf_setl]; omega
  · have := h.ms g0 g1; simp [ma_setf, ml_setf, mf_setf, ma_seta, ml_seta, mf_seta, ma_setl, ml_setl, mf_setl]; exact this
def dlvB (S : MS) (k : Int) : Bool := !decide (¬ ma S 42 k = 0) && (decide (ma S 31 k = 2) || decide (kept (seta S 42 k 1) (ma S 34 k) (ma S 32 k) (ma S 37 k) = k))
def sDlv (S : MS) (k : Int) : MS := if (dlvB S k && decide (ma S 31 k = 1)) = true then sMarks (seta S 42 k 1) (ma S 33 k) (ma S 34 k) else seta S 42 k 1
def ansDlv (S : MS) (k : Int) : Bool := if ma S 31 k = 0 then becB S k else dlvB S k
def stDlv (S : MS) (k : Int) : MS := if ma S 31 k = 0 then sBec S k else sDlv S k
def gPM (S : MS) (p i : Int) : Bool := decide ((0 ≤ p ∧ p ≤ 4) ∧ 0 ≤ i ∧ i < mf S 3)
theorem gPM_d {S : MS} {p i : Int} (h : gPM S p i = true) : (0 ≤ p ∧ p < 5) ∧ 0 ≤ i ∧ i < mf S 3 := by
  have := of_decide_eq_true h; omega
def seqOf (S : MS) (p i : Int) : Int := if verOf S p i = -1 then -1 else ma S 9 (verOf S p i)
theorem verOf_r {t p i : Int} {S : MS} (h : WR t S) (hp : 0 ≤ p) (hp' : p < 5) (hi : 0 ≤ i) (hi' : i < mf S 3) : -1 ≤ verOf S p i ∧ verOf S p i < mf S 7 := by
  have hn := h.nn
  have hm := h.mt hi hi'
  have hc := h.cp hp hp' hi (by omega)
  unfold verOf
  split <;> omega
def cnt (c : Int → Bool) : Nat → Int
  | 0 => 0
  | j + 1 => cnt c j + (if c j = true then 1 else 0)
theorem cnt_r (c : Int → Bool) : ∀ j, 0 ≤ cnt c j ∧ cnt c j ≤ j := by
  intro j
  induction j with
  | zero => exact ⟨Int.le_refl _, Int.le_refl _⟩
  | succ j ih => unfold cnt; split <;> omega
def nth (c : Int → Bool) (place : Int) : Nat → Int
  | 0 => -1
  | j + 1 => if (c j && decide (cnt c j = place)) = true then (j : Int) else nth c place j
theorem nth_r (c : Int → Bool) (place : Int) : ∀ j, -1 ≤ nth c place j ∧ nth c place j < j := by
  intro j
  induction j with
  | zero => exact ⟨Int.le_refl _, (show (-1 : Int) < 0 by decide)⟩
  | succ j ih => unfold nth; split <;> omega
theorem nb0 {b : Bool} : (decide (¬ b2i b = I 0)) = b := by rw [← gl0]; exact b2ne b
