theorem rep_f (S : MS) (p i d w : Int) (J : Nat) : mf (sRep S p i d w) J = if J = 30 then mf S 30 + 1 else if J = 29 then mf S 29 + 1 else mf S J := by
  unfold sRep
  rw [sMarks_f]; rfl
theorem rep_a (S : MS) (p i d w : Int) (J : Nat) (y : Int) (hJ : J < 26) : ma (sRep S p i d w) J y = ma S J y := by
  unfold sRep
  rw [sMarks_9 _ _ _ _ (by omega) (by omega) (by omega)]
  unfold sRep1
  simp only [ma_setf, ml_setf, mf_setf, ma_seta, ml_seta, mf_seta, ma_setl, ml_setl, mf_setl]
  rw [if_neg (by omega), if_neg (by omega), if_neg (by omega), if_neg (by omega), sAdds_ma (by omega)]
theorem wr_other {t k o : Int} {S : MS} (h : WR t S) (h0 : 0 ≤ o) (h1 : o < 5) : WR t (seta S 40 k o) := by
  refine ⟨?_, fun z g0 g1 => ?_, fun j g0 g1 => ?_, fun v g0 g1 => ?_, fun v g0 g1 d g2 g3 => ?_, fun q j g0 g1 g2 g3 => ?_, fun q g0 g1 => ?_, fun k g0 g1 => ?_⟩
  · exact h.nn
  · have := h.zn g0 g1; simp [ma_setf, ml_setf, mf_setf, ma_seta, ml_seta, mf_seta, ma_setl, ml_setl, mf_setl]; omega
  · have := h.mt g0 g1; simp [ma_setf, ml_setf, mf_setf, ma_seta, ml_seta, mf_seta, ma_setl, ml_setl, mf_setl]; omega
  · have := h.vs g0 g1; simp [ma_setf, ml_setf, mf_setf, ma_seta, ml_seta, mf_seta, ma_setl, ml_setl, mf_setl]; exact this
  · have := h.dl g0 g1 g2 g3; simp [ma_setf, ml_setf, mf_setf, ma_seta, ml_seta, mf_seta, ma_setl, ml_setl, mf_setl]; exact this
  · have := h.cp g0 g1 g2 g3; simp [ma_setf, ml_setf, mf_setf, ma_seta, ml_seta, mf_seta, ma_setl, ml_setl, mf_setl]; exact this
  · have := h.ps g0 g1; simp [ma_setf, ml_setf, mf_setf, ma_seta, ml_seta, mf_seta, ma_setl, ml_setl, mf_setl]; omega
  · have := h.ms g0 g1; simp [ma_setf, ml_setf, mf_setf, ma_seta, ml_seta, mf_seta, ma_setl, ml_setl, mf_setl]; split <;> omega
def gO (S : MS) (p i o : Int) : Bool := decide (¬ o = p) && decide (¬ o = ma S 4 i)
def sProp (S : MS) (p i d c : Int) : MS := seta (seta (seta (sAdds S 2 p (ma S 4 i) i) 36 (mf S 29) (ma S 9 (ma S 25 (8 * p + i)))) 37 (mf S 29) d) 41 (mf S 29) c
def MQS (S : MS) : Prop := mf S 30 ≤ mf S 29 ∧ ∀ k, 0 ≤ k → k < mf S 29 → ma S 31 k = 2 → 0 ≤ ma S 37 k
def isOpenB (S : MS) (k : Int) : Bool := decide (ma S 31 k = 2) && decide (¬ ma S 42 k = 0) && !decide (¬ ma S 43 k = 0) && !decide (¬ ma S 19 (ma S 5 (ma S 34 k)) = 0) && hl (ml S 23 (ma S 5 (ma S 34 k))) (ma S 37 k) && decide (standOf S (ma S 5 (ma S 34 k)) (ma S 37 k) ≤ ma S 36 k)
def cntO (S : MS) (i : Int) : Nat → Int
  | 0 => 0
  | j + 1 => cntO S i j + (if (decide (ma S 34 j = i) && isOpenB S j) = true then 1 else 0)
def opens (S : MS) (i : Int) : Int := cntO S i (mf S 29).toNat
theorem cntO_r (S : MS) (i : Int) : ∀ j, 0 ≤ cntO S i j ∧ cntO S i j ≤ j := by
  intro j
  induction j with
  | zero => exact ⟨Int.le_refl _, Int.le_refl _⟩
  | succ j ih => unfold cntO; split <;> omega
def gK (S : MS) (k : Int) : Bool := decide (0 ≤ k ∧ k < mf S 29)
theorem wr_set43 {t k : Int} {S : MS} (h : WR t S) : WR t (seta S 43 k 1) := by
  refine ⟨h.nn, fun z g0 g1 => ?_, fun j g0 g1 => ?_, fun v g0 g1 => ?_, fun v g0 g1 d g2 g3 => ?_, fun q j g0 g1 g2 g3 => ?_, fun q g0 g1 => ?_, fun k g0 g1 => ?_⟩
  · have := h.zn g0 g1; simp [ma_setf, ml_setf, mf_setf, ma_seta, ml_seta, mf_seta, ma_setl, ml_setl, mf_setl]; omega
  · have := h.mt g0 g1; simp [ma_setf, ml_setf, mf_setf, ma_seta, ml_seta, mf_seta, ma_setl, ml_setl, mf_setl]; omega
  · have := h.vs g0 g1; simp [ma_setf, ml_setf, mf_setf, ma_seta, ml_seta, mf_seta, ma_setl, ml_setl, mf_setl]; exact this
  · have := h.dl g0 g1 g2 g3; simp [ma_setf, ml_setf, mf_setf, ma_seta, ml_seta, mf_seta, ma_setl, ml_setl, mf_setl]; exact this
  · have := h.cp g0 g1 g2 g3; simp [ma_setf, ml_setf, mf_setf, ma_seta, ml_seta, mf_seta, ma_setl, ml_setl, mf_setl]; exact this
  · have := h.ps g0 g1; simp [ma_setf, ml_setf, mf_setf, ma_seta, ml_seta, mf_seta, ma_setl, ml_setl, mf_setl]; omega
  · have := h.ms g0 g1; simp [ma_setf, ml_setf, mf_setf, ma_seta, ml_seta, mf_seta, ma_setl, ml_setl, mf_setl]; split <;> omega
theorem wr_set42 {t k : Int} {S : MS} (h : WR t S) : WR t (seta S 42 k 1) := by
  refine ⟨h.nn, fun z g0 g1 => ?_, fun j g0 g1 => ?_, fun v g0 g1 => ?_, fun v g0 g1 d g2 g3 => ?_, fun q j g0 g1 g2 g3 => ?_, fun q g0 g1 => ?_, fun k g0 g1 => ?_⟩
  · have := h.zn g0 g1; simp [ma_setf, ml_setf, mf_setf, ma_seta, ml_seta, mf_seta, ma_setl, ml_setl, mf_setl]; omega
  · have := h.mt g0 g1; simp [ma_setf, ml_setf, mf_setf, ma_seta, ml_seta, mf_seta, ma_setl, ml_setl, mf_setl]; omega
  · have := h.vs g0 g1; simp [ma_setf, ml_setf, mf_setf, ma_seta, ml_seta, mf_seta, ma_setl, ml_setl, mf_setl]; exact this
  · have := h.dl g0 g1 g2 g3; simp [ma_setf, ml_setf, mf_setf, ma_seta, ml_seta, mf_seta, ma_setl, ml_setl, mf_setl]; exact this
  · have := h.cp g0 g1 g2 g3; simp [ma_setf, ml_setf, mf_setf, ma_seta, ml_seta, mf_seta, ma_setl, ml_setl, mf_setl]; exact this
  · have := h.ps g0 g1; simp [ma_setf, ml_setf, mf_setf, ma_seta, ml_seta, mf_seta, ma_setl, ml_setl, mf_setl]; omega
  · have := h.ms g0 g1; simp [ma_setf, ml_setf, mf_setf, ma_seta, ml_seta, mf_seta, ma_setl, ml_setl, mf_setl]; split <;> omega
theorem fr_set43 {k : Int} {S : MS} (hf : FRV S) (hk : k < mf S 29) : FRV (seta S 43 k 1) := by
  refine ⟨fun u g0 g1 => ?_, fun j g0 g1 => ?_, fun y g0 g1 => ?_⟩
  · have := hf.1 u g0 g1; simp [ma_setf, ml_setf, mf_setf, ma_seta, ml_seta, mf_seta, ma_setl, ml_setl, mf_setl]; exact this
  · have := hf.2.1 j g0 g1; simp [ma_setf, ml_setf, mf_setf, ma_seta, ml_seta, mf_seta, ma_setl, ml_setl, mf_setl]; exact this
  · have g0 : mf S 29 ≤ y := g0
    have := hf.2.2 y g0 g1; simp [ma_setf, ml_setf, mf_setf, ma_seta, ml_seta, mf_seta, ma_setl, ml_setl, mf_setl]; rw [if_neg (by omega)]; exact this
def sTake (S : MS) (k : Int) : MS := sMove (seta S 43 k 1) (ma S 34 k) (ma S 37 k) (ma S 41 k)
