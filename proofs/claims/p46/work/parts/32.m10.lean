def mkS (S : MS) (p z d c l : Int) : MS := setf (setf (seta (seta (seta (seta (seta (seta (seta (seta S 4 (mf S 3) p) 10 (mf S 7) z) 11 (mf S 7) d) 12 (mf S 7) c) 13 (mf S 7) l) 14 (mf S 7) 1) 15 (mf S 7) 127) 16 (mf S 7) 1) 3 (mf S 3 + 1)) 7 (mf S 7 + 1)
theorem wr_mk {t p z d c l : Int} {S : MS} (h : WR t S) (hf : FRV S) (hm : mf S 3 < 8) (hv : mf S 7 < 158) (h0 : 0 ≤ p) (h1 : p < 5) (h2 : 0 ≤ z) (h3 : z < 3) (h4 : 0 ≤ d) (h5 : d < 60) (h6 : 0 ≤ c) (h7 : c < 24) (h8 : 1 ≤ l) (h9 : l ≤ 23) : WR t (mkS S p z d c l) := by
  have hn := h.nn
  unfold mkS
  refine ⟨?_, fun z g0 g1 => ?_, fun j g0 g1 => ?_, fun v g0 g1 => ?_, fun v g0 g1 d g2 g3 => ?_, fun q j g0 g1 g2 g3 => ?_, fun q g0 g1 => ?_, fun k g0 g1 => ?_⟩
  · simp [ma_setf, ml_setf, mf_setf, ma_seta, ml_seta, mf_seta, ma_setl, ml_setl, mf_setl]; omega
  · have := h.zn g0 g1; simp [ma_setf, ml_setf, mf_setf, ma_seta, ml_seta, mf_seta, ma_setl, ml_setl, mf_setl]; omega
  · simp [ma_setf, ml_setf, mf_setf, ma_seta, ml_seta, mf_seta, ma_setl, ml_setl, mf_setl] at g1 ⊢
    by_cases e : j = mf S 3
    · have := hf.2.1 j (by omega) (by omega)
      rw [if_pos e]; omega
    · have := h.mt g0 (show j < mf S 3 by omega)
      rw [if_neg e]; omega
  · simp [ma_setf, ml_setf, mf_setf, ma_seta, ml_seta, mf_seta, ma_setl, ml_setl, mf_setl] at g1 ⊢
    by_cases e : v = mf S 7
    · have := (hf.1 v (by omega) (by omega)).1
      simp only [e, if_true]
      rw [e] at this
      omega
    · have := h.vs g0 (show v < mf S 7 by omega)
      simp only [e, if_false]; exact this
  · simp [ma_setf, ml_setf, mf_setf, ma_seta, ml_seta, mf_seta, ma_setl, ml_setl, mf_setl] at g1 ⊢
    by_cases e : v = mf S 7
    · have := (hf.1 v (by omega) (by omega)).2.2 d g2 g3
      rw [this]; omega
    · exact h.dl g0 (by omega) g2 g3
  · have := h.cp g0 g1 g2 g3; simp [ma_setf, ml_setf, mf_setf, ma_seta, ml_seta, mf_seta, ma_setl, ml_setl, mf_setl]; omega
  · have := h.ps g0 g1; simp [ma_setf, ml_setf, mf_setf, ma_seta, ml_seta, mf_seta, ma_setl, ml_setl, mf_setl]; omega
  · simp [ma_setf, ml_setf, mf_setf, ma_seta, ml_seta, mf_seta, ma_setl, ml_setl, mf_setl] at g1 ⊢
    have := h.ms g0 g1; omega
def sMake (S : MS) (p z d c l : Int) : MS := sHold (mkS S p z d c l) (mf S 3) (mf S 7)
def gZ (z : Int) : Bool := decide (0 ≤ z ∧ z ≤ 2)
