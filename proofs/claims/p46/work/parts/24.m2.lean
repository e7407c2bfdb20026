theorem wr_mark1 {t p i : Int} {S : MS} (h : WR t S) (ht : t + 1 ≤ 600) (hp : 0 ≤ p) (hp' : p < 5) (hi : 0 ≤ i) (hi' : i < mf S 3) : WR (t + 1) (marked1 S p i) := by
  have hn := h.nn
  have hpp := h.ps hp hp'
  unfold marked1
  refine ⟨?_, fun z h0 h1 => ?_, fun i h0 h1 => ?_, fun v h0 h1 => ?_, fun v h0 h1 d h2 h3 => ?_, fun q j h0 h1 h2 h3 => ?_, fun q h0 h1 => ?_, fun k h0 h1 => ?_⟩
  · simp [ma_setf, ml_setf, mf_setf, ma_seta, ml_seta, mf_seta, ma_setl, ml_setl, mf_setl]; omega
  · have := h.zn h0 h1; simp [ma_setf, ml_setf, mf_setf, ma_seta, ml_seta, mf_seta, ma_setl, ml_setl, mf_setl]; omega
  · have := h.mt h0 h1; simp [ma_setf, ml_setf, mf_setf, ma_seta, ml_seta, mf_seta, ma_setl, ml_setl, mf_setl]; omega
  · have := h.vs h0 h1; simp [ma_setf, ml_setf, mf_setf, ma_seta, ml_seta, mf_seta, ma_setl, ml_setl, mf_setl]; omega
  · have := h.dl h0 h1 h2 h3; simp [ma_setf, ml_setf, mf_setf, ma_seta, ml_seta, mf_seta, ma_setl, ml_setl, mf_setl]; omega
  · have := h.cp h0 h1 h2 h3
    simp [ma_setf, ml_setf, mf_setf, ma_seta, ml_seta, mf_seta, ma_setl, ml_setl, mf_setl]
    by_cases e1 : q = p
    · subst e1
      by_cases e2 : j = i
      · subst e2; simp; omega
      · rw [if_neg (by omega)]; simp; omega
    · rw [if_neg (by omega), if_neg e1]; omega
  · have := h.ps h0 h1
    simp [ma_setf, ml_setf, mf_setf, ma_seta, ml_seta, mf_seta, ma_setl, ml_setl, mf_setl]
    by_cases e1 : q = p
    · subst e1; simp; omega
    · rw [if_neg e1]; omega
  · have := h.ms h0 h1; simp [ma_setf, ml_setf, mf_setf, ma_seta, ml_seta, mf_seta, ma_setl, ml_setl, mf_setl]; omega
theorem wr_marks {t p i : Int} {S : MS} (h : WR t S) (ht : t + 1 ≤ 600) (hp : 0 ≤ p) (hp' : p < 5) (hi : 0 ≤ i) (hi' : i < mf S 3) : WR (t + 1) (sMarks S p i) := by
  have h' := wr_mark1 h ht hp hp' hi hi'
  have hn := h.nn
  unfold sMarks
  split
  next c =>
    have hg := goneTo_r (marked1 S p i) p (mf S 3).toNat
    generalize goneTo (marked1 S p i) p (mf S 3).toNat = g at c hg ⊢
    generalize marked1 S p i = S1 at h' ⊢
    have he := h'.cp hp hp' (i := g.2) (by omega) (by omega)
    refine ⟨?_, fun z h0 h1 => ?_, fun i h0 h1 => ?_, fun v h0 h1 => ?_, fun v h0 h1 d h2 h3 => ?_, fun q j h0 h1 h2 h3 => ?_, fun q h0 h1 => ?_, fun k h0 h1 => ?_⟩
    · have := h'.nn; simp [ma_setf, ml_setf, mf_setf, ma_seta, ml_seta, mf_seta, ma_setl, ml_setl, mf_setl]; omega
    · have := h'.zn h0 h1; simp [ma_setf, ml_setf, mf_setf, ma_seta, ml_seta, mf_seta, ma_setl, ml_setl, mf_setl]; omega
    · have := h'.mt h0 h1; simp [ma_setf, ml_setf, mf_setf, ma_seta, ml_seta, mf_seta, ma_setl, ml_setl, mf_setl]; omega
    · have := h'.vs h0 h1; simp [ma_setf, ml_setf, mf_setf, ma_seta, ml_seta, mf_seta, ma_setl, ml_setl, mf_setl]; omega
    · have := h'.dl h0 h1 h2 h3; simp [ma_setf, ml_setf, mf_setf, ma_seta, ml_seta, mf_seta, ma_setl, ml_setl, mf_setl]; omega
    · have := h'.cp h0 h1 h2 h3
      have := h'.ps h0 h1
      simp [ma_setf, ml_setf, mf_setf, ma_seta, ml_seta, mf_seta, ma_setl, ml_setl, mf_setl]
      split <;> omega
    · have := h'.ps h0 h1
      simp [ma_setf, ml_setf, mf_setf, ma_seta, ml_seta, mf_seta, ma_setl, ml_setl, mf_setl]
      by_cases e1 : q = p
      · subst e1; simp; omega
      · rw [if_neg e1]; omega
    · have := h'.ms h0 h1; simp [ma_setf, ml_setf, mf_setf, ma_seta, ml_seta, mf_seta, ma_setl, ml_setl, mf_setl]; omega
  next => exact h'
