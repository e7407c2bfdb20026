/-! make -/
theorem setf_seta (S : MS) (K J : Nat) (z v x : Int) : seta (setf S K v) J z x = setf (seta S J z x) K v := rfl
theorem setf_setl (S : MS) (K J : Nat) (z v : Int) (x : Int64) : setl (setf S K v) J z x = setf (setl S J z x) K v := rfl
def mkS (S : MS) (p z d c l : Int) : MS := setf (setf (seta (seta (seta (seta (seta (seta (seta (seta S 4 (mf S 3) p) 10 (mf S 7) z) 11 (mf S 7) d) 12 (mf S 7) c) 13 (mf S 7) l) 14 (mf S 7) 1) 15 (mf S 7) 127) 16 (mf S 7) 1) 3 (mf S 3 + 1)) 7 (mf S 7 + 1)
theorem wr_mk {t p z d c l : Int} {S : MS} (h : WR t S) (hf : FRV S) (hm : mf S 3 < 8) (hv : mf S 7 < 158) (h0 : 0 ≤ p) (h1 : p < 5) (h2 : 0 ≤ z) (h3 : z < 3) (h4 : 0 ≤ d) (h5 : d < 60) (h6 : 0 ≤ c) (h7 : c < 24) (h8 : 1 ≤ l) (h9 : l ≤ 23) : WR t (mkS S p z d c l) := by
  have hn := h.nn
  unfold mkS
  refine ⟨?_, fun z g0 g1 => ?_, fun j g0 g1 => ?_, fun v g0 g1 => ?_, fun v g0 g1 d g2 g3 => ?_, fun q j g0 g1 g2 g3 => ?_, fun q g0 g1 => ?_, fun k g0 g1 => ?_⟩
  · simp [ma_setf, ml_setf, mf_setf, ma_seta, ml_seta, mf_seta, ma_setl, ml_setl, mf_setl]; omega
  · have := h.zn g0 g1; simp [ma_setf, ml_setf, mf_setf, ma_seta, ml_seta, mf_seta, ma_setl, ml_setl, mf_setl]; omega
  · simp [ma_setf, ml_setf, mf_setf, ma_seta, ml_seta, mf_seta, ma_setl, ml_setl, mf_setl] at g1 ⊢
    by_cases e : j = mf S 3
    · have := hf.2.1 j (by omega) (by omega)
      rw [if_pos e]; omega
    · have := h.mt g0 (show j < mf S 3 by omega)
      rw [if_neg e]; omega
  · simp [ma_setf, ml_setf, mf_setf, ma_seta, ml_seta, mf_seta, ma_setl, ml_setl, mf_setl] at g1 ⊢
    by_cases e : v = mf S 7
    · have := (hf.1 v (by omega) (by omega)).1
      simp only [e, if_true]
      rw [e] at this
      omega
    · have := h.vs g0 (show v < mf S 7 by omega)
      simp only [e, if_false]; exact this
  · simp [ma_setf, ml_setf, mf_setf, ma_seta, ml_seta, mf_seta, ma_setl, ml_setl, mf_setl] at g1 ⊢
    by_cases e : v = mf S 7
    · have := (hf.1 v (by omega) (by omega)).2.2 d g2 g3
      rw [this]; omega
    · exact h.dl g0 (by omega) g2 g3
  · have := h.cp g0 g1 g2 g3; simp [ma_setf, ml_setf, mf_setf, ma_seta, ml_seta, mf_seta, ma_setl, ml_setl, mf_setl]; omega
  · have := h.ps g0 g1; simp [ma_setf, ml_setf, mf_setf, ma_seta, ml_seta, mf_seta, ma_setl, ml_setl, mf_setl]; omega
  · simp [ma_setf, ml_setf, mf_setf, ma_seta, ml_seta, mf_seta, ma_setl, ml_setl, mf_setl] at g1 ⊢
    have := h.ms g0 g1; omega
def sMake (S : MS) (p z d c l : Int) : MS := sHold (mkS S p z d c l) (mf S 3) (mf S 7)
def gZ (z : Int) : Bool := decide (0 ≤ z ∧ z ≤ 2)
theorem e_make {t p z d c l : Int} {S : MS} (h : VOK t S) (hv : mf S 3 < 8 → mf S 7 < 158) (a0 : -2147483648 ≤ p) (a1 : p < 2147483648) (a2 : -2147483648 ≤ z) (a3 : z < 2147483648) (a4 : -2147483648 ≤ d) (a5 : d < 2147483648) (a6 : -2147483648 ≤ c) (a7 : c < 2147483648) (a8 : -2147483648 ≤ l) (a9 : l < 2147483648) :
    P_X7_make (I p) (I z) (I d) (I c) (I l) S = if (gP p && gZ z && gT d c l && decide (mf S 3 < 8)) = true then some (I (mf S 3), sMake (setf S 45 0) p z d c l) else some (I 0, setf S 45 (gc (gP p && gZ z) (gT d c l) (decide (mf S 3 < 8)))) := by
  have hn := h.1.nn
  unfold P_X7_make
  have e8 : decide (I (mf S 3) < (8 : Int32)) = decide (mf S 3 < 8) := by
    rw [gl8]; simp only [I_lt (show -2147483648 ≤ mf S 3 by omega) (show mf S 3 < 2147483648 by omega) (show (-2147483648 : Int) ≤ 8 by omega) (show (8 : Int) < 2147483648 by omega)]
  rw [e_isPerson a0 a1, pb_pp, nb, e_isZone a2 a3, pb_pp, nb, ifp, pb_pp, e_isTime a4 a5 a6 a7 a8 a9, pb_pp, r_gi, e8, pb_ok (e_goes _ _ _ _)]
  show (if (!decide (¬ b2i ((gP p && gZ z) && gT d c l && decide (mf S 3 < 8)) = 0)) = true then pp 0 else _) (setf S 45 (gc (gP p && gZ z) (gT d c l) (decide (mf S 3 < 8)))) = _
  by_cases g : (gP p && gZ z && gT d c l && decide (mf S 3 < 8)) = true
  · rw [if_pos g, gc0 g, g, if_neg (by decide)]
    have gg := g
    simp only [Bool.and_eq_true] at gg
    obtain ⟨⟨⟨g1, g2⟩, g3⟩, g4⟩ := gg
    have g1 : 0 ≤ p ∧ p ≤ 4 := of_decide_eq_true g1
    have g2 : 0 ≤ z ∧ z ≤ 2 := of_decide_eq_true g2
    have g3 : (0 ≤ d ∧ d ≤ 59) ∧ (0 ≤ c ∧ c ≤ 23) ∧ (1 ≤ l ∧ l ≤ 23) := of_decide_eq_true g3
    have g4 : mf S 3 < 8 := of_decide_eq_true g4
    have g5 := hv g4
    have hS := h.thr 0
    have q3 : mf (setf S 45 0) 3 = mf S 3 := rfl
    have q7 : mf (setf S 45 0) 7 = mf S 7 := rfl
    rw [← q3] at g4 ⊢
    rw [← q7] at g5
    generalize setf S 45 0 = S0 at hS q3 q7 g4 g5 ⊢
    have hn0 := hS.1.nn
    have hw := wr_mk (p := p) (z := z) (d := d) (c := c) (l := l) hS.1 hS.2.2.1 g4 g5 (by omega) (by omega) (by omega) (by omega) (by omega) (by omega) (by omega) (by omega) (by omega) (by omega)
    rw [gl1, gl127]
    rw [r_gi, gw4 (by omega) (by omega) (by omega) (by omega)]
    simp only [r_gi, mf_seta]
    rw [gw10 (by omega) (by omega) (by omega) (by omega)]
    simp only [r_gi, mf_seta]
    rw [gw11 (by omega) (by omega) (by omega) (by omega)]
    simp only [r_gi, mf_seta]
    rw [gw12 (by omega) (by omega) (by omega) (by omega)]
    simp only [r_gi, mf_seta]
    rw [gw13 (by omega) (by omega) (by omega) (by omega)]
    simp only [r_gi, mf_seta]
    rw [gw14 (by omega) (by omega) (by omega) (by omega)]
    simp only [r_gi, mf_seta]
    rw [gw15 (by omega) (by omega) (by omega) (by omega)]
    simp only [r_gi, mf_seta]
    rw [gw16 (by omega) (by omega) (by omega) (by omega)]
    simp only [r_gi, mf_seta, I_add]
    rw [w_si (by omega) (by omega)]
    simp only [r_gi, mf_seta, mf_setf, I_add, Nat.reduceEqDiff, if_false]
    rw [w_si (by omega) (by omega)]
    simp only [r_gi, mf_seta, mf_setf, I_add, I_sub, Nat.reduceEqDiff, if_false, if_true]
    rw [show mf S0 3 + 1 - 1 = mf S0 3 by omega, show mf S0 7 + 1 - 1 = mf S0 7 by omega]
    have e3 : mf (mkS S0 p z d c l) 3 = mf S0 3 + 1 := rfl
    have e7 : mf (mkS S0 p z d c l) 7 = mf S0 7 + 1 := rfl
    have hh := e_holds (i := mf S0 3) (v := mf S0 7) hw (by have := hS.2.1; omega) (by omega) (by omega) (by omega) (by omega)
    refine Eq.trans (pb_ok hh) ?_
    have ef : mf (sHold (mkS S0 p z d c l) (mf S0 3) (mf S0 7)) 3 = mf S0 3 + 1 := (sMarks_f _ _ _ _).trans rfl
    rw [r_gi, ef, I_sub, show mf S0 3 + 1 - 1 = mf S0 3 by omega]
    rfl
  · have g' : (gP p && gZ z && gT d c l && decide (mf S 3 < 8)) = false := Bool.eq_false_iff.mpr g
    rw [if_neg g, g', if_pos (by decide)]
    rfl
