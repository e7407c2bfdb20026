def sAdds (S : MS) (w f r i : Int) : MS := setf (seta (seta (seta (seta (seta (seta S 31 (mf S 29) w) 32 (mf S 29) f) 33 (mf S 29) r) 34 (mf S 29) i) 35 (mf S 29) (-1)) 37 (mf S 29) (-1)) 29 (mf S 29 + 1)
def sReq (S : MS) (f r i v : Int) : MS := seta (seta (seta (sAdds S 0 f r i) 35 (mf S 29) v) 8 v 1) 36 (mf S 29) (ma S 9 v)
theorem wr_req {t f r i v : Int} {S : MS} (h : WR t S) (hf : FRV S) (h1 : mf S 29 < 150) (a2 : 0 ≤ f) (a3 : f < 5) (a4 : 0 ≤ r) (a5 : r < 5) (a6 : 0 ≤ i) (a7 : i < mf S 3) (a8 : 0 ≤ v) (a9 : v < mf S 7) : WR t (sReq S f r i v) := by
  have hn := h.nn
  have hv := h.vs a8 a9
  have hfk := hf.2.2 (mf S 29) (by omega) (by omega)
  unfold sReq sAdds
  refine ⟨?_, fun z g0 g1 => ?_, fun j g0 g1 => ?_, fun v g0 g1 => ?_, fun v g0 g1 d g2 g3 => ?_, fun q j g0 g1 g2 g3 => ?_, fun q g0 g1 => ?_, fun k g0 g1 => ?_⟩
  · simp [ma_setf, ml_setf, mf_setf, ma_seta, ml_seta, mf_seta, ma_setl, ml_setl, mf_setl]; omega
  · have := h.zn g0 g1; simp [ma_setf, ml_setf, mf_setf, ma_seta, ml_seta, mf_seta, ma_setl, ml_setl, mf_setl]; omega
  · simp [ma_setf, ml_setf, mf_setf, ma_seta, ml_seta, mf_seta, ma_setl, ml_setl, mf_setl] at g1 ⊢
    have := h.mt g0 g1; omega
  · simp [ma_setf, ml_setf, mf_setf, ma_seta, ml_seta, mf_seta, ma_setl, ml_setl, mf_setl] at g1 ⊢
    have := h.vs g0 g1
    split <;> omega
  · simp [ma_setf, ml_setf, mf_setf, ma_seta, ml_seta, mf_seta, ma_setl, ml_setl, mf_setl] at g1 ⊢
    exact h.dl g0 g1 g2 g3
  · simp [ma_setf, ml_setf, mf_setf, ma_seta, ml_seta, mf_seta, ma_setl, ml_setl, mf_setl]
    exact h.cp g0 g1 g2 g3
  · have := h.ps g0 g1; simp [ma_setf, ml_setf, mf_setf, ma_seta, ml_seta, mf_seta, ma_setl, ml_setl, mf_setl]; omega
  · simp [ma_setf, ml_setf, mf_setf, ma_seta, ml_seta, mf_seta, ma_setl, ml_setl, mf_setl] at g1 ⊢
    by_cases e : k = mf S 29
    · simp only [e, if_true]; omega
    · have := h.ms g0 (show k < mf S 29 by omega)
      simp only [e, if_false]; exact this
theorem fr_req {f r i v : Int} {S : MS} (hf : FRV S) (a8 : 0 ≤ v) (a9 : v < mf S 7) : FRV (sReq S f r i v) := by
  unfold sReq sAdds
  refine ⟨fun u g0 g1 => ?_, fun j g0 g1 => ?_, fun k g0 g1 => ?_⟩
  · simp [ma_setf, ml_setf, mf_setf, ma_seta, ml_seta, mf_seta, ma_setl, ml_setl, mf_setl] at g0 ⊢
    rw [if_neg (by omega)]
    exact hf.1 u g0 g1
  · simp [ma_setf, ml_setf, mf_setf, ma_seta, ml_seta, mf_seta, ma_setl, ml_setl, mf_setl] at g0 ⊢
    exact hf.2.1 j g0 g1
  · simp [ma_setf, ml_setf, mf_setf, ma_seta, ml_seta, mf_seta, ma_setl, ml_setl, mf_setl] at g0 ⊢
    have := hf.2.2 k (by omega) g1
    rw [if_neg (by omega)]; exact this
def sSendTo (S : MS) (i set : Int) : Nat → MS
  | 0 => S
  | j + 1 => if hb set j = true then sReq (sSendTo S i set j) (ma S 4 i) j i (ma S 5 i) else sSendTo S i set j
def cntB (set : Int) : Nat → Int
  | 0 => 0
  | j + 1 => cntB set j + (if hb set j = true then 1 else 0)
theorem cntB_r (set : Int) : ∀ j, 0 ≤ cntB set j ∧ cntB set j ≤ j := by
  intro j
  induction j with
  | zero => exact ⟨Int.le_refl _, Int.le_refl _⟩
  | succ j ih => unfold cntB; split <;> omega
theorem cntB_mono (set : Int) (j n : Nat) : cntB set j ≤ cntB set (j + n) := by
  induction n with
  | zero => exact Int.le_refl _
  | succ n ih =>
    show cntB set j ≤ cntB set (j + n) + (if hb set (j + n : Nat) = true then 1 else 0)
    split <;> omega
theorem sReq_ma {S : MS} {f r i v : Int} {K : Nat} {y : Int} (h : (9 ≤ K ∧ K ≤ 28) ∨ K < 8) : ma (sReq S f r i v) K y = ma S K y := by
  unfold sReq sAdds
  simp only [ma_setf, ml_setf, mf_setf, ma_seta, ml_seta, mf_seta, ma_setl, ml_setl, mf_setl]
  rw [if_neg (by omega), if_neg (by omega), if_neg (by omega), if_neg (by omega), if_neg (by omega), if_neg (by omega), if_neg (by omega), if_neg (by omega), if_neg (by omega)]
theorem sReq_mf {S : MS} {f r i v : Int} {K : Nat} : mf (sReq S f r i v) K = if K = 29 then mf S 29 + 1 else mf S K := rfl
theorem sSendTo_f {t i set : Int} {S : MS} (h : WR t S) (hf : FRV S) (hi : 0 ≤ i) (hi' : i < mf S 3) (hc : mf S 29 + cntB set 5 ≤ 150) : ∀ j : Nat, j ≤ 5 → WR t (sSendTo S i set j) ∧ FRV (sSendTo S i set j) ∧ mf (sSendTo S i set j) 29 = mf S 29 + cntB set j ∧ mf (sSendTo S i set j) 3 = mf S 3 ∧ mf (sSendTo S i set j) 7 = mf S 7 ∧ ma (sSendTo S i set j) 4 i = ma S 4 i ∧ ma (sSendTo S i set j) 5 i = ma S 5 i := by
  have hm := h.mt hi hi'
  intro j
  induction j with
  | zero => intro _; exact ⟨h, hf, (Int.add_zero _).symm, rfl, rfl, rfl, rfl⟩
  | succ j ih =>
    intro hj
    obtain ⟨q1, q2, q3, q4, q5, q6, q7⟩ := ih (by omega)
    have hcm := cntB_mono set (j + 1) (5 - (j + 1))
    rw [show j + 1 + (5 - (j + 1)) = 5 by omega] at hcm
    unfold sSendTo
    have e : cntB set (j + 1) = cntB set j + (if hb set j = true then 1 else 0) := rfl
    rw [e] at hcm ⊢
    by_cases g : hb set j = true
    · rw [if_pos g] at hcm ⊢
      rw [if_pos g]
      refine ⟨wr_req q1 q2 (by omega) (by omega) (by omega) (by omega) (by omega) hi (by omega) (by omega) (by omega), fr_req q2 (by omega) (by omega), ?_, ?_, ?_, ?_, ?_⟩
      · rw [sReq_mf, if_pos rfl, q3]; omega
      · rw [sReq_mf, if_neg (by decide), q4]
      · rw [sReq_mf, if_neg (by decide), q5]
      · rw [sReq_ma (by omega), q6]
      · rw [sReq_ma (by omega), q7]
    · rw [if_neg g, if_neg g]
      exact ⟨q1, q2, by omega, q4, q5, q6, q7⟩
theorem bit_v (x p : Int) : (I x >>> (I p &&& 31)) &&& (1 : Int32) = I (if hb x p = true then 1 else 0) := by
  by_cases g : hb x p = true
  · rw [if_pos g]; exact of_decide_eq_true g
  · rw [if_neg g]
    have := hb_d0 x p
    rw [Bool.eq_false_iff.mpr g] at this
    exact of_decide_eq_true this
theorem or_dec : ∀ x, x < 32 → ∀ y, y < 32 → 0 ≤ (I (x : Nat) ||| I (y : Nat)).toInt ∧ (I (x : Nat) ||| I (y : Nat)).toInt < 32 := by decide +kernel
def ori (x y : Int) : Int := (I x ||| I y).toInt
theorem I_or (x y : Int) : I x ||| I y = I (ori x y) := (I_toInt _).symm
theorem or_r {x y : Int} (h0 : 0 ≤ x) (h1 : x < 32) (h2 : 0 ≤ y) (h3 : y < 32) : 0 ≤ ori x y ∧ ori x y < 32 := by
  obtain ⟨a, rfl⟩ := Int.eq_ofNat_of_zero_le h0
  obtain ⟨b, rfl⟩ := Int.eq_ofNat_of_zero_le h2
  exact or_dec a (by omega) b (by omega)
def sendSet (S : MS) (i : Int) : Int := if gM S i = true then ori (ori (asked S i) (ma S 18 (ma S 5 i))) (ma S 6 i) else 0
def sSend (S : MS) (i : Int) : MS := seta (sSendTo S i (sendSet S i) 5) 6 i (sendSet S i)
theorem asked_r {t i : Int} {S : MS} (h : WR t S) (hi : 0 ≤ i) (hi' : i < mf S 3) : 0 ≤ asked S i ∧ asked S i < 32 := by
  have hm := h.mt hi hi'
  have hv := h.vs hm.2.1.1 hm.2.1.2
  exact askAll_r h hv.2.2.2.2.2.2.2.2.2.1.1 hv.2.2.2.2.2.2.2.2.2.1.2 5
theorem sendSet_r {t i : Int} {S : MS} (h : WR t S) : 0 ≤ sendSet S i ∧ sendSet S i < 32 := by
  unfold sendSet
  split
  next g =>
    have g1 : 0 ≤ i ∧ i < mf S 3 := of_decide_eq_true g
    have hm := h.mt g1.1 g1.2
    have hv := h.vs hm.2.1.1 hm.2.1.2
    have ha := asked_r h g1.1 g1.2
    have h1 := or_r ha.1 ha.2 hv.2.2.2.2.2.2.2.2.2.2.1.1 hv.2.2.2.2.2.2.2.2.2.2.1.2
    exact or_r h1.1 h1.2 hm.2.2.1 hm.2.2.2
  next => omega
