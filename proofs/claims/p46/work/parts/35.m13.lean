def sRep1 (S : MS) (p i d w : Int) : MS := setf (seta (seta (seta (seta (sAdds S 1 p (ma S 4 i) i) 36 (mf S 29) (ma S 9 (ma S 25 (8 * p + i)))) 37 (mf S 29) d) 38 (mf S 29) w) 39 (mf S 29) (mf S 30)) 30 (mf S 30 + 1)
def sRep (S : MS) (p i d w : Int) : MS := sMarks (sRep1 S p i d w) p i
theorem sAdds_ma {S : MS} {w f r i : Int} {K : Nat} {y : Int} (h : K < 31) : ma (sAdds S w f r i) K y = ma S K y := by
  unfold sAdds
  simp only [ma_setf, ml_setf, mf_setf, ma_seta, ml_seta, mf_seta, ma_setl, ml_setl, mf_setl]
  rw [if_neg (by omega), if_neg (by omega), if_neg (by omega), if_neg (by omega), if_neg (by omega), if_neg (by omega)]
theorem wr_rep1 {t p i d w : Int} {S : MS} (h : WR t S) (hf : FRV S) (hr : mf S 30 ≤ mf S 29) (h1 : mf S 29 < 150) (a2 : 0 ≤ p) (a3 : p < 5) (a6 : 0 ≤ i) (a7 : i < mf S 3) (hc : ma S 25 (8 * p + i) ≠ -1) (a8 : -1 ≤ d) (a9 : d < 60) (b0 : 0 ≤ w) (b1 : w ≤ 4) : WR t (sRep1 S p i d w) := by
  have hn := h.nn
  have hm := h.mt a6 a7
  have hcc := h.cp a2 a3 a6 (by omega)
  have hv := h.vs (v := ma S 25 (8 * p + i)) (by omega) (by omega)
  have hfk := hf.2.2 (mf S 29) (by omega) (by omega)
  unfold sRep1 sAdds
  refine ⟨?_, fun z g0 g1 => ?_, fun j g0 g1 => ?_, fun v g0 g1 => ?_, fun v g0 g1 d g2 g3 => ?_, fun q j g0 g1 g2 g3 => ?_, fun q g0 g1 => ?_, fun k g0 g1 => ?_⟩
  · simp [ma_setf, ml_setf, mf_setf, ma_seta, ml_seta, mf_seta, ma_setl, ml_setl, mf_setl]; omega
  · have := h.zn g0 g1; simp [ma_setf, ml_setf, mf_setf, ma_seta, ml_seta, mf_seta, ma_setl, ml_setl, mf_setl]; omega
  · simp [ma_setf, ml_setf, mf_setf, ma_seta, ml_seta, mf_seta, ma_setl, ml_setl, mf_setl] at g1 ⊢
    have := h.mt g0 g1; omega
  · simp [ma_setf, ml_setf, mf_setf, ma_seta, ml_seta, mf_seta, ma_setl, ml_setl, mf_setl] at g1 ⊢
    exact h.vs g0 g1
  · simp [ma_setf, ml_setf, mf_setf, ma_seta, ml_seta, mf_seta, ma_setl, ml_setl, mf_setl] at g1 ⊢
    exact h.dl g0 g1 g2 g3
  · simp [ma_setf, ml_setf, mf_setf, ma_seta, ml_seta, mf_seta, ma_setl, ml_setl, mf_setl]
    exact h.cp g0 g1 g2 g3
  · have := h.ps g0 g1; simp [ma_setf, ml_setf, mf_setf, ma_seta, ml_seta, mf_seta, ma_setl, ml_setl, mf_setl]; omega
  · simp [ma_setf, ml_setf, mf_setf, ma_seta, ml_seta, mf_seta, ma_setl, ml_setl, mf_setl] at g1 ⊢
    by_cases e : k = mf S 29
    · simp only [e, if_true]; omega
    · have := h.ms g0 (show k < mf S 29 by omega)
      simp only [e, if_false]; exact this
def gA (d w : Int) : Bool := (decide (d = -1) || decide (0 ≤ d ∧ d ≤ 59)) && decide (1 ≤ w ∧ w ≤ 3)
def gHC (S : MS) (p i : Int) : Bool := decide (ma S 4 i ≠ p ∧ isHere S p i = true)
def gCD (S : MS) (p i d : Int) : Bool := hl (ml S 23 (ma S 25 (8 * p + i))) d
theorem hasCopy_c {t p i : Int} {S : MS} (h : WR t S) (a2 : 0 ≤ p) (a3 : p < 5) (a6 : 0 ≤ i) (a7 : i < mf S 3) (hc : gHC S p i = true) : 0 ≤ ma S 25 (8 * p + i) ∧ ma S 25 (8 * p + i) < mf S 7 ∧ ma S 4 i ≠ p := by
  have hn := h.nn
  have hcc := h.cp a2 a3 a6 (by omega)
  have := of_decide_eq_true hc
  unfold isHere at this
  rw [if_neg this.1] at this
  have := of_decide_eq_true this.2
  omega
def sDel (S : MS) (p i o : Int) : MS := sReq (seta (sRep S p i (-1) 4) 40 (mf S 29) o) p o i (ma S 25 (8 * p + i))
theorem fr_rep {p i d w : Int} {S : MS} (hf : FRV S) (hp : 0 ≤ p) (hp' : p < 5) (hi : 0 ≤ i) (hi' : i < mf S 3) (h8 : mf S 3 ≤ 8) : FRV (sRep S p i d w) := by
  unfold sRep
  have e3 : ∀ J, mf (sMarks (sRep1 S p i d w) p i) J = mf (sRep1 S p i d w) J := fun J => sMarks_f _ _ _ _
  have em := fun (J : Nat) (y : Int) (h1 : J ≠ 26) (h2 : J ≠ 27) (h3 : J ≠ 28) => sMarks_9 (sRep1 S p i d w) p i J h1 h2 h3 y
  have el := fun (J : Nat) (y : Int) => sMarks_l (sRep1 S p i d w) p i J y
  have k3 : mf (sRep1 S p i d w) 3 = mf S 3 := rfl
  have k7 : mf (sRep1 S p i d w) 7 = mf S 7 := rfl
  have k29 : mf (sRep1 S p i d w) 29 = mf S 29 + 1 := rfl
  have kl : ∀ J y, ml (sRep1 S p i d w) J y = ml S J y := fun _ _ => rfl
  have ka : ∀ (J : Nat) (y : Int), J < 31 → ma (sRep1 S p i d w) J y = ma S J y := fun J y hJ => by
    unfold sRep1
    simp only [ma_setf, ml_setf, mf_setf, ma_seta, ml_seta, mf_seta, ma_setl, ml_setl, mf_setl]
    rw [if_neg (by omega), if_neg (by omega), if_neg (by omega), if_neg (by omega), sAdds_ma hJ]
  refine ⟨fun u g0 g1 => ?_, fun j g0 g1 => ?_, fun k g0 g1 => ?_⟩
  · rw [e3, k7] at g0
    have := hf.1 u g0 g1
    rw [em 8 u (by decide) (by decide) (by decide), em 9 u (by decide) (by decide) (by decide), em 17 u (by decide) (by decide) (by decide), em 18 u (by decide) (by decide) (by decide), em 19 u (by decide) (by decide) (by decide), el, el, el, kl, kl, kl, ka 8 u (by decide), ka 9 u (by decide), ka 17 u (by decide), ka 18 u (by decide), ka 19 u (by decide)]
    refine ⟨this.1, this.2.1, fun d g2 g3 => ?_⟩
    rw [em 24 _ (by decide) (by decide) (by decide), ka 24 _ (by decide)]
    exact this.2.2 d g2 g3
  · rw [e3, k3] at g0
    have := hf.2.1 j g0 g1
    rw [em 5 j (by decide) (by decide) (by decide), em 6 j (by decide) (by decide) (by decide), ka 5 j (by decide), ka 6 j (by decide)]
    refine ⟨this.1, fun q h0 h1 => ?_⟩
    have h2 := this.2 q h0 h1
    rw [em 25 _ (by decide) (by decide) (by decide), ka 25 _ (by decide)]
    refine ⟨h2.1, ?_⟩
    unfold sMarks
    have hg := goneTo_r (marked1 (sRep1 S p i d w) p i) p (mf (sRep1 S p i d w) 3).toNat
    rw [k3] at hg ⊢
    have hm1 : ma (marked1 (sRep1 S p i d w) p i) 26 (8 * q + j) = 0 := by
      unfold marked1
      rw [ma_seta, if_neg (by omega), ma_seta, if_neg (by omega), ka 26 _ (by decide)]
      exact h2.2
    split
    · rw [ma_seta, ma_seta, hm1]
      split
      · rfl
      · rw [if_neg (by omega)]
    · exact hm1
  · rw [e3, k29] at g0
    have := hf.2.2 k (by omega) g1
    rw [em 36 k (by decide) (by decide) (by decide), em 38 k (by decide) (by decide) (by decide), em 39 k (by decide) (by decide) (by decide), em 40 k (by decide) (by decide) (by decide), em 41 k (by decide) (by decide) (by decide), em 42 k (by decide) (by decide) (by decide), em 43 k (by decide) (by decide) (by decide)]
    unfold sRep1 sAdds
    simp [ma_setf, ml_setf, mf_setf, ma_seta, ml_seta, mf_seta, ma_setl, ml_setl, mf_setl]
    simp only [show ¬ k = mf S 29 by omega, if_false]
    exact this
