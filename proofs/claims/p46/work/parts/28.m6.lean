def sHold (S : MS) (i v : Int) : MS := sMarks (seta (setl S 23 v (dts S v)) 5 i v) (ma S 4 i) i
theorem wr_now {t i v : Int} {S : MS} (h : WR t S) (hi : 0 ≤ i) (hi' : i < mf S 3) (h0 : 0 ≤ v) (h1 : v < mf S 7) : WR t (seta S 5 i v) := by
  refine ⟨h.nn, fun z h0 h1 => ?_, fun j g0 g1 => ?_, fun v h0 h1 => ?_, fun v h0 h1 d h2 h3 => ?_, fun q j h0 h1 h2 h3 => ?_, fun q h0 h1 => ?_, fun k h0 h1 => ?_⟩
  · have := h.zn h0 h1; simp [ma_setf, ml_setf, mf_setf, ma_seta, ml_seta, mf_seta, ma_setl, ml_setl, mf_setl]; omega
  · have := h.mt g0 g1; simp [ma_setf, ml_setf, mf_setf, ma_seta, ml_seta, mf_seta, ma_setl, ml_setl, mf_setl]; split <;> omega
  · have := h.vs h0 h1; simp [ma_setf, ml_setf, mf_setf, ma_seta, ml_seta, mf_seta, ma_setl, ml_setl, mf_setl]; omega
  · have := h.dl h0 h1 h2 h3; simp [ma_setf, ml_setf, mf_setf, ma_seta, ml_seta, mf_seta, ma_setl, ml_setl, mf_setl]; omega
  · have := h.cp h0 h1 h2 h3; simp [ma_setf, ml_setf, mf_setf, ma_seta, ml_seta, mf_seta, ma_setl, ml_setl, mf_setl]; omega
  · have := h.ps h0 h1; simp [ma_setf, ml_setf, mf_setf, ma_seta, ml_seta, mf_seta, ma_setl, ml_setl, mf_setl]; omega
  · have := h.ms h0 h1; simp [ma_setf, ml_setf, mf_setf, ma_seta, ml_seta, mf_seta, ma_setl, ml_setl, mf_setl]; omega
theorem sMarks_9 (S : MS) (p i : Int) (J : Nat) (hJ : J ≠ 26) (hJ2 : J ≠ 27) (hJ3 : J ≠ 28) (y : Int) : ma (sMarks S p i) J y = ma S J y := by
  unfold sMarks
  split
  · rw [ma_seta, if_neg (fun q => hJ q.1), ma_seta, if_neg (fun q => hJ3 q.1)]
    unfold marked1
    rw [ma_seta, if_neg (fun q => hJ q.1), ma_seta, if_neg (fun q => hJ2 q.1)]
  · unfold marked1
    rw [ma_seta, if_neg (fun q => hJ q.1), ma_seta, if_neg (fun q => hJ2 q.1)]
theorem sMarks_f (S : MS) (p i : Int) (J : Nat) : mf (sMarks S p i) J = mf S J := by
  unfold sMarks
  split <;> rfl
theorem sMarks_l (S : MS) (p i : Int) (J : Nat) (y : Int) : ml (sMarks S p i) J y = ml S J y := by
  unfold sMarks
  split <;> rfl
def XV (S : MS) (i : Int) (ri : Nat → Int) (rl : Nat → Int64) (rd : Int → Int) : MS := setf (setv S (toOf S i) ri rl rd) 7 (if ma S 8 (ma S 5 i) = 0 then mf S 7 else mf S 7 + 1)
theorem ma_XV {S : MS} {i : Int} {ri : Nat → Int} {rl : Nat → Int64} {rd : Int → Int} {K : Nat} (h : 9 ≤ K ∧ K ≤ 19) : ma (XV S i ri rl rd) K (toOf S i) = ri K := if_pos ⟨h, rfl⟩
theorem ml_XV {S : MS} {i : Int} {ri : Nat → Int} {rl : Nat → Int64} {rd : Int → Int} {K : Nat} (h : 20 ≤ K ∧ K ≤ 22) : ml (XV S i ri rl rd) K (toOf S i) = rl K := if_pos ⟨h, rfl⟩
theorem md_XV {S : MS} {i : Int} {ri : Nat → Int} {rl : Nat → Int64} {rd : Int → Int} {d : Int} (h : 0 ≤ d) (h' : d < 60) : ma (XV S i ri rl rd) 24 (60 * toOf S i + d) = rd d := by
  show (if (9 ≤ 24 ∧ 24 ≤ 19) ∧ 60 * toOf S i + d = toOf S i then ri 24 else if 24 = 24 ∧ 60 * toOf S i ≤ 60 * toOf S i + d ∧ 60 * toOf S i + d < 60 * toOf S i + 60 then rd (60 * toOf S i + d - 60 * toOf S i) else ma S 24 (60 * toOf S i + d)) = _
  rw [if_neg (by omega), if_pos (by omega), show 60 * toOf S i + d - 60 * toOf S i = d by omega]
def OKR (t : Int) (ri : Nat → Int) (rd : Int → Int) : Prop :=
  (0 ≤ ri 9 ∧ ri 9 ≤ t) ∧ (0 ≤ ri 10 ∧ ri 10 < 3) ∧ (0 ≤ ri 11 ∧ ri 11 < 60) ∧ (0 ≤ ri 12 ∧ ri 12 < 24) ∧ (1 ≤ ri 13 ∧ ri 13 ≤ 23) ∧ (1 ≤ ri 14 ∧ ri 14 ≤ 28) ∧ (1 ≤ ri 15 ∧ ri 15 ≤ 127) ∧ (1 ≤ ri 16 ∧ ri 16 ≤ 10) ∧ (0 ≤ ri 17 ∧ ri 17 < 32) ∧ (0 ≤ ri 18 ∧ ri 18 < 32) ∧ (ri 19 = 0 ∨ ri 19 = 1) ∧ ∀ d, 0 ≤ d → d < 60 → 0 ≤ rd d ∧ rd d % 2048 < 1440 ∧ rd d < 2048 * (t + 1)
def FRV (S : MS) : Prop :=
  (∀ v, mf S 7 ≤ v → v < 160 → (ma S 8 v = 0 ∧ ma S 9 v = 0 ∧ ma S 17 v = 0 ∧ ma S 18 v = 0 ∧ ma S 19 v = 0) ∧ (ml S 20 v = 0 ∧ ml S 21 v = 0 ∧ ml S 22 v = 0) ∧ ∀ d, 0 ≤ d → d < 60 → ma S 24 (60 * v + d) = 0) ∧
  (∀ i, mf S 3 ≤ i → i < 8 → (ma S 5 i = 0 ∧ ma S 6 i = 0) ∧ ∀ p, 0 ≤ p → p < 5 → ma S 25 (8 * p + i) = -1 ∧ ma S 26 (8 * p + i) = 0) ∧
  (∀ k, mf S 29 ≤ k → k < 150 → ma S 36 k = 0 ∧ ma S 38 k = 0 ∧ ma S 39 k = 0 ∧ ma S 40 k = 0 ∧ ma S 41 k = 0 ∧ ma S 42 k = 0 ∧ ma S 43 k = 0)
theorem wr_t {t t' : Int} {S : MS} (h : WR t S) (h0 : t ≤ t') (h1 : t' ≤ 600) : WR t' S := by
  refine ⟨by have := h.nn; omega, fun z g0 g1 => h.zn g0 g1, fun j g0 g1 => h.mt g0 g1, fun v g0 g1 => by have := h.vs g0 g1; omega, fun v g0 g1 d h2 h3 => by have := h.dl g0 g1 h2 h3; omega, fun q j g0 g1 h2 h3 => h.cp g0 g1 h2 h3, fun q g0 g1 => by have := h.ps g0 g1; omega, fun k g0 g1 => by have := h.ms g0 g1; omega⟩
theorem toOf_r {t i : Int} {S : MS} (h : WR t S) (hi : 0 ≤ i) (hi' : i < mf S 3) : 0 ≤ toOf S i ∧ toOf S i ≤ mf S 7 ∧ (ma S 8 (ma S 5 i) = 0 → toOf S i = ma S 5 i) ∧ (ma S 8 (ma S 5 i) ≠ 0 → toOf S i = mf S 7) := by
  have hn := h.nn
  have hm := h.mt hi hi'
  unfold toOf
  split <;> omega
theorem wr_XV {t i : Int} {S : MS} {ri : Nat → Int} {rl : Nat → Int64} {rd : Int → Int} (h : WR t S) (ht : t + 1 ≤ 600) (hf : FRV S) (hi : 0 ≤ i) (hi' : i < mf S 3) (hnv : toOf S i < 158) (hr : OKR (t + 1) ri rd) : WR (t + 1) (XV S i ri rl rd) := by
  have hn := h.nn
  have hm := h.mt hi hi'
  have hto := toOf_r h hi hi'
  have h' := wr_t h (show t ≤ t + 1 by omega) ht
  have hnn : mf S 7 ≤ mf (XV S i ri rl rd) 7 ∧ mf (XV S i ri rl rd) 7 ≤ 158 ∧ toOf S i < mf (XV S i ri rl rd) 7 ∧ (mf (XV S i ri rl rd) 7 = mf S 7 ∨ (mf (XV S i ri rl rd) 7 = mf S 7 + 1 ∧ toOf S i = mf S 7)) := by
    show mf S 7 ≤ (if ma S 8 (ma S 5 i) = 0 then mf S 7 else mf S 7 + 1) ∧ (if ma S 8 (ma S 5 i) = 0 then mf S 7 else mf S 7 + 1) ≤ 158 ∧ toOf S i < (if ma S 8 (ma S 5 i) = 0 then mf S 7 else mf S 7 + 1) ∧ ((if ma S 8 (ma S 5 i) = 0 then mf S 7 else mf S 7 + 1) = mf S 7 ∨ ((if ma S 8 (ma S 5 i) = 0 then mf S 7 else mf S 7 + 1) = mf S 7 + 1 ∧ toOf S i = mf S 7))
    split <;> omega
  have ho : ∀ K y, (K < 9 ∨ (19 < K ∧ K ≠ 24)) → ma (XV S i ri rl rd) K y = ma S K y := fun K y hk => by
    show (if (9 ≤ K ∧ K ≤ 19) ∧ y = toOf S i then _ else if K = 24 ∧ _ then _ else ma S K y) = _
    rw [if_neg (by omega), if_neg (by omega)]
  have hg : ∀ J, J ≠ 7 → mf (XV S i ri rl rd) J = mf S J := fun J hJ => if_neg hJ
  refine ⟨?_, fun z g0 g1 => ?_, fun j g0 g1 => ?_, fun v g0 g1 => ?_, fun v g0 g1 d h2 h3 => ?_, fun q j g0 g1 h2 h3 => ?_, fun q g0 g1 => ?_, fun k g0 g1 => ?_⟩
  · have := h'.nn
    rw [hg 3 (by decide), hg 29 (by decide), hg 30 (by decide)]; omega
  · have := h'.zn g0 g1; rw [ho 0 _ (by decide), ho 1 _ (by decide), ho 2 _ (by decide)]; omega
  · rw [hg 3 (by decide)] at g1
    have := h'.mt g0 g1; rw [ho 4 _ (by decide), ho 5 _ (by decide), ho 6 _ (by decide)]; omega
  · rw [ho 8 _ (by decide)]
    by_cases c : v = toOf S i
    · subst c
      have h8 : ma S 8 (toOf S i) = 0 ∨ ma S 8 (toOf S i) = 1 := by
        rcases Int.lt_or_le (toOf S i) (mf S 7) with q | q
        · exact (h.vs g0 q).1
        · exact Or.inl (hf.1 _ q (by omega)).1.1
      rw [ma_XV (K := 9) (by omega), ma_XV (K := 10) (by omega), ma_XV (K := 11) (by omega), ma_XV (K := 12) (by omega), ma_XV (K := 13) (by omega), ma_XV (K := 14) (by omega), ma_XV (K := 15) (by omega), ma_XV (K := 16) (by omega), ma_XV (K := 17) (by omega), ma_XV (K := 18) (by omega), ma_XV (K := 19) (by omega)]
      unfold OKR at hr
      omega
    · have hx : ∀ K, 9 ≤ K → K ≤ 19 → ma (XV S i ri rl rd) K v = ma S K v := fun K _ _ => by
        show (if (9 ≤ K ∧ K ≤ 19) ∧ v = toOf S i then _ else if K = 24 ∧ _ then _ else ma S K v) = _
        rw [if_neg (by omega), if_neg (by omega)]
      have := h'.vs g0 (show v < mf S 7 by omega)
      rw [hx 9 (by omega) (by omega), hx 10 (by omega) (by omega), hx 11 (by omega) (by omega), hx 12 (by omega) (by omega), hx 13 (by omega) (by omega), hx 14 (by omega) (by omega), hx 15 (by omega) (by omega), hx 16 (by omega) (by omega), hx 17 (by omega) (by omega), hx 18 (by omega) (by omega), hx 19 (by omega) (by omega)]
      exact this
  · by_cases c : v = toOf S i
    · subst c
      rw [md_XV h2 h3]
      exact hr.2.2.2.2.2.2.2.2.2.2.2 d h2 h3
    · have := h'.dl g0 (show v < mf S 7 by omega) h2 h3
      have hx : ma (XV S i ri rl rd) 24 (60 * v + d) = ma S 24 (60 * v + d) := by
        show (if (9 ≤ 24 ∧ 24 ≤ 19) ∧ 60 * v + d = toOf S i then ri 24 else if 24 = 24 ∧ 60 * toOf S i ≤ 60 * v + d ∧ 60 * v + d < 60 * toOf S i + 60 then rd (60 * v + d - 60 * toOf S i) else ma S 24 (60 * v + d)) = _
        rw [if_neg (by omega), if_neg (by omega)]
      rw [hx]; exact this
  · have := h'.cp g0 g1 h2 h3; rw [ho 25 _ (by decide), ho 26 _ (by decide), ho 27 _ (by decide)]; omega
  · have := h'.ps g0 g1; rw [ho 27 _ (by decide), ho 28 _ (by decide)]; exact this
  · rw [hg 29 (by decide)] at g1
    have := h'.ms g0 g1
    rw [ho 31 _ (by decide), ho 32 _ (by decide), ho 33 _ (by decide), ho 34 _ (by decide), ho 35 _ (by decide), ho 36 _ (by decide), ho 37 _ (by decide), ho 38 _ (by decide), ho 39 _ (by decide), ho 40 _ (by decide), ho 41 _ (by decide), ho 42 _ (by decide), ho 43 _ (by decide), hg 3 (by decide)]
    omega
theorem OKR_next {t i : Int} {S : MS} (h : WR t S) (hi : 0 ≤ i) (hi' : i < mf S 3) : OKR (t + 1) (rI S i) (rD S i) := by
  have hm := h.mt hi hi'
  have hv := h.vs hm.2.1.1 hm.2.1.2
  have hdl := fun (d : Int) (h0 : 0 ≤ d) (h1 : d < 60) => h.dl hm.2.1.1 hm.2.1.2 h0 h1
  unfold OKR rI rD
  simp [Nat.reduceEqDiff, ne_eq, false_and, true_and, and_true, and_false, if_false, if_true, not_false_eq_true, not_true_eq_false, reduceCtorEq]
  refine ⟨by omega, by omega, by omega, by omega, by omega, by omega, by omega, by omega, by omega, by omega, by omega, fun d g0 g1 => ?_⟩
  have := hdl d g0 g1
  omega
