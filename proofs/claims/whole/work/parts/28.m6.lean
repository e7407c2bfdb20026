/-! changes of a meeting -/
def pbs {α β : Type} (r : Option (α × MS)) (f : α → PX β) : Option (β × MS) := match r with
  | none => none
  | some (a, S) => f a S
theorem pb_ifm {α β : Type} (c : Prop) [Decidable c] (x y : PX α) (f : α → PX β) (S : MS) : pb (if c then x else y) f S = pbs (if c then x S else y S) f := by by_cases h : c <;> simp only [h, if_true, if_false] <;> rfl
theorem pbs_some {α β : Type} (a : α) (S : MS) (f : α → PX β) : pbs (some (a, S)) f = f a S := id rfl
theorem pbs_app {α β : Type} (x : PX α) (S : MS) (f : α → PX β) : pbs (x S) f = pb x f S := rfl
theorem ite_some2 {α : Type} (c : Prop) [Decidable c] (a b : α) (S : MS) : (if c then some (a, S) else some (b, S)) = some ((if c then a else b), S) := by by_cases h : c <;> simp only [h, if_true, if_false]
def sHold (S : MS) (i v : Int) : MS := sMarks (seta (setl S 23 v (dts S v)) 5 i v) (ma S 4 i) i
theorem wr_now {t i v : Int} {S : MS} (h : WR t S) (hi : 0 ≤ i) (hi' : i < mf S 3) (h0 : 0 ≤ v) (h1 : v < mf S 7) : WR t (seta S 5 i v) := by
  refine ⟨h.nn, fun z h0 h1 => ?_, fun j g0 g1 => ?_, fun v h0 h1 => ?_, fun v h0 h1 d h2 h3 => ?_, fun q j h0 h1 h2 h3 => ?_, fun q h0 h1 => ?_, fun k h0 h1 => ?_⟩
  · have := h.zn h0 h1; simp [ma_setf, ml_setf, mf_setf, ma_seta, ml_seta, mf_seta, ma_setl, ml_setl, mf_setl]; omega
  · have := h.mt g0 g1; simp [ma_setf, ml_setf, mf_setf, ma_seta, ml_seta, mf_seta, ma_setl, ml_setl, mf_setl]; split <;> omega
  · have := h.vs h0 h1; simp [ma_setf, ml_setf, mf_setf, ma_seta, ml_seta, mf_seta, ma_setl, ml_setl, mf_setl]; omega
  · have := h.dl h0 h1 h2 h3; simp [ma_setf, ml_setf, mf_setf, ma_seta, ml_seta, mf_seta, ma_setl, ml_setl, mf_setl]; omega
  · have := h.cp h0 h1 h2 h3; simp [ma_setf, ml_setf, mf_setf, ma_seta, ml_seta, mf_seta, ma_setl, ml_setl, mf_setl]; omega
  · have := h.ps h0 h1; simp [ma_setf, ml_setf, mf_setf, ma_seta, ml_seta, mf_seta, ma_setl, ml_setl, mf_setl]; omega
  · have := h.ms h0 h1; simp [ma_setf, ml_setf, mf_setf, ma_seta, ml_seta, mf_seta, ma_setl, ml_setl, mf_setl]; omega
theorem sMarks_9 (S : MS) (p i : Int) (J : Nat) (hJ : J ≠ 26) (hJ2 : J ≠ 27) (hJ3 : J ≠ 28) (y : Int) : ma (sMarks S p i) J y = ma S J y := by
  unfold sMarks
  split
  · rw [ma_seta, if_neg (fun q => hJ q.1), ma_seta, if_neg (fun q => hJ3 q.1)]
    unfold marked1
    rw [ma_seta, if_neg (fun q => hJ q.1), ma_seta, if_neg (fun q => hJ2 q.1)]
  · unfold marked1
    rw [ma_seta, if_neg (fun q => hJ q.1), ma_seta, if_neg (fun q => hJ2 q.1)]
theorem sMarks_f (S : MS) (p i : Int) (J : Nat) : mf (sMarks S p i) J = mf S J := by
  unfold sMarks
  split <;> rfl
theorem sMarks_l (S : MS) (p i : Int) (J : Nat) (y : Int) : ml (sMarks S p i) J y = ml S J y := by
  unfold sMarks
  split <;> rfl
theorem e_holds {t i v : Int} {S : MS} (h : WR t S) (ht : t + 1 ≤ 600) (hi : 0 ≤ i) (hi' : i < mf S 3) (h0 : 0 ≤ v) (h1 : v < mf S 7) : P_X7_holds (I i) (I v) S = some (I (ma S 9 v), sHold S i v) := by
  have hn := h.nn
  have hm := h.mt hi hi'
  have hw : WR t (seta (setl S 23 v (dts S v)) 5 i v) := wr_now (S := setl S 23 v (dts S v)) h hi hi' h0 h1
  unfold P_X7_holds sHold
  simp (disch := omega) only [gl0, gl1, gl2, gl3, gl4, gl5, gl6, gl7, gl8, gl10, gl12, gl16, gl23, gl24, gl28, gl31, gl32, gl40, gl48, gl59, gl60, gl61, gl63, gl97, gl100, gl127, gl150, gl160, gl305, gl1439, gl1500, gl1600, gl1649, gl1650, gl2000, gl2048, gl9600, I_neg, I_add, I_sub, I_mul, pb_pp, pb_assoc, pb_pz, pz_b2i, pp_ap, r_gi, g_gi, w_si, b2i_ne, b2i_eq, decide_eq_true_eq, Bool.not_eq_true', decide_eq_false_iff_not, Bool.not_not, Decidable.not_not, not_true_eq_false, not_false_eq_true, Bool.decide_eq_true, decide_not, Bool.not_eq_false, Bool.not_eq_true, Bool.false_eq_true, if_true, if_false, and_self, reduceCtorEq, hb_eq, hb_eq0, hl_eq, I_inj, I_lt, I_le, Int.reduceNeg, ma_setf, ml_setf, mf_setf, ma_seta, ml_seta, mf_seta, ma_setl, ml_setl, mf_setl, gr0, gw0, ga0, gr1, gw1, ga1, gr2, gw2, ga2, gr4, gw4, ga4, gr5, gw5, ga5, gr6, gw6, ga6, gr8, gw8, ga8, gr9, gw9, ga9, gr10, gw10, ga10, gr11, gw11, ga11, gr12, gw12, ga12, gr13, gw13, ga13, gr14, gw14, ga14, gr15, gw15, ga15, gr16, gw16, ga16, gr17, gw17, ga17, gr18, gw18, ga18, gr19, gw19, ga19, gr20, gw20, ga20, gr21, gw21, ga21, gr22, gw22, ga22, gr23, gw23, ga23, gr24, gw24, ga24, gr25, gw25, ga25, gr26, gw26, ga26, gr27, gw27, ga27, gr28, gw28, ga28, gr31, gw31, ga31, gr32, gw32, ga32, gr33, gw33, ga33, gr34, gw34, ga34, gr35, gw35, ga35, gr36, gw36, ga36, gr37, gw37, ga37, gr38, gw38, ga38, gr39, gw39, ga39, gr40, gw40, ga40, gr41, gw41, ga41, gr42, gw42, ga42, gr43, gw43, ga43, gr44, gw44, ga44, pb_ifm, pbs_some, ite_some2, ite_b, pb_ok (e_laysDates h h0 h1), Nat.reduceEqDiff, false_and]
  rw [pb_ok (e_marks hw ht hm.1.1 hm.1.2 hi hi')]
  rw [ga9 (by omega) (by omega), sMarks_9 _ _ _ _ (by decide) (by decide) (by decide)]
  rfl
def XV (S : MS) (i : Int) (ri : Nat → Int) (rl : Nat → Int64) (rd : Int → Int) : MS := setf (setv S (toOf S i) ri rl rd) 7 (if ma S 8 (ma S 5 i) = 0 then mf S 7 else mf S 7 + 1)
theorem seta_XV {S : MS} {i : Int} {ri : Nat → Int} {rl : Nat → Int64} {rd : Int → Int} {K : Nat} {x : Int} (h : 9 ≤ K ∧ K ≤ 19) : seta (XV S i ri rl rd) K (toOf S i) x = XV S i (updi ri K x) rl rd := by
  show setf (seta (setv S (toOf S i) ri rl rd) K (toOf S i) x) 7 _ = _
  rw [seta_setv h]; rfl
theorem setl_XV {S : MS} {i : Int} {ri : Nat → Int} {rl : Nat → Int64} {rd : Int → Int} {K : Nat} {x : Int64} (h : 20 ≤ K ∧ K ≤ 22) : setl (XV S i ri rl rd) K (toOf S i) x = XV S i ri (updl rl K x) rd := by
  show setf (setl (setv S (toOf S i) ri rl rd) K (toOf S i) x) 7 _ = _
  rw [setl_setv h]; rfl
theorem setd_XV {S : MS} {i : Int} {ri : Nat → Int} {rl : Nat → Int64} {rd : Int → Int} {d x : Int} (h : 0 ≤ d) (h' : d < 60) : seta (XV S i ri rl rd) 24 (60 * toOf S i + d) x = XV S i ri rl (updd rd d x) := by
  show setf (seta (setv S (toOf S i) ri rl rd) 24 (60 * toOf S i + d) x) 7 _ = _
  rw [setd_setv h h']; rfl
theorem ma_XV {S : MS} {i : Int} {ri : Nat → Int} {rl : Nat → Int64} {rd : Int → Int} {K : Nat} (h : 9 ≤ K ∧ K ≤ 19) : ma (XV S i ri rl rd) K (toOf S i) = ri K := if_pos ⟨h, rfl⟩
theorem ml_XV {S : MS} {i : Int} {ri : Nat → Int} {rl : Nat → Int64} {rd : Int → Int} {K : Nat} (h : 20 ≤ K ∧ K ≤ 22) : ml (XV S i ri rl rd) K (toOf S i) = rl K := if_pos ⟨h, rfl⟩
theorem md_XV {S : MS} {i : Int} {ri : Nat → Int} {rl : Nat → Int64} {rd : Int → Int} {d : Int} (h : 0 ≤ d) (h' : d < 60) : ma (XV S i ri rl rd) 24 (60 * toOf S i + d) = rd d := by
  show (if (9 ≤ 24 ∧ 24 ≤ 19) ∧ 60 * toOf S i + d = toOf S i then ri 24 else if 24 = 24 ∧ 60 * toOf S i ≤ 60 * toOf S i + d ∧ 60 * toOf S i + d < 60 * toOf S i + 60 then rd (60 * toOf S i + d - 60 * toOf S i) else ma S 24 (60 * toOf S i + d)) = _
  rw [if_neg (by omega), if_pos (by omega), show 60 * toOf S i + d - 60 * toOf S i = d by omega]
theorem XV_next (S : MS) (i : Int) : sNext S i = XV S i (rI S i) (rL S i) (rD S i) := rfl
/-- what a new version must be, for its numbers to be within bounds -/
def OKR (t : Int) (ri : Nat → Int) (rd : Int → Int) : Prop :=
  (0 ≤ ri 9 ∧ ri 9 ≤ t) ∧ (0 ≤ ri 10 ∧ ri 10 < 3) ∧ (0 ≤ ri 11 ∧ ri 11 < 60) ∧ (0 ≤ ri 12 ∧ ri 12 < 24) ∧ (1 ≤ ri 13 ∧ ri 13 ≤ 23) ∧ (1 ≤ ri 14 ∧ ri 14 ≤ 28) ∧ (1 ≤ ri 15 ∧ ri 15 ≤ 127) ∧ (1 ≤ ri 16 ∧ ri 16 ≤ 10) ∧ (0 ≤ ri 17 ∧ ri 17 < 32) ∧ (0 ≤ ri 18 ∧ ri 18 < 32) ∧ (ri 19 = 0 ∨ ri 19 = 1) ∧ ∀ d, 0 ≤ d → d < 60 → 0 ≤ rd d ∧ rd d % 2048 < 1440 ∧ rd d < 2048 * (t + 1)
/-- places that were not used yet are as at first -/
def FRV (S : MS) : Prop :=
  (∀ v, mf S 7 ≤ v → v < 160 → (ma S 8 v = 0 ∧ ma S 9 v = 0 ∧ ma S 17 v = 0 ∧ ma S 18 v = 0 ∧ ma S 19 v = 0) ∧ (ml S 20 v = 0 ∧ ml S 21 v = 0 ∧ ml S 22 v = 0) ∧ ∀ d, 0 ≤ d → d < 60 → ma S 24 (60 * v + d) = 0) ∧
  (∀ i, mf S 3 ≤ i → i < 8 → (ma S 5 i = 0 ∧ ma S 6 i = 0) ∧ ∀ p, 0 ≤ p → p < 5 → ma S 25 (8 * p + i) = -1 ∧ ma S 26 (8 * p + i) = 0) ∧
  (∀ k, mf S 29 ≤ k → k < 150 → ma S 36 k = 0 ∧ ma S 38 k = 0 ∧ ma S 39 k = 0 ∧ ma S 40 k = 0 ∧ ma S 41 k = 0 ∧ ma S 42 k = 0 ∧ ma S 43 k = 0)
theorem wr_t {t t' : Int} {S : MS} (h : WR t S) (h0 : t ≤ t') (h1 : t' ≤ 600) : WR t' S := by
  refine ⟨by have := h.nn; omega, fun z g0 g1 => h.zn g0 g1, fun j g0 g1 => h.mt g0 g1, fun v g0 g1 => by have := h.vs g0 g1; omega, fun v g0 g1 d h2 h3 => by have := h.dl g0 g1 h2 h3; omega, fun q j g0 g1 h2 h3 => h.cp g0 g1 h2 h3, fun q g0 g1 => by have := h.ps g0 g1; omega, fun k g0 g1 => by have := h.ms g0 g1; omega⟩
theorem toOf_r {t i : Int} {S : MS} (h : WR t S) (hi : 0 ≤ i) (hi' : i < mf S 3) : 0 ≤ toOf S i ∧ toOf S i ≤ mf S 7 ∧ (ma S 8 (ma S 5 i) = 0 → toOf S i = ma S 5 i) ∧ (ma S 8 (ma S 5 i) ≠ 0 → toOf S i = mf S 7) := by
  have hn := h.nn
  have hm := h.mt hi hi'
  unfold toOf
  split <;> omega
theorem wr_XV {t i : Int} {S : MS} {ri : Nat → Int} {rl : Nat → Int64} {rd : Int → Int} (h : WR t S) (ht : t + 1 ≤ 600) (hf : FRV S) (hi : 0 ≤ i) (hi' : i < mf S 3) (hnv : toOf S i < 158) (hr : OKR (t + 1) ri rd) : WR (t + 1) (XV S i ri rl rd) := by
  have hn := h.nn
  have hm := h.mt hi hi'
  have hto := toOf_r h hi hi'
  have h' := wr_t h (show t ≤ t + 1 by omega) ht
  have hnn : mf S 7 ≤ mf (XV S i ri rl rd) 7 ∧ mf (XV S i ri rl rd) 7 ≤ 158 ∧ toOf S i < mf (XV S i ri rl rd) 7 ∧ (mf (XV S i ri rl rd) 7 = mf S 7 ∨ (mf (XV S i ri rl rd) 7 = mf S 7 + 1 ∧ toOf S i = mf S 7)) := by
    show mf S 7 ≤ (if ma S 8 (ma S 5 i) = 0 then mf S 7 else mf S 7 + 1) ∧ (if ma S 8 (ma S 5 i) = 0 then mf S 7 else mf S 7 + 1) ≤ 158 ∧ toOf S i < (if ma S 8 (ma S 5 i) = 0 then mf S 7 else mf S 7 + 1) ∧ ((if ma S 8 (ma S 5 i) = 0 then mf S 7 else mf S 7 + 1) = mf S 7 ∨ ((if ma S 8 (ma S 5 i) = 0 then mf S 7 else mf S 7 + 1) = mf S 7 + 1 ∧ toOf S i = mf S 7))
    split <;> omega
  have ho : ∀ K y, (K < 9 ∨ (19 < K ∧ K ≠ 24)) → ma (XV S i ri rl rd) K y = ma S K y := fun K y hk => by
    show (if (9 ≤ K ∧ K ≤ 19) ∧ y = toOf S i then _ else if K = 24 ∧ _ then _ else ma S K y) = _
    rw [if_neg (by omega), if_neg (by omega)]
  have hg : ∀ J, J ≠ 7 → mf (XV S i ri rl rd) J = mf S J := fun J hJ => if_neg hJ
  refine ⟨?_, fun z g0 g1 => ?_, fun j g0 g1 => ?_, fun v g0 g1 => ?_, fun v g0 g1 d h2 h3 => ?_, fun q j g0 g1 h2 h3 => ?_, fun q g0 g1 => ?_, fun k g0 g1 => ?_⟩
  · have := h'.nn
    rw [hg 3 (by decide), hg 29 (by decide), hg 30 (by decide)]; omega
  · have := h'.zn g0 g1; rw [ho 0 _ (by decide), ho 1 _ (by decide), ho 2 _ (by decide)]; omega
  · rw [hg 3 (by decide)] at g1
    have := h'.mt g0 g1; rw [ho 4 _ (by decide), ho 5 _ (by decide), ho 6 _ (by decide)]; omega
  · rw [ho 8 _ (by decide)]
    by_cases c : v = toOf S i
    · subst c
      have h8 : ma S 8 (toOf S i) = 0 ∨ ma S 8 (toOf S i) = 1 := by
        rcases Int.lt_or_le (toOf S i) (mf S 7) with q | q
        · exact (h.vs g0 q).1
        · exact Or.inl (hf.1 _ q (by omega)).1.1
      rw [ma_XV (K := 9) (by omega), ma_XV (K := 10) (by omega), ma_XV (K := 11) (by omega), ma_XV (K := 12) (by omega), ma_XV (K := 13) (by omega), ma_XV (K := 14) (by omega), ma_XV (K := 15) (by omega), ma_XV (K := 16) (by omega), ma_XV (K := 17) (by omega), ma_XV (K := 18) (by omega), ma_XV (K := 19) (by omega)]
      unfold OKR at hr
      omega
    · have hx : ∀ K, 9 ≤ K → K ≤ 19 → ma (XV S i ri rl rd) K v = ma S K v := fun K _ _ => by
        show (if (9 ≤ K ∧ K ≤ 19) ∧ v = toOf S i then _ else if K = 24 ∧ _ then _ else ma S K v) = _
        rw [if_neg (by omega), if_neg (by omega)]
      have := h'.vs g0 (show v < mf S 7 by omega)
      rw [hx 9 (by omega) (by omega), hx 10 (by omega) (by omega), hx 11 (by omega) (by omega), hx 12 (by omega) (by omega), hx 13 (by omega) (by omega), hx 14 (by omega) (by omega), hx 15 (by omega) (by omega), hx 16 (by omega) (by omega), hx 17 (by omega) (by omega), hx 18 (by omega) (by omega), hx 19 (by omega) (by omega)]
      exact this
  · by_cases c : v = toOf S i
    · subst c
      rw [md_XV h2 h3]
      exact hr.2.2.2.2.2.2.2.2.2.2.2 d h2 h3
    · have := h'.dl g0 (show v < mf S 7 by omega) h2 h3
      have hx : ma (XV S i ri rl rd) 24 (60 * v + d) = ma S 24 (60 * v + d) := by
        show (if (9 ≤ 24 ∧ 24 ≤ 19) ∧ 60 * v + d = toOf S i then ri 24 else if 24 = 24 ∧ 60 * toOf S i ≤ 60 * v + d ∧ 60 * v + d < 60 * toOf S i + 60 then rd (60 * v + d - 60 * toOf S i) else ma S 24 (60 * v + d)) = _
        rw [if_neg (by omega), if_neg (by omega)]
      rw [hx]; exact this
  · have := h'.cp g0 g1 h2 h3; rw [ho 25 _ (by decide), ho 26 _ (by decide), ho 27 _ (by decide)]; omega
  · have := h'.ps g0 g1; rw [ho 27 _ (by decide), ho 28 _ (by decide)]; exact this
  · rw [hg 29 (by decide)] at g1
    have := h'.ms g0 g1
    rw [ho 31 _ (by decide), ho 32 _ (by decide), ho 33 _ (by decide), ho 34 _ (by decide), ho 35 _ (by decide), ho 36 _ (by decide), ho 37 _ (by decide), ho 38 _ (by decide), ho 39 _ (by decide), ho 40 _ (by decide), ho 41 _ (by decide), ho 42 _ (by decide), ho 43 _ (by decide), hg 3 (by decide)]
    omega
theorem OKR_next {t i : Int} {S : MS} (h : WR t S) (hi : 0 ≤ i) (hi' : i < mf S 3) : OKR (t + 1) (rI S i) (rD S i) := by
  have hm := h.mt hi hi'
  have hv := h.vs hm.2.1.1 hm.2.1.2
  have hdl := fun (d : Int) (h0 : 0 ≤ d) (h1 : d < 60) => h.dl hm.2.1.1 hm.2.1.2 h0 h1
  unfold OKR rI rD
  simp [Nat.reduceEqDiff, ne_eq, false_and, true_and, and_true, and_false, if_false, if_true, not_false_eq_true, not_true_eq_false, reduceCtorEq]
  refine ⟨by omega, by omega, by omega, by omega, by omega, by omega, by omega, by omega, by omega, by omega, by omega, fun d g0 g1 => ?_⟩
  have := hdl d g0 g1
  omega
