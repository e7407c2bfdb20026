/-! messages: what they leave -/
theorem cntB_4 {set o : Int} (o0 : 0 ≤ o) (o1 : o < 5) (h : hb set o = false) : cntB set 5 ≤ 4 := by
  have e : cntB set 5 = 0 + (if hb set ((0 : Nat) : Int) = true then 1 else 0) + (if hb set ((1 : Nat) : Int) = true then 1 else 0) + (if hb set ((2 : Nat) : Int) = true then 1 else 0) + (if hb set ((3 : Nat) : Int) = true then 1 else 0) + (if hb set ((4 : Nat) : Int) = true then 1 else 0) := rfl
  have b : ∀ j : Nat, (if hb set ((j : Nat) : Int) = true then (1 : Int) else 0) ≤ 1 := fun j => by split <;> omega
  have b0 := b 0; have b1 := b 1; have b2 := b 2; have b3 := b 3; have b4 := b 4
  obtain ⟨m, rfl⟩ := Int.eq_ofNat_of_zero_le o0
  have z : (if hb set ((m : Nat) : Int) = true then (1 : Int) else 0) = 0 := if_neg (by rw [h]; decide)
  rcases (by omega : m = 0 ∨ m = 1 ∨ m = 2 ∨ m = 3 ∨ m = 4) with q | q | q | q | q <;> subst q <;> omega
section C100
variable {S S' : MS} {t i p d k w o r f v c : Int}
theorem XI.same (hx : XI S) (f29 : mf S' 29 = mf S 29) (f7 : mf S' 7 = mf S 7) (a4 : ma S' 4 = ma S 4) (a9 : ma S' 9 = ma S 9) (a24 : ma S' 24 = ma S 24) (a25 : ma S' 25 = ma S 25) (a31 : ma S' 31 = ma S 31) (a32 : ma S' 32 = ma S 32) (a33 : ma S' 33 = ma S 33) (a34 : ma S' 34 = ma S 34) (a35 : ma S' 35 = ma S 35) (a36 : ma S' 36 = ma S 36) : XI S' := by
  unfold XI standOf at hx ⊢
  rw [f29, f7, a4, a9, a24, a25, a31, a32, a33, a34, a35, a36]
  exact hx
theorem XI.app (hx : XI S) (f29 : mf S' 29 = mf S 29 + 1) (f7 : mf S' 7 = mf S 7) (a4 : ma S' 4 = ma S 4) (a9 : ma S' 9 = ma S 9) (a24 : ma S' 24 = ma S 24) (a25 : ma S' 25 = ma S 25) (b : ∀ (J : Nat) (y : Int), 31 ≤ J → J ≤ 36 → y ≠ mf S 29 → ma S' J y = ma S J y) (c1 : ma S' 31 (mf S 29) ≠ 0 → ma S' 33 (mf S 29) = ma S 4 (ma S' 34 (mf S 29))) (c2 : ma S' 31 (mf S 29) = 1 → ma S 25 (8 * ma S' 32 (mf S 29) + ma S' 34 (mf S 29)) ≠ -1 ∧ ma S' 36 (mf S 29) ≤ ma S 9 (ma S 25 (8 * ma S' 32 (mf S 29) + ma S' 34 (mf S 29)))) (c4 : ma S' 31 (mf S 29) = 0 → ma S 9 (ma S' 35 (mf S 29)) = ma S' 36 (mf S 29)) : XI S' := by
  obtain ⟨h1, h2, h3, h4⟩ := hx
  refine ⟨fun k k0 k1 hk => ?_, fun k k0 k1 hk => ?_, fun v d v0 v1 d0 d1 => ?_, fun k k0 k1 hk => ?_⟩
  · rw [a4]
    by_cases e : k = mf S 29
    · subst e; exact c1 hk
    · rw [b 31 k (by decide) (by decide) e] at hk
      rw [b 33 k (by decide) (by decide) e, b 34 k (by decide) (by decide) e]
      exact h1 k k0 (by omega) hk
  · rw [a9, a25]
    by_cases e : k = mf S 29
    · subst e; exact c2 hk
    · rw [b 31 k (by decide) (by decide) e] at hk
      rw [b 32 k (by decide) (by decide) e, b 34 k (by decide) (by decide) e, b 36 k (by decide) (by decide) e]
      exact h2 k k0 (by omega) hk
  · unfold standOf
    rw [a24, a9]
    exact h3 v d v0 (by omega) d0 d1
  · rw [a9]
    by_cases e : k = mf S 29
    · subst e; exact c4 hk
    · rw [b 31 k (by decide) (by decide) e] at hk
      rw [b 35 k (by decide) (by decide) e, b 36 k (by decide) (by decide) e]
      exact h4 k k0 (by omega) hk
theorem req_n : ma (sReq S f r i v) 31 (mf S 29) = 0 ∧ ma (sReq S f r i v) 33 (mf S 29) = r ∧ ma (sReq S f r i v) 35 (mf S 29) = v ∧ ma (sReq S f r i v) 36 (mf S 29) = ma S 9 v := by
  refine ⟨?_, ?_, ?_, ?_⟩ <;> simp [sReq, sAdds, ma_setf, ml_setf, mf_setf, ma_seta, ml_seta, mf_seta, ma_setl, ml_setl, mf_setl]
theorem req_o {J : Nat} {y : Int} (a : 31 ≤ J) (b : J ≤ 36) (e : y ≠ mf S 29) : ma (sReq S f r i v) J y = ma S J y := by
  unfold sReq sAdds
  simp only [ma_setf, ml_setf, mf_setf, ma_seta, ml_seta, mf_seta, ma_setl, ml_setl, mf_setl]
  repeat rw [if_neg (by omega)]
theorem XI.req (hx : XI S) : XI (sReq S f r i v) := by
  obtain ⟨n31, n33, n35, n36⟩ := req_n (S := S) (f := f) (r := r) (i := i) (v := v)
  exact hx.app (sReq_mf.trans (if_pos rfl)) (sReq_mf.trans (if_neg (by decide))) (funext fun y => sReq_ma (Or.inr (by decide))) (funext fun y => sReq_ma (Or.inl (by decide))) (funext fun y => sReq_ma (Or.inl (by decide))) (funext fun y => sReq_ma (Or.inl (by decide))) (fun J y a b e => req_o a b e) (fun q => absurd n31 q) (fun q => by rw [n31] at q; exact absurd q (by decide)) (fun _ => by rw [n35, n36])
theorem sto_a {set : Int} {J : Nat} (h : (9 ≤ J ∧ J ≤ 28) ∨ J < 8) : ∀ n, ma (sSendTo S i set n) J = ma S J := by
  intro n
  induction n with
  | zero => rfl
  | succ n ih =>
    unfold sSendTo
    split
    · exact (funext fun y => sReq_ma h).trans ih
    · exact ih
theorem sto_x {set : Int} (hx : XI S) : ∀ n, XI (sSendTo S i set n) := by
  intro n
  induction n with
  | zero => exact hx
  | succ n ih =>
    unfold sSendTo
    split
    · exact ih.req
    · exact ih
theorem send_a {J : Nat} (h : (9 ≤ J ∧ J ≤ 28) ∨ J < 6) : ma (sSend S i) J = ma S J := by
  have e : ma (sSend S i) J = ma (sSendTo S i (sendSet S i) 5) J := seta_ne (by omega)
  rw [e, sto_a (by omega)]
theorem send_x (hx : XI S) : XI (sSend S i) := by
  have a := sto_x (i := i) (set := sendSet S i) hx 5
  exact a.same rfl rfl (seta_ne (by decide)) (seta_ne (by decide)) (seta_ne (by decide)) (seta_ne (by decide)) (seta_ne (by decide)) (seta_ne (by decide)) (seta_ne (by decide)) (seta_ne (by decide)) (seta_ne (by decide)) (seta_ne (by decide))
theorem rep1_n : ma (sRep1 S p i d w) 31 (mf S 29) = 1 ∧ ma (sRep1 S p i d w) 32 (mf S 29) = p ∧ ma (sRep1 S p i d w) 33 (mf S 29) = ma S 4 i ∧ ma (sRep1 S p i d w) 34 (mf S 29) = i ∧ ma (sRep1 S p i d w) 36 (mf S 29) = ma S 9 (ma S 25 (8 * p + i)) ∧ ma (sRep1 S p i d w) 37 (mf S 29) = d ∧ ma (sRep1 S p i d w) 38 (mf S 29) = w := by
  refine ⟨?_, ?_, ?_, ?_, ?_, ?_, ?_⟩ <;> simp [sRep1, sAdds, ma_setf, ml_setf, mf_setf, ma_seta, ml_seta, mf_seta, ma_setl, ml_setl, mf_setl]
theorem rep1_o {J : Nat} {y : Int} (a : 31 ≤ J) (b : J ≤ 36) (e : y ≠ mf S 29) : ma (sRep1 S p i d w) J y = ma S J y := by
  unfold sRep1 sAdds
  simp only [ma_setf, ml_setf, mf_setf, ma_seta, ml_seta, mf_seta, ma_setl, ml_setl, mf_setl]
  repeat rw [if_neg (by omega)]
theorem rep1_l {J : Nat} (a : J < 31) : ma (sRep1 S p i d w) J = ma S J := by
  funext y
  unfold sRep1 sAdds
  simp only [ma_setf, ml_setf, mf_setf, ma_seta, ml_seta, mf_seta, ma_setl, ml_setl, mf_setl]
  repeat rw [if_neg (by omega)]
theorem XI.marks (hx : XI S) : XI (sMarks S p i) :=
  hx.same (sMarks_f _ _ _ _) (sMarks_f _ _ _ _) (funext fun y => sMarks_9 _ _ _ _ (by decide) (by decide) (by decide) y) (funext fun y => sMarks_9 _ _ _ _ (by decide) (by decide) (by decide) y) (funext fun y => sMarks_9 _ _ _ _ (by decide) (by decide) (by decide) y) (funext fun y => sMarks_9 _ _ _ _ (by decide) (by decide) (by decide) y) (funext fun y => sMarks_9 _ _ _ _ (by decide) (by decide) (by decide) y) (funext fun y => sMarks_9 _ _ _ _ (by decide) (by decide) (by decide) y) (funext fun y => sMarks_9 _ _ _ _ (by decide) (by decide) (by decide) y) (funext fun y => sMarks_9 _ _ _ _ (by decide) (by decide) (by decide) y) (funext fun y => sMarks_9 _ _ _ _ (by decide) (by decide) (by decide) y) (funext fun y => sMarks_9 _ _ _ _ (by decide) (by decide) (by decide) y)
theorem XI.rep1 (hx : XI S) (hc : ma S 25 (8 * p + i) ≠ -1) : XI (sRep1 S p i d w) := by
  obtain ⟨n31, n32, n33, n34, n36, -, -⟩ := rep1_n (S := S) (p := p) (i := i) (d := d) (w := w)
  exact hx.app rfl rfl (rep1_l (by decide)) (rep1_l (by decide)) (rep1_l (by decide)) (rep1_l (by decide)) (fun J y a b e => rep1_o a b e) (fun _ => by rw [n33, n34]) (fun _ => by rw [n32, n34, n36]; exact ⟨hc, Int.le_refl _⟩) (fun q => by rw [n31] at q; exact absurd q (by decide))
theorem XI.rep (hx : XI S) (hc : ma S 25 (8 * p + i) ≠ -1) : XI (sRep S p i d w) := (hx.rep1 hc).marks
theorem rep_9 {J : Nat} (a : J ≠ 26) (b : J ≠ 27) (c : J ≠ 28) (y : Int) : ma (sRep S p i d w) J y = ma (sRep1 S p i d w) J y := sMarks_9 _ _ _ _ a b c y
theorem rep_l {J : Nat} (a : J < 26) : ma (sRep S p i d w) J = ma S J := funext fun y => (rep_9 (by omega) (by omega) (by omega) y).trans (congrFun (rep1_l (by omega)) y)
theorem rep_27 {q : Int} : ma (sRep S p i d w) 27 q = if q = p then ma S 27 p + 1 else ma S 27 q := by
  show ma (sMarks (sRep1 S p i d w) p i) 27 q = _
  rw [marks_27, rep1_l (by decide)]
theorem XI.del (hx : XI S) (hc : ma S 25 (8 * p + i) ≠ -1) : XI (sDel S p i o) := by
  have a := hx.rep (d := -1) (w := 4) hc
  exact XI.req (a.same (S' := seta (sRep S p i (-1) 4) 40 (mf S 29) o) rfl rfl (seta_ne (by decide)) (seta_ne (by decide)) (seta_ne (by decide)) (seta_ne (by decide)) (seta_ne (by decide)) (seta_ne (by decide)) (seta_ne (by decide)) (seta_ne (by decide)) (seta_ne (by decide)) (seta_ne (by decide)))
theorem prop_n : ma (sProp S p i d c) 31 (mf S 29) = 2 ∧ ma (sProp S p i d c) 33 (mf S 29) = ma S 4 i ∧ ma (sProp S p i d c) 34 (mf S 29) = i := by
  refine ⟨?_, ?_, ?_⟩ <;> simp [sProp, sAdds, ma_setf, ml_setf, mf_setf, ma_seta, ml_seta, mf_seta, ma_setl, ml_setl, mf_setl]
theorem prop_o {J : Nat} {y : Int} (e : y ≠ mf S 29) : ma (sProp S p i d c) J y = ma S J y := by
  unfold sProp sAdds
  simp only [ma_setf, ml_setf, mf_setf, ma_seta, ml_seta, mf_seta, ma_setl, ml_setl, mf_setl]
  repeat rw [if_neg (by omega)]
theorem prop_l {J : Nat} (a : J < 31 ∨ 41 < J) : ma (sProp S p i d c) J = ma S J := by
  funext y
  unfold sProp sAdds
  simp only [ma_setf, ml_setf, mf_setf, ma_seta, ml_seta, mf_seta, ma_setl, ml_setl, mf_setl]
  repeat rw [if_neg (by omega)]
theorem XI.prop (hx : XI S) : XI (sProp S p i d c) := by
  obtain ⟨n31, n33, n34⟩ := prop_n (S := S) (p := p) (i := i) (d := d) (c := c)
  exact hx.app rfl rfl (prop_l (by decide)) (prop_l (by decide)) (prop_l (by decide)) (prop_l (by decide)) (fun J y a b e => prop_o e) (fun _ => by rw [n33, n34]) (fun q => by rw [n31] at q; exact absurd q (by decide)) (fun q => by rw [n31] at q; exact absurd q (by decide))
/-! delivery -/
theorem dlv_a {J : Nat} (h : J < 25 ∨ (28 < J ∧ J ≠ 42)) : ma (stDlv S k) J = ma S J := by
  unfold stDlv sBec sDlv sBec1
  split
  · split
    · exact (funext fun y => sMarks_9 _ _ _ _ (by omega) (by omega) (by omega) y).trans (seta_ne (by omega))
    · rfl
  · split
    · exact (funext fun y => sMarks_9 _ _ _ _ (by omega) (by omega) (by omega) y).trans (seta_ne (by omega))
    · exact seta_ne (by omega)
theorem dlv_f {J : Nat} : mf (stDlv S k) J = mf S J := by
  unfold stDlv sBec sDlv
  split
  · split
    · exact sMarks_f _ _ _ _
    · rfl
  · split
    · exact sMarks_f _ _ _ _
    · rfl
theorem dlv_27 {q : Int} : ma (stDlv S k) 27 q = if q = ma S 33 k ∧ ansDlv S k = true ∧ ma S 31 k < 2 ∧ 0 ≤ ma S 31 k then ma S 27 q + 1 else if ma S 31 k < 0 ∨ 2 < ma S 31 k then ma (stDlv S k) 27 q else ma S 27 q := by
  by_cases z : ma S 31 k < 0 ∨ 2 < ma S 31 k
  · rw [if_neg (by omega), if_pos z]
  rw [if_neg z]
  unfold stDlv ansDlv sBec sDlv
  by_cases k0 : ma S 31 k = 0
  · rw [if_pos k0, if_pos k0]
    by_cases g : becB S k = true
    · rw [if_pos g, marks_27]
      have e : ma (sBec1 S k) 27 = ma S 27 := seta_ne (by decide)
      rw [e]
      by_cases q1 : q = ma S 33 k
      · rw [if_pos q1, if_pos ⟨q1, g, by omega, by omega⟩, q1]
      · rw [if_neg q1, if_neg (fun x => q1 x.1)]
    · rw [if_neg g, if_neg (fun x => g x.2.1)]
  · rw [if_neg k0, if_neg k0]
    have e : ma (seta S 42 k 1) 27 = ma S 27 := seta_ne (by decide)
    by_cases g : dlvB S k = true
    · by_cases k1 : ma S 31 k = 1
      · rw [if_pos (by rw [g, decide_eq_true k1]; rfl), marks_27, e]
        by_cases q1 : q = ma S 33 k
        · rw [if_pos q1, if_pos ⟨q1, g, by omega, by omega⟩, q1]
        · rw [if_neg q1, if_neg (fun x => q1 x.1)]
      · rw [if_neg (by rw [g, decide_eq_false k1]; decide), if_neg (fun x => by omega), e]
    · rw [if_neg (by rw [Bool.eq_false_iff.mpr g, Bool.false_and]; decide), if_neg (fun x => g x.2.1), e]
theorem bec_x (hs : SI t S) (hx : XI S) (k0 : 0 ≤ k) (k1 : k < mf S 29) (hk : ma S 31 k = 0) (g : becB S k = true) : XI (sBec1 S k) := by
  have a : ∀ J, J ≠ 25 → ma (sBec1 S k) J = ma S J := fun J h => seta_ne h
  have a25 : ∀ y, ma (sBec1 S k) 25 y = if y = 8 * ma S 33 k + ma S 34 k then ma S 35 k else ma S 25 y := fun y => by
    show (if 25 = 25 ∧ y = 8 * ma S 33 k + ma S 34 k then ma S 35 k else ma S 25 y) = _
    by_cases e : y = 8 * ma S 33 k + ma S 34 k
    · rw [if_pos ⟨rfl, e⟩, if_pos e]
    · rw [if_neg (fun z => e z.2), if_neg e]
  have f : ∀ J, mf (sBec1 S k) J = mf S J := fun _ => rfl
  have nv := (hs.nv.2.2.1 k k0 k1 hk).1
  obtain ⟨h1, h2, h3, h4⟩ := hx
  have e4 := h4 k k0 k1 hk
  refine ⟨fun l l0 l1 hl => ?_, fun l l0 l1 hl => ?_, fun v d v0 v1 d0 d1 => ?_, fun l l0 l1 hl => ?_⟩
  · rw [a 31 (by decide)] at hl
    rw [a 33 (by decide), a 34 (by decide), a 4 (by decide)]
    exact h1 l l0 l1 hl
  · rw [a 31 (by decide)] at hl
    rw [a 32 (by decide), a 34 (by decide), a 36 (by decide), a 9 (by decide), a25]
    have g2 := h2 l l0 l1 hl
    by_cases e : 8 * ma S 32 l + ma S 34 l = 8 * ma S 33 k + ma S 34 k
    · rw [if_pos e, e4]
      rw [e] at g2
      unfold becB at g
      simp only [Bool.or_eq_true, decide_eq_true_eq] at g
      rcases g with g | g
      · exact absurd g g2.1
      · exact ⟨by omega, by omega⟩
    · rw [if_neg e]; exact g2
  · unfold standOf
    rw [a 24 (by decide), a 9 (by decide)]
    exact h3 v d v0 v1 d0 d1
  · rw [a 31 (by decide)] at hl
    rw [a 35 (by decide), a 36 (by decide), a 9 (by decide)]
    exact h4 l l0 l1 hl
theorem XI.s42 (hx : XI S) : XI (seta S 42 k 1) := hx.same rfl rfl (seta_ne (by decide)) (seta_ne (by decide)) (seta_ne (by decide)) (seta_ne (by decide)) (seta_ne (by decide)) (seta_ne (by decide)) (seta_ne (by decide)) (seta_ne (by decide)) (seta_ne (by decide)) (seta_ne (by decide))
theorem dlv_x (hs : SI t S) (hx : XI S) (k0 : 0 ≤ k) (k1 : k < mf S 29) : XI (stDlv S k) := by
  unfold stDlv sBec sDlv
  split
  next hk =>
    split
    next g => exact (bec_x hs hx k0 k1 hk g).marks
    next => exact hx
  next =>
    split
    · exact hx.s42.marks
    · exact hx.s42
/-- a message that came once doesn't come again -/
theorem dlv_no (hs : SI t S) (hx : XI S) (k0 : 0 ≤ k) (k1 : k < mf S 29) : ansDlv (stDlv S k) k = false := by
  have e31 : ma (stDlv S k) 31 = ma S 31 := dlv_a (by decide)
  unfold ansDlv
  rw [e31]
  by_cases hk : ma S 31 k = 0
  · rw [if_pos hk]
    by_cases g : becB S k = true
    · have nv := (hs.nv.2.2.1 k k0 k1 hk).1
      have e4 := hx.2.2.2 k k0 k1 hk
      have e : stDlv S k = sMarks (sBec1 S k) (ma S 33 k) (ma S 34 k) := by unfold stDlv sBec; rw [if_pos hk, if_pos g]
      have e25 : ma (stDlv S k) 25 (8 * ma S 33 k + ma S 34 k) = ma S 35 k := by
        rw [e, sMarks_9 _ _ _ _ (by decide) (by decide) (by decide)]
        exact if_pos ⟨rfl, rfl⟩
      unfold becB
      rw [dlv_a (by decide : 33 < 25 ∨ (28 < 33 ∧ 33 ≠ 42)), dlv_a (by decide : 34 < 25 ∨ (28 < 34 ∧ 34 ≠ 42)), dlv_a (by decide : 36 < 25 ∨ (28 < 36 ∧ 36 ≠ 42)), dlv_a (by decide : 9 < 25 ∨ (28 < 9 ∧ 9 ≠ 42)), e25, decide_eq_false (by omega), decide_eq_false (by omega)]; rfl
    · have e : stDlv S k = S := by unfold stDlv sBec; rw [if_pos hk, if_neg g]
      rw [e]; exact Bool.eq_false_iff.mpr g
  · rw [if_neg hk]
    have e42 : ma (stDlv S k) 42 k = 1 := by
      unfold stDlv sDlv
      rw [if_neg hk]
      split
      · rw [sMarks_9 _ _ _ _ (by decide) (by decide) (by decide)]; exact if_pos ⟨rfl, rfl⟩
      · exact if_pos ⟨rfl, rfl⟩
    unfold dlvB
    rw [e42]; rfl
/-- the newest answer counts -/
theorem own_new {n : Int} (hs : SI t S) (hx : XI S) (hn : mf S 29 = n + 1) (n0 : 0 ≤ n) (p0 : 0 ≤ p) (p1 : p < 5) (i0 : 0 ≤ i) (i1 : i < mf S 3) (d0 : 0 ≤ d) (d1 : d < 60) (hp : ma S 4 i ≠ p) (a31 : ma S 31 n = 1) (a32 : ma S 32 n = p) (a34 : ma S 34 n = i) (a36 : ma S 36 n = ma S 9 (ma S 25 (8 * p + i))) (a37 : ma S 37 n = d) (hc : ma S 25 (8 * p + i) ≠ -1) : ownOf S p i d = ma S 38 n := by
  have w := hs.wr
  have cp := w.cp p0 p1 i0 (show i < 8 by have := w.nn; omega)
  have st := hx.2.2.1 (ma S 25 (8 * p + i)) d (by omega) (by omega) d0 d1
  unfold ownOf answers
  rw [if_neg hp]
  have cn : cA S i p d (ma S 25 (8 * p + i)) true n = true := by
    unfold cA
    rw [decide_eq_true a31, decide_eq_true a34, decide_eq_true a32, decide_eq_true a37, decide_eq_true (show standOf S (ma S 25 (8 * p + i)) d ≤ ma S 36 n by rw [a36]; exact st)]; rfl
  have B := cA_is w hs.rp i p d (ma S 25 (8 * p + i)) true
  generalize bestTo S (cA S i p d (ma S 25 (8 * p + i)) true) (mf S 29).toNat = b at B
  rcases B with ⟨-, all⟩ | ⟨b0, b1, bc, bl⟩
  · rw [all n n0 (by omega)] at cn; cases cn
  · rw [if_neg (by omega)]
    by_cases e : b = n
    · rw [e]
    · have lt := later_iff.mp (bl n n0 (by omega) cn (fun q => e q.symm))
      have c31 := cA_1 bc
      unfold cA at bc
      simp only [Bool.and_eq_true, decide_eq_true_eq] at bc
      have x2 := (hx.2.1 b b0 b1 c31).2
      rw [bc.1.1.1.2, bc.1.1.1.1.2] at x2
      have rp := hs.rp.1 b n b0 (by omega) (by omega) c31 a31
      omega
end C100
section C100b
variable {L : LSt} {sv : Nat} {S' : MS} {i cz z k p : Int}
theorem LJ.msg {δ : Int} {K' G' : Nat → Int32} (h : LJ L) (si : SI (zT L + δ) S') (x : XI S') (ht : zT L + δ ≤ 500) (f3 : mf S' 3 = mf (zS L) 3) (a4 : ma S' 4 = ma (zS L) 4) (a5 : ma S' 5 = ma (zS L) 5) (a9 : ma S' 9 = ma (zS L) 9) (a19 : ma S' 19 = ma (zS L) 19) (hk : ∀ p : Int, 0 ≤ p → p < 5 → K' p.toNat = I (ma S' 27 p)) (g0 : G' 0 = I (mf (zS L) 3)) (g1 : G' 1 = I (mf S' 29)) : LJ (S', zN L, K', G', zT L + δ) := by
  refine ⟨⟨si, x, ht⟩, fun j j0 j1 => ?_, hk, g0.trans (congrArg I f3.symm), g1⟩
  have j1' : j < mf (zS L) 3 := by rw [← f3]; exact j1
  have e : nv S' j = nv (zS L) j := by unfold nv; rw [a4, a5, a9, a19]
  show zN L j.toNat = I (nv S' j)
  rw [e]; exact h.n j0 j1'
theorem LJ.dlv (h : LJ L) (k0 : 0 ≤ k) (k1 : k < mf (zS L) 29) (ht : zT L + 1 ≤ 500) : LJ (setK (lst L (stDlv (zS L) k) 1) (ma (zS L) 33 k).toNat (I (ma (stDlv (zS L) k) 27 (ma (zS L) 33 k)))) := by
  have ms := h.si.wr.ms k0 k1
  refine LJ.msg (δ := 1) (S' := stDlv (zS L) k) (K' := va_up (zK L) (ma (zS L) 33 k).toNat (I (ma (stDlv (zS L) k) 27 (ma (zS L) 33 k)))) (G' := zG L) h (h.si.dlv (by omega) (decide_eq_true ⟨k0, k1⟩)) (dlv_x h.si h.xi k0 k1) ht dlv_f (dlv_a (by decide)) (dlv_a (by decide)) (dlv_a (by decide)) (dlv_a (by decide)) (fun p p0 p1 => ?_) h.g0 (h.g1.trans (congrArg I dlv_f.symm))
  by_cases q : p = ma (zS L) 33 k
  · rw [q, va_up_same]
  · rw [va_up_diff _ _ (by omega), h.k p0 p1, dlv_27, if_neg (fun x => q x.1), if_neg (by omega)]
theorem R_g {INC : LX Int32} {a b : Int} (h0 : 0 ≤ z) (h1 : z < 2) (ha : zG L z.toNat = I a) (hi : INC L = some (.ok (I b), L)) : (lb (lp (some (sv + 22))) fun v => lb (lp (I z)) fun v' => lb (lai sv v v') fun old => lb INC fun inc => lb (lp (old + inc)) fun nw => lsai sv v v' nw) L = some (.ok (), setG L z.toNat (I (a + b))) :=
  E_b (some (sv + 22)) L rfl (E_b (I z) L rfl (E_b (I a) L ((ea_g h0 h1).trans (by rw [ha])) (E_b (I b) L hi (E_b (I (a + b)) L (by rw [lp_ap, I_add]) (es_g h0 h1)))))
theorem R_k {INC : LX Int32} {a b : Int} (h0 : 0 ≤ z) (h1 : z < 5) (ha : zK L z.toNat = I a) (hi : INC L = some (.ok (I b), L)) : (lb (lp (some (sv + 21))) fun v => lb (lp (I z)) fun v' => lb (lai sv v v') fun old => lb INC fun inc => lb (lp (old + inc)) fun nw => lsai sv v v' nw) L = some (.ok (), setK L z.toNat (I (a + b))) :=
  E_b (some (sv + 21)) L rfl (E_b (I z) L rfl (E_b (I a) L ((ea_k h0 h1).trans (by rw [ha])) (E_b (I b) L hi (E_b (I (a + b)) L (by rw [lp_ap, I_add]) (es_k h0 h1)))))
end C100b
