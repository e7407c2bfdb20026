/-! the reference's lines, by their characters -/
section C47
variable {S : MS} {t k z : Int}
theorem AW_r (a : Int) (j : Nat) : 0 ≤ (AW a).getD j 0 ∧ (AW a).getD j 0 < 256 := by
  have key : ∀ l : List Int, (∀ i, i < l.length → 0 ≤ l.getD i 0 ∧ l.getD i 0 < 256) → 0 ≤ l.getD j 0 ∧ l.getD j 0 < 256 := fun l h => by
    rcases Nat.lt_or_ge j l.length with q | q
    · exact h j q
    · rw [List.getD_eq_getElem?_getD, List.getElem?_eq_none q]; exact ⟨by decide, by decide⟩
  unfold AW
  split
  · exact key _ (by decide)
  · split
    · exact key _ (by decide)
    · split
      · exact key _ (by decide)
      · exact key _ (by decide)
theorem ltail : (tailL S k).length = if ma S 31 k = 1 then (AW (ma S 38 k)).length + 1 else 0 := by
  unfold tailL
  by_cases c : ma S 31 k = 1
  · rw [if_pos c, if_pos c]; rfl
  · rw [if_neg c, if_neg c]; rfl
theorem lrest : (restL S k).length = 6 + ((dg (ma S 36 k)).length + (tailL S k).length) := by
  unfold restL
  simp only [List.length_append, List.length_cons, List.length_nil]
theorem rest_6 (r : Nat) : (restL S k).getD (6 + r) 0 = (dg (ma S 36 k) ++ tailL S k).getD r 0 := by
  unfold restL
  rw [List.getD_eq_getElem?_getD, List.getD_eq_getElem?_getD, List.getElem?_append_right (by simp only [List.length_cons, List.length_nil]; omega)]
  simp only [List.length_cons, List.length_nil]
  rw [show 6 + r - 6 = r by omega]
theorem rest_t (r : Nat) : (restL S k).getD (6 + (dg (ma S 36 k)).length + r) 0 = (tailL S k).getD r 0 := by
  rw [Nat.add_assoc, rest_6, List.getD_eq_getElem?_getD, List.getD_eq_getElem?_getD, List.getElem?_append_right (by omega), show (dg (ma S 36 k)).length + r - (dg (ma S 36 k)).length = r by omega]
theorem rest_d (r : Nat) (h : r < (dg (ma S 36 k)).length) : (restL S k).getD (6 + r) 0 = (dg (ma S 36 k)).getD r 0 := by
  rw [rest_6, List.getD_eq_getElem?_getD, List.getD_eq_getElem?_getD, List.getElem?_append_left h]
theorem e_signAt (q : Nat) (h : WR t S) (h0 : 0 ≤ k) (h1 : k < mf S 29) (hq : q < (restL S k).length) : P_X7_signAt (I k) (I q) S = some (I ((restL S k).getD q 0), S) := by
  have hn := h.nn
  have hk := h.ms h0 h1
  have l3 := dg_len (ma S 36 k)
  have hlen := lrest (S := S) (k := k)
  have ht := ltail (S := S) (k := k)
  have l2 := AW_len (ma S 38 k)
  have ltb : (tailL S k).length ≤ 10 := by rw [ht]; split <;> omega
  have hch : ∀ {c : Int}, 0 ≤ c → c < 256 → pch ((I c).toUInt32 % 65536).toInt32 S = some (I c, S) := fun a b => by rw [ch_I a b]; exact pch_I a (by omega)
  unfold P_X7_signAt
  rw [gr36 h0 (by omega), e_digits (by omega) (by omega), pb_pp, gl1, gl2, gl4, gl5, gl6, gl7, gl10, gl32, gl48, gl97, gl100]
  generalize hD : (dg (ma S 36 k)).length = D at *
  rw [d_eq (a := (q : Int)) (b := 1) (by omega) (by omega) (by omega) (by omega), d_eq (a := (q : Int)) (b := 2) (by omega) (by omega) (by omega) (by omega), d_eq (a := (q : Int)) (b := 4) (by omega) (by omega) (by omega) (by omega)]
  by_cases c1 : (q : Int) = 1
  · have : q = 1 := by omega
    subst this
    rw [decide_eq_true c1, if_pos rfl, pb_pp, if_pos rfl, if_pos rfl, gr32 h0 (by omega), I_add, hch (by omega) (by omega)]; rfl
  by_cases c2 : (q : Int) = 2
  · have : q = 2 := by omega
    subst this
    rw [decide_eq_false c1, decide_eq_true c2, if_neg (by decide), pb_pp, if_pos rfl, if_neg (by decide), gr33 h0 (by omega), I_add, hch (by omega) (by omega)]; rfl
  rw [decide_eq_false c1, decide_eq_false c2, if_neg (by decide), pb_pp, if_neg (by decide)]
  by_cases c4 : (q : Int) = 4
  · have : q = 4 := by omega
    subst this
    rw [decide_eq_true c4, if_pos rfl, gr34 h0 (by omega), I_add, hch (by omega) (by omega)]; rfl
  rw [decide_eq_false c4, if_neg (by decide), d_lt (a := 5) (b := (q : Int)) (by omega) (by omega) (by omega) (by omega)]
  sorry
end C47
