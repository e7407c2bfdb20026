/-! the reference's lines, by their characters -/
section C47
variable {S : MS} {t k z : Int}
theorem AW_r (a : Int) (j : Nat) : 0 ≤ (AW a).getD j 0 ∧ (AW a).getD j 0 < 256 := by
  have key : ∀ l : List Int, (∀ i, i < l.length → 0 ≤ l.getD i 0 ∧ l.getD i 0 < 256) → 0 ≤ l.getD j 0 ∧ l.getD j 0 < 256 := fun l h => by
    rcases Nat.lt_or_ge j l.length with q | q
    · exact h j q
    · rw [List.getD_eq_getElem?_getD, List.getElem?_eq_none q]; exact ⟨by decide, by decide⟩
  unfold AW
  split
  · exact key _ (by decide)
  · split
    · exact key _ (by decide)
    · split
      · exact key _ (by decide)
      · exact key _ (by decide)
theorem ltail : (tailL S k).length = if ma S 31 k = 1 then (AW (ma S 38 k)).length + 1 else 0 := by
  unfold tailL
  by_cases c : ma S 31 k = 1
  · rw [if_pos c, if_pos c]; rfl
  · rw [if_neg c, if_neg c]; rfl
theorem lrest : (restL S k).length = 6 + ((dg (ma S 36 k)).length + (tailL S k).length) := by
  unfold restL
  simp only [List.length_append, List.length_cons, List.length_nil]
theorem rest_6 (r : Nat) : (restL S k).getD (6 + r) 0 = (dg (ma S 36 k) ++ tailL S k).getD r 0 := by
  unfold restL
  rw [List.getD_eq_getElem?_getD, List.getD_eq_getElem?_getD, List.getElem?_append_right (by simp only [List.length_cons, List.length_nil]; omega)]
  simp only [List.length_cons, List.length_nil]
  rw [show 6 + r - 6 = r by omega]
theorem rest_t (r : Nat) : (restL S k).getD (6 + (dg (ma S 36 k)).length + r) 0 = (tailL S k).getD r 0 := by
  rw [Nat.add_assoc, rest_6, List.getD_eq_getElem?_getD, List.getD_eq_getElem?_getD, List.getElem?_append_right (by omega), show (dg (ma S 36 k)).length + r - (dg (ma S 36 k)).length = r by omega]
theorem rest_d (r : Nat) (h : r < (dg (ma S 36 k)).length) : (restL S k).getD (6 + r) 0 = (dg (ma S 36 k)).getD r 0 := by
  rw [rest_6, List.getD_eq_getElem?_getD, List.getD_eq_getElem?_getD, List.getElem?_append_left h]
theorem e_signAt (q : Nat) (h : WR t S) (h0 : 0 ≤ k) (h1 : k < mf S 29) (hq : q < (restL S k).length) : P_X7_signAt (I k) (I q) S = some (I ((restL S k).getD q 0), S) := by
  have hn := h.nn
  have hk := h.ms h0 h1
  have l3 := dg_len (ma S 36 k)
  have hlen := lrest (S := S) (k := k)
  have ht := ltail (S := S) (k := k)
  have l2 := AW_len (ma S 38 k)
  have ltb : (tailL S k).length ≤ 10 := by rw [ht]; split <;> omega
  have hch : ∀ {c : Int}, 0 ≤ c → c < 256 → pch ((I c).toUInt32 % 65536).toInt32 S = some (I c, S) := fun a b => by rw [ch_I a b]; exact pch_I a (by omega)
  unfold P_X7_signAt
  rw [gr36 h0 (by omega), e_digits (by omega) (by omega), pb_pp, gl1, gl2, gl4, gl5, gl6, gl7, gl10, gl32, gl48, gl97, gl100]
  generalize hD : (dg (ma S 36 k)).length = D at *
  rw [d_eq (a := (q : Int)) (b := 1) (by omega) (by omega) (by omega) (by omega), d_eq (a := (q : Int)) (b := 2) (by omega) (by omega) (by omega) (by omega), d_eq (a := (q : Int)) (b := 4) (by omega) (by omega) (by omega) (by omega)]
  by_cases c1 : (q : Int) = 1
  · have : q = 1 := by omega
    subst this
    rw [decide_eq_true c1, if_pos rfl, pb_pp, if_pos rfl, if_pos rfl, gr32 h0 (by omega), I_add, hch (by omega) (by omega)]; rfl
  by_cases c2 : (q : Int) = 2
  · have : q = 2 := by omega
    subst this
    rw [decide_eq_false c1, decide_eq_true c2, if_neg (by decide), pb_pp, if_pos rfl, if_neg (by decide), gr33 h0 (by omega), I_add, hch (by omega) (by omega)]; rfl
  rw [decide_eq_false c1, decide_eq_false c2, if_neg (by decide), pb_pp, if_neg (by decide)]
  by_cases c4 : (q : Int) = 4
  · have : q = 4 := by omega
    subst this
    rw [decide_eq_true c4, if_pos rfl, gr34 h0 (by omega), I_add, hch (by omega) (by omega)]; rfl
  rw [decide_eq_false c4, if_neg (by decide), d_lt (a := 5) (b := (q : Int)) (by omega) (by omega) (by omega) (by omega)]
  have dig : ∀ e : Nat, e ≤ 2 → (pb (if decide (I (e : Int) = 0) = true then pai 36 (I k) else if decide (I (e : Int) = I 1) = true then pb (pai 36 (I k)) (fun v52 => pdiv v52 (I 10)) else pb (pai 36 (I k)) (fun v57 => pdiv v57 (I 100))) (fun part_61 => pb (prem part_61 (I 10)) fun v65 => pch ((I 48 + v65).toUInt32 % 65536).toInt32)) S = some (I (48 + ma S 36 k / (10 ^ e : Nat) % 10), S) := fun e he => by
    have : e = 0 ∨ e = 1 ∨ e = 2 := by omega
    rcases this with x | x | x <;> subst x
    · rw [if_pos (by decide), gr36 h0 (by omega), e_rem (by omega) (by omega) (by omega) (by omega), pb_pp, I_add, hch (by omega) (by omega), show ma S 36 k / (10 ^ 0 : Nat) = ma S 36 k by omega]
    · rw [if_neg (by decide), if_pos (by decide), pb_assoc, gr36 h0 (by omega), e_div (by omega) (by omega) (by omega) (by omega), pb_pp, e_rem (by omega) (by omega) (by omega) (by omega), pb_pp, I_add, hch (by omega) (by omega)]; rfl
    · rw [if_neg (by decide), if_neg (by decide), pb_assoc, gr36 h0 (by omega), e_div (by omega) (by omega) (by omega) (by omega), pb_pp, e_rem (by omega) (by omega) (by omega) (by omega), pb_pp, I_add, hch (by omega) (by omega)]; rfl
  simp only [I_add, I_sub]
  by_cases c5 : (5 : Int) < q
  · obtain ⟨r, rfl⟩ : ∃ r, q = 6 + r := ⟨q - 6, by omega⟩
    rw [decide_eq_true c5, if_pos rfl, pb_pp, d_lt (a := ((6 + r : Nat) : Int)) (b := 6 + (D : Int)) (by omega) (by omega) (by omega) (by omega)]
    by_cases ca : r < D
    · rw [decide_eq_true (by omega), if_pos rfl, rest_d r (by rw [hD]; exact ca), show (5 + (D : Int) - ((6 + r : Nat) : Int)) = ((D - 1 - r : Nat) : Int) by omega]
      refine (dig (D - 1 - r) (by omega)).trans ?_
      congr 3
      unfold dg at hD ⊢
      by_cases x : ma S 36 k < 10
      · rw [if_pos x] at hD ⊢
        have hD : 1 = D := hD
        have : r = 0 := by omega
        subst this
        subst hD
        show 48 + ma S 36 k / (10 ^ 0 : Nat) % 10 = 48 + ma S 36 k
        omega
      · rw [if_neg x] at hD ⊢
        by_cases y : ma S 36 k < 100
        · rw [if_pos y] at hD ⊢
          have hD : 2 = D := hD
          subst hD
          have : r = 0 ∨ r = 1 := by omega
          rcases this with w | w <;> subst w
          · show 48 + ma S 36 k / (10 ^ 1 : Nat) % 10 = 48 + ma S 36 k / 10
            omega
          · show 48 + ma S 36 k / (10 ^ 0 : Nat) % 10 = 48 + ma S 36 k % 10
            omega
        · rw [if_neg y] at hD ⊢
          have hD : 3 = D := hD
          subst hD
          have : r = 0 ∨ r = 1 ∨ r = 2 := by omega
          rcases this with w | w | w <;> subst w
          · show 48 + ma S 36 k / (10 ^ 2 : Nat) % 10 = 48 + ma S 36 k / 100
            omega
          · show 48 + ma S 36 k / (10 ^ 1 : Nat) % 10 = 48 + ma S 36 k / 10 % 10
            omega
          · show 48 + ma S 36 k / (10 ^ 0 : Nat) % 10 = 48 + ma S 36 k % 10
            omega
    · rw [decide_eq_false (by omega), if_neg (by decide), d_lt (a := 6 + (D : Int)) (b := ((6 + r : Nat) : Int)) (by omega) (by omega) (by omega) (by omega)]
      obtain ⟨u, rfl⟩ : ∃ u, r = D + u := ⟨r - D, by omega⟩
      have k31 : ma S 31 k = 1 := by
        by_cases c : ma S 31 k = 1
        · exact c
        · rw [if_neg c] at ht; omega
      have tl : tailL S k = 32 :: AW (ma S 38 k) := if_pos k31
      rw [show 6 + (D + u) = 6 + D + u by omega, ← hD, rest_t, tl]
      cases u with
      | zero =>
        rw [decide_eq_false (by omega), if_neg (by decide), pb_pp, pch_I (by omega) (by omega)]; rfl
      | succ u =>
        rw [if_pos k31] at ht
        have ar := AW_r (ma S 38 k) u
        rw [decide_eq_true (by omega), if_pos rfl, pb_assoc, pb_ok (e_answerWord h h0 h1), if_pos k31, show (((6 + (dg (ma S 36 k)).length + (u + 1) : Nat) : Int) - 7 - ((dg (ma S 36 k)).length : Int)) = (u : Int) by omega, pb_ok (ch_aw _ u (by omega) S), pch_I (by omega) (by omega)]; rfl
  · rw [decide_eq_false c5, if_neg (by decide), pb_pp, if_neg (by decide), d_lt (a := 6 + (D : Int)) (b := (q : Int)) (by omega) (by omega) (by omega) (by omega), decide_eq_false (by omega), if_neg (by decide), pb_pp, pch_I (by omega) (by omega)]
    have : q = 0 ∨ q = 3 ∨ q = 5 := by omega
    rcases this with w | w | w <;> subst w <;> rfl
theorem KW_r (a : Int) (j : Nat) : 0 ≤ (KW a).getD j 0 ∧ (KW a).getD j 0 < 256 := by
  have key : ∀ l : List Int, (∀ i, i < l.length → 0 ≤ l.getD i 0 ∧ l.getD i 0 < 256) → 0 ≤ l.getD j 0 ∧ l.getD j 0 < 256 := fun l h => by
    rcases Nat.lt_or_ge j l.length with q | q
    · exact h j q
    · rw [List.getD_eq_getElem?_getD, List.getElem?_eq_none q]; exact ⟨by decide, by decide⟩
  unfold KW
  split
  · exact key _ (by decide)
  · split
    · exact key _ (by decide)
    · exact key _ (by decide)
theorem mem_r {l : List Int} (h : ∀ c, c ∈ l → 0 ≤ c ∧ c < 256) (j : Nat) : 0 ≤ l.getD j 0 ∧ l.getD j 0 < 256 := by
  rcases Nat.lt_or_ge j l.length with q | q
  · rw [List.getD_eq_getElem?_getD, List.getElem?_eq_getElem q]
    exact h _ (List.getElem_mem q)
  · rw [List.getD_eq_getElem?_getD, List.getElem?_eq_none q]; exact ⟨by decide, by decide⟩
theorem rest_r (h : WR t S) (h0 : 0 ≤ k) (h1 : k < mf S 29) (j : Nat) : 0 ≤ (restL S k).getD j 0 ∧ (restL S k).getD j 0 < 256 := by
  have hn := h.nn
  have hk := h.ms h0 h1
  refine mem_r (fun c hc => ?_) j
  unfold restL at hc
  rw [List.mem_append, List.mem_append] at hc
  rcases hc with hc | hc | hc
  · simp only [List.mem_cons, List.not_mem_nil, or_false] at hc
    omega
  · unfold dg at hc
    split at hc
    · simp only [List.mem_cons, List.not_mem_nil, or_false] at hc
      omega
    · split at hc
      · simp only [List.mem_cons, List.not_mem_nil, or_false] at hc
        omega
      · simp only [List.mem_cons, List.not_mem_nil, or_false] at hc
        omega
  · unfold tailL AW at hc
    split at hc
    · rw [List.mem_cons] at hc
      rcases hc with hc | hc
      · omega
      · split at hc
        · simp only [List.mem_cons, List.not_mem_nil, or_false] at hc
          omega
        · split at hc
          · simp only [List.mem_cons, List.not_mem_nil, or_false] at hc
            omega
          · split at hc
            · simp only [List.mem_cons, List.not_mem_nil, or_false] at hc
              omega
            · simp only [List.mem_cons, List.not_mem_nil, or_false] at hc
              omega
    · exact absurd hc (List.not_mem_nil)
theorem lineL_kr : lineL S k = KW (ma S 31 k) ++ restL S k := rfl
theorem e_lineChar (h : WR t S) (h0 : -2147483648 ≤ k) (h1 : k < 2147483648) (h2 : -2147483648 ≤ z) (h3 : z < 2147483648) : P_X7_lineChar (I k) (I z) S = if (gK S k && decide (0 ≤ z ∧ z < (lineL S k).length)) = true then some (I ((lineL S k).getD z.toNat 0), setf S 45 0) else some (I 32, setf S 45 1) := by
  have hn := h.nn
  have l1 := KW_len (ma S 31 k)
  have l3 := dg_len (ma S 36 k)
  have l2 := AW_len (ma S 38 k)
  have ht := ltail (S := S) (k := k)
  have ltb : (tailL S k).length ≤ 10 := by rw [ht]; split <;> omega
  have hl := lineL_len S k
  unfold P_X7_lineChar
  rw [pb_ok (mb2 h h0 h1), nb]
  rw [pb_ok (if_and1 (b := decide (0 ≤ z ∧ z < (lineL S k).length)) (fun g => by
    have g1 : 0 ≤ k ∧ k < mf S 29 := of_decide_eq_true g
    rw [if_pos g, pb_pp, pb_ok (e_lineOf h g1.1 g1.2), gl1, I_sub, gl0, e_in h2 h3 (by omega) (by omega) (by omega) (by omega), pb_pp, pp_ap, ← gl0, nb]
    rw [show decide (0 ≤ z ∧ z ≤ ((lineL S k).length : Int) - 1) = decide (0 ≤ z ∧ z < ((lineL S k).length : Int)) from decide_eq_decide.mpr (by omega)]))]
  rw [pb_ok (e_goes1L _ _), nb]
  by_cases g : (gK S k && decide (0 ≤ z ∧ z < (lineL S k).length)) = true
  · have g2 := Bool.and_eq_true_iff.mp g
    have g1 : 0 ≤ k ∧ k < mf S 29 := of_decide_eq_true g2.1
    have gz : 0 ≤ z ∧ z < (lineL S k).length := of_decide_eq_true g2.2
    have hW := wr_thr 0 h
    have hk := h.ms g1.1 g1.2
    rw [if_pos g, g, if_neg (by decide)]
    show pb _ _ (setf S 45 0) = _
    rw [pb_ok (e_kindWord hW g1.1 g1.2), show ma (setf S 45 0) 31 k = ma S 31 k from rfl, pb_ok (let_kw _ _), d_lt h2 h3 (by omega) (by omega)]
    have ez : I z = I (z.toNat : Int) := by rw [show ((z.toNat : Nat) : Int) = z by omega]
    by_cases c : z < (KW (ma S 31 k)).length
    · have kr := KW_r (ma S 31 k) z.toNat
      rw [decide_eq_true c, if_pos rfl, pb_assoc, pb_ok (e_kindWord hW g1.1 g1.2), show ma (setf S 45 0) 31 k = ma S 31 k from rfl, ez, pb_ok (ch_kw _ _ (by omega) _), pch_I (by omega) (by omega), lineL_kr, List.getD_eq_getElem?_getD, List.getD_eq_getElem?_getD, List.getElem?_append_left (by omega)]
    · have er : (lineL S k).getD z.toNat 0 = (restL S k).getD (z.toNat - (KW (ma S 31 k)).length) 0 := by
        rw [lineL_kr, List.getD_eq_getElem?_getD, List.getD_eq_getElem?_getD, List.getElem?_append_right (by omega)]
      have eL : (lineL S k).length = (KW (ma S 31 k)).length + (restL S k).length := by rw [lineL_kr, List.length_append]
      have sg := e_signAt (z.toNat - (KW (ma S 31 k)).length) hW g1.1 g1.2 (show z.toNat - (KW (ma S 31 k)).length < (restL S k).length by omega)
      have rr : restL (setf S 45 0) k = restL S k := rfl
      rw [rr] at sg
      have rb : 0 ≤ (restL S k).getD (z.toNat - (KW (ma S 31 k)).length) 0 ∧ (restL S k).getD (z.toNat - (KW (ma S 31 k)).length) 0 < 256 := rest_r h g1.1 g1.2 _
      rw [decide_eq_false c, if_neg (by decide), I_sub, show z - ((KW (ma S 31 k)).length : Int) = ((z.toNat - (KW (ma S 31 k)).length : Nat) : Int) by omega, pb_ok sg, pch_I rb.1 (by omega), er]
  · rw [if_neg g, Bool.eq_false_iff.mpr g, if_pos (by decide)]; rfl
end C47
