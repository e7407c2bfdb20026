/-! the calls that change a meeting -/
theorem gc0 {a b c : Bool} (h : (a && b && c) = true) : gc a b c = 0 := by
  cases a <;> cases b <;> cases c <;> first | rfl | exact absurd h (by decide)
theorem wr_thr {t : Int} {S : MS} (x : Int) (h : WR t S) : WR t (setf S 45 x) := by
  refine ⟨?_, fun z g0 g1 => h.zn g0 g1, fun j g0 g1 => ?_, fun v g0 g1 => ?_, fun v g0 g1 d h2 h3 => ?_, fun q j g0 g1 h2 h3 => ?_, fun q g0 g1 => h.ps g0 g1, fun k g0 g1 => ?_⟩
  · have := h.nn; simp [ma_setf, ml_setf, mf_setf, ma_seta, ml_seta, mf_seta, ma_setl, ml_setl, mf_setl]; omega
  · have := h.mt g0 g1; simp [ma_setf, ml_setf, mf_setf, ma_seta, ml_seta, mf_seta, ma_setl, ml_setl, mf_setl]; omega
  · have := h.vs g0 g1; simp [ma_setf, ml_setf, mf_setf, ma_seta, ml_seta, mf_seta, ma_setl, ml_setl, mf_setl]; omega
  · have := h.dl g0 g1 h2 h3; simp [ma_setf, ml_setf, mf_setf, ma_seta, ml_seta, mf_seta, ma_setl, ml_setl, mf_setl]; omega
  · have := h.cp g0 g1 h2 h3; simp [ma_setf, ml_setf, mf_setf, ma_seta, ml_seta, mf_seta, ma_setl, ml_setl, mf_setl]; omega
  · have := h.ms g0 g1; simp [ma_setf, ml_setf, mf_setf, ma_seta, ml_seta, mf_seta, ma_setl, ml_setl, mf_setl]; omega
theorem e_stands {t v d c : Int} {S : MS} (h : WR t S) (h0 : 0 ≤ v) (h1 : v < mf S 7) (h2 : 0 ≤ d) (h3 : d < 60) (h4 : 0 ≤ c) (h5 : c < 2048) : P_X7_stands (I v) (I d) (I c) S = some ((), seta S 24 (60 * v + d) (c + 2048 * ma S 9 v)) := by
  have hn := h.nn
  have hv := h.vs h0 h1
  unfold P_X7_stands
  simp (disch := omega) only [gl0, gl1, gl2, gl3, gl4, gl5, gl6, gl7, gl8, gl10, gl12, gl16, gl23, gl24, gl28, gl31, gl32, gl40, gl48, gl59, gl60, gl61, gl63, gl97, gl100, gl127, gl150, gl160, gl305, gl1439, gl1500, gl1600, gl1649, gl1650, gl2000, gl2048, gl9600, I_neg, I_add, I_sub, I_mul, pb_pp, pb_assoc, pb_pz, pz_b2i, pp_ap, r_gi, g_gi, w_si, b2i_ne, b2i_eq, decide_eq_true_eq, Bool.not_eq_true', decide_eq_false_iff_not, Bool.not_not, Decidable.not_not, not_true_eq_false, not_false_eq_true, Bool.decide_eq_true, decide_not, Bool.not_eq_false, Bool.not_eq_true, Bool.false_eq_true, if_true, if_false, and_self, reduceCtorEq, hb_eq, hb_eq0, hl_eq, I_inj, I_lt, I_le, Int.reduceNeg, ma_setf, ml_setf, mf_setf, ma_seta, ml_seta, mf_seta, ma_setl, ml_setl, mf_setl, gr0, gw0, ga0, gr1, gw1, ga1, gr2, gw2, ga2, gr4, gw4, ga4, gr5, gw5, ga5, gr6, gw6, ga6, gr8, gw8, ga8, gr9, gw9, ga9, gr10, gw10, ga10, gr11, gw11, ga11, gr12, gw12, ga12, gr13, gw13, ga13, gr14, gw14, ga14, gr15, gw15, ga15, gr16, gw16, ga16, gr17, gw17, ga17, gr18, gw18, ga18, gr19, gw19, ga19, gr20, gw20, ga20, gr21, gw21, ga21, gr22, gw22, ga22, gr23, gw23, ga23, gr24, gw24, ga24, gr25, gw25, ga25, gr26, gw26, ga26, gr27, gw27, ga27, gr28, gw28, ga28, gr31, gw31, ga31, gr32, gw32, ga32, gr33, gw33, ga33, gr34, gw34, ga34, gr35, gw35, ga35, gr36, gw36, ga36, gr37, gw37, ga37, gr38, gw38, ga38, gr39, gw39, ga39, gr40, gw40, ga40, gr41, gw41, ga41, gr42, gw42, ga42, gr43, gw43, ga43, gr44, gw44, ga44, pb_ifm, pbs_some, ite_some2, ite_b]
def rdAll (rd : Int → Int) (s : Int) : Int → Int := fun d => if d < 60 then rd d % 2048 + 2048 * s else rd d
theorem e_standsAll {t i : Int} {S : MS} {ri : Nat → Int} {rl : Nat → Int64} {rd : Int → Int} (h : WR t S) (ht : t + 1 ≤ 600) (hf : FRV S) (hi : 0 ≤ i) (hi' : i < mf S 3) (hnv : toOf S i < 158) (hr : OKR (t + 1) ri rd) : P_X7_standsAll (I (toOf S i)) (XV S i ri rl rd) = some ((), XV S i ri rl (rdAll rd (ri 9))) := by
  have hn := h.nn
  have hto := toOf_r h hi hi'
  unfold P_X7_standsAll
  have e0 : ∀ rd', XV S i ri rl rd' = XV S i ri rl (fun d => if 0 ≤ d ∧ d < 60 then rd' d else rd d) := fun rd' => ms_ext (fun J y => by
    show (if (9 ≤ J ∧ J ≤ 19) ∧ y = toOf S i then ri J else if J = 24 ∧ 60 * toOf S i ≤ y ∧ y < 60 * toOf S i + 60 then rd' (y - 60 * toOf S i) else ma S J y) = if (9 ≤ J ∧ J ≤ 19) ∧ y = toOf S i then ri J else if J = 24 ∧ 60 * toOf S i ≤ y ∧ y < 60 * toOf S i + 60 then (if 0 ≤ y - 60 * toOf S i ∧ y - 60 * toOf S i < 60 then rd' (y - 60 * toOf S i) else rd (y - 60 * toOf S i)) else ma S J y
    by_cases c1 : (9 ≤ J ∧ J ≤ 19) ∧ y = toOf S i
    · rw [if_pos c1, if_pos c1]
    · rw [if_neg c1, if_neg c1]
      by_cases c : J = 24 ∧ 60 * toOf S i ≤ y ∧ y < 60 * toOf S i + 60
      · rw [if_pos c, if_pos c, if_pos (by omega)]
      · rw [if_neg c, if_neg c]) (fun _ _ => rfl) (fun _ => rfl)
  refine Eq.trans (pb_ok (a := I 60) (S1 := XV S i ri rl (rdAll rd (ri 9))) ?_) rfl
  have key := pl_run (c := fun (s2 : Int32) => pp (decide (s2 < (60 : Int32)))) (b := fun (s2 : Int32) => pb (P_X7_goal (I (toOf S i)) s2) (fun v11 => pb (P_X7_stands (I (toOf S i)) s2 v11) (fun _ => pp (s2 + 1)))) (fun j => I j) (fun j => XV S i ri rl (fun d => if d < (j : Int) then rd d % 2048 + 2048 * ri 9 else rd d)) 60 2000 (fun j hj => ?_) (fun j hj => ?_) ?_ (by omega)
  · have k0 : (fun d => if d < ((0 : Nat) : Int) then rd d % 2048 + 2048 * ri 9 else rd d) = fun d => if d < 0 then rd d % 2048 + 2048 * ri 9 else rd d := rfl
    have k1 : XV S i ri rl rd = XV S i ri rl (fun d => if d < ((0 : Nat) : Int) then rd d % 2048 + 2048 * ri 9 else rd d) := by
      rw [e0 (fun d => if d < ((0 : Nat) : Int) then rd d % 2048 + 2048 * ri 9 else rd d)]
      congr 1
      funext d
      by_cases c : 0 ≤ d ∧ d < 60
      · rw [if_pos c, if_neg (by omega)]
      · rw [if_neg c]
    rw [k1]
    exact key
  · simp (disch := omega) only [gl0, gl1, gl2, gl3, gl4, gl5, gl6, gl7, gl8, gl10, gl12, gl16, gl23, gl24, gl28, gl31, gl32, gl40, gl48, gl59, gl60, gl61, gl63, gl97, gl100, gl127, gl150, gl160, gl305, gl1439, gl1500, gl1600, gl1649, gl1650, gl2000, gl2048, gl9600, I_neg, I_add, I_sub, I_mul, pb_pp, pb_assoc, pb_pz, pz_b2i, pp_ap, r_gi, g_gi, w_si, b2i_ne, b2i_eq, decide_eq_true_eq, Bool.not_eq_true', decide_eq_false_iff_not, Bool.not_not, Decidable.not_not, not_true_eq_false, not_false_eq_true, Bool.decide_eq_true, decide_not, Bool.not_eq_false, Bool.not_eq_true, Bool.false_eq_true, if_true, if_false, and_self, reduceCtorEq, hb_eq, hb_eq0, hl_eq, I_inj, I_lt, I_le, Int.reduceNeg, ma_setf, ml_setf, mf_setf, ma_seta, ml_seta, mf_seta, ma_setl, ml_setl, mf_setl, gr0, gw0, ga0, gr1, gw1, ga1, gr2, gw2, ga2, gr4, gw4, ga4, gr5, gw5, ga5, gr6, gw6, ga6, gr8, gw8, ga8, gr9, gw9, ga9, gr10, gw10, ga10, gr11, gw11, ga11, gr12, gw12, ga12, gr13, gw13, ga13, gr14, gw14, ga14, gr15, gw15, ga15, gr16, gw16, ga16, gr17, gw17, ga17, gr18, gw18, ga18, gr19, gw19, ga19, gr20, gw20, ga20, gr21, gw21, ga21, gr22, gw22, ga22, gr23, gw23, ga23, gr24, gw24, ga24, gr25, gw25, ga25, gr26, gw26, ga26, gr27, gw27, ga27, gr28, gw28, ga28, gr31, gw31, ga31, gr32, gw32, ga32, gr33, gw33, ga33, gr34, gw34, ga34, gr35, gw35, ga35, gr36, gw36, ga36, gr37, gw37, ga37, gr38, gw38, ga38, gr39, gw39, ga39, gr40, gw40, ga40, gr41, gw41, ga41, gr42, gw42, ga42, gr43, gw43, ga43, gr44, gw44, ga44, pb_ifm, pbs_some, ite_some2, ite_b]
    rw [decide_eq_true (by omega)]
  · have hr' : OKR (t + 1) ri (fun d => if d < (j : Int) then rd d % 2048 + 2048 * ri 9 else rd d) := by
      unfold OKR at hr ⊢
      obtain ⟨q1, q2, q3, q4, q5, q6, q7, q8, q9, q10, q11, q12⟩ := hr
      refine ⟨q1, q2, q3, q4, q5, q6, q7, q8, q9, q10, q11, fun d g0 g1 => ?_⟩
      have := q12 d g0 g1
      simp only
      split <;> omega
    have hw := wr_XV (rl := rl) h ht hf hi hi' hnv hr'
    have ho : toOf S i < mf (XV S i ri rl (fun d => if d < (j : Int) then rd d % 2048 + 2048 * ri 9 else rd d)) 7 := by
      show toOf S i < (if ma S 8 (ma S 5 i) = 0 then mf S 7 else mf S 7 + 1)
      have hm := h.mt hi hi'
      split <;> omega
    have hg := e_goal hw hto.1 ho (d := (j : Int)) (by omega) (by omega)
    have hgo : goalOf (XV S i ri rl (fun d => if d < (j : Int) then rd d % 2048 + 2048 * ri 9 else rd d)) (toOf S i) j = rd j % 2048 := by
      unfold goalOf
      rw [md_XV (by omega) (by omega), if_neg (by omega)]
    rw [hgo] at hg
    have hs := e_stands hw hto.1 ho (d := (j : Int)) (c := rd j % 2048) (by omega) (by omega) (by omega) (by omega)
    rw [ma_XV (by omega), setd_XV (by omega) (by omega)] at hs
    try simp only
    rw [pb_ok hg, pb_ok hs, pp_ap, gl1, I_add]
    congr 3
    funext d
    unfold updd
    show (if d = (j : Int) then rd j % 2048 + 2048 * ri 9 else if d < (j : Int) then rd d % 2048 + 2048 * ri 9 else rd d) = if d < ((j + 1 : Nat) : Int) then rd d % 2048 + 2048 * ri 9 else rd d
    by_cases c : d = j
    · rw [if_pos c, if_pos (by omega), c]
    · rw [if_neg c]
      by_cases e : d < (j : Int)
      · rw [if_pos e, if_pos (by omega)]
      · rw [if_neg e, if_neg (by omega)]
  · simp (disch := omega) only [gl0, gl1, gl2, gl3, gl4, gl5, gl6, gl7, gl8, gl10, gl12, gl16, gl23, gl24, gl28, gl31, gl32, gl40, gl48, gl59, gl60, gl61, gl63, gl97, gl100, gl127, gl150, gl160, gl305, gl1439, gl1500, gl1600, gl1649, gl1650, gl2000, gl2048, gl9600, I_neg, I_add, I_sub, I_mul, pb_pp, pb_assoc, pb_pz, pz_b2i, pp_ap, r_gi, g_gi, w_si, b2i_ne, b2i_eq, decide_eq_true_eq, Bool.not_eq_true', decide_eq_false_iff_not, Bool.not_not, Decidable.not_not, not_true_eq_false, not_false_eq_true, Bool.decide_eq_true, decide_not, Bool.not_eq_false, Bool.not_eq_true, Bool.false_eq_true, if_true, if_false, and_self, reduceCtorEq, hb_eq, hb_eq0, hl_eq, I_inj, I_lt, I_le, Int.reduceNeg, ma_setf, ml_setf, mf_setf, ma_seta, ml_seta, mf_seta, ma_setl, ml_setl, mf_setl, gr0, gw0, ga0, gr1, gw1, ga1, gr2, gw2, ga2, gr4, gw4, ga4, gr5, gw5, ga5, gr6, gw6, ga6, gr8, gw8, ga8, gr9, gw9, ga9, gr10, gw10, ga10, gr11, gw11, ga11, gr12, gw12, ga12, gr13, gw13, ga13, gr14, gw14, ga14, gr15, gw15, ga15, gr16, gw16, ga16, gr17, gw17, ga17, gr18, gw18, ga18, gr19, gw19, ga19, gr20, gw20, ga20, gr21, gw21, ga21, gr22, gw22, ga22, gr23, gw23, ga23, gr24, gw24, ga24, gr25, gw25, ga25, gr26, gw26, ga26, gr27, gw27, ga27, gr28, gw28, ga28, gr31, gw31, ga31, gr32, gw32, ga32, gr33, gw33, ga33, gr34, gw34, ga34, gr35, gw35, ga35, gr36, gw36, ga36, gr37, gw37, ga37, gr38, gw38, ga38, gr39, gw39, ga39, gr40, gw40, ga40, gr41, gw41, ga41, gr42, gw42, ga42, gr43, gw43, ga43, gr44, gw44, ga44, pb_ifm, pbs_some, ite_some2, ite_b]
    rw [decide_eq_false (by omega)]
theorem toOf_thr (S : MS) (i x : Int) : toOf (setf S 45 x) i = toOf S i := rfl
/-- the new version stands and is that of now -/
theorem e_holdsX {t i : Int} {S : MS} {ri : Nat → Int} {rl : Nat → Int64} {rd : Int → Int} (h : WR t S) (ht : t + 2 ≤ 600) (hf : FRV S) (hi : 0 ≤ i) (hi' : i < mf S 3) (hnv : toOf S i < 158) (hr : OKR (t + 1) ri rd) : P_X7_holds (I i) (I (toOf S i)) (XV S i ri rl rd) = some (I (ri 9), sHold (XV S i ri rl rd) i (toOf S i)) := by
  have hw := wr_XV (rl := rl) h (by omega) hf hi hi' hnv hr
  have hto := toOf_r h hi hi'
  have hm := h.mt hi hi'
  have ho : toOf S i < mf (XV S i ri rl rd) 7 := by
    show toOf S i < (if ma S 8 (ma S 5 i) = 0 then mf S 7 else mf S 7 + 1)
    split <;> omega
  have := e_holds (i := i) hw (by omega) hi hi' hto.1 ho
  rw [ma_XV (by omega)] at this
  exact this
theorem OKR_upd {t : Int} {ri : Nat → Int} {rd : Int → Int} {K : Nat} {x : Int} (h : OKR t ri rd) (h1 : K = 11 → 0 ≤ x ∧ x < 60) (h2 : K = 12 → 0 ≤ x ∧ x < 24) (h3 : K = 13 → 1 ≤ x ∧ x ≤ 23) (h4 : K = 14 → 1 ≤ x ∧ x ≤ 28) (h5 : K = 15 → 1 ≤ x ∧ x ≤ 127) (h6 : K = 16 → 1 ≤ x ∧ x ≤ 10) (h7 : K = 17 → 0 ≤ x ∧ x < 32) (h8 : K = 18 → 0 ≤ x ∧ x < 32) (h9 : K = 19 → x = 0 ∨ x = 1) (h10 : 11 ≤ K) : OKR t (updi ri K x) rd := by
  unfold OKR updi at *
  obtain ⟨q1, q2, q3, q4, q5, q6, q7, q8, q9, q10, q11, q12⟩ := h
  refine ⟨by split <;> omega, by split <;> omega, by split <;> omega, by split <;> omega, by split <;> omega, by split <;> omega, by split <;> omega, by split <;> omega, by split <;> omega, by split <;> omega, by split <;> omega, q12⟩
theorem OKR_all {t : Int} {ri : Nat → Int} {rd : Int → Int} (h : OKR t ri rd) : OKR t ri (rdAll rd (ri 9)) := by
  unfold OKR rdAll at *
  obtain ⟨q1, q2, q3, q4, q5, q6, q7, q8, q9, q10, q11, q12⟩ := h
  refine ⟨q1, q2, q3, q4, q5, q6, q7, q8, q9, q10, q11, fun d g0 g1 => ?_⟩
  have := q12 d g0 g1
  split <;> omega
theorem OKR_d {t : Int} {ri : Nat → Int} {rd : Int → Int} {d x : Int} (h : OKR t ri rd) (hx : 0 ≤ x ∧ x < 1440) : OKR t ri (updd rd d (x + 2048 * ri 9)) := by
  unfold OKR updd at *
  obtain ⟨q1, q2, q3, q4, q5, q6, q7, q8, q9, q10, q11, q12⟩ := h
  refine ⟨q1, q2, q3, q4, q5, q6, q7, q8, q9, q10, q11, fun d g0 g1 => ?_⟩
  have := q12 d g0 g1
  split <;> omega
/-- what a call on a version needs -/
def VOK (t : Int) (S : MS) : Prop := WR t S ∧ t + 2 ≤ 600 ∧ FRV S ∧ ∀ i, 0 ≤ i → i < mf S 3 → toOf S i < 158
theorem VOK.thr {t : Int} {S : MS} (h : VOK t S) (x : Int) : VOK t (setf S 45 x) := ⟨wr_thr x h.1, h.2.1, h.2.2.1, h.2.2.2⟩
def gM (S : MS) (i : Int) : Bool := decide (0 ≤ i ∧ i < mf S 3)
def gH (S : MS) (i : Int) : Bool := decide ((0 ≤ i ∧ i < mf S 3) ∧ ma S 19 (ma S 5 i) = 0)
def gT (d c l : Int) : Bool := decide ((0 ≤ d ∧ d ≤ 59) ∧ (0 ≤ c ∧ c ≤ 23) ∧ (1 ≤ l ∧ l ≤ 23))
def sTime (S : MS) (i d c l : Int) : MS := sHold (XV S i (updi (updi (updi (rI S i) 11 d) 12 c) 13 l) (rL S i) (rdAll (rD S i) (rI S i 9))) i (toOf S i)
theorem e_time {t i d c l : Int} {S : MS} (h : VOK t S) (h0 : -2147483648 ≤ i) (h1 : i < 2147483648) (h2 : -2147483648 ≤ d) (h3 : d < 2147483648) (h4 : -2147483648 ≤ c) (h5 : c < 2147483648) (h6 : -2147483648 ≤ l) (h7 : l < 2147483648) :
    P_X7_time (I i) (I d) (I c) (I l) S = if (gM S i && gT d c l && gH S i) = true then some (I (rI S i 9), sTime (setf S 45 0) i d c l) else some (I 0, setf S 45 (gc (gM S i) (gT d c l) (gH S i))) := by
  unfold P_X7_time
  rw [pb_ok (e_isMeeting h.1 h0 h1), e_isTime h2 h3 h4 h5 h6 h7, pb_pp, pb_ok (e_isHeld h.1 h0 h1), pb_ok (e_goes _ _ _ _)]
  show (if (!decide (¬ b2i (gM S i && gT d c l && gH S i) = 0)) = true then pp 0 else _) (setf S 45 (gc (gM S i) (gT d c l) (gH S i))) = _
  by_cases g : (gM S i && gT d c l && gH S i) = true
  · rw [if_pos g, gc0 g, g, if_neg (by decide)]
    have gg := g
    simp only [Bool.and_eq_true] at gg
    obtain ⟨⟨g1, g2⟩, g3⟩ := gg
    have g1 := of_decide_eq_true g1
    have g2 := of_decide_eq_true g2
    have hS := h.thr 0
    generalize hS0 : setf S 45 0 = S0 at hS
    have e3 : mf S0 3 = mf S 3 := by rw [← hS0]; rfl
    have e4 : rI S i = rI S0 i := by rw [← hS0]; rfl
    rw [e4]
    have hi' : i < mf S0 3 := by omega
    have hnv := hS.2.2.2 i g1.1 hi'
    have hto := toOf_r hS.1 g1.1 hi'
    have ok0 := OKR_next hS.1 g1.1 hi'
    have ok3 : OKR (t + 1) (updi (updi (updi (rI S0 i) 11 d) 12 c) 13 l) (rD S0 i) := OKR_upd (OKR_upd (OKR_upd ok0 (by omega) (by omega) (by omega) (by omega) (by omega) (by omega) (by omega) (by omega) (by omega) (by omega)) (by omega) (by omega) (by omega) (by omega) (by omega) (by omega) (by omega) (by omega) (by omega) (by omega)) (by omega) (by omega) (by omega) (by omega) (by omega) (by omega) (by omega) (by omega) (by omega) (by omega)
    rw [pb_ok (e_next hS.1 g1.1 hi'), XV_next]
    rw [gw11 hto.1 (by omega) (by omega) (by omega), seta_XV (by omega), gw12 hto.1 (by omega) (by omega) (by omega), seta_XV (by omega), gw13 hto.1 (by omega) (by omega) (by omega), seta_XV (by omega)]
    rw [pb_ok (e_standsAll hS.1 (by have := hS.2.1; omega) hS.2.2.1 g1.1 hi' hnv ok3)]
    rw [e_holdsX hS.1 hS.2.1 hS.2.2.1 g1.1 hi' hnv (OKR_all ok3)]
    rfl
  · have g' : (gM S i && gT d c l && gH S i) = false := Bool.eq_false_iff.mpr g
    rw [if_neg g, g', if_pos (by decide)]
    rfl
