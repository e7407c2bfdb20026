/-! the other calls that change a meeting -/
theorem if_and1 {X : PX Bool} {a b : Bool} {S : MS} (h : a = true → X S = some (b, S)) : (if a = true then X else pp false) S = some (a && b, S) := by
  cases a
  · rfl
  · exact h rfl
theorem if_or1 {X : PX Bool} {a b : Bool} {S : MS} (h : a = false → X S = some (b, S)) : (if a = true then pp true else X) S = some (a || b, S) := by
  cases a
  · exact h rfl
  · rfl
theorem nb {b : Bool} : (decide (¬ b2i b = 0)) = b := b2ne b
theorem heldX {t i : Int} {S : MS} (h : WR t S) (h0 : -2147483648 ≤ i) (h1 : i < 2147483648) : pb (P_X7_isHeld (I i)) (fun v => pp (decide (¬ v = 0))) S = some (gH S i, S) := by
  rw [pb_ok (e_isHeld h h0 h1), nb]; rfl
theorem hereX {t p i : Int} {S : MS} (h : WR t S) (hp : 0 ≤ p) (hp' : p < 5) (hi : 0 ≤ i) (hi' : i < mf S 3) : pb (P_X7_isHere (I p) (I i)) (fun v => pp (decide (¬ v = 0))) S = some (isHere S p i, S) := by
  rw [pb_ok (e_isHere h hp hp' hi hi'), nb]; rfl
theorem dateX {t i d : Int} {S : MS} (h : WR t S) (hi : 0 ≤ i) (hi' : i < mf S 3) : pb (pai 5 (I i)) (fun v18 => pb (pal 23 v18) (fun v19 => pb (P_X7_has v19 (I d)) (fun v21 => pp (decide (¬ v21 = 0))))) S = some (hl (ml S 23 (ma S 5 i)) d, S) := by
  have hn := h.nn
  have hm := h.mt hi hi'
  rw [gr5 (by omega) (by omega), gr23 (by omega) (by omega), e_has, pb_pp, nb]; rfl
theorem dateX' {t i d : Int} {S : MS} (h : WR t S) (hi : 0 ≤ i) (hi' : i < mf S 3) : pb (pai 5 (I i)) (fun v18 => pb (pal 23 v18) (fun v19 => pb (P_X7_has v19 (I d)) (fun v21 => pp (!(decide (¬ v21 = 0)))))) S = some (!hl (ml S 23 (ma S 5 i)) d, S) := by
  have hn := h.nn
  have hm := h.mt hi hi'
  rw [gr5 (by omega) (by omega), gr23 (by omega) (by omega), e_has, pb_pp, nb]; rfl
def gD (d : Int) : Bool := decide (0 ≤ d ∧ d ≤ 59)
def gR (s w c : Int) : Bool := decide (1 ≤ s ∧ s ≤ 28) && decide (1 ≤ w ∧ w ≤ 127) && decide (1 ≤ c ∧ c ≤ 10)
def bitL (d : Int) : Int64 := (1 : Int64) <<< ((I d).toInt64 &&& 63)
def gN (S : MS) (i d : Int) : Bool := hl (ml S 23 (ma S 5 i)) d
theorem ifp {a : Bool} {b : Bool} : (if a = true then pp b else pp false : PX Bool) = pp (a && b) := by cases a <;> rfl
theorem ifq {a b : Bool} : (if a = true then pp true else pp b : PX Bool) = pp (a || b) := by cases a <;> rfl
def sRepeat (S : MS) (i s w c : Int) : MS := sHold (XV S i (updi (updi (updi (rI S i) 14 s) 15 w) 16 c) (rL S i) (rdAll (rD S i) (rI S i 9))) i (toOf S i)
theorem e_repeat {t i s w c : Int} {S : MS} (h : VOK t S) (h0 : -2147483648 ≤ i) (h1 : i < 2147483648) (h2 : -2147483648 ≤ s) (h3 : s < 2147483648) (h4 : -2147483648 ≤ w) (h5 : w < 2147483648) (h6 : -2147483648 ≤ c) (h7 : c < 2147483648) :
    P_X7_repeat (I i) (I s) (I w) (I c) S = if (gM S i && gR s w c && gH S i) = true then some (I (rI S i 9), sRepeat (setf S 45 0) i s w c) else some (I 0, setf S 45 (gc (gM S i) (gR s w c) (gH S i))) := by
  unfold P_X7_repeat
  rw [pb_ok (e_isMeeting h.1 h0 h1), gl1, gl28, e_in h2 h3 (by omega) (by omega) (by omega) (by omega), pb_pp, nb, gl127, e_in h4 h5 (by omega) (by omega) (by omega) (by omega), pb_pp, nb, ifp, pb_pp, gl10, e_in h6 h7 (by omega) (by omega) (by omega) (by omega), pb_pp, nb, ifp, pb_pp, pb_ok (e_isHeld h.1 h0 h1), pb_ok (e_goes _ _ _ _)]
  show (if (!decide (¬ b2i (gM S i && gR s w c && gH S i) = 0)) = true then pp 0 else _) (setf S 45 (gc (gM S i) (gR s w c) (gH S i))) = _
  by_cases g : (gM S i && gR s w c && gH S i) = true
  · rw [if_pos g, gc0 g, g, if_neg (by decide)]
    have gg := g
    simp only [Bool.and_eq_true] at gg
    have g1 : 0 ≤ i ∧ i < mf S 3 := of_decide_eq_true gg.1.1
    have hS := h.thr 0
    generalize hS0 : setf S 45 0 = S0 at hS
    have e3 : mf S0 3 = mf S 3 := by rw [← hS0]; rfl
    have e4 : rI S i = rI S0 i := by rw [← hS0]; rfl
    have e5 : rL S i = rL S0 i := by rw [← hS0]; rfl
    have e6 : rD S i = rD S0 i := by rw [← hS0]; rfl
    rw [e4]
    have hi' : i < mf S0 3 := by omega
    have hnv := hS.2.2.2 i g1.1 hi'
    have hto := toOf_r hS.1 g1.1 hi'
    have ok0 := OKR_next hS.1 g1.1 hi'
    have g2 := gg.1.2
    unfold gR at g2
    simp only [Bool.and_eq_true, decide_eq_true_eq] at g2
    have ok3 : OKR (t + 1) (updi (updi (updi (rI S0 i) 14 s) 15 w) 16 c) (rD S0 i) := OKR_upd (OKR_upd (OKR_upd ok0 (by omega) (by omega) (by omega) (by omega) (by omega) (by omega) (by omega) (by omega) (by omega) (by omega)) (by omega) (by omega) (by omega) (by omega) (by omega) (by omega) (by omega) (by omega) (by omega) (by omega)) (by omega) (by omega) (by omega) (by omega) (by omega) (by omega) (by omega) (by omega) (by omega) (by omega)
    rw [pb_ok (e_next hS.1 g1.1 hi'), XV_next]
    rw [gw14 hto.1 (by omega) (by omega) (by omega), seta_XV (by omega), gw15 hto.1 (by omega) (by omega) (by omega), seta_XV (by omega), gw16 hto.1 (by omega) (by omega) (by omega), seta_XV (by omega)]
    rw [pb_ok (e_standsAll hS.1 (by have := hS.2.1; omega) hS.2.2.1 g1.1 hi' hnv ok3)]
    rw [e_holdsX hS.1 hS.2.1 hS.2.2.1 g1.1 hi' hnv (OKR_all ok3)]
    rfl
  · have g' : (gM S i && gR s w c && gH S i) = false := Bool.eq_false_iff.mpr g
    rw [if_neg g, g', if_pos (by decide)]
    rfl
def sDrop (S : MS) (i d : Int) : MS := sHold (XV S i (rI S i) (updl (updl (updl (rL S i) 21 (rL S i 21 ||| bitL d)) 20 (rL S i 20 &&& (bitL d ^^^ (-1)))) 22 (rL S i 22 &&& (bitL d ^^^ (-1)))) (rD S i)) i (toOf S i)
theorem e_drop {t i d : Int} {S : MS} (h : VOK t S) (h0 : -2147483648 ≤ i) (h1 : i < 2147483648) (h2 : -2147483648 ≤ d) (h3 : d < 2147483648) :
    P_X7_drop (I i) (I d) S = if (gM S i && gD d && (gM S i && gD d && gH S i && gN S i d)) = true then some (I (rI S i 9), sDrop (setf S 45 0) i d) else some (I 0, setf S 45 (gc (gM S i) (gD d) (gM S i && gD d && gH S i && gN S i d))) := by
  unfold P_X7_drop
  rw [pb_ok (e_isMeeting h.1 h0 h1), e_isDay h2 h3, pb_pp, nb, nb, ifp, pb_pp, pb_ok (if_and1 (fun _ => heldX h.1 h0 h1)), pb_ok (if_and1 (b := gN S i d) (fun q => by
    simp only [Bool.and_eq_true, decide_eq_true_eq] at q
    exact dateX h.1 q.1.1.1 q.1.1.2)), pb_ok (e_goes _ _ _ _)]
  show (if (!decide (¬ b2i (gM S i && gD d && (gM S i && gD d && gH S i && gN S i d)) = 0)) = true then pp 0 else _) (setf S 45 (gc (gM S i) (gD d) ((gM S i && gD d && gH S i && gN S i d)))) = _
  by_cases g : (gM S i && gD d && (gM S i && gD d && gH S i && gN S i d)) = true
  · rw [if_pos g, gc0 g, g, if_neg (by decide)]
    have gg := g
    simp only [Bool.and_eq_true] at gg
    have g1 : 0 ≤ i ∧ i < mf S 3 := of_decide_eq_true gg.1.1
    have hS := h.thr 0
    generalize hS0 : setf S 45 0 = S0 at hS
    have e3 : mf S0 3 = mf S 3 := by rw [← hS0]; rfl
    have e4 : rI S i = rI S0 i := by rw [← hS0]; rfl
    have e5 : rL S i = rL S0 i := by rw [← hS0]; rfl
    have e6 : rD S i = rD S0 i := by rw [← hS0]; rfl
    rw [e4]
    have hi' : i < mf S0 3 := by omega
    have hnv := hS.2.2.2 i g1.1 hi'
    have hto := toOf_r hS.1 g1.1 hi'
    have ok0 := OKR_next hS.1 g1.1 hi'
    have g2 : 0 ≤ d ∧ d ≤ 59 := of_decide_eq_true gg.1.2
    rw [pb_ok (e_next hS.1 g1.1 hi'), XV_next]
    rw [gr21 hto.1 (by omega), ml_XV (by omega), gw21 hto.1 (by omega), setl_XV (by omega), gr20 hto.1 (by omega), ml_XV (by omega), gw20 hto.1 (by omega), setl_XV (by omega), gr22 hto.1 (by omega), ml_XV (by omega), gw22 hto.1 (by omega), setl_XV (by omega)]
    rw [e_holdsX hS.1 hS.2.1 hS.2.2.1 g1.1 hi' hnv ok0]
    rfl
  · have g' : (gM S i && gD d && (gM S i && gD d && gH S i && gN S i d)) = false := Bool.eq_false_iff.mpr g
    rw [if_neg g, g', if_pos (by decide)]
    rfl
def sAdd (S : MS) (i d : Int) : MS := sHold (XV S i (rI S i) (updl (updl (rL S i) 20 (rL S i 20 ||| bitL d)) 21 (rL S i 21 &&& (bitL d ^^^ (-1)))) (updd (rD S i) d (rD S i d % 2048 + 2048 * rI S i 9))) i (toOf S i)
theorem e_add {t i d : Int} {S : MS} (h : VOK t S) (h0 : -2147483648 ≤ i) (h1 : i < 2147483648) (h2 : -2147483648 ≤ d) (h3 : d < 2147483648) :
    P_X7_add (I i) (I d) S = if (gM S i && gD d && (gM S i && gD d && gH S i && !gN S i d)) = true then some (I (rI S i 9), sAdd (setf S 45 0) i d) else some (I 0, setf S 45 (gc (gM S i) (gD d) (gM S i && gD d && gH S i && !gN S i d))) := by
  unfold P_X7_add
  rw [pb_ok (e_isMeeting h.1 h0 h1), e_isDay h2 h3, pb_pp, nb, nb, ifp, pb_pp, pb_ok (if_and1 (fun _ => heldX h.1 h0 h1)), pb_ok (if_and1 (b := !gN S i d) (fun q => by
    simp only [Bool.and_eq_true, decide_eq_true_eq] at q
    exact dateX' h.1 q.1.1.1 q.1.1.2)), pb_ok (e_goes _ _ _ _)]
  show (if (!decide (¬ b2i (gM S i && gD d && (gM S i && gD d && gH S i && !gN S i d)) = 0)) = true then pp 0 else _) (setf S 45 (gc (gM S i) (gD d) ((gM S i && gD d && gH S i && !gN S i d)))) = _
  by_cases g : (gM S i && gD d && (gM S i && gD d && gH S i && !gN S i d)) = true
  · rw [if_pos g, gc0 g, g, if_neg (by decide)]
    have gg := g
    simp only [Bool.and_eq_true] at gg
    have g1 : 0 ≤ i ∧ i < mf S 3 := of_decide_eq_true gg.1.1
    have hS := h.thr 0
    generalize hS0 : setf S 45 0 = S0 at hS
    have e3 : mf S0 3 = mf S 3 := by rw [← hS0]; rfl
    have e4 : rI S i = rI S0 i := by rw [← hS0]; rfl
    have e5 : rL S i = rL S0 i := by rw [← hS0]; rfl
    have e6 : rD S i = rD S0 i := by rw [← hS0]; rfl
    rw [e4]
    have hi' : i < mf S0 3 := by omega
    have hnv := hS.2.2.2 i g1.1 hi'
    have hto := toOf_r hS.1 g1.1 hi'
    have ok0 := OKR_next hS.1 g1.1 hi'
    have g2 : 0 ≤ d ∧ d ≤ 59 := of_decide_eq_true gg.1.2
    have okd := ok0.2.2.2.2.2.2.2.2.2.2.2 d (by omega) (by omega)
    rw [pb_ok (e_next hS.1 g1.1 hi'), XV_next]
    rw [gr20 hto.1 (by omega), ml_XV (by omega), gw20 hto.1 (by omega), setl_XV (by omega), gr21 hto.1 (by omega), ml_XV (by omega), gw21 hto.1 (by omega), setl_XV (by omega)]
    have hw := wr_XV (rl := updl (updl (rL S0 i) 20 (rL S0 i 20 ||| bitL d)) 21 (rL S0 i 21 &&& (bitL d ^^^ (-1)))) hS.1 (by have := hS.2.1; omega) hS.2.2.1 g1.1 hi' hnv ok0
    have ho : toOf S0 i < mf (XV S0 i (rI S0 i) (updl (updl (rL S0 i) 20 (rL S0 i 20 ||| bitL d)) 21 (rL S0 i 21 &&& (bitL d ^^^ (-1)))) (rD S0 i)) 7 := by
      have hm := hS.1.mt g1.1 hi'
      show toOf S0 i < (if ma S0 8 (ma S0 5 i) = 0 then mf S0 7 else mf S0 7 + 1)
      split <;> omega
    have hg := e_goal hw hto.1 ho (d := d) (by omega) (by omega)
    have hgo : goalOf (XV S0 i (rI S0 i) (updl (updl (rL S0 i) 20 (rL S0 i 20 ||| bitL d)) 21 (rL S0 i 21 &&& (bitL d ^^^ (-1)))) (rD S0 i)) (toOf S0 i) d = rD S0 i d % 2048 := by
      unfold goalOf
      rw [md_XV (by omega) (by omega)]
    rw [hgo] at hg
    have hs := e_stands hw hto.1 ho (d := d) (c := rD S0 i d % 2048) (by omega) (by omega) (by omega) (by omega)
    rw [ma_XV (by omega), setd_XV (by omega) (by omega)] at hs
    erw [pb_ok hg, pb_ok hs]
    rw [e_holdsX hS.1 hS.2.1 hS.2.2.1 g1.1 hi' hnv (OKR_d ok0 (by omega))]
    rfl
  · have g' : (gM S i && gD d && (gM S i && gD d && gH S i && !gN S i d)) = false := Bool.eq_false_iff.mpr g
    rw [if_neg g, g', if_pos (by decide)]
    rfl
