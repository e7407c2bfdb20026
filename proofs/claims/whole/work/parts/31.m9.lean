/-! move, invite, cancel, make -/
def sMove (S : MS) (i d c : Int) : MS := sHold (XV S i (rI S i) (updl (rL S i) 22 (rL S i 22 ||| bitL d)) (updd (rD S i) d (c + 2048 * rI S i 9))) i (toOf S i)
theorem e_moves {t i d c : Int} {S0 : MS} (hS : VOK t S0) (hi : 0 ≤ i) (hi' : i < mf S0 3) (h0 : 0 ≤ d) (h1 : d < 60) (h2 : 0 ≤ c) (h3 : c < 1440) : P_X7_moves (I i) (I d) (I c) S0 = some (I (rI S0 i 9), sMove S0 i d c) := by
  unfold P_X7_moves
  have hnv := hS.2.2.2 i hi hi'
  have hto := toOf_r hS.1 hi hi'
  have ok0 := OKR_next hS.1 hi hi'
  rw [pb_ok (e_next hS.1 hi hi'), XV_next]
  rw [gr22 hto.1 (by omega), ml_XV (by omega), gw22 hto.1 (by omega), setl_XV (by omega)]
  have hw := wr_XV (rl := updl (rL S0 i) 22 (rL S0 i 22 ||| bitL d)) hS.1 (by have := hS.2.1; omega) hS.2.2.1 hi hi' hnv ok0
  have ho : toOf S0 i < mf (XV S0 i (rI S0 i) (updl (rL S0 i) 22 (rL S0 i 22 ||| bitL d)) (rD S0 i)) 7 := by
    have hm := hS.1.mt hi hi'
    show toOf S0 i < (if ma S0 8 (ma S0 5 i) = 0 then mf S0 7 else mf S0 7 + 1)
    split <;> omega
  have hs := e_stands hw hto.1 ho (d := d) (c := c) (by omega) (by omega) (by omega) (by omega)
  rw [ma_XV (by omega), setd_XV (by omega) (by omega)] at hs
  erw [pb_ok hs]
  rw [e_holdsX hS.1 hS.2.1 hS.2.2.1 hi hi' hnv (OKR_d ok0 (by omega))]
  rfl
def gC (c : Int) : Bool := decide (0 ≤ c ∧ c ≤ 1439)
theorem e_move {t i d c : Int} {S : MS} (h : VOK t S) (h0 : -2147483648 ≤ i) (h1 : i < 2147483648) (h2 : -2147483648 ≤ d) (h3 : d < 2147483648) (h4 : -2147483648 ≤ c) (h5 : c < 2147483648) :
    P_X7_move (I i) (I d) (I c) S = if (gM S i && (gD d && gC c) && (gM S i && (gD d && gC c) && gH S i && gN S i d)) = true then some (I (rI S i 9), sMove (setf S 45 0) i d c) else some (I 0, setf S 45 (gc (gM S i) (gD d && gC c) (gM S i && (gD d && gC c) && gH S i && gN S i d))) := by
  unfold P_X7_move
  rw [pb_ok (e_isMeeting h.1 h0 h1), e_isDay h2 h3, pb_pp, nb, e_isClock h4 h5, pb_pp, nb, ifp, pb_pp, nb, ifp, pb_pp, pb_ok (if_and1 (fun _ => heldX h.1 h0 h1)), pb_ok (if_and1 (b := gN S i d) (fun q => by
    simp only [Bool.and_eq_true, decide_eq_true_eq] at q
    exact dateX h.1 q.1.1.1 q.1.1.2)), pb_ok (e_goes _ _ _ _)]
  show (if (!decide (¬ b2i (gM S i && (gD d && gC c) && (gM S i && (gD d && gC c) && gH S i && gN S i d)) = 0)) = true then pp 0 else _) (setf S 45 (gc (gM S i) ((gD d && gC c)) ((gM S i && (gD d && gC c) && gH S i && gN S i d)))) = _
  by_cases g : (gM S i && (gD d && gC c) && (gM S i && (gD d && gC c) && gH S i && gN S i d)) = true
  · rw [if_pos g, gc0 g, g, if_neg (by decide)]
    have gg := g
    simp only [Bool.and_eq_true] at gg
    have g1 : 0 ≤ i ∧ i < mf S 3 := of_decide_eq_true gg.1.1
    have hS := h.thr 0
    generalize hS0 : setf S 45 0 = S0 at hS
    have e3 : mf S0 3 = mf S 3 := by rw [← hS0]; rfl
    have e4 : rI S i = rI S0 i := by rw [← hS0]; rfl
    have e5 : rL S i = rL S0 i := by rw [← hS0]; rfl
    have e6 : rD S i = rD S0 i := by rw [← hS0]; rfl
    rw [e4]
    have hi' : i < mf S0 3 := by omega
    have hnv := hS.2.2.2 i g1.1 hi'
    have hto := toOf_r hS.1 g1.1 hi'
    have ok0 := OKR_next hS.1 g1.1 hi'
    have g2 := gg.1.2
    have g3 : 0 ≤ d ∧ d ≤ 59 := of_decide_eq_true g2.1
    have g4 : 0 ≤ c ∧ c ≤ 1439 := of_decide_eq_true g2.2
    rw [e_moves hS g1.1 hi' (by omega) (by omega) (by omega) (by omega)]
  · have g' : (gM S i && (gD d && gC c) && (gM S i && (gD d && gC c) && gH S i && gN S i d)) = false := Bool.eq_false_iff.mpr g
    rw [if_neg g, g', if_pos (by decide)]
    rfl
def sCancel (S : MS) (i : Int) : MS := sHold (XV S i (updi (rI S i) 19 1) (rL S i) (rD S i)) i (toOf S i)
theorem e_cancel {t i : Int} {S : MS} (h : VOK t S) (h0 : -2147483648 ≤ i) (h1 : i < 2147483648) :
    P_X7_cancel (I i) S = if (gM S i && gH S i && true) = true then some (I (rI S i 9), sCancel (setf S 45 0) i) else some (I 0, setf S 45 (gc (gM S i) (gH S i) true)) := by
  unfold P_X7_cancel
  rw [pb_ok (e_isMeeting h.1 h0 h1), pb_ok (e_isHeld h.1 h0 h1), show (1 : Int32) = b2i true from rfl, pb_ok (e_goes _ _ _ _)]
  show (if (!decide (¬ b2i (gM S i && gH S i && true) = 0)) = true then pp 0 else _) (setf S 45 (gc (gM S i) (gH S i) (true))) = _
  by_cases g : (gM S i && gH S i && true) = true
  · rw [if_pos g, gc0 g, g, if_neg (by decide)]
    have gg := g
    simp only [Bool.and_eq_true] at gg
    have g1 : 0 ≤ i ∧ i < mf S 3 := of_decide_eq_true gg.1.1
    have hS := h.thr 0
    generalize hS0 : setf S 45 0 = S0 at hS
    have e3 : mf S0 3 = mf S 3 := by rw [← hS0]; rfl
    have e4 : rI S i = rI S0 i := by rw [← hS0]; rfl
    have e5 : rL S i = rL S0 i := by rw [← hS0]; rfl
    have e6 : rD S i = rD S0 i := by rw [← hS0]; rfl
    rw [e4]
    have hi' : i < mf S0 3 := by omega
    have hnv := hS.2.2.2 i g1.1 hi'
    have hto := toOf_r hS.1 g1.1 hi'
    have ok0 := OKR_next hS.1 g1.1 hi'
    rw [pb_ok (e_next hS.1 g1.1 hi'), XV_next, show b2i true = I 1 from by decide]
    rw [gw19 hto.1 (by omega) (by omega), seta_XV (by omega)]
    rw [e_holdsX hS.1 hS.2.1 hS.2.2.1 g1.1 hi' hnv (OKR_upd ok0 (by omega) (by omega) (by omega) (by omega) (by omega) (by omega) (by omega) (by omega) (by omega) (by omega))]
    rfl
  · have g' : (gM S i && gH S i && true) = false := Bool.eq_false_iff.mpr g
    rw [if_neg g, g', if_pos (by decide)]
    rfl
/-- sets of people -/
def bitI (p : Int) : Int32 := I 1 <<< (I p &&& I 31)
def orb (x p : Int) : Int := (I x ||| bitI p).toInt
def anb (x p : Int) : Int := (I x &&& (bitI p ^^^ (-1))).toInt
theorem I_orb (x p : Int) : I x ||| bitI p = I (orb x p) := (I_toInt _).symm
theorem I_anb (x p : Int) : I x &&& (bitI p ^^^ (-1)) = I (anb x p) := (I_toInt _).symm
theorem set_dec : ∀ x, x < 32 → ∀ p, p < 5 → (0 ≤ orb (x : Nat) (p : Nat) ∧ orb (x : Nat) (p : Nat) < 32) ∧ (0 ≤ anb (x : Nat) (p : Nat) ∧ anb (x : Nat) (p : Nat) < 32) := by decide +kernel
theorem set_r {x p : Int} (h0 : 0 ≤ x) (h1 : x < 32) (h2 : 0 ≤ p) (h3 : p < 5) : (0 ≤ orb x p ∧ orb x p < 32) ∧ (0 ≤ anb x p ∧ anb x p < 32) := by
  obtain ⟨a, rfl⟩ := Int.eq_ofNat_of_zero_le h0
  obtain ⟨b, rfl⟩ := Int.eq_ofNat_of_zero_le h2
  exact set_dec a (by omega) b (by omega)
def rInv (S : MS) (i p : Int) (b : Bool) : Nat → Int := updi (updi (rI S i) 17 (if b then orb (rI S i 17) p else anb (rI S i 17) p)) 18 (if b then anb (rI S i 18) p else orb (rI S i 18) p)
def sInvite (S : MS) (i p : Int) (b : Bool) : MS := sHold (XV S i (rInv S i p b) (rL S i) (rD S i)) i (toOf S i)
def gP (p : Int) : Bool := decide (0 ≤ p ∧ p ≤ 4)
def gS (S : MS) (i p : Int) (b : Bool) : Bool := hb (if b then ma S 17 (ma S 5 i) else ma S 18 (ma S 5 i)) p
theorem e_invite {t i p : Int} {S : MS} (b : Bool) (h : VOK t S) (h0 : -2147483648 ≤ i) (h1 : i < 2147483648) (h2 : -2147483648 ≤ p) (h3 : p < 2147483648) :
    P_X7_invite (I i) (I p) (b2i b) S = if (gM S i && gP p && (gM S i && gP p && decide (¬ ma S 4 i = p)) && (gM S i && gP p && gH S i && !gS S i p b)) = true then some (I (rI S i 9), sInvite (setf S 45 0) i p b) else some (I 0, setf S 45 (gc (gM S i && gP p) (gM S i && gP p && decide (¬ ma S 4 i = p)) (gM S i && gP p && gH S i && !gS S i p b))) := by
  have hn := h.1.nn
  unfold P_X7_invite
  rw [pb_ok (e_isMeeting h.1 h0 h1), nb, e_isPerson h2 h3, pb_pp, nb, ifp, pb_pp]
  have e1 : (if (!(decide (0 ≤ i ∧ i < mf S 3) && decide (0 ≤ p ∧ p ≤ 4))) = true then pp (0 : Int32) else if decide (¬ b2i b = 0) = true then pb (pai 5 (I i)) (fun v17 => pai 17 v17) else pb (pai 5 (I i)) (fun v23 => pai 18 v23)) S = some (I (if (gM S i && gP p) = true then (if b then ma S 17 (ma S 5 i) else ma S 18 (ma S 5 i)) else 0), S) := by
    rw [show (decide (0 ≤ i ∧ i < mf S 3) && decide (0 ≤ p ∧ p ≤ 4)) = (gM S i && gP p) from rfl]
    by_cases g : (gM S i && gP p) = true
    · have gg := g
      simp only [Bool.and_eq_true] at gg
      have g1 : 0 ≤ i ∧ i < mf S 3 := of_decide_eq_true gg.1
      have hm := h.1.mt g1.1 g1.2
      rw [g, if_neg (by decide), nb]
      cases b
      · rw [if_neg (by decide), gr5 g1.1 (by omega), ga18 (by omega) (by omega)]; rfl
      · rw [if_pos rfl, gr5 g1.1 (by omega), ga17 (by omega) (by omega)]; rfl
    · have g' : (gM S i && gP p) = false := Bool.eq_false_iff.mpr g
      rw [g', if_pos (by decide)]; rfl
  rw [pb_ok e1]
  have e2 : (if (decide (0 ≤ i ∧ i < mf S 3) && decide (0 ≤ p ∧ p ≤ 4)) = true then pb (pai 4 (I i)) (fun v31 => pp (decide (¬ v31 = I p))) else pp false) S = some (gM S i && gP p && decide (¬ ma S 4 i = p), S) := if_and1 (fun q => by
    simp only [Bool.and_eq_true, decide_eq_true_eq] at q
    have hm := h.1.mt q.1.1 q.1.2
    rw [gr4 q.1.1 (by omega), pp_ap]
    simp only [I_inj (show -2147483648 ≤ ma S 4 i by omega) (by omega) h2 h3])
  rw [pb_ok e2, pb_ok (if_and1 (fun _ => heldX h.1 h0 h1)), pb_ok (if_and1 (b := !gS S i p b) (fun q => by
    have q' : (gM S i && gP p) = true := by
      rw [Bool.and_eq_true] at q; exact q.1
    rw [pp_ap, q', if_pos rfl]
    unfold gS
    rw [gl0, gl1, gl31]
    simp only [hb_eq0]
    cases hb (if b = true then ma S 17 (ma S 5 i) else ma S 18 (ma S 5 i)) p <;> rfl)), pb_ok (e_goes _ _ _ _)]
  show (if (!decide (¬ b2i ((gM S i && gP p) && (gM S i && gP p && decide (¬ ma S 4 i = p)) && (gM S i && gP p && gH S i && !gS S i p b)) = 0)) = true then pp 0 else _) (setf S 45 (gc ((gM S i && gP p)) ((gM S i && gP p && decide (¬ ma S 4 i = p))) ((gM S i && gP p && gH S i && !gS S i p b)))) = _
  by_cases g : ((gM S i && gP p) && (gM S i && gP p && decide (¬ ma S 4 i = p)) && (gM S i && gP p && gH S i && !gS S i p b)) = true
  · rw [if_pos g, gc0 g, g, if_neg (by decide)]
    have gg := g
    simp only [Bool.and_eq_true] at gg
    have g1 : 0 ≤ i ∧ i < mf S 3 := of_decide_eq_true gg.1.1.1
    have hS := h.thr 0
    generalize hS0 : setf S 45 0 = S0 at hS
    have e3 : mf S0 3 = mf S 3 := by rw [← hS0]; rfl
    have e4 : rI S i = rI S0 i := by rw [← hS0]; rfl
    have e5 : rL S i = rL S0 i := by rw [← hS0]; rfl
    have e6 : rD S i = rD S0 i := by rw [← hS0]; rfl
    rw [e4]
    have hi' : i < mf S0 3 := by omega
    have hnv := hS.2.2.2 i g1.1 hi'
    have hto := toOf_r hS.1 g1.1 hi'
    have ok0 := OKR_next hS.1 g1.1 hi'
    have g2 : 0 ≤ p ∧ p ≤ 4 := of_decide_eq_true gg.1.1.2
    have s17 := ok0.2.2.2.2.2.2.2.2.1
    have s18 := ok0.2.2.2.2.2.2.2.2.2.1
    have r17 := set_r s17.1 s17.2 g2.1 (by omega)
    have r18 := set_r s18.1 s18.2 g2.1 (by omega)
    have ok2 : OKR (t + 1) (rInv S0 i p b) (rD S0 i) := by
      unfold rInv
      cases b
      · exact OKR_upd (OKR_upd ok0 (by omega) (by omega) (by omega) (by omega) (by omega) (by omega) (fun _ => r17.2) (by omega) (by omega) (by omega)) (by omega) (by omega) (by omega) (by omega) (by omega) (by omega) (by omega) (fun _ => r18.1) (by omega) (by omega)
      · exact OKR_upd (OKR_upd ok0 (by omega) (by omega) (by omega) (by omega) (by omega) (by omega) (fun _ => r17.1) (by omega) (by omega) (by omega)) (by omega) (by omega) (by omega) (by omega) (by omega) (by omega) (by omega) (fun _ => r18.2) (by omega) (by omega)
    rw [pb_ok (e_next hS.1 g1.1 hi'), XV_next, nb]
    cases b
    · rw [if_neg (by decide), pb_assoc, gr17 hto.1 (by omega), ma_XV (by omega), pb_pp, show I (rI S0 i 17) &&& (((1 : Int32) <<< (I p &&& 31)) ^^^ (-1)) = I (anb (rI S0 i 17) p) from I_anb _ _, gw17 hto.1 (by omega) (by omega) (by omega), seta_XV (by omega)]
      rw [if_neg (by decide), pb_assoc, gr18 hto.1 (by omega), ma_XV (by omega), pb_pp, show I (updi (rI S0 i) 17 (anb (rI S0 i 17) p) 18) ||| ((1 : Int32) <<< (I p &&& 31)) = I (orb (rI S0 i 18) p) from I_orb _ _, gw18 hto.1 (by omega) (by omega) (by omega), seta_XV (by omega)]
      exact e_holdsX (rl := rL S0 i) hS.1 hS.2.1 hS.2.2.1 g1.1 hi' hnv ok2
    · rw [if_pos rfl, pb_assoc, gr17 hto.1 (by omega), ma_XV (by omega), pb_pp, show I (rI S0 i 17) ||| ((1 : Int32) <<< (I p &&& 31)) = I (orb (rI S0 i 17) p) from I_orb _ _, gw17 hto.1 (by omega) (by omega) (by omega), seta_XV (by omega)]
      rw [if_pos rfl, pb_assoc, gr18 hto.1 (by omega), ma_XV (by omega), pb_pp, show I (updi (rI S0 i) 17 (orb (rI S0 i 17) p) 18) &&& (((1 : Int32) <<< (I p &&& 31)) ^^^ (-1)) = I (anb (rI S0 i 18) p) from I_anb _ _, gw18 hto.1 (by omega) (by omega) (by omega), seta_XV (by omega)]
      exact e_holdsX (rl := rL S0 i) hS.1 hS.2.1 hS.2.2.1 g1.1 hi' hnv ok2
  · have g' : ((gM S i && gP p) && (gM S i && gP p && decide (¬ ma S 4 i = p)) && (gM S i && gP p && gH S i && !gS S i p b)) = false := Bool.eq_false_iff.mpr g
    rw [if_neg g, g', if_pos (by decide)]
    rfl
