/-! messages: delegates, proposals, delivery -/
theorem rep_f (S : MS) (p i d w : Int) (J : Nat) : mf (sRep S p i d w) J = if J = 30 then mf S 30 + 1 else if J = 29 then mf S 29 + 1 else mf S J := by
  unfold sRep
  rw [sMarks_f]; rfl
theorem rep_a (S : MS) (p i d w : Int) (J : Nat) (y : Int) (hJ : J < 26) : ma (sRep S p i d w) J y = ma S J y := by
  unfold sRep
  rw [sMarks_9 _ _ _ _ (by omega) (by omega) (by omega)]
  unfold sRep1
  simp only [ma_setf, ml_setf, mf_setf, ma_seta, ml_seta, mf_seta, ma_setl, ml_setl, mf_setl]
  rw [if_neg (by omega), if_neg (by omega), if_neg (by omega), if_neg (by omega), sAdds_ma (by omega)]
theorem wr_other {t k o : Int} {S : MS} (h : WR t S) (h0 : 0 ≤ o) (h1 : o < 5) : WR t (seta S 40 k o) := by
  refine ⟨?_, fun z g0 g1 => ?_, fun j g0 g1 => ?_, fun v g0 g1 => ?_, fun v g0 g1 d g2 g3 => ?_, fun q j g0 g1 g2 g3 => ?_, fun q g0 g1 => ?_, fun k g0 g1 => ?_⟩
  · exact h.nn
  · have := h.zn g0 g1; simp [ma_setf, ml_setf, mf_setf, ma_seta, ml_seta, mf_seta, ma_setl, ml_setl, mf_setl]; omega
  · have := h.mt g0 g1; simp [ma_setf, ml_setf, mf_setf, ma_seta, ml_seta, mf_seta, ma_setl, ml_setl, mf_setl]; omega
  · have := h.vs g0 g1; simp [ma_setf, ml_setf, mf_setf, ma_seta, ml_seta, mf_seta, ma_setl, ml_setl, mf_setl]; exact this
  · have := h.dl g0 g1 g2 g3; simp [ma_setf, ml_setf, mf_setf, ma_seta, ml_seta, mf_seta, ma_setl, ml_setl, mf_setl]; exact this
  · have := h.cp g0 g1 g2 g3; simp [ma_setf, ml_setf, mf_setf, ma_seta, ml_seta, mf_seta, ma_setl, ml_setl, mf_setl]; exact this
  · have := h.ps g0 g1; simp [ma_setf, ml_setf, mf_setf, ma_seta, ml_seta, mf_seta, ma_setl, ml_setl, mf_setl]; omega
  · have := h.ms g0 g1; simp [ma_setf, ml_setf, mf_setf, ma_seta, ml_seta, mf_seta, ma_setl, ml_setl, mf_setl]; split <;> omega
def gO (S : MS) (p i o : Int) : Bool := decide (¬ o = p) && decide (¬ o = ma S 4 i)
theorem e_delegate {t p i o : Int} {S : MS} (h : WR t S) (ht : t + 1 ≤ 600) (hf : FRV S) (hr : mf S 30 ≤ mf S 29) (a0 : -2147483648 ≤ p) (a1 : p < 2147483648) (a2 : -2147483648 ≤ i) (a3 : i < 2147483648) (a4 : -2147483648 ≤ o) (a5 : o < 2147483648) :
    P_X7_delegate (I p) (I i) (I o) S = if (gP p && gM S i && gP o && (gP p && gM S i && gP o && gO S p i o) && (gP p && gM S i && gP o && gHC S p i && decide (mf S 29 + 2 ≤ 150))) = true then some (I (mf S 29), sDel (setf S 45 0) p i o) else some (I 0, setf S 45 (gc (gP p && gM S i && gP o) (gP p && gM S i && gP o && gO S p i o) (gP p && gM S i && gP o && gHC S p i && decide (mf S 29 + 2 ≤ 150)))) := by
  have hn := h.nn
  unfold P_X7_delegate
  have e4 : decide (0 ≤ o ∧ o ≤ 4) = gP o := rfl
  rw [e_isPerson a0 a1, pb_pp, nb, pb_ok (if_and1 (fun _ => mb h a2 a3)), e_isPerson a4 a5, pb_pp, nb, e4, ifp, pb_pp, d_ne a4 a5 a0 a1, ifp, pb_pp]
  rw [show (decide (0 ≤ p ∧ p ≤ 4) && gM S i) = (gP p && gM S i) from rfl]
  have hb : (gP p && gM S i && gP o) = true → (0 ≤ p ∧ p ≤ 4) ∧ (0 ≤ i ∧ i < mf S 3) ∧ (0 ≤ o ∧ o ≤ 4) := fun q => by
    simp only [Bool.and_eq_true] at q
    exact ⟨of_decide_eq_true q.1.1, of_decide_eq_true q.1.2, of_decide_eq_true q.2⟩
  rw [pb_ok (if_and1 (b := decide (¬ o = ma S 4 i)) (fun q => by
    rw [Bool.and_eq_true] at q
    have q := hb q.1
    have hm := h.mt q.2.1.1 q.2.1.2
    rw [gr4 q.2.1.1 (by omega), pp_ap, d_ne (by omega) (by omega) (by omega) (by omega)]))]
  rw [pb_ok (if_and1 (b := gHC S p i) (fun q => by
    have q := hb q
    rw [pb_ok (e_hasCopy h q.1.1 (by omega) q.2.1.1 q.2.1.2), nb]; rfl))]
  rw [pb_ok (if_and1 (b := decide (mf S 29 + 2 ≤ 150)) (fun q => by rw [r_gi, pp_ap, gl2, gl150, I_add, d_le (by omega) (by omega) (by omega) (by omega)]))]
  rw [pb_ok (e_goes _ _ _ _)]
  rw [show (gP p && gM S i && gP o && decide (¬ o = p) && decide (¬ o = ma S 4 i)) = (gP p && gM S i && gP o && gO S p i o) from by unfold gO; rw [Bool.and_assoc (gP p && gM S i && gP o)]]
  generalize hG : (gP p && gM S i && gP o && gHC S p i && decide (mf S 29 + 2 ≤ 150)) = G
  rw [nb]
  by_cases g : (gP p && gM S i && gP o && (gP p && gM S i && gP o && gO S p i o) && G) = true
  · rw [if_pos g, gc0 g, g, if_neg (by decide)]
    have g' := g
    rw [Bool.and_eq_true, Bool.and_eq_true, ← hG] at g'
    have q := hb g'.1.1
    have q2 := g'.2
    simp only [Bool.and_eq_true] at q2
    have q3 := hasCopy_c h q.1.1 (by omega) q.2.1.1 q.2.1.2 q2.1.2
    have q4 : mf S 29 + 2 ≤ 150 := of_decide_eq_true q2.2
    have hF : FRV (setf S 45 0) := hf
    have hR : mf (setf S 45 0) 30 ≤ mf (setf S 45 0) 29 := hr
    have q25 : ma (setf S 45 0) 25 (8 * p + i) = ma S 25 (8 * p + i) := rfl
    have k3 : mf (setf S 45 0) 3 = mf S 3 := rfl
    have k7 : mf (setf S 45 0) 7 = mf S 7 := rfl
    have k29 : mf (setf S 45 0) 29 = mf S 29 := rfl
    have hW := wr_thr 0 h
    rw [← k29]
    generalize setf S 45 0 = S0 at hF hR q25 k3 k7 k29 hW ⊢
    have hw1 := wr_rep1 (p := p) (i := i) (d := -1) (w := 4) hW hF hR (by omega) (by omega) (by omega) (by omega) (by omega) (by omega) (by omega) (by omega) (by omega) (by omega)
    have hw2 : WR (t + 1) (sRep S0 p i (-1) 4) := wr_marks hw1 ht (by omega) (by omega) (by omega) (show i < mf (sRep1 S0 p i (-1) 4) 3 from k3 ▸ q.2.1.2)
    have hw3 := wr_other (k := mf S0 29) (o := o) hw2 (by omega) (by omega)
    rw [glm1, gl4, pb_ok (e_replies hW ht hF hR (by omega) q.1.1 (by omega) q.2.1.1 (by omega) (by omega) (by omega) (by omega) (by omega) (by omega)), gw40 (by omega) (by omega) (by omega) (by omega), e_at, pb_pp, gr25 (by omega) (by omega)]
    have e25 : ma (seta (sRep S0 p i (-1) 4) 40 (mf S0 29) o) 25 (8 * p + i) = ma S0 25 (8 * p + i) := by
      rw [ma_seta, if_neg (by omega), rep_a _ _ _ _ _ _ _ (by decide)]
    rw [e25]
    have f3 : mf (seta (sRep S0 p i (-1) 4) 40 (mf S0 29) o) 3 = mf S0 3 := by rw [mf_seta, rep_f]; rfl
    have f7 : mf (seta (sRep S0 p i (-1) 4) 40 (mf S0 29) o) 7 = mf S0 7 := by rw [mf_seta, rep_f]; rfl
    have f29 : mf (seta (sRep S0 p i (-1) 4) 40 (mf S0 29) o) 29 = mf S0 29 + 1 := by rw [mf_seta, rep_f]; rfl
    rw [pb_ok (e_requests hw3 (by omega) (by omega) (by omega) (by omega) (by omega) (by omega) (by omega) (by omega) (by omega)), pp_ap]
    rfl
  · have g' := Bool.eq_false_iff.mpr g
    rw [if_neg g, g', if_pos (by decide)]
    rfl
def sProp (S : MS) (p i d c : Int) : MS := seta (seta (seta (sAdds S 2 p (ma S 4 i) i) 36 (mf S 29) (ma S 9 (ma S 25 (8 * p + i)))) 37 (mf S 29) d) 41 (mf S 29) c
theorem e_propose {t p i d c : Int} {S : MS} (h : WR t S) (a0 : -2147483648 ≤ p) (a1 : p < 2147483648) (a2 : -2147483648 ≤ i) (a3 : i < 2147483648) (a4 : -2147483648 ≤ d) (a5 : d < 2147483648) (a6 : -2147483648 ≤ c) (a7 : c < 2147483648) :
    P_X7_propose (I p) (I i) (I d) (I c) S = if (gP p && gM S i && (gD d && gC c) && (gP p && gM S i && (gD d && gC c) && gHC S p i && gCD S p i d && decide (mf S 29 < 150))) = true then some (I (mf S 29), sProp (setf S 45 0) p i d c) else some (I 0, setf S 45 (gc (gP p && gM S i) (gD d && gC c) (gP p && gM S i && (gD d && gC c) && gHC S p i && gCD S p i d && decide (mf S 29 < 150)))) := by
  have hn := h.nn
  unfold P_X7_propose
  rw [e_isPerson a0 a1, pb_pp, nb, pb_ok (if_and1 (fun _ => mb h a2 a3)), e_isDay a4 a5, pb_pp, nb, e_isClock a6 a7, pb_pp, nb, ifp, pb_pp]
  rw [show (decide (0 ≤ p ∧ p ≤ 4) && gM S i) = (gP p && gM S i) from rfl, show (decide (0 ≤ d ∧ d ≤ 59) && decide (0 ≤ c ∧ c ≤ 1439)) = (gD d && gC c) from rfl, ifp, pb_pp]
  have hb : (gP p && gM S i && (gD d && gC c)) = true → (0 ≤ p ∧ p ≤ 4) ∧ (0 ≤ i ∧ i < mf S 3) ∧ (0 ≤ d ∧ d ≤ 59) ∧ (0 ≤ c ∧ c ≤ 1439) := fun q => by
    simp only [Bool.and_eq_true] at q
    exact ⟨of_decide_eq_true q.1.1, of_decide_eq_true q.1.2, of_decide_eq_true q.2.1, of_decide_eq_true q.2.2⟩
  rw [pb_ok (if_and1 (b := gHC S p i) (fun q => by
    have q := hb q
    rw [pb_ok (e_hasCopy h q.1.1 (by omega) q.2.1.1 q.2.1.2), nb]; rfl))]
  rw [pb_ok (if_and1 (b := gCD S p i d) (fun q => by
    have q2 := q
    rw [Bool.and_eq_true] at q2
    have q3 := hb q2.1
    rw [pb_ok (e_hasDate h q3.1.1 (by omega) q3.2.1.1 q3.2.1.2 q2.2), nb]; rfl))]
  rw [pb_ok (if_and1 (b := decide (mf S 29 < 150)) (fun q => by rw [r_gi, pp_ap, gl150, d_lt (by omega) (by omega) (by omega) (by omega)]))]
  rw [pb_ok (e_goes _ _ _ _)]
  generalize hG : (gP p && gM S i && (gD d && gC c) && gHC S p i && gCD S p i d && decide (mf S 29 < 150)) = G
  rw [nb]
  by_cases g : (gP p && gM S i && (gD d && gC c) && G) = true
  · rw [if_pos g, gc0 g, g, if_neg (by decide)]
    have g' := g
    rw [Bool.and_eq_true, ← hG] at g'
    have q := hb g'.1
    have q2 := g'.2
    simp only [Bool.and_eq_true] at q2
    have q3 := hasCopy_c h q.1.1 (by omega) q.2.1.1 q.2.1.2 q2.1.1.2
    have q4 : mf S 29 < 150 := of_decide_eq_true q2.2
    have q25 : ma (setf S 45 0) 25 (8 * p + i) = ma S 25 (8 * p + i) := rfl
    have k3 : mf (setf S 45 0) 3 = mf S 3 := rfl
    have k7 : mf (setf S 45 0) 7 = mf S 7 := rfl
    have k29 : mf (setf S 45 0) 29 = mf S 29 := rfl
    have hW := wr_thr 0 h
    rw [← k29]
    generalize setf S 45 0 = S0 at q25 k3 k7 k29 hW ⊢
    have hm := hW.mt q.2.1.1 (by omega)
    have hv := hW.vs (v := ma S0 25 (8 * p + i)) (by omega) (by omega)
    rw [gl2, gr4 q.2.1.1 (by omega), pb_ok (e_adds (S := S0) (by omega) (by omega) (by omega) (by omega) q.1.1 (by omega) (by omega) (by omega) q.2.1.1 (by omega)), e_at, pb_pp, gr25 (by omega) (by omega), sAdds_ma (by decide), gr9 (by omega) (by omega), sAdds_ma (by decide), gw36 (by omega) (by omega) (by omega) (by omega), gw37 (by omega) (by omega) (by omega) (by omega), gw41 (by omega) (by omega) (by omega) (by omega), pp_ap]
    rfl
  · have g' := Bool.eq_false_iff.mpr g
    rw [if_neg g, g', if_pos (by decide)]
    rfl
/-- what holds of messages by their kind -/
def MQS (S : MS) : Prop := mf S 30 ≤ mf S 29 ∧ ∀ k, 0 ≤ k → k < mf S 29 → ma S 31 k = 2 → 0 ≤ ma S 37 k
def isOpenB (S : MS) (k : Int) : Bool := decide (ma S 31 k = 2) && decide (¬ ma S 42 k = 0) && !decide (¬ ma S 43 k = 0) && !decide (¬ ma S 19 (ma S 5 (ma S 34 k)) = 0) && hl (ml S 23 (ma S 5 (ma S 34 k))) (ma S 37 k) && decide (standOf S (ma S 5 (ma S 34 k)) (ma S 37 k) ≤ ma S 36 k)
theorem e_isOpen {t k : Int} {S : MS} (h : WR t S) (hq : MQS S) (h0 : 0 ≤ k) (h1 : k < mf S 29) : P_X7_isOpen (I k) S = some (b2i (isOpenB S k), S) := by
  have hn := h.nn
  have hk := h.ms h0 h1
  have hm := h.mt (i := ma S 34 k) (by omega) (by omega)
  have hv := h.vs hm.2.1.1 hm.2.1.2
  unfold P_X7_isOpen isOpenB
  rw [gr34 h0 (by omega), gr5 (by omega) (by omega), gr31 h0 (by omega), gl2, d_eq (by omega) (by omega) (by omega) (by omega)]
  rw [pb_ok (if_and1 (b := decide (¬ ma S 42 k = 0)) (fun _ => by rw [gr42 (by omega) (by omega), pp_ap, gl0, d_ne (by omega) (by omega) (by omega) (by omega)]))]
  rw [pb_ok (if_and1 (b := !decide (¬ ma S 43 k = 0)) (fun _ => by rw [gr43 (by omega) (by omega), pp_ap, gl0, d_ne (by omega) (by omega) (by omega) (by omega)]))]
  rw [pb_ok (if_and1 (b := !decide (¬ ma S 19 (ma S 5 (ma S 34 k)) = 0)) (fun _ => by rw [gr19 (by omega) (by omega), pp_ap, gl0, d_ne (by omega) (by omega) (by omega) (by omega)]))]
  rw [pb_ok (if_and1 (b := hl (ml S 23 (ma S 5 (ma S 34 k))) (ma S 37 k)) (fun _ => by rw [gr23 (by omega) (by omega), gr37 (by omega) (by omega), e_has, pb_pp, pp_ap, nb]))]
  rw [pb_ok (if_and1 (b := decide (standOf S (ma S 5 (ma S 34 k)) (ma S 37 k) ≤ ma S 36 k)) (fun q => by
    simp only [Bool.and_eq_true] at q
    have q2 := hq.2 k h0 h1 (of_decide_eq_true q.1.1.1.1)
    have hd := h.dl hm.2.1.1 hm.2.1.2 q2 (by omega)
    rw [gr37 (by omega) (by omega), pb_ok (e_stand h hm.2.1.1 hm.2.1.2 q2 (by omega)), gr36 (by omega) (by omega), pp_ap, d_le (by unfold standOf; omega) (by unfold standOf; omega) (by omega) (by omega)]))]
  rfl
def cntO (S : MS) (i : Int) : Nat → Int
  | 0 => 0
  | j + 1 => cntO S i j + (if (decide (ma S 34 j = i) && isOpenB S j) = true then 1 else 0)
def opens (S : MS) (i : Int) : Int := cntO S i (mf S 29).toNat
theorem cntO_r (S : MS) (i : Int) : ∀ j, 0 ≤ cntO S i j ∧ cntO S i j ≤ j := by
  intro j
  induction j with
  | zero => exact ⟨Int.le_refl _, Int.le_refl _⟩
  | succ j ih => unfold cntO; split <;> omega
theorem e_opens {t i : Int} {S : MS} (h : WR t S) (hq : MQS S) (h0 : -2147483648 ≤ i) (h1 : i < 2147483648) : P_X7_opens (I i) S = some (I (opens S i), S) := by
  have hn := h.nn
  unfold P_X7_opens opens
  refine Eq.trans (pb_ok (pl_run (fun j => (I (cntO S i j), I j)) (fun _ => S) (mf S 29).toNat 2000 (fun j hj => ?_) (fun j hj => ?_) ?_ (by omega))) ?_
  · rw [r_gi, pp_ap, d_lt (by omega) (by omega) (by omega) (by omega), decide_eq_true (by omega)]
  · have hk := h.ms (k := (j : Int)) (by omega) (by omega)
    try simp only
    rw [gr34 (by omega) (by omega), d_eq (by omega) (by omega) (by omega) (by omega), pb_ok (if_and1 (b := isOpenB S j) (fun _ => by rw [pb_ok (e_isOpen h hq (by omega) (by omega)), nb]; rfl))]
    have e : cntO S i (j + 1) = cntO S i j + (if (decide (ma S 34 j = i) && isOpenB S j) = true then 1 else 0) := rfl
    rw [e]
    by_cases g : (decide (ma S 34 (j : Int) = i) && isOpenB S j) = true
    · rw [if_pos g, if_pos g, pb_pp, pp_ap, gl1, I_add, I_add]; rfl
    · rw [if_neg g, if_neg g, pb_pp, pp_ap, gl0, gl1, I_add, I_add]; rfl
  · rw [r_gi, pp_ap, d_lt (by omega) (by omega) (by omega) (by omega), decide_eq_false (by omega)]
  · rfl
def gK (S : MS) (k : Int) : Bool := decide (0 ≤ k ∧ k < mf S 29)
theorem wr_set43 {t k : Int} {S : MS} (h : WR t S) : WR t (seta S 43 k 1) := by
  refine ⟨h.nn, fun z g0 g1 => ?_, fun j g0 g1 => ?_, fun v g0 g1 => ?_, fun v g0 g1 d g2 g3 => ?_, fun q j g0 g1 g2 g3 => ?_, fun q g0 g1 => ?_, fun k g0 g1 => ?_⟩
  · have := h.zn g0 g1; simp [ma_setf, ml_setf, mf_setf, ma_seta, ml_seta, mf_seta, ma_setl, ml_setl, mf_setl]; omega
  · have := h.mt g0 g1; simp [ma_setf, ml_setf, mf_setf, ma_seta, ml_seta, mf_seta, ma_setl, ml_setl, mf_setl]; omega
  · have := h.vs g0 g1; simp [ma_setf, ml_setf, mf_setf, ma_seta, ml_seta, mf_seta, ma_setl, ml_setl, mf_setl]; exact this
  · have := h.dl g0 g1 g2 g3; simp [ma_setf, ml_setf, mf_setf, ma_seta, ml_seta, mf_seta, ma_setl, ml_setl, mf_setl]; exact this
  · have := h.cp g0 g1 g2 g3; simp [ma_setf, ml_setf, mf_setf, ma_seta, ml_seta, mf_seta, ma_setl, ml_setl, mf_setl]; exact this
  · have := h.ps g0 g1; simp [ma_setf, ml_setf, mf_setf, ma_seta, ml_seta, mf_seta, ma_setl, ml_setl, mf_setl]; omega
  · have := h.ms g0 g1; simp [ma_setf, ml_setf, mf_setf, ma_seta, ml_seta, mf_seta, ma_setl, ml_setl, mf_setl]; split <;> omega
theorem wr_set42 {t k : Int} {S : MS} (h : WR t S) : WR t (seta S 42 k 1) := by
  refine ⟨h.nn, fun z g0 g1 => ?_, fun j g0 g1 => ?_, fun v g0 g1 => ?_, fun v g0 g1 d g2 g3 => ?_, fun q j g0 g1 g2 g3 => ?_, fun q g0 g1 => ?_, fun k g0 g1 => ?_⟩
  · have := h.zn g0 g1; simp [ma_setf, ml_setf, mf_setf, ma_seta, ml_seta, mf_seta, ma_setl, ml_setl, mf_setl]; omega
  · have := h.mt g0 g1; simp [ma_setf, ml_setf, mf_setf, ma_seta, ml_seta, mf_seta, ma_setl, ml_setl, mf_setl]; omega
  · have := h.vs g0 g1; simp [ma_setf, ml_setf, mf_setf, ma_seta, ml_seta, mf_seta, ma_setl, ml_setl, mf_setl]; exact this
  · have := h.dl g0 g1 g2 g3; simp [ma_setf, ml_setf, mf_setf, ma_seta, ml_seta, mf_seta, ma_setl, ml_setl, mf_setl]; exact this
  · have := h.cp g0 g1 g2 g3; simp [ma_setf, ml_setf, mf_setf, ma_seta, ml_seta, mf_seta, ma_setl, ml_setl, mf_setl]; exact this
  · have := h.ps g0 g1; simp [ma_setf, ml_setf, mf_setf, ma_seta, ml_seta, mf_seta, ma_setl, ml_setl, mf_setl]; omega
  · have := h.ms g0 g1; simp [ma_setf, ml_setf, mf_setf, ma_seta, ml_seta, mf_seta, ma_setl, ml_setl, mf_setl]; split <;> omega
theorem fr_set43 {k : Int} {S : MS} (hf : FRV S) (hk : k < mf S 29) : FRV (seta S 43 k 1) := by
  refine ⟨fun u g0 g1 => ?_, fun j g0 g1 => ?_, fun y g0 g1 => ?_⟩
  · have := hf.1 u g0 g1; simp [ma_setf, ml_setf, mf_setf, ma_seta, ml_seta, mf_seta, ma_setl, ml_setl, mf_setl]; exact this
  · have := hf.2.1 j g0 g1; simp [ma_setf, ml_setf, mf_setf, ma_seta, ml_seta, mf_seta, ma_setl, ml_setl, mf_setl]; exact this
  · have g0 : mf S 29 ≤ y := g0
    have := hf.2.2 y g0 g1; simp [ma_setf, ml_setf, mf_setf, ma_seta, ml_seta, mf_seta, ma_setl, ml_setl, mf_setl]; rw [if_neg (by omega)]; exact this
theorem mb2 {k : Int} {S : MS} {t : Int} (h : WR t S) (h0 : -2147483648 ≤ k) (h1 : k < 2147483648) : P_X7_isMessage (I k) S = some (b2i (gK S k), S) := e_isMessage h h0 h1
theorem kOpen {t k : Int} {S : MS} (h : WR t S) (hq : MQS S) (g : gK S k = true) : pb (P_X7_isOpen (I k)) (fun v => pp (decide (¬ v = 0))) S = some (isOpenB S k, S) := by
  have g := of_decide_eq_true g
  rw [pb_ok (e_isOpen h hq g.1 g.2), nb]; rfl
def sTake (S : MS) (k : Int) : MS := sMove (seta S 43 k 1) (ma S 34 k) (ma S 37 k) (ma S 41 k)
theorem e_take {t k : Int} {S : MS} (h : VOK t S) (hq : MQS S) (h0 : -2147483648 ≤ k) (h1 : k < 2147483648) :
    P_X7_take (I k) S = if (gK S k && (gK S k && isOpenB S k) && true) = true then some (I (rI S (ma S 34 k) 9), sTake (setf S 45 0) k) else some (I 0, setf S 45 (gc (gK S k) (gK S k && isOpenB S k) true)) := by
  unfold P_X7_take
  rw [pb_ok (mb2 h.1 h0 h1), nb, pb_ok (if_and1 (fun g => kOpen h.1 hq g)), pb_ok (e_goesL _ _ _), nb]
  by_cases g : (gK S k && (gK S k && isOpenB S k) && true) = true
  · rw [if_pos g, gc0 g, g, if_neg (by decide)]
    have g' := g
    simp only [Bool.and_eq_true] at g'
    have g1 : 0 ≤ k ∧ k < mf S 29 := of_decide_eq_true g'.1.1
    have g2 := g'.1.2.2
    unfold isOpenB at g2
    simp only [Bool.and_eq_true] at g2
    have g3 := of_decide_eq_true g2.1.1.1.1.1
    have hS := h.thr 0
    have hQ := hq.2 k g1.1 g1.2 g3
    have e34 : rI S (ma S 34 k) 9 = rI (seta (setf S 45 0) 43 k 1) (ma S 34 k) 9 := rfl
    rw [e34]
    have k3 : mf (setf S 45 0) 3 = mf S 3 := rfl
    have k29 : mf (setf S 45 0) 29 = mf S 29 := rfl
    have q34 : ma (setf S 45 0) 34 k = ma S 34 k := rfl
    have q37 : ma (setf S 45 0) 37 k = ma S 37 k := rfl
    rw [← q34]
    rw [← q37] at hQ
    generalize setf S 45 0 = S0 at hS k3 k29 q34 q37 hQ ⊢
    have hn := hS.1.nn
    have hk := hS.1.ms (k := k) g1.1 (by omega)
    have hV : VOK t (seta S0 43 k 1) := ⟨wr_set43 hS.1, hS.2.1, fr_set43 hS.2.2.1 (by omega), hS.2.2.2⟩
    rw [show (1 : Int32) = I 1 from gl1, gw43 g1.1 (by omega) (by omega), gr34 g1.1 (by omega), gr37 g1.1 (by omega), gr41 g1.1 (by omega)]
    exact e_moves (i := ma S0 34 k) (d := ma S0 37 k) (c := ma S0 41 k) hV (by omega) (show ma S0 34 k < mf S0 3 by omega) hQ (by omega) (by omega) (by omega)
  · have g' := Bool.eq_false_iff.mpr g
    rw [if_neg g, g', if_pos (by decide)]
    rfl
theorem e_refuse {t k : Int} {S : MS} (h : WR t S) (hq : MQS S) (h0 : -2147483648 ≤ k) (h1 : k < 2147483648) :
    P_X7_refuse (I k) S = if (gK S k && (gK S k && isOpenB S k) && true) = true then some (I (opens (seta (setf S 45 0) 43 k 1) (ma S 34 k)), seta (setf S 45 0) 43 k 1) else some (I 0, setf S 45 (gc (gK S k) (gK S k && isOpenB S k) true)) := by
  unfold P_X7_refuse
  rw [pb_ok (mb2 h h0 h1), nb, pb_ok (if_and1 (fun g => kOpen h hq g)), pb_ok (e_goesL _ _ _), nb]
  by_cases g : (gK S k && (gK S k && isOpenB S k) && true) = true
  · rw [if_pos g, gc0 g, g, if_neg (by decide)]
    have g' := g
    simp only [Bool.and_eq_true] at g'
    have g1 : 0 ≤ k ∧ k < mf S 29 := of_decide_eq_true g'.1.1
    have hn := h.nn
    have hk := h.ms (k := k) g1.1 (by omega)
    have hQ : MQS (seta (setf S 45 0) 43 k 1) := hq
    rw [show (1 : Int32) = I 1 from gl1, gw43 g1.1 (by omega) (by omega), gr34 g1.1 (by omega)]
    exact e_opens (i := ma S 34 k) (wr_set43 (wr_thr 0 h)) hQ (by omega) (by omega)
  · have g' := Bool.eq_false_iff.mpr g
    rw [if_neg g, g', if_pos (by decide)]
    rfl
