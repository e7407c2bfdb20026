/-! messages: new ones -/
def sAdds (S : MS) (w f r i : Int) : MS := setf (seta (seta (seta (seta (seta (seta S 31 (mf S 29) w) 32 (mf S 29) f) 33 (mf S 29) r) 34 (mf S 29) i) 35 (mf S 29) (-1)) 37 (mf S 29) (-1)) 29 (mf S 29 + 1)
theorem e_adds {w f r i : Int} {S : MS} (h0 : 0 ≤ mf S 29) (h1 : mf S 29 < 150) (a0 : 0 ≤ w) (a1 : w ≤ 2) (a2 : 0 ≤ f) (a3 : f < 5) (a4 : 0 ≤ r) (a5 : r < 5) (a6 : 0 ≤ i) (a7 : i < 8) : P_X7_adds (I w) (I f) (I r) (I i) S = some (I (mf S 29), sAdds S w f r i) := by
  unfold P_X7_adds sAdds
  rw [glm1, gl1]
  rw [r_gi, gw31 (by omega) (by omega) (by omega) (by omega)]
  simp only [r_gi, mf_seta]
  rw [gw32 (by omega) (by omega) (by omega) (by omega)]
  simp only [r_gi, mf_seta]
  rw [gw33 (by omega) (by omega) (by omega) (by omega)]
  simp only [r_gi, mf_seta]
  rw [gw34 (by omega) (by omega) (by omega) (by omega)]
  simp only [r_gi, mf_seta, I_neg]
  rw [gw35 (by omega) (by omega) (by omega) (by omega)]
  simp only [r_gi, mf_seta]
  rw [gw37 (by omega) (by omega) (by omega) (by omega)]
  simp only [r_gi, mf_seta, I_add]
  rw [w_si (by omega) (by omega)]
  simp only [r_gi, mf_seta, mf_setf, if_true, I_sub, pp_ap]
  rw [show mf S 29 + 1 - 1 = mf S 29 by omega]
def sReq (S : MS) (f r i v : Int) : MS := seta (seta (seta (sAdds S 0 f r i) 35 (mf S 29) v) 8 v 1) 36 (mf S 29) (ma S 9 v)
theorem e_requests {t f r i v : Int} {S : MS} (h : WR t S) (h1 : mf S 29 < 150) (a2 : 0 ≤ f) (a3 : f < 5) (a4 : 0 ≤ r) (a5 : r < 5) (a6 : 0 ≤ i) (a7 : i < mf S 3) (a8 : 0 ≤ v) (a9 : v < mf S 7) : P_X7_requests (I f) (I r) (I i) (I v) S = some ((), sReq S f r i v) := by
  have hn := h.nn
  have hv := h.vs a8 a9
  unfold P_X7_requests sReq
  rw [show (0 : Int32) = I 0 from gl0, show (1 : Int32) = I 1 from gl1, pb_ok (e_adds (S := S) (by omega) h1 (by omega) (by omega) a2 a3 a4 a5 a6 (by omega))]
  rw [gw35 (by omega) (by omega) (by omega) (by omega), gw8 (by omega) (by omega) (by omega), gr9 (by omega) (by omega)]
  have e9 : ma (seta (seta (sAdds S 0 f r i) 35 (mf S 29) v) 8 v 1) 9 v = ma S 9 v := by
    unfold sAdds
    simp only [ma_setf, ml_setf, mf_setf, ma_seta, ml_seta, mf_seta, ma_setl, ml_setl, mf_setl, Nat.reduceEqDiff, false_and, if_false]
  rw [e9, gw36 (by omega) (by omega) (by omega) (by omega)]
  rfl
theorem wr_req {t f r i v : Int} {S : MS} (h : WR t S) (hf : FRV S) (h1 : mf S 29 < 150) (a2 : 0 ≤ f) (a3 : f < 5) (a4 : 0 ≤ r) (a5 : r < 5) (a6 : 0 ≤ i) (a7 : i < mf S 3) (a8 : 0 ≤ v) (a9 : v < mf S 7) : WR t (sReq S f r i v) := by
  have hn := h.nn
  have hv := h.vs a8 a9
  have hfk := hf.2.2 (mf S 29) (by omega) (by omega)
  unfold sReq sAdds
  refine ⟨?_, fun z g0 g1 => ?_, fun j g0 g1 => ?_, fun v g0 g1 => ?_, fun v g0 g1 d g2 g3 => ?_, fun q j g0 g1 g2 g3 => ?_, fun q g0 g1 => ?_, fun k g0 g1 => ?_⟩
  · simp [ma_setf, ml_setf, mf_setf, ma_seta, ml_seta, mf_seta, ma_setl, ml_setl, mf_setl]; omega
  · have := h.zn g0 g1; simp [ma_setf, ml_setf, mf_setf, ma_seta, ml_seta, mf_seta, ma_setl, ml_setl, mf_setl]; omega
  · simp [ma_setf, ml_setf, mf_setf, ma_seta, ml_seta, mf_seta, ma_setl, ml_setl, mf_setl] at g1 ⊢
    have := h.mt g0 g1; omega
  · simp [ma_setf, ml_setf, mf_setf, ma_seta, ml_seta, mf_seta, ma_setl, ml_setl, mf_setl] at g1 ⊢
    have := h.vs g0 g1
    split <;> omega
  · simp [ma_setf, ml_setf, mf_setf, ma_seta, ml_seta, mf_seta, ma_setl, ml_setl, mf_setl] at g1 ⊢
    exact h.dl g0 g1 g2 g3
  · simp [ma_setf, ml_setf, mf_setf, ma_seta, ml_seta, mf_seta, ma_setl, ml_setl, mf_setl]
    exact h.cp g0 g1 g2 g3
  · have := h.ps g0 g1; simp [ma_setf, ml_setf, mf_setf, ma_seta, ml_seta, mf_seta, ma_setl, ml_setl, mf_setl]; omega
  · simp [ma_setf, ml_setf, mf_setf, ma_seta, ml_seta, mf_seta, ma_setl, ml_setl, mf_setl] at g1 ⊢
    by_cases e : k = mf S 29
    · simp only [e, if_true]; omega
    · have := h.ms g0 (show k < mf S 29 by omega)
      simp only [e, if_false]; exact this
theorem fr_req {f r i v : Int} {S : MS} (hf : FRV S) (a8 : 0 ≤ v) (a9 : v < mf S 7) : FRV (sReq S f r i v) := by
  unfold sReq sAdds
  refine ⟨fun u g0 g1 => ?_, fun j g0 g1 => ?_, fun k g0 g1 => ?_⟩
  · simp [ma_setf, ml_setf, mf_setf, ma_seta, ml_seta, mf_seta, ma_setl, ml_setl, mf_setl] at g0 ⊢
    rw [if_neg (by omega)]
    exact hf.1 u g0 g1
  · simp [ma_setf, ml_setf, mf_setf, ma_seta, ml_seta, mf_seta, ma_setl, ml_setl, mf_setl] at g0 ⊢
    exact hf.2.1 j g0 g1
  · simp [ma_setf, ml_setf, mf_setf, ma_seta, ml_seta, mf_seta, ma_setl, ml_setl, mf_setl] at g0 ⊢
    have := hf.2.2 k (by omega) g1
    rw [if_neg (by omega)]; exact this
/-- the row of requests of a sending -/
def sSendTo (S : MS) (i set : Int) : Nat → MS
  | 0 => S
  | j + 1 => if hb set j = true then sReq (sSendTo S i set j) (ma S 4 i) j i (ma S 5 i) else sSendTo S i set j
def cntB (set : Int) : Nat → Int
  | 0 => 0
  | j + 1 => cntB set j + (if hb set j = true then 1 else 0)
theorem cntB_r (set : Int) : ∀ j, 0 ≤ cntB set j ∧ cntB set j ≤ j := by
  intro j
  induction j with
  | zero => exact ⟨Int.le_refl _, Int.le_refl _⟩
  | succ j ih => unfold cntB; split <;> omega
theorem cntB_mono (set : Int) (j n : Nat) : cntB set j ≤ cntB set (j + n) := by
  induction n with
  | zero => exact Int.le_refl _
  | succ n ih =>
    show cntB set j ≤ cntB set (j + n) + (if hb set (j + n : Nat) = true then 1 else 0)
    split <;> omega
theorem sReq_ma {S : MS} {f r i v : Int} {K : Nat} {y : Int} (h : (9 ≤ K ∧ K ≤ 28) ∨ K < 8) : ma (sReq S f r i v) K y = ma S K y := by
  unfold sReq sAdds
  simp only [ma_setf, ml_setf, mf_setf, ma_seta, ml_seta, mf_seta, ma_setl, ml_setl, mf_setl]
  rw [if_neg (by omega), if_neg (by omega), if_neg (by omega), if_neg (by omega), if_neg (by omega), if_neg (by omega), if_neg (by omega), if_neg (by omega), if_neg (by omega)]
theorem sReq_mf {S : MS} {f r i v : Int} {K : Nat} : mf (sReq S f r i v) K = if K = 29 then mf S 29 + 1 else mf S K := rfl
theorem sSendTo_f {t i set : Int} {S : MS} (h : WR t S) (hf : FRV S) (hi : 0 ≤ i) (hi' : i < mf S 3) (hc : mf S 29 + cntB set 5 ≤ 150) : ∀ j : Nat, j ≤ 5 → WR t (sSendTo S i set j) ∧ FRV (sSendTo S i set j) ∧ mf (sSendTo S i set j) 29 = mf S 29 + cntB set j ∧ mf (sSendTo S i set j) 3 = mf S 3 ∧ mf (sSendTo S i set j) 7 = mf S 7 ∧ ma (sSendTo S i set j) 4 i = ma S 4 i ∧ ma (sSendTo S i set j) 5 i = ma S 5 i := by
  have hm := h.mt hi hi'
  intro j
  induction j with
  | zero => intro _; exact ⟨h, hf, (Int.add_zero _).symm, rfl, rfl, rfl, rfl⟩
  | succ j ih =>
    intro hj
    obtain ⟨q1, q2, q3, q4, q5, q6, q7⟩ := ih (by omega)
    have hcm := cntB_mono set (j + 1) (5 - (j + 1))
    rw [show j + 1 + (5 - (j + 1)) = 5 by omega] at hcm
    unfold sSendTo
    have e : cntB set (j + 1) = cntB set j + (if hb set j = true then 1 else 0) := rfl
    rw [e] at hcm ⊢
    by_cases g : hb set j = true
    · rw [if_pos g] at hcm ⊢
      rw [if_pos g]
      refine ⟨wr_req q1 q2 (by omega) (by omega) (by omega) (by omega) (by omega) hi (by omega) (by omega) (by omega), fr_req q2 (by omega) (by omega), ?_, ?_, ?_, ?_, ?_⟩
      · rw [sReq_mf, if_pos rfl, q3]; omega
      · rw [sReq_mf, if_neg (by decide), q4]
      · rw [sReq_mf, if_neg (by decide), q5]
      · rw [sReq_ma (by omega), q6]
      · rw [sReq_ma (by omega), q7]
    · rw [if_neg g, if_neg g]
      exact ⟨q1, q2, by omega, q4, q5, q6, q7⟩
theorem bit_v (x p : Int) : (I x >>> (I p &&& 31)) &&& (1 : Int32) = I (if hb x p = true then 1 else 0) := by
  by_cases g : hb x p = true
  · rw [if_pos g]; exact of_decide_eq_true g
  · rw [if_neg g]
    have := hb_d0 x p
    rw [Bool.eq_false_iff.mpr g] at this
    exact of_decide_eq_true this
theorem or_dec : ∀ x, x < 32 → ∀ y, y < 32 → 0 ≤ (I (x : Nat) ||| I (y : Nat)).toInt ∧ (I (x : Nat) ||| I (y : Nat)).toInt < 32 := by decide +kernel
def ori (x y : Int) : Int := (I x ||| I y).toInt
theorem I_or (x y : Int) : I x ||| I y = I (ori x y) := (I_toInt _).symm
theorem or_r {x y : Int} (h0 : 0 ≤ x) (h1 : x < 32) (h2 : 0 ≤ y) (h3 : y < 32) : 0 ≤ ori x y ∧ ori x y < 32 := by
  obtain ⟨a, rfl⟩ := Int.eq_ofNat_of_zero_le h0
  obtain ⟨b, rfl⟩ := Int.eq_ofNat_of_zero_le h2
  exact or_dec a (by omega) b (by omega)
def sendSet (S : MS) (i : Int) : Int := if gM S i = true then ori (ori (asked S i) (ma S 18 (ma S 5 i))) (ma S 6 i) else 0
def sSend (S : MS) (i : Int) : MS := seta (sSendTo S i (sendSet S i) 5) 6 i (sendSet S i)
theorem asked_r {t i : Int} {S : MS} (h : WR t S) (hi : 0 ≤ i) (hi' : i < mf S 3) : 0 ≤ asked S i ∧ asked S i < 32 := by
  have hm := h.mt hi hi'
  have hv := h.vs hm.2.1.1 hm.2.1.2
  exact askAll_r h hv.2.2.2.2.2.2.2.2.2.1.1 hv.2.2.2.2.2.2.2.2.2.1.2 5
theorem sendSet_r {t i : Int} {S : MS} (h : WR t S) : 0 ≤ sendSet S i ∧ sendSet S i < 32 := by
  unfold sendSet
  split
  next g =>
    have g1 : 0 ≤ i ∧ i < mf S 3 := of_decide_eq_true g
    have hm := h.mt g1.1 g1.2
    have hv := h.vs hm.2.1.1 hm.2.1.2
    have ha := asked_r h g1.1 g1.2
    have h1 := or_r ha.1 ha.2 hv.2.2.2.2.2.2.2.2.2.2.1.1 hv.2.2.2.2.2.2.2.2.2.2.1.2
    exact or_r h1.1 h1.2 hm.2.2.1 hm.2.2.2
  next => omega
theorem e_goesL (a b : Bool) (S : MS) : P_X7_goes (b2i a) (b2i b) (1 : Int32) S = some (b2i (a && b && true), setf S 45 (gc a b true)) := e_goes a b true S
theorem e_send {t i : Int} {S : MS} (h : WR t S) (hf : FRV S) (h0 : -2147483648 ≤ i) (h1 : i < 2147483648) :
    P_X7_send (I i) S = if (gM S i && decide (mf S 29 + cntB (sendSet S i) 5 ≤ 150) && true) = true then some (I (cntB (sendSet S i) 5), sSend (setf S 45 0) i) else some (I 0, setf S 45 (gc (gM S i) (decide (mf S 29 + cntB (sendSet S i) 5 ≤ 150)) true)) := by
  have hn := h.nn
  have hsr := sendSet_r (i := i) h
  unfold P_X7_send
  rw [pb_ok (e_isMeeting h h0 h1), nb]
  have e1 : (if decide (0 ≤ i ∧ i < mf S 3) = true then pb (P_X7_asked (I i)) (fun v13 => pb (pai 5 (I i)) (fun v12 => pb (pai 18 v12) (fun v14 => pb (pai 6 (I i)) (fun v19 => pp ((v13 ||| v14) ||| v19))))) else pp (0 : Int32)) S = some (I (sendSet S i), S) := by
    by_cases g : 0 ≤ i ∧ i < mf S 3
    · have hm := h.mt g.1 g.2
      rw [decide_eq_true g, if_pos rfl, pb_ok (e_asked h g.1 g.2), gr5 (by omega) (by omega), gr18 (by omega) (by omega), gr6 (by omega) (by omega), pp_ap, I_or, I_or]
      unfold sendSet gM
      rw [decide_eq_true g, if_pos rfl]
    · rw [decide_eq_false g, if_neg (by decide)]
      unfold sendSet gM
      rw [decide_eq_false g, if_neg (by decide)]; rfl
  rw [pb_ok e1]
  generalize hset : sendSet S i = set at hsr ⊢
  have hc := cntB_r set 5
  refine Eq.trans (pb_ok (pl_run (fun j => (I (cntB set j), I j)) (fun _ => S) 5 2000 (fun j hj => ?_) (fun j hj => ?_) ?_ (by omega))) ?_
  · rw [pp_ap, gl5, d_lt (by omega) (by omega) (by omega) (by omega), decide_eq_true (by omega)]
  · simp only
    rw [pp_ap, bit_v, gl1, I_add, I_add]; rfl
  · rw [pp_ap, gl5, d_lt (by omega) (by omega) (by omega) (by omega), decide_eq_false (by omega)]
  · simp only
    rw [r_gi, I_add, show decide (I (mf S 29 + cntB set 5) ≤ (150 : Int32)) = decide (mf S 29 + cntB set 5 ≤ 150) from by rw [gl150]; exact d_le (by omega) (by omega) (by omega) (by omega), pb_ok (e_goesL _ _ _)]
    show (if (!decide (¬ b2i (gM S i && decide (mf S 29 + cntB set 5 ≤ 150) && true) = 0)) = true then pp 0 else _) (setf S 45 (gc (gM S i) (decide (mf S 29 + cntB set 5 ≤ 150)) true)) = _
    by_cases g : (gM S i && decide (mf S 29 + cntB set 5 ≤ 150) && true) = true
    · rw [if_pos g, gc0 g, g, if_neg (by decide)]
      have gg := g
      simp only [Bool.and_eq_true] at gg
      have g1 : 0 ≤ i ∧ i < mf S 3 := of_decide_eq_true gg.1.1
      have g2 : mf S 29 + cntB set 5 ≤ 150 := of_decide_eq_true gg.1.2
      have hS := wr_thr 0 h
      have hF : FRV (setf S 45 0) := hf
      have e2 : sendSet (setf S 45 0) i = set := by
        rw [← hset]
        unfold sendSet
        rw [asked_ma (S := S) (S' := setf S 45 0) rfl rfl]
        rfl
      have q3 : mf (setf S 45 0) 3 = mf S 3 := rfl
      have q29 : mf (setf S 45 0) 29 = mf S 29 := rfl
      unfold sSend
      rw [e2]
      generalize setf S 45 0 = S0 at hS hF q3 q29 ⊢
      have hfo := sSendTo_f (set := set) hS hF g1.1 (by omega) (by omega)
      have hm := hS.mt g1.1 (by omega)
      refine Eq.trans (pb_ok (pl_run (fun j => I j) (fun j => sSendTo S0 i set j) 5 2000 (fun j hj => ?_) (fun j hj => ?_) ?_ (by omega))) ?_
      · rw [pp_ap, gl5, d_lt (by omega) (by omega) (by omega) (by omega), decide_eq_true (by omega)]
      · obtain ⟨w1, w2, w3, w4, w5, w6, w7⟩ := hfo j (by omega)
        have hm' := w1.mt g1.1 (by omega)
        have hcm := cntB_mono set (j + 1) (5 - (j + 1))
        rw [show j + 1 + (5 - (j + 1)) = 5 by omega] at hcm
        have e : cntB set (j + 1) = cntB set j + (if hb set j = true then 1 else 0) := rfl
        rw [e] at hcm
        have es : sSendTo S0 i set (j + 1) = if hb set j = true then sReq (sSendTo S0 i set j) (ma S0 4 i) j i (ma S0 5 i) else sSendTo S0 i set j := rfl
        rw [es]
        try simp only
        rw [hb_d]
        by_cases g : hb set j = true
        · rw [if_pos g] at hcm
          rw [g, if_pos rfl, if_pos rfl, pb_assoc, gr4 g1.1 (by omega), pb_assoc, gr5 g1.1 (by omega), pb_assoc, w6, w7, pb_ok (e_requests w1 (by omega) (by omega) (by omega) (by omega) (by omega) g1.1 (by omega) (by omega) (by omega)), pb_pp, pp_ap, gl1, I_add]
          rfl
        · rw [Bool.eq_false_iff.mpr g, if_neg (by decide), if_neg (by decide), pb_pp, pp_ap, gl1, I_add]
          rfl
      · rw [pp_ap, gl5, d_lt (by omega) (by omega) (by omega) (by omega), decide_eq_false (by omega)]
      · rw [gw6 g1.1 (by omega) (by omega) (by omega), pp_ap]
    · have g' := Bool.eq_false_iff.mpr g
      rw [if_neg g, g', if_pos (by decide)]
      rfl
